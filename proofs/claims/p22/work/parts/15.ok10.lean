section
set_option maxRecDepth 100000 in
set_option maxHeartbeats 4000000 in
theorem xo_203 : ∀ q ∈ xk_203, xok xmt xm_203 q.1 q.2 := xqw_ok (M := xm_203) (G := gx_RX12) gxo_RX12 rfl (hd := [(27, (28, 30, 254, 12, [])), (62, (28, 65, 254, 12, [])), (85, (17, 88, 12, 24, [(0, 0)])), (89, (28, 92, 244, 12, [])), (96, (28, 99, 238, 12, []))]) (by decide +kernel) (by
  refine xcns ?_ <| xcns ?_ <| xcns ?_ <| xcns ?_ <| xcns ?_ <| xnl
  · exact (⟨rfl, _, rfl, ⟨226, dX12_lawLine_27, xw_953, xw_951, xw_952⟩, _, rfl, rfl⟩)
  · exact (⟨rfl, _, rfl, ⟨226, dX12_lawLine_62, xw_953, xw_951, xw_952⟩, _, rfl, rfl⟩)
  · exact (⟨.int, false, 0, rfl, xr_putf dX12_lawLine_85 (show vwCl[12]? = some (RX12, TX12, 69) from rfl) (by decide) xin_X12 tyX12_ok nmX12 xw_1023 rfl (rfl : tyX12 24 = .int), fun h => (by cases h)⟩)
  · exact (⟨rfl, _, rfl, ⟨223, dX12_lawLine_89, xw_959, xw_957, xw_958⟩, _, rfl, rfl⟩)
  · exact (⟨rfl, _, rfl, ⟨264, dX12_lawLine_96, xw_1026, xw_1024, xw_1025⟩, _, rfl, rfl⟩)
)
theorem xmo_203 : xMok xmt xm_203 := ⟨xw_1027, xw_819, ⟨by decide, by decide, by decide +kernel⟩, by decide +kernel, rfl, xo_203⟩
set_option maxRecDepth 100000 in
set_option maxHeartbeats 4000000 in
theorem xo_204 : ∀ q ∈ xk_204, xok xmt xm_204 q.1 q.2 := xqw_ok (M := xm_204) (G := gx_RX12) gxo_RX12 rfl (hd := [(1, (28, 4, 205, 12, [])), (15, (0, 18, 1000, 0, [])), (33, (0, 36, 1000, 0, [])), (77, (0, 80, 1000, 0, [])), (93, (28, 96, 234, 12, [])), (98, (28, 101, 208, 12, [])), (109, (28, 112, 156, 12, [])), (114, (28, 117, 171, 12, [])), (117, (28, 120, 245, 12, [])), (122, (28, 125, 175, 12, []))]) (by decide +kernel) (by
  refine xcns ?_ <| xcns ?_ <| xcns ?_ <| xcns ?_ <| xcns ?_ <| xcns ?_ <| xcns ?_ <| xcns ?_ <| xcns ?_ <| xcns ?_ <| xnl
  · exact (⟨rfl, _, rfl, ⟨424, dX12_layBest_1, xw_1030, xw_1028, xw_1029⟩, _, rfl, rfl⟩)
  · exact (xr_sipush dX12_layBest_15 (by decide +kernel))
  · exact (xr_sipush dX12_layBest_33 (by decide +kernel))
  · exact (xr_sipush dX12_layBest_77 (by decide +kernel))
  · exact (⟨rfl, _, rfl, ⟨427, dX12_layBest_93, xw_864, xw_862, xw_863⟩, _, rfl, rfl⟩)
  · exact (⟨rfl, _, rfl, ⟨430, dX12_layBest_98, xw_867, xw_865, xw_866⟩, _, rfl, rfl⟩)
  · exact (⟨rfl, _, rfl, ⟨433, dX12_layBest_109, xw_876, xw_874, xw_875⟩, _, rfl, rfl⟩)
  · exact (⟨rfl, _, rfl, ⟨436, dX12_layBest_114, xw_988, xw_986, xw_987⟩, _, rfl, rfl⟩)
  · exact (⟨rfl, _, rfl, ⟨439, dX12_layBest_117, xw_1033, xw_1031, xw_1032⟩, _, rfl, rfl⟩)
  · exact (⟨rfl, _, rfl, ⟨443, dX12_layBest_122, xw_873, xw_871, xw_872⟩, _, rfl, rfl⟩)
)
theorem xmo_204 : xMok xmt xm_204 := ⟨xw_1034, xw_819, ⟨by decide, by decide, by decide +kernel⟩, by decide +kernel, rfl, xo_204⟩
set_option maxRecDepth 100000 in
set_option maxHeartbeats 4000000 in
theorem xo_205 : ∀ q ∈ xk_205, xok xmt xm_205 q.1 q.2 := xqw_ok (M := xm_205) (G := gx_RX12) gxo_RX12 rfl (hd := [(15, (28, 18, 189, 12, [])), (49, (28, 52, 162, 12, [])), (66, (28, 69, 233, 12, []))]) (by decide +kernel) (by
  refine xcns ?_ <| xcns ?_ <| xcns ?_ <| xnl
  · exact (⟨rfl, _, rfl, ⟨344, dX12_layDues_15, xw_861, xw_859, xw_860⟩, _, rfl, rfl⟩)
  · exact (⟨rfl, _, rfl, ⟨405, dX12_layDues_49, xw_920, xw_918, xw_919⟩, _, rfl, rfl⟩)
  · exact (⟨rfl, _, rfl, ⟨390, dX12_layDues_66, xw_924, xw_922, xw_923⟩, _, rfl, rfl⟩)
)
theorem xmo_205 : xMok xmt xm_205 := ⟨xw_1035, xw_819, ⟨by decide, by decide, by decide +kernel⟩, by decide +kernel, rfl, xo_205⟩
def xkp_206_0 : List (Nat × xOp) := [(0, (2, 1, 1, 0, [])), (1, (16, 4, 12, 29, [])), (4, (12, 7, 16, 1, [])), (7, (2, 8, 1, 0, [])), (8, (16, 11, 12, 30, [])), (11, (0, 13, 6, 0, [])), (13, (13, 16, 22, 5, [])), (16, (2, 17, 1, 0, [])), (17, (0, 18, 1, 0, [])), (18, (28, 21, 254, 12, [])), (21, (32, 22, 0, 0, [])), (22, (2, 23, 1, 0, [])), (23, (16, 26, 12, 30, [])), (26, (3, 27, 0, 1, [])), (27, (2, 28, 1, 0, [])), (28, (2, 29, 0, 1, [])), (29, (28, 32, 186, 12, [])), (32, (12, 35, 43, 0, [])), (35, (2, 36, 1, 0, [])), (36, (0, 37, 2, 0, [])), (37, (28, 40, 254, 12, [])), (40, (14, 70, 0, 0, [])), (43, (2, 44, 0, 1, [])), (44, (0, 45, 4, 0, [])), (45, (13, 48, 53, 0, [])), (48, (2, 49, 0, 1, [])), (49, (0, 50, 5, 0, [])), (50, (13, 53, 70, 1, [])), (53, (2, 54, 1, 0, [])), (54, (16, 57, 12, 24, [])), (57, (2, 58, 0, 1, [])), (58, (5, 59, 7, 0, [])), (59, (0, 60, 1, 0, [])), (60, (5, 61, 3, 0, [])), (61, (0, 62, 1, 0, [])), (62, (13, 65, 70, 1, [])), (65, (2, 66, 1, 0, [])), (66, (0, 67, 3, 0, [])), (67, (28, 70, 254, 12, [])), (70, (2, 71, 1, 0, [])), (71, (16, 74, 12, 31, [])), (74, (12, 77, 78, 0, [])), (77, (32, 78, 0, 0, [])), (78, (2, 79, 1, 0, [])), (79, (9, 80, 0, 0, [])), (80, (16, 83, 12, 24, [])), (83, (0, 84, 1, 0, [])), (84, (2, 85, 0, 1, [])), (85, (5, 86, 6, 0, [])), (86, (5, 87, 4, 0, [])), (87, (17, 90, 12, 24, [(0, 0)])), (90, (2, 91, 1, 0, [])), (91, (28, 94, 244, 12, [])), (94, (2, 95, 0, 1, [])), (95, (15, 0, 321, 0, [(0, 132), (1, 202), (2, 217), (3, 231), (4, 290), (5, 306)])), (132, (0, 133, 3, 0, [])), (133, (2, 134, 1, 0, [])), (134, (0, 135, 0, 0, [])), (135, (28, 138, 170, 12, [])), (138, (5, 139, 0, 0, [])), (139, (3, 140, 0, 2, [])), (140, (2, 141, 1, 0, [])), (141, (16, 144, 12, 4, [])), (144, (2, 145, 0, 2, [])), (145, (2, 146, 1, 0, [])), (146, (2, 147, 1, 0, [])), (147, (16, 150, 12, 4, [])), (150, (0, 151, 3, 0, [])), (151, (2, 152, 1, 0, [])), (152, (0, 153, 0, 0, [])), (153, (28, 156, 170, 12, [])), (156, (28, 159, 169, 12, [])), (159, (21, 160, 0, 0, [])), (160, (2, 161, 1, 0, [])), (161, (16, 164, 12, 5, [])), (164, (2, 165, 0, 2, [])), (165, (2, 166, 1, 0, [])), (166, (0, 167, 0, 0, [])), (167, (0, 169, 99, 0, [])), (169, (28, 172, 212, 12, [])), (172, (21, 173, 0, 0, [])), (173, (2, 174, 1, 0, [])), (174, (16, 177, 12, 6, [])), (177, (2, 178, 0, 2, [])), (178, (2, 179, 1, 0, [])), (179, (0, 180, 0, 0, [])), (180, (0, 183, 9999, 0, [])), (183, (28, 186, 212, 12, [])), (186, (21, 187, 0, 0, [])), (187, (2, 188, 1, 0, [])), (188, (0, 189, 0, 0, [])), (189, (2, 190, 1, 0, [])), (190, (0, 191, 0, 0, [])), (191, (28, 194, 170, 12, [])), (194, (0, 195, 1, 0, [])), (195, (5, 196, 0, 0, [])), (196, (28, 199, 221, 12, [])), (199, (14, 325, 0, 0, [])), (202, (2, 203, 1, 0, [])), (203, (0, 205, 6, 0, [])), (205, (2, 206, 1, 0, [])), (206, (0, 207, 1, 0, [])), (207, (28, 210, 170, 12, [])), (210, (5, 211, 0, 0, [])), (211, (28, 214, 249, 12, [])), (214, (14, 325, 0, 0, [])), (217, (2, 218, 1, 0, [])), (218, (0, 219, 4, 0, [])), (219, (2, 220, 1, 0, [])), (220, (0, 221, 2, 0, [])), (221, (28, 224, 170, 12, [])), (224, (5, 225, 0, 0, [])), (225, (28, 228, 248, 12, [])), (228, (14, 325, 0, 0, [])), (231, (2, 232, 1, 0, [])), (232, (0, 233, 3, 0, [])), (233, (28, 236, 170, 12, [])), (236, (3, 237, 0, 3, [])), (237, (2, 238, 1, 0, [])), (238, (16, 241, 12, 18, []))]
set_option maxRecDepth 100000 in
set_option maxHeartbeats 4000000 in
theorem xop_206_0 : ∀ q ∈ xkp_206_0, xok xmt xm_206 q.1 q.2 := xqw_ok (M := xm_206) (G := gx_RX12) gxo_RX12 rfl (hd := [(18, (28, 21, 254, 12, [])), (29, (28, 32, 186, 12, [])), (37, (28, 40, 254, 12, [])), (67, (28, 70, 254, 12, [])), (87, (17, 90, 12, 24, [(0, 0)])), (91, (28, 94, 244, 12, [])), (95, (15, 0, 321, 0, [(0, 132), (1, 202), (2, 217), (3, 231), (4, 290), (5, 306)])), (135, (28, 138, 170, 12, [])), (153, (28, 156, 170, 12, [])), (156, (28, 159, 169, 12, [])), (169, (28, 172, 212, 12, [])), (180, (0, 183, 9999, 0, [])), (183, (28, 186, 212, 12, [])), (191, (28, 194, 170, 12, [])), (196, (28, 199, 221, 12, [])), (207, (28, 210, 170, 12, [])), (211, (28, 214, 249, 12, [])), (221, (28, 224, 170, 12, [])), (225, (28, 228, 248, 12, [])), (233, (28, 236, 170, 12, []))]) (by decide +kernel) (by
  refine xcns ?_ <| xcns ?_ <| xcns ?_ <| xcns ?_ <| xcns ?_ <| xcns ?_ <| xcns ?_ <| xcns ?_ <| xcns ?_ <| xcns ?_ <| xcns ?_ <| xcns ?_ <| xcns ?_ <| xcns ?_ <| xcns ?_ <| xcns ?_ <| xcns ?_ <| xcns ?_ <| xcns ?_ <| xcns ?_ <| xnl
  · exact (⟨rfl, _, rfl, ⟨226, dX12_line_18, xw_953, xw_951, xw_952⟩, _, rfl, rfl⟩)
  · exact (⟨rfl, _, rfl, ⟨240, dX12_line_29, xw_1038, xw_1036, xw_1037⟩, _, rfl, rfl⟩)
  · exact (⟨rfl, _, rfl, ⟨226, dX12_line_37, xw_953, xw_951, xw_952⟩, _, rfl, rfl⟩)
  · exact (⟨rfl, _, rfl, ⟨226, dX12_line_67, xw_953, xw_951, xw_952⟩, _, rfl, rfl⟩)
  · exact (⟨.int, false, 0, rfl, xr_putf dX12_line_87 (show vwCl[12]? = some (RX12, TX12, 69) from rfl) (by decide) xin_X12 tyX12_ok nmX12 xw_1023 rfl (rfl : tyX12 24 = .int), fun h => (by cases h)⟩)
  · exact (⟨rfl, _, rfl, ⟨223, dX12_line_91, xw_959, xw_957, xw_958⟩, _, rfl, rfl⟩)
  · exact (xr_table dX12_line_95 (by decide) (by decide) (by decide))
  · exact (⟨rfl, _, rfl, ⟨233, dX12_line_135, xw_995, xw_993, xw_994⟩, _, rfl, rfl⟩)
  · exact (⟨rfl, _, rfl, ⟨233, dX12_line_153, xw_995, xw_993, xw_994⟩, _, rfl, rfl⟩)
  · exact (⟨rfl, _, rfl, ⟨246, dX12_line_156, xw_1041, xw_1039, xw_1040⟩, _, rfl, rfl⟩)
  · exact (⟨rfl, _, rfl, ⟨250, dX12_line_169, xw_1044, xw_1042, xw_1043⟩, _, rfl, rfl⟩)
  · exact (xr_sipush dX12_line_180 (by decide +kernel))
  · exact (⟨rfl, _, rfl, ⟨250, dX12_line_183, xw_1044, xw_1042, xw_1043⟩, _, rfl, rfl⟩)
  · exact (⟨rfl, _, rfl, ⟨233, dX12_line_191, xw_995, xw_993, xw_994⟩, _, rfl, rfl⟩)
  · exact (⟨rfl, _, rfl, ⟨254, dX12_line_196, xw_1047, xw_1045, xw_1046⟩, _, rfl, rfl⟩)
  · exact (⟨rfl, _, rfl, ⟨233, dX12_line_207, xw_995, xw_993, xw_994⟩, _, rfl, rfl⟩)
  · exact (⟨rfl, _, rfl, ⟨258, dX12_line_211, xw_1050, xw_1048, xw_1049⟩, _, rfl, rfl⟩)
  · exact (⟨rfl, _, rfl, ⟨233, dX12_line_221, xw_995, xw_993, xw_994⟩, _, rfl, rfl⟩)
  · exact (⟨rfl, _, rfl, ⟨261, dX12_line_225, xw_1053, xw_1051, xw_1052⟩, _, rfl, rfl⟩)
  · exact (⟨rfl, _, rfl, ⟨233, dX12_line_233, xw_995, xw_993, xw_994⟩, _, rfl, rfl⟩)
)
def xkp_206_1 : List (Nat × xOp) := [(241, (0, 242, 3, 0, [])), (242, (2, 243, 0, 3, [])), (243, (5, 244, 0, 0, [])), (244, (2, 245, 1, 0, [])), (245, (2, 246, 1, 0, [])), (246, (16, 249, 12, 18, [])), (249, (0, 250, 3, 0, [])), (250, (2, 251, 0, 3, [])), (251, (28, 254, 169, 12, [])), (254, (21, 255, 0, 0, [])), (255, (2, 256, 1, 0, [])), (256, (16, 259, 12, 19, [])), (259, (0, 260, 3, 0, [])), (260, (2, 261, 0, 3, [])), (261, (5, 262, 0, 0, [])), (262, (2, 263, 1, 0, [])), (263, (0, 264, 0, 0, [])), (264, (0, 267, 999, 0, [])), (267, (28, 270, 212, 12, [])), (270, (21, 271, 0, 0, [])), (271, (2, 272, 1, 0, [])), (272, (0, 274, 7, 0, [])), (274, (2, 275, 0, 3, [])), (275, (5, 276, 0, 0, [])), (276, (28, 279, 238, 12, [])), (279, (2, 280, 1, 0, [])), (280, (0, 281, 3, 0, [])), (281, (2, 282, 0, 3, [])), (282, (0, 283, 1, 0, [])), (283, (5, 284, 0, 0, [])), (284, (28, 287, 221, 12, [])), (287, (14, 325, 0, 0, [])), (290, (2, 291, 1, 0, [])), (291, (0, 292, 4, 0, [])), (292, (2, 293, 1, 0, [])), (293, (0, 294, 0, 0, [])), (294, (0, 297, 999, 0, [])), (297, (28, 300, 212, 12, [])), (300, (28, 303, 221, 12, [])), (303, (14, 325, 0, 0, [])), (306, (2, 307, 1, 0, [])), (307, (0, 308, 5, 0, [])), (308, (2, 309, 1, 0, [])), (309, (0, 310, 0, 0, [])), (310, (0, 312, 99999, 0, [])), (312, (28, 315, 212, 12, [])), (315, (28, 318, 221, 12, [])), (318, (14, 325, 0, 0, [])), (321, (2, 322, 1, 0, [])), (322, (28, 325, 203, 12, [])), (325, (2, 326, 1, 0, [])), (326, (16, 329, 12, 31, [])), (329, (12, 332, 333, 0, [])), (332, (32, 333, 0, 0, [])), (333, (2, 334, 1, 0, [])), (334, (0, 336, 59, 0, [])), (336, (28, 339, 191, 12, [])), (339, (12, 342, 350, 1, [])), (342, (2, 343, 1, 0, [])), (343, (0, 344, 1, 0, [])), (344, (28, 347, 254, 12, [])), (347, (14, 354, 0, 0, [])), (350, (2, 351, 1, 0, [])), (351, (28, 354, 244, 12, [])), (354, (2, 355, 1, 0, [])), (355, (9, 356, 0, 0, [])), (356, (16, 359, 12, 25, [])), (359, (0, 360, 1, 0, [])), (360, (5, 361, 0, 0, [])), (361, (17, 364, 12, 25, [(0, 0)])), (364, (32, 0, 0, 0, []))]
set_option maxRecDepth 100000 in
set_option maxHeartbeats 4000000 in
theorem xop_206_1 : ∀ q ∈ xkp_206_1, xok xmt xm_206 q.1 q.2 := xqw_ok (M := xm_206) (G := gx_RX12) gxo_RX12 rfl (hd := [(251, (28, 254, 169, 12, [])), (264, (0, 267, 999, 0, [])), (267, (28, 270, 212, 12, [])), (276, (28, 279, 238, 12, [])), (284, (28, 287, 221, 12, [])), (294, (0, 297, 999, 0, [])), (297, (28, 300, 212, 12, [])), (300, (28, 303, 221, 12, [])), (310, (0, 312, 99999, 0, [])), (312, (28, 315, 212, 12, [])), (315, (28, 318, 221, 12, [])), (322, (28, 325, 203, 12, [])), (336, (28, 339, 191, 12, [])), (344, (28, 347, 254, 12, [])), (351, (28, 354, 244, 12, [])), (361, (17, 364, 12, 25, [(0, 0)]))]) (by decide +kernel) (by
  refine xcns ?_ <| xcns ?_ <| xcns ?_ <| xcns ?_ <| xcns ?_ <| xcns ?_ <| xcns ?_ <| xcns ?_ <| xcns ?_ <| xcns ?_ <| xcns ?_ <| xcns ?_ <| xcns ?_ <| xcns ?_ <| xcns ?_ <| xcns ?_ <| xnl
  · exact (⟨rfl, _, rfl, ⟨246, dX12_line_251, xw_1041, xw_1039, xw_1040⟩, _, rfl, rfl⟩)
  · exact (xr_sipush dX12_line_264 (by decide +kernel))
  · exact (⟨rfl, _, rfl, ⟨250, dX12_line_267, xw_1044, xw_1042, xw_1043⟩, _, rfl, rfl⟩)
  · exact (⟨rfl, _, rfl, ⟨264, dX12_line_276, xw_1026, xw_1024, xw_1025⟩, _, rfl, rfl⟩)
  · exact (⟨rfl, _, rfl, ⟨254, dX12_line_284, xw_1047, xw_1045, xw_1046⟩, _, rfl, rfl⟩)
  · exact (xr_sipush dX12_line_294 (by decide +kernel))
  · exact (⟨rfl, _, rfl, ⟨250, dX12_line_297, xw_1044, xw_1042, xw_1043⟩, _, rfl, rfl⟩)
  · exact (⟨rfl, _, rfl, ⟨254, dX12_line_300, xw_1047, xw_1045, xw_1046⟩, _, rfl, rfl⟩)
  · exact (xr_ldc dX12_line_310 xw_1054)
  · exact (⟨rfl, _, rfl, ⟨250, dX12_line_312, xw_1044, xw_1042, xw_1043⟩, _, rfl, rfl⟩)
  · exact (⟨rfl, _, rfl, ⟨254, dX12_line_315, xw_1047, xw_1045, xw_1046⟩, _, rfl, rfl⟩)
  · exact (⟨rfl, _, rfl, ⟨267, dX12_line_322, xw_1057, xw_1055, xw_1056⟩, _, rfl, rfl⟩)
  · exact (⟨rfl, _, rfl, ⟨270, dX12_line_336, xw_1060, xw_1058, xw_1059⟩, _, rfl, rfl⟩)
  · exact (⟨rfl, _, rfl, ⟨226, dX12_line_344, xw_953, xw_951, xw_952⟩, _, rfl, rfl⟩)
  · exact (⟨rfl, _, rfl, ⟨223, dX12_line_351, xw_959, xw_957, xw_958⟩, _, rfl, rfl⟩)
  · exact (⟨.int, false, 0, rfl, xr_putf dX12_line_361 (show vwCl[12]? = some (RX12, TX12, 69) from rfl) (by decide) xin_X12 tyX12_ok nmX12 xw_1061 rfl (rfl : tyX12 25 = .int), fun h => (by cases h)⟩)
)
set_option maxRecDepth 1000000 in
theorem xoe_206 : xk_206 = xkp_206_0 ++ (xkp_206_1) := rfl
theorem xo_206 : ∀ q ∈ xk_206, xok xmt xm_206 q.1 q.2 := by
  rw [xoe_206]
  exact List.forall_mem_append.mpr ⟨xop_206_0, xop_206_1⟩
theorem xmo_206 : xMok xmt xm_206 := ⟨xw_1062, xw_819, ⟨by decide, by decide, by decide +kernel⟩, by decide +kernel, rfl, xo_206⟩
set_option maxRecDepth 100000 in
set_option maxHeartbeats 4000000 in
theorem xo_207 : ∀ q ∈ xk_207, xok xmt xm_207 q.1 q.2 := xqw_ok (M := xm_207) (G := gx_RX12) gxo_RX12 rfl (hd := [(3, (28, 6, 197, 12, [])), (27, (17, 30, 12, 0, [(0, 0)])), (40, (15, 0, 111, 0, [(0, 76), (1, 83), (2, 90), (3, 97), (4, 104)])), (113, (28, 116, 183, 12, []))]) (by decide +kernel) (by
  refine xcns ?_ <| xcns ?_ <| xcns ?_ <| xcns ?_ <| xnl
  · exact (⟨rfl, _, rfl, ⟨335, dX12_look_3, xw_910, xw_908, xw_909⟩, _, rfl, rfl⟩)
  · exact (⟨.int, false, 0, rfl, xr_putf dX12_look_27 (show vwCl[12]? = some (RX12, TX12, 69) from rfl) (by decide) xin_X12 tyX12_ok nmX12 xw_821 rfl (rfl : tyX12 0 = .int), fun h => (by cases h)⟩)
  · exact (xr_table dX12_look_40 (by decide) (by decide) (by decide))
  · exact (⟨rfl, _, rfl, ⟨338, dX12_look_113, xw_1002, xw_1000, xw_1001⟩, _, rfl, rfl⟩)
)
theorem xmo_207 : xMok xmt xm_207 := ⟨xw_1063, xw_819, ⟨by decide, by decide, by decide +kernel⟩, by decide +kernel, rfl, xo_207⟩
set_option maxRecDepth 100000 in
set_option maxHeartbeats 4000000 in
theorem xo_208 : ∀ q ∈ xk_208, xok xmt xm_208 q.1 q.2 := xqw_ok (M := xm_208) (G := gx_RX12) gxo_RX12 rfl (hd := [(37, (28, 40, 183, 12, []))]) (by decide +kernel) (by
  refine xcns ?_ <| xnl
  · exact (⟨rfl, _, rfl, ⟨338, dX12_mayBe_37, xw_1002, xw_1000, xw_1001⟩, _, rfl, rfl⟩)
)
theorem xmo_208 : xMok xmt xm_208 := ⟨xw_1064, xw_819, ⟨by decide, by decide, by decide +kernel⟩, by decide +kernel, rfl, xo_208⟩
set_option maxRecDepth 100000 in
set_option maxHeartbeats 4000000 in
theorem xo_209 : ∀ q ∈ xk_209, xok xmt xm_209 q.1 q.2 := xqw_ok (M := xm_209) (G := gx_RX12) gxo_RX12 rfl (hd := [(2, (17, 5, 12, 30, [(0, 0)])), (54, (17, 57, 12, 30, [(0, 0)]))]) (by decide +kernel) (by
  refine xcns ?_ <| xcns ?_ <| xnl
  · exact (⟨.int, false, 0, rfl, xr_putf dX12_name_2 (show vwCl[12]? = some (RX12, TX12, 69) from rfl) (by decide) xin_X12 tyX12_ok nmX12 xw_954 rfl (rfl : tyX12 30 = .int), fun h => (by cases h)⟩)
  · exact (⟨.int, false, 0, rfl, xr_putf dX12_name_54 (show vwCl[12]? = some (RX12, TX12, 69) from rfl) (by decide) xin_X12 tyX12_ok nmX12 xw_954 rfl (rfl : tyX12 30 = .int), fun h => (by cases h)⟩)
)
theorem xmo_209 : xMok xmt xm_209 := ⟨xw_1066, xw_819, ⟨by decide, by decide, by decide +kernel⟩, by decide +kernel, rfl, xo_209⟩
set_option maxRecDepth 100000 in
set_option maxHeartbeats 4000000 in
theorem xo_210 : ∀ q ∈ xk_210, xok xmt xm_210 q.1 q.2 := xqw_ok (M := xm_210) (G := gx_RX12) gxo_RX12 rfl (hd := [(2, (17, 5, 12, 0, [(0, 0)])), (6, (15, 0, 100, 0, [(0, 36), (1, 52), (2, 68), (3, 84)])), (48, (27, 51, 168, 0, [])), (64, (27, 67, 168, 0, [])), (80, (27, 83, 168, 0, [])), (96, (27, 99, 168, 0, []))]) (by decide +kernel) (by
  refine xcns ?_ <| xcns ?_ <| xcns ?_ <| xcns ?_ <| xcns ?_ <| xcns ?_ <| xnl
  · exact (⟨.int, false, 0, rfl, xr_putf dX12_named_2 (show vwCl[12]? = some (RX12, TX12, 69) from rfl) (by decide) xin_X12 tyX12_ok nmX12 xw_821 rfl (rfl : tyX12 0 = .int), fun h => (by cases h)⟩)
  · exact (xr_table dX12_named_6 (by decide) (by decide) (by decide))
  · exact (⟨rfl, _, rfl, ⟨229, dX12_named_48, xw_955, xw_956⟩⟩)
  · exact (⟨rfl, _, rfl, ⟨229, dX12_named_64, xw_955, xw_956⟩⟩)
  · exact (⟨rfl, _, rfl, ⟨229, dX12_named_80, xw_955, xw_956⟩⟩)
  · exact (⟨rfl, _, rfl, ⟨229, dX12_named_96, xw_955, xw_956⟩⟩)
)
theorem xmo_210 : xMok xmt xm_210 := ⟨xw_1067, xw_819, ⟨by decide, by decide, by decide +kernel⟩, by decide +kernel, rfl, xo_210⟩
set_option maxRecDepth 100000 in
set_option maxHeartbeats 4000000 in
theorem xo_211 : ∀ q ∈ xk_211, xok xmt xm_211 q.1 q.2 := xqw_ok (M := xm_211) (G := gx_RX12) gxo_RX12 rfl (hd := [(3, (28, 6, 198, 12, [])), (10, (28, 13, 200, 12, [])), (14, (28, 17, 173, 12, [])), (18, (28, 21, 211, 12, [])), (23, (0, 26, 260, 0, [])), (26, (28, 29, 219, 12, [])), (31, (28, 34, 237, 12, [])), (80, (0, 83, 256, 0, [])), (93, (28, 96, 200, 12, [])), (97, (28, 100, 173, 12, [])), (101, (28, 104, 237, 12, [])), (107, (28, 110, 219, 12, []))]) (by decide +kernel) (by
  refine xcns ?_ <| xcns ?_ <| xcns ?_ <| xcns ?_ <| xcns ?_ <| xcns ?_ <| xcns ?_ <| xcns ?_ <| xcns ?_ <| xcns ?_ <| xcns ?_ <| xcns ?_ <| xnl
  · exact (⟨rfl, _, rfl, ⟨279, dX12_negation_3, xw_884, xw_882, xw_883⟩, _, rfl, rfl⟩)
  · exact (⟨rfl, _, rfl, ⟨294, dX12_negation_10, xw_887, xw_885, xw_886⟩, _, rfl, rfl⟩)
  · exact (⟨rfl, _, rfl, ⟨237, dX12_negation_14, xw_890, xw_888, xw_889⟩, _, rfl, rfl⟩)
  · exact (⟨rfl, _, rfl, ⟨300, dX12_negation_18, xw_881, xw_879, xw_880⟩, _, rfl, rfl⟩)
  · exact (xr_sipush dX12_negation_23 (by decide +kernel))
  · exact (⟨rfl, _, rfl, ⟨297, dX12_negation_26, xw_893, xw_891, xw_892⟩, _, rfl, rfl⟩)
  · exact (⟨rfl, _, rfl, ⟨303, dX12_negation_31, xw_1070, xw_1068, xw_1069⟩, _, rfl, rfl⟩)
  · exact (xr_sipush dX12_negation_80 (by decide +kernel))
  · exact (⟨rfl, _, rfl, ⟨294, dX12_negation_93, xw_887, xw_885, xw_886⟩, _, rfl, rfl⟩)
  · exact (⟨rfl, _, rfl, ⟨237, dX12_negation_97, xw_890, xw_888, xw_889⟩, _, rfl, rfl⟩)
  · exact (⟨rfl, _, rfl, ⟨303, dX12_negation_101, xw_1070, xw_1068, xw_1069⟩, _, rfl, rfl⟩)
  · exact (⟨rfl, _, rfl, ⟨297, dX12_negation_107, xw_893, xw_891, xw_892⟩, _, rfl, rfl⟩)
)
theorem xmo_211 : xMok xmt xm_211 := ⟨xw_1071, xw_819, ⟨by decide, by decide, by decide +kernel⟩, by decide +kernel, rfl, xo_211⟩
set_option maxRecDepth 100000 in
set_option maxHeartbeats 4000000 in
theorem xo_212 : ∀ q ∈ xk_212, xok xmt xm_212 q.1 q.2 := xqw_ok (M := xm_212) (G := gx_RX12) gxo_RX12 rfl (hd := [(19, (28, 22, 254, 12, [])), (43, (28, 46, 254, 12, [])), (61, (28, 64, 244, 12, []))]) (by decide +kernel) (by
  refine xcns ?_ <| xcns ?_ <| xcns ?_ <| xnl
  · exact (⟨rfl, _, rfl, ⟨226, dX12_numeral_19, xw_953, xw_951, xw_952⟩, _, rfl, rfl⟩)
  · exact (⟨rfl, _, rfl, ⟨226, dX12_numeral_43, xw_953, xw_951, xw_952⟩, _, rfl, rfl⟩)
  · exact (⟨rfl, _, rfl, ⟨223, dX12_numeral_61, xw_959, xw_957, xw_958⟩, _, rfl, rfl⟩)
)
theorem xmo_212 : xMok xmt xm_212 := ⟨xw_1072, xw_819, ⟨by decide, by decide, by decide +kernel⟩, by decide +kernel, rfl, xo_212⟩
set_option maxRecDepth 100000 in
set_option maxHeartbeats 4000000 in
theorem xo_213 : ∀ q ∈ xk_213, xok xmt xm_213 q.1 q.2 := xqw_ok (M := xm_213) (G := gx_RX12) gxo_RX12 rfl (hd := [(2, (17, 5, 12, 0, [(0, 0)])), (7, (28, 10, 197, 12, [])), (25, (28, 28, 243, 12, [])), (98, (27, 101, 153, 0, []))]) (by decide +kernel) (by
  refine xcns ?_ <| xcns ?_ <| xcns ?_ <| xcns ?_ <| xnl
  · exact (⟨.int, false, 0, rfl, xr_putf dX12_odds_2 (show vwCl[12]? = some (RX12, TX12, 69) from rfl) (by decide) xin_X12 tyX12_ok nmX12 xw_821 rfl (rfl : tyX12 0 = .int), fun h => (by cases h)⟩)
  · exact (⟨rfl, _, rfl, ⟨335, dX12_odds_7, xw_910, xw_908, xw_909⟩, _, rfl, rfl⟩)
  · exact (⟨rfl, _, rfl, ⟨479, dX12_odds_25, xw_1075, xw_1073, xw_1074⟩, _, rfl, rfl⟩)
  · exact (⟨rfl, _, rfl, ⟨482, dX12_odds_98, xw_1076, xw_1077⟩⟩)
)
theorem xmo_213 : xMok xmt xm_213 := ⟨xw_1078, xw_819, ⟨by decide, by decide, by decide +kernel⟩, by decide +kernel, rfl, xo_213⟩
set_option maxRecDepth 100000 in
set_option maxHeartbeats 4000000 in
theorem xo_214 : ∀ q ∈ xk_214, xok xmt xm_214 q.1 q.2 := xqw_ok (M := xm_214) (G := gx_RX12) gxo_RX12 rfl (hd := [(35, (28, 38, 254, 12, [])), (42, (28, 45, 212, 12, []))]) (by decide +kernel) (by
  refine xcns ?_ <| xcns ?_ <| xnl
  · exact (⟨rfl, _, rfl, ⟨226, dX12_partLine_35, xw_953, xw_951, xw_952⟩, _, rfl, rfl⟩)
  · exact (⟨rfl, _, rfl, ⟨250, dX12_partLine_42, xw_1044, xw_1042, xw_1043⟩, _, rfl, rfl⟩)
)
theorem xmo_214 : xMok xmt xm_214 := ⟨xw_1079, xw_819, ⟨by decide, by decide, by decide +kernel⟩, by decide +kernel, rfl, xo_214⟩
end
section
set_option maxRecDepth 100000 in
set_option maxHeartbeats 4000000 in
theorem xo_215 : ∀ q ∈ xk_215, xok xmt xm_215 q.1 q.2 := xqw_ok (M := xm_215) (G := gx_RX12) gxo_RX12 rfl (hd := [(2, (17, 5, 12, 0, [(0, 0)])), (7, (28, 10, 194, 12, [])), (55, (70, 58, 0, 0, [])), (58, (70, 61, 1, 0, []))]) (by decide +kernel) (by
  refine xcns ?_ <| xcns ?_ <| xcns ?_ <| xcns ?_ <| xnl
  · exact (⟨.int, false, 0, rfl, xr_putf dX12_pay_2 (show vwCl[12]? = some (RX12, TX12, 69) from rfl) (by decide) xin_X12 tyX12_ok nmX12 xw_821 rfl (rfl : tyX12 0 = .int), fun h => (by cases h)⟩)
  · exact (⟨rfl, _, rfl, ⟨341, dX12_pay_7, xw_1082, xw_1080, xw_1081⟩, _, rfl, rfl⟩)
  · exact (fun x y => xr_mmin dX12_pay_55 xv_23 xv_1 xv_2 xv_3 x y)
  · exact (fun x y => xr_mmax dX12_pay_58 xv_24 xv_7 xv_2 xv_8 x y)
)
theorem xmo_215 : xMok xmt xm_215 := ⟨xw_1083, xw_819, ⟨by decide, by decide, by decide +kernel⟩, by decide +kernel, rfl, xo_215⟩
set_option maxRecDepth 100000 in
set_option maxHeartbeats 4000000 in
theorem xo_216 : ∀ q ∈ xk_216, xok xmt xm_216 q.1 q.2 := xqw_ok (M := xm_216) (G := gx_RX12) gxo_RX12 rfl (hd := [(2, (17, 5, 12, 0, [(0, 0)])), (8, (28, 11, 189, 12, []))]) (by decide +kernel) (by
  refine xcns ?_ <| xcns ?_ <| xnl
  · exact (⟨.int, false, 0, rfl, xr_putf dX12_pitch_2 (show vwCl[12]? = some (RX12, TX12, 69) from rfl) (by decide) xin_X12 tyX12_ok nmX12 xw_821 rfl (rfl : tyX12 0 = .int), fun h => (by cases h)⟩)
  · exact (⟨rfl, _, rfl, ⟨344, dX12_pitch_8, xw_861, xw_859, xw_860⟩, _, rfl, rfl⟩)
)
theorem xmo_216 : xMok xmt xm_216 := ⟨xw_1084, xw_819, ⟨by decide, by decide, by decide +kernel⟩, by decide +kernel, rfl, xo_216⟩
set_option maxRecDepth 100000 in
set_option maxHeartbeats 4000000 in
theorem xo_217 : ∀ q ∈ xk_217, xok xmt xm_217 q.1 q.2 := xqw_ok (M := xm_217) (G := gx_RX12) gxo_RX12 rfl (hd := [(11, (28, 14, 191, 12, [])), (28, (28, 31, 254, 12, [])), (46, (17, 49, 12, 35, [(0, 0)])), (50, (28, 53, 244, 12, [])), (54, (28, 57, 165, 12, [])), (67, (28, 70, 191, 12, [])), (75, (28, 78, 254, 12, [])), (93, (17, 96, 12, 35, [(0, 0)])), (97, (28, 100, 244, 12, [])), (123, (0, 126, 9999, 0, [])), (131, (28, 134, 254, 12, [])), (159, (28, 162, 254, 12, [])), (163, (28, 166, 200, 12, [])), (194, (28, 197, 219, 12, [])), (198, (28, 201, 173, 12, []))]) (by decide +kernel) (by
  refine xcns ?_ <| xcns ?_ <| xcns ?_ <| xcns ?_ <| xcns ?_ <| xcns ?_ <| xcns ?_ <| xcns ?_ <| xcns ?_ <| xcns ?_ <| xcns ?_ <| xcns ?_ <| xcns ?_ <| xcns ?_ <| xcns ?_ <| xnl
  · exact (⟨rfl, _, rfl, ⟨270, dX12_primary_11, xw_1060, xw_1058, xw_1059⟩, _, rfl, rfl⟩)
  · exact (⟨rfl, _, rfl, ⟨226, dX12_primary_28, xw_953, xw_951, xw_952⟩, _, rfl, rfl⟩)
  · exact (⟨.int, false, 0, rfl, xr_putf dX12_primary_46 (show vwCl[12]? = some (RX12, TX12, 69) from rfl) (by decide) xin_X12 tyX12_ok nmX12 xw_1085 rfl (rfl : tyX12 35 = .int), fun h => (by cases h)⟩)
  · exact (⟨rfl, _, rfl, ⟨223, dX12_primary_50, xw_959, xw_957, xw_958⟩, _, rfl, rfl⟩)
  · exact (⟨rfl, _, rfl, ⟨276, dX12_primary_54, xw_1088, xw_1086, xw_1087⟩, _, rfl, rfl⟩)
  · exact (⟨rfl, _, rfl, ⟨270, dX12_primary_67, xw_1060, xw_1058, xw_1059⟩, _, rfl, rfl⟩)
  · exact (⟨rfl, _, rfl, ⟨226, dX12_primary_75, xw_953, xw_951, xw_952⟩, _, rfl, rfl⟩)
  · exact (⟨.int, false, 0, rfl, xr_putf dX12_primary_93 (show vwCl[12]? = some (RX12, TX12, 69) from rfl) (by decide) xin_X12 tyX12_ok nmX12 xw_1085 rfl (rfl : tyX12 35 = .int), fun h => (by cases h)⟩)
  · exact (⟨rfl, _, rfl, ⟨223, dX12_primary_97, xw_959, xw_957, xw_958⟩, _, rfl, rfl⟩)
  · exact (xr_sipush dX12_primary_123 (by decide +kernel))
  · exact (⟨rfl, _, rfl, ⟨226, dX12_primary_131, xw_953, xw_951, xw_952⟩, _, rfl, rfl⟩)
  · exact (⟨rfl, _, rfl, ⟨226, dX12_primary_159, xw_953, xw_951, xw_952⟩, _, rfl, rfl⟩)
  · exact (⟨rfl, _, rfl, ⟨294, dX12_primary_163, xw_887, xw_885, xw_886⟩, _, rfl, rfl⟩)
  · exact (⟨rfl, _, rfl, ⟨297, dX12_primary_194, xw_893, xw_891, xw_892⟩, _, rfl, rfl⟩)
  · exact (⟨rfl, _, rfl, ⟨237, dX12_primary_198, xw_890, xw_888, xw_889⟩, _, rfl, rfl⟩)
)
theorem xmo_217 : xMok xmt xm_217 := ⟨xw_1089, xw_819, ⟨by decide, by decide, by decide +kernel⟩, by decide +kernel, rfl, xo_217⟩
set_option maxRecDepth 100000 in
set_option maxHeartbeats 4000000 in
theorem xo_218 : ∀ q ∈ xk_218, xok xmt xm_218 q.1 q.2 := xqw_ok (M := xm_218) (G := gx_RX12) gxo_RX12 rfl (hd := [(1, (28, 4, 217, 12, [])), (7, (28, 10, 191, 12, [])), (16, (28, 19, 191, 12, [])), (28, (28, 31, 200, 12, [])), (32, (28, 35, 173, 12, [])), (36, (28, 39, 217, 12, [])), (42, (28, 45, 219, 12, []))]) (by decide +kernel) (by
  refine xcns ?_ <| xcns ?_ <| xcns ?_ <| xcns ?_ <| xcns ?_ <| xcns ?_ <| xcns ?_ <| xnl
  · exact (⟨rfl, _, rfl, ⟨309, dX12_product_1, xw_1092, xw_1090, xw_1091⟩, _, rfl, rfl⟩)
  · exact (⟨rfl, _, rfl, ⟨270, dX12_product_7, xw_1060, xw_1058, xw_1059⟩, _, rfl, rfl⟩)
  · exact (⟨rfl, _, rfl, ⟨270, dX12_product_16, xw_1060, xw_1058, xw_1059⟩, _, rfl, rfl⟩)
  · exact (⟨rfl, _, rfl, ⟨294, dX12_product_28, xw_887, xw_885, xw_886⟩, _, rfl, rfl⟩)
  · exact (⟨rfl, _, rfl, ⟨237, dX12_product_32, xw_890, xw_888, xw_889⟩, _, rfl, rfl⟩)
  · exact (⟨rfl, _, rfl, ⟨309, dX12_product_36, xw_1092, xw_1090, xw_1091⟩, _, rfl, rfl⟩)
  · exact (⟨rfl, _, rfl, ⟨297, dX12_product_42, xw_893, xw_891, xw_892⟩, _, rfl, rfl⟩)
)
theorem xmo_218 : xMok xmt xm_218 := ⟨xw_1093, xw_819, ⟨by decide, by decide, by decide +kernel⟩, by decide +kernel, rfl, xo_218⟩
set_option maxRecDepth 100000 in
set_option maxHeartbeats 4000000 in
theorem xo_219 : ∀ q ∈ xk_219, xok xmt xm_219 q.1 q.2 := xqw_ok (M := xm_219) (G := gx_RX12) gxo_RX12 rfl (hd := [(17, (28, 20, 170, 12, [])), (32, (28, 35, 170, 12, [])), (44, (28, 47, 170, 12, [])), (49, (28, 52, 221, 12, []))]) (by decide +kernel) (by
  refine xcns ?_ <| xcns ?_ <| xcns ?_ <| xcns ?_ <| xnl
  · exact (⟨rfl, _, rfl, ⟨233, dX12_puts_17, xw_995, xw_993, xw_994⟩, _, rfl, rfl⟩)
  · exact (⟨rfl, _, rfl, ⟨233, dX12_puts_32, xw_995, xw_993, xw_994⟩, _, rfl, rfl⟩)
  · exact (⟨rfl, _, rfl, ⟨233, dX12_puts_44, xw_995, xw_993, xw_994⟩, _, rfl, rfl⟩)
  · exact (⟨rfl, _, rfl, ⟨254, dX12_puts_49, xw_1047, xw_1045, xw_1046⟩, _, rfl, rfl⟩)
)
theorem xmo_219 : xMok xmt xm_219 := ⟨xw_1094, xw_819, ⟨by decide, by decide, by decide +kernel⟩, by decide +kernel, rfl, xo_219⟩
set_option maxRecDepth 100000 in
set_option maxHeartbeats 4000000 in
theorem xo_220 : ∀ q ∈ xk_220, xok xmt xm_220 q.1 q.2 := xqw_ok (M := xm_220) (G := gx_RX12) gxo_RX12 rfl (hd := []) (by decide +kernel) (xnl)
theorem xmo_220 : xMok xmt xm_220 := ⟨xw_1095, xw_819, ⟨by decide, by decide, by decide +kernel⟩, by decide +kernel, rfl, xo_220⟩
set_option maxRecDepth 100000 in
set_option maxHeartbeats 4000000 in
theorem xo_221 : ∀ q ∈ xk_221, xok xmt xm_221 q.1 q.2 := xqw_ok (M := xm_221) (G := gx_RX12) gxo_RX12 rfl (hd := []) (by decide +kernel) (xnl)
theorem xmo_221 : xMok xmt xm_221 := ⟨xw_1096, xw_819, ⟨by decide, by decide, by decide +kernel⟩, by decide +kernel, rfl, xo_221⟩
set_option maxRecDepth 100000 in
set_option maxHeartbeats 4000000 in
theorem xo_222 : ∀ q ∈ xk_222, xok xmt xm_222 q.1 q.2 := xqw_ok (M := xm_222) (G := gx_RX12) gxo_RX12 rfl (hd := [(2, (17, 5, 12, 0, [(0, 0)])), (8, (28, 11, 189, 12, [])), (16, (28, 19, 197, 12, [])), (24, (28, 27, 183, 12, [])), (47, (28, 50, 230, 12, [])), (66, (28, 69, 162, 12, []))]) (by decide +kernel) (by
  refine xcns ?_ <| xcns ?_ <| xcns ?_ <| xcns ?_ <| xcns ?_ <| xcns ?_ <| xnl
  · exact (⟨.int, false, 0, rfl, xr_putf dX12_redeem_2 (show vwCl[12]? = some (RX12, TX12, 69) from rfl) (by decide) xin_X12 tyX12_ok nmX12 xw_821 rfl (rfl : tyX12 0 = .int), fun h => (by cases h)⟩)
  · exact (⟨rfl, _, rfl, ⟨344, dX12_redeem_8, xw_861, xw_859, xw_860⟩, _, rfl, rfl⟩)
  · exact (⟨rfl, _, rfl, ⟨335, dX12_redeem_16, xw_910, xw_908, xw_909⟩, _, rfl, rfl⟩)
  · exact (⟨rfl, _, rfl, ⟨338, dX12_redeem_24, xw_1002, xw_1000, xw_1001⟩, _, rfl, rfl⟩)
  · exact (⟨rfl, _, rfl, ⟨414, dX12_redeem_47, xw_1099, xw_1097, xw_1098⟩, _, rfl, rfl⟩)
  · exact (⟨rfl, _, rfl, ⟨405, dX12_redeem_66, xw_920, xw_918, xw_919⟩, _, rfl, rfl⟩)
)
theorem xmo_222 : xMok xmt xm_222 := ⟨xw_1100, xw_819, ⟨by decide, by decide, by decide +kernel⟩, by decide +kernel, rfl, xo_222⟩
set_option maxRecDepth 100000 in
set_option maxHeartbeats 4000000 in
theorem xo_223 : ∀ q ∈ xk_223, xok xmt xm_223 q.1 q.2 := xqw_ok (M := xm_223) (G := gx_RX12) gxo_RX12 rfl (hd := []) (by decide +kernel) (xnl)
theorem xmo_223 : xMok xmt xm_223 := ⟨xw_1101, xw_819, ⟨by decide, by decide, by decide +kernel⟩, by decide +kernel, rfl, xo_223⟩
set_option maxRecDepth 100000 in
set_option maxHeartbeats 4000000 in
theorem xo_224 : ∀ q ∈ xk_224, xok xmt xm_224 q.1 q.2 := xqw_ok (M := xm_224) (G := gx_RX12) gxo_RX12 rfl (hd := [(2, (17, 5, 12, 0, [(0, 0)])), (8, (28, 11, 189, 12, [])), (17, (27, 20, 190, 0, [])), (27, (17, 30, 12, 68, [(0, 0)])), (41, (28, 44, 225, 12, []))]) (by decide +kernel) (by
  refine xcns ?_ <| xcns ?_ <| xcns ?_ <| xcns ?_ <| xcns ?_ <| xnl
  · exact (⟨.int, false, 0, rfl, xr_putf dX12_round_2 (show vwCl[12]? = some (RX12, TX12, 69) from rfl) (by decide) xin_X12 tyX12_ok nmX12 xw_821 rfl (rfl : tyX12 0 = .int), fun h => (by cases h)⟩)
  · exact (⟨rfl, _, rfl, ⟨344, dX12_round_8, xw_861, xw_859, xw_860⟩, _, rfl, rfl⟩)
  · exact (⟨rfl, _, rfl, ⟨498, dX12_round_17, xw_933, xw_934⟩⟩)
  · exact (⟨.int, false, 0, rfl, xr_putf dX12_round_27 (show vwCl[12]? = some (RX12, TX12, 69) from rfl) (by decide) xin_X12 tyX12_ok nmX12 xw_935 rfl (rfl : tyX12 68 = .int), fun h => (by cases h)⟩)
  · exact (⟨rfl, _, rfl, ⟨494, dX12_round_41, xw_938, xw_936, xw_937⟩, _, rfl, rfl⟩)
)
theorem xmo_224 : xMok xmt xm_224 := ⟨xw_1102, xw_819, ⟨by decide, by decide, by decide +kernel⟩, by decide +kernel, rfl, xo_224⟩
set_option maxRecDepth 100000 in
set_option maxHeartbeats 4000000 in
theorem xo_225 : ∀ q ∈ xk_225, xok xmt xm_225 q.1 q.2 := xqw_ok (M := xm_225) (G := gx_RX12) gxo_RX12 rfl (hd := [(59, (28, 62, 193, 12, [])), (113, (17, 116, 12, 68, [(0, 0)])), (174, (28, 177, 183, 12, [])), (207, (28, 210, 225, 12, []))]) (by decide +kernel) (by
  refine xcns ?_ <| xcns ?_ <| xcns ?_ <| xcns ?_ <| xnl
  · exact (⟨rfl, _, rfl, ⟨381, dX12_rows_59, xw_832, xw_830, xw_831⟩, _, rfl, rfl⟩)
  · exact (⟨.int, false, 0, rfl, xr_putf dX12_rows_113 (show vwCl[12]? = some (RX12, TX12, 69) from rfl) (by decide) xin_X12 tyX12_ok nmX12 xw_935 rfl (rfl : tyX12 68 = .int), fun h => (by cases h)⟩)
  · exact (⟨rfl, _, rfl, ⟨338, dX12_rows_174, xw_1002, xw_1000, xw_1001⟩, _, rfl, rfl⟩)
  · exact (⟨rfl, _, rfl, ⟨494, dX12_rows_207, xw_938, xw_936, xw_937⟩, _, rfl, rfl⟩)
)
theorem xmo_225 : xMok xmt xm_225 := ⟨xw_1103, xw_819, ⟨by decide, by decide, by decide +kernel⟩, by decide +kernel, rfl, xo_225⟩
set_option maxRecDepth 100000 in
set_option maxHeartbeats 4000000 in
theorem xo_226 : ∀ q ∈ xk_226, xok xmt xm_226 q.1 q.2 := xqw_ok (M := xm_226) (G := gx_RX12) gxo_RX12 rfl (hd := [(2, (17, 5, 12, 0, [(0, 0)])), (7, (28, 10, 194, 12, [])), (20, (28, 23, 197, 12, [])), (41, (28, 44, 177, 12, []))]) (by decide +kernel) (by
  refine xcns ?_ <| xcns ?_ <| xcns ?_ <| xcns ?_ <| xnl
  · exact (⟨.int, false, 0, rfl, xr_putf dX12_run_2 (show vwCl[12]? = some (RX12, TX12, 69) from rfl) (by decide) xin_X12 tyX12_ok nmX12 xw_821 rfl (rfl : tyX12 0 = .int), fun h => (by cases h)⟩)
  · exact (⟨rfl, _, rfl, ⟨341, dX12_run_7, xw_1082, xw_1080, xw_1081⟩, _, rfl, rfl⟩)
  · exact (⟨rfl, _, rfl, ⟨335, dX12_run_20, xw_910, xw_908, xw_909⟩, _, rfl, rfl⟩)
  · exact (⟨rfl, _, rfl, ⟨501, dX12_run_41, xw_1106, xw_1104, xw_1105⟩, _, rfl, rfl⟩)
)
theorem xmo_226 : xMok xmt xm_226 := ⟨xw_1107, xw_819, ⟨by decide, by decide, by decide +kernel⟩, by decide +kernel, rfl, xo_226⟩
set_option maxRecDepth 100000 in
set_option maxHeartbeats 4000000 in
theorem xo_227 : ∀ q ∈ xk_227, xok xmt xm_227 q.1 q.2 := xqw_ok (M := xm_227) (G := gx_RX12) gxo_RX12 rfl (hd := [(59, (17, 62, 12, 59, [(0, 0)])), (64, (17, 67, 12, 60, [(0, 0)])), (96, (28, 99, 148, 12, [])), (111, (17, 114, 12, 60, [(0, 0)])), (121, (17, 124, 12, 59, [(0, 0)])), (139, (17, 142, 12, 60, [(0, 0)]))]) (by decide +kernel) (by
  refine xcns ?_ <| xcns ?_ <| xcns ?_ <| xcns ?_ <| xcns ?_ <| xcns ?_ <| xnl
  · exact (⟨.int, false, 0, rfl, xr_putf dX12_sells_59 (show vwCl[12]? = some (RX12, TX12, 69) from rfl) (by decide) xin_X12 tyX12_ok nmX12 xw_1108 rfl (rfl : tyX12 59 = .int), fun h => (by cases h)⟩)
  · exact (⟨.int, false, 0, rfl, xr_putf dX12_sells_64 (show vwCl[12]? = some (RX12, TX12, 69) from rfl) (by decide) xin_X12 tyX12_ok nmX12 xw_1109 rfl (rfl : tyX12 60 = .int), fun h => (by cases h)⟩)
  · exact (⟨rfl, _, rfl, ⟨408, dX12_sells_96, xw_855, xw_853, xw_854⟩, _, rfl, rfl⟩)
  · exact (⟨.int, false, 0, rfl, xr_putf dX12_sells_111 (show vwCl[12]? = some (RX12, TX12, 69) from rfl) (by decide) xin_X12 tyX12_ok nmX12 xw_1109 rfl (rfl : tyX12 60 = .int), fun h => (by cases h)⟩)
  · exact (⟨.int, false, 0, rfl, xr_putf dX12_sells_121 (show vwCl[12]? = some (RX12, TX12, 69) from rfl) (by decide) xin_X12 tyX12_ok nmX12 xw_1108 rfl (rfl : tyX12 59 = .int), fun h => (by cases h)⟩)
  · exact (⟨.int, false, 0, rfl, xr_putf dX12_sells_139 (show vwCl[12]? = some (RX12, TX12, 69) from rfl) (by decide) xin_X12 tyX12_ok nmX12 xw_1109 rfl (rfl : tyX12 60 = .int), fun h => (by cases h)⟩)
)
theorem xmo_227 : xMok xmt xm_227 := ⟨xw_1110, xw_819, ⟨by decide, by decide, by decide +kernel⟩, by decide +kernel, rfl, xo_227⟩
set_option maxRecDepth 100000 in
set_option maxHeartbeats 4000000 in
theorem xo_228 : ∀ q ∈ xk_228, xok xmt xm_228 q.1 q.2 := xqw_ok (M := xm_228) (G := gx_RX12) gxo_RX12 rfl (hd := [(7, (17, 10, 12, 27, [(0, 0)])), (76, (17, 79, 12, 29, [(0, 0)])), (81, (17, 84, 12, 30, [(0, 0)])), (91, (28, 94, 178, 12, [])), (100, (0, 103, 256, 0, [])), (103, (17, 106, 12, 30, [(0, 0)])), (113, (28, 116, 178, 12, [])), (122, (0, 125, 257, 0, [])), (125, (17, 128, 12, 30, [(0, 0)])), (135, (28, 138, 178, 12, [])), (144, (0, 147, 258, 0, [])), (147, (17, 150, 12, 30, [(0, 0)])), (154, (0, 157, 256, 0, [])), (167, (17, 170, 12, 27, [(0, 0)]))]) (by decide +kernel) (by
  refine xcns ?_ <| xcns ?_ <| xcns ?_ <| xcns ?_ <| xcns ?_ <| xcns ?_ <| xcns ?_ <| xcns ?_ <| xcns ?_ <| xcns ?_ <| xcns ?_ <| xcns ?_ <| xcns ?_ <| xcns ?_ <| xnl
  · exact (⟨.int, false, 0, rfl, xr_putf dX12_sign_7 (show vwCl[12]? = some (RX12, TX12, 69) from rfl) (by decide) xin_X12 tyX12_ok nmX12 xw_980 rfl (rfl : tyX12 27 = .int), fun h => (by cases h)⟩)
  · exact (⟨.int, false, 0, rfl, xr_putf dX12_sign_76 (show vwCl[12]? = some (RX12, TX12, 69) from rfl) (by decide) xin_X12 tyX12_ok nmX12 xw_950 rfl (rfl : tyX12 29 = .int), fun h => (by cases h)⟩)
  · exact (⟨.int, false, 0, rfl, xr_putf dX12_sign_81 (show vwCl[12]? = some (RX12, TX12, 69) from rfl) (by decide) xin_X12 tyX12_ok nmX12 xw_954 rfl (rfl : tyX12 30 = .int), fun h => (by cases h)⟩)
  · exact (⟨rfl, _, rfl, ⟨175, dX12_sign_91, xw_1113, xw_1111, xw_1112⟩, _, rfl, rfl⟩)
  · exact (xr_sipush dX12_sign_100 (by decide +kernel))
  · exact (⟨.int, false, 0, rfl, xr_putf dX12_sign_103 (show vwCl[12]? = some (RX12, TX12, 69) from rfl) (by decide) xin_X12 tyX12_ok nmX12 xw_954 rfl (rfl : tyX12 30 = .int), fun h => (by cases h)⟩)
  · exact (⟨rfl, _, rfl, ⟨175, dX12_sign_113, xw_1113, xw_1111, xw_1112⟩, _, rfl, rfl⟩)
  · exact (xr_sipush dX12_sign_122 (by decide +kernel))
  · exact (⟨.int, false, 0, rfl, xr_putf dX12_sign_125 (show vwCl[12]? = some (RX12, TX12, 69) from rfl) (by decide) xin_X12 tyX12_ok nmX12 xw_954 rfl (rfl : tyX12 30 = .int), fun h => (by cases h)⟩)
  · exact (⟨rfl, _, rfl, ⟨175, dX12_sign_135, xw_1113, xw_1111, xw_1112⟩, _, rfl, rfl⟩)
  · exact (xr_sipush dX12_sign_144 (by decide +kernel))
  · exact (⟨.int, false, 0, rfl, xr_putf dX12_sign_147 (show vwCl[12]? = some (RX12, TX12, 69) from rfl) (by decide) xin_X12 tyX12_ok nmX12 xw_954 rfl (rfl : tyX12 30 = .int), fun h => (by cases h)⟩)
  · exact (xr_sipush dX12_sign_154 (by decide +kernel))
  · exact (⟨.int, false, 0, rfl, xr_putf dX12_sign_167 (show vwCl[12]? = some (RX12, TX12, 69) from rfl) (by decide) xin_X12 tyX12_ok nmX12 xw_980 rfl (rfl : tyX12 27 = .int), fun h => (by cases h)⟩)
)
theorem xmo_228 : xMok xmt xm_228 := ⟨xw_1114, xw_819, ⟨by decide, by decide, by decide +kernel⟩, by decide +kernel, rfl, xo_228⟩
end
section
set_option maxRecDepth 100000 in
set_option maxHeartbeats 4000000 in
theorem xo_229 : ∀ q ∈ xk_229, xok xmt xm_229 q.1 q.2 := xqw_ok (M := xm_229) (G := gx_RX12) gxo_RX12 rfl (hd := [(2, (17, 5, 12, 0, [(0, 0)])), (8, (28, 11, 189, 12, []))]) (by decide +kernel) (by
  refine xcns ?_ <| xcns ?_ <| xnl
  · exact (⟨.int, false, 0, rfl, xr_putf dX12_sings_2 (show vwCl[12]? = some (RX12, TX12, 69) from rfl) (by decide) xin_X12 tyX12_ok nmX12 xw_821 rfl (rfl : tyX12 0 = .int), fun h => (by cases h)⟩)
  · exact (⟨rfl, _, rfl, ⟨344, dX12_sings_8, xw_861, xw_859, xw_860⟩, _, rfl, rfl⟩)
)
theorem xmo_229 : xMok xmt xm_229 := ⟨xw_1115, xw_819, ⟨by decide, by decide, by decide +kernel⟩, by decide +kernel, rfl, xo_229⟩
set_option maxRecDepth 100000 in
set_option maxHeartbeats 4000000 in
theorem xo_230 : ∀ q ∈ xk_230, xok xmt xm_230 q.1 q.2 := xqw_ok (M := xm_230) (G := gx_RX12) gxo_RX12 rfl (hd := []) (by decide +kernel) (xnl)
theorem xmo_230 : xMok xmt xm_230 := ⟨xw_1116, xw_819, ⟨by decide, by decide, by decide +kernel⟩, by decide +kernel, rfl, xo_230⟩
set_option maxRecDepth 100000 in
set_option maxHeartbeats 4000000 in
theorem xo_231 : ∀ q ∈ xk_231, xok xmt xm_231 q.1 q.2 := xqw_ok (M := xm_231) (G := gx_RX12) gxo_RX12 rfl (hd := [(2, (17, 5, 12, 0, [(0, 0)])), (7, (28, 10, 143, 12, [])), (15, (28, 18, 196, 12, [])), (43, (28, 46, 227, 12, []))]) (by decide +kernel) (by
  refine xcns ?_ <| xcns ?_ <| xcns ?_ <| xcns ?_ <| xnl
  · exact (⟨.int, false, 0, rfl, xr_putf dX12_sold_2 (show vwCl[12]? = some (RX12, TX12, 69) from rfl) (by decide) xin_X12 tyX12_ok nmX12 xw_821 rfl (rfl : tyX12 0 = .int), fun h => (by cases h)⟩)
  · exact (⟨rfl, _, rfl, ⟨461, dX12_sold_7, xw_928, xw_926, xw_927⟩, _, rfl, rfl⟩)
  · exact (⟨rfl, _, rfl, ⟨332, dX12_sold_15, xw_829, xw_827, xw_828⟩, _, rfl, rfl⟩)
  · exact (⟨rfl, _, rfl, ⟨464, dX12_sold_43, xw_931, xw_929, xw_930⟩, _, rfl, rfl⟩)
)
theorem xmo_231 : xMok xmt xm_231 := ⟨xw_1117, xw_819, ⟨by decide, by decide, by decide +kernel⟩, by decide +kernel, rfl, xo_231⟩
set_option maxRecDepth 100000 in
set_option maxHeartbeats 4000000 in
theorem xo_232 : ∀ q ∈ xk_232, xok xmt xm_232 q.1 q.2 := xqw_ok (M := xm_232) (G := gx_RX12) gxo_RX12 rfl (hd := [(2, (17, 5, 12, 0, [(0, 0)])), (8, (28, 11, 189, 12, [])), (16, (28, 19, 197, 12, [])), (29, (28, 32, 233, 12, []))]) (by decide +kernel) (by
  refine xcns ?_ <| xcns ?_ <| xcns ?_ <| xcns ?_ <| xnl
  · exact (⟨.int, false, 0, rfl, xr_putf dX12_sounds_2 (show vwCl[12]? = some (RX12, TX12, 69) from rfl) (by decide) xin_X12 tyX12_ok nmX12 xw_821 rfl (rfl : tyX12 0 = .int), fun h => (by cases h)⟩)
  · exact (⟨rfl, _, rfl, ⟨344, dX12_sounds_8, xw_861, xw_859, xw_860⟩, _, rfl, rfl⟩)
  · exact (⟨rfl, _, rfl, ⟨335, dX12_sounds_16, xw_910, xw_908, xw_909⟩, _, rfl, rfl⟩)
  · exact (⟨rfl, _, rfl, ⟨390, dX12_sounds_29, xw_924, xw_922, xw_923⟩, _, rfl, rfl⟩)
)
theorem xmo_232 : xMok xmt xm_232 := ⟨xw_1118, xw_819, ⟨by decide, by decide, by decide +kernel⟩, by decide +kernel, rfl, xo_232⟩
set_option maxRecDepth 100000 in
set_option maxHeartbeats 4000000 in
theorem xo_233 : ∀ q ∈ xk_233, xok xmt xm_233 q.1 q.2 := xqw_ok (M := xm_233) (G := gx_RX12) gxo_RX12 rfl (hd := [(22, (28, 25, 193, 12, []))]) (by decide +kernel) (by
  refine xcns ?_ <| xnl
  · exact (⟨rfl, _, rfl, ⟨381, dX12_soundsOf_22, xw_832, xw_830, xw_831⟩, _, rfl, rfl⟩)
)
theorem xmo_233 : xMok xmt xm_233 := ⟨xw_1119, xw_819, ⟨by decide, by decide, by decide +kernel⟩, by decide +kernel, rfl, xo_233⟩
set_option maxRecDepth 100000 in
set_option maxHeartbeats 4000000 in
theorem xo_234 : ∀ q ∈ xk_234, xok xmt xm_234 q.1 q.2 := xqw_ok (M := xm_234) (G := gx_RX12) gxo_RX12 rfl (hd := []) (by decide +kernel) (xnl)
theorem xmo_234 : xMok xmt xm_234 := ⟨xw_1120, xw_819, ⟨by decide, by decide, by decide +kernel⟩, by decide +kernel, rfl, xo_234⟩
set_option maxRecDepth 100000 in
set_option maxHeartbeats 4000000 in
theorem xo_235 : ∀ q ∈ xk_235, xok xmt xm_235 q.1 q.2 := xqw_ok (M := xm_235) (G := gx_RX12) gxo_RX12 rfl (hd := [(2, (17, 5, 12, 0, [(0, 0)])), (45, (17, 48, 12, 61, [(0, 0)]))]) (by decide +kernel) (by
  refine xcns ?_ <| xcns ?_ <| xnl
  · exact (⟨.int, false, 0, rfl, xr_putf dX12_strike_2 (show vwCl[12]? = some (RX12, TX12, 69) from rfl) (by decide) xin_X12 tyX12_ok nmX12 xw_821 rfl (rfl : tyX12 0 = .int), fun h => (by cases h)⟩)
  · exact (⟨.int, false, 0, rfl, xr_putf dX12_strike_45 (show vwCl[12]? = some (RX12, TX12, 69) from rfl) (by decide) xin_X12 tyX12_ok nmX12 xw_897 rfl (rfl : tyX12 61 = .int), fun h => (by cases h)⟩)
)
theorem xmo_235 : xMok xmt xm_235 := ⟨xw_1121, xw_819, ⟨by decide, by decide, by decide +kernel⟩, by decide +kernel, rfl, xo_235⟩
set_option maxRecDepth 100000 in
set_option maxHeartbeats 4000000 in
theorem xo_236 : ∀ q ∈ xk_236, xok xmt xm_236 q.1 q.2 := xqw_ok (M := xm_236) (G := gx_RX12) gxo_RX12 rfl (hd := [(4, (28, 7, 202, 12, [])), (24, (28, 27, 202, 12, []))]) (by decide +kernel) (by
  refine xcns ?_ <| xcns ?_ <| xnl
  · exact (⟨rfl, _, rfl, ⟨467, dX12_strikes_4, xw_900, xw_898, xw_899⟩, _, rfl, rfl⟩)
  · exact (⟨rfl, _, rfl, ⟨467, dX12_strikes_24, xw_900, xw_898, xw_899⟩, _, rfl, rfl⟩)
)
theorem xmo_236 : xMok xmt xm_236 := ⟨xw_1122, xw_819, ⟨by decide, by decide, by decide +kernel⟩, by decide +kernel, rfl, xo_236⟩
set_option maxRecDepth 100000 in
set_option maxHeartbeats 4000000 in
theorem xo_237 : ∀ q ∈ xk_237, xok xmt xm_237 q.1 q.2 := xqw_ok (M := xm_237) (G := gx_RX12) gxo_RX12 rfl (hd := [(1, (28, 4, 218, 12, [])), (7, (28, 10, 191, 12, [])), (16, (28, 19, 191, 12, [])), (28, (28, 31, 200, 12, [])), (32, (28, 35, 173, 12, [])), (36, (28, 39, 218, 12, [])), (42, (28, 45, 219, 12, []))]) (by decide +kernel) (by
  refine xcns ?_ <| xcns ?_ <| xcns ?_ <| xcns ?_ <| xcns ?_ <| xcns ?_ <| xcns ?_ <| xnl
  · exact (⟨rfl, _, rfl, ⟨306, dX12_sum_1, xw_1125, xw_1123, xw_1124⟩, _, rfl, rfl⟩)
  · exact (⟨rfl, _, rfl, ⟨270, dX12_sum_7, xw_1060, xw_1058, xw_1059⟩, _, rfl, rfl⟩)
  · exact (⟨rfl, _, rfl, ⟨270, dX12_sum_16, xw_1060, xw_1058, xw_1059⟩, _, rfl, rfl⟩)
  · exact (⟨rfl, _, rfl, ⟨294, dX12_sum_28, xw_887, xw_885, xw_886⟩, _, rfl, rfl⟩)
  · exact (⟨rfl, _, rfl, ⟨237, dX12_sum_32, xw_890, xw_888, xw_889⟩, _, rfl, rfl⟩)
  · exact (⟨rfl, _, rfl, ⟨306, dX12_sum_36, xw_1125, xw_1123, xw_1124⟩, _, rfl, rfl⟩)
  · exact (⟨rfl, _, rfl, ⟨297, dX12_sum_42, xw_893, xw_891, xw_892⟩, _, rfl, rfl⟩)
)
theorem xmo_237 : xMok xmt xm_237 := ⟨xw_1126, xw_819, ⟨by decide, by decide, by decide +kernel⟩, by decide +kernel, rfl, xo_237⟩
set_option maxRecDepth 100000 in
set_option maxHeartbeats 4000000 in
theorem xo_238 : ∀ q ∈ xk_238, xok xmt xm_238 q.1 q.2 := xqw_ok (M := xm_238) (G := gx_RX12) gxo_RX12 rfl (hd := [(8, (28, 11, 170, 12, [])), (13, (28, 16, 165, 12, [])), (24, (28, 27, 170, 12, []))]) (by decide +kernel) (by
  refine xcns ?_ <| xcns ?_ <| xcns ?_ <| xnl
  · exact (⟨rfl, _, rfl, ⟨233, dX12_sumOf_8, xw_995, xw_993, xw_994⟩, _, rfl, rfl⟩)
  · exact (⟨rfl, _, rfl, ⟨276, dX12_sumOf_13, xw_1088, xw_1086, xw_1087⟩, _, rfl, rfl⟩)
  · exact (⟨rfl, _, rfl, ⟨233, dX12_sumOf_24, xw_995, xw_993, xw_994⟩, _, rfl, rfl⟩)
)
theorem xmo_238 : xMok xmt xm_238 := ⟨xw_1127, xw_819, ⟨by decide, by decide, by decide +kernel⟩, by decide +kernel, rfl, xo_238⟩
set_option maxRecDepth 100000 in
set_option maxHeartbeats 4000000 in
theorem xo_239 : ∀ q ∈ xk_239, xok xmt xm_239 q.1 q.2 := xqw_ok (M := xm_239) (G := gx_RX12) gxo_RX12 rfl (hd := [(2, (17, 5, 12, 0, [(0, 0)])), (41, (28, 44, 233, 12, [])), (65, (28, 68, 223, 12, [])), (113, (28, 116, 183, 12, [])), (120, (28, 123, 160, 12, [])), (126, (28, 129, 158, 12, []))]) (by decide +kernel) (by
  refine xcns ?_ <| xcns ?_ <| xcns ?_ <| xcns ?_ <| xcns ?_ <| xcns ?_ <| xnl
  · exact (⟨.int, false, 0, rfl, xr_putf dX12_sunday_2 (show vwCl[12]? = some (RX12, TX12, 69) from rfl) (by decide) xin_X12 tyX12_ok nmX12 xw_821 rfl (rfl : tyX12 0 = .int), fun h => (by cases h)⟩)
  · exact (⟨rfl, _, rfl, ⟨390, dX12_sunday_41, xw_924, xw_922, xw_923⟩, _, rfl, rfl⟩)
  · exact (⟨rfl, _, rfl, ⟨393, dX12_sunday_65, xw_843, xw_841, xw_842⟩, _, rfl, rfl⟩)
  · exact (⟨rfl, _, rfl, ⟨338, dX12_sunday_113, xw_1002, xw_1000, xw_1001⟩, _, rfl, rfl⟩)
  · exact (⟨rfl, _, rfl, ⟨421, dX12_sunday_120, xw_1130, xw_1128, xw_1129⟩, _, rfl, rfl⟩)
  · exact (⟨rfl, _, rfl, ⟨411, dX12_sunday_126, xw_913, xw_911, xw_912⟩, _, rfl, rfl⟩)
)
theorem xmo_239 : xMok xmt xm_239 := ⟨xw_1131, xw_819, ⟨by decide, by decide, by decide +kernel⟩, by decide +kernel, rfl, xo_239⟩
set_option maxRecDepth 100000 in
set_option maxHeartbeats 4000000 in
theorem xo_240 : ∀ q ∈ xk_240, xok xmt xm_240 q.1 q.2 := xqw_ok (M := xm_240) (G := gx_RX12) gxo_RX12 rfl (hd := [(2, (17, 5, 12, 0, [(0, 0)])), (7, (28, 10, 194, 12, []))]) (by decide +kernel) (by
  refine xcns ?_ <| xcns ?_ <| xnl
  · exact (⟨.int, false, 0, rfl, xr_putf dX12_tavern_2 (show vwCl[12]? = some (RX12, TX12, 69) from rfl) (by decide) xin_X12 tyX12_ok nmX12 xw_821 rfl (rfl : tyX12 0 = .int), fun h => (by cases h)⟩)
  · exact (⟨rfl, _, rfl, ⟨341, dX12_tavern_7, xw_1082, xw_1080, xw_1081⟩, _, rfl, rfl⟩)
)
theorem xmo_240 : xMok xmt xm_240 := ⟨xw_1132, xw_819, ⟨by decide, by decide, by decide +kernel⟩, by decide +kernel, rfl, xo_240⟩
set_option maxRecDepth 100000 in
set_option maxHeartbeats 4000000 in
theorem xo_241 : ∀ q ∈ xk_241, xok xmt xm_241 q.1 q.2 := xqw_ok (M := xm_241) (G := gx_RX12) gxo_RX12 rfl (hd := [(16, (28, 19, 170, 12, [])), (23, (27, 26, 168, 0, [])), (37, (28, 40, 254, 12, [])), (50, (28, 53, 254, 12, [])), (54, (28, 57, 173, 12, []))]) (by decide +kernel) (by
  refine xcns ?_ <| xcns ?_ <| xcns ?_ <| xcns ?_ <| xcns ?_ <| xnl
  · exact (⟨rfl, _, rfl, ⟨233, dX12_tavernAhead_16, xw_995, xw_993, xw_994⟩, _, rfl, rfl⟩)
  · exact (⟨rfl, _, rfl, ⟨229, dX12_tavernAhead_23, xw_955, xw_956⟩⟩)
  · exact (⟨rfl, _, rfl, ⟨226, dX12_tavernAhead_37, xw_953, xw_951, xw_952⟩, _, rfl, rfl⟩)
  · exact (⟨rfl, _, rfl, ⟨226, dX12_tavernAhead_50, xw_953, xw_951, xw_952⟩, _, rfl, rfl⟩)
  · exact (⟨rfl, _, rfl, ⟨237, dX12_tavernAhead_54, xw_890, xw_888, xw_889⟩, _, rfl, rfl⟩)
)
theorem xmo_241 : xMok xmt xm_241 := ⟨xw_1133, xw_819, ⟨by decide, by decide, by decide +kernel⟩, by decide +kernel, rfl, xo_241⟩
def xkp_242_0 : List (Nat × xOp) := [(0, (2, 1, 1, 0, [])), (1, (0, 2, 0, 0, [])), (2, (17, 5, 12, 0, [(0, 0)])), (5, (2, 6, 0, 1, [])), (6, (12, 9, 17, 2, [])), (9, (2, 10, 0, 1, [])), (10, (2, 11, 1, 0, [])), (11, (16, 14, 12, 2, [])), (14, (13, 17, 20, 5, [])), (17, (0, 19, 4294967294, 0, [])), (19, (30, 20, 0, 0, [])), (20, (2, 21, 1, 0, [])), (21, (2, 22, 0, 1, [])), (22, (17, 25, 12, 26, [(0, 0)])), (25, (2, 26, 1, 0, [])), (26, (0, 27, 0, 0, [])), (27, (17, 30, 12, 2, [(0, 0)])), (30, (2, 31, 1, 0, [])), (31, (0, 32, 0, 0, [])), (32, (17, 35, 12, 27, [(0, 0)])), (35, (2, 36, 1, 0, [])), (36, (0, 37, 0, 0, [])), (37, (17, 40, 12, 31, [(0, 0)])), (40, (2, 41, 1, 0, [])), (41, (0, 42, 4294967295, 0, [])), (42, (17, 45, 12, 32, [(0, 0)])), (45, (0, 46, 0, 0, [])), (46, (3, 47, 0, 2, [])), (47, (2, 48, 0, 2, [])), (48, (0, 50, 7, 0, [])), (50, (13, 53, 65, 3, [])), (53, (2, 54, 1, 0, [])), (54, (2, 55, 0, 2, [])), (55, (0, 56, 0, 0, [])), (56, (28, 59, 221, 12, [])), (59, (4, 62, 2, 1, [])), (62, (14, 47, 0, 0, [])), (65, (0, 66, 5, 0, [])), (66, (3, 67, 0, 2, [])), (67, (2, 68, 0, 2, [])), (68, (0, 70, 10, 0, [])), (70, (13, 73, 93, 3, [])), (73, (2, 74, 1, 0, [])), (74, (16, 77, 12, 20, [])), (77, (2, 78, 0, 2, [])), (78, (0, 79, 0, 0, [])), (79, (21, 80, 0, 0, [])), (80, (2, 81, 1, 0, [])), (81, (16, 84, 12, 21, [])), (84, (2, 85, 0, 2, [])), (85, (0, 86, 0, 0, [])), (86, (21, 87, 0, 0, [])), (87, (4, 90, 2, 1, [])), (90, (14, 67, 0, 0, [])), (93, (2, 94, 1, 0, [])), (94, (0, 95, 0, 0, [])), (95, (17, 98, 12, 24, [(0, 0)])), (98, (2, 99, 1, 0, [])), (99, (0, 100, 0, 0, [])), (100, (17, 103, 12, 25, [(0, 0)])), (103, (2, 104, 1, 0, [])), (104, (0, 105, 0, 0, [])), (105, (17, 108, 12, 35, [(0, 0)])), (108, (2, 109, 1, 0, [])), (109, (0, 110, 0, 0, [])), (110, (17, 113, 12, 36, [(0, 0)])), (113, (2, 114, 1, 0, [])), (114, (28, 117, 244, 12, [])), (117, (2, 118, 1, 0, [])), (118, (16, 121, 12, 31, [])), (121, (12, 124, 139, 1, [])), (124, (2, 125, 1, 0, [])), (125, (16, 128, 12, 29, [])), (128, (0, 129, 4, 0, [])), (129, (13, 132, 139, 0, [])), (132, (2, 133, 1, 0, [])), (133, (28, 136, 206, 12, [])), (136, (14, 117, 0, 0, [])), (139, (2, 140, 1, 0, [])), (140, (2, 141, 1, 0, [])), (141, (16, 144, 12, 31, [])), (144, (17, 147, 12, 33, [(0, 0)])), (147, (2, 148, 1, 0, [])), (148, (2, 149, 1, 0, [])), (149, (16, 152, 12, 32, [])), (152, (17, 155, 12, 34, [(0, 0)])), (155, (2, 156, 1, 0, [])), (156, (16, 159, 12, 31, [])), (159, (12, 162, 164, 0, [])), (162, (0, 163, 4294967295, 0, [])), (163, (30, 164, 0, 0, [])), (164, (2, 165, 1, 0, [])), (165, (16, 168, 12, 3, [])), (168, (27, 171, 176, 0, [])), (171, (2, 172, 1, 0, [])), (172, (16, 175, 12, 4, [])), (175, (27, 178, 176, 0, [])), (178, (2, 179, 1, 0, [])), (179, (16, 182, 12, 5, [])), (182, (27, 185, 176, 0, [])), (185, (2, 186, 1, 0, [])), (186, (16, 189, 12, 6, [])), (189, (27, 192, 176, 0, [])), (192, (2, 193, 1, 0, [])), (193, (16, 196, 12, 7, [])), (196, (27, 199, 176, 0, [])), (199, (2, 200, 1, 0, [])), (200, (16, 203, 12, 8, [])), (203, (27, 206, 176, 0, [])), (206, (2, 207, 1, 0, [])), (207, (16, 210, 12, 9, [])), (210, (27, 213, 176, 0, [])), (213, (0, 214, 0, 0, [])), (214, (3, 215, 0, 2, [])), (215, (2, 216, 0, 2, [])), (216, (0, 218, 6, 0, [])), (218, (13, 221, 242, 3, [])), (221, (2, 222, 1, 0, [])), (222, (16, 225, 12, 10, [])), (225, (2, 226, 0, 2, []))]
set_option maxRecDepth 100000 in
set_option maxHeartbeats 4000000 in
theorem xop_242_0 : ∀ q ∈ xkp_242_0, xok xmt xm_242 q.1 q.2 := xqw_ok (M := xm_242) (G := gx_RX12) gxo_RX12 rfl (hd := [(2, (17, 5, 12, 0, [(0, 0)])), (22, (17, 25, 12, 26, [(0, 0)])), (27, (17, 30, 12, 2, [(0, 0)])), (32, (17, 35, 12, 27, [(0, 0)])), (37, (17, 40, 12, 31, [(0, 0)])), (42, (17, 45, 12, 32, [(0, 0)])), (56, (28, 59, 221, 12, [])), (95, (17, 98, 12, 24, [(0, 0)])), (100, (17, 103, 12, 25, [(0, 0)])), (105, (17, 108, 12, 35, [(0, 0)])), (110, (17, 113, 12, 36, [(0, 0)])), (114, (28, 117, 244, 12, [])), (133, (28, 136, 206, 12, [])), (144, (17, 147, 12, 33, [(0, 0)])), (152, (17, 155, 12, 34, [(0, 0)])), (168, (27, 171, 176, 0, [])), (175, (27, 178, 176, 0, [])), (182, (27, 185, 176, 0, [])), (189, (27, 192, 176, 0, [])), (196, (27, 199, 176, 0, [])), (203, (27, 206, 176, 0, [])), (210, (27, 213, 176, 0, []))]) (by decide +kernel) (by
  refine xcns ?_ <| xcns ?_ <| xcns ?_ <| xcns ?_ <| xcns ?_ <| xcns ?_ <| xcns ?_ <| xcns ?_ <| xcns ?_ <| xcns ?_ <| xcns ?_ <| xcns ?_ <| xcns ?_ <| xcns ?_ <| xcns ?_ <| xcns ?_ <| xcns ?_ <| xcns ?_ <| xcns ?_ <| xcns ?_ <| xcns ?_ <| xcns ?_ <| xnl
  · exact (⟨.int, false, 0, rfl, xr_putf dX12_text_2 (show vwCl[12]? = some (RX12, TX12, 69) from rfl) (by decide) xin_X12 tyX12_ok nmX12 xw_821 rfl (rfl : tyX12 0 = .int), fun h => (by cases h)⟩)
  · exact (⟨.int, false, 0, rfl, xr_putf dX12_text_22 (show vwCl[12]? = some (RX12, TX12, 69) from rfl) (by decide) xin_X12 tyX12_ok nmX12 xw_981 rfl (rfl : tyX12 26 = .int), fun h => (by cases h)⟩)
  · exact (⟨.int, false, 0, rfl, xr_putf dX12_text_27 (show vwCl[12]? = some (RX12, TX12, 69) from rfl) (by decide) xin_X12 tyX12_ok nmX12 xw_946 rfl (rfl : tyX12 2 = .int), fun h => (by cases h)⟩)
  · exact (⟨.int, false, 0, rfl, xr_putf dX12_text_32 (show vwCl[12]? = some (RX12, TX12, 69) from rfl) (by decide) xin_X12 tyX12_ok nmX12 xw_980 rfl (rfl : tyX12 27 = .int), fun h => (by cases h)⟩)
  · exact (⟨.int, false, 0, rfl, xr_putf dX12_text_37 (show vwCl[12]? = some (RX12, TX12, 69) from rfl) (by decide) xin_X12 tyX12_ok nmX12 xw_949 rfl (rfl : tyX12 31 = .int), fun h => (by cases h)⟩)
  · exact (⟨.int, false, 0, rfl, xr_putf dX12_text_42 (show vwCl[12]? = some (RX12, TX12, 69) from rfl) (by decide) xin_X12 tyX12_ok nmX12 xw_1134 rfl (rfl : tyX12 32 = .int), fun h => (by cases h)⟩)
  · exact (⟨rfl, _, rfl, ⟨254, dX12_text_56, xw_1047, xw_1045, xw_1046⟩, _, rfl, rfl⟩)
  · exact (⟨.int, false, 0, rfl, xr_putf dX12_text_95 (show vwCl[12]? = some (RX12, TX12, 69) from rfl) (by decide) xin_X12 tyX12_ok nmX12 xw_1023 rfl (rfl : tyX12 24 = .int), fun h => (by cases h)⟩)
  · exact (⟨.int, false, 0, rfl, xr_putf dX12_text_100 (show vwCl[12]? = some (RX12, TX12, 69) from rfl) (by decide) xin_X12 tyX12_ok nmX12 xw_1061 rfl (rfl : tyX12 25 = .int), fun h => (by cases h)⟩)
  · exact (⟨.int, false, 0, rfl, xr_putf dX12_text_105 (show vwCl[12]? = some (RX12, TX12, 69) from rfl) (by decide) xin_X12 tyX12_ok nmX12 xw_1085 rfl (rfl : tyX12 35 = .int), fun h => (by cases h)⟩)
  · exact (⟨.int, false, 0, rfl, xr_putf dX12_text_110 (show vwCl[12]? = some (RX12, TX12, 69) from rfl) (by decide) xin_X12 tyX12_ok nmX12 xw_1019 rfl (rfl : tyX12 36 = .int), fun h => (by cases h)⟩)
  · exact (⟨rfl, _, rfl, ⟨223, dX12_text_114, xw_959, xw_957, xw_958⟩, _, rfl, rfl⟩)
  · exact (⟨rfl, _, rfl, ⟨315, dX12_text_133, xw_1137, xw_1135, xw_1136⟩, _, rfl, rfl⟩)
  · exact (⟨.int, false, 0, rfl, xr_putf dX12_text_144 (show vwCl[12]? = some (RX12, TX12, 69) from rfl) (by decide) xin_X12 tyX12_ok nmX12 xw_944 rfl (rfl : tyX12 33 = .int), fun h => (by cases h)⟩)
  · exact (⟨.int, false, 0, rfl, xr_putf dX12_text_152 (show vwCl[12]? = some (RX12, TX12, 69) from rfl) (by decide) xin_X12 tyX12_ok nmX12 xw_788 rfl (rfl : tyX12 34 = .int), fun h => (by cases h)⟩)
  · exact (⟨rfl, _, rfl, ⟨321, dX12_text_168, xw_1138, xw_1139⟩⟩)
  · exact (⟨rfl, _, rfl, ⟨321, dX12_text_175, xw_1138, xw_1139⟩⟩)
  · exact (⟨rfl, _, rfl, ⟨321, dX12_text_182, xw_1138, xw_1139⟩⟩)
  · exact (⟨rfl, _, rfl, ⟨321, dX12_text_189, xw_1138, xw_1139⟩⟩)
  · exact (⟨rfl, _, rfl, ⟨321, dX12_text_196, xw_1138, xw_1139⟩⟩)
  · exact (⟨rfl, _, rfl, ⟨321, dX12_text_203, xw_1138, xw_1139⟩⟩)
  · exact (⟨rfl, _, rfl, ⟨321, dX12_text_210, xw_1138, xw_1139⟩⟩)
)
def xkp_242_1 : List (Nat × xOp) := [(226, (2, 227, 1, 0, [])), (227, (16, 230, 12, 10, [])), (230, (0, 232, 6, 0, [])), (232, (2, 233, 0, 2, [])), (233, (5, 234, 0, 0, [])), (234, (19, 235, 3, 0, [])), (235, (21, 236, 3, 0, [])), (236, (4, 239, 2, 1, [])), (239, (14, 215, 0, 0, [])), (242, (2, 243, 1, 0, [])), (243, (16, 246, 12, 11, [])), (246, (27, 249, 176, 0, [])), (249, (2, 250, 1, 0, [])), (250, (16, 253, 12, 12, [])), (253, (27, 256, 176, 0, [])), (256, (2, 257, 1, 0, [])), (257, (16, 260, 12, 13, [])), (260, (27, 263, 176, 0, [])), (263, (2, 264, 1, 0, [])), (264, (16, 267, 12, 14, [])), (267, (27, 270, 176, 0, [])), (270, (2, 271, 1, 0, [])), (271, (16, 274, 12, 15, [])), (274, (27, 277, 176, 0, [])), (277, (2, 278, 1, 0, [])), (278, (16, 281, 12, 16, [])), (281, (27, 284, 176, 0, [])), (284, (2, 285, 1, 0, [])), (285, (16, 288, 12, 17, [])), (288, (27, 291, 176, 0, [])), (291, (2, 292, 1, 0, [])), (292, (16, 295, 12, 18, [])), (295, (27, 298, 176, 0, [])), (298, (2, 299, 1, 0, [])), (299, (16, 302, 12, 19, [])), (302, (27, 305, 176, 0, [])), (305, (2, 306, 1, 0, [])), (306, (16, 309, 12, 20, [])), (309, (27, 312, 176, 0, [])), (312, (2, 313, 1, 0, [])), (313, (16, 316, 12, 21, [])), (316, (27, 319, 176, 0, [])), (319, (2, 320, 1, 0, [])), (320, (16, 323, 12, 22, [])), (323, (27, 326, 176, 0, [])), (326, (2, 327, 1, 0, [])), (327, (16, 330, 12, 23, [])), (330, (27, 333, 176, 0, [])), (333, (2, 334, 1, 0, [])), (334, (0, 335, 0, 0, [])), (335, (17, 338, 12, 61, [(0, 0)])), (338, (2, 339, 1, 0, [])), (339, (0, 340, 4294967295, 0, [])), (340, (17, 343, 12, 62, [(0, 0)])), (343, (2, 344, 1, 0, [])), (344, (0, 345, 0, 0, [])), (345, (17, 348, 12, 49, [(3, 0)])), (348, (2, 349, 1, 0, [])), (349, (28, 352, 146, 12, [])), (352, (2, 353, 1, 0, [])), (353, (16, 356, 12, 25, [])), (356, (30, 0, 0, 0, []))]
set_option maxRecDepth 100000 in
set_option maxHeartbeats 4000000 in
theorem xop_242_1 : ∀ q ∈ xkp_242_1, xok xmt xm_242 q.1 q.2 := xqw_ok (M := xm_242) (G := gx_RX12) gxo_RX12 rfl (hd := [(246, (27, 249, 176, 0, [])), (253, (27, 256, 176, 0, [])), (260, (27, 263, 176, 0, [])), (267, (27, 270, 176, 0, [])), (274, (27, 277, 176, 0, [])), (281, (27, 284, 176, 0, [])), (288, (27, 291, 176, 0, [])), (295, (27, 298, 176, 0, [])), (302, (27, 305, 176, 0, [])), (309, (27, 312, 176, 0, [])), (316, (27, 319, 176, 0, [])), (323, (27, 326, 176, 0, [])), (330, (27, 333, 176, 0, [])), (335, (17, 338, 12, 61, [(0, 0)])), (340, (17, 343, 12, 62, [(0, 0)])), (345, (17, 348, 12, 49, [(3, 0)])), (349, (28, 352, 146, 12, []))]) (by decide +kernel) (by
  refine xcns ?_ <| xcns ?_ <| xcns ?_ <| xcns ?_ <| xcns ?_ <| xcns ?_ <| xcns ?_ <| xcns ?_ <| xcns ?_ <| xcns ?_ <| xcns ?_ <| xcns ?_ <| xcns ?_ <| xcns ?_ <| xcns ?_ <| xcns ?_ <| xcns ?_ <| xnl
  · exact (⟨rfl, _, rfl, ⟨321, dX12_text_246, xw_1138, xw_1139⟩⟩)
  · exact (⟨rfl, _, rfl, ⟨321, dX12_text_253, xw_1138, xw_1139⟩⟩)
  · exact (⟨rfl, _, rfl, ⟨321, dX12_text_260, xw_1138, xw_1139⟩⟩)
  · exact (⟨rfl, _, rfl, ⟨321, dX12_text_267, xw_1138, xw_1139⟩⟩)
  · exact (⟨rfl, _, rfl, ⟨321, dX12_text_274, xw_1138, xw_1139⟩⟩)
  · exact (⟨rfl, _, rfl, ⟨321, dX12_text_281, xw_1138, xw_1139⟩⟩)
  · exact (⟨rfl, _, rfl, ⟨321, dX12_text_288, xw_1138, xw_1139⟩⟩)
  · exact (⟨rfl, _, rfl, ⟨321, dX12_text_295, xw_1138, xw_1139⟩⟩)
  · exact (⟨rfl, _, rfl, ⟨321, dX12_text_302, xw_1138, xw_1139⟩⟩)
  · exact (⟨rfl, _, rfl, ⟨321, dX12_text_309, xw_1138, xw_1139⟩⟩)
  · exact (⟨rfl, _, rfl, ⟨321, dX12_text_316, xw_1138, xw_1139⟩⟩)
  · exact (⟨rfl, _, rfl, ⟨321, dX12_text_323, xw_1138, xw_1139⟩⟩)
  · exact (⟨rfl, _, rfl, ⟨321, dX12_text_330, xw_1138, xw_1139⟩⟩)
  · exact (⟨.int, false, 0, rfl, xr_putf dX12_text_335 (show vwCl[12]? = some (RX12, TX12, 69) from rfl) (by decide) xin_X12 tyX12_ok nmX12 xw_897 rfl (rfl : tyX12 61 = .int), fun h => (by cases h)⟩)
  · exact (⟨.int, false, 0, rfl, xr_putf dX12_text_340 (show vwCl[12]? = some (RX12, TX12, 69) from rfl) (by decide) xin_X12 tyX12_ok nmX12 xw_809 rfl (rfl : tyX12 62 = .int), fun h => (by cases h)⟩)
  · exact (⟨.boolean, false, 0, rfl, xr_putf dX12_text_345 (show vwCl[12]? = some (RX12, TX12, 69) from rfl) (by decide) xin_X12 tyX12_ok nmX12 xw_822 rfl (rfl : tyX12 49 = .boolean), fun h => (by cases h)⟩)
  · exact (⟨rfl, _, rfl, ⟨160, dX12_text_349, xw_817, xw_815, xw_816⟩, _, rfl, rfl⟩)
)
set_option maxRecDepth 1000000 in
theorem xoe_242 : xk_242 = xkp_242_0 ++ (xkp_242_1) := rfl
theorem xo_242 : ∀ q ∈ xk_242, xok xmt xm_242 q.1 q.2 := by
  rw [xoe_242]
  exact List.forall_mem_append.mpr ⟨xop_242_0, xop_242_1⟩
theorem xmo_242 : xMok xmt xm_242 := ⟨xw_1140, xw_819, ⟨by decide, by decide, by decide +kernel⟩, by decide +kernel, rfl, xo_242⟩
set_option maxRecDepth 100000 in
set_option maxHeartbeats 4000000 in
theorem xo_243 : ∀ q ∈ xk_243, xok xmt xm_243 q.1 q.2 := xqw_ok (M := xm_243) (G := gx_RX12) gxo_RX12 rfl (hd := [(2, (17, 5, 12, 0, [(0, 0)])), (6, (28, 9, 236, 12, [])), (26, (28, 29, 195, 12, []))]) (by decide +kernel) (by
  refine xcns ?_ <| xcns ?_ <| xcns ?_ <| xnl
  · exact (⟨.int, false, 0, rfl, xr_putf dX12_thieves_2 (show vwCl[12]? = some (RX12, TX12, 69) from rfl) (by decide) xin_X12 tyX12_ok nmX12 xw_821 rfl (rfl : tyX12 0 = .int), fun h => (by cases h)⟩)
  · exact (⟨rfl, _, rfl, ⟨473, dX12_thieves_6, xw_965, xw_963, xw_964⟩, _, rfl, rfl⟩)
  · exact (⟨rfl, _, rfl, ⟨476, dX12_thieves_26, xw_1143, xw_1141, xw_1142⟩, _, rfl, rfl⟩)
)
theorem xmo_243 : xMok xmt xm_243 := ⟨xw_1144, xw_819, ⟨by decide, by decide, by decide +kernel⟩, by decide +kernel, rfl, xo_243⟩
set_option maxRecDepth 100000 in
set_option maxHeartbeats 4000000 in
theorem xo_244 : ∀ q ∈ xk_244, xok xmt xm_244 q.1 q.2 := xqw_ok (M := xm_244) (G := gx_RX12) gxo_RX12 rfl (hd := [(1, (28, 4, 178, 12, [])), (10, (28, 13, 178, 12, [])), (25, (17, 28, 12, 27, [(0, 0)])), (36, (17, 39, 12, 28, [(0, 0)])), (40, (28, 43, 178, 12, [])), (51, (17, 54, 12, 29, [(0, 0)])), (58, (27, 61, 192, 0, [])), (65, (28, 68, 178, 12, [])), (68, (27, 71, 192, 0, [])), (81, (17, 84, 12, 27, [(0, 0)])), (89, (28, 92, 252, 12, [])), (92, (17, 95, 12, 30, [(0, 0)])), (127, (17, 130, 12, 29, [(0, 0)])), (139, (28, 142, 209, 12, [])), (146, (27, 149, 185, 0, [])), (154, (17, 157, 12, 29, [(0, 0)])), (159, (17, 162, 12, 30, [(0, 0)])), (163, (28, 166, 178, 12, [])), (166, (27, 169, 185, 0, [])), (177, (0, 179, 99999, 0, [])), (197, (28, 200, 178, 12, [])), (204, (17, 207, 12, 30, [(0, 0)])), (214, (17, 217, 12, 27, [(0, 0)])), (222, (28, 225, 228, 12, []))]) (by decide +kernel) (by
  refine xcns ?_ <| xcns ?_ <| xcns ?_ <| xcns ?_ <| xcns ?_ <| xcns ?_ <| xcns ?_ <| xcns ?_ <| xcns ?_ <| xcns ?_ <| xcns ?_ <| xcns ?_ <| xcns ?_ <| xcns ?_ <| xcns ?_ <| xcns ?_ <| xcns ?_ <| xcns ?_ <| xcns ?_ <| xcns ?_ <| xcns ?_ <| xcns ?_ <| xcns ?_ <| xcns ?_ <| xnl
  · exact (⟨rfl, _, rfl, ⟨175, dX12_token_1, xw_1113, xw_1111, xw_1112⟩, _, rfl, rfl⟩)
  · exact (⟨rfl, _, rfl, ⟨175, dX12_token_10, xw_1113, xw_1111, xw_1112⟩, _, rfl, rfl⟩)
  · exact (⟨.int, false, 0, rfl, xr_putf dX12_token_25 (show vwCl[12]? = some (RX12, TX12, 69) from rfl) (by decide) xin_X12 tyX12_ok nmX12 xw_980 rfl (rfl : tyX12 27 = .int), fun h => (by cases h)⟩)
  · exact (⟨.int, false, 0, rfl, xr_putf dX12_token_36 (show vwCl[12]? = some (RX12, TX12, 69) from rfl) (by decide) xin_X12 tyX12_ok nmX12 xw_1065 rfl (rfl : tyX12 28 = .int), fun h => (by cases h)⟩)
  · exact (⟨rfl, _, rfl, ⟨175, dX12_token_40, xw_1113, xw_1111, xw_1112⟩, _, rfl, rfl⟩)
  · exact (⟨.int, false, 0, rfl, xr_putf dX12_token_51 (show vwCl[12]? = some (RX12, TX12, 69) from rfl) (by decide) xin_X12 tyX12_ok nmX12 xw_950 rfl (rfl : tyX12 29 = .int), fun h => (by cases h)⟩)
  · exact (⟨rfl, _, rfl, ⟨185, dX12_token_58, xw_1145, xw_1146⟩⟩)
  · exact (⟨rfl, _, rfl, ⟨175, dX12_token_65, xw_1113, xw_1111, xw_1112⟩, _, rfl, rfl⟩)
  · exact (⟨rfl, _, rfl, ⟨185, dX12_token_68, xw_1145, xw_1146⟩⟩)
  · exact (⟨.int, false, 0, rfl, xr_putf dX12_token_81 (show vwCl[12]? = some (RX12, TX12, 69) from rfl) (by decide) xin_X12 tyX12_ok nmX12 xw_980 rfl (rfl : tyX12 27 = .int), fun h => (by cases h)⟩)
  · exact (⟨rfl, _, rfl, ⟨189, dX12_token_89, xw_1149, xw_1147, xw_1148⟩, _, rfl, rfl⟩)
  · exact (⟨.int, false, 0, rfl, xr_putf dX12_token_92 (show vwCl[12]? = some (RX12, TX12, 69) from rfl) (by decide) xin_X12 tyX12_ok nmX12 xw_954 rfl (rfl : tyX12 30 = .int), fun h => (by cases h)⟩)
  · exact (⟨.int, false, 0, rfl, xr_putf dX12_token_127 (show vwCl[12]? = some (RX12, TX12, 69) from rfl) (by decide) xin_X12 tyX12_ok nmX12 xw_950 rfl (rfl : tyX12 29 = .int), fun h => (by cases h)⟩)
  · exact (⟨rfl, _, rfl, ⟨195, dX12_token_139, xw_1152, xw_1150, xw_1151⟩, _, rfl, rfl⟩)
  · exact (⟨rfl, _, rfl, ⟨198, dX12_token_146, xw_1153, xw_1154⟩⟩)
  · exact (⟨.int, false, 0, rfl, xr_putf dX12_token_154 (show vwCl[12]? = some (RX12, TX12, 69) from rfl) (by decide) xin_X12 tyX12_ok nmX12 xw_950 rfl (rfl : tyX12 29 = .int), fun h => (by cases h)⟩)
  · exact (⟨.int, false, 0, rfl, xr_putf dX12_token_159 (show vwCl[12]? = some (RX12, TX12, 69) from rfl) (by decide) xin_X12 tyX12_ok nmX12 xw_954 rfl (rfl : tyX12 30 = .int), fun h => (by cases h)⟩)
  · exact (⟨rfl, _, rfl, ⟨175, dX12_token_163, xw_1113, xw_1111, xw_1112⟩, _, rfl, rfl⟩)
  · exact (⟨rfl, _, rfl, ⟨198, dX12_token_166, xw_1153, xw_1154⟩⟩)
  · exact (xr_ldc dX12_token_177 xw_1054)
  · exact (⟨rfl, _, rfl, ⟨175, dX12_token_197, xw_1113, xw_1111, xw_1112⟩, _, rfl, rfl⟩)
  · exact (⟨.int, false, 0, rfl, xr_putf dX12_token_204 (show vwCl[12]? = some (RX12, TX12, 69) from rfl) (by decide) xin_X12 tyX12_ok nmX12 xw_954 rfl (rfl : tyX12 30 = .int), fun h => (by cases h)⟩)
  · exact (⟨.int, false, 0, rfl, xr_putf dX12_token_214 (show vwCl[12]? = some (RX12, TX12, 69) from rfl) (by decide) xin_X12 tyX12_ok nmX12 xw_980 rfl (rfl : tyX12 27 = .int), fun h => (by cases h)⟩)
  · exact (⟨rfl, _, rfl, ⟨202, dX12_token_222, xw_1157, xw_1155, xw_1156⟩, _, rfl, rfl⟩)
)
theorem xmo_244 : xMok xmt xm_244 := ⟨xw_1158, xw_819, ⟨by decide, by decide, by decide +kernel⟩, by decide +kernel, rfl, xo_244⟩
end
section
/-- a lookup switch -/
theorem xlook_off {pc : Nat} {dflt : Int} : ∀ (ps : List (Int × Int)) (cs : List (Nat × Nat)), ps.length = cs.length → (∀ i, i < cs.length → (ps.getD i (0, 0)).1 = ((cs.getD i (0, 0)).1 : Int) ∧ (pc : Int) + (ps.getD i (0, 0)).2 = ((cs.getD i (0, 0)).2 : Int)) → ∀ x : Int,
    (∃ q ∈ cs, x = (q.1 : Int) ∧ (pc : Int) + Op.lookupswitch.offset ps dflt x = (q.2 : Int)) ∨ ((∀ q ∈ cs, ¬ x = (q.1 : Int)) ∧ Op.lookupswitch.offset ps dflt x = dflt)
  | [], [], _, _, x => Or.inr ⟨fun q hq => (by cases hq), rfl⟩
  | a :: r, b :: s, hl, h, x => by
    have h0 := h 0 (by simp)
    simp only [List.getD_cons_zero] at h0
    obtain ⟨a1, a2⟩ := a
    rw [Op.lookupswitch.offset_cons]
    by_cases hx : x = a1
    · refine Or.inl ⟨b, List.mem_cons_self, by rw [hx]; exact h0.1, ?_⟩
      rw [if_pos (by first | exact hx | exact hx.symm | simp [hx])]
      exact h0.2
    · rw [if_neg (by first | exact hx | exact fun z => hx z.symm | simp [hx])]
      have hl2 : r.length = s.length := by simpa using hl
      rcases xlook_off (pc := pc) (dflt := dflt) r s hl2 (fun i hi => by
        have := h (i + 1) (by simpa using hi)
        simpa only [List.getD_cons_succ] using this) x with ⟨q, hq, e1, e2⟩ | ⟨hn, e⟩
      · exact Or.inl ⟨q, List.mem_cons_of_mem _ hq, e1, e2⟩
      · refine Or.inr ⟨fun q hq => ?_, e⟩
        rcases List.mem_cons.mp hq with rfl | hq
        · intro z
          exact hx (z.trans h0.1.symm)
        · exact hn q hq
  | [], _ :: _, hl, _, _ => by simp at hl
  | _ :: _, [], hl, _, _ => by simp at hl
theorem xr_lookN {cc : ByteArray} {own : String} {pc : Nat} {dflt : Int} {ps : Array (Int × Int)} {len df : Nat} {cs : List (Nat × Nat)} (d : decode cc pc = .ok (.lookupswitch dflt ps, len)) (hs : (ps.toList.zip (ps.toList.drop 1)).all (fun (a, next) => a.1 < next.1) = true) (h1 : (pc : Int) + dflt = (df : Int)) (h2 : ps.toList.length = cs.length ∧ ∀ i, i < cs.length → (ps.toList.getD i (0, 0)).1 = ((cs.getD i (0, 0)).1 : Int) ∧ (pc : Int) + (ps.toList.getD i (0, 0)).2 = ((cs.getD i (0, 0)).2 : Int)) (h3 : ∀ q ∈ cs, q.1 < 1000) (h4 : ∀ i, i < cs.length → ∀ j, j < cs.length → (cs.getD i (0, 0)).1 = (cs.getD j (0, 0)).1 → (cs.getD i (0, 0)).2 = (cs.getD j (0, 0)).2) : xSw cc own pc df cs := by
  intro p l e R s m args below meth c H locs cells slots Q ls rest C x h
  have ti : ∀ q ∈ cs, (nI q.1).toInt = (q.1 : Int) := fun q hq => nI_toInt (by have := h3 q hq; omega)
  rcases xlook_off (pc := pc) (dflt := dflt) ps.toList cs h2.1 h2.2 x.toInt with ⟨q, hq, e1, e2⟩ | ⟨hn, e⟩
  · have hxq : x = nI q.1 := Int32.toInt_inj.mp (by rw [ti q hq]; exact e1)
    rcases h with ⟨q', hq', e', hW⟩ | ⟨hn, hW⟩
    · have e3 : q'.1 = q.1 := by
        have := ti q' hq'
        rw [← e', e1] at this
        omega
      obtain ⟨i, hi⟩ := List.getElem?_of_mem hq
      obtain ⟨j, hj⟩ := List.getElem?_of_mem hq'
      have e4 := h4 j (List.getElem?_eq_some_iff.mp hj).1 i (List.getElem?_eq_some_iff.mp hi).1
      rw [List.getD_eq_getElem?_getD, List.getD_eq_getElem?_getD, hi, hj] at e4
      have e5 : q'.2 = q.2 := e4 e3
      rw [e5] at hW
      exact lv_lookup C.1 C.2.1 d hs rfl e2 hW
    · exact absurd hxq (hn q hq)
  · rcases h with ⟨q', hq', e', hW⟩ | ⟨-, hW⟩
    · refine absurd ?_ (hn q' hq')
      rw [e', ti q' hq']
    · exact lv_lookup C.1 C.2.1 d hs e h1 hW
end
section
set_option maxRecDepth 100000 in
set_option maxHeartbeats 4000000 in
theorem xo_245 : ∀ q ∈ xk_245, xok xmt xm_245 q.1 q.2 := xqw_ok (M := xm_245) (G := gx_RX12) gxo_RX12 rfl (hd := [(15, (0, 18, 1000, 0, [])), (36, (0, 39, 1000, 0, [])), (52, (0, 55, 1000, 0, []))]) (by decide +kernel) (by
  refine xcns ?_ <| xcns ?_ <| xcns ?_ <| xnl
  · exact (xr_sipush dX12_tries_15 (by decide +kernel))
  · exact (xr_sipush dX12_tries_36 (by decide +kernel))
  · exact (xr_sipush dX12_tries_52 (by decide +kernel))
)
theorem xmo_245 : xMok xmt xm_245 := ⟨xw_1159, xw_819, ⟨by decide, by decide, by decide +kernel⟩, by decide +kernel, rfl, xo_245⟩
set_option maxRecDepth 100000 in
set_option maxHeartbeats 4000000 in
theorem xo_246 : ∀ q ∈ xk_246, xok xmt xm_246 q.1 q.2 := xqw_ok (M := xm_246) (G := gx_RX12) gxo_RX12 rfl (hd := [(2, (17, 5, 12, 0, [(0, 0)]))]) (by decide +kernel) (by
  refine xcns ?_ <| xnl
  · exact (⟨.int, false, 0, rfl, xr_putf dX12_undo_2 (show vwCl[12]? = some (RX12, TX12, 69) from rfl) (by decide) xin_X12 tyX12_ok nmX12 xw_821 rfl (rfl : tyX12 0 = .int), fun h => (by cases h)⟩)
)
theorem xmo_246 : xMok xmt xm_246 := ⟨xw_1160, xw_819, ⟨by decide, by decide, by decide +kernel⟩, by decide +kernel, rfl, xo_246⟩
set_option maxRecDepth 100000 in
set_option maxHeartbeats 4000000 in
theorem xo_247 : ∀ q ∈ xk_247, xok xmt xm_247 q.1 q.2 := xqw_ok (M := xm_247) (G := gx_RX12) gxo_RX12 rfl (hd := [(2, (17, 5, 12, 0, [(0, 0)])), (7, (28, 10, 196, 12, [])), (33, (28, 36, 189, 12, []))]) (by decide +kernel) (by
  refine xcns ?_ <| xcns ?_ <| xcns ?_ <| xnl
  · exact (⟨.int, false, 0, rfl, xr_putf dX12_verse_2 (show vwCl[12]? = some (RX12, TX12, 69) from rfl) (by decide) xin_X12 tyX12_ok nmX12 xw_821 rfl (rfl : tyX12 0 = .int), fun h => (by cases h)⟩)
  · exact (⟨rfl, _, rfl, ⟨332, dX12_verse_7, xw_829, xw_827, xw_828⟩, _, rfl, rfl⟩)
  · exact (⟨rfl, _, rfl, ⟨344, dX12_verse_33, xw_861, xw_859, xw_860⟩, _, rfl, rfl⟩)
)
theorem xmo_247 : xMok xmt xm_247 := ⟨xw_1161, xw_819, ⟨by decide, by decide, by decide +kernel⟩, by decide +kernel, rfl, xo_247⟩
set_option maxRecDepth 100000 in
set_option maxHeartbeats 4000000 in
theorem xo_248 : ∀ q ∈ xk_248, xok xmt xm_248 q.1 q.2 := xqw_ok (M := xm_248) (G := gx_RX12) gxo_RX12 rfl (hd := [(13, (28, 16, 170, 12, [])), (16, (28, 19, 169, 12, [])), (37, (28, 40, 198, 12, [])), (45, (28, 48, 254, 12, [])), (51, (28, 54, 198, 12, [])), (69, (28, 72, 254, 12, [])), (81, (28, 84, 173, 12, [])), (95, (28, 98, 214, 12, [])), (115, (28, 118, 170, 12, [])), (120, (28, 123, 221, 12, []))]) (by decide +kernel) (by
  refine xcns ?_ <| xcns ?_ <| xcns ?_ <| xcns ?_ <| xcns ?_ <| xcns ?_ <| xcns ?_ <| xcns ?_ <| xcns ?_ <| xcns ?_ <| xnl
  · exact (⟨rfl, _, rfl, ⟨233, dX12_verseLine_13, xw_995, xw_993, xw_994⟩, _, rfl, rfl⟩)
  · exact (⟨rfl, _, rfl, ⟨246, dX12_verseLine_16, xw_1041, xw_1039, xw_1040⟩, _, rfl, rfl⟩)
  · exact (⟨rfl, _, rfl, ⟨279, dX12_verseLine_37, xw_884, xw_882, xw_883⟩, _, rfl, rfl⟩)
  · exact (⟨rfl, _, rfl, ⟨226, dX12_verseLine_45, xw_953, xw_951, xw_952⟩, _, rfl, rfl⟩)
  · exact (⟨rfl, _, rfl, ⟨279, dX12_verseLine_51, xw_884, xw_882, xw_883⟩, _, rfl, rfl⟩)
  · exact (⟨rfl, _, rfl, ⟨226, dX12_verseLine_69, xw_953, xw_951, xw_952⟩, _, rfl, rfl⟩)
  · exact (⟨rfl, _, rfl, ⟨237, dX12_verseLine_81, xw_890, xw_888, xw_889⟩, _, rfl, rfl⟩)
  · exact (⟨rfl, _, rfl, ⟨285, dX12_verseLine_95, xw_1164, xw_1162, xw_1163⟩, _, rfl, rfl⟩)
  · exact (⟨rfl, _, rfl, ⟨233, dX12_verseLine_115, xw_995, xw_993, xw_994⟩, _, rfl, rfl⟩)
  · exact (⟨rfl, _, rfl, ⟨254, dX12_verseLine_120, xw_1047, xw_1045, xw_1046⟩, _, rfl, rfl⟩)
)
theorem xmo_248 : xMok xmt xm_248 := ⟨xw_1165, xw_819, ⟨by decide, by decide, by decide +kernel⟩, by decide +kernel, rfl, xo_248⟩
set_option maxRecDepth 100000 in
set_option maxHeartbeats 4000000 in
theorem xo_249 : ∀ q ∈ xk_249, xok xmt xm_249 q.1 q.2 := xqw_ok (M := xm_249) (G := gx_RX12) gxo_RX12 rfl (hd := [(14, (28, 17, 170, 12, [])), (17, (28, 20, 169, 12, [])), (30, (28, 33, 212, 12, [])), (48, (28, 51, 212, 12, [])), (60, (28, 63, 198, 12, [])), (74, (28, 77, 244, 12, [])), (101, (28, 104, 198, 12, [])), (108, (28, 111, 244, 12, [])), (117, (28, 120, 241, 12, [])), (130, (28, 133, 212, 12, [])), (137, (28, 140, 198, 12, [])), (144, (28, 147, 244, 12, [])), (156, (28, 159, 212, 12, [])), (164, (28, 167, 170, 12, [])), (169, (28, 172, 221, 12, []))]) (by decide +kernel) (by
  refine xcns ?_ <| xcns ?_ <| xcns ?_ <| xcns ?_ <| xcns ?_ <| xcns ?_ <| xcns ?_ <| xcns ?_ <| xcns ?_ <| xcns ?_ <| xcns ?_ <| xcns ?_ <| xcns ?_ <| xcns ?_ <| xcns ?_ <| xnl
  · exact (⟨rfl, _, rfl, ⟨233, dX12_voiceLine_14, xw_995, xw_993, xw_994⟩, _, rfl, rfl⟩)
  · exact (⟨rfl, _, rfl, ⟨246, dX12_voiceLine_17, xw_1041, xw_1039, xw_1040⟩, _, rfl, rfl⟩)
  · exact (⟨rfl, _, rfl, ⟨250, dX12_voiceLine_30, xw_1044, xw_1042, xw_1043⟩, _, rfl, rfl⟩)
  · exact (⟨rfl, _, rfl, ⟨250, dX12_voiceLine_48, xw_1044, xw_1042, xw_1043⟩, _, rfl, rfl⟩)
  · exact (⟨rfl, _, rfl, ⟨279, dX12_voiceLine_60, xw_884, xw_882, xw_883⟩, _, rfl, rfl⟩)
  · exact (⟨rfl, _, rfl, ⟨223, dX12_voiceLine_74, xw_959, xw_957, xw_958⟩, _, rfl, rfl⟩)
  · exact (⟨rfl, _, rfl, ⟨279, dX12_voiceLine_101, xw_884, xw_882, xw_883⟩, _, rfl, rfl⟩)
  · exact (⟨rfl, _, rfl, ⟨223, dX12_voiceLine_108, xw_959, xw_957, xw_958⟩, _, rfl, rfl⟩)
  · exact (⟨rfl, _, rfl, ⟨282, dX12_voiceLine_117, xw_1168, xw_1166, xw_1167⟩, _, rfl, rfl⟩)
  · exact (⟨rfl, _, rfl, ⟨250, dX12_voiceLine_130, xw_1044, xw_1042, xw_1043⟩, _, rfl, rfl⟩)
  · exact (⟨rfl, _, rfl, ⟨279, dX12_voiceLine_137, xw_884, xw_882, xw_883⟩, _, rfl, rfl⟩)
  · exact (⟨rfl, _, rfl, ⟨223, dX12_voiceLine_144, xw_959, xw_957, xw_958⟩, _, rfl, rfl⟩)
  · exact (⟨rfl, _, rfl, ⟨250, dX12_voiceLine_156, xw_1044, xw_1042, xw_1043⟩, _, rfl, rfl⟩)
  · exact (⟨rfl, _, rfl, ⟨233, dX12_voiceLine_164, xw_995, xw_993, xw_994⟩, _, rfl, rfl⟩)
  · exact (⟨rfl, _, rfl, ⟨254, dX12_voiceLine_169, xw_1047, xw_1045, xw_1046⟩, _, rfl, rfl⟩)
)
theorem xmo_249 : xMok xmt xm_249 := ⟨xw_1169, xw_819, ⟨by decide, by decide, by decide +kernel⟩, by decide +kernel, rfl, xo_249⟩
set_option maxRecDepth 100000 in
set_option maxHeartbeats 4000000 in
theorem xo_250 : ∀ q ∈ xk_250, xok xmt xm_250 q.1 q.2 := xqw_ok (M := xm_250) (G := gx_RX12) gxo_RX12 rfl (hd := [(2, (17, 5, 12, 0, [(0, 0)])), (7, (28, 10, 197, 12, [])), (32, (1, 35, 18446744073709551615, 0, [])), (38, (28, 41, 183, 12, [])), (81, (28, 84, 158, 12, [])), (91, (1, 94, 100, 0, [])), (107, (27, 110, 153, 0, []))]) (by decide +kernel) (by
  refine xcns ?_ <| xcns ?_ <| xcns ?_ <| xcns ?_ <| xcns ?_ <| xcns ?_ <| xcns ?_ <| xnl
  · exact (⟨.int, false, 0, rfl, xr_putf dX12_whole_2 (show vwCl[12]? = some (RX12, TX12, 69) from rfl) (by decide) xin_X12 tyX12_ok nmX12 xw_821 rfl (rfl : tyX12 0 = .int), fun h => (by cases h)⟩)
  · exact (⟨rfl, _, rfl, ⟨335, dX12_whole_7, xw_910, xw_908, xw_909⟩, _, rfl, rfl⟩)
  · exact (xr_ldc2 dX12_whole_32 xw_1170)
  · exact (⟨rfl, _, rfl, ⟨338, dX12_whole_38, xw_1002, xw_1000, xw_1001⟩, _, rfl, rfl⟩)
  · exact (⟨rfl, _, rfl, ⟨411, dX12_whole_81, xw_913, xw_911, xw_912⟩, _, rfl, rfl⟩)
  · exact (xr_ldc2 dX12_whole_91 xw_1171)
  · exact (⟨rfl, _, rfl, ⟨482, dX12_whole_107, xw_1076, xw_1077⟩⟩)
)
theorem xmo_250 : xMok xmt xm_250 := ⟨xw_1172, xw_819, ⟨by decide, by decide, by decide +kernel⟩, by decide +kernel, rfl, xo_250⟩
set_option maxRecDepth 100000 in
set_option maxHeartbeats 4000000 in
theorem xo_251 : ∀ q ∈ xk_251, xok xmt xm_251 q.1 q.2 := xqw_ok (M := xm_251) (G := gx_RX12) gxo_RX12 rfl (hd := [(17, (28, 20, 174, 12, [])), (34, (71, 37, 0, 0, [])), (37, (71, 40, 1, 0, []))]) (by decide +kernel) (by
  refine xcns ?_ <| xcns ?_ <| xcns ?_ <| xnl
  · exact (⟨rfl, _, rfl, ⟨368, dX12_within_17, xw_1175, xw_1173, xw_1174⟩, _, rfl, rfl⟩)
  · exact (fun x y => xr_lmin dX12_within_34 xv_25 xv_12 xv_2 xv_13 x y)
  · exact (fun x y => xr_lmax dX12_within_37 xv_22 xv_15 xv_2 xv_16 x y)
)
theorem xmo_251 : xMok xmt xm_251 := ⟨xw_1177, xw_819, ⟨by decide, by decide, by decide +kernel⟩, by decide +kernel, rfl, xo_251⟩
set_option maxRecDepth 100000 in
set_option maxHeartbeats 4000000 in
theorem xo_252 : ∀ q ∈ xk_252, xok xmt xm_252 q.1 q.2 := xqw_ok (M := xm_252) (G := gx_RX12) gxo_RX12 rfl (hd := [(5, (33, 7, 2, 0, [])), (7, (39, 10, 261, 0, [])), (15, (33, 17, 2, 0, [])), (20, (39, 23, 257, 0, [])), (52, (33, 54, 2, 0, [])), (57, (39, 60, 257, 0, [])), (69, (33, 71, 2, 0, [])), (74, (39, 77, 257, 0, [])), (97, (33, 99, 2, 0, [])), (100, (39, 103, 257, 0, []))]) (by decide +kernel) (by
  refine xcns ?_ <| xcns ?_ <| xcns ?_ <| xcns ?_ <| xcns ?_ <| xcns ?_ <| xcns ?_ <| xcns ?_ <| xcns ?_ <| xcns ?_ <| xnl
  · exact (xr_ldcs2 dX12_word_5)
  · exact (⟨rfl, _, rfl, ⟨208, dX12_word_7, xw_1178, xw_710, xw_711⟩, rfl⟩)
  · exact (xr_ldcs2 dX12_word_15)
  · exact (⟨rfl, _, rfl, ⟨213, dX12_word_20, xw_1179, xw_713, xw_714⟩, rfl⟩)
  · exact (xr_ldcs2 dX12_word_52)
  · exact (⟨rfl, _, rfl, ⟨213, dX12_word_57, xw_1179, xw_713, xw_714⟩, rfl⟩)
  · exact (xr_ldcs2 dX12_word_69)
  · exact (⟨rfl, _, rfl, ⟨213, dX12_word_74, xw_1179, xw_713, xw_714⟩, rfl⟩)
  · exact (xr_ldcs2 dX12_word_97)
  · exact (⟨rfl, _, rfl, ⟨213, dX12_word_100, xw_1179, xw_713, xw_714⟩, rfl⟩)
)
theorem xmo_252 : xMok xmt xm_252 := ⟨xw_1180, xw_819, ⟨by decide, by decide, by decide +kernel⟩, by decide +kernel, rfl, xo_252⟩
def xkp_253_0 : List (Nat × xOp) := [(0, (2, 1, 1, 0, [])), (1, (16, 4, 12, 51, [])), (4, (2, 5, 1, 0, [])), (5, (16, 8, 12, 52, [])), (8, (0, 9, 1, 0, [])), (9, (5, 10, 1, 0, [])), (10, (67, 11, 0, 0, [])), (11, (3, 12, 2, 2, [])), (12, (2, 13, 0, 1, [])), (13, (0, 16, 260, 0, [])), (16, (13, 19, 46, 1, [])), (19, (2, 20, 1, 0, [])), (20, (16, 23, 12, 51, [])), (23, (2, 24, 1, 0, [])), (24, (16, 27, 12, 52, [])), (27, (0, 28, 1, 0, [])), (28, (5, 29, 1, 0, [])), (29, (2, 30, 2, 2, [])), (30, (1, 31, 0, 0, [])), (31, (8, 32, 0, 0, [])), (32, (12, 35, 39, 1, [])), (35, (0, 36, 1, 0, [])), (36, (14, 40, 0, 0, [])), (39, (0, 40, 0, 0, [])), (40, (27, 43, 181, 0, [])), (43, (68, 44, 0, 0, [])), (44, (0, 45, 1, 0, [])), (45, (30, 46, 0, 3, [])), (46, (2, 47, 1, 0, [])), (47, (16, 50, 12, 51, [])), (50, (2, 51, 1, 0, [])), (51, (16, 54, 12, 52, [])), (54, (0, 55, 2, 0, [])), (55, (5, 56, 1, 0, [])), (56, (67, 57, 0, 0, [])), (57, (3, 59, 2, 4, [])), (59, (2, 60, 1, 0, [])), (60, (9, 61, 0, 0, [])), (61, (16, 64, 12, 52, [])), (64, (0, 65, 1, 0, [])), (65, (5, 66, 1, 0, [])), (66, (17, 69, 12, 52, [(0, 0)])), (69, (2, 70, 0, 1, [])), (70, (15, 0, 384, 0, [(42, 186), (43, 168), (45, 177), (47, 221), (60, 238), (61, 278), (62, 258), (256, 298), (257, 338), (258, 318), (261, 358)])), (168, (2, 170, 2, 4, [])), (170, (2, 171, 2, 2, [])), (171, (60, 172, 0, 0, [])), (172, (3, 174, 2, 6, [])), (174, (14, 407, 0, 0, [])), (177, (2, 179, 2, 4, [])), (179, (2, 180, 2, 2, [])), (180, (60, 181, 1, 0, [])), (181, (3, 183, 2, 6, [])), (183, (14, 407, 0, 0, [])), (186, (2, 188, 2, 4, [])), (188, (1, 189, 0, 0, [])), (189, (8, 190, 0, 0, [])), (190, (12, 193, 212, 0, [])), (193, (2, 194, 2, 2, [])), (194, (72, 197, 0, 0, [])), (197, (1, 200, 1000000000000, 0, [])), (200, (2, 202, 2, 4, [])), (202, (72, 205, 0, 0, [])), (205, (61, 206, 9, 0, [])), (206, (8, 207, 0, 0, [])), (207, (12, 210, 212, 5, [])), (210, (0, 211, 0, 0, [])), (211, (30, 212, 0, 3, [])), (212, (2, 214, 2, 4, [])), (214, (2, 215, 2, 2, [])), (215, (60, 216, 2, 0, [])), (216, (3, 218, 2, 6, [])), (218, (14, 407, 0, 0, [])), (221, (2, 222, 2, 2, [])), (222, (1, 223, 0, 0, [])), (223, (8, 224, 0, 0, [])), (224, (12, 227, 229, 1, [])), (227, (0, 228, 0, 0, [])), (228, (30, 229, 0, 3, [])), (229, (2, 231, 2, 4, [])), (231, (2, 232, 2, 2, [])), (232, (61, 233, 9, 0, [])), (233, (3, 235, 2, 6, [])), (235, (14, 407, 0, 0, [])), (238, (2, 240, 2, 4, [])), (240, (2, 241, 2, 2, [])), (241, (8, 242, 0, 0, [])), (242, (12, 245, 249, 3, [])), (245, (0, 246, 1, 0, [])), (246, (14, 250, 0, 0, [])), (249, (0, 250, 0, 0, [])), (250, (27, 253, 181, 0, [])), (253, (3, 255, 2, 6, [])), (255, (14, 407, 0, 0, [])), (258, (2, 260, 2, 4, [])), (260, (2, 261, 2, 2, [])), (261, (8, 262, 0, 0, [])), (262, (12, 265, 269, 5, [])), (265, (0, 266, 1, 0, [])), (266, (14, 270, 0, 0, [])), (269, (0, 270, 0, 0, [])), (270, (27, 273, 181, 0, [])), (273, (3, 275, 2, 6, [])), (275, (14, 407, 0, 0, [])), (278, (2, 280, 2, 4, [])), (280, (2, 281, 2, 2, [])), (281, (8, 282, 0, 0, [])), (282, (12, 285, 289, 1, [])), (285, (0, 286, 1, 0, [])), (286, (14, 290, 0, 0, [])), (289, (0, 290, 0, 0, [])), (290, (27, 293, 181, 0, [])), (293, (3, 295, 2, 6, [])), (295, (14, 407, 0, 0, [])), (298, (2, 300, 2, 4, [])), (300, (2, 301, 2, 2, [])), (301, (8, 302, 0, 0, [])), (302, (12, 305, 309, 4, [])), (305, (0, 306, 1, 0, [])), (306, (14, 310, 0, 0, []))]
set_option maxRecDepth 100000 in
set_option maxHeartbeats 4000000 in
theorem xop_253_0 : ∀ q ∈ xkp_253_0, xok xmt xm_253 q.1 q.2 := xqw_ok (M := xm_253) (G := gx_RX12) gxo_RX12 rfl (hd := [(13, (0, 16, 260, 0, [])), (40, (27, 43, 181, 0, [])), (66, (17, 69, 12, 52, [(0, 0)])), (70, (15, 0, 384, 0, [(42, 186), (43, 168), (45, 177), (47, 221), (60, 238), (61, 278), (62, 258), (256, 298), (257, 338), (258, 318), (261, 358)])), (194, (72, 197, 0, 0, [])), (197, (1, 200, 1000000000000, 0, [])), (202, (72, 205, 0, 0, [])), (250, (27, 253, 181, 0, [])), (270, (27, 273, 181, 0, [])), (290, (27, 293, 181, 0, []))]) (by decide +kernel) (by
  refine xcns ?_ <| xcns ?_ <| xcns ?_ <| xcns ?_ <| xcns ?_ <| xcns ?_ <| xcns ?_ <| xcns ?_ <| xcns ?_ <| xcns ?_ <| xnl
  · exact (xr_sipush dX12_works_13 (by decide +kernel))
  · exact (⟨rfl, _, rfl, ⟨351, dX12_works_40, xw_1181, xw_1182⟩⟩)
  · exact (⟨.int, false, 0, rfl, xr_putf dX12_works_66 (show vwCl[12]? = some (RX12, TX12, 69) from rfl) (by decide) xin_X12 tyX12_ok nmX12 xw_971 rfl (rfl : tyX12 52 = .int), fun h => (by cases h)⟩)
  · exact (xr_lookN dX12_works_70 (by decide) (by decide) (by decide) (by decide) (by decide))
  · exact (fun x => xr_labs dX12_works_194 xv_26 xv_18 xv_2 xv_19 x)
  · exact (xr_ldc2 dX12_works_197 xw_1184)
  · exact (fun x => xr_labs dX12_works_202 xv_26 xv_18 xv_2 xv_19 x)
  · exact (⟨rfl, _, rfl, ⟨351, dX12_works_250, xw_1181, xw_1182⟩⟩)
  · exact (⟨rfl, _, rfl, ⟨351, dX12_works_270, xw_1181, xw_1182⟩⟩)
  · exact (⟨rfl, _, rfl, ⟨351, dX12_works_290, xw_1181, xw_1182⟩⟩)
)
def xkp_253_1 : List (Nat × xOp) := [(309, (0, 310, 0, 0, [])), (310, (27, 313, 181, 0, [])), (313, (3, 315, 2, 6, [])), (315, (14, 407, 0, 0, [])), (318, (2, 320, 2, 4, [])), (320, (2, 321, 2, 2, [])), (321, (8, 322, 0, 0, [])), (322, (12, 325, 329, 2, [])), (325, (0, 326, 1, 0, [])), (326, (14, 330, 0, 0, [])), (329, (0, 330, 0, 0, [])), (330, (27, 333, 181, 0, [])), (333, (3, 335, 2, 6, [])), (335, (14, 407, 0, 0, [])), (338, (2, 340, 2, 4, [])), (340, (2, 341, 2, 2, [])), (341, (8, 342, 0, 0, [])), (342, (12, 345, 349, 0, [])), (345, (0, 346, 1, 0, [])), (346, (14, 350, 0, 0, [])), (349, (0, 350, 0, 0, [])), (350, (27, 353, 181, 0, [])), (353, (3, 355, 2, 6, [])), (355, (14, 407, 0, 0, [])), (358, (2, 360, 2, 4, [])), (360, (1, 361, 0, 0, [])), (361, (8, 362, 0, 0, [])), (362, (12, 365, 375, 0, [])), (365, (2, 366, 2, 2, [])), (366, (1, 367, 0, 0, [])), (367, (8, 368, 0, 0, [])), (368, (12, 371, 375, 0, [])), (371, (0, 372, 1, 0, [])), (372, (14, 376, 0, 0, [])), (375, (0, 376, 0, 0, [])), (376, (27, 379, 181, 0, [])), (379, (3, 381, 2, 6, [])), (381, (14, 407, 0, 0, [])), (384, (2, 386, 2, 4, [])), (386, (1, 387, 0, 0, [])), (387, (8, 388, 0, 0, [])), (388, (12, 391, 397, 1, [])), (391, (2, 392, 2, 2, [])), (392, (1, 393, 0, 0, [])), (393, (8, 394, 0, 0, [])), (394, (12, 397, 401, 0, [])), (397, (0, 398, 1, 0, [])), (398, (14, 402, 0, 0, [])), (401, (0, 402, 0, 0, [])), (402, (27, 405, 181, 0, [])), (405, (3, 407, 2, 6, [])), (407, (2, 408, 1, 0, [])), (408, (16, 411, 12, 51, [])), (411, (2, 412, 1, 0, [])), (412, (16, 415, 12, 52, [])), (415, (0, 416, 1, 0, [])), (416, (5, 417, 1, 0, [])), (417, (2, 419, 2, 6, [])), (419, (68, 420, 0, 0, [])), (420, (2, 422, 2, 6, [])), (422, (1, 425, 1000000000000, 0, [])), (425, (8, 426, 0, 0, [])), (426, (12, 429, 442, 4, [])), (429, (2, 431, 2, 6, [])), (431, (1, 434, 18446743073709551616, 0, [])), (434, (8, 435, 0, 0, [])), (435, (12, 438, 442, 2, [])), (438, (0, 439, 1, 0, [])), (439, (14, 443, 0, 0, [])), (442, (0, 443, 0, 0, [])), (443, (30, 0, 0, 3, []))]
set_option maxRecDepth 100000 in
set_option maxHeartbeats 4000000 in
theorem xop_253_1 : ∀ q ∈ xkp_253_1, xok xmt xm_253 q.1 q.2 := xqw_ok (M := xm_253) (G := gx_RX12) gxo_RX12 rfl (hd := [(310, (27, 313, 181, 0, [])), (330, (27, 333, 181, 0, [])), (350, (27, 353, 181, 0, [])), (376, (27, 379, 181, 0, [])), (402, (27, 405, 181, 0, [])), (422, (1, 425, 1000000000000, 0, [])), (431, (1, 434, 18446743073709551616, 0, []))]) (by decide +kernel) (by
  refine xcns ?_ <| xcns ?_ <| xcns ?_ <| xcns ?_ <| xcns ?_ <| xcns ?_ <| xcns ?_ <| xnl
  · exact (⟨rfl, _, rfl, ⟨351, dX12_works_310, xw_1181, xw_1182⟩⟩)
  · exact (⟨rfl, _, rfl, ⟨351, dX12_works_330, xw_1181, xw_1182⟩⟩)
  · exact (⟨rfl, _, rfl, ⟨351, dX12_works_350, xw_1181, xw_1182⟩⟩)
  · exact (⟨rfl, _, rfl, ⟨351, dX12_works_376, xw_1181, xw_1182⟩⟩)
  · exact (⟨rfl, _, rfl, ⟨351, dX12_works_402, xw_1181, xw_1182⟩⟩)
  · exact (xr_ldc2 dX12_works_422 xw_1184)
  · exact (xr_ldc2 dX12_works_431 xw_1185)
)
set_option maxRecDepth 1000000 in
theorem xoe_253 : xk_253 = xkp_253_0 ++ (xkp_253_1) := rfl
theorem xo_253 : ∀ q ∈ xk_253, xok xmt xm_253 q.1 q.2 := by
  rw [xoe_253]
  exact List.forall_mem_append.mpr ⟨xop_253_0, xop_253_1⟩
theorem xmo_253 : xMok xmt xm_253 := ⟨xw_1186, xw_819, ⟨by decide, by decide, by decide +kernel⟩, by decide +kernel, rfl, xo_253⟩
set_option maxRecDepth 100000 in
set_option maxHeartbeats 4000000 in
theorem xo_254 : ∀ q ∈ xk_254, xok xmt xm_254 q.1 q.2 := xqw_ok (M := xm_254) (G := gx_RX12) gxo_RX12 rfl (hd := [(10, (17, 13, 12, 31, [(0, 0)])), (18, (17, 21, 12, 32, [(0, 0)]))]) (by decide +kernel) (by
  refine xcns ?_ <| xcns ?_ <| xnl
  · exact (⟨.int, false, 0, rfl, xr_putf dX12_wrong_10 (show vwCl[12]? = some (RX12, TX12, 69) from rfl) (by decide) xin_X12 tyX12_ok nmX12 xw_949 rfl (rfl : tyX12 31 = .int), fun h => (by cases h)⟩)
  · exact (⟨.int, false, 0, rfl, xr_putf dX12_wrong_18 (show vwCl[12]? = some (RX12, TX12, 69) from rfl) (by decide) xin_X12 tyX12_ok nmX12 xw_1134 rfl (rfl : tyX12 32 = .int), fun h => (by cases h)⟩)
)
theorem xmo_254 : xMok xmt xm_254 := ⟨xw_1187, xw_819, ⟨by decide, by decide, by decide +kernel⟩, by decide +kernel, rfl, xo_254⟩
set_option maxRecDepth 100000 in
set_option maxHeartbeats 4000000 in
theorem xo_255 : ∀ q ∈ xk_255, xok xmt xm_255 q.1 q.2 := xqw_ok (M := xm_255) (G := []) (own := xMo xm_255) xnl rfl (hd := [(4, (0, 7, 1431655765, 0, [])), (11, (0, 14, 858993459, 0, [])), (18, (0, 21, 858993459, 0, [])), (29, (0, 32, 252645135, 0, []))]) (by decide +kernel) (by
  refine xcns ?_ <| xcns ?_ <| xcns ?_ <| xcns ?_ <| xnl
  · exact (xr_ldcw dJ6_bitCount_0f7a4_4 xw_1188)
  · exact (xr_ldcw dJ6_bitCount_0f7a4_11 xw_1189)
  · exact (xr_ldcw dJ6_bitCount_0f7a4_18 xw_1189)
  · exact (xr_ldcw dJ6_bitCount_0f7a4_29 xw_1190)
)
theorem xmo_255 : xMok xmt xm_255 := ⟨xw_1191, xw_1192, ⟨by decide, by decide, by decide +kernel⟩, by decide +kernel, rfl, xo_255⟩
end
section
set_option maxRecDepth 100000 in
set_option maxHeartbeats 4000000 in
theorem xo_256 : ∀ q ∈ xk_256, xok xmt xm_256 q.1 q.2 := xqw_ok (M := xm_256) (G := []) (own := xMo xm_256) xnl rfl (hd := [(4, (1, 7, 6148914691236517205, 0, [])), (11, (1, 14, 3689348814741910323, 0, [])), (18, (1, 21, 3689348814741910323, 0, [])), (29, (1, 32, 1085102592571150095, 0, []))]) (by decide +kernel) (by
  refine xcns ?_ <| xcns ?_ <| xcns ?_ <| xcns ?_ <| xnl
  · exact (xr_ldc2 dJ13_bitCount_95d88_4 xw_1193)
  · exact (xr_ldc2 dJ13_bitCount_95d88_11 xw_1194)
  · exact (xr_ldc2 dJ13_bitCount_95d88_18 xw_1194)
  · exact (xr_ldc2 dJ13_bitCount_95d88_29 xw_1195)
)
theorem xmo_256 : xMok xmt xm_256 := ⟨xw_1196, xw_1197, ⟨by decide, by decide, by decide +kernel⟩, by decide +kernel, rfl, xo_256⟩
set_option maxRecDepth 100000 in
set_option maxHeartbeats 4000000 in
theorem xo_257 : ∀ q ∈ xk_257, xok xmt xm_257 q.1 q.2 := xqw_ok (M := xm_257) (G := []) (own := xMo xm_257) xnl rfl (hd := [(1, (39, 4, 260, 0, [])), (8, (35, 11, 0, 0, [])), (12, (27, 15, 262, 0, [])), (15, (40, 16, 0, 5, [])), (17, (35, 20, 0, 0, [])), (24, (40, 0, 0, 5, []))]) (by decide +kernel) (by
  refine xcns ?_ <| xcns ?_ <| xcns ?_ <| xcns ?_ <| xcns ?_ <| xcns ?_ <| xnl
  · exact (⟨rfl, _, rfl, ⟨492, dJ0_charAt_5068e_1, xw_1206, xw_1204, xw_1205⟩, rfl⟩)
  · exact (xr_strf_value dJ0_charAt_5068e_8 xw_1207)
  · exact (⟨rfl, _, rfl, ⟨495, dJ0_charAt_5068e_12, xw_1208, xw_1209⟩⟩)
  · exact (⟨dJ0_charAt_5068e_15, .char, rfl, Or.inl ⟨rfl, rfl⟩⟩)
  · exact (xr_strf_value dJ0_charAt_5068e_17 xw_1207)
  · exact (⟨dJ0_charAt_5068e_24, .char, rfl, Or.inl ⟨rfl, rfl⟩⟩)
)
theorem xmo_257 : xMok xmt xm_257 := ⟨xw_1210, xw_1211, ⟨by decide, by decide, by decide +kernel⟩, by decide +kernel, rfl, xo_257⟩
set_option maxRecDepth 100000 in
set_option maxHeartbeats 4000000 in
theorem xo_258 : ∀ q ∈ xk_258, xok xmt xm_258 q.1 q.2 := xqw_ok (M := xm_258) (G := []) (own := xMo xm_258) xnl rfl (hd := [(2, (41, 5, 0, 0, [])), (5, (27, 8, 264, 0, []))]) (by decide +kernel) (by
  refine xcns ?_ <| xcns ?_ <| xnl
  · exact (xr_sioobe dJ0_checkIndex_df160_2 xw_1212)
  · exact (⟨rfl, _, rfl, ⟨1059, dJ0_checkIndex_df160_5, xw_1213, xw_1214⟩⟩)
)
theorem xmo_258 : xMok xmt xm_258 := ⟨xw_1215, xw_1211, ⟨by decide, by decide, by decide +kernel⟩, by decide +kernel, rfl, xo_258⟩
set_option maxRecDepth 100000 in
set_option maxHeartbeats 4000000 in
theorem xo_259 : ∀ q ∈ xk_259, xok xmt xm_259 q.1 q.2 := xqw_ok (M := xm_259) (G := []) (own := xMo xm_259) xnl rfl (hd := [(0, (34, 3, 1, 0, [])), (7, (35, 10, 1, 0, [])), (14, (40, 0, 0, 1, []))]) (by decide +kernel) (by
  refine xcns ?_ <| xcns ?_ <| xcns ?_ <| xnl
  · exact (xr_compact dJ0_coder_7d493_0 xw_1216)
  · exact (xr_strf_coder dJ0_coder_7d493_7 xw_1217)
  · exact (⟨dJ0_coder_7d493_14, .byte, rfl, Or.inr ⟨rfl, rfl⟩⟩)
)
theorem xmo_259 : xMok xmt xm_259 := ⟨xw_1218, xw_1211, ⟨by decide, by decide, by decide +kernel⟩, by decide +kernel, rfl, xo_259⟩
set_option maxRecDepth 100000 in
set_option maxHeartbeats 4000000 in
theorem xo_260 : ∀ q ∈ xk_260, xok xmt xm_260 q.1 q.2 := xqw_ok (M := xm_260) (G := []) (own := xMo xm_260) xnl rfl (hd := [(0, (34, 3, 1, 0, [])), (7, (35, 10, 1, 0, []))]) (by decide +kernel) (by
  refine xcns ?_ <| xcns ?_ <| xnl
  · exact (xr_compact dJ0_isLatin1_aae02_0 xw_1216)
  · exact (xr_strf_coder dJ0_isLatin1_aae02_7 xw_1217)
)
theorem xmo_260 : xMok xmt xm_260 := ⟨xw_1219, xw_1211, ⟨by decide, by decide, by decide +kernel⟩, by decide +kernel, rfl, xo_260⟩
set_option maxRecDepth 100000 in
set_option maxHeartbeats 4000000 in
theorem xo_261 : ∀ q ∈ xk_261, xok xmt xm_261 q.1 q.2 := xqw_ok (M := xm_261) (G := []) (own := xMo xm_261) xnl rfl (hd := [(1, (35, 4, 0, 0, [])), (6, (39, 9, 259, 0, []))]) (by decide +kernel) (by
  refine xcns ?_ <| xcns ?_ <| xnl
  · exact (xr_strf_value dJ0_length_8abf5_1 xw_1207)
  · exact (⟨rfl, _, rfl, ⟨335, dJ0_length_8abf5_6, xw_1222, xw_1220, xw_1221⟩, rfl⟩)
)
theorem xmo_261 : xMok xmt xm_261 := ⟨xw_1223, xw_1211, ⟨by decide, by decide, by decide +kernel⟩, by decide +kernel, rfl, xo_261⟩
set_option maxRecDepth 100000 in
set_option maxHeartbeats 4000000 in
theorem xo_262 : ∀ q ∈ xk_262, xok xmt xm_262 q.1 q.2 := xqw_ok (M := xm_262) (G := []) (own := xMo xm_262) xnl rfl (hd := [(3, (27, 6, 258, 0, [])), (8, (37, 9, 0, 0, [])), (9, (0, 12, 255, 0, [])), (14, (40, 0, 0, 5, []))]) (by decide +kernel) (by
  refine xcns ?_ <| xcns ?_ <| xcns ?_ <| xcns ?_ <| xnl
  · exact (⟨rfl, _, rfl, ⟨9, dJ1_charAt_3b067_3, xw_1224, xw_1225⟩⟩)
  · exact (xr_strb dJ1_charAt_3b067_8)
  · exact (xr_sipush dJ1_charAt_3b067_9 (by decide +kernel))
  · exact (⟨dJ1_charAt_3b067_14, .char, rfl, Or.inl ⟨rfl, rfl⟩⟩)
)
theorem xmo_262 : xMok xmt xm_262 := ⟨xw_1226, xw_1227, ⟨by decide, by decide, by decide +kernel⟩, by decide +kernel, rfl, xo_262⟩
set_option maxRecDepth 100000 in
set_option maxHeartbeats 4000000 in
theorem xo_263 : ∀ q ∈ xk_263, xok xmt xm_263 q.1 q.2 := xqw_ok (M := xm_263) (G := []) (own := xMo xm_263) xnl rfl (hd := []) (by decide +kernel) (xnl)
theorem xmo_263 : xMok xmt xm_263 := ⟨xw_1228, xw_1229, ⟨by decide, by decide, by decide +kernel⟩, by decide +kernel, rfl, xo_263⟩
set_option maxRecDepth 100000 in
set_option maxHeartbeats 4000000 in
theorem xo_264 : ∀ q ∈ xk_264, xok xmt xm_264 q.1 q.2 := xqw_ok (M := xm_264) (G := []) (own := xMo xm_264) xnl rfl (hd := []) (by decide +kernel) (xnl)
theorem xmo_264 : xMok xmt xm_264 := ⟨xw_1230, xw_1231, ⟨by decide, by decide, by decide +kernel⟩, by decide +kernel, rfl, xo_264⟩
set_option maxRecDepth 100000 in
set_option maxHeartbeats 4000000 in
theorem xo_L0 : ∀ q ∈ xk_L0, xok xmt xm_L0 q.1 q.2 := xqw_ok (M := xm_L0) (G := []) (own := xMo xm_L0) xnl rfl (hd := [(0, (22, 3, 11, 15, [(2, 0), (2, 0), (2, 0), (2, 0), (2, 0), (2, 0), (2, 0), (2, 0), (2, 0), (2, 0), (2, 0), (0, 0), (0, 0), (0, 0), (0, 0)])), (4, (29, 7, 0, 0, [])), (8, (22, 11, 12, 69, [(0, 0), (2, 0), (0, 0), (2, 0), (2, 0), (2, 0), (2, 0), (2, 0), (2, 0), (2, 0), (2, 0), (2, 0), (2, 0), (2, 0), (2, 0), (2, 0), (2, 0), (2, 0), (2, 0), (2, 0), (2, 0), (2, 0), (2, 0), (2, 0), (0, 0), (0, 0), (0, 0), (0, 0), (0, 0), (0, 0), (0, 0), (0, 0), (0, 0), (0, 0), (0, 0), (0, 0), (0, 0), (2, 0), (2, 0), (2, 0), (2, 0), (2, 0), (2, 0), (2, 0), (2, 0), (2, 0), (2, 0), (2, 0), (2, 0), (0, 0), (2, 0), (2, 0), (0, 0), (2, 0), (2, 0), (2, 0), (2, 0), (2, 0), (2, 0), (0, 0), (0, 0), (0, 0), (0, 0), (2, 0), (2, 0), (2, 0), (2, 0), (2, 0), (0, 0)])), (12, (29, 15, 142, 0, [])), (17, (23, 19, 2, 0, []))]) (by decide +kernel) (by
  refine xcns ?_ <| xcns ?_ <| xcns ?_ <| xcns ?_ <| xcns ?_ <| xnl
  · exact (xr_new dL_law_0 (show vwCl[11]? = some (RX11, TX11, 15) from rfl) xin_X11 tyX11_ok xw_1232 xw_1233 xw_64 _ (by decide +kernel))
  · exact (⟨rfl, _, rfl, ⟨17, dL_law_4, rfl, rfl, xw_1234, Or.inl xw_1235⟩⟩)
  · exact (xr_new dL_law_8 (show vwCl[12]? = some (RX12, TX12, 69) from rfl) xin_X12 tyX12_ok xw_1236 xw_1237 xw_819 _ (by decide +kernel))
  · exact (⟨rfl, _, rfl, ⟨20, dL_law_12, rfl, rfl, xw_1238, Or.inl xw_1239⟩⟩)
  · exact (⟨by decide, xr_newa dL_law_17 rfl xw_478⟩)
)
def xkp_L1_0 : List (Nat × xOp) := [(23, (2, 25, 0, 4, [])), (25, (2, 26, 1, 0, [])), (26, (42, 27, 0, 0, [])), (27, (0, 29, 6, 0, [])), (29, (5, 30, 1, 0, [])), (30, (13, 33, 1428, 4, [])), (33, (2, 34, 1, 0, [])), (34, (2, 36, 0, 4, [])), (36, (43, 37, 0, 0, [])), (37, (0, 39, 63, 0, [])), (39, (5, 40, 3, 0, [])), (40, (15, 0, 1422, 0, [(0, 196), (1, 269), (2, 294), (3, 319), (4, 356), (5, 396), (6, 433), (7, 470), (8, 519), (9, 568), (10, 617), (11, 654), (12, 679), (13, 728), (14, 741), (15, 778), (16, 815), (17, 828), (18, 865), (19, 914), (20, 963), (21, 988), (22, 1013), (23, 1038), (24, 1063), (25, 1076), (26, 1113), (27, 1126), (28, 1187), (29, 1260), (30, 1297), (31, 1322), (32, 1371), (33, 1384), (34, 1397)])), (196, (2, 197, 1, 1, [])), (197, (2, 198, 1, 0, [])), (198, (2, 200, 0, 4, [])), (200, (0, 201, 1, 0, [])), (201, (5, 202, 0, 0, [])), (202, (43, 203, 0, 0, [])), (203, (2, 204, 1, 0, [])), (204, (2, 206, 0, 4, [])), (206, (0, 207, 2, 0, [])), (207, (5, 208, 0, 0, [])), (208, (43, 209, 0, 0, [])), (209, (2, 210, 1, 0, [])), (210, (2, 212, 0, 4, [])), (212, (0, 213, 3, 0, [])), (213, (5, 214, 0, 0, [])), (214, (43, 215, 0, 0, [])), (215, (2, 216, 1, 0, [])), (216, (2, 218, 0, 4, [])), (218, (0, 219, 4, 0, [])), (219, (5, 220, 0, 0, [])), (220, (43, 221, 0, 0, [])), (221, (2, 222, 1, 0, [])), (222, (2, 224, 0, 4, [])), (224, (0, 225, 5, 0, [])), (225, (5, 226, 0, 0, [])), (226, (43, 227, 0, 0, [])), (227, (28, 230, 14, 11, [])), (230, (10, 231, 0, 0, [])), (231, (2, 232, 1, 2, [])), (232, (2, 233, 1, 0, [])), (233, (2, 235, 0, 4, [])), (235, (0, 236, 1, 0, [])), (236, (5, 237, 0, 0, [])), (237, (43, 238, 0, 0, [])), (238, (2, 239, 1, 0, [])), (239, (2, 241, 0, 4, [])), (241, (0, 242, 2, 0, [])), (242, (5, 243, 0, 0, [])), (243, (43, 244, 0, 0, [])), (244, (2, 245, 1, 0, [])), (245, (2, 247, 0, 4, [])), (247, (0, 248, 3, 0, [])), (248, (5, 249, 0, 0, [])), (249, (43, 250, 0, 0, [])), (250, (2, 251, 1, 0, [])), (251, (2, 253, 0, 4, [])), (253, (0, 254, 4, 0, [])), (254, (5, 255, 0, 0, [])), (255, (43, 256, 0, 0, [])), (256, (2, 257, 1, 0, [])), (257, (2, 259, 0, 4, [])), (259, (0, 260, 5, 0, [])), (260, (5, 261, 0, 0, [])), (261, (43, 262, 0, 0, [])), (262, (28, 265, 167, 12, [])), (265, (10, 266, 0, 0, [])), (266, (14, 1422, 0, 0, [])), (269, (2, 270, 1, 1, [])), (270, (2, 271, 1, 0, [])), (271, (2, 273, 0, 4, [])), (273, (0, 274, 1, 0, [])), (274, (5, 275, 0, 0, [])), (275, (43, 276, 0, 0, [])), (276, (28, 279, 41, 11, [])), (279, (10, 280, 0, 0, [])), (280, (2, 281, 1, 2, [])), (281, (2, 282, 1, 0, [])), (282, (2, 284, 0, 4, [])), (284, (0, 285, 1, 0, [])), (285, (5, 286, 0, 0, [])), (286, (43, 287, 0, 0, [])), (287, (28, 290, 242, 12, [])), (290, (10, 291, 0, 0, [])), (291, (14, 1422, 0, 0, [])), (294, (2, 295, 1, 1, [])), (295, (2, 296, 1, 0, [])), (296, (2, 298, 0, 4, [])), (298, (0, 299, 1, 0, [])), (299, (5, 300, 0, 0, [])), (300, (43, 301, 0, 0, [])), (301, (28, 304, 13, 11, [])), (304, (10, 305, 0, 0, [])), (305, (2, 306, 1, 2, [])), (306, (2, 307, 1, 0, [])), (307, (2, 309, 0, 4, [])), (309, (0, 310, 1, 0, [])), (310, (5, 311, 0, 0, [])), (311, (43, 312, 0, 0, [])), (312, (28, 315, 166, 12, [])), (315, (10, 316, 0, 0, [])), (316, (14, 1422, 0, 0, [])), (319, (2, 320, 1, 1, [])), (320, (2, 321, 1, 0, [])), (321, (2, 323, 0, 4, [])), (323, (0, 324, 1, 0, [])), (324, (5, 325, 0, 0, [])), (325, (43, 326, 0, 0, [])), (326, (2, 327, 1, 0, [])), (327, (2, 329, 0, 4, [])), (329, (0, 330, 2, 0, [])), (330, (5, 331, 0, 0, [])), (331, (43, 332, 0, 0, [])), (332, (28, 335, 22, 11, [])), (335, (10, 336, 0, 0, [])), (336, (2, 337, 1, 2, [])), (337, (2, 338, 1, 0, [])), (338, (2, 340, 0, 4, [])), (340, (0, 341, 1, 0, []))]
set_option maxRecDepth 100000 in
set_option maxHeartbeats 4000000 in
theorem xop_L1_0 : ∀ q ∈ xkp_L1_0, xok xmt xm_L1 q.1 q.2 := xqw_ok (M := xm_L1) (G := []) (own := xMo xm_L1) xnl rfl (hd := [(40, (15, 0, 1422, 0, [(0, 196), (1, 269), (2, 294), (3, 319), (4, 356), (5, 396), (6, 433), (7, 470), (8, 519), (9, 568), (10, 617), (11, 654), (12, 679), (13, 728), (14, 741), (15, 778), (16, 815), (17, 828), (18, 865), (19, 914), (20, 963), (21, 988), (22, 1013), (23, 1038), (24, 1063), (25, 1076), (26, 1113), (27, 1126), (28, 1187), (29, 1260), (30, 1297), (31, 1322), (32, 1371), (33, 1384), (34, 1397)])), (227, (28, 230, 14, 11, [])), (262, (28, 265, 167, 12, [])), (276, (28, 279, 41, 11, [])), (287, (28, 290, 242, 12, [])), (301, (28, 304, 13, 11, [])), (312, (28, 315, 166, 12, [])), (332, (28, 335, 22, 11, []))]) (by decide +kernel) (by
  refine xcns ?_ <| xcns ?_ <| xcns ?_ <| xcns ?_ <| xcns ?_ <| xcns ?_ <| xcns ?_ <| xcns ?_ <| xnl
  · exact (xr_table dL_law_40 (by decide) (by decide) (by decide))
  · exact (⟨rfl, _, rfl, ⟨21, dL_law_227, xw_1242, xw_1240, xw_1241⟩, _, rfl, rfl⟩)
  · exact (⟨rfl, _, rfl, ⟨25, dL_law_262, xw_1245, xw_1243, xw_1244⟩, _, rfl, rfl⟩)
  · exact (⟨rfl, _, rfl, ⟨26, dL_law_276, xw_1248, xw_1246, xw_1247⟩, _, rfl, rfl⟩)
  · exact (⟨rfl, _, rfl, ⟨30, dL_law_287, xw_1251, xw_1249, xw_1250⟩, _, rfl, rfl⟩)
  · exact (⟨rfl, _, rfl, ⟨31, dL_law_301, xw_1254, xw_1252, xw_1253⟩, _, rfl, rfl⟩)
  · exact (⟨rfl, _, rfl, ⟨34, dL_law_312, xw_1257, xw_1255, xw_1256⟩, _, rfl, rfl⟩)
  · exact (⟨rfl, _, rfl, ⟨35, dL_law_332, xw_1260, xw_1258, xw_1259⟩, _, rfl, rfl⟩)
)
def xkp_L1_1 : List (Nat × xOp) := [(341, (5, 342, 0, 0, [])), (342, (43, 343, 0, 0, [])), (343, (2, 344, 1, 0, [])), (344, (2, 346, 0, 4, [])), (346, (0, 347, 2, 0, [])), (347, (5, 348, 0, 0, [])), (348, (43, 349, 0, 0, [])), (349, (28, 352, 210, 12, [])), (352, (10, 353, 0, 0, [])), (353, (14, 1422, 0, 0, [])), (356, (2, 357, 1, 1, [])), (357, (2, 358, 1, 0, [])), (358, (2, 360, 0, 4, [])), (360, (0, 361, 1, 0, [])), (361, (5, 362, 0, 0, [])), (362, (43, 363, 0, 0, [])), (363, (2, 364, 1, 0, [])), (364, (2, 366, 0, 4, [])), (366, (0, 367, 2, 0, [])), (367, (5, 368, 0, 0, [])), (368, (43, 369, 0, 0, [])), (369, (2, 370, 1, 3, [])), (370, (50, 373, 0, 0, [])), (373, (3, 375, 0, 5, [])), (375, (2, 376, 1, 2, [])), (376, (2, 377, 1, 0, [])), (377, (2, 379, 0, 4, [])), (379, (0, 380, 1, 0, [])), (380, (5, 381, 0, 0, [])), (381, (43, 382, 0, 0, [])), (382, (2, 383, 1, 0, [])), (383, (2, 385, 0, 4, [])), (385, (0, 386, 2, 0, [])), (386, (5, 387, 0, 0, [])), (387, (43, 388, 0, 0, [])), (388, (28, 391, 207, 12, [])), (391, (3, 393, 0, 6, [])), (393, (14, 1422, 0, 0, [])), (396, (2, 397, 1, 1, [])), (397, (2, 398, 1, 0, [])), (398, (2, 400, 0, 4, [])), (400, (0, 401, 1, 0, [])), (401, (5, 402, 0, 0, [])), (402, (43, 403, 0, 0, [])), (403, (2, 404, 1, 0, [])), (404, (2, 406, 0, 4, [])), (406, (0, 407, 2, 0, [])), (407, (5, 408, 0, 0, [])), (408, (43, 409, 0, 0, [])), (409, (28, 412, 40, 11, [])), (412, (10, 413, 0, 0, [])), (413, (2, 414, 1, 2, [])), (414, (2, 415, 1, 0, [])), (415, (2, 417, 0, 4, [])), (417, (0, 418, 1, 0, [])), (418, (5, 419, 0, 0, [])), (419, (43, 420, 0, 0, [])), (420, (2, 421, 1, 0, [])), (421, (2, 423, 0, 4, [])), (423, (0, 424, 2, 0, [])), (424, (5, 425, 0, 0, [])), (425, (43, 426, 0, 0, [])), (426, (28, 429, 240, 12, [])), (429, (10, 430, 0, 0, [])), (430, (14, 1422, 0, 0, [])), (433, (2, 434, 1, 1, [])), (434, (2, 435, 1, 0, [])), (435, (2, 437, 0, 4, [])), (437, (0, 438, 1, 0, [])), (438, (5, 439, 0, 0, [])), (439, (43, 440, 0, 0, [])), (440, (2, 441, 1, 0, [])), (441, (2, 443, 0, 4, [])), (443, (0, 444, 2, 0, [])), (444, (5, 445, 0, 0, [])), (445, (43, 446, 0, 0, [])), (446, (28, 449, 44, 11, [])), (449, (10, 450, 0, 0, [])), (450, (2, 451, 1, 2, [])), (451, (2, 452, 1, 0, [])), (452, (2, 454, 0, 4, [])), (454, (0, 455, 1, 0, [])), (455, (5, 456, 0, 0, [])), (456, (43, 457, 0, 0, [])), (457, (2, 458, 1, 0, [])), (458, (2, 460, 0, 4, [])), (460, (0, 461, 2, 0, [])), (461, (5, 462, 0, 0, [])), (462, (43, 463, 0, 0, [])), (463, (28, 466, 247, 12, [])), (466, (10, 467, 0, 0, [])), (467, (14, 1422, 0, 0, [])), (470, (2, 471, 1, 1, [])), (471, (2, 472, 1, 0, [])), (472, (2, 474, 0, 4, [])), (474, (0, 475, 1, 0, [])), (475, (5, 476, 0, 0, [])), (476, (43, 477, 0, 0, [])), (477, (2, 478, 1, 0, [])), (478, (2, 480, 0, 4, [])), (480, (0, 481, 2, 0, [])), (481, (5, 482, 0, 0, [])), (482, (43, 483, 0, 0, [])), (483, (2, 484, 1, 0, [])), (484, (2, 486, 0, 4, [])), (486, (0, 487, 3, 0, [])), (487, (5, 488, 0, 0, [])), (488, (43, 489, 0, 0, [])), (489, (28, 492, 25, 11, [])), (492, (10, 493, 0, 0, [])), (493, (2, 494, 1, 2, [])), (494, (2, 495, 1, 0, [])), (495, (2, 497, 0, 4, [])), (497, (0, 498, 1, 0, [])), (498, (5, 499, 0, 0, [])), (499, (43, 500, 0, 0, [])), (500, (2, 501, 1, 0, [])), (501, (2, 503, 0, 4, [])), (503, (0, 504, 2, 0, [])), (504, (5, 505, 0, 0, []))]
set_option maxRecDepth 100000 in
set_option maxHeartbeats 4000000 in
theorem xop_L1_1 : ∀ q ∈ xkp_L1_1, xok xmt xm_L1 q.1 q.2 := xqw_ok (M := xm_L1) (G := []) (own := xMo xm_L1) xnl rfl (hd := [(349, (28, 352, 210, 12, [])), (370, (50, 373, 0, 0, [])), (388, (28, 391, 207, 12, [])), (409, (28, 412, 40, 11, [])), (426, (28, 429, 240, 12, [])), (446, (28, 449, 44, 11, [])), (463, (28, 466, 247, 12, [])), (489, (28, 492, 25, 11, []))]) (by decide +kernel) (by
  refine xcns ?_ <| xcns ?_ <| xcns ?_ <| xcns ?_ <| xcns ?_ <| xcns ?_ <| xcns ?_ <| xcns ?_ <| xnl
  · exact (⟨rfl, _, rfl, ⟨38, dL_law_349, xw_1263, xw_1261, xw_1262⟩, _, rfl, rfl⟩)
  · exact (True.intro)
  · exact (⟨rfl, _, rfl, ⟨44, dL_law_388, xw_1266, xw_1264, xw_1265⟩, _, rfl, rfl⟩)
  · exact (⟨rfl, _, rfl, ⟨45, dL_law_409, xw_1269, xw_1267, xw_1268⟩, _, rfl, rfl⟩)
  · exact (⟨rfl, _, rfl, ⟨48, dL_law_426, xw_1272, xw_1270, xw_1271⟩, _, rfl, rfl⟩)
  · exact (⟨rfl, _, rfl, ⟨49, dL_law_446, xw_1275, xw_1273, xw_1274⟩, _, rfl, rfl⟩)
  · exact (⟨rfl, _, rfl, ⟨52, dL_law_463, xw_1278, xw_1276, xw_1277⟩, _, rfl, rfl⟩)
  · exact (⟨rfl, _, rfl, ⟨53, dL_law_489, xw_1281, xw_1279, xw_1280⟩, _, rfl, rfl⟩)
)
def xkp_L1_2 : List (Nat × xOp) := [(505, (43, 506, 0, 0, [])), (506, (2, 507, 1, 0, [])), (507, (2, 509, 0, 4, [])), (509, (0, 510, 3, 0, [])), (510, (5, 511, 0, 0, [])), (511, (43, 512, 0, 0, [])), (512, (28, 515, 216, 12, [])), (515, (10, 516, 0, 0, [])), (516, (14, 1422, 0, 0, [])), (519, (2, 520, 1, 1, [])), (520, (2, 521, 1, 0, [])), (521, (2, 523, 0, 4, [])), (523, (0, 524, 1, 0, [])), (524, (5, 525, 0, 0, [])), (525, (43, 526, 0, 0, [])), (526, (2, 527, 1, 0, [])), (527, (2, 529, 0, 4, [])), (529, (0, 530, 2, 0, [])), (530, (5, 531, 0, 0, [])), (531, (43, 532, 0, 0, [])), (532, (2, 533, 1, 0, [])), (533, (2, 535, 0, 4, [])), (535, (0, 536, 3, 0, [])), (536, (5, 537, 0, 0, [])), (537, (43, 538, 0, 0, [])), (538, (28, 541, 10, 11, [])), (541, (10, 542, 0, 0, [])), (542, (2, 543, 1, 2, [])), (543, (2, 544, 1, 0, [])), (544, (2, 546, 0, 4, [])), (546, (0, 547, 1, 0, [])), (547, (5, 548, 0, 0, [])), (548, (43, 549, 0, 0, [])), (549, (2, 550, 1, 0, [])), (550, (2, 552, 0, 4, [])), (552, (0, 553, 2, 0, [])), (553, (5, 554, 0, 0, [])), (554, (43, 555, 0, 0, [])), (555, (2, 556, 1, 0, [])), (556, (2, 558, 0, 4, [])), (558, (0, 559, 3, 0, [])), (559, (5, 560, 0, 0, [])), (560, (43, 561, 0, 0, [])), (561, (28, 564, 161, 12, [])), (564, (10, 565, 0, 0, [])), (565, (14, 1422, 0, 0, [])), (568, (2, 569, 1, 1, [])), (569, (2, 570, 1, 0, [])), (570, (2, 572, 0, 4, [])), (572, (0, 573, 1, 0, [])), (573, (5, 574, 0, 0, [])), (574, (43, 575, 0, 0, [])), (575, (2, 576, 1, 0, [])), (576, (2, 578, 0, 4, [])), (578, (0, 579, 2, 0, [])), (579, (5, 580, 0, 0, [])), (580, (43, 581, 0, 0, [])), (581, (2, 582, 1, 0, [])), (582, (2, 584, 0, 4, [])), (584, (0, 585, 3, 0, [])), (585, (5, 586, 0, 0, [])), (586, (43, 587, 0, 0, [])), (587, (28, 590, 36, 11, [])), (590, (10, 591, 0, 0, [])), (591, (2, 592, 1, 2, [])), (592, (2, 593, 1, 0, [])), (593, (2, 595, 0, 4, [])), (595, (0, 596, 1, 0, [])), (596, (5, 597, 0, 0, [])), (597, (43, 598, 0, 0, [])), (598, (2, 599, 1, 0, [])), (599, (2, 601, 0, 4, [])), (601, (0, 602, 2, 0, [])), (602, (5, 603, 0, 0, [])), (603, (43, 604, 0, 0, [])), (604, (2, 605, 1, 0, [])), (605, (2, 607, 0, 4, [])), (607, (0, 608, 3, 0, [])), (608, (5, 609, 0, 0, [])), (609, (43, 610, 0, 0, [])), (610, (28, 613, 232, 12, [])), (613, (10, 614, 0, 0, [])), (614, (14, 1422, 0, 0, [])), (617, (2, 618, 1, 1, [])), (618, (2, 619, 1, 0, [])), (619, (2, 621, 0, 4, [])), (621, (0, 622, 1, 0, [])), (622, (5, 623, 0, 0, [])), (623, (43, 624, 0, 0, [])), (624, (2, 625, 1, 0, [])), (625, (2, 627, 0, 4, [])), (627, (0, 628, 2, 0, [])), (628, (5, 629, 0, 0, [])), (629, (43, 630, 0, 0, [])), (630, (28, 633, 4, 11, [])), (633, (10, 634, 0, 0, [])), (634, (2, 635, 1, 2, [])), (635, (2, 636, 1, 0, [])), (636, (2, 638, 0, 4, [])), (638, (0, 639, 1, 0, [])), (639, (5, 640, 0, 0, [])), (640, (43, 641, 0, 0, [])), (641, (2, 642, 1, 0, [])), (642, (2, 644, 0, 4, [])), (644, (0, 645, 2, 0, [])), (645, (5, 646, 0, 0, [])), (646, (43, 647, 0, 0, [])), (647, (28, 650, 149, 12, [])), (650, (10, 651, 0, 0, [])), (651, (14, 1422, 0, 0, [])), (654, (2, 655, 1, 1, [])), (655, (2, 656, 1, 0, [])), (656, (2, 658, 0, 4, [])), (658, (0, 659, 1, 0, [])), (659, (5, 660, 0, 0, [])), (660, (43, 661, 0, 0, [])), (661, (28, 664, 9, 11, [])), (664, (10, 665, 0, 0, [])), (665, (2, 666, 1, 2, [])), (666, (2, 667, 1, 0, []))]
set_option maxRecDepth 100000 in
set_option maxHeartbeats 4000000 in
theorem xop_L1_2 : ∀ q ∈ xkp_L1_2, xok xmt xm_L1 q.1 q.2 := xqw_ok (M := xm_L1) (G := []) (own := xMo xm_L1) xnl rfl (hd := [(512, (28, 515, 216, 12, [])), (538, (28, 541, 10, 11, [])), (561, (28, 564, 161, 12, [])), (587, (28, 590, 36, 11, [])), (610, (28, 613, 232, 12, [])), (630, (28, 633, 4, 11, [])), (647, (28, 650, 149, 12, [])), (661, (28, 664, 9, 11, []))]) (by decide +kernel) (by
  refine xcns ?_ <| xcns ?_ <| xcns ?_ <| xcns ?_ <| xcns ?_ <| xcns ?_ <| xcns ?_ <| xcns ?_ <| xnl
  · exact (⟨rfl, _, rfl, ⟨57, dL_law_512, xw_1284, xw_1282, xw_1283⟩, _, rfl, rfl⟩)
  · exact (⟨rfl, _, rfl, ⟨58, dL_law_538, xw_1287, xw_1285, xw_1286⟩, _, rfl, rfl⟩)
  · exact (⟨rfl, _, rfl, ⟨61, dL_law_561, xw_1290, xw_1288, xw_1289⟩, _, rfl, rfl⟩)
  · exact (⟨rfl, _, rfl, ⟨62, dL_law_587, xw_1293, xw_1291, xw_1292⟩, _, rfl, rfl⟩)
  · exact (⟨rfl, _, rfl, ⟨65, dL_law_610, xw_1296, xw_1294, xw_1295⟩, _, rfl, rfl⟩)
  · exact (⟨rfl, _, rfl, ⟨66, dL_law_630, xw_1299, xw_1297, xw_1298⟩, _, rfl, rfl⟩)
  · exact (⟨rfl, _, rfl, ⟨69, dL_law_647, xw_1302, xw_1300, xw_1301⟩, _, rfl, rfl⟩)
  · exact (⟨rfl, _, rfl, ⟨70, dL_law_661, xw_1305, xw_1303, xw_1304⟩, _, rfl, rfl⟩)
)
def xkp_L1_3 : List (Nat × xOp) := [(667, (2, 669, 0, 4, [])), (669, (0, 670, 1, 0, [])), (670, (5, 671, 0, 0, [])), (671, (43, 672, 0, 0, [])), (672, (28, 675, 159, 12, [])), (675, (10, 676, 0, 0, [])), (676, (14, 1422, 0, 0, [])), (679, (2, 680, 1, 1, [])), (680, (2, 681, 1, 0, [])), (681, (2, 683, 0, 4, [])), (683, (0, 684, 1, 0, [])), (684, (5, 685, 0, 0, [])), (685, (43, 686, 0, 0, [])), (686, (2, 687, 1, 0, [])), (687, (2, 689, 0, 4, [])), (689, (0, 690, 2, 0, [])), (690, (5, 691, 0, 0, [])), (691, (43, 692, 0, 0, [])), (692, (2, 693, 1, 0, [])), (693, (2, 695, 0, 4, [])), (695, (0, 696, 3, 0, [])), (696, (5, 697, 0, 0, [])), (697, (43, 698, 0, 0, [])), (698, (28, 701, 27, 11, [])), (701, (10, 702, 0, 0, [])), (702, (2, 703, 1, 2, [])), (703, (2, 704, 1, 0, [])), (704, (2, 706, 0, 4, [])), (706, (0, 707, 1, 0, [])), (707, (5, 708, 0, 0, [])), (708, (43, 709, 0, 0, [])), (709, (2, 710, 1, 0, [])), (710, (2, 712, 0, 4, [])), (712, (0, 713, 2, 0, [])), (713, (5, 714, 0, 0, [])), (714, (43, 715, 0, 0, [])), (715, (2, 716, 1, 0, [])), (716, (2, 718, 0, 4, [])), (718, (0, 719, 3, 0, [])), (719, (5, 720, 0, 0, [])), (720, (43, 721, 0, 0, [])), (721, (28, 724, 222, 12, [])), (724, (10, 725, 0, 0, [])), (725, (14, 1422, 0, 0, [])), (728, (2, 729, 1, 1, [])), (729, (28, 732, 43, 11, [])), (732, (10, 733, 0, 0, [])), (733, (2, 734, 1, 2, [])), (734, (28, 737, 246, 12, [])), (737, (10, 738, 0, 0, [])), (738, (14, 1422, 0, 0, [])), (741, (2, 742, 1, 1, [])), (742, (2, 743, 1, 0, [])), (743, (2, 745, 0, 4, [])), (745, (0, 746, 1, 0, [])), (746, (5, 747, 0, 0, [])), (747, (43, 748, 0, 0, [])), (748, (2, 749, 1, 0, [])), (749, (2, 751, 0, 4, [])), (751, (0, 752, 2, 0, [])), (752, (5, 753, 0, 0, [])), (753, (43, 754, 0, 0, [])), (754, (28, 757, 32, 11, [])), (757, (10, 758, 0, 0, [])), (758, (2, 759, 1, 2, [])), (759, (2, 760, 1, 0, [])), (760, (2, 762, 0, 4, [])), (762, (0, 763, 1, 0, [])), (763, (5, 764, 0, 0, [])), (764, (43, 765, 0, 0, [])), (765, (2, 766, 1, 0, [])), (766, (2, 768, 0, 4, [])), (768, (0, 769, 2, 0, [])), (769, (5, 770, 0, 0, [])), (770, (43, 771, 0, 0, [])), (771, (28, 774, 229, 12, [])), (774, (10, 775, 0, 0, [])), (775, (14, 1422, 0, 0, [])), (778, (2, 779, 1, 1, [])), (779, (2, 780, 1, 0, [])), (780, (2, 782, 0, 4, [])), (782, (0, 783, 1, 0, [])), (783, (5, 784, 0, 0, [])), (784, (43, 785, 0, 0, [])), (785, (2, 786, 1, 0, [])), (786, (2, 788, 0, 4, [])), (788, (0, 789, 2, 0, [])), (789, (5, 790, 0, 0, [])), (790, (43, 791, 0, 0, [])), (791, (28, 794, 2, 11, [])), (794, (10, 795, 0, 0, [])), (795, (2, 796, 1, 2, [])), (796, (2, 797, 1, 0, [])), (797, (2, 799, 0, 4, [])), (799, (0, 800, 1, 0, [])), (800, (5, 801, 0, 0, [])), (801, (43, 802, 0, 0, [])), (802, (2, 803, 1, 0, [])), (803, (2, 805, 0, 4, [])), (805, (0, 806, 2, 0, [])), (806, (5, 807, 0, 0, [])), (807, (43, 808, 0, 0, [])), (808, (28, 811, 145, 12, [])), (811, (10, 812, 0, 0, [])), (812, (14, 1422, 0, 0, [])), (815, (2, 816, 1, 1, [])), (816, (28, 819, 38, 11, [])), (819, (10, 820, 0, 0, [])), (820, (2, 821, 1, 2, [])), (821, (28, 824, 239, 12, [])), (824, (10, 825, 0, 0, [])), (825, (14, 1422, 0, 0, [])), (828, (2, 829, 1, 1, [])), (829, (2, 830, 1, 0, [])), (830, (2, 832, 0, 4, [])), (832, (0, 833, 1, 0, [])), (833, (5, 834, 0, 0, [])), (834, (43, 835, 0, 0, [])), (835, (2, 836, 1, 0, [])), (836, (2, 838, 0, 4, []))]
set_option maxRecDepth 100000 in
set_option maxHeartbeats 4000000 in
theorem xop_L1_3 : ∀ q ∈ xkp_L1_3, xok xmt xm_L1 q.1 q.2 := xqw_ok (M := xm_L1) (G := []) (own := xMo xm_L1) xnl rfl (hd := [(672, (28, 675, 159, 12, [])), (698, (28, 701, 27, 11, [])), (721, (28, 724, 222, 12, [])), (729, (28, 732, 43, 11, [])), (734, (28, 737, 246, 12, [])), (754, (28, 757, 32, 11, [])), (771, (28, 774, 229, 12, [])), (791, (28, 794, 2, 11, [])), (808, (28, 811, 145, 12, [])), (816, (28, 819, 38, 11, [])), (821, (28, 824, 239, 12, []))]) (by decide +kernel) (by
  refine xcns ?_ <| xcns ?_ <| xcns ?_ <| xcns ?_ <| xcns ?_ <| xcns ?_ <| xcns ?_ <| xcns ?_ <| xcns ?_ <| xcns ?_ <| xcns ?_ <| xnl
  · exact (⟨rfl, _, rfl, ⟨73, dL_law_672, xw_1308, xw_1306, xw_1307⟩, _, rfl, rfl⟩)
  · exact (⟨rfl, _, rfl, ⟨74, dL_law_698, xw_1311, xw_1309, xw_1310⟩, _, rfl, rfl⟩)
  · exact (⟨rfl, _, rfl, ⟨77, dL_law_721, xw_1314, xw_1312, xw_1313⟩, _, rfl, rfl⟩)
  · exact (⟨rfl, _, rfl, ⟨78, dL_law_729, xw_1317, xw_1315, xw_1316⟩, _, rfl, rfl⟩)
  · exact (⟨rfl, _, rfl, ⟨82, dL_law_734, xw_1320, xw_1318, xw_1319⟩, _, rfl, rfl⟩)
  · exact (⟨rfl, _, rfl, ⟨83, dL_law_754, xw_1323, xw_1321, xw_1322⟩, _, rfl, rfl⟩)
  · exact (⟨rfl, _, rfl, ⟨86, dL_law_771, xw_1326, xw_1324, xw_1325⟩, _, rfl, rfl⟩)
  · exact (⟨rfl, _, rfl, ⟨87, dL_law_791, xw_1329, xw_1327, xw_1328⟩, _, rfl, rfl⟩)
  · exact (⟨rfl, _, rfl, ⟨90, dL_law_808, xw_1332, xw_1330, xw_1331⟩, _, rfl, rfl⟩)
  · exact (⟨rfl, _, rfl, ⟨91, dL_law_816, xw_1335, xw_1333, xw_1334⟩, _, rfl, rfl⟩)
  · exact (⟨rfl, _, rfl, ⟨94, dL_law_821, xw_1338, xw_1336, xw_1337⟩, _, rfl, rfl⟩)
)
def xkp_L1_4 : List (Nat × xOp) := [(838, (0, 839, 2, 0, [])), (839, (5, 840, 0, 0, [])), (840, (43, 841, 0, 0, [])), (841, (28, 844, 3, 11, [])), (844, (10, 845, 0, 0, [])), (845, (2, 846, 1, 2, [])), (846, (2, 847, 1, 0, [])), (847, (2, 849, 0, 4, [])), (849, (0, 850, 1, 0, [])), (850, (5, 851, 0, 0, [])), (851, (43, 852, 0, 0, [])), (852, (2, 853, 1, 0, [])), (853, (2, 855, 0, 4, [])), (855, (0, 856, 2, 0, [])), (856, (5, 857, 0, 0, [])), (857, (43, 858, 0, 0, [])), (858, (28, 861, 147, 12, [])), (861, (10, 862, 0, 0, [])), (862, (14, 1422, 0, 0, [])), (865, (2, 866, 1, 1, [])), (866, (2, 867, 1, 0, [])), (867, (2, 869, 0, 4, [])), (869, (0, 870, 1, 0, [])), (870, (5, 871, 0, 0, [])), (871, (43, 872, 0, 0, [])), (872, (2, 873, 1, 0, [])), (873, (2, 875, 0, 4, [])), (875, (0, 876, 2, 0, [])), (876, (5, 877, 0, 0, [])), (877, (43, 878, 0, 0, [])), (878, (2, 879, 1, 0, [])), (879, (2, 881, 0, 4, [])), (881, (0, 882, 3, 0, [])), (882, (5, 883, 0, 0, [])), (883, (43, 884, 0, 0, [])), (884, (28, 887, 5, 11, [])), (887, (10, 888, 0, 0, [])), (888, (2, 889, 1, 2, [])), (889, (2, 890, 1, 0, [])), (890, (2, 892, 0, 4, [])), (892, (0, 893, 1, 0, [])), (893, (5, 894, 0, 0, [])), (894, (43, 895, 0, 0, [])), (895, (2, 896, 1, 0, [])), (896, (2, 898, 0, 4, [])), (898, (0, 899, 2, 0, [])), (899, (5, 900, 0, 0, [])), (900, (43, 901, 0, 0, [])), (901, (2, 902, 1, 0, [])), (902, (2, 904, 0, 4, [])), (904, (0, 905, 3, 0, [])), (905, (5, 906, 0, 0, [])), (906, (43, 907, 0, 0, [])), (907, (28, 910, 152, 12, [])), (910, (10, 911, 0, 0, [])), (911, (14, 1422, 0, 0, [])), (914, (2, 915, 1, 1, [])), (915, (2, 916, 1, 0, [])), (916, (2, 918, 0, 4, [])), (918, (0, 919, 1, 0, [])), (919, (5, 920, 0, 0, [])), (920, (43, 921, 0, 0, [])), (921, (2, 922, 1, 0, [])), (922, (2, 924, 0, 4, [])), (924, (0, 925, 2, 0, [])), (925, (5, 926, 0, 0, [])), (926, (43, 927, 0, 0, [])), (927, (2, 928, 1, 0, [])), (928, (2, 930, 0, 4, [])), (930, (0, 931, 3, 0, [])), (931, (5, 932, 0, 0, [])), (932, (43, 933, 0, 0, [])), (933, (28, 936, 35, 11, [])), (936, (10, 937, 0, 0, [])), (937, (2, 938, 1, 2, [])), (938, (2, 939, 1, 0, [])), (939, (2, 941, 0, 4, [])), (941, (0, 942, 1, 0, [])), (942, (5, 943, 0, 0, [])), (943, (43, 944, 0, 0, [])), (944, (2, 945, 1, 0, [])), (945, (2, 947, 0, 4, [])), (947, (0, 948, 2, 0, [])), (948, (5, 949, 0, 0, [])), (949, (43, 950, 0, 0, [])), (950, (2, 951, 1, 0, [])), (951, (2, 953, 0, 4, [])), (953, (0, 954, 3, 0, [])), (954, (5, 955, 0, 0, [])), (955, (43, 956, 0, 0, [])), (956, (28, 959, 231, 12, [])), (959, (10, 960, 0, 0, [])), (960, (14, 1422, 0, 0, [])), (963, (2, 964, 1, 1, [])), (964, (2, 965, 1, 0, [])), (965, (2, 967, 0, 4, [])), (967, (0, 968, 1, 0, [])), (968, (5, 969, 0, 0, [])), (969, (43, 970, 0, 0, [])), (970, (28, 973, 11, 11, [])), (973, (2, 974, 1, 2, [])), (974, (2, 975, 1, 0, [])), (975, (2, 977, 0, 4, [])), (977, (0, 978, 1, 0, [])), (978, (5, 979, 0, 0, [])), (979, (43, 980, 0, 0, [])), (980, (28, 983, 163, 12, [])), (983, (13, 986, 1422, 0, [])), (986, (0, 987, 0, 0, [])), (987, (30, 988, 0, 3, [])), (988, (2, 989, 1, 1, [])), (989, (2, 990, 1, 0, [])), (990, (2, 992, 0, 4, [])), (992, (0, 993, 1, 0, [])), (993, (5, 994, 0, 0, [])), (994, (43, 995, 0, 0, [])), (995, (28, 998, 16, 11, [])), (998, (10, 999, 0, 0, [])), (999, (2, 1000, 1, 2, [])), (1000, (2, 1001, 1, 0, []))]
set_option maxRecDepth 100000 in
set_option maxHeartbeats 4000000 in
theorem xop_L1_4 : ∀ q ∈ xkp_L1_4, xok xmt xm_L1 q.1 q.2 := xqw_ok (M := xm_L1) (G := []) (own := xMo xm_L1) xnl rfl (hd := [(841, (28, 844, 3, 11, [])), (858, (28, 861, 147, 12, [])), (884, (28, 887, 5, 11, [])), (907, (28, 910, 152, 12, [])), (933, (28, 936, 35, 11, [])), (956, (28, 959, 231, 12, [])), (970, (28, 973, 11, 11, [])), (980, (28, 983, 163, 12, [])), (995, (28, 998, 16, 11, []))]) (by decide +kernel) (by
  refine xcns ?_ <| xcns ?_ <| xcns ?_ <| xcns ?_ <| xcns ?_ <| xcns ?_ <| xcns ?_ <| xcns ?_ <| xcns ?_ <| xnl
  · exact (⟨rfl, _, rfl, ⟨95, dL_law_841, xw_1341, xw_1339, xw_1340⟩, _, rfl, rfl⟩)
  · exact (⟨rfl, _, rfl, ⟨98, dL_law_858, xw_1344, xw_1342, xw_1343⟩, _, rfl, rfl⟩)
  · exact (⟨rfl, _, rfl, ⟨99, dL_law_884, xw_1347, xw_1345, xw_1346⟩, _, rfl, rfl⟩)
  · exact (⟨rfl, _, rfl, ⟨102, dL_law_907, xw_1350, xw_1348, xw_1349⟩, _, rfl, rfl⟩)
  · exact (⟨rfl, _, rfl, ⟨103, dL_law_933, xw_1353, xw_1351, xw_1352⟩, _, rfl, rfl⟩)
  · exact (⟨rfl, _, rfl, ⟨106, dL_law_956, xw_1356, xw_1354, xw_1355⟩, _, rfl, rfl⟩)
  · exact (⟨rfl, _, rfl, ⟨107, dL_law_970, xw_1359, xw_1357, xw_1358⟩, _, rfl, rfl⟩)
  · exact (⟨rfl, _, rfl, ⟨110, dL_law_980, xw_1362, xw_1360, xw_1361⟩, _, rfl, rfl⟩)
  · exact (⟨rfl, _, rfl, ⟨111, dL_law_995, xw_1365, xw_1363, xw_1364⟩, _, rfl, rfl⟩)
)
def xkp_L1_5 : List (Nat × xOp) := [(1001, (2, 1003, 0, 4, [])), (1003, (0, 1004, 1, 0, [])), (1004, (5, 1005, 0, 0, [])), (1005, (43, 1006, 0, 0, [])), (1006, (28, 1009, 180, 12, [])), (1009, (10, 1010, 0, 0, [])), (1010, (14, 1422, 0, 0, [])), (1013, (2, 1014, 1, 1, [])), (1014, (2, 1015, 1, 0, [])), (1015, (2, 1017, 0, 4, [])), (1017, (0, 1018, 1, 0, [])), (1018, (5, 1019, 0, 0, [])), (1019, (43, 1020, 0, 0, [])), (1020, (28, 1023, 37, 11, [])), (1023, (10, 1024, 0, 0, [])), (1024, (2, 1025, 1, 2, [])), (1025, (2, 1026, 1, 0, [])), (1026, (2, 1028, 0, 4, [])), (1028, (0, 1029, 1, 0, [])), (1029, (5, 1030, 0, 0, [])), (1030, (43, 1031, 0, 0, [])), (1031, (28, 1034, 235, 12, [])), (1034, (10, 1035, 0, 0, [])), (1035, (14, 1422, 0, 0, [])), (1038, (2, 1039, 1, 1, [])), (1039, (2, 1040, 1, 0, [])), (1040, (2, 1042, 0, 4, [])), (1042, (0, 1043, 1, 0, [])), (1043, (5, 1044, 0, 0, [])), (1044, (43, 1045, 0, 0, [])), (1045, (28, 1048, 19, 11, [])), (1048, (10, 1049, 0, 0, [])), (1049, (2, 1050, 1, 2, [])), (1050, (2, 1051, 1, 0, [])), (1051, (2, 1053, 0, 4, [])), (1053, (0, 1054, 1, 0, [])), (1054, (5, 1055, 0, 0, [])), (1055, (43, 1056, 0, 0, [])), (1056, (28, 1059, 201, 12, [])), (1059, (10, 1060, 0, 0, [])), (1060, (14, 1422, 0, 0, [])), (1063, (2, 1064, 1, 1, [])), (1064, (28, 1067, 42, 11, [])), (1067, (10, 1068, 0, 0, [])), (1068, (2, 1069, 1, 2, [])), (1069, (28, 1072, 243, 12, [])), (1072, (10, 1073, 0, 0, [])), (1073, (14, 1422, 0, 0, [])), (1076, (2, 1077, 1, 1, [])), (1077, (2, 1078, 1, 0, [])), (1078, (2, 1080, 0, 4, [])), (1080, (0, 1081, 1, 0, [])), (1081, (5, 1082, 0, 0, [])), (1082, (43, 1083, 0, 0, [])), (1083, (2, 1084, 1, 0, [])), (1084, (2, 1086, 0, 4, [])), (1086, (0, 1087, 2, 0, [])), (1087, (5, 1088, 0, 0, [])), (1088, (43, 1089, 0, 0, [])), (1089, (28, 1092, 23, 11, [])), (1092, (10, 1093, 0, 0, [])), (1093, (2, 1094, 1, 2, [])), (1094, (2, 1095, 1, 0, [])), (1095, (2, 1097, 0, 4, [])), (1097, (0, 1098, 1, 0, [])), (1098, (5, 1099, 0, 0, [])), (1099, (43, 1100, 0, 0, [])), (1100, (2, 1101, 1, 0, [])), (1101, (2, 1103, 0, 4, [])), (1103, (0, 1104, 2, 0, [])), (1104, (5, 1105, 0, 0, [])), (1105, (43, 1106, 0, 0, [])), (1106, (28, 1109, 213, 12, [])), (1109, (10, 1110, 0, 0, [])), (1110, (14, 1422, 0, 0, [])), (1113, (2, 1114, 1, 1, [])), (1114, (28, 1117, 15, 11, [])), (1117, (10, 1118, 0, 0, [])), (1118, (2, 1119, 1, 2, [])), (1119, (28, 1122, 172, 12, [])), (1122, (10, 1123, 0, 0, [])), (1123, (14, 1422, 0, 0, [])), (1126, (2, 1127, 1, 1, [])), (1127, (2, 1128, 1, 0, [])), (1128, (2, 1130, 0, 4, [])), (1130, (0, 1131, 1, 0, [])), (1131, (5, 1132, 0, 0, [])), (1132, (43, 1133, 0, 0, [])), (1133, (2, 1134, 1, 0, [])), (1134, (2, 1136, 0, 4, [])), (1136, (0, 1137, 2, 0, [])), (1137, (5, 1138, 0, 0, [])), (1138, (43, 1139, 0, 0, [])), (1139, (2, 1140, 1, 0, [])), (1140, (2, 1142, 0, 4, [])), (1142, (0, 1143, 3, 0, [])), (1143, (5, 1144, 0, 0, [])), (1144, (43, 1145, 0, 0, [])), (1145, (2, 1146, 1, 0, [])), (1146, (2, 1148, 0, 4, [])), (1148, (0, 1149, 4, 0, [])), (1149, (5, 1150, 0, 0, [])), (1150, (43, 1151, 0, 0, [])), (1151, (28, 1154, 28, 11, [])), (1154, (10, 1155, 0, 0, [])), (1155, (2, 1156, 1, 2, [])), (1156, (2, 1157, 1, 0, [])), (1157, (2, 1159, 0, 4, [])), (1159, (0, 1160, 1, 0, [])), (1160, (5, 1161, 0, 0, [])), (1161, (43, 1162, 0, 0, [])), (1162, (2, 1163, 1, 0, [])), (1163, (2, 1165, 0, 4, [])), (1165, (0, 1166, 2, 0, [])), (1166, (5, 1167, 0, 0, [])), (1167, (43, 1168, 0, 0, [])), (1168, (2, 1169, 1, 0, [])), (1169, (2, 1171, 0, 4, [])), (1171, (0, 1172, 3, 0, [])), (1172, (5, 1173, 0, 0, []))]
set_option maxRecDepth 100000 in
set_option maxHeartbeats 4000000 in
theorem xop_L1_5 : ∀ q ∈ xkp_L1_5, xok xmt xm_L1 q.1 q.2 := xqw_ok (M := xm_L1) (G := []) (own := xMo xm_L1) xnl rfl (hd := [(1006, (28, 1009, 180, 12, [])), (1020, (28, 1023, 37, 11, [])), (1031, (28, 1034, 235, 12, [])), (1045, (28, 1048, 19, 11, [])), (1056, (28, 1059, 201, 12, [])), (1064, (28, 1067, 42, 11, [])), (1069, (28, 1072, 243, 12, [])), (1089, (28, 1092, 23, 11, [])), (1106, (28, 1109, 213, 12, [])), (1114, (28, 1117, 15, 11, [])), (1119, (28, 1122, 172, 12, [])), (1151, (28, 1154, 28, 11, []))]) (by decide +kernel) (by
  refine xcns ?_ <| xcns ?_ <| xcns ?_ <| xcns ?_ <| xcns ?_ <| xcns ?_ <| xcns ?_ <| xcns ?_ <| xcns ?_ <| xcns ?_ <| xcns ?_ <| xcns ?_ <| xnl
  · exact (⟨rfl, _, rfl, ⟨114, dL_law_1006, xw_1368, xw_1366, xw_1367⟩, _, rfl, rfl⟩)
  · exact (⟨rfl, _, rfl, ⟨115, dL_law_1020, xw_1371, xw_1369, xw_1370⟩, _, rfl, rfl⟩)
  · exact (⟨rfl, _, rfl, ⟨118, dL_law_1031, xw_1374, xw_1372, xw_1373⟩, _, rfl, rfl⟩)
  · exact (⟨rfl, _, rfl, ⟨119, dL_law_1045, xw_1377, xw_1375, xw_1376⟩, _, rfl, rfl⟩)
  · exact (⟨rfl, _, rfl, ⟨123, dL_law_1056, xw_1380, xw_1378, xw_1379⟩, _, rfl, rfl⟩)
  · exact (⟨rfl, _, rfl, ⟨124, dL_law_1064, xw_1381, xw_189, xw_190⟩, _, rfl, rfl⟩)
  · exact (⟨rfl, _, rfl, ⟨127, dL_law_1069, xw_1382, xw_1073, xw_1074⟩, _, rfl, rfl⟩)
  · exact (⟨rfl, _, rfl, ⟨128, dL_law_1089, xw_1385, xw_1383, xw_1384⟩, _, rfl, rfl⟩)
  · exact (⟨rfl, _, rfl, ⟨131, dL_law_1106, xw_1388, xw_1386, xw_1387⟩, _, rfl, rfl⟩)
  · exact (⟨rfl, _, rfl, ⟨132, dL_law_1114, xw_1391, xw_1389, xw_1390⟩, _, rfl, rfl⟩)
  · exact (⟨rfl, _, rfl, ⟨135, dL_law_1119, xw_1394, xw_1392, xw_1393⟩, _, rfl, rfl⟩)
  · exact (⟨rfl, _, rfl, ⟨136, dL_law_1151, xw_1397, xw_1395, xw_1396⟩, _, rfl, rfl⟩)
)
def xkp_L1_6 : List (Nat × xOp) := [(1173, (43, 1174, 0, 0, [])), (1174, (2, 1175, 1, 0, [])), (1175, (2, 1177, 0, 4, [])), (1177, (0, 1178, 4, 0, [])), (1178, (5, 1179, 0, 0, [])), (1179, (43, 1180, 0, 0, [])), (1180, (28, 1183, 224, 12, [])), (1183, (10, 1184, 0, 0, [])), (1184, (14, 1422, 0, 0, [])), (1187, (2, 1188, 1, 1, [])), (1188, (2, 1189, 1, 0, [])), (1189, (2, 1191, 0, 4, [])), (1191, (0, 1192, 1, 0, [])), (1192, (5, 1193, 0, 0, [])), (1193, (43, 1194, 0, 0, [])), (1194, (2, 1195, 1, 0, [])), (1195, (2, 1197, 0, 4, [])), (1197, (0, 1198, 2, 0, [])), (1198, (5, 1199, 0, 0, [])), (1199, (43, 1200, 0, 0, [])), (1200, (2, 1201, 1, 0, [])), (1201, (2, 1203, 0, 4, [])), (1203, (0, 1204, 3, 0, [])), (1204, (5, 1205, 0, 0, [])), (1205, (43, 1206, 0, 0, [])), (1206, (2, 1207, 1, 0, [])), (1207, (2, 1209, 0, 4, [])), (1209, (0, 1210, 4, 0, [])), (1210, (5, 1211, 0, 0, [])), (1211, (43, 1212, 0, 0, [])), (1212, (2, 1213, 1, 0, [])), (1213, (2, 1215, 0, 4, [])), (1215, (0, 1216, 5, 0, [])), (1216, (5, 1217, 0, 0, [])), (1217, (43, 1218, 0, 0, [])), (1218, (28, 1221, 12, 11, [])), (1221, (10, 1222, 0, 0, [])), (1222, (2, 1223, 1, 2, [])), (1223, (2, 1224, 1, 0, [])), (1224, (2, 1226, 0, 4, [])), (1226, (0, 1227, 1, 0, [])), (1227, (5, 1228, 0, 0, [])), (1228, (43, 1229, 0, 0, [])), (1229, (2, 1230, 1, 0, [])), (1230, (2, 1232, 0, 4, [])), (1232, (0, 1233, 2, 0, [])), (1233, (5, 1234, 0, 0, [])), (1234, (43, 1235, 0, 0, [])), (1235, (2, 1236, 1, 0, [])), (1236, (2, 1238, 0, 4, [])), (1238, (0, 1239, 3, 0, [])), (1239, (5, 1240, 0, 0, [])), (1240, (43, 1241, 0, 0, [])), (1241, (2, 1242, 1, 0, [])), (1242, (2, 1244, 0, 4, [])), (1244, (0, 1245, 4, 0, [])), (1245, (5, 1246, 0, 0, [])), (1246, (43, 1247, 0, 0, [])), (1247, (2, 1248, 1, 0, [])), (1248, (2, 1250, 0, 4, [])), (1250, (0, 1251, 5, 0, [])), (1251, (5, 1252, 0, 0, [])), (1252, (43, 1253, 0, 0, [])), (1253, (28, 1256, 164, 12, [])), (1256, (10, 1257, 0, 0, [])), (1257, (14, 1422, 0, 0, [])), (1260, (2, 1261, 1, 1, [])), (1261, (2, 1262, 1, 0, [])), (1262, (2, 1264, 0, 4, [])), (1264, (0, 1265, 1, 0, [])), (1265, (5, 1266, 0, 0, [])), (1266, (43, 1267, 0, 0, [])), (1267, (2, 1268, 1, 0, [])), (1268, (2, 1270, 0, 4, [])), (1270, (0, 1271, 2, 0, [])), (1271, (5, 1272, 0, 0, [])), (1272, (43, 1273, 0, 0, [])), (1273, (28, 1276, 29, 11, [])), (1276, (10, 1277, 0, 0, [])), (1277, (2, 1278, 1, 2, [])), (1278, (2, 1279, 1, 0, [])), (1279, (2, 1281, 0, 4, [])), (1281, (0, 1282, 1, 0, [])), (1282, (5, 1283, 0, 0, [])), (1283, (43, 1284, 0, 0, [])), (1284, (2, 1285, 1, 0, [])), (1285, (2, 1287, 0, 4, [])), (1287, (0, 1288, 2, 0, [])), (1288, (5, 1289, 0, 0, [])), (1289, (43, 1290, 0, 0, [])), (1290, (28, 1293, 226, 12, [])), (1293, (10, 1294, 0, 0, [])), (1294, (14, 1422, 0, 0, [])), (1297, (2, 1298, 1, 1, [])), (1298, (2, 1299, 1, 0, [])), (1299, (2, 1301, 0, 4, [])), (1301, (0, 1302, 1, 0, [])), (1302, (5, 1303, 0, 0, [])), (1303, (43, 1304, 0, 0, [])), (1304, (28, 1307, 24, 11, [])), (1307, (10, 1308, 0, 0, [])), (1308, (2, 1309, 1, 2, [])), (1309, (2, 1310, 1, 0, [])), (1310, (2, 1312, 0, 4, [])), (1312, (0, 1313, 1, 0, [])), (1313, (5, 1314, 0, 0, [])), (1314, (43, 1315, 0, 0, [])), (1315, (28, 1318, 215, 12, [])), (1318, (10, 1319, 0, 0, [])), (1319, (14, 1422, 0, 0, [])), (1322, (2, 1323, 1, 1, [])), (1323, (2, 1324, 1, 0, [])), (1324, (2, 1326, 0, 4, [])), (1326, (0, 1327, 1, 0, [])), (1327, (5, 1328, 0, 0, [])), (1328, (43, 1329, 0, 0, [])), (1329, (2, 1330, 1, 0, [])), (1330, (2, 1332, 0, 4, [])), (1332, (0, 1333, 2, 0, [])), (1333, (5, 1334, 0, 0, []))]
set_option maxRecDepth 100000 in
set_option maxHeartbeats 4000000 in
theorem xop_L1_6 : ∀ q ∈ xkp_L1_6, xok xmt xm_L1 q.1 q.2 := xqw_ok (M := xm_L1) (G := []) (own := xMo xm_L1) xnl rfl (hd := [(1180, (28, 1183, 224, 12, [])), (1218, (28, 1221, 12, 11, [])), (1253, (28, 1256, 164, 12, [])), (1273, (28, 1276, 29, 11, [])), (1290, (28, 1293, 226, 12, [])), (1304, (28, 1307, 24, 11, [])), (1315, (28, 1318, 215, 12, []))]) (by decide +kernel) (by
  refine xcns ?_ <| xcns ?_ <| xcns ?_ <| xcns ?_ <| xcns ?_ <| xcns ?_ <| xcns ?_ <| xnl
  · exact (⟨rfl, _, rfl, ⟨140, dL_law_1180, xw_1400, xw_1398, xw_1399⟩, _, rfl, rfl⟩)
  · exact (⟨rfl, _, rfl, ⟨141, dL_law_1218, xw_1403, xw_1401, xw_1402⟩, _, rfl, rfl⟩)
  · exact (⟨rfl, _, rfl, ⟨144, dL_law_1253, xw_1406, xw_1404, xw_1405⟩, _, rfl, rfl⟩)
  · exact (⟨rfl, _, rfl, ⟨145, dL_law_1273, xw_1409, xw_1407, xw_1408⟩, _, rfl, rfl⟩)
  · exact (⟨rfl, _, rfl, ⟨148, dL_law_1290, xw_1412, xw_1410, xw_1411⟩, _, rfl, rfl⟩)
  · exact (⟨rfl, _, rfl, ⟨149, dL_law_1304, xw_1415, xw_1413, xw_1414⟩, _, rfl, rfl⟩)
  · exact (⟨rfl, _, rfl, ⟨152, dL_law_1315, xw_1418, xw_1416, xw_1417⟩, _, rfl, rfl⟩)
)
def xkp_L1_7 : List (Nat × xOp) := [(1334, (43, 1335, 0, 0, [])), (1335, (2, 1336, 1, 0, [])), (1336, (2, 1338, 0, 4, [])), (1338, (0, 1339, 3, 0, [])), (1339, (5, 1340, 0, 0, [])), (1340, (43, 1341, 0, 0, [])), (1341, (28, 1344, 45, 11, [])), (1344, (69, 1345, 0, 0, [])), (1345, (2, 1346, 1, 2, [])), (1346, (2, 1347, 1, 0, [])), (1347, (2, 1349, 0, 4, [])), (1349, (0, 1350, 1, 0, [])), (1350, (5, 1351, 0, 0, [])), (1351, (43, 1352, 0, 0, [])), (1352, (2, 1353, 1, 0, [])), (1353, (2, 1355, 0, 4, [])), (1355, (0, 1356, 2, 0, [])), (1356, (5, 1357, 0, 0, [])), (1357, (43, 1358, 0, 0, [])), (1358, (2, 1359, 1, 0, [])), (1359, (2, 1361, 0, 4, [])), (1361, (0, 1362, 3, 0, [])), (1362, (5, 1363, 0, 0, [])), (1363, (43, 1364, 0, 0, [])), (1364, (28, 1367, 250, 12, [])), (1367, (69, 1368, 0, 0, [])), (1368, (14, 1422, 0, 0, [])), (1371, (2, 1372, 1, 1, [])), (1372, (28, 1375, 18, 11, [])), (1375, (10, 1376, 0, 0, [])), (1376, (2, 1377, 1, 2, [])), (1377, (28, 1380, 199, 12, [])), (1380, (10, 1381, 0, 0, [])), (1381, (14, 1422, 0, 0, [])), (1384, (2, 1385, 1, 1, [])), (1385, (28, 1388, 1, 11, [])), (1388, (10, 1389, 0, 0, [])), (1389, (2, 1390, 1, 2, [])), (1390, (28, 1393, 144, 12, [])), (1393, (10, 1394, 0, 0, [])), (1394, (14, 1422, 0, 0, [])), (1397, (2, 1398, 1, 1, [])), (1398, (2, 1399, 1, 0, [])), (1399, (2, 1401, 0, 4, [])), (1401, (0, 1402, 1, 0, [])), (1402, (5, 1403, 0, 0, [])), (1403, (43, 1404, 0, 0, [])), (1404, (28, 1407, 7, 11, [])), (1407, (10, 1408, 0, 0, [])), (1408, (2, 1409, 1, 2, [])), (1409, (2, 1410, 1, 0, [])), (1410, (2, 1412, 0, 4, [])), (1412, (0, 1413, 1, 0, [])), (1413, (5, 1414, 0, 0, [])), (1414, (43, 1415, 0, 0, [])), (1415, (28, 1418, 157, 12, [])), (1418, (10, 1419, 0, 0, [])), (1419, (14, 1422, 0, 0, [])), (1422, (4, 1425, 4, 6, [])), (1425, (14, 23, 0, 0, [])), (1428, (0, 1429, 1, 0, [])), (1429, (30, 0, 0, 3, []))]
set_option maxRecDepth 100000 in
set_option maxHeartbeats 4000000 in
theorem xop_L1_7 : ∀ q ∈ xkp_L1_7, xok xmt xm_L1 q.1 q.2 := xqw_ok (M := xm_L1) (G := []) (own := xMo xm_L1) xnl rfl (hd := [(1341, (28, 1344, 45, 11, [])), (1364, (28, 1367, 250, 12, [])), (1372, (28, 1375, 18, 11, [])), (1377, (28, 1380, 199, 12, [])), (1385, (28, 1388, 1, 11, [])), (1390, (28, 1393, 144, 12, [])), (1404, (28, 1407, 7, 11, [])), (1415, (28, 1418, 157, 12, []))]) (by decide +kernel) (by
  refine xcns ?_ <| xcns ?_ <| xcns ?_ <| xcns ?_ <| xcns ?_ <| xcns ?_ <| xcns ?_ <| xcns ?_ <| xnl
  · exact (⟨rfl, _, rfl, ⟨153, dL_law_1341, xw_1421, xw_1419, xw_1420⟩, _, rfl, rfl⟩)
  · exact (⟨rfl, _, rfl, ⟨157, dL_law_1364, xw_1424, xw_1422, xw_1423⟩, _, rfl, rfl⟩)
  · exact (⟨rfl, _, rfl, ⟨158, dL_law_1372, xw_1427, xw_1425, xw_1426⟩, _, rfl, rfl⟩)
  · exact (⟨rfl, _, rfl, ⟨161, dL_law_1377, xw_1430, xw_1428, xw_1429⟩, _, rfl, rfl⟩)
  · exact (⟨rfl, _, rfl, ⟨162, dL_law_1385, xw_1433, xw_1431, xw_1432⟩, _, rfl, rfl⟩)
  · exact (⟨rfl, _, rfl, ⟨165, dL_law_1390, xw_1436, xw_1434, xw_1435⟩, _, rfl, rfl⟩)
  · exact (⟨rfl, _, rfl, ⟨166, dL_law_1404, xw_1439, xw_1437, xw_1438⟩, _, rfl, rfl⟩)
  · exact (⟨rfl, _, rfl, ⟨169, dL_law_1415, xw_1442, xw_1440, xw_1441⟩, _, rfl, rfl⟩)
)
set_option maxRecDepth 1000000 in
theorem xoe_L1 : xk_L1 = xkp_L1_0 ++ (xkp_L1_1 ++ (xkp_L1_2 ++ (xkp_L1_3 ++ (xkp_L1_4 ++ (xkp_L1_5 ++ (xkp_L1_6 ++ (xkp_L1_7))))))) := rfl
theorem xo_L1 : ∀ q ∈ xk_L1, xok xmt xm_L1 q.1 q.2 := by
  rw [xoe_L1]
  exact List.forall_mem_append.mpr ⟨xop_L1_0, List.forall_mem_append.mpr ⟨xop_L1_1, List.forall_mem_append.mpr ⟨xop_L1_2, List.forall_mem_append.mpr ⟨xop_L1_3, List.forall_mem_append.mpr ⟨xop_L1_4, List.forall_mem_append.mpr ⟨xop_L1_5, List.forall_mem_append.mpr ⟨xop_L1_6, xop_L1_7⟩⟩⟩⟩⟩⟩⟩
end
section
set_option maxRecDepth 100000 in
theorem xmt_all : ∀ M ∈ xmt, xMok xmt M := xcns xmo_0 <| xcns xmo_1 <| xcns xmo_2 <| xcns xmo_3 <| xcns xmo_4 <| xcns xmo_5 <| xcns xmo_6 <| xcns xmo_7 <| xcns xmo_8 <| xcns xmo_9 <| xcns xmo_10 <| xcns xmo_11 <| xcns xmo_12 <| xcns xmo_13 <| xcns xmo_14 <| xcns xmo_15 <| xcns xmo_16 <| xcns xmo_17 <| xcns xmo_18 <| xcns xmo_19 <| xcns xmo_20 <| xcns xmo_21 <| xcns xmo_22 <| xcns xmo_23 <| xcns xmo_24 <| xcns xmo_25 <| xcns xmo_26 <| xcns xmo_27 <| xcns xmo_28 <| xcns xmo_29 <| xcns xmo_30 <| xcns xmo_31 <| xcns xmo_32 <| xcns xmo_33 <| xcns xmo_34 <| xcns xmo_35 <| xcns xmo_36 <| xcns xmo_37 <| xcns xmo_38 <| xcns xmo_39 <| xcns xmo_40 <| xcns xmo_41 <| xcns xmo_42 <| xcns xmo_43 <| xcns xmo_44 <| xcns xmo_45 <| xcns xmo_46 <| xcns xmo_47 <| xcns xmo_48 <| xcns xmo_49 <| xcns xmo_50 <| xcns xmo_51 <| xcns xmo_52 <| xcns xmo_53 <| xcns xmo_54 <| xcns xmo_55 <| xcns xmo_56 <| xcns xmo_57 <| xcns xmo_58 <| xcns xmo_59 <| xcns xmo_60 <| xcns xmo_61 <| xcns xmo_62 <| xcns xmo_63 <| xcns xmo_64 <| xcns xmo_65 <| xcns xmo_66 <| xcns xmo_67 <| xcns xmo_68 <| xcns xmo_69 <| xcns xmo_70 <| xcns xmo_71 <| xcns xmo_72 <| xcns xmo_73 <| xcns xmo_74 <| xcns xmo_75 <| xcns xmo_76 <| xcns xmo_77 <| xcns xmo_78 <| xcns xmo_79 <| xcns xmo_80 <| xcns xmo_81 <| xcns xmo_82 <| xcns xmo_83 <| xcns xmo_84 <| xcns xmo_85 <| xcns xmo_86 <| xcns xmo_87 <| xcns xmo_88 <| xcns xmo_89 <| xcns xmo_90 <| xcns xmo_91 <| xcns xmo_92 <| xcns xmo_93 <| xcns xmo_94 <| xcns xmo_95 <| xcns xmo_96 <| xcns xmo_97 <| xcns xmo_98 <| xcns xmo_99 <| xcns xmo_100 <| xcns xmo_101 <| xcns xmo_102 <| xcns xmo_103 <| xcns xmo_104 <| xcns xmo_105 <| xcns xmo_106 <| xcns xmo_107 <| xcns xmo_108 <| xcns xmo_109 <| xcns xmo_110 <| xcns xmo_111 <| xcns xmo_112 <| xcns xmo_113 <| xcns xmo_114 <| xcns xmo_115 <| xcns xmo_116 <| xcns xmo_117 <| xcns xmo_118 <| xcns xmo_119 <| xcns xmo_120 <| xcns xmo_121 <| xcns xmo_122 <| xcns xmo_123 <| xcns xmo_124 <| xcns xmo_125 <| xcns xmo_126 <| xcns xmo_127 <| xcns xmo_128 <| xcns xmo_129 <| xcns xmo_130 <| xcns xmo_131 <| xcns xmo_132 <| xcns xmo_133 <| xcns xmo_134 <| xcns xmo_135 <| xcns xmo_136 <| xcns xmo_137 <| xcns xmo_138 <| xcns xmo_139 <| xcns xmo_140 <| xcns xmo_141 <| xcns xmo_142 <| xcns xmo_143 <| xcns xmo_144 <| xcns xmo_145 <| xcns xmo_146 <| xcns xmo_147 <| xcns xmo_148 <| xcns xmo_149 <| xcns xmo_150 <| xcns xmo_151 <| xcns xmo_152 <| xcns xmo_153 <| xcns xmo_154 <| xcns xmo_155 <| xcns xmo_156 <| xcns xmo_157 <| xcns xmo_158 <| xcns xmo_159 <| xcns xmo_160 <| xcns xmo_161 <| xcns xmo_162 <| xcns xmo_163 <| xcns xmo_164 <| xcns xmo_165 <| xcns xmo_166 <| xcns xmo_167 <| xcns xmo_168 <| xcns xmo_169 <| xcns xmo_170 <| xcns xmo_171 <| xcns xmo_172 <| xcns xmo_173 <| xcns xmo_174 <| xcns xmo_175 <| xcns xmo_176 <| xcns xmo_177 <| xcns xmo_178 <| xcns xmo_179 <| xcns xmo_180 <| xcns xmo_181 <| xcns xmo_182 <| xcns xmo_183 <| xcns xmo_184 <| xcns xmo_185 <| xcns xmo_186 <| xcns xmo_187 <| xcns xmo_188 <| xcns xmo_189 <| xcns xmo_190 <| xcns xmo_191 <| xcns xmo_192 <| xcns xmo_193 <| xcns xmo_194 <| xcns xmo_195 <| xcns xmo_196 <| xcns xmo_197 <| xcns xmo_198 <| xcns xmo_199 <| xcns xmo_200 <| xcns xmo_201 <| xcns xmo_202 <| xcns xmo_203 <| xcns xmo_204 <| xcns xmo_205 <| xcns xmo_206 <| xcns xmo_207 <| xcns xmo_208 <| xcns xmo_209 <| xcns xmo_210 <| xcns xmo_211 <| xcns xmo_212 <| xcns xmo_213 <| xcns xmo_214 <| xcns xmo_215 <| xcns xmo_216 <| xcns xmo_217 <| xcns xmo_218 <| xcns xmo_219 <| xcns xmo_220 <| xcns xmo_221 <| xcns xmo_222 <| xcns xmo_223 <| xcns xmo_224 <| xcns xmo_225 <| xcns xmo_226 <| xcns xmo_227 <| xcns xmo_228 <| xcns xmo_229 <| xcns xmo_230 <| xcns xmo_231 <| xcns xmo_232 <| xcns xmo_233 <| xcns xmo_234 <| xcns xmo_235 <| xcns xmo_236 <| xcns xmo_237 <| xcns xmo_238 <| xcns xmo_239 <| xcns xmo_240 <| xcns xmo_241 <| xcns xmo_242 <| xcns xmo_243 <| xcns xmo_244 <| xcns xmo_245 <| xcns xmo_246 <| xcns xmo_247 <| xcns xmo_248 <| xcns xmo_249 <| xcns xmo_250 <| xcns xmo_251 <| xcns xmo_252 <| xcns xmo_253 <| xcns xmo_254 <| xcns xmo_255 <| xcns xmo_256 <| xcns xmo_257 <| xcns xmo_258 <| xcns xmo_259 <| xcns xmo_260 <| xcns xmo_261 <| xcns xmo_262 <| xcns xmo_263 <| xcns xmo_264 <| xnl
theorem xmt_ok : ∀ (mi : Nat) (M : xM), xmt[mi]? = some M → xMok xmt M := fun _ M h => xmt_all M (List.mem_of_getElem? h)
end
section
def xK0 : xH := [.inr (11, [(1, 1), (1, 2), (1, 28), (1, 54), (1, 57), (1, 64), (1, 71), (1, 73), (1, 76), (1, 87), (1, 91), (0, 0), (0, 0), (0, 4294967295), (0, 0)]), .inl (1, List.replicate 800 (0, 0)), .inr (4, [(1, 3), (1, 5), (1, 7), (1, 9), (1, 11), (1, 12), (1, 13), (1, 14), (1, 15), (1, 16), (1, 17), (1, 18), (1, 19), (1, 20), (1, 21), (1, 22), (0, 0), (0, 0), (0, 0)]), .inr (6, [(1, 4), (0, 0)]), .inl (0, [(0, 0), (0, 0), (0, 0)]), .inr (6, [(1, 6), (0, 0)]), .inl (0, List.replicate 6 (0, 0)), .inr (6, [(1, 8), (0, 0)]), .inl (0, List.replicate 4 (0, 0)), .inr (6, [(1, 10), (0, 0)]), .inl (0, [(0, 0), (0, 0), (0, 0)]), .inl (0, [(0, 0), (0, 0), (0, 0)]), .inl (0, [(0, 0), (0, 0), (0, 0)]), .inl (0, List.replicate 6 (0, 0)), .inl (0, List.replicate 6 (0, 0)), .inl (0, List.replicate 6 (0, 0)), .inl (0, List.replicate 6 (0, 0)), .inl (0, List.replicate 6 (0, 0)), .inl (0, List.replicate 4 (0, 0)), .inl (0, List.replicate 12 (0, 0)), .inl (0, List.replicate 96 (0, 0)), .inl (0, [(0, 0), (0, 0), (0, 0)]), .inr (2, [(1, 23), (1, 24), (1, 25), (1, 26), (0, 0), (1, 27), (0, 0), (0, 0), (0, 0), (0, 1)]), .inl (0, List.replicate 64 (0, 0)), .inl (0, List.replicate 64 (0, 0)), .inl (0, List.replicate 5 (0, 0)), .inl (0, List.replicate 5 (0, 0)), .inl (0, List.replicate 72 (0, 0)), .inr (4, [(1, 29), (1, 31), (1, 33), (1, 35), (1, 37), (1, 38), (1, 39), (1, 40), (1, 41), (1, 42), (1, 43), (1, 44), (1, 45), (1, 46), (1, 47), (1, 48), (0, 0), (0, 0), (0, 0)]), .inr (6, [(1, 30), (0, 0)]), .inl (0, [(0, 0), (0, 0), (0, 0)]), .inr (6, [(1, 32), (0, 0)]), .inl (0, List.replicate 6 (0, 0)), .inr (6, [(1, 34), (0, 0)]), .inl (0, List.replicate 4 (0, 0)), .inr (6, [(1, 36), (0, 0)]), .inl (0, [(0, 0), (0, 0), (0, 0)]), .inl (0, [(0, 0), (0, 0), (0, 0)]), .inl (0, [(0, 0), (0, 0), (0, 0)]), .inl (0, List.replicate 6 (0, 0)), .inl (0, List.replicate 6 (0, 0)), .inl (0, List.replicate 6 (0, 0)), .inl (0, List.replicate 6 (0, 0)), .inl (0, List.replicate 6 (0, 0)), .inl (0, List.replicate 4 (0, 0)), .inl (0, List.replicate 12 (0, 0)), .inl (0, List.replicate 96 (0, 0)), .inl (0, [(0, 0), (0, 0), (0, 0)]), .inr (2, [(1, 49), (1, 50), (1, 51), (1, 52), (0, 0), (1, 53), (0, 0), (0, 0), (0, 0), (0, 1)]), .inl (0, List.replicate 64 (0, 0)), .inl (0, List.replicate 64 (0, 0)), .inl (0, List.replicate 5 (0, 0)), .inl (0, List.replicate 5 (0, 0)), .inl (0, List.replicate 72 (0, 0)), .inr (8, [(1, 55), (1, 28), (0, 0), (0, 0)]), .inr (9, [(1, 1), (1, 56), (0, 0), (0, 0), (0, 0), (0, 0), (0, 0), (0, 0), (0, 4294967295)]), .inl (0, [(0, 672863822), (0, 754224288), (0, 744049824), (0, 68523584), (0, 559500448), (0, 642945024), (0, 404455424), (0, 83656704), (0, 538687488), (0, 507661312), (0, 538529792), (0, 156401664), (0, 119573856), (0, 522190848), (0, 48365568), (0, 486146048), (0, 139546624), (0, 605688832), (0, 486151776), (0, 609866336), (0, 278110208), (0, 777169920), (0, 538530400)]), .inr (10, [(1, 58), (1, 59), (1, 60), (1, 61), (1, 62), (1, 63), (0, 0), (0, 0), (0, 0), (0, 0), (0, 0), (0, 4294967295), (0, 0)]), .inl (0, [(0, 0), (0, 0), (0, 0)]), .inl (0, List.replicate 6 (0, 0)), .inl (0, [(0, 0), (0, 0), (0, 0)]), .inl (0, List.replicate 12 (0, 4294967295)), .inl (0, List.replicate 12 (0, 0)), .inl (0, List.replicate 12 (0, 0)), .inr (10, [(1, 65), (1, 66), (1, 67), (1, 68), (1, 69), (1, 70), (0, 0), (0, 0), (0, 0), (0, 0), (0, 0), (0, 4294967295), (0, 0)]), .inl (0, [(0, 0), (0, 0), (0, 0)]), .inl (0, List.replicate 6 (0, 0)), .inl (0, [(0, 0), (0, 0), (0, 0)]), .inl (0, List.replicate 12 (0, 0)), .inl (0, List.replicate 12 (0, 0)), .inl (0, List.replicate 12 (0, 0)), .inr (3, [(1, 72), (0, 0)]), .inl (0, List.replicate 24 (0, 0)), .inr (5, [(1, 2), (1, 57), (1, 74), (1, 75), (0, 0), (0, 0)]), .inl (2, List.replicate 7 (4, 0)), .inl (2, List.replicate 64 (4, 0)), .inr (1, [(1, 2), (1, 57), (1, 73), (1, 77), (1, 78), (1, 79), (1, 80), (1, 86), (0, 0), (0, 0), (0, 0)]), .inl (0, List.replicate 72 (0, 0)), .inl (0, List.replicate 72 (0, 0)), .inl (0, List.replicate 25 (0, 0)), .inl (4, [(1, 81), (1, 82), (1, 83), (1, 84), (1, 85)]), .inl (0, List.replicate 97 (0, 0)), .inl (0, List.replicate 97 (0, 0)), .inl (0, List.replicate 97 (0, 0)), .inl (0, List.replicate 97 (0, 0)), .inl (0, List.replicate 97 (0, 0)), .inl (0, List.replicate 12 (0, 0)), .inr (7, [(1, 2), (1, 57), (1, 73), (1, 88), (1, 89), (1, 90)]), .inl (0, List.replicate 4 (0, 0)), .inl (0, List.replicate 4 (0, 0)), .inl (0, [(0, 0), (0, 0), (0, 0)]), .inr (0, [(1, 2), (1, 57), (1, 73), (1, 92), (1, 93), (1, 94), (0, 0), (0, 0), (0, 0), (0, 1000000)]), .inl (0, List.replicate 6 (0, 0)), .inl (0, List.replicate 4 (0, 0)), .inl (0, List.replicate 4 (0, 0)), .inr (12, [(0, 0), (1, 96), (0, 0), (1, 97), (1, 98), (1, 99), (1, 100), (1, 101), (1, 102), (1, 103), (1, 104), (1, 105), (1, 106), (1, 107), (1, 108), (1, 109), (1, 110), (1, 111), (1, 112), (1, 113), (1, 114), (1, 115), (1, 116), (1, 117), (0, 0), (0, 0), (0, 0), (0, 0), (0, 0), (0, 0), (0, 0), (0, 0), (0, 0), (0, 0), (0, 4294967295), (0, 0), (0, 0), (1, 118), (1, 119), (1, 120), (1, 121), (1, 122), (1, 123), (1, 124), (1, 125), (1, 126), (1, 127), (1, 128), (1, 129), (0, 0), (1, 130), (1, 131), (0, 0), (1, 132), (1, 133), (1, 134), (1, 135), (1, 136), (1, 137), (0, 0), (0, 0), (0, 0), (0, 4294967295), (1, 138), (1, 139), (1, 140), (1, 141), (1, 142), (0, 0)]), .inl (0, List.replicate 800 (0, 0)), .inl (0, List.replicate 14 (0, 0)), .inl (0, List.replicate 6 (0, 0)), .inl (0, List.replicate 6 (0, 0)), .inl (0, List.replicate 6 (0, 0)), .inl (0, List.replicate 12 (0, 0)), .inl (0, List.replicate 12 (0, 0)), .inl (0, List.replicate 12 (0, 0)), .inl (3, List.replicate 12 (0, 0)), .inl (0, List.replicate 12 (0, 4294967295)), .inl (0, List.replicate 12 (0, 0)), .inl (0, List.replicate 12 (0, 0)), .inl (0, List.replicate 8 (0, 0)), .inl (0, List.replicate 8 (0, 0)), .inl (0, List.replicate 24 (0, 0)), .inl (0, List.replicate 192 (0, 0)), .inl (0, List.replicate 6 (0, 0)), .inl (0, List.replicate 6 (0, 0)), .inl (0, List.replicate 10 (0, 0)), .inl (0, List.replicate 10 (0, 0)), .inl (0, List.replicate 128 (0, 0)), .inl (0, List.replicate 128 (0, 0)), .inl (0, [(0, 0), (0, 0)]), .inl (0, [(0, 0), (0, 0)]), .inl (0, [(0, 0), (0, 0)]), .inl (0, [(0, 0), (0, 0)]), .inl (0, [(0, 0), (0, 0)]), .inl (0, List.replicate 6 (0, 0)), .inl (0, List.replicate 6 (0, 0)), .inl (0, List.replicate 12 (0, 0)), .inl (0, [(0, 4294967295), (0, 4294967295), (0, 4294967295), (0, 4294967295), (0, 4294967295), (0, 4294967295), (0, 4294967295), (0, 4294967295), (0, 4294967295), (0, 4294967295), (0, 4294967295), (0, 4294967295), (0, 0), (0, 0), (0, 0), (0, 0), (0, 0), (0, 0), (0, 0), (0, 0), (0, 0), (0, 0), (0, 0), (0, 0)]), .inl (0, [(0, 0), (0, 0)]), .inl (0, List.replicate 24 (0, 0)), .inl (0, List.replicate 24 (0, 0)), .inl (2, List.replicate 7 (4, 0)), .inl (2, List.replicate 64 (4, 0)), .inl (0, List.replicate 5000 (0, 0)), .inl (0, List.replicate 5000 (0, 0)), .inl (0, List.replicate 72 (0, 0)), .inl (0, List.replicate 72 (0, 0)), .inl (0, [(0, 0), (0, 0), (0, 0)]), .inl (0, [(0, 0), (0, 0), (0, 0)]), .inl (0, List.replicate 24 (0, 0)), .inl (0, List.replicate 24 (0, 0)), .inl (3, List.replicate 24 (0, 0)), .inl (0, List.replicate 4 (0, 0)), .inl (0, List.replicate 4 (0, 0)), .inl (2, [(4, 0)])]
def xlv0 : xL := [(4, (0, 0)), (3, (1, 143)), (2, (1, 95)), (1, (1, 0)), (0, (5, 50))]
def xnil (r : Option (List xR)) : Bool := match r with
  | some [] => true
  | _ => false
def xstp0 : xRec := fun pc lv st K ce sl κ => if Nat.beq pc 23 && (decide (lv = xlv0) && (decide (st = []) && (decide (K = xK0) && (Nat.beq ce 144 && (Nat.beq sl 14558 && decide (κ = ([], []))))))) then some [] else none
end
section
abbrev yV : Type := Nat × Int
abbrev yMem : Type := Nat → Nat → Int
abbrev yS : Type := (Nat × Nat × List Nat) ⊕ (Nat × List yV)
abbrev yL : Type := List (Nat × yV)
/-- the shape of the two objects at the law's loop: an array (type, length, its references), an object (class, fields; numbers as 0) -/
def ysh : List yS := [.inr (11, [(1, 1), (1, 2), (1, 28), (1, 54), (1, 57), (1, 64), (1, 71), (1, 73), (1, 76), (1, 87), (1, 91), (0, 0), (0, 0), (0, 0), (0, 0)]), .inl (1, 800, []), .inr (4, [(1, 3), (1, 5), (1, 7), (1, 9), (1, 11), (1, 12), (1, 13), (1, 14), (1, 15), (1, 16), (1, 17), (1, 18), (1, 19), (1, 20), (1, 21), (1, 22), (0, 0), (0, 0), (0, 0)]), .inr (6, [(1, 4), (0, 0)]), .inl (0, 3, []), .inr (6, [(1, 6), (0, 0)]), .inl (0, 6, []), .inr (6, [(1, 8), (0, 0)]), .inl (0, 4, []), .inr (6, [(1, 10), (0, 0)]), .inl (0, 3, []), .inl (0, 3, []), .inl (0, 3, []), .inl (0, 6, []), .inl (0, 6, []), .inl (0, 6, []), .inl (0, 6, []), .inl (0, 6, []), .inl (0, 4, []), .inl (0, 12, []), .inl (0, 96, []), .inl (0, 3, []), .inr (2, [(1, 23), (1, 24), (1, 25), (1, 26), (0, 0), (1, 27), (0, 0), (0, 0), (0, 0), (0, 0)]), .inl (0, 64, []), .inl (0, 64, []), .inl (0, 5, []), .inl (0, 5, []), .inl (0, 72, []), .inr (4, [(1, 29), (1, 31), (1, 33), (1, 35), (1, 37), (1, 38), (1, 39), (1, 40), (1, 41), (1, 42), (1, 43), (1, 44), (1, 45), (1, 46), (1, 47), (1, 48), (0, 0), (0, 0), (0, 0)]), .inr (6, [(1, 30), (0, 0)]), .inl (0, 3, []), .inr (6, [(1, 32), (0, 0)]), .inl (0, 6, []), .inr (6, [(1, 34), (0, 0)]), .inl (0, 4, []), .inr (6, [(1, 36), (0, 0)]), .inl (0, 3, []), .inl (0, 3, []), .inl (0, 3, []), .inl (0, 6, []), .inl (0, 6, []), .inl (0, 6, []), .inl (0, 6, []), .inl (0, 6, []), .inl (0, 4, []), .inl (0, 12, []), .inl (0, 96, []), .inl (0, 3, []), .inr (2, [(1, 49), (1, 50), (1, 51), (1, 52), (0, 0), (1, 53), (0, 0), (0, 0), (0, 0), (0, 0)]), .inl (0, 64, []), .inl (0, 64, []), .inl (0, 5, []), .inl (0, 5, []), .inl (0, 72, []), .inr (8, [(1, 55), (1, 28), (0, 0), (0, 0)]), .inr (9, [(1, 1), (1, 56), (0, 0), (0, 0), (0, 0), (0, 0), (0, 0), (0, 0), (0, 0)]), .inl (0, 23, []), .inr (10, [(1, 58), (1, 59), (1, 60), (1, 61), (1, 62), (1, 63), (0, 0), (0, 0), (0, 0), (0, 0), (0, 0), (0, 0), (0, 0)]), .inl (0, 3, []), .inl (0, 6, []), .inl (0, 3, []), .inl (0, 12, []), .inl (0, 12, []), .inl (0, 12, []), .inr (10, [(1, 65), (1, 66), (1, 67), (1, 68), (1, 69), (1, 70), (0, 0), (0, 0), (0, 0), (0, 0), (0, 0), (0, 0), (0, 0)]), .inl (0, 3, []), .inl (0, 6, []), .inl (0, 3, []), .inl (0, 12, []), .inl (0, 12, []), .inl (0, 12, []), .inr (3, [(1, 72), (0, 0)]), .inl (0, 24, []), .inr (5, [(1, 2), (1, 57), (1, 74), (1, 75), (0, 0), (0, 0)]), .inl (2, 7, []), .inl (2, 64, []), .inr (1, [(1, 2), (1, 57), (1, 73), (1, 77), (1, 78), (1, 79), (1, 80), (1, 86), (0, 0), (0, 0), (0, 0)]), .inl (0, 72, []), .inl (0, 72, []), .inl (0, 25, []), .inl (4, 5, [81, 82, 83, 84, 85]), .inl (0, 97, []), .inl (0, 97, []), .inl (0, 97, []), .inl (0, 97, []), .inl (0, 97, []), .inl (0, 12, []), .inr (7, [(1, 2), (1, 57), (1, 73), (1, 88), (1, 89), (1, 90)]), .inl (0, 4, []), .inl (0, 4, []), .inl (0, 3, []), .inr (0, [(1, 2), (1, 57), (1, 73), (1, 92), (1, 93), (1, 94), (0, 0), (0, 0), (0, 0), (0, 0)]), .inl (0, 6, []), .inl (0, 4, []), .inl (0, 4, []), .inr (12, [(0, 0), (1, 96), (0, 0), (1, 97), (1, 98), (1, 99), (1, 100), (1, 101), (1, 102), (1, 103), (1, 104), (1, 105), (1, 106), (1, 107), (1, 108), (1, 109), (1, 110), (1, 111), (1, 112), (1, 113), (1, 114), (1, 115), (1, 116), (1, 117), (0, 0), (0, 0), (0, 0), (0, 0), (0, 0), (0, 0), (0, 0), (0, 0), (0, 0), (0, 0), (0, 0), (0, 0), (0, 0), (1, 118), (1, 119), (1, 120), (1, 121), (1, 122), (1, 123), (1, 124), (1, 125), (1, 126), (1, 127), (1, 128), (1, 129), (0, 0), (1, 130), (1, 131), (0, 0), (1, 132), (1, 133), (1, 134), (1, 135), (1, 136), (1, 137), (0, 0), (0, 0), (0, 0), (0, 0), (1, 138), (1, 139), (1, 140), (1, 141), (1, 142), (0, 0)]), .inl (0, 800, []), .inl (0, 14, []), .inl (0, 6, []), .inl (0, 6, []), .inl (0, 6, []), .inl (0, 12, []), .inl (0, 12, []), .inl (0, 12, []), .inl (3, 12, []), .inl (0, 12, []), .inl (0, 12, []), .inl (0, 12, []), .inl (0, 8, []), .inl (0, 8, []), .inl (0, 24, []), .inl (0, 192, []), .inl (0, 6, []), .inl (0, 6, []), .inl (0, 10, []), .inl (0, 10, []), .inl (0, 128, []), .inl (0, 128, []), .inl (0, 2, []), .inl (0, 2, []), .inl (0, 2, []), .inl (0, 2, []), .inl (0, 2, []), .inl (0, 6, []), .inl (0, 6, []), .inl (0, 12, []), .inl (0, 24, []), .inl (0, 2, []), .inl (0, 24, []), .inl (0, 24, []), .inl (2, 7, []), .inl (2, 64, []), .inl (0, 5000, []), .inl (0, 5000, []), .inl (0, 72, []), .inl (0, 72, []), .inl (0, 3, []), .inl (0, 3, []), .inl (0, 24, []), .inl (0, 24, []), .inl (3, 24, []), .inl (0, 4, []), .inl (0, 4, []), .inl (2, 1, [])]
end
section
set_option maxRecDepth 1000000 in
theorem xpro : xnil (xeT xmt [] true 6000 xm_L0 xstp0 50 0 [(0, (5, 50))] [] [] 0 0 ([], [])) = true := by decide +kernel
end
section
/-! THE LOGIC: a method's frame over a memory of integers, whose shape is the one of the two objects at the law's loop. A value (tag, number): (0, x) int, (1, i) the cell i, (2, _) null, (4, x) long, (5, k) a constant text, (6, k) its bytes, (7, _) a reference that is passed on alone. Numbers stand for their remainders by 2^32 (2^64). -/
abbrev yE : Type := Nat × (Nat → Nat) × (Nat → ClassId) × va_G × Launch × (State → Prop)
abbrev yb (E : yE) : Nat := E.1
abbrev ysa (E : yE) : Nat → Nat := E.2.1
abbrev yda (E : yE) : Nat → ClassId := E.2.2.1
abbrev yD (E : yE) : va_G := E.2.2.2.1
abbrev yl (E : yE) : Launch := E.2.2.2.2.1
abbrev yEX (E : yE) : State → Prop := E.2.2.2.2.2
def iI (x : Int) : Int32 := Int32.ofInt x
def lI (x : Int) : Int64 := Int64.ofInt x
def w32 (x : Int) : Int := (iI x).toInt
def w64 (x : Int) : Int := (lI x).toInt
theorem iI_w (x : Int) : iI (w32 x) = iI x := Int32.ofInt_toInt _
theorem lI_w (x : Int) : lI (w64 x) = lI x := Int64.ofInt_toInt _
theorem iI_t (x : Int32) : iI x.toInt = x := Int32.ofInt_toInt _
theorem lI_t (x : Int64) : lI x.toInt = x := Int64.ofInt_toInt _
theorem w32_of {x : Int} (h1 : -2147483648 ≤ x) (h2 : x < 2147483648) : w32 x = x := Int32.toInt_ofInt_of_le (by simpa using h1) (by simpa using h2)
theorem w64_of {x : Int} (h1 : -9223372036854775808 ≤ x) (h2 : x < 9223372036854775808) : w64 x = x := Int64.toInt_ofInt_of_le (by simpa using h1) (by simpa using h2)
theorem w32_lo (x : Int) : -2147483648 ≤ w32 x := by have := Int32.le_toInt (iI x); simpa [w32] using this
theorem w32_hi (x : Int) : w32 x < 2147483648 := by have := Int32.toInt_lt (iI x); simpa [w32] using this
theorem w64_lo (x : Int) : -9223372036854775808 ≤ w64 x := by have := Int64.le_toInt (lI x); simpa [w64] using this
theorem w64_hi (x : Int) : w64 x < 9223372036854775808 := by have := Int64.toInt_lt (lI x); simpa [w64] using this
theorem w32_w (x : Int) : w32 (w32 x) = w32 x := w32_of (w32_lo x) (w32_hi x)
theorem iI_inj {x y : Int} : iI x = iI y ↔ w32 x = w32 y := Int32.toInt_inj.symm
theorem lI_inj {x y : Int} : lI x = lI y ↔ w64 x = w64 y := Int64.toInt_inj.symm
theorem iI_n (n : Nat) : iI (n : Int) = nI n := Int32.ofInt_eq_ofNat
/-- a constant -/
def cI (a : Nat) : Int := if Nat.blt a 2147483648 then (a : Int) else (a : Int) - 4294967296
def cL (a : Nat) : Int := if Nat.blt a 9223372036854775808 then (a : Int) else (a : Int) - 18446744073709551616
theorem iI_c (a : Nat) : iI (cI a) = nI a := by
  unfold cI
  split
  · exact iI_n a
  · have : iI ((a : Int) - 4294967296) = iI (a : Int) - iI 4294967296 := Int32.ofInt_sub _ _
    rw [this, iI_n, show iI 4294967296 = 0 by decide]
    exact Int32.sub_zero _
theorem lI_c (a : Nat) : lI (cL a) = lN a := by
  unfold cL
  split
  · exact Int64.ofInt_eq_ofNat
  · have : lI ((a : Int) - 18446744073709551616) = lI (a : Int) - lI 18446744073709551616 := Int64.ofInt_sub _ _
    rw [this, show lI 18446744073709551616 = 0 by decide]
    rw [Int64.sub_zero]
    exact Int64.ofInt_eq_ofNat
def ydv (E : yE) (v : yV) : Value := match v with
  | (0, x) => .int (iI x)
  | (1, i) => .ref (yb E + i.toNat)
  | (2, _) => .null
  | (5, k) => .ref (ysa E k.toNat)
  | (6, k) => .ref (ysa E (k.toNat + 1000))
  | (7, _) => if ysa E 98 = 0 then .null else .ref (ysa E 99)
  | (_, x) => .long (lI x)
def yfv (v : yV) (x : Int) : yV := match v with
  | (0, _) => (0, x)
  | (4, _) => (4, x)
  | v => v
def yfs (E : yE) : Nat → List yV → (Nat → Int) → List Value
  | _, [], _ => []
  | j, v :: r, f => ydv E (yfv v (f j)) :: yfs E (j + 1) r f
theorem yfs_get {E : yE} {f : Nat → Int} : ∀ (fs : List yV) (o k : Nat), (yfs E o fs f)[k]? = fs[k]?.map (fun v => ydv E (yfv v (f (o + k))))
  | [], o, k => by simp [yfs]
  | v :: r, o, 0 => by simp [yfs]
  | v :: r, o, k + 1 => by
    simp only [yfs, List.getElem?_cons_succ]
    rw [yfs_get r (o + 1) k, show o + 1 + k = o + (k + 1) by omega]
theorem yfs_len {E : yE} {f : Nat → Int} : ∀ (fs : List yV) (o : Nat), (yfs E o fs f).length = fs.length
  | [], o => rfl
  | v :: r, o => by simp [yfs, yfs_len r (o + 1)]
theorem yfs_ext {E : yE} {f g : Nat → Int} : ∀ (fs : List yV) (o : Nat), (∀ j, o ≤ j → f j = g j) → yfs E o fs f = yfs E o fs g
  | [], o, h => rfl
  | v :: r, o, h => by
    simp only [yfs]
    rw [h o (Nat.le_refl _), yfs_ext r (o + 1) (fun j hj => h j (by omega))]
theorem yfs_set {E : yE} {f : Nat → Int} {x : Int} : ∀ (fs : List yV) (o k : Nat) (v : yV), fs[k]? = some v → (yfs E o fs f).set k (ydv E (yfv v x)) = yfs E o fs (fun j => if j = o + k then x else f j)
  | [], o, k, v, h => by simp at h
  | w :: r, o, 0, v, h => by
    simp only [List.getElem?_cons_zero, Option.some.injEq] at h
    subst h
    simp only [yfs, List.set_cons_zero, Nat.add_zero, if_true]
    congr 1
    exact yfs_ext r (o + 1) (fun j hj => by rw [if_neg (by omega)])
  | w :: r, o, k + 1, v, h => by
    simp only [List.getElem?_cons_succ] at h
    simp only [yfs, List.set_cons_succ]
    rw [yfs_set r (o + 1) k v h, if_neg (by omega)]
    congr 1
    exact yfs_ext r (o + 1) (fun j hj => by rw [show o + 1 + k = o + (k + 1) by omega])
def yce (E : yE) (S : yS) (f : Nat → Int) : va_E := match S with
  | .inl (2, n, _) => .inl (yda E 2, n, .inr (.inl (fun j => lI (f j))))
  | .inl (4, n, rs) => .inl (yda E 4, n, .inr (.inr (.inr (.inr (fun j => (rs[j]?).map (fun q => yb E + q))))))
  | .inl (k, n, _) => .inl (yda E k, n, .inl (fun j => iI (f j)))
  | .inr (ci, fs) => .inr (ci, yfs E 0 fs f)
def ycx (E : yE) (mem : yMem) : Nat → List yS → va_W
  | _, [] => []
  | i, S :: r => (yb E + i, yce E S (mem i)) :: ycx E mem (i + 1) r
theorem ycx_get {E : yE} {mem : yMem} : ∀ (L : List yS) (o i : Nat), (ycx E mem o L)[i]? = L[i]?.map (fun S => (yb E + (o + i), yce E S (mem (o + i))))
  | [], o, i => by simp [ycx]
  | S :: r, o, 0 => by simp [ycx]
  | S :: r, o, i + 1 => by
    simp only [ycx, List.getElem?_cons_succ]
    rw [ycx_get r (o + 1) i, show o + 1 + i = o + (i + 1) by omega]
theorem ycx_ext {E : yE} {mem mem' : yMem} : ∀ (L : List yS) (o : Nat), (∀ c, o ≤ c → mem c = mem' c) → ycx E mem o L = ycx E mem' o L
  | [], o, h => rfl
  | S :: r, o, h => by
    simp only [ycx]
    rw [h o (Nat.le_refl _), ycx_ext r (o + 1) (fun j hj => h j (by omega))]
theorem ycx_set {E : yE} {mem : yMem} {f : Nat → Int} : ∀ (L : List yS) (o i : Nat) (S : yS), L[i]? = some S → (ycx E mem o L).set i (yb E + (o + i), yce E S f) = ycx E (fun c => if c = o + i then f else mem c) o L
  | [], o, i, S, h => by simp at h
  | T :: r, o, 0, S, h => by
    simp only [List.getElem?_cons_zero, Option.some.injEq] at h
    subst h
    simp only [ycx, List.set_cons_zero, Nat.add_zero, if_true]
    congr 1
    exact ycx_ext r (o + 1) (fun c hc => by rw [if_neg (by omega)])
  | T :: r, o, i + 1, S, h => by
    simp only [List.getElem?_cons_succ] at h
    simp only [ycx, List.set_cons_succ]
    rw [show o + (i + 1) = o + 1 + i by omega, ycx_set r (o + 1) i S h, if_neg (by omega)]
abbrev yW (E : yE) (mem : yMem) : va_W := ycx E mem 0 ysh
def yset (mem : yMem) (i n : Nat) (x : Int) : yMem := fun c j => if c = i then (if j = n then x else mem c j) else mem c j
def ycpy (mem : yMem) (ss sp dd dp n : Nat) : yMem := fun c j => if c = dd then (if dp ≤ j ∧ j < dp + n then mem ss (sp + (j - dp)) else mem c j) else mem c j
theorem yset_eq (mem : yMem) (i n : Nat) (x : Int) : (fun c => if c = 0 + i then (fun j => if j = n then x else mem i j) else mem c) = yset mem i n x := by
  funext c j
  simp only [yset, Nat.zero_add]
  by_cases h : c = i
  · subst h; simp
  · simp [h]
theorem ycpy_eq (mem : yMem) (ss sp dd dp n : Nat) : (fun c => if c = 0 + dd then va_cpy (mem ss) (mem dd) sp dp n else mem c) = ycpy mem ss sp dd dp n := by
  funext c j
  simp only [ycpy, Nat.zero_add]
  by_cases h : c = dd
  · subst h; simp [va_cpy]
  · simp [h]
theorem yW_at {E : yE} {mem : yMem} {i : Nat} {S : yS} (h : ysh[i]? = some S) : (yW E mem)[i]? = some (yb E + i, yce E S (mem i)) := by
  rw [ycx_get, h, Nat.zero_add]
  rfl
theorem yW_put {E : yE} {mem : yMem} {i : Nat} {S : yS} {f : Nat → Int} (h : ysh[i]? = some S) : (yW E mem).set i (yb E + i, yce E S f) = yW E (fun c => if c = 0 + i then f else mem c) := by
  have := ycx_set (E := E) (mem := mem) (f := f) ysh 0 i S h
  rw [Nat.zero_add] at this ⊢
  exact this
theorem yW_D {E : yE} {mem : yMem} {A : Nat → Prop} (h : ∀ i, i < ysh.length → A (yb E + i)) : va_D A (yW E mem) := by
  refine ⟨fun i j p q hi hj hpq => ?_, fun k q hk => ?_⟩
  · rw [ycx_get] at hi hj
    cases h1 : ysh[i]? with
    | none => rw [h1] at hi; cases hi
    | some x =>
      cases h2 : ysh[j]? with
      | none => rw [h2] at hj; cases hj
      | some y =>
        rw [h1] at hi; rw [h2] at hj
        cases hi; cases hj
        dsimp only at hpq
        omega
  · rw [ycx_get] at hk
    cases h1 : ysh[k]? with
    | none => rw [h1] at hk; cases hk
    | some x =>
      rw [h1] at hk
      cases hk
      have := (List.getElem?_eq_some_iff.mp h1).1
      rw [show yb E + (0 + k) = yb E + k by omega]
      exact h k this
/-! locals -/
def ykdb (k : Nat) (v : yV) : Bool := match k with
  | 0 => Nat.beq v.1 0
  | 1 => Nat.beq v.1 1 || (Nat.beq v.1 2 || (Nat.beq v.1 5 || (Nat.beq v.1 6 || Nat.beq v.1 7)))
  | _ => Nat.beq v.1 4
def ycat (v : yV) : Nat := match v with
  | (0, _) => 1
  | (1, _) => 1
  | (2, _) => 1
  | (5, _) => 1
  | (6, _) => 1
  | (7, _) => 1
  | _ => 2
theorem ycat_ok {E : yE} (v : yV) : (ydv E v).category = ycat v := by
  match v with
  | (0, _) | (1, _) | (2, _) | (3, _) | (4, _) | (5, _) | (6, _) => rfl
  | (7, _) =>
    simp only [ydv, ycat]
    split <;> rfl
  | (n + 8, _) => rfl
theorem yk0 {v : yV} (h : ykdb 0 v = true) : v = (0, v.2) := by
  obtain ⟨t, x⟩ := v
  have : t = 0 := Nat.eq_of_beq_eq_true h
  subst this
  rfl
theorem yk1 {E : yE} {v : yV} (h : ykdb 1 v = true) : xkd 1 (ydv E v) := by
  match v, h with
  | (1, _), _ => exact Or.inr ⟨_, rfl⟩
  | (2, _), _ => exact Or.inl rfl
  | (5, _), _ => exact Or.inr ⟨_, rfl⟩
  | (6, _), _ => exact Or.inr ⟨_, rfl⟩
  | (7, _), _ =>
    simp only [ydv]
    split
    · exact Or.inl rfl
    · exact Or.inr ⟨_, rfl⟩
  | (0, _), h | (3, _), h | (4, _), h => cases h
  | (n + 8, _), h => cases h
theorem yk2 {v : yV} (h : ykdb 2 v = true) : v = (4, v.2) := by
  obtain ⟨t, x⟩ := v
  have : t = 4 := Nat.eq_of_beq_eq_true h
  subst this
  rfl
theorem ykk {E : yE} {k : Nat} (hk : k < 3) {v : yV} (h : ykdb k v = true) : xkd k (ydv E v) := by
  match k, hk, h with
  | 0, _, h => rw [yk0 h]; exact ⟨_, rfl⟩
  | 1, _, h => exact yk1 h
  | 2, _, h => rw [yk2 h]; exact ⟨_, rfl⟩
def ylk : yL → Nat → Option yV
  | [], _ => none
  | q :: r, i => if Nat.beq q.1 i then some q.2 else ylk r i
theorem ylk_mem : ∀ {l : yL} {i : Nat} {v : yV}, ylk l i = some v → (i, v) ∈ l
  | q :: r, i, o, h => by
    simp only [ylk] at h
    split at h
    · next he =>
      cases h
      rw [Nat.beq_eq] at he
      subst he
      exact List.mem_cons_self
    · exact List.mem_cons_of_mem _ (ylk_mem h)
def yflb (k i : Nat) (q : Nat × yV) : Bool := match k with
  | 2 => !(Nat.beq q.1 i) && (!(Nat.beq q.1 (i + 1)) && !(Nat.beq (q.1 + 1) i && Nat.beq (ycat q.2) 2))
  | _ => !(Nat.beq q.1 i) && !(Nat.beq (q.1 + 1) i && Nat.beq (ycat q.2) 2)
def ydL (E : yE) (lv : yL) : List (Nat × Value) := lv.map (fun q => (q.1, ydv E q.2))
theorem yflb_ok {E : yE} (k i : Nat) (lv : yL) : (ydL E lv).filter (xfl k i) = ydL E (lv.filter (yflb k i)) := by
  unfold ydL
  rw [List.filter_map]
  congr 1
  apply List.filter_congr
  intro q _
  show xfl k i (q.1, ydv E q.2) = yflb k i q
  match k with
  | 0 | 1 => simp only [xfl, yflb, xbeq, ycat_ok]
  | 2 => simp only [xfl, yflb, xbeq, ycat_ok]
  | n + 3 => simp only [xfl, yflb, xbeq, ycat_ok]
def ysum : List yV → Nat
  | [] => 0
  | v :: r => ycat v + ysum r
theorem ysum_ok {E : yE} : ∀ st : List yV, ((st.map (ydv E)).map fun v => v.category).sum = ysum st
  | [] => rfl
  | v :: r => by
    simp only [List.map_cons, List.sum_cons, ysum, ycat_ok]
    rw [ysum_ok r]
theorem ysum_app (a : List yV) : ∀ c : List yV, ysum (c ++ a) = ysum c + ysum a
  | [] => by simp [ysum]
  | v :: r => by simp [ysum, ysum_app a r, Nat.add_assoc]
theorem ysum_rev : ∀ a : List yV, ysum a.reverse = ysum a
  | [] => rfl
  | v :: r => by
    rw [List.reverse_cons, ysum_app, ysum_rev r]
    simp [ysum, Nat.add_comm]
def yargs : Nat → List yV → yL
  | _, [] => []
  | i, v :: r => (i, v) :: yargs (i + ycat v) r
theorem ycat12 (v : yV) (i : Nat) : (if ycat v = 2 then i + 2 else i + 1) = i + ycat v := by
  match v with
  | (0, _) | (1, _) | (2, _) | (3, _) | (4, _) | (5, _) | (6, _) | (7, _) => rfl
  | (n + 8, _) => rfl
theorem yargs_ok {E : yE} : ∀ (vs : List yV) (i : Nat), lv_args i (vs.map (ydv E)) = ydL E (yargs i vs)
  | [], _ => rfl
  | v :: r, i => by
    simp only [List.map_cons, lv_args, yargs, ydL]
    rw [ycat_ok]
    congr 1
    rw [ycat12]
    exact yargs_ok r (i + ycat v)
theorem ylen_ok {E : yE} : ∀ vs : List yV, (lg_sl (vs.map (ydv E))).length = ysum vs
  | [] => rfl
  | v :: r => by
    have ih := ylen_ok (E := E) r
    simp only [lg_sl, List.map_cons, List.flatMap_cons, List.length_append, ysum] at ih ⊢
    rw [ih, ycat_ok]
    match v with
    | (0, _) | (1, _) | (2, _) | (3, _) | (4, _) | (5, _) | (6, _) | (7, _) => rfl
    | (n + 8, _) => rfl
/-! the judgements -/
def yR (d : Nat) : Room := { frames := d, cells := 0, slots := 0, locals := 64 * d }
def yCtx (E : yE) (M : xM) (p : Program) (s : State) (m : MethodId) (args : Array Value) (meth : Method) (c : Code) (A : Nat → Prop) : Prop := xCtx (yb E) (yda E) (yD E) M p s m args meth c A (yEX E) ∧ ∀ i, i < ysh.length → A (yb E + i)
def yG (E : yE) (R : Room) (M : xM) (pc : Nat) (lv : yL) (st : List yV) (mem : yMem) (ce sl : Nat) (Post : Option yV → yMem → Prop) : Prop :=
  ∀ (p : Program) (e : Env) (s : State) (m : MethodId) (args : Array Value) (below : List Frame) (meth : Method) (c : Code) (A : Nat → Prop) (Qc : Array Value → State → Outcome → State → Prop), yCtx E M p s m args meth c A → (∀ (r : Option yV) (mem' : yMem) (t : State), Post r mem' → va_P (yD E) vwCl (yW E mem') t.heap → va_F A s t → Qc args s (.returned (r.map (ydv E))) t) →
    ∀ (H : Heap) (locs : List Loc) (ls : Array Slot), lv_has ls (xMl M) (ydL E lv) → va_P (yD E) vwCl (yW E mem) H → va_S A s.heap H locs → W p (yl E) e R s m args below meth c H locs ce sl (MQ below Qc args s R.cells R.slots A) (F0 m pc ls (st.map (ydv E)))
def yPp (E : yE) (mem : yMem) (sz : Nat) (U : State) : Prop := U.heap.size = sz ∧ va_P (yD E) vwCl (yW E mem) U.heap ∧ va_K (yD E) vwCl (xtys (yda E)) U ∧ yEX E U
def yQp (E : yE) (sz : Nat) (Post : Option yV → yMem → Prop) : State → Outcome → State → Prop := fun u o t =>
  ∃ (r : Option yV) (mem' : yMem), Post r mem' ∧ o = .returned (r.map (ydv E)) ∧ va_P (yD E) vwCl (yW E mem') t.heap ∧ va_F (xA (yb E) ysh.length sz) u t
def yCon (E : yE) (d : Nat) (M : xM) (avs : List yV) (mem : yMem) (Post : Option yV → yMem → Prop) : Prop :=
  ∀ sz : Nat, yb E + ysh.length ≤ sz → Met (yl E) (xMy M) (xWs M) (yR d) (va_Pc (avs.map (ydv E)) (yPp E mem sz)) (fun _ => yQp E sz Post) 0 0 (xA (yb E) ysh.length sz)
def yEok (E : yE) : Prop := (yl E).stackTraces = false ∧ xEok (yb E) (ysa E) (yEX E)
/-- a method's contract out of the walk of its body -/
theorem yCon_of {E : yE} {d : Nat} {M : xM} (hM : xMok xmt M) {avs : List yV} {mem : yMem} {Post : Option yV → yMem → Prop} (hs : ysum avs ≤ xMl M) (h : yG E (yR d) M 0 (yargs 0 avs) [] mem 0 0 Post) : yCon E d M avs mem Post := by
  intro sz hb
  refine Met.ofW (cc := xMc M) (maxL := xMl M) (ret := xMr M) hM.2.2.2.1 rfl ?_
  intro p e s m args below meth c s₁ B hml hv
  obtain ⟨rfl, hsz, hP, hK, hEX⟩ := hv
  subst hsz
  have hts := atoms_spec (ws := xWs M) B.pre
  have hown : s.vm.findClass (xMy M).cls = some m.cls := findClass_of_methodNamed B.named
  have hC : xCtx (yb E) (yda E) (yD E) M p s m (avs.map (ydv E)).toArray meth c (xA (yb E) ysh.length s.heap.size) (yEX E) :=
    ⟨⟨B.exec, B.bytes, by rw [hM.2.2.2.2.1]; exact hown, fun w hw => hts w (List.mem_cons_of_mem _ hw)⟩, hml, hK, fun q h => Or.inr h, fun q h => by
      rcases h with h | h
      · exact h.1
      · omega, B.returns, B.notSynchronized, (fun h => (name_of_methodNamed B.named B.method).1.trans h), hEX, by omega⟩
  have hl := lv_entry (avs.map (ydv E)) (n := xMl M) (by rw [ylen_ok]; exact hs)
  rw [yargs_ok] at hl
  rw [lg_entry_eq]
  exact h p e s m _ below meth c _ (fun _ => yQp E s.heap.size Post) ⟨hC, fun i hi => Or.inl ⟨by omega, by omega⟩⟩ (fun r mem' t h1 h2 h3 => ⟨r, mem', h1, rfl, h2, h3⟩) _ [] _ hl hP va_S.rf
end
section
/-! ONE INSTRUCTION of a frame: what must hold, and what goes on -/
def ybin (o : Nat) (x y : Int) : Int := match o with
  | 0 => x + y
  | 1 => x - y
  | 2 => x * y
  | o => (fbin o (iI x) (iI y)).toInt
theorem ybin_ok (o : Nat) (x y : Int) : iI (ybin o x y) = fbin o (iI x) (iI y) := by
  match o with
  | 0 => exact Int32.ofInt_add x y
  | 1 => exact Int32.ofInt_sub x y
  | 2 => exact Int32.ofInt_mul x y
  | n + 3 => exact iI_t _
def ylbin (o : Nat) (x y : Int) : Int := match o with
  | 0 => x + y
  | 1 => x - y
  | 2 => x * y
  | o => (gbin o (lI x) (lI y)).toInt
theorem ylbin_ok (o : Nat) (x y : Int) : lI (ylbin o x y) = gbin o (lI x) (lI y) := by
  match o with
  | 0 => exact Int64.ofInt_add x y
  | 1 => exact Int64.ofInt_sub x y
  | 2 => exact Int64.ofInt_mul x y
  | n + 3 => exact lI_t _
def ycmp (x y : Int) : Int := if w64 y < w64 x then 1 else if w64 x = w64 y then 0 else -1
theorem ycmp_ok (x y : Int) : iI (ycmp x y) = lg_cmp (lI x) (lI y) := by
  unfold ycmp lg_cmp
  have e1 : (lI x > lI y) ↔ w64 y < w64 x := Int64.lt_iff_toInt_lt
  have e2 : (lI x = lI y) ↔ w64 x = w64 y := lI_inj
  by_cases h1 : w64 y < w64 x
  · rw [if_pos h1, if_pos (e1.mpr h1)]; rfl
  · rw [if_neg h1, if_neg (fun z => h1 (e1.mp z))]
    by_cases h2 : w64 x = w64 y
    · rw [if_pos h2, if_pos (e2.mpr h2)]; rfl
    · rw [if_neg h2, if_neg (fun z => h2 (e2.mp z))]; rfl
/-- comparing: 0 =, 1 not =, 2 <, 3 >=, 4 >, 5 <= -/
def ycp (c : Nat) (x y : Int) : Prop := match c with
  | 0 => w32 x = w32 y
  | 1 => ¬ w32 x = w32 y
  | 2 => w32 x < w32 y
  | 3 => w32 y ≤ w32 x
  | 4 => w32 y < w32 x
  | _ => w32 x ≤ w32 y
theorem ycp_ok (c : Nat) (x y : Int) : xcp c (iI x) (iI y) ↔ ycp c x y := by
  match c with
  | 0 => exact iI_inj
  | 1 => exact not_congr iI_inj
  | 2 => exact Int32.lt_iff_toInt_lt
  | 3 => exact Int32.le_iff_toInt_le
  | 4 => exact Int32.lt_iff_toInt_lt
  | n + 5 => exact Int32.le_iff_toInt_le
def yput (st : List yV) (r : Option yV) : List yV := match r with
  | some v => v :: st
  | none => st
def ycall (E : yE) (d mi n0 : Nat) (st : List yV) (mem : yMem) (k : List yV → yMem → Prop) : Prop := match xmt[mi]? with
  | none => False
  | some M' => xMn M' + n0 ≤ st.length ∧ ysum (st.drop (xMn M' + n0)) ≤ 8 ∧ ysum (st.take (xMn M' + n0)) ≤ xMl M' ∧ xMl M' ≤ 45 ∧ yCon E d M' (st.take (xMn M' + n0)).reverse mem (fun r mem' => k (yput (st.drop (xMn M' + n0)) r) mem')
theorem w32_01 {x : Int} (h : w32 x = 0 ∨ w32 x = 1) : iI x = iI 0 ∨ iI x = iI 1 := by
  rcases h with h | h
  · exact Or.inl (iI_inj.mpr (by rw [h]; decide))
  · exact Or.inr (iI_inj.mpr (by rw [h]; decide))
/-- may a field of this type hold it -/
def yfit (t : Nat) (v w : yV) : Prop := match t with
  | 0 => v.1 = 0 ∧ w.1 = 0
  | 2 => v.1 = 4 ∧ w.1 = 4
  | 3 => v.1 = 0 ∧ (w32 v.2 = 0 ∨ w32 v.2 = 1) ∧ w.1 = 0
  | _ => False
def ynok (t : Nat) (x : Int) : Prop := match t with
  | 0 => True
  | 1 => -128 ≤ w32 x ∧ w32 x ≤ 127
  | 3 => w32 x = 0 ∨ w32 x = 1
  | _ => False
def ystep (E : yE) (R : Room) (d : Nat) (M : xM) (op : xOp) (lv : yL) (st : List yV) (mem : yMem) (Post : Option yV → yMem → Prop) (k : Nat → yL → List yV → yMem → Prop) : Prop := match op.1 with
  | 0 => k op.2.1 lv ((0, cI op.2.2.1) :: st) mem
  | 1 => k op.2.1 lv ((4, cL op.2.2.1) :: st) mem
  | 2 => ∃ v, ylk lv op.2.2.2.1 = some v ∧ ykdb op.2.2.1 v = true ∧ k op.2.1 lv (v :: st) mem
  | 3 => match st with
    | v :: st' => ykdb op.2.2.1 v = true ∧ op.2.2.2.1 + xwd op.2.2.1 < xMl M ∧ k op.2.1 ((op.2.2.2.1, v) :: lv.filter (yflb op.2.2.1 op.2.2.2.1)) st' mem
    | _ => False
  | 4 => ∃ x, ylk lv op.2.2.1 = some (0, x) ∧ op.2.2.1 < xMl M ∧ k op.2.1 ((op.2.2.1, (0, x + cI op.2.2.2.1)) :: lv.filter (yflb 0 op.2.2.1)) st mem
  | 5 => match st with
    | (0, y) :: (0, x) :: st' => ((op.2.2.1 = 9 ∨ op.2.2.1 = 10) → ¬ w32 y = 0) ∧ k op.2.1 lv ((0, ybin op.2.2.1 x y) :: st') mem
    | _ => False
  | 6 => match st with
    | (0, x) :: st' => k op.2.1 lv ((0, (iI x).toInt8.toInt32.toInt) :: st') mem
    | _ => False
  | 8 => match st with
    | (4, y) :: (4, x) :: st' => k op.2.1 lv ((0, ycmp x y) :: st') mem
    | _ => False
  | 9 => match st with
    | v :: st' => ycat v = 1 ∧ k op.2.1 lv (v :: v :: st') mem
    | _ => False
  | 10 => match st with
    | v :: st' => ycat v = 1 ∧ k op.2.1 lv st' mem
    | _ => False
  | 11 => match st with
    | v :: w :: st' => ycat v = 1 ∧ ycat w = 1 ∧ k op.2.1 lv (v :: w :: v :: w :: st') mem
    | _ => False
  | 12 => match st with
    | (0, x) :: st' => (ycp op.2.2.2.1 x 0 → k op.2.2.1 lv st' mem) ∧ (¬ ycp op.2.2.2.1 x 0 → k op.2.1 lv st' mem)
    | _ => False
  | 13 => match st with
    | (0, y) :: (0, x) :: st' => (ycp op.2.2.2.1 x y → k op.2.2.1 lv st' mem) ∧ (¬ ycp op.2.2.2.1 x y → k op.2.1 lv st' mem)
    | _ => False
  | 14 => k op.2.1 lv st mem
  | 15 => match st with
    | (0, x) :: st' => (∀ q ∈ op.2.2.2.2, w32 x = cI q.1 → k q.2 lv st' mem) ∧ ((∀ q ∈ op.2.2.2.2, ¬ w32 x = cI q.1) → k op.2.2.1 lv st' mem) ∧ (∀ q ∈ op.2.2.2.2, q.1 < 4294967296)
    | _ => False
  | 16 => match st with
    | (1, i) :: st' => ∃ fs v, ysh[i.toNat]? = some (.inr (op.2.2.1, fs)) ∧ fs[op.2.2.2.1]? = some v ∧ k op.2.1 lv (yfv v (mem i.toNat op.2.2.2.1) :: st') mem
    | _ => False
  | 17 => match st, op.2.2.2.2 with
    | v :: (1, i) :: st', [q] => ∃ fs w, ysh[i.toNat]? = some (.inr (op.2.2.1, fs)) ∧ fs[op.2.2.2.1]? = some w ∧ yfit q.1 v w ∧ k op.2.1 lv st' (yset mem i.toNat op.2.2.2.1 v.2)
    | _, _ => False
  | 18 => match st with
    | (1, i) :: st' => ∃ t n rs, ysh[i.toNat]? = some (.inl (t, n, rs)) ∧ t < 5 ∧ k op.2.1 lv ((0, (n : Int)) :: st') mem
    | (6, i) :: st' => i.toNat < 3 ∧ k op.2.1 lv ((0, ((xlen.getD i.toNat 0 : Nat) : Int)) :: st') mem
    | _ => False
  | 19 => match st with
    | (0, j) :: (1, i) :: st' => ∃ n rs, ysh[i.toNat]? = some (.inl (op.2.2.1, n, rs)) ∧ 0 ≤ w32 j ∧ w32 j < (n : Int) ∧ k op.2.1 lv ((0, mem i.toNat (w32 j).toNat) :: st') mem
    | _ => False
  | 20 => match st with
    | (0, j) :: (1, i) :: st' => ∃ n rs q, ysh[i.toNat]? = some (.inl (4, n, rs)) ∧ 0 ≤ w32 j ∧ w32 j < (n : Int) ∧ rs[(w32 j).toNat]? = some q ∧ k op.2.1 lv ((1, (q : Int)) :: st') mem
    | _ => False
  | 21 => match st with
    | (0, x) :: (0, j) :: (1, i) :: st' => ∃ n rs, ysh[i.toNat]? = some (.inl (op.2.2.1, n, rs)) ∧ 0 ≤ w32 j ∧ w32 j < (n : Int) ∧ ynok op.2.2.1 x ∧ k op.2.1 lv st' (yset mem i.toNat (w32 j).toNat x)
    | _ => False
  | 26 => match st with
    | (0, n) :: (0, dp) :: (1, dd) :: (0, sp) :: (1, ss) :: st' => ysum st' ≤ 8 ∧ ∃ n0 r0 n1 r1, ysh[ss.toNat]? = some (.inl (0, n0, r0)) ∧ ysh[dd.toNat]? = some (.inl (0, n1, r1)) ∧ 0 ≤ w32 n ∧ 0 ≤ w32 sp ∧ 0 ≤ w32 dp ∧ w32 sp + w32 n ≤ (n0 : Int) ∧ w32 dp + w32 n ≤ (n1 : Int) ∧ k op.2.1 lv st' (ycpy mem ss.toNat (w32 sp).toNat dd.toNat (w32 dp).toNat (w32 n).toNat)
    | _ => False
  | 27 => ycall E d op.2.2.1 0 st mem (fun st' mem' => k op.2.1 lv st' mem')
  | 47 => ycall E d op.2.2.1 0 st mem (fun st' mem' => k op.2.1 lv st' mem')
  | 28 => (match xmt[op.2.2.1]? with
    | some M' => match st.drop (xMn M') with
      | (1, i) :: _ => ∃ fs, ysh[i.toNat]? = some (.inr (op.2.2.2.1, fs))
      | _ => False
    | none => False) ∧ ycall E d op.2.2.1 1 st mem (fun st' mem' => k op.2.1 lv st' mem')
  | 30 => match st with
    | [(0, x)] => (op.2.2.2.1 = 0 ∨ (op.2.2.2.1 = 3 ∧ (w32 x = 0 ∨ w32 x = 1))) ∧ Post (some (0, x)) mem
    | _ => False
  | 31 => match st with
    | [(4, x)] => Post (some (4, x)) mem
    | _ => False
  | 32 => match st with
    | [] => Post none mem
    | _ => False
  | 33 => k op.2.1 lv ((5, (op.2.2.1 : Int)) :: st) mem
  | 34 => k op.2.1 lv ((0, 1) :: st) mem
  | 35 => match st with
    | (5, i) :: st' => i.toNat < 3 ∧ k op.2.1 lv ((if op.2.2.1 = 0 then (6, i) else (0, 0)) :: st') mem
    | _ => False
  | 37 => match st with
    | (0, j) :: (6, i) :: st' => i.toNat < 3 ∧ 0 ≤ w32 j ∧ w32 j < ((xlen.getD i.toNat 0 : Nat) : Int) ∧ k op.2.1 lv ((0, (((xbyt.getD i.toNat []).getD (w32 j).toNat 0 : Nat) : Int)) :: st') mem
    | _ => False
  | 38 => match st with
    | (0, x) :: st' => 0 ≤ x ∧ x < 65536 ∧ k op.2.1 lv ((0, x) :: st') mem
    | _ => False
  | 39 => (match xmt[op.2.2.1]? with
    | some M' => match st.drop (xMn M') with
      | (5, i) :: _ => i.toNat < 3
      | _ => False
    | none => False) ∧ ycall E d op.2.2.1 1 st mem (fun st' mem' => k op.2.1 lv st' mem')
  | 40 => match st with
    | [(0, x)] => 0 ≤ x ∧ x < (if op.2.2.2.1 = 5 then 65536 else 128) ∧ Post (some (0, x)) mem
    | _ => False
  | 41 => k op.2.1 lv ((7, 0) :: st) mem
  | 60 => match st with
    | (4, y) :: (4, x) :: st' => k op.2.1 lv ((4, ylbin op.2.2.1 x y) :: st') mem
    | _ => False
  | 61 => match st with
    | (4, y) :: (4, x) :: st' => ¬ w64 y = 0 ∧ k op.2.1 lv ((4, ylbin op.2.2.1 x y) :: st') mem
    | _ => False
  | 62 => match st with
    | (0, y) :: (4, x) :: st' => k op.2.1 lv ((4, (lI x <<< ((iI y).toInt64 &&& 63)).toInt) :: st') mem
    | _ => False
  | 63 => match st with
    | (0, y) :: (4, x) :: st' => k op.2.1 lv ((4, ((lI x).toUInt64 >>> ((iI y).toInt64.toUInt64 &&& Int64.toUInt64 63)).toInt64.toInt) :: st') mem
    | _ => False
  | 64 => match st with
    | (4, x) :: st' => k op.2.1 lv ((4, -x) :: st') mem
    | _ => False
  | 65 => match st with
    | (0, x) :: st' => k op.2.1 lv ((4, w32 x) :: st') mem
    | _ => False
  | 66 => match st with
    | (4, x) :: st' => k op.2.1 lv ((0, x) :: st') mem
    | _ => False
  | 67 => match st with
    | (0, j) :: (1, i) :: st' => ∃ n rs, ysh[i.toNat]? = some (.inl (2, n, rs)) ∧ 0 ≤ w32 j ∧ w32 j < (n : Int) ∧ k op.2.1 lv ((4, mem i.toNat (w32 j).toNat) :: st') mem
    | _ => False
  | 68 => match st with
    | (4, x) :: (0, j) :: (1, i) :: st' => ∃ n rs, ysh[i.toNat]? = some (.inl (2, n, rs)) ∧ 0 ≤ w32 j ∧ w32 j < (n : Int) ∧ k op.2.1 lv st' (yset mem i.toNat (w32 j).toNat x)
    | _ => False
  | 69 => match st with
    | v :: st' => ycat v = 2 ∧ k op.2.1 lv st' mem
    | _ => False
  | 70 => match st with
    | (0, y) :: (0, x) :: st' => ysum st' ≤ 8 ∧ k op.2.1 lv ((0, if op.2.2.1 = 0 then (if w32 y < w32 x then y else x) else (if w32 x < w32 y then y else x)) :: st') mem
    | _ => False
  | 71 => match st with
    | (4, y) :: (4, x) :: st' => ysum st' ≤ 8 ∧ k op.2.1 lv ((4, if op.2.2.1 = 0 then (if w64 y < w64 x then y else x) else (if w64 y < w64 x then x else y)) :: st') mem
    | _ => False
  | 72 => match st with
    | (4, x) :: st' => ysum st' ≤ 8 ∧ k op.2.1 lv ((4, if 0 < w64 x then x else -x) :: st') mem
    | _ => False
  | _ => False
end
section
section YS
variable {E : yE} {R : Room} {d : Nat} {M : xM} {pc nx : Nat} {lv : yL} {st : List yV} {mem : yMem} {ce sl : Nat} {Post : Option yV → yMem → Prop}
theorem y_T {st0 st1 : List yV} (hT : xT (xMc M) (xMo M) pc nx (st0.map (ydv E)) (st1.map (ydv E))) (h : yG E R M nx lv (st1 ++ st) mem ce sl Post) : yG E R M pc lv (st0 ++ st) mem ce sl Post := by
  intro p e s m args below meth c A Qc hC hQ H locs ls hl hP hS
  have := h p e s m args below meth c A Qc hC hQ H locs ls hl hP hS
  rw [List.map_append] at this ⊢
  exact hT p (yl E) e R s m args below meth c H locs ce sl _ ls _ hC.1.1 this
theorem y_load {k i : Nat} {v : yV} (hk3 : k < 3) (hT : xLd (xMc M) (xMo M) pc nx k i) (hv : ylk lv i = some v) (hk : ykdb k v = true) (h : yG E R M nx lv (v :: st) mem ce sl Post) : yG E R M pc lv st mem ce sl Post := by
  intro p e s m args below meth c A Qc hC hQ H locs ls hl hP hS
  have := h p e s m args below meth c A Qc hC hQ H locs ls hl hP hS
  rw [List.map_cons] at this
  exact hT p (yl E) e R s m args below meth c H locs ce sl _ ls _ hC.1.1 _ (ykk hk3 hk) (hl.2.2 _ (List.mem_map.mpr ⟨(i, v), ylk_mem hv, rfl⟩)) this
theorem y_store {k i : Nat} {v : yV} (hk3 : k < 3) (hT : xSt (xMc M) (xMo M) pc nx k i) (hk : ykdb k v = true) (hi : i + xwd k < xMl M) (h : yG E R M nx ((i, v) :: lv.filter (yflb k i)) st mem ce sl Post) : yG E R M pc lv (v :: st) mem ce sl Post := by
  intro p e s m args below meth c A Qc hC hQ H locs ls hl hP hS
  rw [List.map_cons]
  refine hT p (yl E) e R s m args below meth c H locs ce sl _ ls _ hC.1.1 _ _ _ (ykk hk3 hk) hl hi (fun ls' hl' => ?_)
  rw [yflb_ok] at hl'
  exact h p e s m args below meth c A Qc hC hQ H locs ls' hl' hP hS
theorem y_iinc {i n : Nat} {x : Int} (hT : xIn (xMc M) (xMo M) pc nx i n) (hv : ylk lv i = some (0, x)) (hi : i < xMl M) (h : yG E R M nx ((i, (0, x + cI n)) :: lv.filter (yflb 0 i)) st mem ce sl Post) : yG E R M pc lv st mem ce sl Post := by
  intro p e s m args below meth c A Qc hC hQ H locs ls hl hP hS
  have hm : (i, ydv E (0, x)) ∈ ydL E lv := List.mem_map.mpr ⟨(i, (0, x)), ylk_mem hv, rfl⟩
  obtain ⟨k, hk⟩ := List.getElem?_of_mem hm
  refine hT p (yl E) e R s m args below meth c H locs ce sl _ ls _ hC.1.1 _ k _ (iI x) hl hk hi (fun ls' hl' => ?_)
  have e1 : iI x + nI n = iI (x + cI n) := by rw [← iI_c]; exact (Int32.ofInt_add x (cI n)).symm
  rw [yflb_ok, e1] at hl'
  exact h p e s m args below meth c A Qc hC hQ H locs ls' hl' hP hS
theorem y_fork {k tgt : Nat} {x y : Int} (hT : xB (xMc M) (xMo M) pc nx tgt k) (h1 : ycp k x y → yG E R M tgt lv st mem ce sl Post) (h2 : ¬ ycp k x y → yG E R M nx lv st mem ce sl Post) : yG E R M pc lv ((0, y) :: (0, x) :: st) mem ce sl Post := by
  intro p e s m args below meth c A Qc hC hQ H locs ls hl hP hS
  rw [List.map_cons, List.map_cons]
  refine hT p (yl E) e R s m args below meth c H locs ce sl _ ls _ hC.1.1 (iI x) (iI y) (fun hc => ?_) (fun hc => ?_)
  · exact h1 ((ycp_ok k x y).mp hc) p e s m args below meth c A Qc hC hQ H locs ls hl hP hS
  · exact h2 (fun z => hc ((ycp_ok k x y).mpr z)) p e s m args below meth c A Qc hC hQ H locs ls hl hP hS
theorem y_fork0 {k tgt : Nat} {x : Int} (hT : xB0 (xMc M) (xMo M) pc nx tgt k) (h1 : ycp k x 0 → yG E R M tgt lv st mem ce sl Post) (h2 : ¬ ycp k x 0 → yG E R M nx lv st mem ce sl Post) : yG E R M pc lv ((0, x) :: st) mem ce sl Post := by
  intro p e s m args below meth c A Qc hC hQ H locs ls hl hP hS
  rw [List.map_cons]
  have e0 : nI 0 = iI 0 := by decide
  refine hT p (yl E) e R s m args below meth c H locs ce sl _ ls _ hC.1.1 (iI x) (fun hc => ?_) (fun hc => ?_)
  · rw [e0] at hc
    exact h1 ((ycp_ok k x 0).mp hc) p e s m args below meth c A Qc hC hQ H locs ls hl hP hS
  · rw [e0] at hc
    exact h2 (fun z => hc ((ycp_ok k x 0).mpr z)) p e s m args below meth c A Qc hC hQ H locs ls hl hP hS
theorem w32_c {a : Nat} (h : a < 4294967296) : w32 (cI a) = cI a := by
  apply w32_of
  · unfold cI
    split
    · omega
    · next h2 => rw [Nat.blt_eq] at h2; omega
  · unfold cI
    split
    · next h2 => rw [Nat.blt_eq] at h2; omega
    · omega
theorem y_sw {dflt : Nat} {cs : List (Nat × Nat)} {x : Int} (hT : xSw (xMc M) (xMo M) pc dflt cs) (h1 : ∀ q ∈ cs, w32 x = cI q.1 → yG E R M q.2 lv st mem ce sl Post) (h2 : (∀ q ∈ cs, ¬ w32 x = cI q.1) → yG E R M dflt lv st mem ce sl Post) (h3 : ∀ q ∈ cs, q.1 < 4294967296) : yG E R M pc lv ((0, x) :: st) mem ce sl Post := by
  intro p e s m args below meth c A Qc hC hQ H locs ls hl hP hS
  rw [List.map_cons]
  have key : ∀ q ∈ cs, (iI x = nI q.1 ↔ w32 x = cI q.1) := fun q hq => by
    rw [← iI_c, iI_inj, w32_c (h3 q hq)]
  refine hT p (yl E) e R s m args below meth c H locs ce sl _ ls _ hC.1.1 (iI x) ?_
  by_cases hx : ∃ q ∈ cs, w32 x = cI q.1
  · obtain ⟨q, hq, e1⟩ := hx
    exact Or.inl ⟨q, hq, (key q hq).mpr e1, h1 q hq e1 p e s m args below meth c A Qc hC hQ H locs ls hl hP hS⟩
  · have hn : ∀ q ∈ cs, ¬ w32 x = cI q.1 := fun q hq z => hx ⟨q, hq, z⟩
    exact Or.inr ⟨fun q hq z => hn q hq ((key q hq).mp z), h2 hn p e s m args below meth c A Qc hC hQ H locs ls hl hP hS⟩
theorem y_getf {ci k i : Nat} {fs : List yV} {v : yV} (hT : xGf (xMc M) (xMo M) pc nx ci k) (hK : ysh[i]? = some (.inr (ci, fs))) (hv : fs[k]? = some v) {z : Int} (hz : z.toNat = i) (h : yG E R M nx lv (yfv v (mem i k) :: st) mem ce sl Post) : yG E R M pc lv ((1, z) :: st) mem ce sl Post := by
  intro p e s m args below meth c A Qc hC hQ H locs ls hl hP hS
  have := h p e s m args below meth c A Qc hC hQ H locs ls hl hP hS
  rw [List.map_cons] at this ⊢
  subst hz
  exact hT p (yl E) e R s m args below meth c H locs ce sl _ ls _ hC.1.1 (yD E) (xtys (yda E)) _ z.toNat (yb E + z.toNat) (yfs E 0 fs (mem z.toNat)) _ hC.1.2.2.1 hP (yW_at hK) (by rw [yfs_get, hv, Nat.zero_add]; rfl) this
theorem y_world {f : Nat → Int} {i : Nat} {S : yS} (hK : ysh[i]? = some S) {x : va_E} (hx : x = yce E S f) : (yW E mem).set i (yb E + i, x) = yW E (fun c => if c = 0 + i then f else mem c) := by
  rw [hx]
  exact yW_put hK
theorem y_putf {ci k i : Nat} {fs : List yV} {v w : yV} {ty : FieldType} {fin : Bool} (hT : xPf (xMc M) (xMo M) pc nx ci k ty fin) (hf : fin = true → (xMy M).name = "<init>") (hft : yfit (xtc ty) v w) (hw : fs[k]? = some w) (hK : ysh[i]? = some (.inr (ci, fs))) {z : Int} (hz : z.toNat = i) (h : yG E R M nx lv st (yset mem i k v.2) ce sl Post) : yG E R M pc lv (v :: (1, z) :: st) mem ce sl Post := by
  intro p e s m args below meth c A Qc hC hQ H locs ls hl hP hS
  rw [List.map_cons, List.map_cons]
  subst hz
  have hk : k < (yfs E 0 fs (mem z.toNat)).length := by rw [yfs_len]; exact (List.getElem?_eq_some_iff.mp hw).1
  have f12 : narrow ty (ydv E v) = ydv E v ∧ fits ty (ydv E v) = true ∧ yfv w v.2 = v := by
    obtain ⟨v1, v2⟩ := v
    obtain ⟨w1, w2⟩ := w
    cases ty with
    | int =>
      obtain ⟨h1, h2⟩ := hft
      dsimp only at h1 h2
      subst h1
      subst h2
      exact ⟨rfl, rfl, rfl⟩
    | long =>
      obtain ⟨h1, h2⟩ := hft
      dsimp only at h1 h2
      subst h1
      subst h2
      exact ⟨rfl, rfl, rfl⟩
    | boolean =>
      obtain ⟨h1, h3, h2⟩ := hft
      dsimp only at h1 h2 h3
      subst h1
      subst h2
      show narrow .boolean (.int (iI v2)) = .int (iI v2) ∧ fits .boolean (.int (iI v2)) = true ∧ _
      rcases w32_01 h3 with e | e <;> rw [e]
      · exact ⟨by decide +kernel, by decide +kernel, rfl⟩
      · exact ⟨by decide +kernel, by decide +kernel, rfl⟩
    | _ => exact hft.elim
  refine hT p (yl E) e R s m args below meth c H locs ce sl _ ls _ hC.1.1 (yD E) (xtys (yda E)) _ z.toNat (yb E + z.toNat) A s.heap (yfs E 0 fs (mem z.toNat)) _ hC.1.2.2.1 hP (yW_D hC.2) hS (yW_at hK) (fun q => hC.1.2.2.2.2.2.2.2.1 (hf q)) f12.1 f12.2.1 hk (fun H1 locs1 hP1 _ hS1 z1 => ?_)
  have e1 : (Sum.inr (ci, (yfs E 0 fs (mem z.toNat)).set k (ydv E v)) : va_E) = yce E (.inr (ci, fs)) (fun j => if j = k then v.2 else mem z.toNat j) := by
    show Sum.inr (ci, _) = Sum.inr (ci, yfs E 0 fs _)
    have := yfs_set (E := E) (f := mem z.toNat) (x := v.2) fs 0 k w hw
    rw [f12.2.2, Nat.zero_add] at this
    rw [this]
  rw [y_world hK e1, yset_eq] at hP1
  exact h p e s m args below meth c A Qc hC hQ H1 locs1 ls hl hP1 hS1
theorem yce_arr {t n : Nat} {rs : List Nat} {f : Nat → Int} (ht : t = 0 ∨ t = 1 ∨ t = 3) : yce E (.inl (t, n, rs)) f = .inl (yda E t, n, .inl (fun j => iI (f j))) := by
  rcases ht with rfl | rfl | rfl <;> rfl
theorem yce_any {t n : Nat} {rs : List Nat} {f : Nat → Int} : ∃ z, yce E (.inl (t, n, rs)) f = .inl (yda E t, n, z) := by
  match t with
  | 0 | 1 | 2 | 3 | 4 => exact ⟨_, rfl⟩
  | n + 5 => exact ⟨_, rfl⟩
theorem y_alen {t i n : Nat} {rs : List Nat} (hT : xAl (xMc M) (xMo M) pc nx) (ht : t < 5) (hK : ysh[i]? = some (.inl (t, n, rs))) {z : Int} (hz : z.toNat = i) (h : yG E R M nx lv ((0, (n : Int)) :: st) mem ce sl Post) : yG E R M pc lv ((1, z) :: st) mem ce sl Post := by
  intro p e s m args below meth c A Qc hC hQ H locs ls hl hP hS
  have := h p e s m args below meth c A Qc hC hQ H locs ls hl hP hS
  rw [List.map_cons] at this ⊢
  subst hz
  obtain ⟨y, hy⟩ := yce_any (E := E) (t := t) (n := n) (rs := rs) (f := mem z.toNat)
  have hg := yW_at (E := E) (mem := mem) hK
  rw [hy] at hg
  have e1 : ydv E (0, (n : Int)) = .int (nI n) := by show Value.int (iI _) = _; rw [iI_n]
  rw [e1] at this
  exact hT p (yl E) e R s m args below meth c H locs ce sl _ ls _ hC.1.1 (yD E) (xtys (yda E)) _ z.toNat (yb E + z.toNat) t (yda E t) (n, y) (xty t) hC.1.2.2.1 hP hg (xtys_get ht) this
theorem y_in {j : Int} {n : Nat} (h1 : 0 ≤ w32 j) (h2 : w32 j < (n : Int)) : vp_in (iI j) n ∧ (iI j).toNatClampNeg = (w32 j).toNat := by
  refine ⟨?_, rfl⟩
  rintro (h | h)
  · have : (iI j).toInt < 0 := by simpa using Int32.lt_iff_toInt_lt.mp h
    have h3 : w32 j < 0 := this
    omega
  · have h3 : n ≤ (w32 j).toNat := h
    omega
theorem y_read {t i n : Nat} {rs : List Nat} {j z : Int} (ht : t = 0 ∨ t = 1 ∨ t = 3) (hT : xRd (xMc M) (xMo M) pc nx (xty t)) (hK : ysh[i]? = some (.inl (t, n, rs))) (hz : z.toNat = i) (h1 : 0 ≤ w32 j) (h2 : w32 j < (n : Int)) (h : yG E R M nx lv ((0, mem i (w32 j).toNat) :: st) mem ce sl Post) : yG E R M pc lv ((0, j) :: (1, z) :: st) mem ce sl Post := by
  intro p e s m args below meth c A Qc hC hQ H locs ls hl hP hS
  have := h p e s m args below meth c A Qc hC hQ H locs ls hl hP hS
  rw [List.map_cons] at this
  rw [List.map_cons, List.map_cons]
  subst hz
  have hg := yW_at (E := E) (mem := mem) hK
  rw [yce_arr ht] at hg
  obtain ⟨g1, g2⟩ := y_in h1 h2
  refine hT p (yl E) e R s m args below meth c H locs ce sl _ ls _ hC.1.1 (yD E) (xtys (yda E)) _ z.toNat (yb E + z.toNat) t (yda E t) n _ (iI j) hC.1.2.2.1 hP hg (xtys_get (by omega)) g1 ?_
  rw [g2]
  exact this
theorem y_readr {i n q : Nat} {rs : List Nat} {j z : Int} (hT : xRr (xMc M) (xMo M) pc nx) (hK : ysh[i]? = some (.inl (4, n, rs))) (hz : z.toNat = i) (h1 : 0 ≤ w32 j) (h2 : w32 j < (n : Int)) (hq : rs[(w32 j).toNat]? = some q) (h : yG E R M nx lv ((1, (q : Int)) :: st) mem ce sl Post) : yG E R M pc lv ((0, j) :: (1, z) :: st) mem ce sl Post := by
  intro p e s m args below meth c A Qc hC hQ H locs ls hl hP hS
  have := h p e s m args below meth c A Qc hC hQ H locs ls hl hP hS
  rw [List.map_cons] at this
  rw [List.map_cons, List.map_cons]
  subst hz
  have hg := yW_at (E := E) (mem := mem) hK
  obtain ⟨g1, g2⟩ := y_in h1 h2
  refine hT p (yl E) e R s m args below meth c H locs ce sl _ ls _ hC.1.1 (yD E) (xtys (yda E)) _ z.toNat (yb E + z.toNat) 4 (yda E 4) n (fun j => (rs[j]?).map (fun q => yb E + q)) (iI j) hC.1.2.2.1 hP hg (xtys_get (by omega)) g1 ?_
  rw [g2, hq]
  exact this
theorem y_write {t i n : Nat} {rs : List Nat} {j x z : Int} (ht : t = 0 ∨ t = 1 ∨ t = 3) (hT : xWr (xMc M) (xMo M) pc nx (xty t)) (hK : ysh[i]? = some (.inl (t, n, rs))) (hz : z.toNat = i) (h1 : 0 ≤ w32 j) (h2 : w32 j < (n : Int)) (hx : vp_nar (xty t) (iI x) = iI x) (h : yG E R M nx lv st (yset mem i (w32 j).toNat x) ce sl Post) : yG E R M pc lv ((0, x) :: (0, j) :: (1, z) :: st) mem ce sl Post := by
  intro p e s m args below meth c A Qc hC hQ H locs ls hl hP hS
  rw [List.map_cons, List.map_cons, List.map_cons]
  subst hz
  have hg := yW_at (E := E) (mem := mem) hK
  rw [yce_arr ht] at hg
  obtain ⟨g1, g2⟩ := y_in h1 h2
  refine hT p (yl E) e R s m args below meth c H locs ce sl _ ls _ hC.1.1 (yD E) (xtys (yda E)) _ z.toNat (yb E + z.toNat) A s.heap t (yda E t) n _ (iI j) (iI x) hC.1.2.2.1 hP (yW_D hC.2) hS hg (xtys_get (by omega)) g1 (fun H1 locs1 hP1 _ hS1 z1 => ?_)
  have e1 : (Sum.inl (yda E t, n, Sum.inl (upd (fun j => iI (mem z.toNat j)) (iI j).toNatClampNeg (vp_nar (xty t) (iI x)))) : va_E) = yce E (.inl (t, n, rs)) (fun k => if k = (w32 j).toNat then x else mem z.toNat k) := by
    rw [yce_arr ht, hx, g2]
    congr 4
    funext k
    simp only [upd]
    split <;> rfl
  rw [y_world hK e1, yset_eq] at hP1
  exact h p e s m args below meth c A Qc hC hQ H1 locs1 ls hl hP1 hS1
theorem y_readl {i n : Nat} {rs : List Nat} {j z : Int} (hT : xRl (xMc M) (xMo M) pc nx) (hK : ysh[i]? = some (.inl (2, n, rs))) (hz : z.toNat = i) (h1 : 0 ≤ w32 j) (h2 : w32 j < (n : Int)) (h : yG E R M nx lv ((4, mem i (w32 j).toNat) :: st) mem ce sl Post) : yG E R M pc lv ((0, j) :: (1, z) :: st) mem ce sl Post := by
  intro p e s m args below meth c A Qc hC hQ H locs ls hl hP hS
  have := h p e s m args below meth c A Qc hC hQ H locs ls hl hP hS
  rw [List.map_cons] at this
  rw [List.map_cons, List.map_cons]
  subst hz
  have hg := yW_at (E := E) (mem := mem) hK
  obtain ⟨g1, g2⟩ := y_in h1 h2
  refine hT p (yl E) e R s m args below meth c H locs ce sl _ ls _ hC.1.1 (yD E) (xtys (yda E)) _ z.toNat (yb E + z.toNat) 2 (yda E 2) n (fun j => lI (mem z.toNat j)) (iI j) hC.1.2.2.1 hP hg (xtys_get (by omega)) g1 ?_
  rw [g2]
  exact this
theorem y_writel {i n : Nat} {rs : List Nat} {j x z : Int} (hT : xWl (xMc M) (xMo M) pc nx) (hK : ysh[i]? = some (.inl (2, n, rs))) (hz : z.toNat = i) (h1 : 0 ≤ w32 j) (h2 : w32 j < (n : Int)) (h : yG E R M nx lv st (yset mem i (w32 j).toNat x) ce sl Post) : yG E R M pc lv ((4, x) :: (0, j) :: (1, z) :: st) mem ce sl Post := by
  intro p e s m args below meth c A Qc hC hQ H locs ls hl hP hS
  rw [List.map_cons, List.map_cons, List.map_cons]
  subst hz
  have hg := yW_at (E := E) (mem := mem) hK
  obtain ⟨g1, g2⟩ := y_in h1 h2
  refine hT p (yl E) e R s m args below meth c H locs ce sl _ ls _ hC.1.1 (yD E) (xtys (yda E)) _ z.toNat (yb E + z.toNat) A s.heap 2 (yda E 2) n (fun j => lI (mem z.toNat j)) (iI j) (lI x) hC.1.2.2.1 hP (yW_D hC.2) hS hg (xtys_get (by omega)) g1 (fun H1 locs1 hP1 _ hS1 => ?_)
  have e1 : (Sum.inl (yda E 2, n, Sum.inr (Sum.inl (vp_updL (fun j => lI (mem z.toNat j)) (iI j).toNatClampNeg (lI x)))) : va_E) = yce E (.inl (2, n, rs)) (fun k => if k = (w32 j).toNat then x else mem z.toNat k) := by
    rw [g2]
    show Sum.inl (yda E 2, n, _) = Sum.inl (yda E 2, n, _)
    congr 5
    funext k
    simp only [vp_updL]
    split <;> rfl
  rw [y_world hK e1, yset_eq] at hP1
  exact h p e s m args below meth c A Qc hC hQ H1 locs1 ls hl hP1 hS1
end YS
end
section
section YC
variable {E : yE} {R : Room} {d : Nat} {M : xM} {pc nx : Nat} {lv : yL} {st : List yV} {mem : yMem} {ce sl : Nat} {Post : Option yV → yMem → Prop}
theorem y_nok {t : Nat} {x : Int} (h : ynok t x) : (t = 0 ∨ t = 1 ∨ t = 3) ∧ vp_nar (xty t) (iI x) = iI x := by
  match t, h with
  | 0, h => exact ⟨Or.inl rfl, rfl⟩
  | 1, h =>
    refine ⟨Or.inr (Or.inl rfl), ?_⟩
    obtain ⟨h1, h2⟩ := h
    show vp_nar .byte (iI x) = iI x
    rw [vp_nar_byte]
    apply Int32.toInt_inj.mp
    rw [Int8.toInt_toInt32, Int32.toInt_toInt8]
    exact Int.bmod_eq_of_le (by simp; exact h1) (by simp; exact Int.lt_of_le_of_lt h2 (by decide))
  | 3, h =>
    refine ⟨Or.inr (Or.inr rfl), ?_⟩
    have e : iI x = iI 0 ∨ iI x = iI 1 := by
      rcases h with h | h
      · exact Or.inl (iI_inj.mpr (by rw [h]; decide))
      · exact Or.inr (iI_inj.mpr (by rw [h]; decide))
    show vp_nar .boolean (iI x) = iI x
    rcases e with e | e <;> rw [e] <;> decide +kernel
  | 2, h => exact h.elim
  | n + 4, h => exact h.elim
theorem y_copy {s0 d0 n0 n1 : Nat} {r0 r1 : List Nat} {sp dp n zs zd : Int} (hT : xCp (xMc M) (xMo M) pc nx) (hKs : ysh[s0]? = some (.inl (0, n0, r0))) (hKd : ysh[d0]? = some (.inl (0, n1, r1))) (hzs : zs.toNat = s0) (hzd : zd.toNat = d0) (g0 : 0 ≤ w32 n) (g1 : 0 ≤ w32 sp) (g2 : 0 ≤ w32 dp) (h1 : w32 sp + w32 n ≤ (n0 : Int)) (h2 : w32 dp + w32 n ≤ (n1 : Int)) (hf : 1 ≤ R.frames) (hlo : ysum st + (nativeFrameWords "java/lang/System" "arraycopy" 5 + 11) ≤ R.locals)
    (h : yG E R M nx lv st (ycpy mem s0 (w32 sp).toNat d0 (w32 dp).toNat (w32 n).toNat) ce sl Post) : yG E R M pc lv ((0, n) :: (0, dp) :: (1, zd) :: (0, sp) :: (1, zs) :: st) mem ce sl Post := by
  intro p e s m args below meth c A Qc hC hQ H locs ls hl hP hS
  simp only [List.map_cons]
  subst hzs
  subst hzd
  have hg0 := yW_at (E := E) (mem := mem) hKs
  have hg1 := yW_at (E := E) (mem := mem) hKd
  rw [yce_arr (Or.inl rfl)] at hg0 hg1
  have nn : ∀ z : Int, 0 ≤ w32 z → ¬ iI z < 0 := fun z hz q => by
    have h3 : (iI z).toInt < 0 := by simpa using Int32.lt_iff_toInt_lt.mp q
    have h4 : w32 z < 0 := h3
    omega
  have cl : ∀ z : Int, (iI z).toNatClampNeg = (w32 z).toNat := fun z => rfl
  refine hT p (yl E) e R s m args below meth c H locs ce sl _ ls _ hC.1.1 (yD E) (xtys (yda E)) _ A s.heap zs.toNat zd.toNat (yb E + zs.toNat) (yb E + zd.toNat) 0 (yda E 0) n0 n1 _ _ (iI sp) (iI dp) (iI n) (by rw [hC.1.2.1, hl.1]) hC.1.2.2.1 hP (yW_D hC.2) hS hg0 hg1 rfl (nn sp g1) (nn dp g2) (nn n g0) (by rw [cl, cl]; omega) (by rw [cl, cl]; omega) hf (by rw [ysum_ok]; exact hlo) (fun H1 locs1 hP1 hS1 z1 => ?_)
  rw [cl, cl, cl] at hP1
  have e1 : (Sum.inl (yda E 0, n1, Sum.inl (va_cpy (fun j => iI (mem zs.toNat j)) (fun j => iI (mem zd.toNat j)) (w32 sp).toNat (w32 dp).toNat (w32 n).toNat)) : va_E) = yce E (.inl (0, n1, r1)) (va_cpy (mem zs.toNat) (mem zd.toNat) (w32 sp).toNat (w32 dp).toNat (w32 n).toNat) := by
    rw [yce_arr (Or.inl rfl)]
    congr 4
    funext k
    simp only [va_cpy]
    split <;> rfl
  rw [y_world hKd e1, ycpy_eq] at hP1
  exact h p e s m args below meth c A Qc hC hQ H1 locs1 ls hl hP1 hS1
theorem y_iret {x : Int} {ty : FieldType} (hd : decode (xMc M) pc = .ok (.ireturn, 1)) (hr : xMr M = some ty) (hn : narrow ty (.int (iI x)) = .int (iI x)) (h1 : ce ≤ R.cells) (h2 : sl ≤ R.slots) (h : Post (some (0, x)) mem) : yG E R M pc lv [(0, x)] mem ce sl Post := by
  intro p e s m args below meth c A Qc hC hQ H locs ls hl hP hS
  refine W.widen (k := R.cells) (n := R.slots) h1 h2 ?_
  rw [show [((0, x) : yV)].map (ydv E) = [.int (iI x)] from rfl]
  refine W.zret hC.1.1.1 hC.1.1.2.1 (by rw [hC.1.2.2.2.2.2.1]; exact hr) hn (fun t ht _ => ?_) hS.2.2 hd hC.1.2.2.2.2.2.2.1
  exact hQ _ _ t h (by rw [ht]; exact hP) (hS.F ht)
theorem y_lret {x : Int} (hd : decode (xMc M) pc = .ok (.lreturn, 1)) (hr : xMr M = some .long) (h1 : ce ≤ R.cells) (h2 : sl ≤ R.slots) (h : Post (some (4, x)) mem) : yG E R M pc lv [(4, x)] mem ce sl Post := by
  intro p e s m args below meth c A Qc hC hQ H locs ls hl hP hS
  refine W.widen (k := R.cells) (n := R.slots) h1 h2 ?_
  rw [show [((4, x) : yV)].map (ydv E) = [.long (lI x)] from rfl]
  refine W.lret hC.1.1.1 hC.1.1.2.1 (by rw [hC.1.2.2.2.2.2.1]; exact hr) (fun t ht _ => ?_) hS.2.2 hd hC.1.2.2.2.2.2.2.1
  exact hQ _ _ t h (by rw [ht]; exact hP) (hS.F ht)
theorem y_vret (hd : decode (xMc M) pc = .ok (.return_, 1)) (hr : xMr M = none) (h1 : ce ≤ R.cells) (h2 : sl ≤ R.slots) (h : Post none mem) : yG E R M pc lv [] mem ce sl Post := by
  intro p e s m args below meth c A Qc hC hQ H locs ls hl hP hS
  refine W.widen (k := R.cells) (n := R.slots) h1 h2 ?_
  exact W.vret hC.1.1.1 hC.1.1.2.1 (by rw [hC.1.2.2.2.2.2.1]; exact hr) (fun t ht _ => hQ _ _ t h (by rw [ht]; exact hP) (hS.F ht)) hS.2.2 hd hC.1.2.2.2.2.2.2.1
/-- behind a call -/
theorem y_call {rest : List yV} {Pc : Option yV → yMem → Prop}
    (hrun : ∀ (p : Program) (e : Env) (s : State) (m : MethodId) (args : Array Value) (below : List Frame) (meth : Method) (c : Code) (A : Nat → Prop), yCtx E M p s m args meth c A → ∀ (H : Heap) (locs : List Loc) (ls : Array Slot), lv_has ls (xMl M) (ydL E lv) → va_P (yD E) vwCl (yW E mem) H → va_S A s.heap H locs → va_Run p (yl E) e R s m args below meth c H locs ce sl 0 0 (F0 m pc ls (st.map (ydv E))) (rest.map (ydv E)) (yQp E H.size Pc) (xA (yb E) ysh.length H.size))
    (hall : ∀ r mem', Pc r mem' → yG E R M (pc + 3) lv (yput rest r) mem' ce sl Post) : yG E R M pc lv st mem ce sl Post := by
  intro p e s m args below meth c A Qc hC hQ H locs ls hl hP hS
  intro T hT X
  obtain ⟨v, st₀, t, T', L, h0, X', hL, e1, e2, ⟨r, mem', k1, k2, k3, k6⟩, stp⟩ := hrun p e s m args below meth c A hC H locs ls hl hP hS T hT X
  have ev : v = r.map (ydv E) := by injection k2
  have hsub : ∀ q, xA (yb E) ysh.length H.size q → A q := by
    rintro q (⟨a1, a2⟩ | a1)
    · have := hC.2 (q - yb E) (by omega)
      rwa [show yb E + (q - yb E) = q by omega] at this
    · exact hC.1.2.2.2.1 q (Nat.le_trans hS.1 a1)
  obtain ⟨f1, f2⟩ := k6
  rw [h0] at f1 f2
  have hS2 : va_S A s.heap T'.heap (locs ++ L) := ⟨by rw [e1]; exact Nat.le_trans hS.1 f1, fun q q1 q2 => by
    rw [e1, f2 q (Nat.lt_of_lt_of_le q1 hS.1) (fun z => q2 (hsub q z))]
    exact hS.2.1 q q1 q2, fun q hq => by
    rcases List.mem_append.mp hq with h | h
    · exact hS.2.2 q h
    · exact hsub _ (hL q h)⟩
  have W2 := hall r mem' k1 p e s m args below meth c A Qc hC hQ T'.heap (locs ++ L) ls hl (by rw [e1]; exact k3) hS2
  obtain ⟨t2, a1, b1⟩ := W2 T' rfl X'
  refine ⟨t2, stp t2 ?_, b1⟩
  have es : v.toList ++ rest.map (ydv E) = (yput rest r).map (ydv E) := by
    rw [ev]
    cases r <;> rfl
  rw [es]
  exact a1
theorem yPp_blind {avs : List Value} {sz : Nat} (hE : yEok E) : FrameBlind (va_Pc avs (yPp E mem sz)) := by
  rintro a U g mk ⟨h1, h2, h3, h4, h6⟩
  exact ⟨h1, h2, h3, va_K.moved (u := U) (U := U.calling g mk a) (Vm.Alike.refl U.vm) h4, hE.2.1 U g mk a h6⟩
theorem yPp_at {p : Program} {s : State} {m : MethodId} {args : Array Value} {meth : Method} {c : Code} {A : Nat → Prop} (hC : yCtx E M p s m args meth c A) (hE : yEok E) {H : Heap} {locs : List Loc} (hP : va_P (yD E) vwCl (yW E mem) H) (hS : va_S A s.heap H locs) (U : State) (hU : U.heap = H) (hW : s.WarmedH U.vm) : yPp E mem H.size U := by
  refine ⟨by rw [hU], by rw [hU]; exact hP, va_K.moved hW.alike hC.1.2.2.1, hE.2.2.1 s U hC.1.2.2.2.2.2.2.2.2.1 hW (fun q hq => ?_)⟩
  rw [hU]
  have hb := hC.1.2.2.2.2.2.2.2.2.2
  exact hS.2.1 q (by omega) (fun z => by have := hC.1.2.2.2.2.1 q z; omega)
theorem yP_size {H : Heap} (hP : va_P (yD E) vwCl (yW E mem) H) : yb E + ysh.length ≤ H.size := by
  have h0 : ysh.length = ysh.length - 1 + 1 := by decide +kernel
  have h1 : ∃ S, ysh[ysh.length - 1]? = some S := ⟨ysh[ysh.length - 1]'(by omega), List.getElem?_eq_getElem _⟩
  obtain ⟨S, hS⟩ := h1
  have h2 := (hP _ _ (yW_at (E := E) (mem := mem) hS)).lt
  dsimp only at h2
  omega
theorem y_room {M' : xM} (hm : xMl M' ≤ 45) (hR : d + 1 ≤ R.frames ∧ 64 * d + 64 ≤ R.locals) : (yR d).frames + 1 ≤ R.frames ∧ 8 + (xMl M' + 11) + (yR d).locals ≤ R.locals := by
  simp only [yR]
  omega
theorem y_runS (hE : yEok E) {M' : xM} (hM' : xMok xmt M') (hc : xcS M pc M') (hm : xMl M' ≤ 45) (hR : d + 1 ≤ R.frames ∧ 64 * d + 64 ≤ R.locals) (hcs : ce ≤ R.cells ∧ sl ≤ R.slots) {avs rest : List yV} (hst : st = avs.reverse ++ rest) (hn : avs.length = xMn M') (hrest : ysum rest ≤ 8) {Pc : Option yV → yMem → Prop} (hMet : yCon E d M' avs mem Pc)
    (p : Program) (e : Env) (s : State) (m : MethodId) (args : Array Value) (below : List Frame) (meth : Method) (c : Code) (A : Nat → Prop) (hC : yCtx E M p s m args meth c A) (H : Heap) (locs : List Loc) (ls : Array Slot) (hl : lv_has ls (xMl M) (ydL E lv)) (hP : va_P (yD E) vwCl (yW E mem) H) (hS : va_S A s.heap H locs) : va_Run p (yl E) e R s m args below meth c H locs ce sl 0 0 (F0 m pc ls (st.map (ydv E))) (rest.map (ydv E)) (yQp E H.size Pc) (xA (yb E) ysh.length H.size) := by
  obtain ⟨ix, hd, w1, w2⟩ := hc
  have r1 := y_room hm hR
  have hts := hC.1.1.2.2.2
  exact va_runS (As := avs.map (ydv E)) (n := xMn M') (bytes := xMc M') (maxL := xMl M') (ret := xMr M') ⟨hC.1.1.1, hC.1.1.2.1, hC.1.2.1, hC.1.1.2.2.1, hts⟩ (hMet H.size (yP_size hP)) ⟨callB_of (xMn M') hts (xgt_in' (xWs_in hM')) rfl rfl rfl (hts _ hM'.2.1) (hts _ w1) hM'.2.2.1 r1, hts _ w2⟩ ⟨yPp_blind hE, fun U hU hW => ⟨rfl, yPp_at hC hE hP hS U hU hW⟩⟩ rfl (by rw [List.length_map]; exact hn) hl.1 (by rw [hst, List.map_append, List.map_reverse]) (lv_room (by rw [ysum_ok]; exact hrest)) hd ⟨by omega, by omega⟩
theorem y_runSN (hE : yEok E) {M' : xM} (hM' : xMok xmt M') (hc : xcSN M pc M') (hm : xMl M' ≤ 45) (hR : d + 1 ≤ R.frames ∧ 64 * d + 64 ≤ R.locals) (hcs : ce ≤ R.cells ∧ sl ≤ R.slots) {avs rest : List yV} (hst : st = avs.reverse ++ rest) (hn : avs.length = xMn M') (hrest : ysum rest ≤ 8) {Pc : Option yV → yMem → Prop} (hMet : yCon E d M' avs mem Pc)
    (p : Program) (e : Env) (s : State) (m : MethodId) (args : Array Value) (below : List Frame) (meth : Method) (c : Code) (A : Nat → Prop) (hC : yCtx E M p s m args meth c A) (H : Heap) (locs : List Loc) (ls : Array Slot) (hl : lv_has ls (xMl M) (ydL E lv)) (hP : va_P (yD E) vwCl (yW E mem) H) (hS : va_S A s.heap H locs) : va_Run p (yl E) e R s m args below meth c H locs ce sl 0 0 (F0 m pc ls (st.map (ydv E))) (rest.map (ydv E)) (yQp E H.size Pc) (xA (yb E) ysh.length H.size) := by
  obtain ⟨ix, hd, host, w1, w2⟩ := hc
  have r1 := y_room hm hR
  have hts := hC.1.1.2.2.2
  exact va_runSN (As := avs.map (ydv E)) (n := xMn M') (bytes := xMc M') (maxL := xMl M') (ret := xMr M') (host := host) ⟨hC.1.1.1, hC.1.1.2.1, hC.1.2.1, hC.1.1.2.2.1, hts⟩ (hMet H.size (yP_size hP)) ⟨va_cnB (xMn M') hts (xgt_in' (xWs_in hM')) rfl rfl rfl ((hE.2.2.2 s hC.1.2.2.2.2.2.2.2.2.1).1 _ w1) (hts _ hM'.2.1) hM'.2.2.1 r1, hts _ w2, trivial⟩ ⟨yPp_blind hE, fun U hU hW => ⟨rfl, yPp_at hC hE hP hS U hU hW⟩⟩ rfl (by rw [List.length_map]; exact hn) hl.1 (by rw [hst, List.map_append, List.map_reverse]) (lv_room (by rw [ysum_ok]; exact hrest)) hd ⟨by omega, by omega⟩
theorem y_runV (hE : yEok E) {M' : xM} (hM' : xMok xmt M') (hc : xcV M pc M') (hm : xMl M' ≤ 45) (hR : d + 1 ≤ R.frames ∧ 64 * d + 64 ≤ R.locals) (hcs : ce ≤ R.cells ∧ sl ≤ R.slots) {avs rest : List yV} {z : Int} {ci : Nat} {fs : List yV} {q : vw_C} (hKi : ysh[z.toNat]? = some (.inr (ci, fs))) (hq : vwCl[ci]? = some q) (hqn : q.1 = (xMy M').cls) (hst : st = avs.reverse ++ (1, z) :: rest) (hn : avs.length = xMn M') (hrest : ysum rest ≤ 8) {Pc : Option yV → yMem → Prop} (hMet : yCon E d M' ((1, z) :: avs) mem Pc)
    (p : Program) (e : Env) (s : State) (m : MethodId) (args : Array Value) (below : List Frame) (meth : Method) (c : Code) (A : Nat → Prop) (hC : yCtx E M p s m args meth c A) (H : Heap) (locs : List Loc) (ls : Array Slot) (hl : lv_has ls (xMl M) (ydL E lv)) (hP : va_P (yD E) vwCl (yW E mem) H) (hS : va_S A s.heap H locs) : va_Run p (yl E) e R s m args below meth c H locs ce sl 0 0 (F0 m pc ls (st.map (ydv E))) (rest.map (ydv E)) (yQp E H.size Pc) (xA (yb E) ysh.length H.size) := by
  obtain ⟨ix, hd, w1, w2, w3⟩ := hc
  have r1 := y_room hm hR
  have hts := hC.1.1.2.2.2
  have hrc := va_recv hC.1.2.2.1 hP hq (yW_at hKi)
  rw [hqn] at hrc
  exact va_runV (As := avs.map (ydv E)) (b := yb E + z.toNat) (C := (xMy M').cls) (n := xMn M') (bytes := xMc M') (maxL := xMl M') (ret := xMr M') ⟨hC.1.1.1, hC.1.1.2.1, hC.1.2.1, hC.1.1.2.2.1, hts⟩ (hMet H.size (yP_size hP)) ⟨callB_of (xMn M') hts (xgt_in' (xWs_in hM')) rfl rfl rfl (hts _ hM'.2.1) (hts _ w1) hM'.2.2.1 r1, hts _ w2, hts _ w3⟩ ⟨yPp_blind hE, hrc, fun U hU hW => ⟨rfl, yPp_at hC hE hP hS U hU hW⟩⟩ rfl (by rw [List.length_map]; exact hn) hl.1 (by rw [hst, List.map_append, List.map_reverse]; rfl) (lv_room (by rw [ysum_ok]; exact hrest)) hd ⟨by omega, by omega⟩
theorem y_runVs (hE : yEok E) {M' : xM} (hM' : xMok xmt M') (hc : xcV M pc M') (hm : xMl M' ≤ 45) (hR : d + 1 ≤ R.frames ∧ 64 * d + 64 ≤ R.locals) (hcs : ce ≤ R.cells ∧ sl ≤ R.slots) {avs rest : List yV} {z : Int} (hk : z.toNat < 3) (hcls : (xMy M').cls = "java/lang/String") (hst : st = avs.reverse ++ (5, z) :: rest) (hn : avs.length = xMn M') (hrest : ysum rest ≤ 8) {Pc : Option yV → yMem → Prop} (hMet : yCon E d M' ((5, z) :: avs) mem Pc)
    (p : Program) (e : Env) (s : State) (m : MethodId) (args : Array Value) (below : List Frame) (meth : Method) (c : Code) (A : Nat → Prop) (hC : yCtx E M p s m args meth c A) (H : Heap) (locs : List Loc) (ls : Array Slot) (hl : lv_has ls (xMl M) (ydL E lv)) (hP : va_P (yD E) vwCl (yW E mem) H) (hS : va_S A s.heap H locs) : va_Run p (yl E) e R s m args below meth c H locs ce sl 0 0 (F0 m pc ls (st.map (ydv E))) (rest.map (ydv E)) (yQp E H.size Pc) (xA (yb E) ysh.length H.size) := by
  obtain ⟨ix, hd, w1, w2, w3⟩ := hc
  have r1 := y_room hm hR
  have hts := hC.1.1.2.2.2
  have hrc : ∃ cellB : Cell, H[ysa E z.toNat]? = some cellB ∧ cellB.vm.isStatics = false ∧ s.vm.findClass (xMy M').cls = some cellB.cls := by
    obtain ⟨cell, g1, g2, g3, -⟩ := (((hE.2.2.2 s hC.1.2.2.2.2.2.2.2.2.1).2.2.1 z.toNat hk).1.narrow hC.1.2.2.2.2.1).kept hS.2.1
    exact ⟨cell, g1, g2, by rw [hcls]; exact g3⟩
  exact va_runV (As := avs.map (ydv E)) (b := ysa E z.toNat) (C := (xMy M').cls) (n := xMn M') (bytes := xMc M') (maxL := xMl M') (ret := xMr M') ⟨hC.1.1.1, hC.1.1.2.1, hC.1.2.1, hC.1.1.2.2.1, hts⟩ (hMet H.size (yP_size hP)) ⟨callB_of (xMn M') hts (xgt_in' (xWs_in hM')) rfl rfl rfl (hts _ hM'.2.1) (hts _ w1) hM'.2.2.1 r1, hts _ w2, hts _ w3⟩ ⟨yPp_blind hE, hrc, fun U hU hW => ⟨rfl, yPp_at hC hE hP hS U hU hW⟩⟩ rfl (by rw [List.length_map]; exact hn) hl.1 (by rw [hst, List.map_append, List.map_reverse]; rfl) (lv_room (by rw [ysum_ok]; exact hrest)) hd ⟨by omega, by omega⟩
theorem y_split {n : Nat} {v : yV} {r : List yV} (h : st.drop n = v :: r) (hl : n + 1 ≤ st.length) : st = ((st.take n).reverse).reverse ++ v :: r ∧ st.drop (n + 1) = r ∧ (st.take (n + 1)).reverse = v :: (st.take n).reverse ∧ ((st.take n).reverse).length = n := by
  refine ⟨?_, ?_, ?_, ?_⟩
  · rw [List.reverse_reverse, ← h, List.take_append_drop]
  · rw [← List.drop_drop, h]
    rfl
  · have e : st.take (n + 1) = st.take n ++ [v] := by
      rw [List.take_add, h]
      rfl
    rw [e, List.reverse_append]
    rfl
  · rw [List.length_reverse, List.length_take]
    omega
end YC
end
section
section YM
variable {E : yE} {R : Room} {d : Nat} {M : xM} {pc : Nat} {lv : yL} {st : List yV} {mem : yMem} {ce sl : Nat} {Post : Option yV → yMem → Prop}
theorem y_ld {v : yV} (hs : ∀ (p : Program) (e : Env) (s : State) (m : MethodId) (args : Array Value) (below : List Frame) (meth : Method) (c : Code) (A : Nat → Prop) (Q : State → Prop), yCtx E M p s m args meth c A → ∀ (H : Heap) (locs : List Loc) (ls : Array Slot), va_S A s.heap H locs → W p (yl E) e R s m args below meth c H locs ce sl Q (F0 m d ls ((v :: st).map (ydv E))) → W p (yl E) e R s m args below meth c H locs ce sl Q (F0 m pc ls (st.map (ydv E)))) (h : yG E R M d lv (v :: st) mem ce sl Post) : yG E R M pc lv st mem ce sl Post := by
  intro p e s m args below meth c A Qc hC hQ H locs ls hl hP hS
  exact hs p e s m args below meth c A _ hC H locs ls hS (h p e s m args below meth c A Qc hC hQ H locs ls hl hP hS)
theorem y_callS (hE : yEok E) (hR : d + 1 ≤ R.frames ∧ 64 * d + 64 ≤ R.locals) (hcs : ce ≤ R.cells ∧ sl ≤ R.slots) {mi : Nat} {M' : xM} (hmi : xmt[mi]? = some M') (hc : xcS M pc M' ∨ xcSN M pc M') (h : ycall E d mi 0 st mem (fun st' mem' => yG E R M (pc + 3) lv st' mem' ce sl Post)) : yG E R M pc lv st mem ce sl Post := by
  unfold ycall at h
  rw [hmi] at h
  obtain ⟨h1, h2, h3, h4, h5⟩ := h
  rw [Nat.add_zero] at h1 h2 h3 h5
  have hst : st = ((st.take (xMn M')).reverse).reverse ++ st.drop (xMn M') := by rw [List.reverse_reverse, List.take_append_drop]
  have hlen : ((st.take (xMn M')).reverse).length = xMn M' := by rw [List.length_reverse, List.length_take, Nat.min_eq_left h1]
  rcases hc with hc | hc
  · exact y_call (y_runS hE (xmt_ok mi M' hmi) hc h4 hR hcs hst hlen h2 h5) (fun r mem' z => z)
  · exact y_call (y_runSN hE (xmt_ok mi M' hmi) hc h4 hR hcs hst hlen h2 h5) (fun r mem' z => z)
theorem y_callV (hE : yEok E) (hR : d + 1 ≤ R.frames ∧ 64 * d + 64 ≤ R.locals) (hcs : ce ≤ R.cells ∧ sl ≤ R.slots) {mi ci : Nat} {z : Int} {M' : xM} {r fs : List yV} {q : vw_C} (hmi : xmt[mi]? = some M') (hc : xcV M pc M') (hKi : ysh[z.toNat]? = some (.inr (ci, fs))) (hq : vwCl[ci]? = some q) (hqn : q.1 = (xMy M').cls) (hd : st.drop (xMn M') = (1, z) :: r) (h : ycall E d mi 1 st mem (fun st' mem' => yG E R M (pc + 3) lv st' mem' ce sl Post)) : yG E R M pc lv st mem ce sl Post := by
  unfold ycall at h
  rw [hmi] at h
  obtain ⟨h1, h2, h3, h4, h5⟩ := h
  obtain ⟨s1, s2, s3, s4⟩ := y_split hd h1
  rw [s2] at h2 h5
  rw [s3] at h5
  exact y_call (y_runV hE (xmt_ok mi M' hmi) hc h4 hR hcs hKi hq hqn s1 s4 h2 h5) (fun r mem' z => z)
theorem y_callVs (hE : yEok E) (hR : d + 1 ≤ R.frames ∧ 64 * d + 64 ≤ R.locals) (hcs : ce ≤ R.cells ∧ sl ≤ R.slots) {mi : Nat} {z : Int} {M' : xM} {r : List yV} (hmi : xmt[mi]? = some M') (hc : xcV M pc M') (hk : z.toNat < 3) (hcls : (xMy M').cls = "java/lang/String") (hd : st.drop (xMn M') = (5, z) :: r) (h : ycall E d mi 1 st mem (fun st' mem' => yG E R M (pc + 3) lv st' mem' ce sl Post)) : yG E R M pc lv st mem ce sl Post := by
  unfold ycall at h
  rw [hmi] at h
  obtain ⟨h1, h2, h3, h4, h5⟩ := h
  obtain ⟨s1, s2, s3, s4⟩ := y_split hd h1
  rw [s2] at h2 h5
  rw [s3] at h5
  exact y_call (y_runVs hE (xmt_ok mi M' hmi) hc h4 hR hcs hk hcls s1 s4 h2 h5) (fun r mem' z => z)
theorem y_char {x : Int} (h1 : 0 ≤ x) (h2 : x < 65536) : ((iI x).toUInt32 % 65536).toInt32 = iI x := by
  have e : iI x = nI x.toNat := by rw [← iI_n]; congr 1; omega
  rw [e, pk_char, pk_tn (by omega), Nat.mod_eq_of_lt (by omega)]
theorem y_math {nx : Nat} {st0 st1 : List yV} (hR : d + 1 ≤ R.frames ∧ 64 * d + 64 ≤ R.locals) (hcs : ce ≤ R.cells ∧ sl ≤ R.slots) (hT : xMth (xMc M) (xMo M) pc nx (st0.map (ydv E)) (st1.map (ydv E))) (hs : ysum st ≤ 8) (h : yG E R M nx lv (st1 ++ st) mem ce sl Post) : yG E R M pc lv (st0 ++ st) mem ce sl Post := by
  intro p e s m args below meth c A Qc hC hQ H locs ls hl hP hS
  have := h p e s m args below meth c A Qc hC hQ H locs ls hl hP hS
  rw [List.map_append] at this ⊢
  exact hT p (yl E) e R s m args below meth c H locs ce sl _ ls _ hC.1.1 (by rw [hC.1.2.1, hl.1]) (by omega) (by rw [ysum_ok]; omega) hcs.1 hcs.2 this
theorem y_nfw : nativeFrameWords "java/lang/System" "arraycopy" 5 + 11 ≤ 56 := by decide +kernel
set_option maxHeartbeats 4000000 in
/-- ONE INSTRUCTION is sound -/
theorem yst (hE : yEok E) (hR : d + 1 ≤ R.frames ∧ 64 * d + 64 ≤ R.locals) (hcs : ce ≤ R.cells ∧ sl ≤ R.slots) {op : xOp} (hok : xok xmt M pc op) (h : ystep E R d M op lv st mem Post (fun pc' lv' st' mem' => yG E R M pc' lv' st' mem' ce sl Post)) : yG E R M pc lv st mem ce sl Post := by
  obtain ⟨tg, nx, a, b, cs⟩ := op
  match tg, hok, h with
  | 0, hok, h => exact y_T (st0 := []) (st1 := [(0, cI a)]) (by rw [show ([((0, cI a) : yV)].map (ydv E)) = [.int (iI (cI a))] from rfl, iI_c]; exact hok) h
  | 1, hok, h => exact y_T (st0 := []) (st1 := [(4, cL a)]) (by rw [show ([((4, cL a) : yV)].map (ydv E)) = [.long (lI (cL a))] from rfl, lI_c]; exact hok) h
  | 2, hok, h =>
    obtain ⟨v, h1, h2, h3⟩ := h
    exact y_load hok.1 hok.2 h1 h2 h3
  | 3, hok, h =>
    match st, h with
    | v :: st', h => exact y_store hok.1 hok.2 h.1 h.2.1 h.2.2
  | 4, hok, h =>
    obtain ⟨x, h1, h2, h3⟩ := h
    exact y_iinc hok h1 h2 h3
  | 5, hok, h =>
    match st, h with
    | (0, y) :: (0, x) :: st', h =>
      refine y_T (st0 := [(0, y), (0, x)]) (st1 := [(0, ybin a x y)]) ?_ h.2
      have := hok (iI x) (iI y) (fun q z => h.1 q (by have := congrArg Int32.toInt z; exact this))
      rw [← ybin_ok] at this
      exact this
  | 6, hok, h =>
    match st, h with
    | (0, x) :: st', h =>
      refine y_T (st0 := [(0, x)]) (st1 := [(0, (iI x).toInt8.toInt32.toInt)]) ?_ h
      have := hok (iI x)
      rw [← iI_t (iI x).toInt8.toInt32] at this
      exact this
  | 8, hok, h =>
    match st, h with
    | (4, y) :: (4, x) :: st', h =>
      refine y_T (st0 := [(4, y), (4, x)]) (st1 := [(0, ycmp x y)]) ?_ h
      have := hok (lI x) (lI y)
      rw [← ycmp_ok] at this
      exact this
  | 9, hok, h =>
    match st, h with
    | v :: st', h => exact y_T (st0 := [v]) (st1 := [v, v]) (hok _ (by rw [ycat_ok]; exact h.1)) h.2
  | 10, hok, h =>
    match st, h with
    | v :: st', h => exact y_T (st0 := [v]) (st1 := []) (hok _ (by rw [ycat_ok]; exact h.1)) h.2
  | 11, hok, h =>
    match st, h with
    | v :: w :: st', h => exact y_T (st0 := [v, w]) (st1 := [v, w, v, w]) (hok _ _ (by rw [ycat_ok]; exact h.1) (by rw [ycat_ok]; exact h.2.1)) h.2.2
  | 12, hok, h =>
    match st, h with
    | (0, x) :: st', h => exact y_fork0 hok h.1 h.2
  | 13, hok, h =>
    match st, h with
    | (0, y) :: (0, x) :: st', h => exact y_fork hok h.1 h.2
  | 14, hok, h => exact y_T (st0 := []) (st1 := []) hok h
  | 15, hok, h =>
    match st, h with
    | (0, x) :: st', h => exact y_sw hok h.1 h.2.1 h.2.2
  | 16, hok, h =>
    match st, h with
    | (1, i) :: st', h =>
      obtain ⟨fs, v, h1, h2, h3⟩ := h
      exact y_getf hok h1 h2 rfl h3
  | 17, hok, h =>
    obtain ⟨ty, fin, z, h1, h2, h3⟩ := hok
    dsimp only at h1
    subst h1
    match st, h with
    | v :: (1, i) :: st', h =>
      obtain ⟨fs, w, g1, g2, g3, g4⟩ := h
      exact y_putf h2 h3 g3 g2 g1 rfl g4
  | 18, hok, h =>
    match st, h with
    | (1, i) :: st', h =>
      obtain ⟨t, n, rs, h1, h2, h3⟩ := h
      exact y_alen hok.1 h2 h1 rfl h3
    | (6, i) :: st', h =>
      intro p e s m args below meth c A Qc hC hQ H locs ls hl hP hS
      have := h.2 p e s m args below meth c A Qc hC hQ H locs ls hl hP hS
      rw [List.map_cons] at this ⊢
      rw [show ydv E (0, ((xlen.getD i.toNat 0 : Nat) : Int)) = .int (nI (xlen.getD i.toNat 0)) by show Value.int (iI _) = _; rw [iI_n]] at this
      exact hok.2 p (yl E) e R s m args below meth c H locs ce sl _ ls _ hC.1.1 (yb E) (ysa E) A (hE.2.2.2 s hC.1.2.2.2.2.2.2.2.2.1) hS hC.1.2.2.2.2.1 i.toNat h.1 this
  | 19, hok, h =>
    match st, h with
    | (0, j) :: (1, i) :: st', h =>
      obtain ⟨n, rs, h1, h2, h3, h4⟩ := h
      exact y_read hok.1 hok.2 h1 rfl h2 h3 h4
  | 20, hok, h =>
    match st, h with
    | (0, j) :: (1, i) :: st', h =>
      obtain ⟨n, rs, q, h1, h2, h3, h4, h5⟩ := h
      exact y_readr hok h1 rfl h2 h3 h4 h5
  | 21, hok, h =>
    match st, h with
    | (0, x) :: (0, j) :: (1, i) :: st', h =>
      obtain ⟨n, rs, h1, h2, h3, h4, h5⟩ := h
      obtain ⟨g1, g2⟩ := y_nok h4
      exact y_write g1 hok h1 rfl h2 h3 g2 h5
  | 26, hok, h =>
    match st, h with
    | (0, n) :: (0, dp) :: (1, dd) :: (0, sp) :: (1, ss) :: st', h =>
      obtain ⟨h0, n0, r0, n1, r1, h1, h2, h3, h4, h5, h6, h7, h8⟩ := h
      have := y_nfw
      exact y_copy hok h1 h2 rfl rfl h3 h4 h5 h6 h7 (by omega) (by omega) h8
  | 27, hok, h =>
    obtain ⟨e1, M', hmi, hc⟩ := hok
    dsimp only at e1 hmi
    subst e1
    exact y_callS hE hR hcs hmi (Or.inl hc) h
  | 47, hok, h =>
    obtain ⟨e1, M', hmi, hc⟩ := hok
    dsimp only at e1 hmi
    subst e1
    exact y_callS hE hR hcs hmi (Or.inr hc) h
  | 28, hok, h =>
    obtain ⟨e1, M', hmi, hc, q, hq, hqn⟩ := hok
    dsimp only at e1 hmi hq
    subst e1
    obtain ⟨g1, g2⟩ := h
    dsimp only at g1 g2
    rw [hmi] at g1
    dsimp only at g1
    split at g1
    · next i r hd =>
      obtain ⟨fs, g3⟩ := g1
      exact y_callV hE hR hcs hmi hc g3 hq hqn hd g2
    · exact g1.elim
  | 30, hok, h =>
    match st, h with
    | [(0, x)], h =>
      obtain ⟨hd, ty, h1, h2, h3⟩ := hok
      dsimp only at h2
      refine y_iret hd h1 ?_ hcs.1 hcs.2 h.2
      rcases h3 with rfl | rfl
      · rfl
      · rcases h.1 with h4 | ⟨h4, h5⟩
        · dsimp only at h4
          rw [h4] at h2
          exact absurd h2 (by decide)
        · rcases w32_01 h5 with e | e <;> rw [e] <;> decide +kernel
  | 31, hok, h =>
    match st, h with
    | [(4, x)], h => exact y_lret hok.1 hok.2 hcs.1 hcs.2 h
  | 32, hok, h =>
    match st, h with
    | [], h => exact y_vret hok.1 hok.2 hcs.1 hcs.2 h
  | 33, hok, h => exact y_ld (d := nx) (v := (5, (a : Int))) (fun p e s m args below meth c A Q hC H locs ls hS k => hok p (yl E) e R s m args below meth c H locs ce sl Q ls _ hC.1.1 (yb E) (ysa E) (hE.2.2.2 s hC.1.2.2.2.2.2.2.2.2.1) k) h
  | 34, hok, h =>
    refine y_ld (d := nx) (v := (0, 1)) (fun p e s m args below meth c A Q hC H locs ls hS k => ?_) h
    rw [List.map_cons, show ydv E (0, 1) = .int (nI 1) from congrArg Value.int (by decide)] at k
    exact hok p (yl E) e R s m args below meth c H locs ce sl Q ls _ hC.1.1 (yb E) (ysa E) A (hE.2.2.2 s hC.1.2.2.2.2.2.2.2.2.1) hS hC.1.2.2.2.2.1 k
  | 35, hok, h =>
    match st, h with
    | (5, i) :: st', h =>
      intro p e s m args below meth c A Qc hC hQ H locs ls hl hP hS
      have := h.2 p e s m args below meth c A Qc hC hQ H locs ls hl hP hS
      rw [List.map_cons] at this ⊢
      refine hok p (yl E) e R s m args below meth c H locs ce sl _ ls _ hC.1.1 (yb E) (ysa E) A (hE.2.2.2 s hC.1.2.2.2.2.2.2.2.2.1) hS hC.1.2.2.2.2.1 i.toNat h.1 ?_
      dsimp only at this ⊢
      by_cases ha : a = 0
      · rw [if_pos ha] at this ⊢
        exact this
      · rw [if_neg ha] at this ⊢
        exact this
  | 37, hok, h =>
    match st, h with
    | (0, j) :: (6, i) :: st', h =>
      obtain ⟨h1, h2, h3, h4⟩ := h
      intro p e s m args below meth c A Qc hC hQ H locs ls hl hP hS
      have := h4 p e s m args below meth c A Qc hC hQ H locs ls hl hP hS
      rw [List.map_cons] at this
      rw [List.map_cons, List.map_cons]
      have e1 : ydv E (0, j) = .int (nI (w32 j).toNat) := by
        show Value.int (iI j) = _
        rw [← iI_n, Int.toNat_of_nonneg h2, iI_w]
      have e2 : ydv E (0, (((xbyt.getD i.toNat []).getD (w32 j).toNat 0 : Nat) : Int)) = .int (nI ((xbyt.getD i.toNat []).getD (w32 j).toNat 0)) := by show Value.int (iI _) = _; rw [iI_n]
      rw [e2] at this
      rw [e1]
      have := w32_hi j
      exact hok p (yl E) e R s m args below meth c H locs ce sl _ ls _ hC.1.1 (yb E) (ysa E) A (hE.2.2.2 s hC.1.2.2.2.2.2.2.2.2.1) hS hC.1.2.2.2.2.1 i.toNat (w32 j).toNat h1 (by omega) (by omega) ‹_›
  | 38, hok, h =>
    match st, h with
    | (0, x) :: st', h =>
      refine y_T (st0 := [(0, x)]) (st1 := [(0, x)]) ?_ h.2.2
      have := hok (iI x)
      rw [y_char h.1 h.2.1] at this
      exact this
  | 39, hok, h =>
    obtain ⟨e1, M', hmi, hc, hq⟩ := hok
    dsimp only at e1 hmi
    subst e1
    obtain ⟨g1, g2⟩ := h
    dsimp only at g1 g2
    rw [hmi] at g1
    dsimp only at g1
    split at g1
    · next i r hd => exact y_callVs hE hR hcs hmi hc g1 hq hd g2
    · exact g1.elim
  | 40, hok, h =>
    match st, h with
    | [(0, x)], h =>
      obtain ⟨hd, ty, h1, h2⟩ := hok
      obtain ⟨g1, g2, g3⟩ := h
      dsimp only at h2 g2
      have e : iI x = nI x.toNat := by rw [← iI_n]; congr 1; omega
      rcases h2 with ⟨e1, e2⟩ | ⟨e1, e2⟩
      · rw [if_pos e1] at g2
        exact y_iret hd h1 (by rw [e2, e]; exact (pk_charN (by omega)).1) hcs.1 hcs.2 g3
      · rw [if_neg (by omega)] at g2
        exact y_iret hd h1 (by rw [e2, e]; exact xnarB (by omega)) hcs.1 hcs.2 g3
  | 41, hok, h => exact y_ld (d := nx) (v := (7, 0)) (fun p e s m args below meth c A Q hC H locs ls hS k => hok p (yl E) e R s m args below meth c H locs ce sl Q ls _ hC.1.1 (yb E) (ysa E) A (hE.2.2.2 s hC.1.2.2.2.2.2.2.2.2.1) hS hC.1.2.2.2.2.1 k) h
  | 60, hok, h =>
    match st, h with
    | (4, y) :: (4, x) :: st', h =>
      refine y_T (st0 := [(4, y), (4, x)]) (st1 := [(4, ylbin a x y)]) ?_ h
      have := hok (lI x) (lI y)
      rw [← ylbin_ok] at this
      exact this
  | 61, hok, h =>
    match st, h with
    | (4, y) :: (4, x) :: st', h =>
      refine y_T (st0 := [(4, y), (4, x)]) (st1 := [(4, ylbin a x y)]) ?_ h.2
      have := hok (lI x) (lI y) (fun z => h.1 (by have := congrArg Int64.toInt z; exact this))
      rw [← ylbin_ok] at this
      exact this
  | 62, hok, h =>
    match st, h with
    | (0, y) :: (4, x) :: st', h =>
      refine y_T (st0 := [(0, y), (4, x)]) (st1 := [(4, (lI x <<< ((iI y).toInt64 &&& 63)).toInt)]) ?_ h
      have := hok (lI x) (iI y)
      rw [← lI_t (lI x <<< ((iI y).toInt64 &&& 63))] at this
      exact this
  | 63, hok, h =>
    match st, h with
    | (0, y) :: (4, x) :: st', h =>
      refine y_T (st0 := [(0, y), (4, x)]) (st1 := [(4, ((lI x).toUInt64 >>> ((iI y).toInt64.toUInt64 &&& Int64.toUInt64 63)).toInt64.toInt)]) ?_ h
      have := hok (lI x) (iI y)
      rw [← lI_t ((lI x).toUInt64 >>> ((iI y).toInt64.toUInt64 &&& Int64.toUInt64 63)).toInt64] at this
      exact this
  | 64, hok, h =>
    match st, h with
    | (4, x) :: st', h =>
      refine y_T (st0 := [(4, x)]) (st1 := [(4, -x)]) ?_ h
      have := hok (lI x)
      rw [show -lI x = lI (-x) from (Int64.ofInt_neg x).symm] at this
      exact this
  | 65, hok, h =>
    match st, h with
    | (0, x) :: st', h =>
      refine y_T (st0 := [(0, x)]) (st1 := [(4, w32 x)]) ?_ h
      have := hok (iI x)
      have e : (iI x).toInt64 = lI (w32 x) := by
        apply Int64.toInt_inj.mp
        rw [Int32.toInt_toInt64]
        have b1 := w32_lo x
        have b2 := w32_hi x
        exact (w64_of (x := w32 x) (by omega) (by omega)).symm
      rw [e] at this
      exact this
  | 66, hok, h =>
    match st, h with
    | (4, x) :: st', h =>
      refine y_T (st0 := [(4, x)]) (st1 := [(0, x)]) ?_ h
      have := hok (lI x)
      rw [show (lI x).toInt32 = iI x from Int64.toInt32_ofInt] at this
      exact this
  | 67, hok, h =>
    match st, h with
    | (0, j) :: (1, i) :: st', h =>
      obtain ⟨n, rs, h1, h2, h3, h4⟩ := h
      exact y_readl hok h1 rfl h2 h3 h4
  | 68, hok, h =>
    match st, h with
    | (4, x) :: (0, j) :: (1, i) :: st', h =>
      obtain ⟨n, rs, h1, h2, h3, h4⟩ := h
      exact y_writel hok h1 rfl h2 h3 h4
  | 69, hok, h =>
    match st, h with
    | v :: st', h => exact y_T (st0 := [v]) (st1 := []) (hok _ (by rw [ycat_ok]; exact h.1)) h.2
  | 70, hok, h =>
    match st, h with
    | (0, y) :: (0, x) :: st', h =>
      refine y_math (st0 := [(0, y), (0, x)]) (st1 := [(0, if a = 0 then (if w32 y < w32 x then y else x) else (if w32 x < w32 y then y else x))]) hR hcs ?_ h.1 h.2
      have := hok (iI x) (iI y)
      have e1 : (iI y < iI x) ↔ w32 y < w32 x := Int32.lt_iff_toInt_lt
      have e2 : (iI x < iI y) ↔ w32 x < w32 y := Int32.lt_iff_toInt_lt
      have e3 : (if a = 0 then (if iI y < iI x then iI y else iI x) else (if iI x < iI y then iI y else iI x)) = iI (if a = 0 then (if w32 y < w32 x then y else x) else (if w32 x < w32 y then y else x)) := by
        simp only [e1, e2]
        split <;> split <;> rfl
      dsimp only at this
      rw [e3] at this
      exact this
  | 71, hok, h =>
    match st, h with
    | (4, y) :: (4, x) :: st', h =>
      refine y_math (st0 := [(4, y), (4, x)]) (st1 := [(4, if a = 0 then (if w64 y < w64 x then y else x) else (if w64 y < w64 x then x else y))]) hR hcs ?_ h.1 h.2
      have := hok (lI x) (lI y)
      have e1 : (lI y < lI x) ↔ w64 y < w64 x := Int64.lt_iff_toInt_lt
      have e3 : (if a = 0 then (if lI y < lI x then lI y else lI x) else (if lI y < lI x then lI x else lI y)) = lI (if a = 0 then (if w64 y < w64 x then y else x) else (if w64 y < w64 x then x else y)) := by
        simp only [e1]
        split <;> split <;> rfl
      dsimp only at this
      rw [e3] at this
      exact this
  | 72, hok, h =>
    match st, h with
    | (4, x) :: st', h =>
      refine y_math (st0 := [(4, x)]) (st1 := [(4, if 0 < w64 x then x else -x)]) hR hcs ?_ h.1 h.2
      have := hok (lI x)
      have e1 : (0 < lI x) ↔ 0 < w64 x := by
        rw [Int64.lt_iff_toInt_lt]
        simp [w64]
      have e3 : (if 0 < lI x then lI x else -lI x) = lI (if 0 < w64 x then x else -x) := by
        simp only [e1]
        split
        · rfl
        · exact (Int64.ofInt_neg x).symm
      rw [e3] at this
      exact this
end YM
end
section
/-- what every slot of the memory holds: of each cell the interval of all its slots, and of its first ones -/
def ygam : List ((Int × Int) × List (Int × Int)) := [((-2147483648, 2147483647), [(-2147483648, 2147483647), (-2147483648, 2147483647), (-2147483648, 2147483647), (-2147483648, 2147483647), (-2147483648, 2147483647), (-2147483648, 2147483647), (-2147483648, 2147483647), (-2147483648, 2147483647), (-2147483648, 2147483647), (-2147483648, 2147483647), (-2147483648, 2147483647), (0, 800), (-2147483648, 2147483647), (-2147483648, 2147483647), (0, 1)]), ((-128, 127), []), ((-2147483648, 2147483647), []), ((-2147483648, 2147483647), [(-2147483648, 2147483647), (0, 3)]), ((-2147483648, 2147483647), []), ((-2147483648, 2147483647), [(-2147483648, 2147483647), (0, 6)]), ((-2147483648, 2147483647), []), ((-2147483648, 2147483647), [(-2147483648, 2147483647), (0, 4)]), ((-2147483648, 2147483647), []), ((-2147483648, 2147483647), [(-2147483648, 2147483647), (0, 3)]), ((-2147483648, 2147483647), []), ((-2147483648, 2147483647), []), ((-2147483648, 2147483647), []), ((-2147483648, 2147483647), []), ((-2147483648, 2147483647), []), ((-1, 2), []), ((-2147483648, 2147483647), []), ((-2147483648, 2147483647), []), ((0, 3), []), ((0, 8), []), ((-2147483648, 2147483647), []), ((-2147483648, 2147483647), []), ((-2147483648, 2147483647), [(-2147483648, 2147483647), (-2147483648, 2147483647), (-2147483648, 2147483647), (-2147483648, 2147483647), (0, 64), (-2147483648, 2147483647), (0, 72), (0, 8), (0, 64), (0, 1)]), ((-2147483648, 2147483647), []), ((-2147483648, 2147483647), []), ((0, 64), []), ((0, 64), []), ((-2147483648, 2147483647), []), ((-2147483648, 2147483647), []), ((-2147483648, 2147483647), [(-2147483648, 2147483647), (0, 3)]), ((-2147483648, 2147483647), []), ((-2147483648, 2147483647), [(-2147483648, 2147483647), (0, 6)]), ((-2147483648, 2147483647), []), ((-2147483648, 2147483647), [(-2147483648, 2147483647), (0, 4)]), ((-2147483648, 2147483647), []), ((-2147483648, 2147483647), [(-2147483648, 2147483647), (0, 3)]), ((-2147483648, 2147483647), []), ((-2147483648, 2147483647), []), ((-2147483648, 2147483647), []), ((-2147483648, 2147483647), []), ((-2147483648, 2147483647), []), ((-1, 2), []), ((-2147483648, 2147483647), []), ((-2147483648, 2147483647), []), ((0, 3), []), ((0, 8), []), ((-2147483648, 2147483647), []), ((-2147483648, 2147483647), []), ((-2147483648, 2147483647), [(-2147483648, 2147483647), (-2147483648, 2147483647), (-2147483648, 2147483647), (-2147483648, 2147483647), (0, 64), (-2147483648, 2147483647), (0, 72), (0, 8), (0, 64), (0, 1)]), ((-2147483648, 2147483647), []), ((-2147483648, 2147483647), []), ((0, 64), []), ((0, 64), []), ((-2147483648, 2147483647), []), ((-2147483648, 2147483647), [(-2147483648, 2147483647), (-2147483648, 2147483647), (0, 1), (0, 1)]), ((-2147483648, 2147483647), [(-2147483648, 2147483647), (-2147483648, 2147483647), (0, 800), (0, 801), (-2147483648, 2147483647), (-2147483648, 2147483647), (-2147483648, 2147483647), (-2147483648, 2147483647), (-2147483648, 2147483647)]), ((-2147483648, 2147483647), []), ((-2147483648, 2147483647), [(-2147483648, 2147483647), (-2147483648, 2147483647), (-2147483648, 2147483647), (-2147483648, 2147483647), (-2147483648, 2147483647), (-2147483648, 2147483647), (0, 12), (-2147483648, 2147483647), (-2147483648, 2147483647), (-2147483648, 2147483647), (-2147483648, 2147483647), (-1, 24), (-2147483648, 2147483647)]), ((-2147483648, 2147483647), []), ((-2147483648, 2147483647), []), ((-2147483648, 2147483647), []), ((-1, 5), []), ((0, 11), []), ((-2147483648, 2147483647), []), ((-2147483648, 2147483647), [(-2147483648, 2147483647), (-2147483648, 2147483647), (-2147483648, 2147483647), (-2147483648, 2147483647), (-2147483648, 2147483647), (-2147483648, 2147483647), (0, 12), (-2147483648, 2147483647), (-2147483648, 2147483647), (-2147483648, 2147483647), (-2147483648, 2147483647), (-1, 24), (-2147483648, 2147483647)]), ((-2147483648, 2147483647), []), ((-2147483648, 2147483647), []), ((-2147483648, 2147483647), []), ((-1, 5), []), ((0, 11), []), ((-2147483648, 2147483647), []), ((-2147483648, 2147483647), [(-2147483648, 2147483647), (0, 24)]), ((-2147483648, 2147483647), []), ((-2147483648, 2147483647), [(-2147483648, 2147483647), (-2147483648, 2147483647), (-2147483648, 2147483647), (-2147483648, 2147483647), (0, 64), (0, 1)]), ((-2147483648, 2147483647), []), ((-2147483648, 2147483647), []), ((-2147483648, 2147483647), [(-2147483648, 2147483647), (-2147483648, 2147483647), (-2147483648, 2147483647), (-2147483648, 2147483647), (-2147483648, 2147483647), (-2147483648, 2147483647), (-2147483648, 2147483647), (-2147483648, 2147483647), (0, 24), (-2147483648, 2147483647), (0, 1)]), ((0, 8), []), ((-2147483648, 2147483647), []), ((-2147483648, 2147483647), []), ((-2147483648, 2147483647), []), ((-2147483648, 2147483647), []), ((-2147483648, 2147483647), []), ((-2147483648, 2147483647), []), ((-2147483648, 2147483647), []), ((-2147483648, 2147483647), []), ((-2147483648, 2147483647), []), ((-2147483648, 2147483647), []), ((-1, 2), []), ((-2147483648, 2147483647), []), ((-2147483648, 2147483647), []), ((-2147483648, 2147483647), [(-2147483648, 2147483647), (-2147483648, 2147483647), (-2147483648, 2147483647), (-2147483648, 2147483647), (-2147483648, 2147483647), (-2147483648, 2147483647), (0, 4), (-2147483648, 2147483647), (-2147483648, 2147483647), (-2147483648, 2147483647)]), ((-2147483648, 2147483647), []), ((-2147483648, 2147483647), []), ((-2147483648, 2147483647), []), ((-2147483648, 2147483647), [(-2147483648, 2147483647), (-2147483648, 2147483647), (0, 800), (-2147483648, 2147483647), (-2147483648, 2147483647), (-2147483648, 2147483647), (-2147483648, 2147483647), (-2147483648, 2147483647), (-2147483648, 2147483647), (-2147483648, 2147483647), (-2147483648, 2147483647), (-2147483648, 2147483647), (-2147483648, 2147483647), (-2147483648, 2147483647), (-2147483648, 2147483647), (-2147483648, 2147483647), (-2147483648, 2147483647), (-2147483648, 2147483647), (-2147483648, 2147483647), (-2147483648, 2147483647), (-2147483648, 2147483647), (-2147483648, 2147483647), (-2147483648, 2147483647), (-2147483648, 2147483647), (-2147483648, 2147483647), (-2147483648, 2147483647), (0, 800), (0, 802), (0, 802), (-2147483648, 2147483647), (-2147483648, 2147483647), (-2147483648, 2147483647), (-2147483648, 2147483647), (-2147483648, 2147483647), (-2147483648, 2147483647), (0, 8), (0, 64), (-2147483648, 2147483647), (-2147483648, 2147483647), (-2147483648, 2147483647), (-2147483648, 2147483647), (-2147483648, 2147483647), (-2147483648, 2147483647), (-2147483648, 2147483647), (-2147483648, 2147483647), (-2147483648, 2147483647), (-2147483648, 2147483647), (-2147483648, 2147483647), (-2147483648, 2147483647), (0, 1), (-2147483648, 2147483647), (-2147483648, 2147483647), (0, 64), (-2147483648, 2147483647), (-2147483648, 2147483647), (-2147483648, 2147483647), (-2147483648, 2147483647), (-2147483648, 2147483647), (-2147483648, 2147483647), (-1, 2), (-2147483648, 2147483647), (0, 24), (-1, 24), (-2147483648, 2147483647), (-2147483648, 2147483647), (-2147483648, 2147483647), (-2147483648, 2147483647), (-2147483648, 2147483647), (-2147483648, 2147483647)]), ((0, 255), []), ((-2147483648, 2147483647), [(0, 3), (0, 6), (0, 4), (0, 3), (-2147483648, 2147483647), (-2147483648, 2147483647), (0, 64), (0, 3), (0, 6), (0, 4), (0, 3), (-2147483648, 2147483647), (-2147483648, 2147483647), (0, 64)]), ((-2147483648, 2147483647), []), ((-2147483648, 2147483647), []), ((-2147483648, 2147483647), []), ((-2147483648, 2147483647), []), ((-2147483648, 2147483647), []), ((-2147483648, 2147483647), []), ((0, 1), []), ((-1, 2), []), ((0, 99), []), ((-2147483648, 2147483647), []), ((-2147483648, 2147483647), []), ((0, 3), []), ((0, 8), []), ((-2147483648, 2147483647), []), ((-2147483648, 2147483647), []), ((-2147483648, 2147483647), []), ((0, 64), []), ((0, 64), []), ((-2147483648, 2147483647), []), ((-2147483648, 2147483647), []), ((-2147483648, 2147483647), []), ((-2147483648, 2147483647), []), ((-2147483648, 2147483647), []), ((-2147483648, 2147483647), []), ((-2147483648, 2147483647), []), ((-2147483648, 2147483647), []), ((-2147483648, 2147483647), []), ((-2147483648, 2147483647), []), ((-1, 5), []), ((0, 12), []), ((0, 11), []), ((-2147483648, 2147483647), []), ((-2147483648, 2147483647), []), ((-2147483648, 2147483647), []), ((-2147483648, 2147483647), []), ((-2147483648, 2147483647), []), ((0, 999), []), ((0, 8), []), ((0, 6), []), ((-2147483648, 2147483647), []), ((-2147483648, 2147483647), []), ((-1, 23), []), ((0, 1), []), ((0, 5), []), ((-2147483648, 2147483647), []), ((-2147483648, 2147483647), [])]
end
section
/-! A RUN OVER INTERVALS. An abstract value (tag, k, c): (0, _, c) the int c; (3, k, c) the int symbol k and c more; (1, i, _) the cell i; (4, _, c) the long c; (8, k, _) the long symbol k; (9, k, c) how the long symbol k compares with c. -/
abbrev aV : Type := Nat × Nat × Int
abbrev aL : Type := List (Nat × aV)
abbrev aI : Type := List (Int × Int)
abbrev aN : Type := List (Nat × Int)
abbrev aMp : Type := List ((Nat × Nat) × aV)
abbrev aSt : Type := aMp × aI × aN
/-- what an argument or local may be: (0, _, c, _) the int c; (3, _, lo, hi) an int from lo to hi; (1, i, _, _) the cell i; (8, ..) any long; (99, ..) nothing -/
abbrev aArg : Type := Nat × Nat × Int × Int
abbrev aFct : Type := List ((Nat × Nat) × Int × Int)
/-- a part of a rank: (0, _, _, _, c) c; (1, i, _, s, c) c and s times the local i; (2, i, j, s, c) c and s times the slot j of the cell i -/
abbrev aExp : Type := Nat × Nat × Nat × Int × Int
abbrev aCut : Type := List (Nat × aArg) × aFct × Nat × aExp × aExp
/-- a contract: method, arguments, facts ahead, answer, facts behind, what it may write (cell, slot + 1; slot 0: all), frames, cuts (pc, local to be split + 1, what may hold there) -/
abbrev aCon : Type := Nat × List aArg × aFct × aArg × aFct × List (Nat × Nat) × Nat × List (Nat × Nat × List aCut)
abbrev aFr : Type := xM × Nat × aL × List aV
abbrev aT : Type := Option Nat × Int
def zle (a b : Int) : Bool := match b - a with
  | .ofNat _ => true
  | .negSucc _ => false
theorem zle_ok {a b : Int} : zle a b = true ↔ a ≤ b := by
  unfold zle
  rw [← Int.sub_nonneg]
  cases b - a with
  | ofNat n => simp
  | negSucc n => simp
def zlt (a b : Int) : Bool := zle (a + 1) b
theorem zlt_ok {a b : Int} : zlt a b = true ↔ a < b := by
  unfold zlt
  rw [zle_ok]
  omega
def zeq (a b : Int) : Bool := zle a b && zle b a
theorem zeq_ok {a b : Int} : zeq a b = true ↔ a = b := by
  unfold zeq
  rw [Bool.and_eq_true, zle_ok, zle_ok]
  omega
def zmax (a b : Int) : Int := if zle a b then b else a
def zmin (a b : Int) : Int := if zle a b then a else b
theorem zmax_ok (a b : Int) : zmax a b = max a b := by
  unfold zmax
  split
  · next h => rw [zle_ok] at h; omega
  · next h => rw [zle_ok] at h; omega
theorem zmin_ok (a b : Int) : zmin a b = min a b := by
  unfold zmin
  split
  · next h => rw [zle_ok] at h; omega
  · next h => rw [zle_ok] at h; omega
def a32 : Int × Int := (-2147483648, 2147483647)
def a64 : Int × Int := (-9223372036854775808, 9223372036854775807)
/-- one interval in another -/
def ain (q r : Int × Int) : Bool := zle r.1 q.1 && zle q.2 r.2
def alk : aL → Nat → Option aV
  | [], _ => none
  | q :: r, i => if Nat.beq q.1 i then some q.2 else alk r i
def akdb (k : Nat) (v : aV) : Bool := match k with
  | 0 => Nat.beq v.1 0 || (Nat.beq v.1 3 || Nat.beq v.1 9)
  | 1 => Nat.beq v.1 1
  | _ => Nat.beq v.1 4 || Nat.beq v.1 8
def acat (v : aV) : Nat := if Nat.beq v.1 4 || Nat.beq v.1 8 then 2 else 1
def aflb (k i : Nat) (q : Nat × aV) : Bool := match k with
  | 2 => !(Nat.beq q.1 i) && (!(Nat.beq q.1 (i + 1)) && !(Nat.beq (q.1 + 1) i && Nat.beq (acat q.2) 2))
  | _ => !(Nat.beq q.1 i) && !(Nat.beq (q.1 + 1) i && Nat.beq (acat q.2) 2)
def aflt (k i : Nat) : aL → aL
  | [] => []
  | q :: r => if aflb k i q then q :: aflt k i r else aflt k i r
def aiv (iv : aI) (k : Nat) : Int × Int := match iv[k]? with
  | some q => q
  | none => a64
def trng (iv : aI) (t : aT) : Int × Int := match t.1 with
  | none => (t.2, t.2)
  | some k => ((aiv iv k).1 + t.2, (aiv iv k).2 + t.2)
def aterm (v : aV) : Option aT := match v.1 with
  | 0 => some (none, v.2.2)
  | 3 => some (some v.2.1, v.2.2)
  | _ => none
/-- the interval of an int -/
def arng (iv : aI) (v : aV) : Int × Int := match aterm v with
  | some t => trng iv t
  | none => a32
def aset (iv : aI) (t : aT) (lo hi : Int) : aI := match t.1 with
  | none => iv
  | some k => match iv[k]? with
    | some q => iv.set k (zmax q.1 (lo - t.2), zmin q.2 (hi - t.2))
    | none => iv
def aneq (ne : aN) (t u : aT) : Bool := match t.1, u.1 with
  | some k, none => ne.any (fun q => Nat.beq q.1 k && zeq q.2 (u.2 - t.2))
  | _, _ => false
/-- the symbol k is not c -/
def adifk (iv : aI) (ne : aN) (k : Nat) (c : Int) : aI × aN := (if zeq (aiv iv k).1 c then aset iv (some k, 0) (c + 1) (aiv iv k).2 else if zeq (aiv iv k).2 c then aset iv (some k, 0) (aiv iv k).1 (c - 1) else iv, (k, c) :: ne)
/-- t is not u -/
def adif (iv : aI) (ne : aN) (t u : aT) : aI × aN := match t.1, u.1 with
  | some k, none => adifk iv ne k (u.2 - t.2)
  | none, some k => adifk iv ne k (t.2 - u.2)
  | _, _ => (iv, ne)
def acons (iv : aI) : Bool := match iv with
  | [] => true
  | q :: r => zle q.1 q.2 && acons r
def akeep (l : List (Bool × aI × aN)) : List (Bool × aI × aN) := match l with
  | [] => []
  | q :: r => if acons q.2.1 then q :: akeep r else akeep r
def aeq (iv : aI) (ne : aN) (t u : aT) : List (Bool × aI × aN) :=
  let a := trng iv t
  let b := trng iv u
  if zle a.2 b.1 && zle b.2 a.1 then [(true, iv, ne)]
  else if zlt a.2 b.1 || (zlt b.2 a.1 || aneq ne t u) then [(false, iv, ne)]
  else akeep [(true, aset (aset iv t b.1 b.2) u a.1 a.2, ne), (false, adif iv ne t u)]
def alt (iv : aI) (ne : aN) (t u : aT) : List (Bool × aI × aN) :=
  let a := trng iv t
  let b := trng iv u
  if zlt a.2 b.1 then [(true, iv, ne)]
  else if zle b.2 a.1 then [(false, iv, ne)]
  else akeep [(true, aset (aset iv t a.1 (b.2 - 1)) u (a.1 + 1) b.2, ne), (false, aset (aset iv t b.1 a.2) u b.1 a.2, ne)]
def anot (l : List (Bool × aI × aN)) : List (Bool × aI × aN) := match l with
  | [] => []
  | q :: r => (!q.1, q.2) :: anot r
/-- comparing: 0 =, 1 not =, 2 <, 3 >=, 4 >, 5 <= -/
def acmp (c : Nat) (iv : aI) (ne : aN) (t u : aT) : List (Bool × aI × aN) := match c with
  | 0 => aeq iv ne t u
  | 1 => anot (aeq iv ne t u)
  | 2 => alt iv ne t u
  | 3 => anot (alt iv ne t u)
  | 4 => alt iv ne u t
  | _ => anot (alt iv ne u t)
def aall (l : List (Bool × aI × aN)) (f : Bool → aI → aN → Bool) : Bool := match l with
  | [] => true
  | q :: r => f q.1 q.2.1 q.2.2 && aall r f
def asw (f : Nat → aI → aN → Bool) (dflt : Nat) (t : aT) : List (Nat × Nat) → aI → aN → Bool
  | [], iv, ne => f dflt iv ne
  | q :: r, iv, ne => aall (aeq iv ne t (none, cI q.1)) (fun o iv' ne' => if o then f q.2 iv' ne' else asw f dflt t r iv' ne')
def amlk (mp : aMp) (i j : Nat) : Option aV := match mp with
  | [] => none
  | q :: r => if Nat.beq q.1.1 i && Nat.beq q.1.2 j then some q.2 else amlk r i j
/-- what every slot of a cell holds (0), what its slot j holds -/
def aent (i : Nat) : (Int × Int) × List (Int × Int) := match ygam[i]? with
  | some e => e
  | none => (a32, [])
def agam (i j : Nat) : Int × Int := (aent i).2.getD j (aent i).1
def adefl (i : Nat) : Int × Int := match (aent i).2 with
  | [] => (aent i).1
  | _ => a32
def amod (mods : List (Nat × Nat)) (i j : Nat) : Bool := match mods with
  | [] => false
  | q :: r => (Nat.beq q.1 i && (Nat.beq q.2 0 || Nat.beq q.2 (j + 1))) || amod r i j
def amodA (mods : List (Nat × Nat)) (i : Nat) : Bool := match mods with
  | [] => false
  | q :: r => (Nat.beq q.1 i && Nat.beq q.2 0) || amodA r i
/-- all that the one list may write the other may write -/
def amsub (a b : List (Nat × Nat)) : Bool := match a with
  | [] => true
  | q :: r => (match q.2 with
    | 0 => amodA b q.1
    | j + 1 => amod b q.1 j) && amsub r b
def adrop (mods : List (Nat × Nat)) (mp : aMp) : aMp := match mp with
  | [] => []
  | q :: r => if amod mods q.1.1 q.1.2 then adrop mods r else q :: adrop mods r
def adrop1 (i j : Nat) (mp : aMp) : aMp := match mp with
  | [] => []
  | q :: r => if Nat.beq q.1.1 i && Nat.beq q.1.2 j then adrop1 i j r else q :: adrop1 i j r
def adropA (i : Nat) (mp : aMp) : aMp := match mp with
  | [] => []
  | q :: r => if Nat.beq q.1.1 i then adropA i r else q :: adropA i r
def anew (S : aSt) (q : Int × Int) : aSt := (S.1, S.2.1 ++ [q], S.2.2)
/-- the slot j of the cell i -/
def ardS (S : aSt) (i j : Nat) (k : aV → aSt → Bool) : Bool := match amlk S.1 i j with
  | some v => k v S
  | none => k (3, S.2.1.length, 0) ((((i, j), (3, S.2.1.length, 0)) :: S.1), S.2.1 ++ [agam i j], S.2.2)
def afr (S : aSt) (q : Int × Int) (k : aV → aSt → Bool) : Bool := k (3, S.2.1.length, 0) (anew S q)
def afrL (S : aSt) (k : aV → aSt → Bool) : Bool := k (8, S.2.1.length, 0) (anew S a64)
/-- an int from q.1 to q.2, where that is within ints -/
def afit (S : aSt) (q : Int × Int) (k : aV → aSt → Bool) : Bool := afr S (if ain q a32 then q else a32) k
def a2p (n : Nat) (b : Int) : Int := match n with
  | 0 => b
  | n + 1 => a2p n (b + b)
/-- the least 2^k - 1 that isn't below, up to 2^20 -/
def aones (h : Int) : Nat → Int → Option Int
  | 0, _ => none
  | n + 1, b => if zlt h b then some (b - 1) else aones h n (b + b)
def abinr (o : Nat) (a b : Int × Int) : Int × Int := match o with
  | 0 => (a.1 + b.1, a.2 + b.2)
  | 1 => (a.1 - b.2, a.2 - b.1)
  | 2 => if zle 0 a.1 && zle 0 b.1 then (a.1 * b.1, a.2 * b.2) else a64
  | 3 => if zle 0 b.1 then (0, b.2) else if zle 0 a.1 then (0, a.2) else a64
  | 4 => if zle 0 a.1 && zle 0 b.1 then (match aones (zmax a.2 b.2) 21 1 with
      | some h => (0, h)
      | none => a64) else a64
  | 6 => if zeq a.1 1 && (zeq a.2 1 && (zle 0 b.1 && zle b.2 20)) then (1, a2p b.2.toNat 1) else a64
  | 7 => if zle 0 a.1 then (0, a.2) else a64
  | 9 => if zle 0 a.1 && zle 1 b.1 then (0, if zeq b.1 b.2 then a.2 / b.1 else a.2) else a64
  | 10 => if zle 0 a.1 && zle 1 b.1 then (0, b.2 - 1) else a64
  | _ => a64
/-- x o y, two ints -/
def abin (S : aSt) (o : Nat) (x y : aV) (k : aV → aSt → Bool) : Bool := match aterm x, aterm y with
  | some t, some u =>
    let a := trng S.2.1 t
    let b := trng S.2.1 u
    if (Nat.beq o 9 || Nat.beq o 10) && (zle b.1 0 && zle 0 b.2) && !(aneq S.2.2 u (none, 0)) then false
    else match o, u.1 with
      | 0, none => if ain (a.1 + u.2, a.2 + u.2) a32 then (match t.1 with
          | none => k (0, 0, t.2 + u.2) S
          | some s => k (3, s, t.2 + u.2) S) else afr S a32 k
      | 1, none => if ain (a.1 - u.2, a.2 - u.2) a32 then (match t.1 with
          | none => k (0, 0, t.2 - u.2) S
          | some s => k (3, s, t.2 - u.2) S) else afr S a32 k
      | _, _ => afit S (abinr o a b) k
  | _, _ => false
def aeqv (q : Int × Int) : Option Int := if zle q.2 q.1 then some q.1 else none
def aargI (iv : aI) (v : aV) (a : aArg) : Bool := match a.1 with
  | 0 => (match aterm v with
    | some t => zle a.2.2.1 (trng iv t).1 && zle (trng iv t).2 a.2.2.1
    | none => false)
  | 3 => (match aterm v with
    | some t => zle a.2.2.1 (trng iv t).1 && zle (trng iv t).2 a.2.2.2
    | none => Nat.beq v.1 9 && (zle a.2.2.1 (-1) && zle 1 a.2.2.2))
  | 1 => Nat.beq v.1 1 && Nat.beq v.2.1 a.2.1
  | 8 => Nat.beq v.1 4 || Nat.beq v.1 8
  | _ => false
def aargs (iv : aI) : List aV → List aArg → Bool
  | [], [] => true
  | v :: r, a :: s => aargI iv v a && aargs iv r s
  | _, _ => false
def aslot (S : aSt) (i j : Nat) : Int × Int := match amlk S.1 i j with
  | some v => arng S.2.1 v
  | none => agam i j
def afcts (S : aSt) : aFct → Bool
  | [] => true
  | f :: r => ain (aslot S f.1.1 f.1.2) f.2 && afcts S r
/-- the symbols of facts -/
def afbeg : aFct → aMp → aI → aMp × aI
  | [], mp, iv => (mp, iv)
  | f :: r, mp, iv => afbeg r ((f.1, (3, iv.length, 0)) :: mp) (iv ++ [f.2])
def albeg : List (Nat × aArg) → aI → aL × aI
  | [], iv => ([], iv)
  | a :: r, iv => match a.2.1 with
    | 0 => let q := albeg r iv; ((a.1, (0, 0, a.2.2.2.1)) :: q.1, q.2)
    | 1 => let q := albeg r iv; ((a.1, (1, a.2.2.1, 0)) :: q.1, q.2)
    | 3 => let q := albeg r (iv ++ [(a.2.2.2.1, a.2.2.2.2)]); ((a.1, (3, iv.length, 0)) :: q.1, q.2)
    | _ => let q := albeg r (iv ++ [a64]); ((a.1, (8, iv.length, 0)) :: q.1, q.2)
def aidx : Nat → List aArg → List (Nat × aArg)
  | _, [] => []
  | i, a :: r => (i, a) :: aidx (i + (if Nat.beq a.1 8 then 2 else 1)) r
/-- a part of a rank as it stands: coefficient, symbol, constant -/
def aval (lv : aL) (S : aSt) (e : aExp) : Int × aT := match e.1 with
  | 0 => (0, (none, 0))
  | 1 => (match alk lv e.2.1 with
    | some v => (match aterm v with
      | some t => (e.2.2.2.1, (t.1, t.2))
      | none => (0, (none, 0)))
    | none => (0, (none, 0)))
  | _ => (match amlk S.1 e.2.1 e.2.2.1 with
    | some v => (match aterm v with
      | some t => (e.2.2.2.1, (t.1, t.2))
      | none => (0, (none, 0)))
    | none => (0, (none, 0)))
abbrev aRk : Type := Int × aT × Int
abbrev aRank : Type := Nat × aRk × aRk
def arr (lv : aL) (S : aSt) (e : aExp) : aRk := ((aval lv S e).1, (aval lv S e).2, e.2.2.2.2)
def rlo (iv : aI) (r : aRk) : Int := if zle 0 r.1 then r.2.2 + r.1 * (trng iv r.2.1).1 else r.2.2 + r.1 * (trng iv r.2.1).2
def rhi (iv : aI) (r : aRk) : Int := if zle 0 r.1 then r.2.2 + r.1 * (trng iv r.2.1).2 else r.2.2 + r.1 * (trng iv r.2.1).1
def rsame (r q : aRk) : Bool := zeq r.1 q.1 && (match r.2.1.1, q.2.1.1 with
  | some a, some b => Nat.beq a b
  | none, none => true
  | _, _ => false)
def rlt (iv : aI) (r q : aRk) : Bool := zle 1 (rlo iv q) && ((rsame r q && zlt (r.2.2 + r.1 * r.2.1.2) (q.2.2 + q.1 * q.2.1.2)) || zlt (rhi iv r) (rlo iv q))
def rle (iv : aI) (r q : aRk) : Bool := (rsame r q && zle (r.2.2 + r.1 * r.2.1.2) (q.2.2 + q.1 * q.2.1.2)) || zle (rhi iv r) (rlo iv q)
def arank (iv : aI) (r q : aRank) : Bool := Nat.blt r.1 q.1 || (Nat.beq r.1 q.1 && (rlt iv r.2.1 q.2.1 || (rle iv r.2.1 q.2.1 && rlt iv r.2.2 q.2.2)))
def alocs (iv : aI) (lv : aL) : List (Nat × aArg) → Bool
  | [] => true
  | q :: r => (match alk lv q.1 with
    | some v => aargI iv v q.2
    | none => false) && alocs iv lv r
def atm (v : Option aV) : Bool := match v with
  | some v => (match aterm v with
    | some _ => true
    | none => false)
  | none => false
def aexok (lv : aL) (S : aSt) (e : aExp) : Bool := match e.1 with
  | 0 => true
  | 1 => atm (alk lv e.2.1)
  | _ => atm (amlk S.1 e.2.1 e.2.2.1)
def acut1 (lv : aL) (S : aSt) (g : aRank) (a : aCut) : Bool := aexok lv S a.2.2.2.1 && aexok lv S a.2.2.2.2 && alocs S.2.1 lv a.1 && (afcts S a.2.1 && arank S.2.1 (a.2.2.1, arr lv S a.2.2.2.1, arr lv S a.2.2.2.2) g)
def acuts (lv : aL) (S : aSt) (g : aRank) : List aCut → Bool
  | [] => false
  | a :: r => acut1 lv S g a || acuts lv S g r
def asplit (f : aSt → Bool) (S : aSt) (k : Nat) : Nat → Int → Bool
  | 0, _ => true
  | n + 1, x => f (S.1, aset S.2.1 (some k, 0) x x, S.2.2) && asplit f S k n (x + 1)
/-- every value of the symbol k -/
def aspl (S : aSt) (k : Nat) (f : aSt → Bool) : Bool := asplit f S k ((aiv S.2.1 k).2 - (aiv S.2.1 k).1 + 1).toNat (aiv S.2.1 k).1
def acutc (lv : aL) (S : aSt) (g : aRank) (q : Nat × List aCut) : Bool := match q.1 with
  | 0 => acuts lv S g q.2
  | i + 1 => match alk lv i with
    | some v => if Nat.beq v.1 3 then aspl S v.2.1 (fun S' => acuts lv S' g q.2) else acuts lv S g q.2
    | none => false
def acf : List (Nat × Nat × List aCut) → Nat → Option (Nat × List aCut)
  | [], _ => none
  | q :: r, pc => if Nat.beq q.1 pc then some q.2 else acf r pc
abbrev acM (c : aCon) : Nat := c.1
abbrev acA (c : aCon) : List aArg := c.2.1
abbrev acP (c : aCon) : aFct := c.2.2.1
abbrev acR (c : aCon) : aArg := c.2.2.2.1
abbrev acQ (c : aCon) : aFct := c.2.2.2.2.1
abbrev acW (c : aCon) : List (Nat × Nat) := c.2.2.2.2.2.1
abbrev acD (c : aCon) : Nat := c.2.2.2.2.2.2.1
abbrev acC (c : aCon) : List (Nat × Nat × List aCut) := c.2.2.2.2.2.2.2
def aend (c : aCon) (S : aSt) (r : Option aV) : Bool := (match r with
  | none => Nat.beq (acR c).1 99
  | some v => aargI S.2.1 v (acR c)) && afcts S (acQ c)
abbrev aRec : Type := xM → Nat → aL → List aV → List aFr → aSt → Bool
def apush (r : Option aV) (st : List aV) : List aV := match r with
  | some v => v :: st
  | none => st
def aretn (c : aCon) (rec : aRec) (r : Option aV) (frs : List aFr) (S : aSt) : Bool := match frs with
  | [] => aend c S r
  | f :: fs => rec f.1 f.2.1 f.2.2.1 (apush r f.2.2.2) fs S
def asum : List aV → Nat
  | [] => 0
  | v :: r => acat v + asum r
def aargl : Nat → List aV → aL
  | _, [] => []
  | i, v :: r => (i, v) :: aargl (i + acat v) r
def afind (T : List aCon) (mi : Nat) (iv : aI) (vs : List aV) : Option aCon := match T with
  | [] => none
  | e :: r => if Nat.beq (acM e) mi && aargs iv vs (acA e) then some e else afind r mi iv vs
def acall (T : List aCon) (c : aCon) (M : xM) (rec : aRec) (nx mi n0 : Nat) (lv : aL) (st : List aV) (frs : List aFr) (S : aSt) : Bool := match xmt[mi]? with
  | none => false
  | some M' => Nat.ble (xMn M' + n0) st.length && (Nat.ble (asum (st.drop (xMn M' + n0))) 8 && (Nat.ble (asum (st.take (xMn M' + n0))) (xMl M') && (Nat.ble (xMl M') 45 && (match afind T mi S.2.1 (st.take (xMn M' + n0)).reverse with
    | some e => Nat.ble (acD e + 1 + frs.length) (acD c) && (afcts S (acP e) && (amsub (acW e) (acW c) && (
        let q := afbeg (acQ e) (adrop (acW e) S.1) S.2.1
        match (acR e).1 with
        | 99 => rec M nx lv (st.drop (xMn M' + n0)) frs (q.1, q.2, S.2.2)
        | 0 => rec M nx lv ((0, 0, (acR e).2.2.1) :: st.drop (xMn M' + n0)) frs (q.1, q.2, S.2.2)
        | 3 => rec M nx lv ((3, q.2.length, 0) :: st.drop (xMn M' + n0)) frs (q.1, q.2 ++ [(acR e).2.2], S.2.2)
        | 8 => rec M nx lv ((8, q.2.length, 0) :: st.drop (xMn M' + n0)) frs (q.1, q.2 ++ [a64], S.2.2)
        | _ => false)))
    | none => Nat.ble (frs.length + 2) (acD c) && rec M' 0 (aargl 0 (st.take (xMn M' + n0)).reverse) [] ((M, nx, lv, st.drop (xMn M' + n0)) :: frs) S))))
def acell (v : aV) : Option yS := if Nat.beq v.1 1 then ysh[v.2.1]? else none
/-- the int v into the slot j of the cell i -/
def awrS (c : aCon) (S : aSt) (i j : Nat) (v : aV) (k : aSt → Bool) : Bool := ain (arng S.2.1 v) (agam i j) && (amod (acW c) i j && k (((i, j), v) :: adrop1 i j S.1, S.2.1, S.2.2))
def awrA (c : aCon) (S : aSt) (i : Nat) (v : aV) (k : aSt → Bool) : Bool := (match (aent i).2 with
  | [] => true
  | _ => false) && (ain (arng S.2.1 v) (aent i).1 && (amodA (acW c) i && k (adropA i S.1, S.2.1, S.2.2)))
def atermc (x : aV) : Option (aT × aT) := if Nat.beq x.1 9 then some ((some x.2.1, 0), (none, x.2.2)) else match aterm x with
  | some t => some (t, (none, 0))
  | none => none
def anz (S : aSt) (v : aV) : Bool := match v.1 with
  | 4 => !(zeq v.2.2 0)
  | 8 => aneq S.2.2 (some v.2.1, 0) (none, 0) || (zle 1 (aiv S.2.1 v.2.1).1 || zle (aiv S.2.1 v.2.1).2 (-1))
  | _ => false
def acsl (cs : List (Nat × Nat)) : Bool := match cs with
  | [] => true
  | q :: r => Nat.blt q.1 4294967296 && (!(r.any (fun p => Nat.beq p.1 q.1)) && acsl r)
noncomputable def astep (T : List aCon) (c : aCon) (M : xM) (rec : aRec) (op : xOp) (lv : aL) (st : List aV) (frs : List aFr) (S : aSt) : Bool := match op.1 with
  | 0 => Nat.blt op.2.2.1 4294967296 && rec M op.2.1 lv ((0, 0, cI op.2.2.1) :: st) frs S
  | 1 => Nat.blt op.2.2.1 18446744073709551616 && rec M op.2.1 lv ((4, 0, cL op.2.2.1) :: st) frs S
  | 2 => match alk lv op.2.2.2.1 with
    | some v => akdb op.2.2.1 v && rec M op.2.1 lv (v :: st) frs S
    | none => false
  | 3 => match st with
    | v :: st' => akdb op.2.2.1 v && (Nat.blt (op.2.2.2.1 + xwd op.2.2.1) (xMl M) && rec M op.2.1 ((op.2.2.2.1, v) :: aflt op.2.2.1 op.2.2.2.1 lv) st' frs S)
    | [] => false
  | 4 => match alk lv op.2.2.1 with
    | some v => Nat.blt op.2.2.2.1 4294967296 && (Nat.blt op.2.2.1 (xMl M) && abin S 0 v (0, 0, cI op.2.2.2.1) (fun w S' => rec M op.2.1 ((op.2.2.1, w) :: aflt 0 op.2.2.1 lv) st frs S'))
    | none => false
  | 5 => match st with
    | y :: x :: st' => abin S op.2.2.1 x y (fun w S' => rec M op.2.1 lv (w :: st') frs S')
    | _ => false
  | 6 => match st with
    | x :: st' => akdb 0 x && afr S (-128, 127) (fun w S' => rec M op.2.1 lv (w :: st') frs S')
    | _ => false
  | 8 => match st with
    | y :: x :: st' => akdb 2 x && (akdb 2 y && (if Nat.beq x.1 8 && Nat.beq y.1 4 then rec M op.2.1 lv ((9, x.2.1, y.2.2) :: st') frs S else afr S (-1, 1) (fun w S' => rec M op.2.1 lv (w :: st') frs S')))
    | _ => false
  | 9 => match st with
    | v :: st' => Nat.beq (acat v) 1 && rec M op.2.1 lv (v :: v :: st') frs S
    | _ => false
  | 10 => match st with
    | v :: st' => Nat.beq (acat v) 1 && rec M op.2.1 lv st' frs S
    | _ => false
  | 11 => match st with
    | v :: w :: st' => Nat.beq (acat v) 1 && (Nat.beq (acat w) 1 && rec M op.2.1 lv (v :: w :: v :: w :: st') frs S)
    | _ => false
  | 12 => match st with
    | x :: st' => match atermc x with
      | some q => aall (acmp op.2.2.2.1 S.2.1 S.2.2 q.1 q.2) (fun b iv ne => rec M (if b then op.2.2.1 else op.2.1) lv st' frs (S.1, iv, ne))
      | none => false
    | _ => false
  | 13 => match st with
    | y :: x :: st' => match aterm x, aterm y with
      | some t, some u => aall (acmp op.2.2.2.1 S.2.1 S.2.2 t u) (fun b iv ne => rec M (if b then op.2.2.1 else op.2.1) lv st' frs (S.1, iv, ne))
      | _, _ => false
    | _ => false
  | 14 => rec M op.2.1 lv st frs S
  | 15 => match st with
    | x :: st' => match aterm x with
      | some t => acsl op.2.2.2.2 && asw (fun tgt iv ne => rec M tgt lv st' frs (S.1, iv, ne)) op.2.2.1 t op.2.2.2.2 S.2.1 S.2.2
      | none => false
    | _ => false
  | 16 => match st with
    | v :: st' => match acell v with
      | some (.inr (ci, fs)) => Nat.beq ci op.2.2.1 && (match fs[op.2.2.2.1]? with
        | some (0, _) => ardS S v.2.1 op.2.2.2.1 (fun w S' => rec M op.2.1 lv (w :: st') frs S')
        | some (1, z) => zle 0 z && rec M op.2.1 lv ((1, z.toNat, 0) :: st') frs S
        | _ => false)
      | _ => false
    | _ => false
  | 17 => match st, op.2.2.2.2 with
    | x :: v :: st', [q] => match acell v with
      | some (.inr (ci, fs)) => Nat.beq ci op.2.2.1 && (match fs[op.2.2.2.1]? with
        | some (0, _) => (Nat.beq q.1 0 && akdb 0 x || Nat.beq q.1 3 && (akdb 0 x && ain (arng S.2.1 x) (0, 1))) && awrS c S v.2.1 op.2.2.2.1 x (fun S' => rec M op.2.1 lv st' frs S')
        | _ => false)
      | _ => false
    | _, _ => false
  | 18 => match st with
    | v :: st' => match acell v with
      | some (.inl (t, n, _)) => Nat.blt t 5 && rec M op.2.1 lv ((0, 0, (n : Int)) :: st') frs S
      | _ => false
    | _ => false
  | 19 => match st with
    | j :: v :: st' => match acell v, aterm j with
      | some (.inl (t, n, _)), some u => Nat.beq t op.2.2.1 && (zle 0 (trng S.2.1 u).1 && (zlt (trng S.2.1 u).2 (n : Int) && (match aeqv (trng S.2.1 u) with
        | some z => ardS S v.2.1 z.toNat (fun w S' => rec M op.2.1 lv (w :: st') frs S')
        | none => afr S (adefl v.2.1) (fun w S' => rec M op.2.1 lv (w :: st') frs S'))))
      | _, _ => false
    | _ => false
  | 20 => match st with
    | j :: v :: st' => match acell v, aterm j with
      | some (.inl (4, n, rs)), some u => (match aeqv (trng S.2.1 u) with
        | some z => zle 0 z && (zlt z (n : Int) && (match rs[z.toNat]? with
          | some q => rec M op.2.1 lv ((1, q, 0) :: st') frs S
          | none => false))
        | none => match u.1 with
          | some k => aspl S k (fun S' => match aeqv (trng S'.2.1 u) with
            | some z => zle 0 z && (zlt z (n : Int) && (match rs[z.toNat]? with
              | some q => rec M op.2.1 lv ((1, q, 0) :: st') frs S'
              | none => false))
            | none => false)
          | none => false)
      | _, _ => false
    | _ => false
  | 21 => match st with
    | x :: j :: v :: st' => match acell v, aterm j with
      | some (.inl (t, n, _)), some u => Nat.beq t op.2.2.1 && (akdb 0 x && (zle 0 (trng S.2.1 u).1 && (zlt (trng S.2.1 u).2 (n : Int) && ((match t with
          | 0 => true
          | 1 => ain (arng S.2.1 x) (-128, 127)
          | 3 => ain (arng S.2.1 x) (0, 1)
          | _ => false) && (match aeqv (trng S.2.1 u) with
        | some z => awrS c S v.2.1 z.toNat x (fun S' => rec M op.2.1 lv st' frs S')
        | none => awrA c S v.2.1 x (fun S' => rec M op.2.1 lv st' frs S'))))))
      | _, _ => false
    | _ => false
  | 26 => match st with
    | n :: dp :: dv :: sp :: sv :: st' => match acell sv, acell dv, aterm n, aterm dp, aterm sp with
      | some (.inl (0, n0, _)), some (.inl (0, n1, _)), some tn, some td, some ts => Nat.ble (asum st') 8 && (zle 0 (trng S.2.1 tn).1 && (zle 0 (trng S.2.1 td).1 && (zle 0 (trng S.2.1 ts).1 && (zle ((trng S.2.1 ts).2 + (trng S.2.1 tn).2) (n0 : Int) && (zle ((trng S.2.1 td).2 + (trng S.2.1 tn).2) (n1 : Int) && ((match (aent dv.2.1).2 with
          | [] => true
          | _ => false) && (ain (adefl sv.2.1) (aent dv.2.1).1 && (amodA (acW c) dv.2.1 && rec M op.2.1 lv st' frs (adropA dv.2.1 S.1, S.2.1, S.2.2)))))))))
      | _, _, _, _, _ => false
    | _ => false
  | 27 => acall T c M rec op.2.1 op.2.2.1 0 lv st frs S
  | 47 => acall T c M rec op.2.1 op.2.2.1 0 lv st frs S
  | 28 => (match xmt[op.2.2.1]? with
    | some M' => match st.drop (xMn M') with
      | v :: _ => match acell v with
        | some (.inr (ci, _)) => Nat.beq ci op.2.2.2.1
        | _ => false
      | _ => false
    | none => false) && acall T c M rec op.2.1 op.2.2.1 1 lv st frs S
  | 30 => match st with
    | [v] => akdb 0 v && ((Nat.beq op.2.2.2.1 0 || Nat.beq op.2.2.2.1 3 && ain (arng S.2.1 v) (0, 1)) && aretn c rec (some v) frs S)
    | _ => false
  | 31 => match st with
    | [v] => akdb 2 v && aretn c rec (some v) frs S
    | _ => false
  | 32 => match st with
    | [] => aretn c rec none frs S
    | _ => false
  | 60 => match st with
    | y :: x :: st' => akdb 2 x && (akdb 2 y && afrL S (fun w S' => rec M op.2.1 lv (w :: st') frs S'))
    | _ => false
  | 61 => match st with
    | y :: x :: st' => akdb 2 x && (anz S y && afrL S (fun w S' => rec M op.2.1 lv (w :: st') frs S'))
    | _ => false
  | 62 => match st with
    | y :: x :: st' => akdb 2 x && (akdb 0 y && afrL S (fun w S' => rec M op.2.1 lv (w :: st') frs S'))
    | _ => false
  | 63 => match st with
    | y :: x :: st' => akdb 2 x && (akdb 0 y && afrL S (fun w S' => rec M op.2.1 lv (w :: st') frs S'))
    | _ => false
  | 64 => match st with
    | x :: st' => akdb 2 x && (if anz S x then rec M op.2.1 lv ((8, S.2.1.length, 0) :: st') frs (S.1, S.2.1 ++ [a64], (S.2.1.length, 0) :: S.2.2) else afrL S (fun w S' => rec M op.2.1 lv (w :: st') frs S'))
    | _ => false
  | 65 => match st with
    | x :: st' => akdb 0 x && afrL S (fun w S' => rec M op.2.1 lv (w :: st') frs S')
    | _ => false
  | 66 => match st with
    | x :: st' => akdb 2 x && afr S a32 (fun w S' => rec M op.2.1 lv (w :: st') frs S')
    | _ => false
  | 67 => match st with
    | j :: v :: st' => match acell v, aterm j with
      | some (.inl (2, n, _)), some u => zle 0 (trng S.2.1 u).1 && (zlt (trng S.2.1 u).2 (n : Int) && afrL S (fun w S' => rec M op.2.1 lv (w :: st') frs S'))
      | _, _ => false
    | _ => false
  | 68 => match st with
    | x :: j :: v :: st' => match acell v, aterm j with
      | some (.inl (2, n, _)), some u => akdb 2 x && (zle 0 (trng S.2.1 u).1 && (zlt (trng S.2.1 u).2 (n : Int) && ((match (aent v.2.1).2 with
          | [] => ain a32 (aent v.2.1).1
          | _ => false) && (amodA (acW c) v.2.1 && rec M op.2.1 lv st' frs (adropA v.2.1 S.1, S.2.1, S.2.2)))))
      | _, _ => false
    | _ => false
  | 70 => match st with
    | y :: x :: st' => match aterm x, aterm y with
      | some t, some u => Nat.ble (asum st') 8 && afr S (if Nat.beq op.2.2.1 0 then (zmin (trng S.2.1 t).1 (trng S.2.1 u).1, zmin (trng S.2.1 t).2 (trng S.2.1 u).2) else (zmax (trng S.2.1 t).1 (trng S.2.1 u).1, zmax (trng S.2.1 t).2 (trng S.2.1 u).2)) (fun w S' => rec M op.2.1 lv (w :: st') frs S')
      | _, _ => false
    | _ => false
  | 71 => match st with
    | y :: x :: st' => akdb 2 x && (akdb 2 y && (Nat.ble (asum st') 8 && afrL S (fun w S' => rec M op.2.1 lv (w :: st') frs S')))
    | _ => false
  | 72 => match st with
    | x :: st' => akdb 2 x && (Nat.ble (asum st') 8 && (if anz S x then rec M op.2.1 lv ((8, S.2.1.length, 0) :: st') frs (S.1, S.2.1 ++ [a64], (S.2.1.length, 0) :: S.2.2) else afrL S (fun w S' => rec M op.2.1 lv (w :: st') frs S')))
    | _ => false
  | _ => false
noncomputable def ago (T : List aCon) (c : aCon) (g : aRank) (rec : aRec) : aRec := fun M pc lv st frs S => match frs, acf (acC c) pc with
  | [], some q => (match st with
    | [] => acutc lv S g q
    | _ => false)
  | _, _ => match xfind (xMk M) pc with
    | none => false
    | some op => astep T c M rec op lv st frs S
noncomputable def ai (T : List aCon) (c : aCon) (g : aRank) (n : Nat) : aRec := Nat.rec (fun _ _ _ _ _ _ => false) (fun _ ih => ago T c g ih) n
theorem ai_succ (T : List aCon) (c : aCon) (g : aRank) (n : Nat) : ai T c g (n + 1) = ago T c g (ai T c g n) := rfl
noncomputable def arun (T : List aCon) (c : aCon) (g : aRank) (n : Nat) (M : xM) (pc : Nat) (lv : aL) (S : aSt) : Bool := match xfind (xMk M) pc with
  | none => false
  | some op => astep T c M (ai T c g n) op lv [] [] S
def abeg (a : aCut) : aL × aSt := ((albeg a.1 []).1, ((afbeg a.2.1 [] (albeg a.1 []).2).1, (afbeg a.2.1 [] (albeg a.1 []).2).2, []))
noncomputable def achkC (T : List aCon) (c : aCon) (n : Nat) (M : xM) (pc : Nat) : List aCut → Bool
  | [] => true
  | a :: r => aexok (abeg a).1 (abeg a).2 a.2.2.2.1 && aexok (abeg a).1 (abeg a).2 a.2.2.2.2 && arun T c (a.2.2.1, arr (abeg a).1 (abeg a).2 a.2.2.2.1, arr (abeg a).1 (abeg a).2 a.2.2.2.2) n M pc (abeg a).1 (abeg a).2 && achkC T c n M pc r
noncomputable def achkL (T : List aCon) (c : aCon) (n : Nat) (M : xM) : List (Nat × Nat × List aCut) → Bool
  | [] => true
  | q :: r => achkC T c n M q.1 q.2.2 && achkL T c n M r
def azr : aRk := (0, (none, 0), 0)
/-- a contract holds by a run of its method from its start and from each cut -/
noncomputable def achk (T : List aCon) (c : aCon) (n : Nat) : Bool := match xmt[acM c]? with
  | none => false
  | some M => Nat.ble 1 (acD c) && (arun T c (1000000, azr, azr) n M 0 (abeg (aidx 0 (acA c), acP c, 0, (0, 0, 0, 0, 0), (0, 0, 0, 0, 0))).1 (abeg (aidx 0 (acA c), acP c, 0, (0, 0, 0, 0, 0), (0, 0, 0, 0, 0))).2 && achkL T c n M (acC c))
end
section
/-! what abstract things mean, the symbols being ρ -/
def aok (ρ : List Int) (v : aV) (y : yV) : Prop := match v.1 with
  | 0 => y.1 = 0 ∧ w32 y.2 = v.2.2
  | 3 => y.1 = 0 ∧ ∃ x, ρ[v.2.1]? = some x ∧ w32 y.2 = x + v.2.2
  | 1 => y = (1, (v.2.1 : Int))
  | 4 => y.1 = 4 ∧ w64 y.2 = v.2.2
  | 8 => y.1 = 4 ∧ ρ[v.2.1]? = some (w64 y.2)
  | 9 => y.1 = 0 ∧ ∃ x, ρ[v.2.1]? = some x ∧ w32 y.2 = (if v.2.2 < x then 1 else if x = v.2.2 then 0 else -1)
  | _ => False
theorem agrow {ρ σ : List Int} {k : Nat} {x : Int} (h : ρ[k]? = some x) : (ρ ++ σ)[k]? = some x := by
  rw [List.getElem?_append_left (List.getElem?_eq_some_iff.mp h).1]
  exact h
theorem aok_grow {ρ σ : List Int} {v : aV} {y : yV} (h : aok ρ v y) : aok (ρ ++ σ) v y := by
  obtain ⟨t, k, c⟩ := v
  match t, h with
  | 0, h => exact h
  | 1, h => exact h
  | 3, ⟨h1, x, h2, h3⟩ => exact ⟨h1, x, agrow h2, h3⟩
  | 4, h => exact h
  | 8, ⟨h1, h2⟩ => exact ⟨h1, agrow h2⟩
  | 9, ⟨h1, x, h2, h3⟩ => exact ⟨h1, x, agrow h2, h3⟩
  | 2, h | 5, h | 6, h | 7, h => exact h.elim
  | n + 10, h => exact h.elim
def tv (ρ : List Int) (t : aT) (x : Int) : Prop := match t.1 with
  | none => x = t.2
  | some k => ∃ z, ρ[k]? = some z ∧ x = z + t.2
theorem tv_grow {ρ σ : List Int} {t : aT} {x : Int} (h : tv ρ t x) : tv (ρ ++ σ) t x := by
  obtain ⟨k, c⟩ := t
  cases k with
  | none => exact h
  | some k =>
    obtain ⟨z, h1, h2⟩ := h
    exact ⟨z, agrow h1, h2⟩
def aGok (mem : yMem) : Prop := ∀ i j, (agam i j).1 ≤ w32 (mem i j) ∧ w32 (mem i j) ≤ (agam i j).2
def aMok (ρ : List Int) (mp : aMp) (mem : yMem) : Prop := ∀ q ∈ mp, aok ρ q.2 (0, mem q.1.1 q.1.2)
def aIok (ρ : List Int) (iv : aI) : Prop := ρ.length = iv.length ∧ ∀ (k : Nat) (q : Int × Int), iv[k]? = some q → ∃ x, ρ[k]? = some x ∧ q.1 ≤ x ∧ x ≤ q.2
def aNok (ρ : List Int) (ne : aN) : Prop := ∀ q ∈ ne, ∃ x, ρ[q.1]? = some x ∧ x ≠ q.2
def aSat (ρ : List Int) (S : aSt) (mem : yMem) : Prop := aGok mem ∧ aMok ρ S.1 mem ∧ aIok ρ S.2.1 ∧ aNok ρ S.2.2
theorem aiv_ok {ρ : List Int} {iv : aI} (h : aIok ρ iv) {k : Nat} {x : Int} (hx : ρ[k]? = some x) : (aiv iv k).1 ≤ x ∧ x ≤ (aiv iv k).2 := by
  have hl : k < iv.length := by rw [← h.1]; exact (List.getElem?_eq_some_iff.mp hx).1
  have e : iv[k]? = some iv[k] := List.getElem?_eq_getElem hl
  obtain ⟨z, h1, h2, h3⟩ := h.2 k _ e
  rw [hx] at h1
  cases h1
  simp only [aiv, e]
  exact ⟨h2, h3⟩
theorem trng_ok {ρ : List Int} {iv : aI} (h : aIok ρ iv) {t : aT} {x : Int} (ht : tv ρ t x) : (trng iv t).1 ≤ x ∧ x ≤ (trng iv t).2 := by
  obtain ⟨k, c⟩ := t
  cases k with
  | none =>
    have : x = c := ht
    simp only [trng]
    omega
  | some k =>
    obtain ⟨z, h1, h2⟩ := ht
    have := aiv_ok h h1
    dsimp only at h2
    simp only [trng]
    omega
theorem aterm_ok {ρ : List Int} {v : aV} {t : aT} {y : yV} (h : aterm v = some t) (hv : aok ρ v y) : y.1 = 0 ∧ tv ρ t (w32 y.2) := by
  obtain ⟨g, k, c⟩ := v
  match g, h, hv with
  | 0, h, hv => cases h; exact ⟨hv.1, hv.2⟩
  | 3, h, ⟨h1, x, h2, h3⟩ => cases h; exact ⟨h1, x, h2, h3⟩
  | 1, h, _ | 2, h, _ => cases h
  | n + 4, h, _ => cases h
theorem aint {ρ : List Int} {v : aV} {y : yV} (h : akdb 0 v = true) (hv : aok ρ v y) : y.1 = 0 := by
  obtain ⟨g, k, c⟩ := v
  match g, h, hv with
  | 0, _, hv => exact hv.1
  | 3, _, hv => exact hv.1
  | 9, _, hv => exact hv.1
  | 1, h, _ | 2, h, _ | 4, h, _ | 5, h, _ | 6, h, _ | 7, h, _ | 8, h, _ => cases h
  | n + 10, h, _ => cases h
theorem along {ρ : List Int} {v : aV} {y : yV} (h : akdb 2 v = true) (hv : aok ρ v y) : y.1 = 4 := by
  obtain ⟨g, k, c⟩ := v
  match g, h, hv with
  | 4, _, hv => exact hv.1
  | 8, _, hv => exact hv.1
  | 0, h, _ | 1, h, _ | 2, h, _ | 3, h, _ | 5, h, _ | 6, h, _ | 7, h, _ => cases h
  | n + 9, h, _ => cases h
theorem arng_ok {ρ : List Int} {iv : aI} (h : aIok ρ iv) {v : aV} {y : yV} (hk : akdb 0 v = true) (hv : aok ρ v y) : (arng iv v).1 ≤ w32 y.2 ∧ w32 y.2 ≤ (arng iv v).2 := by
  unfold arng
  cases ht : aterm v with
  | some t => exact trng_ok h (aterm_ok ht hv).2
  | none =>
    have h1 := w32_lo y.2
    have h2 := w32_hi y.2
    exact ⟨h1, by show w32 y.2 ≤ 2147483647; omega⟩
theorem aset_ok {ρ : List Int} {iv : aI} (h : aIok ρ iv) {t : aT} {x lo hi : Int} (ht : tv ρ t x) (h1 : lo ≤ x) (h2 : x ≤ hi) : aIok ρ (aset iv t lo hi) := by
  obtain ⟨k, c⟩ := t
  cases k with
  | none => exact h
  | some k =>
    obtain ⟨z, g1, g2⟩ := ht
    dsimp only at g2
    unfold aset
    dsimp only
    cases hk : iv[k]? with
    | none => exact h
    | some q =>
      dsimp only
      refine ⟨by rw [List.length_set]; exact h.1, fun j r hj => ?_⟩
      by_cases e : j = k
      · subst e
        rw [List.getElem?_set_self (List.getElem?_eq_some_iff.mp hk).1] at hj
        cases hj
        obtain ⟨x', g3, g4, g5⟩ := h.2 j q hk
        rw [g1] at g3
        cases g3
        refine ⟨z, g1, ?_, ?_⟩
        · dsimp only; rw [zmax_ok]; omega
        · dsimp only; rw [zmin_ok]; omega
      · rw [List.getElem?_set_ne (Ne.symm e)] at hj
        exact h.2 j r hj
theorem acons_ok {ρ : List Int} {iv : aI} (h : aIok ρ iv) : acons iv = true := by
  have key : ∀ (l : aI), (∀ q ∈ l, q.1 ≤ q.2) → acons l = true := by
    intro l
    induction l with
    | nil => exact fun _ => rfl
    | cons q r ih =>
      intro hq
      simp only [acons, Bool.and_eq_true, zle_ok]
      exact ⟨hq q List.mem_cons_self, ih (fun z hz => hq z (List.mem_cons_of_mem _ hz))⟩
  refine key iv (fun q hq => ?_)
  obtain ⟨k, hk⟩ := List.getElem?_of_mem hq
  obtain ⟨x, -, h2, h3⟩ := h.2 k q hk
  omega
theorem akeep_ok {l : List (Bool × aI × aN)} {o : Bool × aI × aN} (h : o ∈ l) (hc : acons o.2.1 = true) : o ∈ akeep l := by
  induction l with
  | nil => cases h
  | cons q r ih =>
    simp only [akeep]
    rcases List.mem_cons.mp h with rfl | h
    · rw [if_pos hc]
      exact List.mem_cons_self
    · split
      · exact List.mem_cons_of_mem _ (ih h)
      · exact ih h
/-- one of the outcomes is the real one -/
def aOut (ρ : List Int) (l : List (Bool × aI × aN)) (P : Prop) : Prop := ∃ o ∈ l, (o.1 = true ↔ P) ∧ aIok ρ o.2.1 ∧ aNok ρ o.2.2
theorem adifk_ok {ρ : List Int} {iv : aI} {ne : aN} (h : aIok ρ iv) (hn : aNok ρ ne) {k : Nat} {c w : Int} (hw : ρ[k]? = some w) (hc : w ≠ c) : aIok ρ (adifk iv ne k c).1 ∧ aNok ρ (adifk iv ne k c).2 := by
  have hk := aiv_ok h hw
  have htk : tv ρ (some k, 0) w := ⟨w, hw, by dsimp only; omega⟩
  refine ⟨?_, ?_⟩
  · simp only [adifk]
    split
    · next e => rw [zeq_ok] at e; exact aset_ok h htk (by omega) (by omega)
    · split
      · next e => rw [zeq_ok] at e; exact aset_ok h htk (by omega) (by omega)
      · exact h
  · intro q hq
    rcases List.mem_cons.mp hq with rfl | hq
    · exact ⟨w, hw, hc⟩
    · exact hn q hq
theorem aeq_ok {ρ : List Int} {iv : aI} {ne : aN} (h : aIok ρ iv) (hn : aNok ρ ne) {t u : aT} {x y : Int} (ht : tv ρ t x) (hu : tv ρ u y) : aOut ρ (aeq iv ne t u) (x = y) := by
  have ha := trng_ok h ht
  have hb := trng_ok h hu
  unfold aeq
  dsimp only
  split
  · next hc =>
    simp only [Bool.and_eq_true, zle_ok] at hc
    exact ⟨_, List.mem_cons_self, ⟨fun _ => by omega, fun _ => rfl⟩, h, hn⟩
  · split
    · next hc =>
      simp only [Bool.or_eq_true, zlt_ok] at hc
      refine ⟨_, List.mem_cons_self, ⟨fun z => (by cases z), fun z => ?_⟩, h, hn⟩
      exfalso
      rcases hc with hc | hc | hc
      · omega
      · omega
      · obtain ⟨tk, tc⟩ := t
        obtain ⟨uk, uc⟩ := u
        cases tk with
        | none => cases hc
        | some k =>
          cases uk with
          | some _ => cases hc
          | none =>
            simp only [aneq, List.any_eq_true, Bool.and_eq_true, Nat.beq_eq, zeq_ok] at hc
            obtain ⟨q, hq, e1, e2⟩ := hc
            obtain ⟨w, g1, g2⟩ := hn q hq
            obtain ⟨w', g3, g4⟩ := ht
            rw [e1, g3] at g1
            cases g1
            have hu' : y = uc := hu
            dsimp only at g4
            exact g2 (by omega)
    · by_cases hxy : x = y
      · have h2 := aset_ok (aset_ok h ht (lo := (trng iv u).1) (hi := (trng iv u).2) (by omega) (by omega)) hu (lo := (trng iv t).1) (hi := (trng iv t).2) (by omega) (by omega)
        exact ⟨_, akeep_ok List.mem_cons_self (acons_ok h2), ⟨fun _ => hxy, fun _ => rfl⟩, h2, hn⟩
      · have h2 : aIok ρ (adif iv ne t u).1 ∧ aNok ρ (adif iv ne t u).2 := by
          obtain ⟨tk, tc⟩ := t
          obtain ⟨uk, uc⟩ := u
          cases tk with
          | none =>
            cases uk with
            | none => exact ⟨h, hn⟩
            | some k =>
              obtain ⟨w, g3, g4⟩ := hu
              have ht' : x = tc := ht
              dsimp only at g4
              exact adifk_ok h hn g3 (by dsimp only; omega)
          | some k =>
            cases uk with
            | some _ => exact ⟨h, hn⟩
            | none =>
              obtain ⟨w, g3, g4⟩ := ht
              have hu' : y = uc := hu
              dsimp only at g4
              exact adifk_ok h hn g3 (by dsimp only; omega)
        exact ⟨(false, adif iv ne t u), akeep_ok (List.mem_cons_of_mem _ List.mem_cons_self) (acons_ok h2.1), ⟨fun z => (by cases z), fun z => absurd z hxy⟩, h2.1, h2.2⟩
theorem alt_ok {ρ : List Int} {iv : aI} {ne : aN} (h : aIok ρ iv) (hn : aNok ρ ne) {t u : aT} {x y : Int} (ht : tv ρ t x) (hu : tv ρ u y) : aOut ρ (alt iv ne t u) (x < y) := by
  have ha := trng_ok h ht
  have hb := trng_ok h hu
  unfold alt
  dsimp only
  split
  · next hc =>
    rw [zlt_ok] at hc
    exact ⟨_, List.mem_cons_self, ⟨fun _ => by omega, fun _ => rfl⟩, h, hn⟩
  · split
    · next hc =>
      rw [zle_ok] at hc
      exact ⟨_, List.mem_cons_self, ⟨fun z => (by cases z), fun z => absurd z (by omega)⟩, h, hn⟩
    · by_cases hxy : x < y
      · have h2 := aset_ok (aset_ok h ht (lo := (trng iv t).1) (hi := (trng iv u).2 - 1) (by omega) (by omega)) hu (lo := (trng iv t).1 + 1) (hi := (trng iv u).2) (by omega) (by omega)
        exact ⟨_, akeep_ok List.mem_cons_self (acons_ok h2), ⟨fun _ => hxy, fun _ => rfl⟩, h2, hn⟩
      · have h2 := aset_ok (aset_ok h ht (lo := (trng iv u).1) (hi := (trng iv t).2) (by omega) (by omega)) hu (lo := (trng iv u).1) (hi := (trng iv t).2) (by omega) (by omega)
        exact ⟨_, akeep_ok (List.mem_cons_of_mem _ List.mem_cons_self) (acons_ok h2), ⟨fun z => (by cases z), fun z => absurd z hxy⟩, h2, hn⟩
theorem anot_ok {ρ : List Int} {l : List (Bool × aI × aN)} {P : Prop} (h : aOut ρ l P) : aOut ρ (anot l) (¬ P) := by
  obtain ⟨o, ho, h1, h2⟩ := h
  have key : ∀ l : List (Bool × aI × aN), o ∈ l → (!o.1, o.2) ∈ anot l := by
    intro l
    induction l with
    | nil => exact fun z => (by cases z)
    | cons q r ih =>
      intro z
      rcases List.mem_cons.mp z with rfl | z
      · exact List.mem_cons_self
      · exact List.mem_cons_of_mem _ (ih z)
  refine ⟨_, key l ho, ?_, h2⟩
  rw [← h1]
  cases o.1 <;> simp
def relc (c : Nat) (x y : Int) : Prop := match c with
  | 0 => x = y
  | 1 => ¬ x = y
  | 2 => x < y
  | 3 => y ≤ x
  | 4 => y < x
  | _ => x ≤ y
theorem aOut.iff {ρ : List Int} {l : List (Bool × aI × aN)} {P Q : Prop} (h : aOut ρ l P) (hq : P ↔ Q) : aOut ρ l Q := by
  obtain ⟨o, ho, h1, h2⟩ := h
  exact ⟨o, ho, h1.trans hq, h2⟩
theorem acmp_ok {ρ : List Int} {iv : aI} {ne : aN} (h : aIok ρ iv) (hn : aNok ρ ne) {t u : aT} {x y : Int} (ht : tv ρ t x) (hu : tv ρ u y) (c : Nat) : aOut ρ (acmp c iv ne t u) (relc c x y) := by
  match c with
  | 0 => exact aeq_ok h hn ht hu
  | 1 => exact anot_ok (aeq_ok h hn ht hu)
  | 2 => exact alt_ok h hn ht hu
  | 3 => exact (anot_ok (alt_ok h hn ht hu)).iff (by simp only [relc]; omega)
  | 4 => exact alt_ok h hn hu ht
  | n + 5 => exact (anot_ok (alt_ok h hn hu ht)).iff (by simp only [relc]; omega)
theorem ycp_rel (c : Nat) (x y : Int) : ycp c x y ↔ relc c (w32 x) (w32 y) := by
  match c with
  | 0 | 1 | 2 | 3 | 4 => exact Iff.rfl
  | n + 5 => exact Iff.rfl
theorem aall_ok {l : List (Bool × aI × aN)} {f : Bool → aI → aN → Bool} (h : aall l f = true) {o : Bool × aI × aN} (ho : o ∈ l) : f o.1 o.2.1 o.2.2 = true := by
  induction l with
  | nil => cases ho
  | cons q r ih =>
    simp only [aall, Bool.and_eq_true] at h
    rcases List.mem_cons.mp ho with rfl | ho
    · exact h.1
    · exact ih h.2 ho
/-- a new symbol -/
theorem aI_new {ρ : List Int} {iv : aI} (h : aIok ρ iv) {x : Int} {q : Int × Int} (h1 : q.1 ≤ x) (h2 : x ≤ q.2) : aIok (ρ ++ [x]) (iv ++ [q]) ∧ (ρ ++ [x])[iv.length]? = some x := by
  have hx : (ρ ++ [x])[iv.length]? = some x := by
    rw [← h.1, List.getElem?_append_right (Nat.le_refl _)]
    simp
  refine ⟨⟨by simp [h.1], fun k r hk => ?_⟩, hx⟩
  by_cases e : k < iv.length
  · rw [List.getElem?_append_left e] at hk
    obtain ⟨z, g1, g2, g3⟩ := h.2 k r hk
    exact ⟨z, agrow g1, g2, g3⟩
  · have : k < (iv ++ [q]).length := (List.getElem?_eq_some_iff.mp hk).1
    have e2 : k = iv.length := by
      simp at this
      omega
    subst e2
    rw [List.getElem?_append_right (Nat.le_refl _)] at hk
    simp at hk
    subst hk
    exact ⟨x, hx, h1, h2⟩
theorem aM_grow {ρ σ : List Int} {mp : aMp} {mem : yMem} (h : aMok ρ mp mem) : aMok (ρ ++ σ) mp mem := fun q hq => aok_grow (h q hq)
theorem aN_grow {ρ σ : List Int} {ne : aN} (h : aNok ρ ne) : aNok (ρ ++ σ) ne := fun q hq => by
  obtain ⟨x, h1, h2⟩ := h q hq
  exact ⟨x, agrow h1, h2⟩
theorem aS_new {ρ : List Int} {S : aSt} {mem : yMem} (h : aSat ρ S mem) {x : Int} {q : Int × Int} (h1 : q.1 ≤ x) (h2 : x ≤ q.2) : aSat (ρ ++ [x]) (anew S q) mem ∧ (ρ ++ [x])[S.2.1.length]? = some x := by
  obtain ⟨g1, g2, g3, g4⟩ := h
  obtain ⟨k1, k2⟩ := aI_new g3 h1 h2
  exact ⟨⟨g1, aM_grow g2, k1, aN_grow g4⟩, k2⟩
/-! locals and stack -/
theorem acat_ok {ρ : List Int} {v : aV} {y : yV} (h : aok ρ v y) : acat v = ycat y := by
  obtain ⟨g, k, c⟩ := v
  obtain ⟨y1, y2⟩ := y
  match g, h with
  | 0, h => have e : y1 = 0 := h.1; subst e; rfl
  | 3, h => have e : y1 = 0 := h.1; subst e; rfl
  | 9, h => have e : y1 = 0 := h.1; subst e; rfl
  | 1, h => have e : ((y1, y2) : yV) = (1, (k : Int)) := h; cases e; rfl
  | 4, h => have e : y1 = 4 := h.1; subst e; rfl
  | 8, h => have e : y1 = 4 := h.1; subst e; rfl
  | 2, h | 5, h | 6, h | 7, h => exact h.elim
  | n + 10, h => exact h.elim
def aLm (ρ : List Int) : aL → yL → Prop
  | [], [] => True
  | q :: r, p :: s => q.1 = p.1 ∧ aok ρ q.2 p.2 ∧ aLm ρ r s
  | _, _ => False
def aSm (ρ : List Int) : List aV → List yV → Prop
  | [], [] => True
  | v :: r, y :: s => aok ρ v y ∧ aSm ρ r s
  | _, _ => False
theorem aLm_grow {ρ σ : List Int} : ∀ {lv : aL} {l : yL}, aLm ρ lv l → aLm (ρ ++ σ) lv l
  | [], [], _ => trivial
  | _ :: _, _ :: _, h => ⟨h.1, aok_grow h.2.1, aLm_grow h.2.2⟩
  | [], _ :: _, h => h.elim
  | _ :: _, [], h => h.elim
theorem aSm_grow {ρ σ : List Int} : ∀ {st : List aV} {l : List yV}, aSm ρ st l → aSm (ρ ++ σ) st l
  | [], [], _ => trivial
  | _ :: _, _ :: _, h => ⟨aok_grow h.1, aSm_grow h.2⟩
  | [], _ :: _, h => h.elim
  | _ :: _, [], h => h.elim
theorem alk_ok {ρ : List Int} {i : Nat} {v : aV} : ∀ {lv : aL} {l : yL}, aLm ρ lv l → alk lv i = some v → ∃ y, ylk l i = some y ∧ aok ρ v y
  | [], [], _, h => by cases h
  | q :: r, p :: s, hm, h => by
    simp only [alk] at h
    split at h
    · next he =>
      cases h
      refine ⟨p.2, ?_, hm.2.1⟩
      simp only [ylk]
      rw [← hm.1, if_pos he]
    · next he =>
      obtain ⟨y, h1, h2⟩ := alk_ok hm.2.2 h
      refine ⟨y, ?_, h2⟩
      simp only [ylk]
      rw [← hm.1, if_neg he]
      exact h1
  | [], _ :: _, hm, _ => hm.elim
  | _ :: _, [], hm, _ => hm.elim
theorem aflt_ok {ρ : List Int} {k i : Nat} : ∀ {lv : aL} {l : yL}, aLm ρ lv l → aLm ρ (aflt k i lv) (l.filter (yflb k i))
  | [], [], _ => trivial
  | q :: r, p :: s, hm => by
    have e : aflb k i q = yflb k i p := by
      match k with
      | 0 | 1 => simp only [aflb, yflb, hm.1, acat_ok hm.2.1]
      | 2 => simp only [aflb, yflb, hm.1, acat_ok hm.2.1]
      | n + 3 => simp only [aflb, yflb, hm.1, acat_ok hm.2.1]
    simp only [aflt, List.filter_cons]
    rw [e]
    split
    · exact ⟨hm.1, hm.2.1, aflt_ok hm.2.2⟩
    · exact aflt_ok hm.2.2
  | [], _ :: _, hm => hm.elim
  | _ :: _, [], hm => hm.elim
theorem aSm_len {ρ : List Int} : ∀ {st : List aV} {l : List yV}, aSm ρ st l → st.length = l.length
  | [], [], _ => rfl
  | _ :: _, _ :: _, h => by simp [aSm_len h.2]
  | [], _ :: _, h => h.elim
  | _ :: _, [], h => h.elim
theorem aSm_drop {ρ : List Int} : ∀ (n : Nat) {st : List aV} {l : List yV}, aSm ρ st l → aSm ρ (st.drop n) (l.drop n)
  | 0, _, _, h => h
  | n + 1, [], [], _ => trivial
  | n + 1, _ :: _, _ :: _, h => aSm_drop n h.2
  | _ + 1, [], _ :: _, h => h.elim
  | _ + 1, _ :: _, [], h => h.elim
theorem aSm_take {ρ : List Int} : ∀ (n : Nat) {st : List aV} {l : List yV}, aSm ρ st l → aSm ρ (st.take n) (l.take n)
  | 0, _, _, _ => trivial
  | n + 1, [], [], _ => trivial
  | n + 1, _ :: _, _ :: _, h => ⟨h.1, aSm_take n h.2⟩
  | _ + 1, [], _ :: _, h => h.elim
  | _ + 1, _ :: _, [], h => h.elim
theorem aSm_app {ρ : List Int} {b : List aV} {d : List yV} (hb : aSm ρ b d) : ∀ {a : List aV} {c : List yV}, aSm ρ a c → aSm ρ (a ++ b) (c ++ d)
  | [], [], _ => hb
  | _ :: _, _ :: _, h => ⟨h.1, aSm_app hb h.2⟩
  | [], _ :: _, h => h.elim
  | _ :: _, [], h => h.elim
theorem aSm_rev {ρ : List Int} : ∀ {a : List aV} {c : List yV}, aSm ρ a c → aSm ρ a.reverse c.reverse
  | [], [], _ => trivial
  | v :: r, y :: s, h => by
    rw [List.reverse_cons, List.reverse_cons]
    exact aSm_app (b := [v]) (d := [y]) ⟨h.1, trivial⟩ (aSm_rev h.2)
  | [], _ :: _, h => h.elim
  | _ :: _, [], h => h.elim
theorem asum_ok {ρ : List Int} : ∀ {a : List aV} {c : List yV}, aSm ρ a c → asum a = ysum c
  | [], [], _ => rfl
  | _ :: _, _ :: _, h => by simp only [asum, ysum, acat_ok h.1, asum_ok h.2]
  | [], _ :: _, h => h.elim
  | _ :: _, [], h => h.elim
theorem aargl_ok {ρ : List Int} : ∀ (i : Nat) {a : List aV} {c : List yV}, aSm ρ a c → aLm ρ (aargl i a) (yargs i c)
  | _, [], [], _ => trivial
  | i, _ :: _, _ :: _, h => by
    refine ⟨rfl, h.1, ?_⟩
    rw [acat_ok h.1]
    exact aargl_ok _ h.2
  | _, [], _ :: _, h => h.elim
  | _, _ :: _, [], h => h.elim
end
section
/-! the operations -/
def aGets (ρ : List Int) (mem : yMem) (y : yV) (k : aV → aSt → Bool) : Prop := ∃ (σ : List Int) (v : aV) (S' : aSt), k v S' = true ∧ aSat (ρ ++ σ) S' mem ∧ aok (ρ ++ σ) v y
theorem aGets.here {ρ : List Int} {S : aSt} {mem : yMem} {y : yV} {k : aV → aSt → Bool} {v : aV} (h : k v S = true) (hS : aSat ρ S mem) (hv : aok ρ v y) : aGets ρ mem y k := ⟨[], v, S, h, by rw [List.append_nil]; exact hS, by rw [List.append_nil]; exact hv⟩
theorem afr_ok {ρ : List Int} {S : aSt} {mem : yMem} {q : Int × Int} {k : aV → aSt → Bool} {z : Int} (h : afr S q k = true) (hS : aSat ρ S mem) (h1 : q.1 ≤ w32 z) (h2 : w32 z ≤ q.2) : aGets ρ mem (0, z) k := by
  obtain ⟨g1, g2⟩ := aS_new hS h1 h2
  exact ⟨[w32 z], _, _, h, g1, rfl, w32 z, g2, by show w32 z = w32 z + 0; omega⟩
theorem afr32_ok {ρ : List Int} {S : aSt} {mem : yMem} {k : aV → aSt → Bool} {z : Int} (h : afr S a32 k = true) (hS : aSat ρ S mem) : aGets ρ mem (0, z) k := by
  have h1 := w32_lo z
  have h2 := w32_hi z
  exact afr_ok h hS h1 (by show w32 z ≤ 2147483647; omega)
theorem afit_ok {ρ : List Int} {S : aSt} {mem : yMem} {q : Int × Int} {k : aV → aSt → Bool} {z : Int} (h : afit S q k = true) (hS : aSat ρ S mem) (h1 : ain q a32 = true → q.1 ≤ w32 z ∧ w32 z ≤ q.2) : aGets ρ mem (0, z) k := by
  unfold afit at h
  split at h
  · next hc => exact afr_ok h hS (h1 hc).1 (h1 hc).2
  · exact afr32_ok h hS
theorem afrL_ok {ρ : List Int} {S : aSt} {mem : yMem} {k : aV → aSt → Bool} {z : Int} (h : afrL S k = true) (hS : aSat ρ S mem) : aGets ρ mem (4, z) k := by
  have h1 := w64_lo z
  have h2 := w64_hi z
  obtain ⟨g1, g2⟩ := aS_new hS (q := a64) (x := w64 z) h1 (by show w64 z ≤ 9223372036854775807; omega)
  exact ⟨[w64 z], _, _, h, g1, rfl, g2⟩
theorem amlk_ok {mp : aMp} {i j : Nat} {v : aV} (h : amlk mp i j = some v) : ((i, j), v) ∈ mp := by
  induction mp with
  | nil => cases h
  | cons q r ih =>
    simp only [amlk] at h
    split at h
    · next he =>
      simp only [Bool.and_eq_true, Nat.beq_eq] at he
      cases h
      obtain ⟨⟨a, b⟩, w⟩ := q
      obtain ⟨rfl, rfl⟩ := he
      exact List.mem_cons_self
    · exact List.mem_cons_of_mem _ (ih h)
theorem ardS_ok {ρ : List Int} {S : aSt} {mem : yMem} {i j : Nat} {k : aV → aSt → Bool} (h : ardS S i j k = true) (hS : aSat ρ S mem) : aGets ρ mem (0, mem i j) k := by
  unfold ardS at h
  split at h
  · next v hv => exact aGets.here h hS (hS.2.1 _ (amlk_ok hv))
  · have hg := hS.1 i j
    obtain ⟨g1, g2⟩ := aS_new hS (q := agam i j) (x := w32 (mem i j)) hg.1 hg.2
    have hv : aok (ρ ++ [w32 (mem i j)]) (3, S.2.1.length, 0) (0, mem i j) := ⟨rfl, _, g2, by show w32 (mem i j) = w32 (mem i j) + 0; omega⟩
    refine ⟨[w32 (mem i j)], _, _, h, ⟨g1.1, fun q hq => ?_, g1.2.2⟩, hv⟩
    rcases List.mem_cons.mp hq with rfl | hq
    · exact hv
    · exact g1.2.1 q hq
theorem w32_add (x y : Int) : w32 (x + y) = w32 (w32 x + w32 y) := by
  show (iI (x + y)).toInt = (iI (w32 x + w32 y)).toInt
  rw [show iI (x + y) = iI x + iI y from Int32.ofInt_add x y, show iI (w32 x + w32 y) = iI (w32 x) + iI (w32 y) from Int32.ofInt_add _ _, iI_w, iI_w]
theorem w32_sub (x y : Int) : w32 (x - y) = w32 (w32 x - w32 y) := by
  show (iI (x - y)).toInt = (iI (w32 x - w32 y)).toInt
  rw [show iI (x - y) = iI x - iI y from Int32.ofInt_sub x y, show iI (w32 x - w32 y) = iI (w32 x) - iI (w32 y) from Int32.ofInt_sub _ _, iI_w, iI_w]
theorem w32_mul (x y : Int) : w32 (x * y) = w32 (w32 x * w32 y) := by
  show (iI (x * y)).toInt = (iI (w32 x * w32 y)).toInt
  rw [show iI (x * y) = iI x * iI y from Int32.ofInt_mul x y, show iI (w32 x * w32 y) = iI (w32 x) * iI (w32 y) from Int32.ofInt_mul _ _, iI_w, iI_w]
theorem iI_nat {x : Int} (h : 0 ≤ w32 x) : iI x = nI (w32 x).toNat := by
  rw [← iI_n, Int.toNat_of_nonneg h, iI_w]
theorem nI_t {n : Nat} (h : n < 2147483648) : (nI n).toInt = (n : Int) := nI_toInt (by omega)
theorem y_and {x y : Int} (h : 0 ≤ w32 y) : 0 ≤ (fbin 3 (iI x) (iI y)).toInt ∧ (fbin 3 (iI x) (iI y)).toInt ≤ w32 y := by
  have h2 := w32_hi y
  have e1 : iI x = nI ((iI x).toBitVec.toNat) := by
    apply Int32.toBitVec_inj.mp
    rw [nI_bv]
    simp
  rw [e1, iI_nat h]
  have e2 : fbin 3 (nI (iI x).toBitVec.toNat) (nI (w32 y).toNat) = nI (Nat.land (iI x).toBitVec.toNat (w32 y).toNat) := xbin_ok (o := 3) rfl
  rw [e2]
  have h3 : Nat.land (iI x).toBitVec.toNat (w32 y).toNat ≤ (w32 y).toNat := Nat.and_le_right
  rw [nI_t (by omega)]
  omega
theorem fbin3_comm (a b : Int32) : fbin 3 a b = fbin 3 b a := Int32.and_comm a b
theorem a2p_ok : ∀ (n : Nat) (b : Int), a2p n b = b * 2 ^ n
  | 0, b => by simp [a2p]
  | n + 1, b => by
    rw [a2p, a2p_ok n (b + b), Int.pow_succ]
    rw [← Int.two_mul, Int.mul_comm (2 ^ n : Int) 2, ← Int.mul_assoc, Int.mul_comm b 2]
theorem aones_ok {h : Int} : ∀ (n : Nat) (k : Nat) (b : Int) {r : Int}, b = 2 ^ k → aones h n b = some r → k + n ≤ 31 → ∃ j, j < 31 ∧ r = 2 ^ j - 1 ∧ h ≤ r
  | 0, k, b, r, hb, e, hk => by cases e
  | n + 1, k, b, r, hb, e, hk => by
    simp only [aones] at e
    split at e
    · next hc =>
      rw [zlt_ok] at hc
      cases e
      exact ⟨k, by omega, by rw [hb], by omega⟩
    · refine aones_ok n (k + 1) (b + b) ?_ e (by omega)
      rw [hb, Int.pow_succ]
      omega
theorem y_or {x y : Int} {k : Nat} (hk : k < 31) (hx : 0 ≤ w32 x) (hy : 0 ≤ w32 y) (h1 : w32 x ≤ 2 ^ k - 1) (h2 : w32 y ≤ 2 ^ k - 1) : 0 ≤ (fbin 4 (iI x) (iI y)).toInt ∧ (fbin 4 (iI x) (iI y)).toInt ≤ 2 ^ k - 1 := by
  rw [iI_nat hx, iI_nat hy]
  have e2 : fbin 4 (nI (w32 x).toNat) (nI (w32 y).toNat) = nI (Nat.lor (w32 x).toNat (w32 y).toNat) := xbin_ok (o := 4) rfl
  rw [e2]
  have hp : ((2 ^ k : Nat) : Int) = 2 ^ k := by simp
  have h3 : Nat.lor (w32 x).toNat (w32 y).toNat < 2 ^ k := Nat.or_lt_two_pow (by omega) (by omega)
  have h4 : 2 ^ k ≤ 2 ^ 30 := Nat.pow_le_pow_right (by omega) (by omega)
  rw [nI_t (by omega)]
  omega
theorem y_shl1 {x y : Int} (hx : w32 x = 1) (h1 : 0 ≤ w32 y) (h2 : w32 y ≤ 20) : (fbin 6 (iI x) (iI y)).toInt = 2 ^ (w32 y).toNat := by
  have e1 : iI x = nI 1 := by rw [iI_nat (by omega), hx]; rfl
  rw [e1, iI_nat h1]
  have key : ∀ n : Fin 21, (fbin 6 (nI 1) (nI n.val)).toInt = 2 ^ n.val := by decide +kernel
  exact key ⟨(w32 y).toNat, by omega⟩
theorem y_shr {x y : Int} (hx : 0 ≤ w32 x) : 0 ≤ (fbin 7 (iI x) (iI y)).toInt ∧ (fbin 7 (iI x) (iI y)).toInt ≤ w32 x := by
  have h2 := w32_hi x
  rw [iI_nat hx]
  have e : fbin 7 (nI (w32 x).toNat) (iI y) = nI ((w32 x).toNat / 2 ^ ((iI y &&& 31).toBitVec.smod 32).toNat) := pk_shrN (by omega) _ _ rfl
  rw [e]
  have h3 : (w32 x).toNat / 2 ^ ((iI y &&& 31).toBitVec.smod 32).toNat ≤ (w32 x).toNat := Nat.div_le_self _ _
  generalize (w32 x).toNat / 2 ^ ((iI y &&& 31).toBitVec.smod 32).toNat = q at h3 ⊢
  rw [nI_t (by omega)]
  omega
theorem y_div {x y : Int} (hx : 0 ≤ w32 x) (hy : 1 ≤ w32 y) : (fbin 9 (iI x) (iI y)).toInt = w32 x / w32 y := by
  have h2 := w32_hi x
  have h3 := w32_hi y
  rw [iI_nat hx, iI_nat (show 0 ≤ w32 y by omega)]
  have e : fbin 9 (nI (w32 x).toNat) (nI (w32 y).toNat) = nI ((w32 x).toNat / (w32 y).toNat) := pk_div (by omega) (by omega) (by omega)
  rw [e]
  have h4 : (w32 x).toNat / (w32 y).toNat ≤ (w32 x).toNat := Nat.div_le_self _ _
  rw [nI_t (by omega), Int.natCast_ediv]
  congr 1 <;> omega
theorem y_rem {x y : Int} (hx : 0 ≤ w32 x) (hy : 1 ≤ w32 y) : (fbin 10 (iI x) (iI y)).toInt = w32 x % w32 y := by
  have h2 := w32_hi x
  have h3 := w32_hi y
  rw [iI_nat hx, iI_nat (show 0 ≤ w32 y by omega)]
  have e : fbin 10 (nI (w32 x).toNat) (nI (w32 y).toNat) = nI ((w32 x).toNat % (w32 y).toNat) := pk_rem (by omega) (by omega) (by omega)
  rw [e]
  have h4 : (w32 x).toNat % (w32 y).toNat < (w32 y).toNat := Nat.mod_lt _ (by omega)
  rw [nI_t (by omega), Int.natCast_emod]
  congr 1 <;> omega
theorem ain_ok {q r : Int × Int} : ain q r = true ↔ r.1 ≤ q.1 ∧ q.2 ≤ r.2 := by
  unfold ain
  rw [Bool.and_eq_true, zle_ok, zle_ok]
theorem a64_no : ¬ ain a64 a32 = true := by decide
/-- a result is within its interval -/
theorem abinr_ok {o : Nat} {a b : Int × Int} {x y : Int} (ha1 : a.1 ≤ w32 x) (ha2 : w32 x ≤ a.2) (hb1 : b.1 ≤ w32 y) (hb2 : w32 y ≤ b.2) (h : ain (abinr o a b) a32 = true) : (abinr o a b).1 ≤ w32 (ybin o x y) ∧ w32 (ybin o x y) ≤ (abinr o a b).2 := by
  have wt : ∀ z : Int32, w32 z.toInt = z.toInt := fun z => by
    have h1 := Int32.le_toInt z
    have h2 := Int32.toInt_lt z
    exact w32_of (by simpa using h1) (by simpa using h2)
  match o, h with
  | 0, h =>
    rw [ain_ok] at h
    simp only [abinr, a32] at h ⊢
    show _ ≤ w32 (x + y) ∧ w32 (x + y) ≤ _
    rw [w32_add, w32_of (by omega) (by omega)]
    omega
  | 1, h =>
    rw [ain_ok] at h
    simp only [abinr, a32] at h ⊢
    show _ ≤ w32 (x - y) ∧ w32 (x - y) ≤ _
    rw [w32_sub, w32_of (by omega) (by omega)]
    omega
  | 2, h =>
    simp only [abinr] at h ⊢
    split
    · next hc =>
      rw [if_pos hc, ain_ok] at h
      simp only [Bool.and_eq_true, zle_ok] at hc
      simp only [a32] at h
      show a.1 * b.1 ≤ w32 (x * y) ∧ w32 (x * y) ≤ a.2 * b.2
      have m1 : a.1 * b.1 ≤ w32 x * w32 y := Int.mul_le_mul ha1 hb1 hc.2 (by omega)
      have m2 : w32 x * w32 y ≤ a.2 * b.2 := Int.mul_le_mul ha2 hb2 (by omega) (by omega)
      rw [w32_mul, w32_of (by omega) (by omega)]
      exact ⟨m1, m2⟩
    · next hc =>
      rw [if_neg hc] at h
      exact absurd h a64_no
  | 3, h =>
    simp only [abinr] at h ⊢
    rw [show w32 (ybin 3 x y) = (fbin 3 (iI x) (iI y)).toInt from wt _]
    split
    · next hc =>
      rw [zle_ok] at hc
      have := y_and (x := x) (y := y) (by omega)
      exact ⟨this.1, by omega⟩
    · next hc =>
      rw [if_neg hc] at h
      split
      · next hc2 =>
        rw [zle_ok] at hc2
        have := y_and (x := y) (y := x) (by omega)
        rw [fbin3_comm]
        exact ⟨this.1, by omega⟩
      · next hc2 =>
        rw [if_neg hc2] at h
        exact absurd h a64_no
  | 4, h =>
    simp only [abinr] at h ⊢
    rw [show w32 (ybin 4 x y) = (fbin 4 (iI x) (iI y)).toInt from wt _]
    split
    · next hc =>
      rw [if_pos hc] at h
      simp only [Bool.and_eq_true, zle_ok] at hc
      cases hr : aones (zmax a.2 b.2) 21 1 with
      | none =>
        rw [hr] at h
        exact absurd h a64_no
      | some r =>
        dsimp only
        obtain ⟨j, hj, e, hm⟩ := aones_ok 21 0 1 (by simp) hr (by omega)
        rw [zmax_ok] at hm
        rw [e] at hm ⊢
        exact y_or (x := x) (y := y) hj (by omega) (by omega) (by omega) (by omega)
    · next hc =>
      rw [if_neg hc] at h
      exact absurd h a64_no
  | 6, h =>
    simp only [abinr] at h ⊢
    rw [show w32 (ybin 6 x y) = (fbin 6 (iI x) (iI y)).toInt from wt _]
    split
    · next hc =>
      simp only [Bool.and_eq_true, zle_ok, zeq_ok] at hc
      rw [y_shl1 (by omega) (by omega) (by omega), a2p_ok, Int.one_mul]
      have h1 : (2 : Nat) ^ (w32 y).toNat ≤ 2 ^ b.2.toNat := Nat.pow_le_pow_right (by omega) (by omega)
      have h2 : 1 ≤ (2 : Nat) ^ (w32 y).toNat := Nat.one_le_two_pow
      have e1 : ((2 : Nat) ^ (w32 y).toNat : Nat) = ((2 : Int) ^ (w32 y).toNat) := by simp
      have e2 : ((2 : Nat) ^ b.2.toNat : Nat) = ((2 : Int) ^ b.2.toNat) := by simp
      rw [← e1, ← e2]
      dsimp only
      omega
    · next hc =>
      rw [if_neg hc] at h
      exact absurd h a64_no
  | 7, h =>
    simp only [abinr] at h ⊢
    rw [show w32 (ybin 7 x y) = (fbin 7 (iI x) (iI y)).toInt from wt _]
    split
    · next hc =>
      rw [zle_ok] at hc
      have := y_shr (x := x) (y := y) (by omega)
      exact ⟨this.1, by dsimp only; omega⟩
    · next hc =>
      rw [if_neg hc] at h
      exact absurd h a64_no
  | 9, h =>
    simp only [abinr] at h ⊢
    rw [show w32 (ybin 9 x y) = (fbin 9 (iI x) (iI y)).toInt from wt _]
    split
    · next hc =>
      simp only [Bool.and_eq_true, zle_ok] at hc
      rw [y_div (by omega) (by omega)]
      have h1 : 0 ≤ w32 x / w32 y := Int.ediv_nonneg (by omega) (by omega)
      have h2 : w32 x / w32 y ≤ w32 x := Int.ediv_le_self _ (by omega)
      refine ⟨h1, ?_⟩
      dsimp only
      split
      · next he =>
        rw [zeq_ok] at he
        have e : w32 y = b.1 := by omega
        rw [e]
        exact Int.ediv_le_ediv (by omega) ha2
      · omega
    · next hc =>
      rw [if_neg hc] at h
      exact absurd h a64_no
  | 10, h =>
    simp only [abinr] at h ⊢
    rw [show w32 (ybin 10 x y) = (fbin 10 (iI x) (iI y)).toInt from wt _]
    split
    · next hc =>
      simp only [Bool.and_eq_true, zle_ok] at hc
      rw [y_rem (by omega) (by omega)]
      have h1 : 0 ≤ w32 x % w32 y := Int.emod_nonneg _ (by omega)
      have h2 : w32 x % w32 y < w32 y := Int.emod_lt_of_pos _ (by omega)
      exact ⟨h1, by dsimp only; omega⟩
    · next hc =>
      rw [if_neg hc] at h
      exact absurd h a64_no
  | 5, h => exact absurd h a64_no
  | 8, h => exact absurd h a64_no
  | n + 11, h => exact absurd h a64_no
theorem aneq_ok {ρ : List Int} {ne : aN} (hn : aNok ρ ne) {t : aT} {x c : Int} (ht : tv ρ t x) (h : aneq ne t (none, c) = true) : x ≠ c := by
  obtain ⟨tk, tc⟩ := t
  cases tk with
  | none => cases h
  | some k =>
    simp only [aneq, List.any_eq_true, Bool.and_eq_true, Nat.beq_eq, zeq_ok] at h
    obtain ⟨q, hq, e1, e2⟩ := h
    obtain ⟨w, g1, g2⟩ := hn q hq
    obtain ⟨w', g3, g4⟩ := ht
    rw [e1, g3] at g1
    cases g1
    dsimp only at g4
    intro z
    exact g2 (by omega)
theorem abin_ok {ρ : List Int} {S : aSt} {mem : yMem} {o : Nat} {x y : aV} {zx zy : Int} {k : aV → aSt → Bool} (h : abin S o x y k = true) (hS : aSat ρ S mem) {yx yy : yV} (hx : aok ρ x yx) (hy : aok ρ y yy) (ex : yx.2 = zx) (ey : yy.2 = zy) : yx.1 = 0 ∧ yy.1 = 0 ∧ ((o = 9 ∨ o = 10) → ¬ w32 zy = 0) ∧ aGets ρ mem (0, ybin o zx zy) k := by
  subst ex
  subst ey
  unfold abin at h
  split at h
  · next t u ht hu =>
    obtain ⟨x1, x2⟩ := aterm_ok ht hx
    obtain ⟨y1, y2⟩ := aterm_ok hu hy
    have ha := trng_ok hS.2.2.1 x2
    have hb := trng_ok hS.2.2.1 y2
    refine ⟨x1, y1, ?_⟩
    dsimp only at h
    split at h
    · cases h
    · next hd =>
      refine ⟨fun ho z => hd ?_, ?_⟩
      · simp only [Bool.and_eq_true, Bool.or_eq_true, Nat.beq_eq, zle_ok, Bool.not_eq_true']
        refine ⟨⟨ho, by omega, by omega⟩, ?_⟩
        cases hh : aneq S.2.2 u (none, 0) with
        | false => rfl
        | true => exact absurd z (aneq_ok hS.2.2.2 y2 hh)
      · split at h
        · next hu1 =>
          obtain ⟨uk, uc⟩ := u
          dsimp only at hu1
          subst hu1
          have ey : w32 yy.2 = uc := y2
          dsimp only at h
          split at h
          · next hc =>
            rw [ain_ok] at hc
            simp only [a32] at hc
            have ev : w32 (ybin 0 yx.2 yy.2) = w32 yx.2 + uc := by
              show w32 (yx.2 + yy.2) = _
              rw [w32_add, ey, w32_of (by omega) (by omega)]
            obtain ⟨tk, tc⟩ := t
            cases tk with
            | none =>
              have et : w32 yx.2 = tc := x2
              exact aGets.here h hS ⟨rfl, by rw [ev, et]⟩
            | some s =>
              obtain ⟨z, g1, g2⟩ := x2
              exact aGets.here h hS ⟨rfl, z, g1, by rw [ev, g2]; dsimp only; omega⟩
          · exact afr32_ok h hS
        · next hu1 =>
          obtain ⟨uk, uc⟩ := u
          dsimp only at hu1
          subst hu1
          have ey : w32 yy.2 = uc := y2
          dsimp only at h
          split at h
          · next hc =>
            rw [ain_ok] at hc
            simp only [a32] at hc
            have ev : w32 (ybin 1 yx.2 yy.2) = w32 yx.2 - uc := by
              show w32 (yx.2 - yy.2) = _
              rw [w32_sub, ey, w32_of (by omega) (by omega)]
            obtain ⟨tk, tc⟩ := t
            cases tk with
            | none =>
              have et : w32 yx.2 = tc := x2
              exact aGets.here h hS ⟨rfl, by rw [ev, et]⟩
            | some s =>
              obtain ⟨z, g1, g2⟩ := x2
              exact aGets.here h hS ⟨rfl, z, g1, by rw [ev, g2]; dsimp only; omega⟩
          · exact afr32_ok h hS
        · exact afit_ok h hS (fun hc => abinr_ok ha.1 ha.2 hb.1 hb.2 hc)
  · cases h
end
section
/-! contracts -/
def aArgOk (a : aArg) (y : yV) : Prop := match a.1 with
  | 0 => y.1 = 0 ∧ w32 y.2 = a.2.2.1
  | 3 => y.1 = 0 ∧ a.2.2.1 ≤ w32 y.2 ∧ w32 y.2 ≤ a.2.2.2
  | 1 => y = (1, (a.2.1 : Int))
  | 8 => y.1 = 4
  | _ => False
def aArgsOk : List aArg → List yV → Prop
  | [], [] => True
  | a :: r, y :: s => aArgOk a y ∧ aArgsOk r s
  | _, _ => False
def aFok (f : aFct) (mem : yMem) : Prop := ∀ q ∈ f, q.2.1 ≤ w32 (mem q.1.1 q.1.2) ∧ w32 (mem q.1.1 q.1.2) ≤ q.2.2
def aFrm (w : List (Nat × Nat)) (mem mem' : yMem) : Prop := ∀ i j, amod w i j = false → mem' i j = mem i j
def aRetOk (a : aArg) (r : Option yV) : Prop := match r with
  | none => a.1 = 99
  | some y => aArgOk a y
def aEnd (Om : yMem → Prop) (c : aCon) (mem0 : yMem) (r : Option yV) (mem' : yMem) : Prop := aRetOk (acR c) r ∧ aGok mem' ∧ Om mem' ∧ aFrm (acW c) mem0 mem' ∧ aFok (acQ c) mem'
/-- THE CONTRACT holds -/
def aSnd (Om : yMem → Prop) (c : aCon) : Prop := ∀ (E : yE), yEok E → ∀ D : Nat, acD c ≤ D → ∀ M : xM, xmt[acM c]? = some M → ∀ (args : List yV) (mem : yMem) (Q : Option yV → yMem → Prop), aArgsOk (acA c) args → aGok mem → Om mem → aFok (acP c) mem → (∀ r mem', aEnd Om c mem r mem' → Q r mem') → yCon E D M args mem Q
def adis (oc : List Nat) (w : List (Nat × Nat)) : Bool := w.all (fun q => !(oc.any (fun i => Nat.beq q.1 i)))
def aOmF (oc : List Nat) (Om : yMem → Prop) : Prop := ∀ mem mem' : yMem, (∀ i j, i ∈ oc → mem' i j = mem i j) → Om mem → Om mem'
theorem amod_dis {oc : List Nat} {i j : Nat} (hi : i ∈ oc) : ∀ {w : List (Nat × Nat)}, adis oc w = true → amod w i j = false
  | [], _ => rfl
  | q :: r, h => by
    simp only [adis, List.all_cons, Bool.and_eq_true, Bool.not_eq_true'] at h
    simp only [amod, Bool.or_eq_false_iff, Bool.and_eq_false_iff]
    refine ⟨Or.inl ?_, amod_dis hi h.2⟩
    have h1 := h.1
    rw [List.any_eq_false] at h1
    have := h1 i hi
    cases hh : Nat.beq q.1 i with
    | false => rfl
    | true => rw [hh] at this; exact absurd rfl this
theorem aFrm_Om {oc : List Nat} {Om : yMem → Prop} (hO : aOmF oc Om) {w : List (Nat × Nat)} (hd : adis oc w = true) {mem mem' : yMem} (hf : aFrm w mem mem') (h : Om mem) : Om mem' := hO mem mem' (fun i j hi => hf i j (amod_dis hi hd)) h
theorem aFrm_refl {w : List (Nat × Nat)} {mem : yMem} : aFrm w mem mem := fun _ _ _ => rfl
theorem amodA_mod {w : List (Nat × Nat)} {i : Nat} (j : Nat) (h : amodA w i = true) : amod w i j = true := by
  induction w with
  | nil => cases h
  | cons q r ih =>
    simp only [amodA, Bool.or_eq_true, Bool.and_eq_true] at h
    simp only [amod, Bool.or_eq_true, Bool.and_eq_true]
    rcases h with h | h
    · exact Or.inl ⟨h.1, Or.inl h.2⟩
    · exact Or.inr (ih h)
theorem amsub_ok {a b : List (Nat × Nat)} (h : amsub a b = true) {i j : Nat} (hm : amod a i j = true) : amod b i j = true := by
  induction a with
  | nil => cases hm
  | cons q r ih =>
    simp only [amsub, Bool.and_eq_true] at h
    simp only [amod, Bool.or_eq_true, Bool.and_eq_true, Nat.beq_eq] at hm
    rcases hm with ⟨e1, e2⟩ | hm
    · obtain ⟨q1, q2⟩ := q
      dsimp only at e1 e2 h
      subst e1
      cases q2 with
      | zero => exact amodA_mod j h.1
      | succ k =>
        rcases e2 with e2 | e2
        · omega
        · have : k = j := by omega
          subst this
          exact h.1
    · exact ih h.2 hm
theorem aFrm_sub {a b : List (Nat × Nat)} (h : amsub a b = true) {mem0 mem mem' : yMem} (h0 : aFrm b mem0 mem) (h1 : aFrm a mem mem') : aFrm b mem0 mem' := fun i j hm => by
  rw [h1 i j, h0 i j hm]
  cases hh : amod a i j with
  | false => rfl
  | true => rw [amsub_ok h hh] at hm; cases hm
theorem aok_int {ρ : List Int} {v : aV} {z : Int} (h : aok ρ v (0, z)) : akdb 0 v = true := by
  obtain ⟨g, k, c⟩ := v
  match g, h with
  | 0, _ => rfl
  | 3, _ => rfl
  | 9, _ => rfl
  | 1, h =>
    have h : ((0, z) : yV) = (1, (k : Int)) := h
    cases h
  | 4, h => have h : (0 : Nat) = 4 := h.1; cases h
  | 8, h => have h : (0 : Nat) = 4 := h.1; cases h
  | 2, h | 5, h | 6, h | 7, h => exact h.elim
  | n + 10, h => exact h.elim
theorem aslot_ok {ρ : List Int} {S : aSt} {mem : yMem} (hS : aSat ρ S mem) (i j : Nat) : (aslot S i j).1 ≤ w32 (mem i j) ∧ w32 (mem i j) ≤ (aslot S i j).2 := by
  unfold aslot
  split
  · next v hv =>
    have := hS.2.1 _ (amlk_ok hv)
    exact arng_ok hS.2.2.1 (aok_int this) this
  · exact hS.1 i j
theorem afcts_ok {ρ : List Int} {S : aSt} {mem : yMem} (hS : aSat ρ S mem) : ∀ {f : aFct}, afcts S f = true → aFok f mem
  | [], _ => fun q hq => by cases hq
  | f :: r, h => by
    simp only [afcts, Bool.and_eq_true, ain_ok] at h
    intro q hq
    rcases List.mem_cons.mp hq with rfl | hq
    · have := aslot_ok hS q.1.1 q.1.2
      omega
    · exact afcts_ok hS h.2 q hq
theorem aargI_ok {ρ : List Int} {iv : aI} (hI : aIok ρ iv) {v : aV} {a : aArg} {y : yV} (h : aargI iv v a = true) (hv : aok ρ v y) : aArgOk a y := by
  obtain ⟨g, i, lo, hi⟩ := a
  match g, h with
  | 0, h =>
    simp only [aargI] at h
    split at h
    · next t ht =>
      simp only [Bool.and_eq_true, zle_ok] at h
      obtain ⟨h1, h2⟩ := aterm_ok ht hv
      have := trng_ok hI h2
      exact ⟨h1, by dsimp only at h ⊢; omega⟩
    · cases h
  | 3, h =>
    simp only [aargI] at h
    split at h
    · next t ht =>
      simp only [Bool.and_eq_true, zle_ok] at h
      obtain ⟨h1, h2⟩ := aterm_ok ht hv
      have := trng_ok hI h2
      exact ⟨h1, by dsimp only at h ⊢; omega⟩
    · simp only [Bool.and_eq_true, zle_ok, Nat.beq_eq] at h
      obtain ⟨g, k, c⟩ := v
      obtain ⟨h0, h1, h2⟩ := h
      dsimp only at h0 h1 h2
      subst h0
      obtain ⟨e1, x, -, e2⟩ := hv
      refine ⟨e1, ?_⟩
      rw [e2]
      dsimp only
      split
      · omega
      · split <;> omega
  | 1, h =>
    simp only [aargI, Bool.and_eq_true, Nat.beq_eq] at h
    obtain ⟨g, k, c⟩ := v
    obtain ⟨h0, h1⟩ := h
    dsimp only at h0 h1
    subst h0
    subst h1
    exact hv
  | 8, h =>
    simp only [aargI, Bool.or_eq_true] at h
    exact along (by simp only [akdb, Bool.or_eq_true]; exact h) hv
  | 2, h | 4, h | 5, h | 6, h | 7, h => cases h
  | n + 9, h => cases h
theorem aargs_ok {ρ : List Int} {iv : aI} (hI : aIok ρ iv) : ∀ {vs : List aV} {as : List aArg} {ys : List yV}, aargs iv vs as = true → aSm ρ vs ys → aArgsOk as ys
  | [], [], [], _, _ => trivial
  | v :: r, a :: s, y :: t, h, hm => by
    simp only [aargs, Bool.and_eq_true] at h
    exact ⟨aargI_ok hI h.1 hm.1, aargs_ok hI h.2 hm.2⟩
  | [], [], _ :: _, _, hm => hm.elim
  | _ :: _, [], _, h, _ => by cases h
  | [], _ :: _, _, h, _ => by cases h
  | _ :: _, _ :: _, [], _, hm => hm.elim
theorem afbeg_ok {mem : yMem} : ∀ {f : aFct} {mp : aMp} {iv : aI} {ρ : List Int}, aFok f mem → aMok ρ mp mem → aIok ρ iv → ∃ σ, aMok (ρ ++ σ) (afbeg f mp iv).1 mem ∧ aIok (ρ ++ σ) (afbeg f mp iv).2
  | [], mp, iv, ρ, _, hM, hI => ⟨[], by rw [List.append_nil]; exact hM, by rw [List.append_nil]; exact hI⟩
  | f :: r, mp, iv, ρ, hF, hM, hI => by
    have hf := hF f List.mem_cons_self
    obtain ⟨k1, k2⟩ := aI_new hI hf.1 hf.2
    obtain ⟨σ, g1, g2⟩ := afbeg_ok (f := r) (mp := (f.1, (3, iv.length, 0)) :: mp) (iv := iv ++ [f.2]) (ρ := ρ ++ [w32 (mem f.1.1 f.1.2)]) (fun q hq => hF q (List.mem_cons_of_mem _ hq)) (fun q hq => by
      rcases List.mem_cons.mp hq with rfl | hq
      · exact ⟨rfl, _, k2, by show w32 (mem f.1.1 f.1.2) = w32 (mem f.1.1 f.1.2) + 0; omega⟩
      · exact aM_grow hM q hq) k1
    refine ⟨w32 (mem f.1.1 f.1.2) :: σ, ?_⟩
    rw [show ρ ++ w32 (mem f.1.1 f.1.2) :: σ = ρ ++ [w32 (mem f.1.1 f.1.2)] ++ σ by simp]
    exact ⟨g1, g2⟩
def aAnn : List (Nat × aArg) → yL → Prop
  | [], [] => True
  | a :: r, p :: s => a.1 = p.1 ∧ aArgOk a.2 p.2 ∧ aAnn r s
  | _, _ => False
theorem albeg_ok : ∀ {as : List (Nat × aArg)} {l : yL} {iv : aI} {ρ : List Int}, aAnn as l → aIok ρ iv → ∃ σ, aLm (ρ ++ σ) (albeg as iv).1 l ∧ aIok (ρ ++ σ) (albeg as iv).2
  | [], [], iv, ρ, _, hI => ⟨[], trivial, by rw [List.append_nil]; exact hI⟩
  | a :: r, p :: s, iv, ρ, hA, hI => by
    obtain ⟨i, g, c, lo, hi⟩ := a
    obtain ⟨e1, e2, e3⟩ := hA
    match g, e2 with
    | 0, e2 =>
      obtain ⟨σ, h1, h2⟩ := albeg_ok e3 hI
      exact ⟨σ, ⟨e1, e2, h1⟩, h2⟩
    | 1, e2 =>
      obtain ⟨σ, h1, h2⟩ := albeg_ok e3 hI
      exact ⟨σ, ⟨e1, e2, h1⟩, h2⟩
    | 3, e2 =>
      obtain ⟨e4, e5⟩ := e2
      obtain ⟨k1, k2⟩ := aI_new hI (q := (lo, hi)) e5.1 e5.2
      obtain ⟨σ, h1, h2⟩ := albeg_ok e3 k1
      refine ⟨w32 p.2.2 :: σ, ?_⟩
      rw [show ρ ++ w32 p.2.2 :: σ = ρ ++ [w32 p.2.2] ++ σ by simp]
      exact ⟨⟨e1, ⟨e4, _, agrow k2, by show w32 p.2.2 = w32 p.2.2 + 0; omega⟩, h1⟩, h2⟩
    | 8, e2 =>
      have b1 := w64_lo p.2.2
      have b2 := w64_hi p.2.2
      obtain ⟨k1, k2⟩ := aI_new hI (q := a64) (x := w64 p.2.2) b1 (by show _ ≤ (9223372036854775807 : Int); omega)
      obtain ⟨σ, h1, h2⟩ := albeg_ok e3 k1
      refine ⟨w64 p.2.2 :: σ, ?_⟩
      rw [show ρ ++ w64 p.2.2 :: σ = ρ ++ [w64 p.2.2] ++ σ by simp]
      exact ⟨⟨e1, ⟨e2, agrow k2⟩, h1⟩, h2⟩
    | 2, e2 | 4, e2 | 5, e2 | 6, e2 | 7, e2 => exact e2.elim
    | n + 9, e2 => exact e2.elim
  | [], _ :: _, _, _, h, _ => h.elim
  | _ :: _, [], _, _, h, _ => h.elim
theorem aidx_ok : ∀ {as : List aArg} {ys : List yV} (i : Nat), aArgsOk as ys → aAnn (aidx i as) (yargs i ys)
  | [], [], _, _ => trivial
  | a :: r, y :: s, i, h => by
    refine ⟨rfl, h.1, ?_⟩
    have e : (if Nat.beq a.1 8 then 2 else 1) = ycat y := by
      obtain ⟨g, c, lo, hi⟩ := a
      obtain ⟨y1, y2⟩ := y
      match g, h.1 with
      | 0, h => have e : y1 = 0 := h.1; subst e; rfl
      | 3, h => have e : y1 = 0 := h.1; subst e; rfl
      | 1, h => have e : ((y1, y2) : yV) = (1, (c : Int)) := h; cases e; rfl
      | 8, h => have e : y1 = 4 := h; subst e; rfl
      | 2, h | 4, h | 5, h | 6, h | 7, h => exact h.elim
      | n + 9, h => exact h.elim
    rw [e]
    exact aidx_ok _ h.2
  | [], _ :: _, _, h => h.elim
  | _ :: _, [], _, h => h.elim
/-! memory -/
theorem yset_at {mem : yMem} {i j : Nat} {z : Int} : yset mem i j z i j = z := by simp [yset]
theorem yset_ne {mem : yMem} {i j a b : Nat} {z : Int} (h : ¬ (a = i ∧ b = j)) : yset mem i j z a b = mem a b := by
  simp only [yset]
  by_cases h1 : a = i
  · by_cases h2 : b = j
    · exact absurd ⟨h1, h2⟩ h
    · rw [if_pos h1, if_neg h2]
  · rw [if_neg h1]
theorem adrop_ok {ρ : List Int} {w : List (Nat × Nat)} {mem mem' : yMem} (hf : aFrm w mem mem') : ∀ {mp : aMp}, aMok ρ mp mem → aMok ρ (adrop w mp) mem'
  | [], _ => fun q hq => by cases hq
  | p :: r, h => by
    have hr := adrop_ok hf (mp := r) (fun q hq => h q (List.mem_cons_of_mem _ hq))
    simp only [adrop]
    split
    · exact hr
    · next hc =>
      intro q hq
      rcases List.mem_cons.mp hq with rfl | hq
      · rw [hf _ _ (by simpa using hc)]
        exact h _ List.mem_cons_self
      · exact hr q hq
theorem adrop1_ok {ρ : List Int} {i j : Nat} {mem mem' : yMem} (hf : ∀ a b, ¬ (a = i ∧ b = j) → mem' a b = mem a b) : ∀ {mp : aMp}, aMok ρ mp mem → aMok ρ (adrop1 i j mp) mem'
  | [], _ => fun q hq => by cases hq
  | p :: r, h => by
    have hr := adrop1_ok hf (mp := r) (fun q hq => h q (List.mem_cons_of_mem _ hq))
    simp only [adrop1]
    split
    · exact hr
    · next hc =>
      intro q hq
      rcases List.mem_cons.mp hq with rfl | hq
      · rw [hf _ _ (fun z => hc (by simp only [Bool.and_eq_true, Nat.beq_eq]; exact z))]
        exact h _ List.mem_cons_self
      · exact hr q hq
theorem adropA_ok {ρ : List Int} {i : Nat} {mem mem' : yMem} (hf : ∀ a b, ¬ a = i → mem' a b = mem a b) : ∀ {mp : aMp}, aMok ρ mp mem → aMok ρ (adropA i mp) mem'
  | [], _ => fun q hq => by cases hq
  | p :: r, h => by
    have hr := adropA_ok hf (mp := r) (fun q hq => h q (List.mem_cons_of_mem _ hq))
    simp only [adropA]
    split
    · exact hr
    · next hc =>
      intro q hq
      rcases List.mem_cons.mp hq with rfl | hq
      · rw [hf _ _ (fun z => hc (by rw [Nat.beq_eq]; exact z))]
        exact h _ List.mem_cons_self
      · exact hr q hq
theorem agam_def {i j : Nat} (h : (aent i).2 = []) : agam i j = (aent i).1 := by
  unfold agam
  rw [h]
  rfl
theorem adefl_ok {mem : yMem} (h : aGok mem) (i j : Nat) : (adefl i).1 ≤ w32 (mem i j) ∧ w32 (mem i j) ≤ (adefl i).2 := by
  unfold adefl
  split
  · next e =>
    rw [← agam_def (j := j) e]
    exact h i j
  · have h1 := w32_lo (mem i j)
    have h2 := w32_hi (mem i j)
    exact ⟨h1, by show _ ≤ (2147483647 : Int); omega⟩
theorem awrS_ok {ρ : List Int} {S : aSt} {c : aCon} {mem0 mem : yMem} {i j : Nat} {v : aV} {z : Int} {k : aSt → Bool} (h : awrS c S i j v k = true) (hS : aSat ρ S mem) (hF : aFrm (acW c) mem0 mem) (hv : aok ρ v (0, z)) : ∃ S', k S' = true ∧ aSat ρ S' (yset mem i j z) ∧ aFrm (acW c) mem0 (yset mem i j z) := by
  unfold awrS at h
  simp only [Bool.and_eq_true, ain_ok] at h
  obtain ⟨h1, h2, h3⟩ := h
  have hb := arng_ok hS.2.2.1 (aok_int hv) hv
  dsimp only at hb
  refine ⟨_, h3, ⟨fun a b => ?_, fun q hq => ?_, hS.2.2⟩, fun a b hm => ?_⟩
  · by_cases e : a = i ∧ b = j
    · obtain ⟨rfl, rfl⟩ := e
      rw [yset_at]
      omega
    · rw [yset_ne e]
      exact hS.1 a b
  · rcases List.mem_cons.mp hq with rfl | hq
    · dsimp only
      rw [yset_at]
      exact hv
    · exact adrop1_ok (fun a b e => yset_ne e) hS.2.1 q hq
  · by_cases e : a = i ∧ b = j
    · obtain ⟨rfl, rfl⟩ := e
      rw [h2] at hm
      cases hm
    · rw [yset_ne e]
      exact hF a b hm
/-- a write into a cell all of whose slots are of one interval -/
theorem acell_ok {ρ : List Int} {S : aSt} {c : aCon} {mem0 mem mem' : yMem} {i : Nat} (hS : aSat ρ S mem) (hF : aFrm (acW c) mem0 mem) (h0 : (aent i).2 = []) (hw : amodA (acW c) i = true) (hf : ∀ a b, ¬ a = i → mem' a b = mem a b) (hb : ∀ b, (aent i).1.1 ≤ w32 (mem' i b) ∧ w32 (mem' i b) ≤ (aent i).1.2) : aSat ρ (adropA i S.1, S.2.1, S.2.2) mem' ∧ aFrm (acW c) mem0 mem' := by
  refine ⟨⟨fun a b => ?_, adropA_ok hf hS.2.1, hS.2.2⟩, fun a b hm => ?_⟩
  · by_cases e : a = i
    · subst e
      rw [agam_def h0]
      exact hb b
    · rw [hf a b e]
      exact hS.1 a b
  · by_cases e : a = i
    · subst e
      rw [amodA_mod b hw] at hm
      cases hm
    · rw [hf a b e]
      exact hF a b hm
theorem awrA_ok {ρ : List Int} {S : aSt} {c : aCon} {mem0 mem : yMem} {i j : Nat} {v : aV} {z : Int} {k : aSt → Bool} (h : awrA c S i v k = true) (hS : aSat ρ S mem) (hF : aFrm (acW c) mem0 mem) (hv : aok ρ v (0, z)) : ∃ S', k S' = true ∧ aSat ρ S' (yset mem i j z) ∧ aFrm (acW c) mem0 (yset mem i j z) := by
  unfold awrA at h
  simp only [Bool.and_eq_true, ain_ok] at h
  obtain ⟨h0, h1, h2, h3⟩ := h
  have e0 : (aent i).2 = [] := by
    cases hh : (aent i).2 with
    | nil => rfl
    | cons a b => rw [hh] at h0; cases h0
  have hb := arng_ok hS.2.2.1 (aok_int hv) hv
  dsimp only at hb
  have := acell_ok (mem' := yset mem i j z) hS hF e0 h2 (fun a b e => yset_ne (fun q => e q.1)) (fun b => by
    by_cases e : b = j
    · subst e
      rw [yset_at]
      omega
    · rw [yset_ne (fun q => e q.2), ← agam_def (j := b) e0]
      exact hS.1 i b)
  exact ⟨_, h3, this.1, this.2⟩
end
