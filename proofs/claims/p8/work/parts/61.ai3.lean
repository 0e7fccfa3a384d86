/-- yX6_find [29, '..'] -/
def ac_135 : aCon := (102, [(1, 29, 0, 0), (3, 0, -2147483648, 2147483647)], [], (3, 0, -1, 2), [], [], 1, [(2, 0, [([(0, (1, 29, 0, 0)), (1, (3, 0, -2147483648, 2147483647)), (2, (3, 0, 0, 3))], [], 2000, (1, 2, 0, -1, 4), (0, 0, 0, 0, 1099511627776))])])
set_option maxRecDepth 1000000 in
theorem as_135 {Om : yMem → Prop} (hO : aOmF yoc Om) (hm : yman Om) : aSnd Om ac_135 := aSnd_of (T := []) hO (xnl) 23 (by decide +kernel) (by decide +kernel)
/-- yX8_begin [54, 29] -/
def ac_136 : aCon := (110, [(1, 54, 0, 0), (1, 29, 0, 0)], [], (3, 0, -1, 2), [], [(29, 2), (30, 0), (55, 4), (55, 5), (55, 6), (55, 7), (55, 8), (55, 9)], 4, [])
set_option maxRecDepth 1000000 in
theorem as_136 {Om : yMem → Prop} (hO : aOmF yoc Om) (hm : yman Om) : aSnd Om ac_136 := aSnd_of (T := [ac_134, ac_135]) hO (xcns (as_134 hO hm) <| xcns (as_135 hO hm) <| xnl) 75 (by decide +kernel) (by decide +kernel)
/-- yX8_number [54, '..', '..'] -/
def ac_137 : aCon := (112, [(1, 54, 0, 0), (3, 0, -2147483648, 2147483647), (3, 0, -2147483648, 2147483647)], [], (3, 0, -2147483648, 2147483647), [], [(55, 4), (55, 5), (55, 6), (55, 7), (55, 8), (55, 9)], 4, [])
set_option maxRecDepth 1000000 in
theorem as_137 {Om : yMem → Prop} (hO : aOmF yoc Om) (hm : yman Om) : aSnd Om ac_137 := aSnd_of (T := [ac_134]) hO (xcns (as_134 hO hm) <| xnl) 47 (by decide +kernel) (by decide +kernel)
/-- yX8_readTavern [54] -/
def ac_138 : aCon := (116, [(1, 54, 0, 0)], [], (99, 0, 0, 0), [], [(29, 2), (30, 0), (37, 0), (38, 0), (55, 4), (55, 5), (55, 6), (55, 7), (55, 8), (55, 9)], 5, [])
set_option maxRecDepth 1000000 in
theorem as_138 {Om : yMem → Prop} (hO : aOmF yoc Om) (hm : yman Om) : aSnd Om ac_138 := aSnd_of (T := [ac_136, ac_137]) hO (xcns (as_136 hO hm) <| xcns (as_137 hO hm) <| xnl) 38 (by decide +kernel) (by decide +kernel)
/-- yX8_skips [54, '..'] -/
def ac_139 : aCon := (119, [(1, 54, 0, 0), (3, 0, -2147483648, 2147483647)], [], (3, 0, 0, 1), [], [(55, 4), (55, 5), (55, 6), (55, 7)], 4, [])
set_option maxRecDepth 1000000 in
theorem as_139 {Om : yMem → Prop} (hO : aOmF yoc Om) (hm : yman Om) : aSnd Om ac_139 := aSnd_of (T := [ac_134]) hO (xcns (as_134 hO hm) <| xnl) 20 (by decide +kernel) (by decide +kernel)
/-- yX8_readLaw [54] -/
def ac_140 : aCon := (114, [(1, 54, 0, 0)], [], (99, 0, 0, 0), [], [(48, 5), (48, 7), (48, 8), (48, 9), (48, 10), (49, 0), (50, 0), (51, 0), (52, 0), (53, 0), (55, 4), (55, 5), (55, 6), (55, 7), (55, 8), (55, 9)], 7, [])
set_option maxRecDepth 1000000 in
theorem as_140 {Om : yMem → Prop} (hO : aOmF yoc Om) (hm : yman Om) : aSnd Om ac_140 := aSnd_of (T := [ac_134, amc_ftell]) hO (xcns (as_134 hO hm) <| xcns (hm.2.1) <| xnl) 69 (by decide +kernel) (by decide +kernel)
/-- yX8_loneNumber [54, '..', '..'] -/
def ac_141 : aCon := (111, [(1, 54, 0, 0), (3, 0, -2147483648, 2147483647), (3, 0, -2147483648, 2147483647)], [], (3, 0, -2147483648, 2147483647), [], [(55, 4), (55, 5), (55, 6), (55, 7), (55, 8), (55, 9)], 5, [])
set_option maxRecDepth 1000000 in
theorem as_141 {Om : yMem → Prop} (hO : aOmF yoc Om) (hm : yman Om) : aSnd Om ac_141 := aSnd_of (T := [ac_134, ac_137]) hO (xcns (as_134 hO hm) <| xcns (as_137 hO hm) <| xnl) 34 (by decide +kernel) (by decide +kernel)
/-- yX6_find [35, '..'] -/
def ac_142 : aCon := (102, [(1, 35, 0, 0), (3, 0, -2147483648, 2147483647)], [], (3, 0, -1, 2), [], [], 1, [(2, 0, [([(0, (1, 35, 0, 0)), (1, (3, 0, -2147483648, 2147483647)), (2, (3, 0, 0, 3))], [], 2000, (1, 2, 0, -1, 4), (0, 0, 0, 0, 1099511627776))])])
set_option maxRecDepth 1000000 in
theorem as_142 {Om : yMem → Prop} (hO : aOmF yoc Om) (hm : yman Om) : aSnd Om ac_142 := aSnd_of (T := []) hO (xnl) 23 (by decide +kernel) (by decide +kernel)
/-- yX8_begin [54, 35] -/
def ac_143 : aCon := (110, [(1, 54, 0, 0), (1, 35, 0, 0)], [], (3, 0, -1, 2), [], [(35, 2), (36, 0), (55, 4), (55, 5), (55, 6), (55, 7), (55, 8), (55, 9)], 4, [])
set_option maxRecDepth 1000000 in
theorem as_143 {Om : yMem → Prop} (hO : aOmF yoc Om) (hm : yman Om) : aSnd Om ac_143 := aSnd_of (T := [ac_134, ac_142]) hO (xcns (as_134 hO hm) <| xcns (as_142 hO hm) <| xnl) 75 (by decide +kernel) (by decide +kernel)
/-- yX8_readBaker [54] -/
def ac_144 : aCon := (113, [(1, 54, 0, 0)], [], (99, 0, 0, 0), [], [(35, 2), (36, 0), (47, 0), (48, 5), (48, 7), (48, 8), (48, 9), (48, 10), (49, 0), (50, 0), (51, 0), (52, 0), (53, 0), (55, 4), (55, 5), (55, 6), (55, 7), (55, 8), (55, 9)], 7, [])
set_option maxRecDepth 1000000 in
theorem as_144 {Om : yMem → Prop} (hO : aOmF yoc Om) (hm : yman Om) : aSnd Om ac_144 := aSnd_of (T := [ac_143, ac_137, amc_ftell]) hO (xcns (as_143 hO hm) <| xcns (as_137 hO hm) <| xcns (hm.2.1) <| xnl) 38 (by decide +kernel) (by decide +kernel)
/-- yX6_find [33, '..'] -/
def ac_145 : aCon := (102, [(1, 33, 0, 0), (3, 0, -2147483648, 2147483647)], [], (3, 0, -1, 3), [], [], 1, [(2, 0, [([(0, (1, 33, 0, 0)), (1, (3, 0, -2147483648, 2147483647)), (2, (3, 0, 0, 4))], [], 2000, (1, 2, 0, -1, 5), (0, 0, 0, 0, 1099511627776))])])
set_option maxRecDepth 1000000 in
theorem as_145 {Om : yMem → Prop} (hO : aOmF yoc Om) (hm : yman Om) : aSnd Om ac_145 := aSnd_of (T := []) hO (xnl) 23 (by decide +kernel) (by decide +kernel)
/-- yX8_begin [54, 33] -/
def ac_146 : aCon := (110, [(1, 54, 0, 0), (1, 33, 0, 0)], [], (3, 0, -1, 3), [], [(33, 2), (34, 0), (55, 4), (55, 5), (55, 6), (55, 7), (55, 8), (55, 9)], 4, [])
set_option maxRecDepth 1000000 in
theorem as_146 {Om : yMem → Prop} (hO : aOmF yoc Om) (hm : yman Om) : aSnd Om ac_146 := aSnd_of (T := [ac_134, ac_145]) hO (xcns (as_134 hO hm) <| xcns (as_145 hO hm) <| xnl) 75 (by decide +kernel) (by decide +kernel)
/-- yX8_readPart [54, '..'] -/
def ac_147 : aCon := (115, [(1, 54, 0, 0), (3, 0, 0, 11)], [], (99, 0, 0, 0), [], [(45, 0), (46, 0), (55, 4), (55, 5), (55, 6), (55, 7), (55, 8), (55, 9)], 5, [(20, 0, [([(0, (1, 54, 0, 0)), (1, (3, 0, 0, 11)), (2, (3, 0, 0, 7))], [], 2000, (1, 2, 0, -1, 8), (0, 0, 0, 0, 1099511627776))])])
set_option maxRecDepth 1000000 in
theorem as_147 {Om : yMem → Prop} (hO : aOmF yoc Om) (hm : yman Om) : aSnd Om ac_147 := aSnd_of (T := [ac_139, ac_137]) hO (xcns (as_139 hO hm) <| xcns (as_137 hO hm) <| xnl) 62 (by decide +kernel) (by decide +kernel)
/-- yX8_readVerse [54] -/
def ac_148 : aCon := (117, [(1, 54, 0, 0)], [], (99, 0, 0, 0), [], [(33, 2), (34, 0), (44, 0), (45, 0), (46, 0), (55, 4), (55, 5), (55, 6), (55, 7), (55, 8), (55, 9)], 6, [(20, 0, [([(0, (1, 54, 0, 0)), (1, (3, 0, 0, 3)), (2, (3, 0, 0, 2))], [], 2000, (1, 2, 0, -1, 3), (0, 0, 0, 0, 1099511627776))])])
set_option maxRecDepth 1000000 in
theorem as_148 {Om : yMem → Prop} (hO : aOmF yoc Om) (hm : yman Om) : aSnd Om ac_148 := aSnd_of (T := [ac_146, ac_147]) hO (xcns (as_146 hO hm) <| xcns (as_147 hO hm) <| xnl) 60 (by decide +kernel) (by decide +kernel)
/-- yX6_find [31, '..'] -/
def ac_149 : aCon := (102, [(1, 31, 0, 0), (3, 0, -2147483648, 2147483647)], [], (3, 0, -1, 5), [], [], 1, [(2, 0, [([(0, (1, 31, 0, 0)), (1, (3, 0, -2147483648, 2147483647)), (2, (3, 0, 0, 6))], [], 2000, (1, 2, 0, -1, 7), (0, 0, 0, 0, 1099511627776))])])
set_option maxRecDepth 1000000 in
theorem as_149 {Om : yMem → Prop} (hO : aOmF yoc Om) (hm : yman Om) : aSnd Om ac_149 := aSnd_of (T := []) hO (xnl) 23 (by decide +kernel) (by decide +kernel)
/-- yX8_begin [54, 31] -/
def ac_150 : aCon := (110, [(1, 54, 0, 0), (1, 31, 0, 0)], [], (3, 0, -1, 5), [], [(31, 2), (32, 0), (55, 4), (55, 5), (55, 6), (55, 7), (55, 8), (55, 9)], 4, [])
set_option maxRecDepth 1000000 in
theorem as_150 {Om : yMem → Prop} (hO : aOmF yoc Om) (hm : yman Om) : aSnd Om ac_150 := aSnd_of (T := [ac_134, ac_149]) hO (xcns (as_134 hO hm) <| xcns (as_149 hO hm) <| xnl) 75 (by decide +kernel) (by decide +kernel)
/-- yX8_toldTavern [54] -/
def ac_151 : aCon := (121, [(1, 54, 0, 0)], [], (3, 0, -1, 2), [], [(55, 4), (55, 5), (55, 6), (55, 7), (55, 8), (55, 9)], 4, [])
set_option maxRecDepth 1000000 in
theorem as_151 {Om : yMem → Prop} (hO : aOmF yoc Om) (hm : yman Om) : aSnd Om ac_151 := aSnd_of (T := [ac_135, ac_134]) hO (xcns (as_135 hO hm) <| xcns (as_134 hO hm) <| xnl) 51 (by decide +kernel) (by decide +kernel)
/-- yX8_readVoice [54] -/
def ac_152 : aCon := (118, [(1, 54, 0, 0)], [], (99, 0, 0, 0), [], [(28, 17), (31, 2), (32, 0), (39, 0), (40, 0), (41, 0), (42, 0), (43, 0), (55, 4), (55, 5), (55, 6), (55, 7), (55, 8), (55, 9)], 5, [])
set_option maxRecDepth 1000000 in
theorem as_152 {Om : yMem → Prop} (hO : aOmF yoc Om) (hm : yman Om) : aSnd Om ac_152 := aSnd_of (T := [ac_150, ac_137, ac_139, ac_151]) hO (xcns (as_150 hO hm) <| xcns (as_137 hO hm) <| xcns (as_139 hO hm) <| xcns (as_151 hO hm) <| xnl) 106 (by decide +kernel) (by decide +kernel)
/-- yX8_tell [54, '..'] -/
def ac_153 : aCon := (120, [(1, 54, 0, 0), (3, 0, 0, 800)], [], (3, 0, -2147483648, 2147483647), [], [(28, 17), (28, 18), (28, 19), (29, 2), (30, 0), (31, 2), (32, 0), (33, 2), (34, 0), (35, 2), (36, 0), (37, 0), (38, 0), (39, 0), (40, 0), (41, 0), (42, 0), (43, 0), (44, 0), (45, 0), (46, 0), (47, 0), (48, 5), (48, 7), (48, 8), (48, 9), (48, 10), (49, 0), (50, 0), (51, 0), (52, 0), (53, 0), (54, 3), (54, 4), (55, 3), (55, 4), (55, 5), (55, 6), (55, 7), (55, 8), (55, 9)], 8, [(29, 0, [([(0, (1, 54, 0, 0)), (1, (3, 0, 0, 800)), (2, (3, 0, -2147483648, 2147483647)), (3, (3, 0, 0, 801))], [], 2000, (1, 3, 0, -1, 802), (0, 0, 0, 0, 1099511627776))])])
set_option maxRecDepth 1000000 in
theorem as_153 {Om : yMem → Prop} (hO : aOmF yoc Om) (hm : yman Om) : aSnd Om ac_153 := aSnd_of (T := [ac_130, ac_131, ac_134, ac_138, ac_139, ac_140, ac_141, ac_144, ac_148, ac_152]) hO (xcns (as_130 hO hm) <| xcns (as_131 hO hm) <| xcns (as_134 hO hm) <| xcns (as_138 hO hm) <| xcns (as_139 hO hm) <| xcns (as_140 hO hm) <| xcns (as_141 hO hm) <| xcns (as_144 hO hm) <| xcns (as_148 hO hm) <| xcns (as_152 hO hm) <| xnl) 91 (by decide +kernel) (by decide +kernel)
/-- yJ7_fill_53178 [58, '..'] -/
def ac_154 : aCon := (263, [(1, 58, 0, 0), (3, 0, -2147483648, 2147483647)], [], (99, 0, 0, 0), [], [(58, 0)], 1, [(5, 0, [([(0, (1, 58, 0, 0)), (1, (3, 0, -2147483648, 2147483647)), (2, (3, 0, 0, 3)), (3, (3, 0, 3, 3))], [], 2000, (1, 2, 0, -1, 4), (0, 0, 0, 0, 1099511627776))])])
set_option maxRecDepth 1000000 in
theorem as_154 {Om : yMem → Prop} (hO : aOmF yoc Om) (hm : yman Om) : aSnd Om ac_154 := aSnd_of (T := []) hO (xnl) 20 (by decide +kernel) (by decide +kernel)
/-- yJ7_fill_53178 [60, '..'] -/
def ac_155 : aCon := (263, [(1, 60, 0, 0), (3, 0, -2147483648, 2147483647)], [], (99, 0, 0, 0), [], [(60, 0)], 1, [(5, 0, [([(0, (1, 60, 0, 0)), (1, (3, 0, -2147483648, 2147483647)), (2, (3, 0, 0, 3)), (3, (3, 0, 3, 3))], [], 2000, (1, 2, 0, -1, 4), (0, 0, 0, 0, 1099511627776))])])
set_option maxRecDepth 1000000 in
theorem as_155 {Om : yMem → Prop} (hO : aOmF yoc Om) (hm : yman Om) : aSnd Om ac_155 := aSnd_of (T := []) hO (xnl) 20 (by decide +kernel) (by decide +kernel)
/-- yJ7_fill_53178 [59, '..'] -/
def ac_156 : aCon := (263, [(1, 59, 0, 0), (3, 0, -2147483648, 2147483647)], [], (99, 0, 0, 0), [], [(59, 0)], 1, [(5, 0, [([(0, (1, 59, 0, 0)), (1, (3, 0, -2147483648, 2147483647)), (2, (3, 0, 0, 6)), (3, (3, 0, 6, 6))], [], 2000, (1, 2, 0, -1, 7), (0, 0, 0, 0, 1099511627776))])])
set_option maxRecDepth 1000000 in
theorem as_156 {Om : yMem → Prop} (hO : aOmF yoc Om) (hm : yman Om) : aSnd Om ac_156 := aSnd_of (T := []) hO (xnl) 20 (by decide +kernel) (by decide +kernel)
/-- yX11_text [0, '..'] -/
def ac_157 : aCon := (41, [(1, 0, 0, 0), (3, 0, -2147483648, 2147483647)], [], (3, 0, -2147483648, 2147483647), [], [(0, 12), (0, 13), (0, 14), (0, 15), (2, 17), (2, 18), (2, 19), (3, 2), (4, 0), (5, 2), (6, 0), (7, 2), (8, 0), (9, 2), (10, 0), (11, 0), (12, 0), (13, 0), (14, 0), (15, 0), (16, 0), (17, 0), (18, 0), (19, 0), (20, 0), (21, 0), (22, 5), (23, 0), (24, 0), (25, 0), (26, 0), (28, 17), (28, 18), (28, 19), (29, 2), (30, 0), (31, 2), (32, 0), (33, 2), (34, 0), (35, 2), (36, 0), (37, 0), (38, 0), (39, 0), (40, 0), (41, 0), (42, 0), (43, 0), (44, 0), (45, 0), (46, 0), (47, 0), (48, 5), (48, 7), (48, 8), (48, 9), (48, 10), (49, 0), (50, 0), (51, 0), (52, 0), (53, 0), (54, 3), (54, 4), (55, 3), (55, 4), (55, 5), (55, 6), (55, 7), (55, 8), (55, 9), (57, 7), (57, 8), (57, 9), (57, 10), (57, 11), (57, 12), (57, 13), (58, 0), (59, 0), (60, 0), (61, 0), (71, 2), (76, 11)], 9, [])
set_option maxRecDepth 1000000 in
theorem as_157 {Om : yMem → Prop} (hO : aOmF yoc Om) (hm : yman Om) : aSnd Om ac_157 := aSnd_of (T := [ac_153, ac_154, ac_155, ac_156, ac_74]) hO (xcns (as_153 hO hm) <| xcns (as_154 hO hm) <| xcns (as_155 hO hm) <| xcns (as_156 hO hm) <| xcns (as_74 hO hm) <| xnl) 378 (by decide +kernel) (by decide +kernel)
