/-- yX11_entry [0, '..', '..', '..', '..', '..'] -/
def ac_45 : aCon := (12, [(1, 0, 0, 0), (3, 0, -2147483648, 2147483647), (3, 0, -2147483648, 2147483647), (3, 0, -2147483648, 2147483647), (3, 0, -2147483648, 2147483647), (3, 0, -2147483648, 2147483647)], [], (3, 0, -2147483648, 2147483647), [], [(91, 7), (91, 8), (91, 9), (91, 10), (92, 0), (93, 0), (94, 0)], 8, [])
set_option maxRecDepth 1000000 in
theorem as_45 {Om : yMem → Prop} (hO : aOmF yoc Om) (hm : yman Om) : aSnd Om ac_45 := aSnd_of (T := [ac_44]) hO (xcns (as_44 hO hm) <| xnl) 92 (by decide +kernel) (by decide +kernel)
/-- yX11_fault [0, '..'] -/
def ac_46 : aCon := (13, [(1, 0, 0, 0), (3, 0, -2147483648, 2147483647)], [], (3, 0, -2147483648, 2147483647), [], [], 1, [])
set_option maxRecDepth 1000000 in
theorem as_46 {Om : yMem → Prop} (hO : aOmF yoc Om) (hm : yman Om) : aSnd Om ac_46 := aSnd_of (T := []) hO (xnl) 15 (by decide +kernel) (by decide +kernel)
/-- yX11_tapeNumber [0, '..'] -/
def ac_47 : aCon := (39, [(1, 0, 0, 0), (3, 0, -2147483648, 2147483647)], [], (99, 0, 0, 0), [], [(0, 12), (1, 0)], 1, [(3, 0, [([(0, (1, 0, 0, 0)), (1, (3, 0, -2147483648, 2147483647)), (2, (3, 0, -8, 24))], [((0, 11), 0, 800)], 2000, (1, 2, 0, 1, 9), (0, 0, 0, 0, 1099511627776))])])
set_option maxRecDepth 1000000 in
theorem as_47 {Om : yMem → Prop} (hO : aOmF yoc Om) (hm : yman Om) : aSnd Om ac_47 := aSnd_of (T := []) hO (xnl) 34 (by decide +kernel) (by decide +kernel)
/-- yX11_feed [0, '..', '..', '..', '..', '..'] -/
def ac_48 : aCon := (14, [(1, 0, 0, 0), (3, 0, -2147483648, 2147483647), (3, 0, -2147483648, 2147483647), (3, 0, -2147483648, 2147483647), (3, 0, -2147483648, 2147483647), (3, 0, -2147483648, 2147483647)], [], (3, 0, -1, 800), [], [(0, 12), (1, 0)], 2, [])
set_option maxRecDepth 1000000 in
theorem as_48 {Om : yMem → Prop} (hO : aOmF yoc Om) (hm : yman Om) : aSnd Om ac_48 := aSnd_of (T := [ac_47]) hO (xcns (as_47 hO hm) <| xnl) 34 (by decide +kernel) (by decide +kernel)
/-- yX3_pitches [71, '..'] -/
def ac_49 : aCon := (75, [(1, 71, 0, 0), (3, 0, -1, 24)], [], (8, 0, 0, 0), [], [], 1, [(16, 0, [([(0, (1, 71, 0, 0)), (1, (3, 0, -1, 24)), (2, (3, 0, -2147483648, 2147483647)), (3, (8, 0, 0, 0)), (5, (3, 0, -2, 23))], [], 2000, (1, 5, 0, 1, 3), (0, 0, 0, 0, 1099511627776))])])
set_option maxRecDepth 1000000 in
theorem as_49 {Om : yMem → Prop} (hO : aOmF yoc Om) (hm : yman Om) : aSnd Om ac_49 := aSnd_of (T := []) hO (xnl) 37 (by decide +kernel) (by decide +kernel)
/-- yX11_reachOf [0, '..'] -/
def ac_50 : aCon := (26, [(1, 0, 0, 0), (3, 0, -2147483648, 2147483647)], [], (8, 0, 0, 0), [], [], 2, [(5, 0, [([(0, (1, 0, 0, 0)), (1, (3, 0, -2147483648, 2147483647)), (2, (8, 0, 0, 0)), (4, (3, 0, 0, 6))], [], 2000, (1, 4, 0, -1, 7), (0, 0, 0, 0, 1099511627776))])])
set_option maxRecDepth 1000000 in
theorem as_50 {Om : yMem → Prop} (hO : aOmF yoc Om) (hm : yman Om) : aSnd Om ac_50 := aSnd_of (T := []) hO (xnl) 46 (by decide +kernel) (by decide +kernel)
/-- yX11_gang [0] -/
def ac_51 : aCon := (15, [(1, 0, 0, 0)], [], (3, 0, -2, 64), [], [], 3, [(22, 0, [([(0, (1, 0, 0, 0)), (1, (8, 0, 0, 0)), (3, (3, 0, -2, 64)), (4, (3, 0, 0, 7)), (5, (3, 0, 0, 64))], [], 2000, (1, 5, 0, -1, 65), (0, 0, 0, 0, 1099511627776))])])
set_option maxRecDepth 1000000 in
theorem as_51 {Om : yMem → Prop} (hO : aOmF yoc Om) (hm : yman Om) : aSnd Om ac_51 := aSnd_of (T := [ac_49, amc_bitc, ac_50]) hO (xcns (as_49 hO hm) <| xcns (hm.1) <| xcns (as_50 hO hm) <| xnl) 47 (by decide +kernel) (by decide +kernel)
/-- yX11_hum [0, '..'] -/
def ac_52 : aCon := (16, [(1, 0, 0, 0), (3, 0, -2147483648, 2147483647)], [], (3, 0, -1, 23), [], [(71, 2), (72, 0)], 2, [])
set_option maxRecDepth 1000000 in
theorem as_52 {Om : yMem → Prop} (hO : aOmF yoc Om) (hm : yman Om) : aSnd Om ac_52 := aSnd_of (T := []) hO (xnl) 43 (by decide +kernel) (by decide +kernel)
/-- yX11_keep [0] -/
def ac_53 : aCon := (18, [(1, 0, 0, 0)], [], (3, 0, -2147483648, 2147483647), [], [(0, 15), (64, 7), (64, 8), (64, 9), (64, 10), (64, 11), (64, 12), (64, 13), (65, 0), (66, 0), (67, 0), (68, 0), (69, 0), (70, 0)], 2, [])
set_option maxRecDepth 1000000 in
theorem as_53 {Om : yMem → Prop} (hO : aOmF yoc Om) (hm : yman Om) : aSnd Om ac_53 := aSnd_of (T := []) hO (xnl) 111 (by decide +kernel) (by decide +kernel)
/-- yX11_known [0, '..'] -/
def ac_54 : aCon := (19, [(1, 0, 0, 0), (3, 0, -2147483648, 2147483647)], [], (3, 0, 0, 1), [], [(57, 12)], 1, [])
set_option maxRecDepth 1000000 in
theorem as_54 {Om : yMem → Prop} (hO : aOmF yoc Om) (hm : yman Om) : aSnd Om ac_54 := aSnd_of (T := []) hO (xnl) 24 (by decide +kernel) (by decide +kernel)
/-- yX6_find [3, '..'] -/
def ac_55 : aCon := (102, [(1, 3, 0, 0), (3, 0, -2147483648, 2147483647)], [], (3, 0, -1, 2), [], [], 1, [(2, 0, [([(0, (1, 3, 0, 0)), (1, (3, 0, -2147483648, 2147483647)), (2, (3, 0, 0, 3))], [], 2000, (1, 2, 0, -1, 4), (0, 0, 0, 0, 1099511627776))])])
set_option maxRecDepth 1000000 in
theorem as_55 {Om : yMem → Prop} (hO : aOmF yoc Om) (hm : yman Om) : aSnd Om ac_55 := aSnd_of (T := []) hO (xnl) 23 (by decide +kernel) (by decide +kernel)
/-- yX6_find [9, '..'] -/
def ac_56 : aCon := (102, [(1, 9, 0, 0), (3, 0, -2147483648, 2147483647)], [], (3, 0, -1, 2), [], [], 1, [(2, 0, [([(0, (1, 9, 0, 0)), (1, (3, 0, -2147483648, 2147483647)), (2, (3, 0, 0, 3))], [], 2000, (1, 2, 0, -1, 4), (0, 0, 0, 0, 1099511627776))])])
set_option maxRecDepth 1000000 in
theorem as_56 {Om : yMem → Prop} (hO : aOmF yoc Om) (hm : yman Om) : aSnd Om ac_56 := aSnd_of (T := []) hO (xnl) 23 (by decide +kernel) (by decide +kernel)
/-- yX6_find [7, '..'] -/
def ac_57 : aCon := (102, [(1, 7, 0, 0), (3, 0, -2147483648, 2147483647)], [], (3, 0, -1, 3), [], [], 1, [(2, 0, [([(0, (1, 7, 0, 0)), (1, (3, 0, -2147483648, 2147483647)), (2, (3, 0, 0, 4))], [], 2000, (1, 2, 0, -1, 5), (0, 0, 0, 0, 1099511627776))])])
set_option maxRecDepth 1000000 in
theorem as_57 {Om : yMem → Prop} (hO : aOmF yoc Om) (hm : yman Om) : aSnd Om ac_57 := aSnd_of (T := []) hO (xnl) 23 (by decide +kernel) (by decide +kernel)
/-- yX6_find [5, '..'] -/
def ac_58 : aCon := (102, [(1, 5, 0, 0), (3, 0, -2147483648, 2147483647)], [], (3, 0, -1, 5), [], [], 1, [(2, 0, [([(0, (1, 5, 0, 0)), (1, (3, 0, -2147483648, 2147483647)), (2, (3, 0, 0, 6))], [], 2000, (1, 2, 0, -1, 7), (0, 0, 0, 0, 1099511627776))])])
set_option maxRecDepth 1000000 in
theorem as_58 {Om : yMem → Prop} (hO : aOmF yoc Om) (hm : yman Om) : aSnd Om ac_58 := aSnd_of (T := []) hO (xnl) 23 (by decide +kernel) (by decide +kernel)
/-- yX11_named [0, '..', '..'] -/
def ac_59 : aCon := (22, [(1, 0, 0, 0), (3, 0, -2147483648, 2147483647), (3, 0, -2147483648, 2147483647)], [], (3, 0, -1, 5), [], [], 2, [])
set_option maxRecDepth 1000000 in
theorem as_59 {Om : yMem → Prop} (hO : aOmF yoc Om) (hm : yman Om) : aSnd Om ac_59 := aSnd_of (T := [ac_55, ac_56, ac_57, ac_58]) hO (xcns (as_55 hO hm) <| xcns (as_56 hO hm) <| xcns (as_57 hO hm) <| xcns (as_58 hO hm) <| xnl) 18 (by decide +kernel) (by decide +kernel)
/-- yX11_thieves [0] -/
def ac_60 : aCon := (42, [(1, 0, 0, 0)], [], (3, 0, 0, 255), [], [], 2, [(17, 0, [([(0, (1, 0, 0, 0)), (1, (8, 0, 0, 0)), (3, (3, 0, 0, 255)), (4, (3, 0, 0, 6))], [], 2000, (1, 4, 0, -1, 7), (0, 0, 0, 0, 1099511627776))])])
set_option maxRecDepth 1000000 in
theorem as_60 {Om : yMem → Prop} (hO : aOmF yoc Om) (hm : yman Om) : aSnd Om ac_60 := aSnd_of (T := [ac_49]) hO (xcns (as_49 hO hm) <| xnl) 64 (by decide +kernel) (by decide +kernel)
/-- yX11_leastTerm ['..', '..', '..'] -/
def ac_61 : aCon := (21, [(8, 0, 0, 0), (8, 0, 0, 0), (3, 0, -2147483648, 2147483647)], [], (8, 0, 0, 0), [], [], 1, [(9, 0, [([(0, (8, 0, 0, 0)), (2, (8, 0, 0, 0)), (4, (3, 0, -2147483648, 2147483647)), (5, (8, 0, 0, 0)), (7, (8, 0, 0, 0)), (9, (3, 0, 0, 1000))], [], 2000, (1, 9, 0, -1, 1001), (0, 0, 0, 0, 1099511627776))])])
set_option maxRecDepth 1000000 in
theorem as_61 {Om : yMem → Prop} (hO : aOmF yoc Om) (hm : yman Om) : aSnd Om ac_61 := aSnd_of (T := []) hO (xnl) 30 (by decide +kernel) (by decide +kernel)
/-- yX11_odds [0, '..', '..'] -/
def ac_62 : aCon := (23, [(1, 0, 0, 0), (3, 0, -2147483648, 2147483647), (3, 0, -2147483648, 2147483647)], [], (3, 0, -2147483648, 2147483647), [], [], 3, [(46, 0, [([(0, (1, 0, 0, 0)), (1, (3, 0, 0, 5)), (2, (3, 0, 0, 1)), (3, (3, 0, 0, 255)), (4, (3, 0, -2147483648, 2147483647)), (5, (3, 0, 0, 6))], [], 2000, (1, 5, 0, -1, 7), (0, 0, 0, 0, 1099511627776))])])
set_option maxRecDepth 1000000 in
theorem as_62 {Om : yMem → Prop} (hO : aOmF yoc Om) (hm : yman Om) : aSnd Om ac_62 := aSnd_of (T := [ac_60, ac_61]) hO (xcns (as_60 hO hm) <| xcns (as_61 hO hm) <| xnl) 44 (by decide +kernel) (by decide +kernel)
/-- yX11_pay [0, '..'] -/
def ac_63 : aCon := (24, [(1, 0, 0, 0), (3, 0, -2147483648, 2147483647)], [], (3, 0, -2147483648, 2147483647), [], [(57, 10), (58, 0), (59, 0)], 2, [(20, 0, [([(0, (1, 0, 0, 0)), (1, (3, 0, 0, 2)), (2, (3, 0, -2147483648, 2147483647)), (3, (3, 0, 0, 6))], [], 2000, (1, 3, 0, -1, 7), (0, 0, 0, 0, 1099511627776))])])
set_option maxRecDepth 1000000 in
theorem as_63 {Om : yMem → Prop} (hO : aOmF yoc Om) (hm : yman Om) : aSnd Om ac_63 := aSnd_of (T := []) hO (xnl) 60 (by decide +kernel) (by decide +kernel)
/-- yX11_pitch [0, '..', '..', '..'] -/
def ac_64 : aCon := (25, [(1, 0, 0, 0), (3, 0, -2147483648, 2147483647), (3, 0, -2147483648, 2147483647), (3, 0, -2147483648, 2147483647)], [], (3, 0, -2147483648, 2147483647), [], [], 3, [])
set_option maxRecDepth 1000000 in
theorem as_64 {Om : yMem → Prop} (hO : aOmF yoc Om) (hm : yman Om) : aSnd Om ac_64 := aSnd_of (T := []) hO (xnl) 76 (by decide +kernel) (by decide +kernel)
/-- yX11_singsIn [0, '..', '..'] -/
def ac_65 : aCon := (33, [(1, 0, 0, 0), (3, 0, 0, 3), (3, 0, -2147483648, 2147483647)], [], (3, 0, 0, 1), [], [], 2, [(2, 0, [([(0, (1, 0, 0, 0)), (1, (3, 0, 0, 3)), (2, (3, 0, -2147483648, 2147483647)), (3, (3, 0, 0, 3))], [], 2000, (1, 3, 0, -1, 4), (0, 0, 0, 0, 1099511627776))])])
set_option maxRecDepth 1000000 in
theorem as_65 {Om : yMem → Prop} (hO : aOmF yoc Om) (hm : yman Om) : aSnd Om ac_65 := aSnd_of (T := []) hO (xnl) 35 (by decide +kernel) (by decide +kernel)
/-- yX11_redeem [0, '..', '..', '..'] -/
def ac_66 : aCon := (27, [(1, 0, 0, 0), (3, 0, -2147483648, 2147483647), (3, 0, -2147483648, 2147483647), (3, 0, -2147483648, 2147483647)], [], (3, 0, -2147483648, 2147483647), [], [(57, 7), (57, 9), (58, 0), (61, 0), (62, 0), (63, 0), (73, 5), (73, 6), (74, 0), (75, 0)], 5, [])
set_option maxRecDepth 1000000 in
theorem as_66 {Om : yMem → Prop} (hO : aOmF yoc Om) (hm : yman Om) : aSnd Om ac_66 := aSnd_of (T := [ac_65, ac_17]) hO (xcns (as_65 hO hm) <| xcns (as_17 hO hm) <| xnl) 162 (by decide +kernel) (by decide +kernel)
/-- yX11_round [0, '..', '..', '..', '..'] -/
def ac_67 : aCon := (28, [(1, 0, 0, 0), (3, 0, -2147483648, 2147483647), (3, 0, -2147483648, 2147483647), (3, 0, -2147483648, 2147483647), (3, 0, -2147483648, 2147483647)], [], (3, 0, -2147483648, 2147483647), [], [(91, 7), (91, 8), (91, 9), (91, 10), (92, 0), (93, 0), (94, 0)], 8, [])
set_option maxRecDepth 1000000 in
theorem as_67 {Om : yMem → Prop} (hO : aOmF yoc Om) (hm : yman Om) : aSnd Om ac_67 := aSnd_of (T := [ac_44]) hO (xcns (as_44 hO hm) <| xnl) 78 (by decide +kernel) (by decide +kernel)
/-- yX11_shareOf [0, '..', '..'] -/
def ac_68 : aCon := (30, [(1, 0, 0, 0), (3, 0, 0, 2), (3, 0, -2147483648, 2147483647)], [], (3, 0, -2147483648, 2147483647), [], [], 1, [(16, 0, [([(0, (1, 0, 0, 0)), (1, (3, 0, 0, 2)), (2, (3, 0, -2147483648, 2147483647)), (3, (3, 0, -2147483648, 2147483647)), (4, (3, 0, -2147483648, 2147483647)), (5, (3, 0, 0, 6))], [], 2000, (1, 5, 0, -1, 7), (0, 0, 0, 0, 1099511627776))])])
set_option maxRecDepth 1000000 in
theorem as_68 {Om : yMem → Prop} (hO : aOmF yoc Om) (hm : yman Om) : aSnd Om ac_68 := aSnd_of (T := []) hO (xnl) 45 (by decide +kernel) (by decide +kernel)
/-- yX11_run [0, '..', '..'] -/
def ac_69 : aCon := (29, [(1, 0, 0, 0), (3, 0, -2147483648, 2147483647), (3, 0, -2147483648, 2147483647)], [], (3, 0, -2147483648, 2147483647), [], [], 2, [])
set_option maxRecDepth 1000000 in
theorem as_69 {Om : yMem → Prop} (hO : aOmF yoc Om) (hm : yman Om) : aSnd Om ac_69 := aSnd_of (T := [ac_68]) hO (xcns (as_68 hO hm) <| xnl) 55 (by decide +kernel) (by decide +kernel)
/-- yX11_sings [0, '..', '..'] -/
def ac_70 : aCon := (32, [(1, 0, 0, 0), (3, 0, -2147483648, 2147483647), (3, 0, -2147483648, 2147483647)], [], (3, 0, -2, 5), [], [], 3, [])
set_option maxRecDepth 1000000 in
theorem as_70 {Om : yMem → Prop} (hO : aOmF yoc Om) (hm : yman Om) : aSnd Om ac_70 := aSnd_of (T := []) hO (xnl) 61 (by decide +kernel) (by decide +kernel)
/-- yX11_sold [0, '..', '..', '..'] -/
def ac_71 : aCon := (35, [(1, 0, 0, 0), (3, 0, -2147483648, 2147483647), (3, 0, -2147483648, 2147483647), (3, 0, -2147483648, 2147483647)], [], (3, 0, -2147483648, 2147483647), [], [(73, 5), (73, 6), (74, 0), (75, 0), (88, 0), (89, 0), (90, 0)], 7, [])
set_option maxRecDepth 1000000 in
theorem as_71 {Om : yMem → Prop} (hO : aOmF yoc Om) (hm : yman Om) : aSnd Om ac_71 := aSnd_of (T := [ac_37]) hO (xcns (as_37 hO hm) <| xnl) 74 (by decide +kernel) (by decide +kernel)
/-- yX11_sounds [0, '..', '..', '..'] -/
def ac_72 : aCon := (36, [(1, 0, 0, 0), (3, 0, -2147483648, 2147483647), (3, 0, -2147483648, 2147483647), (3, 0, -2147483648, 2147483647)], [], (3, 0, -1, 8), [], [], 4, [])
set_option maxRecDepth 1000000 in
theorem as_72 {Om : yMem → Prop} (hO : aOmF yoc Om) (hm : yman Om) : aSnd Om ac_72 := aSnd_of (T := [ac_2, amc_bitc]) hO (xcns (as_2 hO hm) <| xcns (hm.1) <| xnl) 71 (by decide +kernel) (by decide +kernel)
/-- yX11_strike [0, '..'] -/
def ac_73 : aCon := (37, [(1, 0, 0, 0), (3, 0, -2147483648, 2147483647)], [], (3, 0, -1, 23), [], [(71, 2), (72, 0)], 2, [])
set_option maxRecDepth 1000000 in
theorem as_73 {Om : yMem → Prop} (hO : aOmF yoc Om) (hm : yman Om) : aSnd Om ac_73 := aSnd_of (T := []) hO (xnl) 46 (by decide +kernel) (by decide +kernel)
/-- yJ7_fill_53178 [61, '..'] -/
def ac_74 : aCon := (263, [(1, 61, 0, 0), (3, 0, -1, 5)], [], (99, 0, 0, 0), [], [(61, 0)], 1, [(5, 0, [([(0, (1, 61, 0, 0)), (1, (3, 0, -1, 5)), (2, (3, 0, 0, 12)), (3, (3, 0, 12, 12))], [], 2000, (1, 2, 0, -1, 13), (0, 0, 0, 0, 1099511627776))])])
set_option maxRecDepth 1000000 in
theorem as_74 {Om : yMem → Prop} (hO : aOmF yoc Om) (hm : yman Om) : aSnd Om ac_74 := aSnd_of (T := []) hO (xnl) 20 (by decide +kernel) (by decide +kernel)
/-- yX11_crackBoys [0] -/
def ac_75 : aCon := (8, [(1, 0, 0, 0)], [], (99, 0, 0, 0), [], [(57, 11), (57, 13), (73, 5), (73, 6), (74, 0), (75, 0)], 5, [(2, 0, [([(0, (1, 0, 0, 0)), (1, (3, 0, 0, 6))], [], 2000, (1, 1, 0, -1, 7), (0, 0, 0, 0, 1099511627776))])])
set_option maxRecDepth 1000000 in
theorem as_75 {Om : yMem → Prop} (hO : aOmF yoc Om) (hm : yman Om) : aSnd Om ac_75 := aSnd_of (T := [ac_33]) hO (xcns (as_33 hO hm) <| xnl) 89 (by decide +kernel) (by decide +kernel)
/-- yX11_sunday [0] -/
def ac_76 : aCon := (38, [(1, 0, 0, 0)], [], (3, 0, -2147483648, 2147483647), [], [(57, 7), (57, 8), (57, 11), (57, 13), (59, 0), (61, 0), (73, 5), (73, 6), (74, 0), (75, 0), (76, 11)], 6, [(4, 0, [([(0, (1, 0, 0, 0)), (1, (3, 0, -2147483648, 2147483647)), (2, (3, 0, 0, 12))], [], 2000, (1, 2, 0, -1, 13), (0, 0, 0, 0, 1099511627776))])])
set_option maxRecDepth 1000000 in
theorem as_76 {Om : yMem → Prop} (hO : aOmF yoc Om) (hm : yman Om) : aSnd Om ac_76 := aSnd_of (T := [ac_2, amc_bitc, ac_9, ac_74, ac_75]) hO (xcns (as_2 hO hm) <| xcns (hm.1) <| xcns (as_9 hO hm) <| xcns (as_74 hO hm) <| xcns (as_75 hO hm) <| xnl) 63 (by decide +kernel) (by decide +kernel)
/-- yX11_claimsOn [0, '..'] -/
def ac_77 : aCon := (6, [(1, 0, 0, 0), (3, 0, -2147483648, 2147483647)], [], (3, 0, -2147483648, 2147483647), [], [], 1, [(4, 0, [([(0, (1, 0, 0, 0)), (1, (3, 0, -2147483648, 2147483647)), (2, (3, 0, -2147483648, 2147483647)), (3, (3, 0, 0, 6))], [], 2000, (1, 3, 0, -1, 7), (0, 0, 0, 0, 1099511627776))])])
set_option maxRecDepth 1000000 in
theorem as_77 {Om : yMem → Prop} (hO : aOmF yoc Om) (hm : yman Om) : aSnd Om ac_77 := aSnd_of (T := []) hO (xnl) 34 (by decide +kernel) (by decide +kernel)
/-- yX11_tavern [0, '..', '..'] -/
def ac_78 : aCon := (40, [(1, 0, 0, 0), (3, 0, -2147483648, 2147483647), (3, 0, -2147483648, 2147483647)], [], (3, 0, -2147483648, 2147483647), [], [], 2, [])
set_option maxRecDepth 1000000 in
theorem as_78 {Om : yMem → Prop} (hO : aOmF yoc Om) (hm : yman Om) : aSnd Om ac_78 := aSnd_of (T := [ac_77]) hO (xcns (as_77 hO hm) <| xnl) 33 (by decide +kernel) (by decide +kernel)
/-- yX11_undo [0] -/
def ac_79 : aCon := (43, [(1, 0, 0, 0)], [], (3, 0, -2, 11), [], [(57, 7), (57, 9), (58, 0), (61, 0)], 2, [])
set_option maxRecDepth 1000000 in
theorem as_79 {Om : yMem → Prop} (hO : aOmF yoc Om) (hm : yman Om) : aSnd Om ac_79 := aSnd_of (T := []) hO (xnl) 107 (by decide +kernel) (by decide +kernel)
/-- yX11_verse [0, '..', '..'] -/
def ac_80 : aCon := (44, [(1, 0, 0, 0), (3, 0, -2147483648, 2147483647), (3, 0, -2147483648, 2147483647)], [], (3, 0, -1, 8), [], [], 3, [])
set_option maxRecDepth 1000000 in
theorem as_80 {Om : yMem → Prop} (hO : aOmF yoc Om) (hm : yman Om) : aSnd Om ac_80 := aSnd_of (T := []) hO (xnl) 78 (by decide +kernel) (by decide +kernel)
/-- yX11_whole [0, '..', '..', '..'] -/
def ac_81 : aCon := (45, [(1, 0, 0, 0), (3, 0, -2147483648, 2147483647), (3, 0, -2147483648, 2147483647), (3, 0, -2147483648, 2147483647)], [], (8, 0, 0, 0), [], [(73, 5), (73, 6), (74, 0), (75, 0)], 5, [(73, 0, [([(0, (1, 0, 0, 0)), (1, (3, 0, 0, 5)), (2, (3, 0, 0, 9)), (3, (3, 0, 0, 1)), (4, (8, 0, 0, 0)), (6, (8, 0, 0, 0)), (8, (3, 0, 0, 9))], [], 2000, (1, 8, 0, -1, 10), (0, 0, 0, 0, 1099511627776))])])
set_option maxRecDepth 1000000 in
theorem as_81 {Om : yMem → Prop} (hO : aOmF yoc Om) (hm : yman Om) : aSnd Om ac_81 := aSnd_of (T := [ac_33, ac_61]) hO (xcns (as_33 hO hm) <| xcns (as_61 hO hm) <| xnl) 71 (by decide +kernel) (by decide +kernel)
/-- yX12_feed [95, '..', '..', '..', '..', '..'] -/
def ac_82 : aCon := (167, [(1, 95, 0, 0), (3, 0, -2147483648, 2147483647), (3, 0, -2147483648, 2147483647), (3, 0, -2147483648, 2147483647), (3, 0, -2147483648, 2147483647), (3, 0, -2147483648, 2147483647)], [], (3, 0, -1, 800), [], [(95, 1), (95, 3), (96, 0)], 1, [(20, 0, [([(0, (1, 95, 0, 0)), (1, (3, 0, -2147483648, 2147483647)), (2, (3, 0, -2147483648, 2147483647)), (3, (3, 0, -2147483648, 2147483647)), (4, (3, 0, -2147483648, 2147483647)), (5, (3, 0, -2147483648, 2147483647)), (6, (3, 0, 0, 20))], [((95, 2), 0, 780)], 2000, (1, 6, 0, -1, 21), (0, 0, 0, 0, 1099511627776))])])
set_option maxRecDepth 1000000 in
theorem as_82 {Om : yMem → Prop} (hO : aOmF yoc Om) (hm : yman Om) : aSnd Om ac_82 := aSnd_of (T := []) hO (xnl) 49 (by decide +kernel) (by decide +kernel)
/-- yX12_fault [95, '..'] -/
def ac_83 : aCon := (166, [(1, 95, 0, 0), (3, 0, -2147483648, 2147483647)], [], (3, 0, -2147483648, 2147483647), [], [(95, 1)], 1, [])
set_option maxRecDepth 1000000 in
theorem as_83 {Om : yMem → Prop} (hO : aOmF yoc Om) (hm : yman Om) : aSnd Om ac_83 := aSnd_of (T := []) hO (xnl) 22 (by decide +kernel) (by decide +kernel)
/-- yX12_found [98, '..', '..', '..'] -/
def ac_84 : aCon := (168, [(1, 98, 0, 0), (3, 0, 0, 0), (3, 0, 0, 3), (3, 0, -2147483648, 2147483647)], [], (3, 0, -1, 2), [], [], 1, [(3, 0, [([(0, (1, 98, 0, 0)), (1, (3, 0, 0, 0)), (2, (3, 0, 0, 3)), (3, (3, 0, -2147483648, 2147483647)), (4, (3, 0, 0, 3))], [], 2000, (1, 4, 0, -1, 4), (0, 0, 0, 0, 1099511627776))])])
set_option maxRecDepth 1000000 in
theorem as_84 {Om : yMem → Prop} (hO : aOmF yoc Om) (hm : yman Om) : aSnd Om ac_84 := aSnd_of (T := []) hO (xnl) 23 (by decide +kernel) (by decide +kernel)
/-- yX12_found [112, '..', '..', '..'] -/
def ac_85 : aCon := (168, [(1, 112, 0, 0), (3, 0, 0, 0), (3, 0, 0, 3), (3, 0, -2147483648, 2147483647)], [], (3, 0, -1, 2), [], [], 1, [(3, 0, [([(0, (1, 112, 0, 0)), (1, (3, 0, 0, 0)), (2, (3, 0, 0, 3)), (3, (3, 0, -2147483648, 2147483647)), (4, (3, 0, 0, 3))], [], 2000, (1, 4, 0, -1, 4), (0, 0, 0, 0, 1099511627776))])])
set_option maxRecDepth 1000000 in
theorem as_85 {Om : yMem → Prop} (hO : aOmF yoc Om) (hm : yman Om) : aSnd Om ac_85 := aSnd_of (T := []) hO (xnl) 23 (by decide +kernel) (by decide +kernel)
/-- yX12_found [108, '..', '..', '..'] -/
def ac_86 : aCon := (168, [(1, 108, 0, 0), (3, 0, 0, 0), (3, 0, 0, 4), (3, 0, -2147483648, 2147483647)], [], (3, 0, -1, 3), [], [], 1, [(3, 0, [([(0, (1, 108, 0, 0)), (1, (3, 0, 0, 0)), (2, (3, 0, 0, 4)), (3, (3, 0, -2147483648, 2147483647)), (4, (3, 0, 0, 4))], [], 2000, (1, 4, 0, -1, 5), (0, 0, 0, 0, 1099511627776))])])
set_option maxRecDepth 1000000 in
theorem as_86 {Om : yMem → Prop} (hO : aOmF yoc Om) (hm : yman Om) : aSnd Om ac_86 := aSnd_of (T := []) hO (xnl) 23 (by decide +kernel) (by decide +kernel)
/-- yX12_found [101, '..', '..', '..'] -/
def ac_87 : aCon := (168, [(1, 101, 0, 0), (3, 0, 0, 0), (3, 0, 0, 6), (3, 0, -2147483648, 2147483647)], [], (3, 0, -1, 5), [], [], 1, [(3, 0, [([(0, (1, 101, 0, 0)), (1, (3, 0, 0, 0)), (2, (3, 0, 0, 6)), (3, (3, 0, -2147483648, 2147483647)), (4, (3, 0, 0, 6))], [], 2000, (1, 4, 0, -1, 7), (0, 0, 0, 0, 1099511627776))])])
set_option maxRecDepth 1000000 in
theorem as_87 {Om : yMem → Prop} (hO : aOmF yoc Om) (hm : yman Om) : aSnd Om ac_87 := aSnd_of (T := []) hO (xnl) 23 (by decide +kernel) (by decide +kernel)
/-- yX12_named [95, '..', '..'] -/
def ac_88 : aCon := (210, [(1, 95, 0, 0), (3, 0, -2147483648, 2147483647), (3, 0, -2147483648, 2147483647)], [], (3, 0, -1, 5), [], [(95, 1)], 2, [])
set_option maxRecDepth 1000000 in
theorem as_88 {Om : yMem → Prop} (hO : aOmF yoc Om) (hm : yman Om) : aSnd Om ac_88 := aSnd_of (T := [ac_84, ac_85, ac_86, ac_87]) hO (xcns (as_84 hO hm) <| xcns (as_85 hO hm) <| xcns (as_86 hO hm) <| xcns (as_87 hO hm) <| xnl) 25 (by decide +kernel) (by decide +kernel)
/-- yX12_look [95, '..', '..'] -/
def ac_89 : aCon := (207, [(1, 95, 0, 0), (3, 0, -2147483648, 2147483647), (3, 0, -2147483648, 2147483647)], [], (3, 0, -2147483648, 2147483647), [], [(95, 1)], 2, [])
set_option maxRecDepth 1000000 in
theorem as_89 {Om : yMem → Prop} (hO : aOmF yoc Om) (hm : yman Om) : aSnd Om ac_89 := aSnd_of (T := []) hO (xnl) 62 (by decide +kernel) (by decide +kernel)
