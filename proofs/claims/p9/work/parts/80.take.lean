def abc_take : aCon := (86, [(1, 2, 0, 0), (1, 28, 0, 0)], [], (99, 0, 0, 0), [], [(2, 17), (2, 18), (2, 19), (3, 2), (4, 0), (5, 2), (6, 0), (7, 2), (8, 0), (9, 2), (10, 0), (11, 0), (12, 0), (13, 0), (14, 0), (15, 0), (16, 0), (17, 0), (18, 0), (19, 0), (20, 0), (21, 0), (22, 5), (23, 0), (24, 0), (25, 0), (26, 0)], 2, [])
set_option maxRecDepth 1000000 in
theorem abs_take {Om : yMem → Prop} (hO : aOmF yoc Om) (hm : yman Om) : aSnd Om abc_take := aSnd_of (T := []) hO (xnl) 263 (by decide +kernel) (by decide +kernel)
def abc_begin : aCon := (135, [(1, 57, 0, 0), (1, 2, 0, 0)], [], (99, 0, 0, 0), [], [(57, 7), (57, 8), (57, 9), (57, 10), (57, 11), (57, 12), (57, 13), (58, 0), (59, 0), (60, 0), (61, 0)], 3, [])
set_option maxRecDepth 1000000 in
theorem abs_begin {Om : yMem → Prop} (hO : aOmF yoc Om) (hm : yman Om) : aSnd Om abc_begin := aSnd_of (T := [ac_154, ac_155, ac_156, ac_74]) hO (xcns (as_154 hO hm) <| xcns (as_155 hO hm) <| xcns (as_156 hO hm) <| xcns (as_74 hO hm) <| xnl) 73 (by decide +kernel) (by decide +kernel)
