def amc_bitc : aCon := (255, [(3, 0, 0, 255)], [], (3, 0, 0, 8), [], [], 1, [])
theorem ams_bitc {Om : yMem → Prop} (hO : aOmF yoc Om) : aSnd Om amc_bitc := by sorry
def amc_isbest : aCon := (53, [(1, 76, 0, 0), (3, 0, 0, 3), (3, 0, -2147483648, 96)], [], (3, 0, 0, 1), [], [], 1, [])
theorem ams_isbest {Om : yMem → Prop} (hO : aOmF yoc Om) : aSnd Om amc_isbest := by sorry
