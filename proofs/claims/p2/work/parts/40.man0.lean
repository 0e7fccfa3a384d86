/-- the cells that contracts of runs leave as they are -/
def yoc : List Nat := [114, 115, 116, 117, 126, 127, 128]
