set_option maxRecDepth 1000000 in
theorem xpro : xnil (xeT xmt [] true 6000 xm_L0 xstp0 50 0 [(0, (5, 50))] [] [] 0 0 ([], [])) = true := by decide +kernel
