set_option maxRecDepth 1000000 in
theorem xrun_17 : xone (xeT xmt xds false 8000 xm_L1 xnos 400 23 xlv0 [] xK0 144 14558 (xκ 2147483665 2147483665)) = true := by decide +kernel
