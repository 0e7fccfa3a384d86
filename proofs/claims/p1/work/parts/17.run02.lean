def xκb (a c : Nat) : xK := ([], [(0, 4294967295), (0, 4294967295), (a, c), (0, 4294967295), (0, 4294967295), (0, 4294967295), (0, 4294967295), (2147483665, 2147483665)])
set_option maxRecDepth 1000000 in
theorem xrunB_0 : xone (xeT xmt xds false 45000 xm_L1 xnos 400 23 xlv0 [] xK0 144 14558 (xκb 0 2147483647)) = true := by decide +kernel
set_option maxRecDepth 1000000 in
theorem xrunB_1 : xone (xeT xmt xds false 45000 xm_L1 xnos 400 23 xlv0 [] xK0 144 14558 (xκb 2147483648 2147483747)) = true := by decide +kernel
set_option maxRecDepth 1000000 in
theorem xrunB_2 : xone (xeT xmt xds false 45000 xm_L1 xnos 400 23 xlv0 [] xK0 144 14558 (xκb 2147483748 2147483847)) = true := by decide +kernel
set_option maxRecDepth 1000000 in
theorem xrunB_3 : xone (xeT xmt xds false 45000 xm_L1 xnos 400 23 xlv0 [] xK0 144 14558 (xκb 2147483848 2147483947)) = true := by decide +kernel
set_option maxRecDepth 1000000 in
theorem xrunB_4 : xone (xeT xmt xds false 45000 xm_L1 xnos 400 23 xlv0 [] xK0 144 14558 (xκb 2147483948 2147484047)) = true := by decide +kernel
set_option maxRecDepth 1000000 in
theorem xrunB_5 : xone (xeT xmt xds false 45000 xm_L1 xnos 400 23 xlv0 [] xK0 144 14558 (xκb 2147484048 2147484147)) = true := by decide +kernel
set_option maxRecDepth 1000000 in
theorem xrunB_6 : xone (xeT xmt xds false 45000 xm_L1 xnos 400 23 xlv0 [] xK0 144 14558 (xκb 2147484148 2147484247)) = true := by decide +kernel
set_option maxRecDepth 1000000 in
theorem xrunB_7 : xone (xeT xmt xds false 45000 xm_L1 xnos 400 23 xlv0 [] xK0 144 14558 (xκb 2147484248 2147484347)) = true := by decide +kernel
set_option maxRecDepth 1000000 in
theorem xrunB_8 : xone (xeT xmt xds false 45000 xm_L1 xnos 400 23 xlv0 [] xK0 144 14558 (xκb 2147484348 2147484447)) = true := by decide +kernel
set_option maxRecDepth 1000000 in
theorem xrunB_9 : xone (xeT xmt xds false 45000 xm_L1 xnos 400 23 xlv0 [] xK0 144 14558 (xκb 2147484448 2147484547)) = true := by decide +kernel
set_option maxRecDepth 1000000 in
theorem xrunB_10 : xone (xeT xmt xds false 45000 xm_L1 xnos 400 23 xlv0 [] xK0 144 14558 (xκb 2147484548 2147484647)) = true := by decide +kernel
set_option maxRecDepth 1000000 in
theorem xrunB_11 : xone (xeT xmt xds false 45000 xm_L1 xnos 400 23 xlv0 [] xK0 144 14558 (xκb 2147484648 4294967295)) = true := by decide +kernel
theorem xrunB (z : Nat) (hz : z < 4294967296) : ∃ a c : Nat, a ≤ z ∧ z ≤ c ∧ xone (xeT xmt xds false 45000 xm_L1 xnos 400 23 xlv0 [] xK0 144 14558 (xκb a c)) = true := by
  by_cases h0 : z ≤ 2147483647
  · exact ⟨0, 2147483647, by omega, h0, xrunB_0⟩
  by_cases h1 : z ≤ 2147483747
  · exact ⟨2147483648, 2147483747, by omega, h1, xrunB_1⟩
  by_cases h2 : z ≤ 2147483847
  · exact ⟨2147483748, 2147483847, by omega, h2, xrunB_2⟩
  by_cases h3 : z ≤ 2147483947
  · exact ⟨2147483848, 2147483947, by omega, h3, xrunB_3⟩
  by_cases h4 : z ≤ 2147484047
  · exact ⟨2147483948, 2147484047, by omega, h4, xrunB_4⟩
  by_cases h5 : z ≤ 2147484147
  · exact ⟨2147484048, 2147484147, by omega, h5, xrunB_5⟩
  by_cases h6 : z ≤ 2147484247
  · exact ⟨2147484148, 2147484247, by omega, h6, xrunB_6⟩
  by_cases h7 : z ≤ 2147484347
  · exact ⟨2147484248, 2147484347, by omega, h7, xrunB_7⟩
  by_cases h8 : z ≤ 2147484447
  · exact ⟨2147484348, 2147484447, by omega, h8, xrunB_8⟩
  by_cases h9 : z ≤ 2147484547
  · exact ⟨2147484448, 2147484547, by omega, h9, xrunB_9⟩
  by_cases h10 : z ≤ 2147484647
  · exact ⟨2147484548, 2147484647, by omega, h10, xrunB_10⟩
  exact ⟨2147484648, 4294967295, by omega, by omega, xrunB_11⟩
