set_option maxRecDepth 1000000 in
theorem xrun_0 : xone (xeT xmt xds false 8000 xm_L1 xnos 400 23 xlv0 [] xK0 144 14558 (xκ 2147483648 2147483648)) = true := by decide +kernel
set_option maxRecDepth 1000000 in
theorem xrun_1 : xone (xeT xmt xds false 8000 xm_L1 xnos 400 23 xlv0 [] xK0 144 14558 (xκ 2147483649 2147483649)) = true := by decide +kernel
set_option maxRecDepth 1000000 in
theorem xrun_2 : xone (xeT xmt xds false 8000 xm_L1 xnos 400 23 xlv0 [] xK0 144 14558 (xκ 2147483650 2147483650)) = true := by decide +kernel
set_option maxRecDepth 1000000 in
theorem xrun_3 : xone (xeT xmt xds false 8000 xm_L1 xnos 400 23 xlv0 [] xK0 144 14558 (xκ 2147483651 2147483651)) = true := by decide +kernel
set_option maxRecDepth 1000000 in
theorem xrun_4 : xone (xeT xmt xds false 8000 xm_L1 xnos 400 23 xlv0 [] xK0 144 14558 (xκ 2147483652 2147483652)) = true := by decide +kernel
set_option maxRecDepth 1000000 in
theorem xrun_5 : xone (xeT xmt xds false 8000 xm_L1 xnos 400 23 xlv0 [] xK0 144 14558 (xκ 2147483653 2147483653)) = true := by decide +kernel
set_option maxRecDepth 1000000 in
theorem xrun_6 : xone (xeT xmt xds false 8000 xm_L1 xnos 400 23 xlv0 [] xK0 144 14558 (xκ 2147483654 2147483654)) = true := by decide +kernel
set_option maxRecDepth 1000000 in
theorem xrun_7 : xone (xeT xmt xds false 8000 xm_L1 xnos 400 23 xlv0 [] xK0 144 14558 (xκ 2147483655 2147483655)) = true := by decide +kernel
set_option maxRecDepth 1000000 in
theorem xrun_8 : xone (xeT xmt xds false 8000 xm_L1 xnos 400 23 xlv0 [] xK0 144 14558 (xκ 2147483656 2147483656)) = true := by decide +kernel
set_option maxRecDepth 1000000 in
theorem xrun_9 : xone (xeT xmt xds false 8000 xm_L1 xnos 400 23 xlv0 [] xK0 144 14558 (xκ 2147483657 2147483657)) = true := by decide +kernel
set_option maxRecDepth 1000000 in
theorem xrun_10 : xone (xeT xmt xds false 8000 xm_L1 xnos 400 23 xlv0 [] xK0 144 14558 (xκ 2147483658 2147483658)) = true := by decide +kernel
set_option maxRecDepth 1000000 in
theorem xrun_11 : xone (xeT xmt xds false 8000 xm_L1 xnos 400 23 xlv0 [] xK0 144 14558 (xκ 2147483659 2147483659)) = true := by decide +kernel
set_option maxRecDepth 1000000 in
theorem xrun_12 : xone (xeT xmt xds false 8000 xm_L1 xnos 400 23 xlv0 [] xK0 144 14558 (xκ 2147483660 2147483660)) = true := by decide +kernel
set_option maxRecDepth 1000000 in
theorem xrun_13 : xone (xeT xmt xds false 8000 xm_L1 xnos 400 23 xlv0 [] xK0 144 14558 (xκ 2147483661 2147483661)) = true := by decide +kernel
set_option maxRecDepth 1000000 in
theorem xrun_14 : xone (xeT xmt xds false 8000 xm_L1 xnos 400 23 xlv0 [] xK0 144 14558 (xκ 2147483662 2147483662)) = true := by decide +kernel
set_option maxRecDepth 1000000 in
theorem xrun_15 : xone (xeT xmt xds false 8000 xm_L1 xnos 400 23 xlv0 [] xK0 144 14558 (xκ 2147483663 2147483663)) = true := by decide +kernel
set_option maxRecDepth 1000000 in
theorem xrun_16 : xone (xeT xmt xds false 8000 xm_L1 xnos 400 23 xlv0 [] xK0 144 14558 (xκ 2147483664 2147483664)) = true := by decide +kernel
set_option maxRecDepth 1000000 in
theorem xrun_18 : xone (xeT xmt xds false 8000 xm_L1 xnos 400 23 xlv0 [] xK0 144 14558 (xκ 2147483666 2147483666)) = true := by decide +kernel
set_option maxRecDepth 1000000 in
theorem xrun_19 : xone (xeT xmt xds false 8000 xm_L1 xnos 400 23 xlv0 [] xK0 144 14558 (xκ 2147483667 2147483667)) = true := by decide +kernel
set_option maxRecDepth 1000000 in
theorem xrun_20 : xone (xeT xmt xds false 8000 xm_L1 xnos 400 23 xlv0 [] xK0 144 14558 (xκ 2147483668 2147483668)) = true := by decide +kernel
set_option maxRecDepth 1000000 in
theorem xrun_21 : xone (xeT xmt xds false 8000 xm_L1 xnos 400 23 xlv0 [] xK0 144 14558 (xκ 2147483669 2147483669)) = true := by decide +kernel
set_option maxRecDepth 1000000 in
theorem xrun_22 : xone (xeT xmt xds false 8000 xm_L1 xnos 400 23 xlv0 [] xK0 144 14558 (xκ 2147483670 2147483670)) = true := by decide +kernel
set_option maxRecDepth 1000000 in
theorem xrun_23 : xone (xeT xmt xds false 8000 xm_L1 xnos 400 23 xlv0 [] xK0 144 14558 (xκ 2147483671 2147483671)) = true := by decide +kernel
set_option maxRecDepth 1000000 in
theorem xrun_24 : xone (xeT xmt xds false 8000 xm_L1 xnos 400 23 xlv0 [] xK0 144 14558 (xκ 2147483672 2147483672)) = true := by decide +kernel
set_option maxRecDepth 1000000 in
theorem xrun_25 : xone (xeT xmt xds false 8000 xm_L1 xnos 400 23 xlv0 [] xK0 144 14558 (xκ 2147483673 2147483673)) = true := by decide +kernel
set_option maxRecDepth 1000000 in
theorem xrun_26 : xone (xeT xmt xds false 8000 xm_L1 xnos 400 23 xlv0 [] xK0 144 14558 (xκ 2147483674 2147483674)) = true := by decide +kernel
set_option maxRecDepth 1000000 in
theorem xrun_27 : xone (xeT xmt xds false 8000 xm_L1 xnos 400 23 xlv0 [] xK0 144 14558 (xκ 2147483675 2147483675)) = true := by decide +kernel
set_option maxRecDepth 1000000 in
theorem xrun_28 : xone (xeT xmt xds false 8000 xm_L1 xnos 400 23 xlv0 [] xK0 144 14558 (xκ 2147483676 2147483676)) = true := by decide +kernel
set_option maxRecDepth 1000000 in
theorem xrun_29 : xone (xeT xmt xds false 8000 xm_L1 xnos 400 23 xlv0 [] xK0 144 14558 (xκ 2147483677 2147483677)) = true := by decide +kernel
set_option maxRecDepth 1000000 in
theorem xrun_30 : xone (xeT xmt xds false 8000 xm_L1 xnos 400 23 xlv0 [] xK0 144 14558 (xκ 2147483678 2147483678)) = true := by decide +kernel
set_option maxRecDepth 1000000 in
theorem xrun_31 : xone (xeT xmt xds false 8000 xm_L1 xnos 400 23 xlv0 [] xK0 144 14558 (xκ 2147483679 2147483679)) = true := by decide +kernel
set_option maxRecDepth 1000000 in
theorem xrun_32 : xone (xeT xmt xds false 8000 xm_L1 xnos 400 23 xlv0 [] xK0 144 14558 (xκ 2147483680 2147483680)) = true := by decide +kernel
set_option maxRecDepth 1000000 in
theorem xrun_33 : xone (xeT xmt xds false 8000 xm_L1 xnos 400 23 xlv0 [] xK0 144 14558 (xκ 2147483681 2147483681)) = true := by decide +kernel
set_option maxRecDepth 1000000 in
theorem xrun_34 : xone (xeT xmt xds false 8000 xm_L1 xnos 400 23 xlv0 [] xK0 144 14558 (xκ 2147483682 2147483682)) = true := by decide +kernel
set_option maxRecDepth 1000000 in
theorem xrun_35 : xone (xeT xmt xds false 8000 xm_L1 xnos 400 23 xlv0 [] xK0 144 14558 (xκ 2147483683 2147483711)) = true := by decide +kernel
theorem xrunS_0 : xone (xeT xmt [(98, (0, 0), (0, 0))] false 10 xm_L1 xnos 20 23 xlv0 [] xK0 144 14558 ([], [])) = true := by decide +kernel
theorem xrunS_1 : xone (xeT xmt [(98, (0, 1), (0, 0))] false 10 xm_L1 xnos 20 23 xlv0 [] xK0 144 14558 ([], [])) = true := by decide +kernel
theorem xrunS_2 : xone (xeT xmt [(98, (0, 2), (0, 0))] false 10 xm_L1 xnos 20 23 xlv0 [] xK0 144 14558 ([], [])) = true := by decide +kernel
theorem xrunS_3 : xone (xeT xmt [(98, (0, 3), (0, 0))] false 10 xm_L1 xnos 20 23 xlv0 [] xK0 144 14558 ([], [])) = true := by decide +kernel
theorem xrunS_4 : xone (xeT xmt [(98, (0, 4), (0, 0))] false 10 xm_L1 xnos 20 23 xlv0 [] xK0 144 14558 ([], [])) = true := by decide +kernel
theorem xrunS_5 : xone (xeT xmt [(98, (0, 5), (0, 0))] false 10 xm_L1 xnos 20 23 xlv0 [] xK0 144 14558 ([], [])) = true := by decide +kernel
theorem xrunK : ∀ j, j < 35 → j ≠ 17 → xone (xeT xmt xds false 8000 xm_L1 xnos 400 23 xlv0 [] xK0 144 14558 (xκ (2147483648 + j) (2147483648 + j))) = true
  | 0, _, h => xrun_0
  | 1, _, h => xrun_1
  | 2, _, h => xrun_2
  | 3, _, h => xrun_3
  | 4, _, h => xrun_4
  | 5, _, h => xrun_5
  | 6, _, h => xrun_6
  | 7, _, h => xrun_7
  | 8, _, h => xrun_8
  | 9, _, h => xrun_9
  | 10, _, h => xrun_10
  | 11, _, h => xrun_11
  | 12, _, h => xrun_12
  | 13, _, h => xrun_13
  | 14, _, h => xrun_14
  | 15, _, h => xrun_15
  | 16, _, h => xrun_16
  | 17, _, h => absurd rfl h
  | 18, _, h => xrun_18
  | 19, _, h => xrun_19
  | 20, _, h => xrun_20
  | 21, _, h => xrun_21
  | 22, _, h => xrun_22
  | 23, _, h => xrun_23
  | 24, _, h => xrun_24
  | 25, _, h => xrun_25
  | 26, _, h => xrun_26
  | 27, _, h => xrun_27
  | 28, _, h => xrun_28
  | 29, _, h => xrun_29
  | 30, _, h => xrun_30
  | 31, _, h => xrun_31
  | 32, _, h => xrun_32
  | 33, _, h => xrun_33
  | 34, _, h => xrun_34
  | n + 35, h, _ => absurd h (by omega)
theorem xrunL : ∀ L, L < 6 → xone (xeT xmt [(98, (0, L), (0, 0))] false 10 xm_L1 xnos 20 23 xlv0 [] xK0 144 14558 ([], [])) = true
  | 0, _ => xrunS_0
  | 1, _ => xrunS_1
  | 2, _ => xrunS_2
  | 3, _ => xrunS_3
  | 4, _ => xrunS_4
  | 5, _ => xrunS_5
  | n + 6, h => absurd h (by omega)
