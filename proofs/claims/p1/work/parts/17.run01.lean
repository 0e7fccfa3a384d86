set_option maxRecDepth 1000000 in
theorem xrun_0 : xone (xeT xmt xds false 8000 xm_L1 xnos 400 23 xlv0 [] xK0 144 14558 (xκ 2147483648 2147483648)) = true := by decide +kernel
set_option maxRecDepth 1000000 in
theorem xrun_1 : xone (xeT xmt xds false 8000 xm_L1 xnos 400 23 xlv0 [] xK0 144 14558 (xκ 2147483649 2147483649)) = true := by decide +kernel
set_option maxRecDepth 1000000 in
theorem xrun_2 : xone (xeT xmt xds false 8000 xm_L1 xnos 400 23 xlv0 [] xK0 144 14558 (xκ 2147483650 2147483650)) = true := by decide +kernel
set_option maxRecDepth 1000000 in
theorem xrun_3 : xone (xeT xmt xds false 8000 xm_L1 xnos 400 23 xlv0 [] xK0 144 14558 (xκ 2147483651 2147483651)) = true := by decide +kernel
set_option maxRecDepth 1000000 in
theorem xrun_4 : xone (xeT xmt xds false 8000 xm_L1 xnos 400 23 xlv0 [] xK0 144 14558 (xκ 2147483652 2147483652)) = true := by decide +kernel
set_option maxRecDepth 1000000 in
theorem xrun_5 : xone (xeT xmt xds false 8000 xm_L1 xnos 400 23 xlv0 [] xK0 144 14558 (xκ 2147483653 2147483653)) = true := by decide +kernel
set_option maxRecDepth 1000000 in
theorem xrun_6 : xone (xeT xmt xds false 8000 xm_L1 xnos 400 23 xlv0 [] xK0 144 14558 (xκ 2147483654 2147483654)) = true := by decide +kernel
set_option maxRecDepth 1000000 in
theorem xrun_7 : xone (xeT xmt xds false 8000 xm_L1 xnos 400 23 xlv0 [] xK0 144 14558 (xκ 2147483655 2147483655)) = true := by decide +kernel
set_option maxRecDepth 1000000 in
theorem xrun_8 : xone (xeT xmt xds false 8000 xm_L1 xnos 400 23 xlv0 [] xK0 144 14558 (xκ 2147483656 2147483656)) = true := by decide +kernel
set_option maxRecDepth 1000000 in
theorem xrun_9 : xone (xeT xmt xds false 8000 xm_L1 xnos 400 23 xlv0 [] xK0 144 14558 (xκ 2147483657 2147483657)) = true := by decide +kernel
set_option maxRecDepth 1000000 in
theorem xrun_10 : xone (xeT xmt xds false 8000 xm_L1 xnos 400 23 xlv0 [] xK0 144 14558 (xκ 2147483658 2147483658)) = true := by decide +kernel
set_option maxRecDepth 1000000 in
theorem xrun_11 : xone (xeT xmt xds false 8000 xm_L1 xnos 400 23 xlv0 [] xK0 144 14558 (xκ 2147483659 2147483659)) = true := by decide +kernel
set_option maxRecDepth 1000000 in
theorem xrun_12 : xone (xeT xmt xds false 8000 xm_L1 xnos 400 23 xlv0 [] xK0 144 14558 (xκ 2147483660 2147483660)) = true := by decide +kernel
set_option maxRecDepth 1000000 in
theorem xrun_13 : xone (xeT xmt xds false 8000 xm_L1 xnos 400 23 xlv0 [] xK0 144 14558 (xκ 2147483661 2147483661)) = true := by decide +kernel
set_option maxRecDepth 1000000 in
theorem xrun_14 : xone (xeT xmt xds false 8000 xm_L1 xnos 400 23 xlv0 [] xK0 144 14558 (xκ 2147483662 2147483662)) = true := by decide +kernel
set_option maxRecDepth 1000000 in
theorem xrun_15 : xone (xeT xmt xds false 8000 xm_L1 xnos 400 23 xlv0 [] xK0 144 14558 (xκ 2147483663 2147483663)) = true := by decide +kernel
set_option maxRecDepth 1000000 in
theorem xrun_16 : xone (xeT xmt xds false 8000 xm_L1 xnos 400 23 xlv0 [] xK0 144 14558 (xκ 2147483664 2147483664)) = true := by decide +kernel
set_option maxRecDepth 1000000 in
theorem xrun_18 : xone (xeT xmt xds false 8000 xm_L1 xnos 400 23 xlv0 [] xK0 144 14558 (xκ 2147483666 2147483666)) = true := by decide +kernel
set_option maxRecDepth 1000000 in
theorem xrun_19 : xone (xeT xmt xds false 8000 xm_L1 xnos 400 23 xlv0 [] xK0 144 14558 (xκ 2147483667 2147483667)) = true := by decide +kernel
set_option maxRecDepth 1000000 in
theorem xrun_20 : xone (xeT xmt xds false 8000 xm_L1 xnos 400 23 xlv0 [] xK0 144 14558 (xκ 2147483668 2147483668)) = true := by decide +kernel
set_option maxRecDepth 1000000 in
theorem xrun_21 : xone (xeT xmt xds false 8000 xm_L1 xnos 400 23 xlv0 [] xK0 144 14558 (xκ 2147483669 2147483669)) = true := by decide +kernel
set_option maxRecDepth 1000000 in
theorem xrun_22 : xone (xeT xmt xds false 8000 xm_L1 xnos 400 23 xlv0 [] xK0 144 14558 (xκ 2147483670 2147483670)) = true := by decide +kernel
set_option maxRecDepth 1000000 in
theorem xrun_23 : xone (xeT xmt xds false 8000 xm_L1 xnos 400 23 xlv0 [] xK0 144 14558 (xκ 2147483671 2147483671)) = true := by decide +kernel
set_option maxRecDepth 1000000 in
theorem xrun_24 : xone (xeT xmt xds false 8000 xm_L1 xnos 400 23 xlv0 [] xK0 144 14558 (xκ 2147483672 2147483672)) = true := by decide +kernel
set_option maxRecDepth 1000000 in
theorem xrun_25 : xone (xeT xmt xds false 8000 xm_L1 xnos 400 23 xlv0 [] xK0 144 14558 (xκ 2147483673 2147483673)) = true := by decide +kernel
set_option maxRecDepth 1000000 in
theorem xrun_26 : xone (xeT xmt xds false 8000 xm_L1 xnos 400 23 xlv0 [] xK0 144 14558 (xκ 2147483674 2147483674)) = true := by decide +kernel
set_option maxRecDepth 1000000 in
theorem xrun_27 : xone (xeT xmt xds false 8000 xm_L1 xnos 400 23 xlv0 [] xK0 144 14558 (xκ 2147483675 2147483675)) = true := by decide +kernel
set_option maxRecDepth 1000000 in
theorem xrun_28 : xone (xeT xmt xds false 8000 xm_L1 xnos 400 23 xlv0 [] xK0 144 14558 (xκ 2147483676 2147483676)) = true := by decide +kernel
set_option maxRecDepth 1000000 in
theorem xrun_29 : xone (xeT xmt xds false 8000 xm_L1 xnos 400 23 xlv0 [] xK0 144 14558 (xκ 2147483677 2147483677)) = true := by decide +kernel
set_option maxRecDepth 1000000 in
theorem xrun_30 : xone (xeT xmt xds false 8000 xm_L1 xnos 400 23 xlv0 [] xK0 144 14558 (xκ 2147483678 2147483678)) = true := by decide +kernel
set_option maxRecDepth 1000000 in
theorem xrun_31 : xone (xeT xmt xds false 8000 xm_L1 xnos 400 23 xlv0 [] xK0 144 14558 (xκ 2147483679 2147483679)) = true := by decide +kernel
set_option maxRecDepth 1000000 in
theorem xrun_32 : xone (xeT xmt xds false 8000 xm_L1 xnos 400 23 xlv0 [] xK0 144 14558 (xκ 2147483680 2147483680)) = true := by decide +kernel
set_option maxRecDepth 1000000 in
theorem xrun_33 : xone (xeT xmt xds false 8000 xm_L1 xnos 400 23 xlv0 [] xK0 144 14558 (xκ 2147483681 2147483681)) = true := by decide +kernel
set_option maxRecDepth 1000000 in
theorem xrun_34 : xone (xeT xmt xds false 8000 xm_L1 xnos 400 23 xlv0 [] xK0 144 14558 (xκ 2147483682 2147483682)) = true := by decide +kernel
set_option maxRecDepth 1000000 in
theorem xrun_35 : xone (xeT xmt xds false 8000 xm_L1 xnos 400 23 xlv0 [] xK0 144 14558 (xκ 2147483683 2147483711)) = true := by decide +kernel
