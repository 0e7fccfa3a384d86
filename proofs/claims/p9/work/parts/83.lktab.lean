theorem dX11_look_0 : decode cX11_look 0 = .ok (.aload_n 0, 1) := by decide +kernel
theorem dX11_look_1 : decode cX11_look 1 = .ok (.getfield 16, 3) := by decide +kernel
theorem dX11_look_4 : decode cX11_look 4 = .ok (.getfield 136, 3) := by decide +kernel
theorem dX11_look_7 : decode cX11_look 7 = .ok (.iload_n 1, 1) := by decide +kernel
theorem dX11_look_8 : decode cX11_look 8 = .ok (.invokevirtual 145, 3) := by decide +kernel
theorem dX11_look_11 : decode cX11_look 11 = .ok (.ifCond .ne 13, 3) := by decide +kernel
theorem dX11_look_24 : decode cX11_look 24 = .ok (.iload_n 2, 1) := by decide +kernel
theorem dX11_look_25 : decode cX11_look 25 = .ok (.tableswitch 121 0 5 #[39, 49, 59, 69, 79, 89], 39) := by decide +kernel
theorem dX11_look_64 : decode cX11_look 64 = .ok (.aload_n 0, 1) := by decide +kernel
theorem dX11_look_65 : decode cX11_look 65 = .ok (.getfield 16, 3) := by decide +kernel
theorem dX11_look_68 : decode cX11_look 68 = .ok (.getfield 156, 3) := by decide +kernel
theorem dX11_look_71 : decode cX11_look 71 = .ok (.iload_n 1, 1) := by decide +kernel
theorem dX11_look_72 : decode cX11_look 72 = .ok (.iaload, 1) := by decide +kernel
theorem dX11_look_73 : decode cX11_look 73 = .ok (.ireturn, 1) := by decide +kernel
theorem dX11_look_74 : decode cX11_look 74 = .ok (.aload_n 0, 1) := by decide +kernel
theorem dX11_look_75 : decode cX11_look 75 = .ok (.getfield 16, 3) := by decide +kernel
theorem dX11_look_78 : decode cX11_look 78 = .ok (.getfield 160, 3) := by decide +kernel
theorem dX11_look_81 : decode cX11_look 81 = .ok (.iload_n 1, 1) := by decide +kernel
theorem dX11_look_82 : decode cX11_look 82 = .ok (.iaload, 1) := by decide +kernel
theorem dX11_look_83 : decode cX11_look 83 = .ok (.ireturn, 1) := by decide +kernel
theorem dX11_look_84 : decode cX11_look 84 = .ok (.aload_n 0, 1) := by decide +kernel
theorem dX11_look_85 : decode cX11_look 85 = .ok (.getfield 16, 3) := by decide +kernel
theorem dX11_look_88 : decode cX11_look 88 = .ok (.getfield 163, 3) := by decide +kernel
theorem dX11_look_91 : decode cX11_look 91 = .ok (.iload_n 1, 1) := by decide +kernel
theorem dX11_look_92 : decode cX11_look 92 = .ok (.iaload, 1) := by decide +kernel
theorem dX11_look_93 : decode cX11_look 93 = .ok (.ireturn, 1) := by decide +kernel
theorem dX11_look_94 : decode cX11_look 94 = .ok (.aload_n 0, 1) := by decide +kernel
theorem dX11_look_95 : decode cX11_look 95 = .ok (.getfield 16, 3) := by decide +kernel
theorem dX11_look_98 : decode cX11_look 98 = .ok (.getfield 166, 3) := by decide +kernel
theorem dX11_look_101 : decode cX11_look 101 = .ok (.iload_n 1, 1) := by decide +kernel
theorem dX11_look_102 : decode cX11_look 102 = .ok (.iaload, 1) := by decide +kernel
theorem dX11_look_103 : decode cX11_look 103 = .ok (.ireturn, 1) := by decide +kernel
theorem dX11_look_104 : decode cX11_look 104 = .ok (.aload_n 0, 1) := by decide +kernel
theorem dX11_look_105 : decode cX11_look 105 = .ok (.getfield 40, 3) := by decide +kernel
theorem dX11_look_108 : decode cX11_look 108 = .ok (.getfield 169, 3) := by decide +kernel
theorem dX11_look_111 : decode cX11_look 111 = .ok (.iload_n 1, 1) := by decide +kernel
theorem dX11_look_112 : decode cX11_look 112 = .ok (.iaload, 1) := by decide +kernel
theorem dX11_look_113 : decode cX11_look 113 = .ok (.ireturn, 1) := by decide +kernel
theorem dX11_look_114 : decode cX11_look 114 = .ok (.aload_n 0, 1) := by decide +kernel
theorem dX11_look_115 : decode cX11_look 115 = .ok (.getfield 40, 3) := by decide +kernel
theorem dX11_look_118 : decode cX11_look 118 = .ok (.iload_n 1, 1) := by decide +kernel
theorem dX11_look_119 : decode cX11_look 119 = .ok (.invokevirtual 172, 3) := by decide +kernel
theorem dX11_look_122 : decode cX11_look 122 = .ok (.ifCond .eq 7, 3) := by decide +kernel
theorem dX11_look_125 : decode cX11_look 125 = .ok (.iconst 2, 1) := by decide +kernel
theorem dX11_look_126 : decode cX11_look 126 = .ok (.goto 19, 3) := by decide +kernel
theorem dX11_look_129 : decode cX11_look 129 = .ok (.aload_n 0, 1) := by decide +kernel
theorem dX11_look_130 : decode cX11_look 130 = .ok (.getfield 16, 3) := by decide +kernel
theorem dX11_look_133 : decode cX11_look 133 = .ok (.iload_n 1, 1) := by decide +kernel
theorem dX11_look_134 : decode cX11_look 134 = .ok (.invokevirtual 175, 3) := by decide +kernel
theorem dX11_look_137 : decode cX11_look 137 = .ok (.ifCond .eq 7, 3) := by decide +kernel
theorem dX11_look_140 : decode cX11_look 140 = .ok (.iconst 1, 1) := by decide +kernel
theorem dX11_look_141 : decode cX11_look 141 = .ok (.goto 4, 3) := by decide +kernel
theorem dX11_look_144 : decode cX11_look 144 = .ok (.iconst 0, 1) := by decide +kernel
theorem dX11_look_145 : decode cX11_look 145 = .ok (.ireturn, 1) := by decide +kernel
theorem dX11_look_14 : decode cX11_look 14 = .ok (.new 149, 3) := by decide +kernel
theorem dX11_look_17 : decode cX11_look 17 = .ok (.dup, 1) := by decide +kernel
theorem dX11_look_18 : decode cX11_look 18 = .ok (.ldc 151, 2) := by decide +kernel
theorem dX11_look_20 : decode cX11_look 20 = .ok (.invokespecial 153, 3) := by decide +kernel
theorem dX11_look_23 : decode cX11_look 23 = .ok (.athrow, 1) := by decide +kernel
theorem dX11_look_146 : decode cX11_look 146 = .ok (.new 178, 3) := by decide +kernel
theorem dX11_look_149 : decode cX11_look 149 = .ok (.dup, 1) := by decide +kernel
theorem dX11_look_150 : decode cX11_look 150 = .ok (.ldc 180, 2) := by decide +kernel
theorem dX11_look_152 : decode cX11_look 152 = .ok (.invokespecial 182, 3) := by decide +kernel
theorem dX11_look_155 : decode cX11_look 155 = .ok (.athrow, 1) := by decide +kernel
theorem dL_look_8 : decode cL_look 8 = .ok (.i2l, 1) := by decide +kernel
theorem dL_look_9 : decode cL_look 9 = .ok (.lastore, 1) := by decide +kernel
theorem dL_look_10 : decode cL_look 10 = .ok (.goto 11, 3) := by decide +kernel
theorem dL_look_21 : decode cL_look 21 = .ok (.iconst 0, 1) := by decide +kernel
theorem dL_look_22 : decode cL_look 22 = .ok (.ireturn, 1) := by decide +kernel
theorem dL_look_0 : decode cL_look 0 = .ok (.aload_n 3, 1) := by decide +kernel
theorem dL_look_1 : decode cL_look 1 = .ok (.iconst 0, 1) := by decide +kernel
theorem dL_look_2 : decode cL_look 2 = .ok (.aload_n 0, 1) := by decide +kernel
theorem dL_look_3 : decode cL_look 3 = .ok (.iload_n 1, 1) := by decide +kernel
theorem dL_look_4 : decode cL_look 4 = .ok (.iload_n 2, 1) := by decide +kernel
theorem dL_look_5 : decode cL_look 5 = .ok (.invokevirtual 7, 3) := by decide +kernel
theorem dL_look_13 : decode cL_look 13 = .ok (.astore 4, 2) := by decide +kernel
theorem dL_look_15 : decode cL_look 15 = .ok (.iconst 1, 1) := by decide +kernel
theorem dL_look_16 : decode cL_look 16 = .ok (.ireturn, 1) := by decide +kernel
theorem dL_look_17 : decode cL_look 17 = .ok (.astore 4, 2) := by decide +kernel
theorem dL_look_19 : decode cL_look 19 = .ok (.iconst 2, 1) := by decide +kernel
theorem dL_look_20 : decode cL_look 20 = .ok (.ireturn, 1) := by decide +kernel
theorem xu_0 : Cond.fieldLink RX11 156 (TX4 6).1 (TX4 6).2.1 (TX4 6).2.2.1 ∈ xgt := xwm 248 (by decide +kernel) (by decide +kernel)
theorem xu_1 : Cond.fieldLink RX11 160 (TX4 7).1 (TX4 7).2.1 (TX4 7).2.2.1 ∈ xgt := xwm 252 (by decide +kernel) (by decide +kernel)
theorem xu_2 : Cond.fieldLink RX11 166 (TX4 9).1 (TX4 9).2.1 (TX4 9).2.2.1 ∈ xgt := xwm 260 (by decide +kernel) (by decide +kernel)
def xk_LK : List (Nat × xOp) := [(0, (2, 1, 1, 0, [])), (1, (16, 4, 11, 1, [])), (4, (16, 7, 4, 1, [])), (7, (2, 8, 0, 1, [])), (8, (28, 11, 103, 6, [])), (11, (12, 14, 24, 1, [])), (24, (2, 25, 0, 2, [])), (25, (15, 0, 146, 0, [(0, 64), (1, 74), (2, 84), (3, 94), (4, 104), (5, 114)])), (64, (2, 65, 1, 0, [])), (65, (16, 68, 11, 1, [])), (68, (16, 71, 4, 6, [])), (71, (2, 72, 0, 1, [])), (72, (19, 73, 0, 0, [])), (73, (30, 74, 0, 0, [])), (74, (2, 75, 1, 0, [])), (75, (16, 78, 11, 1, [])), (78, (16, 81, 4, 7, [])), (81, (2, 82, 0, 1, [])), (82, (19, 83, 0, 0, [])), (83, (30, 84, 0, 0, [])), (84, (2, 85, 1, 0, [])), (85, (16, 88, 11, 1, [])), (88, (16, 91, 4, 8, [])), (91, (2, 92, 0, 1, [])), (92, (19, 93, 0, 0, [])), (93, (30, 94, 0, 0, [])), (94, (2, 95, 1, 0, [])), (95, (16, 98, 11, 1, [])), (98, (16, 101, 4, 9, [])), (101, (2, 102, 0, 1, [])), (102, (19, 103, 0, 0, [])), (103, (30, 104, 0, 0, [])), (104, (2, 105, 1, 0, [])), (105, (16, 108, 11, 4, [])), (108, (16, 111, 10, 1, [])), (111, (2, 112, 0, 1, [])), (112, (19, 113, 0, 0, [])), (113, (30, 114, 0, 0, [])), (114, (2, 115, 1, 0, [])), (115, (16, 118, 11, 4, [])), (118, (2, 119, 0, 1, [])), (119, (28, 122, 139, 10, [])), (122, (12, 125, 129, 0, [])), (125, (0, 126, 2, 0, [])), (126, (14, 145, 0, 0, [])), (129, (2, 130, 1, 0, [])), (130, (16, 133, 11, 1, [])), (133, (2, 134, 0, 1, [])), (134, (28, 137, 81, 4, [])), (137, (12, 140, 144, 0, [])), (140, (0, 141, 1, 0, [])), (141, (14, 145, 0, 0, [])), (144, (0, 145, 0, 0, [])), (145, (30, 146, 0, 0, []))]
def xm_LK : xM := (yX11_look, cX11_look, 3, some .int, 2, RX11, room_1, xk_LK)
set_option maxRecDepth 100000 in
set_option maxHeartbeats 4000000 in
theorem xo_LK : ∀ q ∈ xk_LK, xok xmt xm_LK q.1 q.2 := by
  refine xcns ?_ <| xcns ?_ <| xcns ?_ <| xcns ?_ <| xcns ?_ <| xcns ?_ <| xcns ?_ <| xcns ?_ <| xcns ?_ <| xcns ?_ <| xcns ?_ <| xcns ?_ <| xcns ?_ <| xcns ?_ <| xcns ?_ <| xcns ?_ <| xcns ?_ <| xcns ?_ <| xcns ?_ <| xcns ?_ <| xcns ?_ <| xcns ?_ <| xcns ?_ <| xcns ?_ <| xcns ?_ <| xcns ?_ <| xcns ?_ <| xcns ?_ <| xcns ?_ <| xcns ?_ <| xcns ?_ <| xcns ?_ <| xcns ?_ <| xcns ?_ <| xcns ?_ <| xcns ?_ <| xcns ?_ <| xcns ?_ <| xcns ?_ <| xcns ?_ <| xcns ?_ <| xcns ?_ <| xcns ?_ <| xcns ?_ <| xcns ?_ <| xcns ?_ <| xcns ?_ <| xcns ?_ <| xcns ?_ <| xcns ?_ <| xcns ?_ <| xcns ?_ <| xcns ?_ <| xcns ?_ <| xnl
  · exact (⟨by decide, xr_aloadn dX11_look_0 rfl⟩)
  · exact (xr_getf dX11_look_1 (show vwCl[11]? = some (RX11, TX11, 15) from rfl) (by decide) xin_X11 xw_8)
  · exact (xr_getf dX11_look_4 (show vwCl[4]? = some (RX4, TX4, 19) from rfl) (by decide) xin_X4 xw_107)
  · exact (⟨by decide, xr_iloadn dX11_look_7 rfl⟩)
  · exact (⟨rfl, _, rfl, ⟨145, dX11_look_8, xw_74, xw_72, xw_73⟩, _, rfl, rfl⟩)
  · exact (xr_ifne dX11_look_11 (by decide))
  · exact (⟨by decide, xr_iloadn dX11_look_24 rfl⟩)
  · exact (xr_table dX11_look_25 (by decide) (by decide) (by decide))
  · exact (⟨by decide, xr_aloadn dX11_look_64 rfl⟩)
  · exact (xr_getf dX11_look_65 (show vwCl[11]? = some (RX11, TX11, 15) from rfl) (by decide) xin_X11 xw_8)
  · exact (xr_getf dX11_look_68 (show vwCl[4]? = some (RX4, TX4, 19) from rfl) (by decide) xin_X4 xu_0)
  · exact (⟨by decide, xr_iloadn dX11_look_71 rfl⟩)
  · exact (⟨by decide, xr_iald dX11_look_72⟩)
  · exact (⟨dX11_look_73, .int, rfl, rfl, Or.inl rfl⟩)
  · exact (⟨by decide, xr_aloadn dX11_look_74 rfl⟩)
  · exact (xr_getf dX11_look_75 (show vwCl[11]? = some (RX11, TX11, 15) from rfl) (by decide) xin_X11 xw_8)
  · exact (xr_getf dX11_look_78 (show vwCl[4]? = some (RX4, TX4, 19) from rfl) (by decide) xin_X4 xu_1)
  · exact (⟨by decide, xr_iloadn dX11_look_81 rfl⟩)
  · exact (⟨by decide, xr_iald dX11_look_82⟩)
  · exact (⟨dX11_look_83, .int, rfl, rfl, Or.inl rfl⟩)
  · exact (⟨by decide, xr_aloadn dX11_look_84 rfl⟩)
  · exact (xr_getf dX11_look_85 (show vwCl[11]? = some (RX11, TX11, 15) from rfl) (by decide) xin_X11 xw_8)
  · exact (xr_getf dX11_look_88 (show vwCl[4]? = some (RX4, TX4, 19) from rfl) (by decide) xin_X4 xw_109)
  · exact (⟨by decide, xr_iloadn dX11_look_91 rfl⟩)
  · exact (⟨by decide, xr_iald dX11_look_92⟩)
  · exact (⟨dX11_look_93, .int, rfl, rfl, Or.inl rfl⟩)
  · exact (⟨by decide, xr_aloadn dX11_look_94 rfl⟩)
  · exact (xr_getf dX11_look_95 (show vwCl[11]? = some (RX11, TX11, 15) from rfl) (by decide) xin_X11 xw_8)
  · exact (xr_getf dX11_look_98 (show vwCl[4]? = some (RX4, TX4, 19) from rfl) (by decide) xin_X4 xu_2)
  · exact (⟨by decide, xr_iloadn dX11_look_101 rfl⟩)
  · exact (⟨by decide, xr_iald dX11_look_102⟩)
  · exact (⟨dX11_look_103, .int, rfl, rfl, Or.inl rfl⟩)
  · exact (⟨by decide, xr_aloadn dX11_look_104 rfl⟩)
  · exact (xr_getf dX11_look_105 (show vwCl[11]? = some (RX11, TX11, 15) from rfl) (by decide) xin_X11 xw_25)
  · exact (xr_getf dX11_look_108 (show vwCl[10]? = some (RX10, TX10, 13) from rfl) (by decide) xin_X10 xw_110)
  · exact (⟨by decide, xr_iloadn dX11_look_111 rfl⟩)
  · exact (⟨by decide, xr_iald dX11_look_112⟩)
  · exact (⟨dX11_look_113, .int, rfl, rfl, Or.inl rfl⟩)
  · exact (⟨by decide, xr_aloadn dX11_look_114 rfl⟩)
  · exact (xr_getf dX11_look_115 (show vwCl[11]? = some (RX11, TX11, 15) from rfl) (by decide) xin_X11 xw_25)
  · exact (⟨by decide, xr_iloadn dX11_look_118 rfl⟩)
  · exact (⟨rfl, _, rfl, ⟨172, dX11_look_119, xw_133, xw_131, xw_132⟩, _, rfl, rfl⟩)
  · exact (xr_ifeq dX11_look_122 (by decide))
  · exact (xr_iconst dX11_look_125 (by decide +kernel))
  · exact (xr_goto dX11_look_126 (by decide))
  · exact (⟨by decide, xr_aloadn dX11_look_129 rfl⟩)
  · exact (xr_getf dX11_look_130 (show vwCl[11]? = some (RX11, TX11, 15) from rfl) (by decide) xin_X11 xw_8)
  · exact (⟨by decide, xr_iloadn dX11_look_133 rfl⟩)
  · exact (⟨rfl, _, rfl, ⟨175, dX11_look_134, xw_130, xw_128, xw_129⟩, _, rfl, rfl⟩)
  · exact (xr_ifeq dX11_look_137 (by decide))
  · exact (xr_iconst dX11_look_140 (by decide +kernel))
  · exact (xr_goto dX11_look_141 (by decide))
  · exact (xr_iconst dX11_look_144 (by decide +kernel))
  · exact (⟨dX11_look_145, .int, rfl, rfl, Or.inl rfl⟩)
def xk_LL : List (Nat × xOp) := [(8, (65, 9, 0, 0, [])), (9, (68, 10, 0, 0, [])), (10, (14, 21, 0, 0, [])), (21, (0, 22, 0, 0, [])), (22, (30, 0, 0, 0, []))]
def xm_LL : xM := (yL_look, cL_look, 5, some .int, 99, RL, room_1, xk_LL)
set_option maxRecDepth 100000 in
set_option maxHeartbeats 4000000 in
theorem xo_LL : ∀ q ∈ xk_LL, xok xmt xm_LL q.1 q.2 := by
  refine xcns ?_ <| xcns ?_ <| xcns ?_ <| xcns ?_ <| xcns ?_ <| xnl
  · exact (fun x => xr_i2l dL_look_8 x)
  · exact (xr_last dL_look_9)
  · exact (xr_goto dL_look_10 (by decide))
  · exact (xr_iconst dL_look_21 (by decide +kernel))
  · exact (⟨dL_look_22, .int, rfl, rfl, Or.inl rfl⟩)
