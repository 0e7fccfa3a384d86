theorem xcns {α : Type} {a : α} {l : List α} {Q : α → Prop} (h : Q a) (t : ∀ q ∈ l, Q q) : ∀ q ∈ a :: l, Q q := List.forall_mem_cons.mpr ⟨h, t⟩
theorem xnl {α : Type} {Q : α → Prop} : ∀ q ∈ ([] : List α), Q q := fun _ h => absurd h List.not_mem_nil
set_option maxRecDepth 100000 in
set_option maxHeartbeats 4000000 in
theorem xo_0 : ∀ q ∈ xk_0, xok xmt xm_0 q.1 q.2 := by
  refine xcns ?_ <| xcns ?_ <| xcns ?_ <| xcns ?_ <| xcns ?_ <| xcns ?_ <| xcns ?_ <| xcns ?_ <| xcns ?_ <| xcns ?_ <| xcns ?_ <| xcns ?_ <| xcns ?_ <| xcns ?_ <| xcns ?_ <| xcns ?_ <| xcns ?_ <| xcns ?_ <| xcns ?_ <| xcns ?_ <| xcns ?_ <| xcns ?_ <| xcns ?_ <| xcns ?_ <| xcns ?_ <| xcns ?_ <| xcns ?_ <| xcns ?_ <| xcns ?_ <| xcns ?_ <| xcns ?_ <| xcns ?_ <| xcns ?_ <| xcns ?_ <| xcns ?_ <| xcns ?_ <| xcns ?_ <| xcns ?_ <| xcns ?_ <| xcns ?_ <| xcns ?_ <| xcns ?_ <| xcns ?_ <| xcns ?_ <| xcns ?_ <| xcns ?_ <| xcns ?_ <| xcns ?_ <| xcns ?_ <| xcns ?_ <| xcns ?_ <| xcns ?_ <| xcns ?_ <| xcns ?_ <| xcns ?_ <| xcns ?_ <| xcns ?_ <| xcns ?_ <| xcns ?_ <| xcns ?_ <| xcns ?_ <| xcns ?_ <| xcns ?_ <| xcns ?_ <| xcns ?_ <| xcns ?_ <| xcns ?_ <| xcns ?_ <| xcns ?_ <| xcns ?_ <| xcns ?_ <| xcns ?_ <| xcns ?_ <| xcns ?_ <| xcns ?_ <| xcns ?_ <| xcns ?_ <| xcns ?_ <| xcns ?_ <| xcns ?_ <| xcns ?_ <| xcns ?_ <| xcns ?_ <| xcns ?_ <| xcns ?_ <| xcns ?_ <| xcns ?_ <| xcns ?_ <| xcns ?_ <| xcns ?_ <| xcns ?_ <| xcns ?_ <| xcns ?_ <| xcns ?_ <| xcns ?_ <| xcns ?_ <| xcns ?_ <| xcns ?_ <| xcns ?_ <| xcns ?_ <| xcns ?_ <| xcns ?_ <| xcns ?_ <| xnl
  · exact (⟨by decide, xr_aloadn dX11_init_0 rfl⟩)
  · exact (xr_oinit dX11_init_1 xw_0 xw_1 xw_oc)
  · exact (⟨by decide, xr_aloadn dX11_init_4 rfl⟩)
  · exact (xr_sipush dX11_init_5 (by decide +kernel))
  · exact (⟨by decide, xr_newa dX11_init_8 rfl xw_2⟩)
  · exact (⟨(.array .byte), true, 0, rfl, xr_putF dX11_init_10 (show vwCl[11]? = some (RX11, TX11, 15) from rfl) (by decide) xin_X11 tyX11_ok nmX11 xw_3 rfl (rfl : tyX11 0 = (.array .byte)) rfl, fun _ => rfl⟩)
  · exact (⟨by decide, xr_aloadn dX11_init_13 rfl⟩)
  · exact (xr_new dX11_init_14 (show vwCl[4]? = some (RX4, TX4, 19) from rfl) xin_X4 tyX4_ok xw_4 xw_5 xw_6 _ (by decide +kernel))
  · exact (fun v h => xr_dup dX11_init_17 v h)
  · exact (⟨rfl, _, rfl, ⟨15, dX11_init_18, rfl, rfl, xw_7, Or.inr ⟨_, List.mem_of_getElem? (i := 0) rfl⟩⟩⟩)
  · exact (⟨(.object "RansomHymn$Hymn"), true, 0, rfl, xr_putF dX11_init_21 (show vwCl[11]? = some (RX11, TX11, 15) from rfl) (by decide) xin_X11 tyX11_ok nmX11 xw_8 rfl (rfl : tyX11 1 = (.object "RansomHymn$Hymn")) rfl, fun _ => rfl⟩)
  · exact (⟨by decide, xr_aloadn dX11_init_24 rfl⟩)
  · exact (xr_new dX11_init_25 (show vwCl[4]? = some (RX4, TX4, 19) from rfl) xin_X4 tyX4_ok xw_4 xw_5 xw_6 _ (by decide +kernel))
  · exact (fun v h => xr_dup dX11_init_28 v h)
  · exact (⟨rfl, _, rfl, ⟨15, dX11_init_29, rfl, rfl, xw_7, Or.inr ⟨_, List.mem_of_getElem? (i := 0) rfl⟩⟩⟩)
  · exact (⟨(.object "RansomHymn$Hymn"), true, 0, rfl, xr_putF dX11_init_32 (show vwCl[11]? = some (RX11, TX11, 15) from rfl) (by decide) xin_X11 tyX11_ok nmX11 xw_9 rfl (rfl : tyX11 2 = (.object "RansomHymn$Hymn")) rfl, fun _ => rfl⟩)
  · exact (⟨by decide, xr_aloadn dX11_init_35 rfl⟩)
  · exact (xr_new dX11_init_36 (show vwCl[8]? = some (RX8, TX8, 4) from rfl) xin_X8 tyX8_ok xw_10 xw_11 xw_12 _ (by decide +kernel))
  · exact (fun v h => xr_dup dX11_init_39 v h)
  · exact (xr_new dX11_init_40 (show vwCl[9]? = some (RX9, TX9, 9) from rfl) xin_X9 tyX9_ok xw_13 xw_14 xw_15 _ (by decide +kernel))
  · exact (fun v h => xr_dup dX11_init_43 v h)
  · exact (⟨by decide, xr_aloadn dX11_init_44 rfl⟩)
  · exact (xr_getf dX11_init_45 (show vwCl[11]? = some (RX11, TX11, 15) from rfl) (by decide) xin_X11 xw_3)
  · exact (⟨rfl, _, rfl, ⟨27, dX11_init_48, rfl, rfl, xw_16, Or.inl xw_17⟩⟩)
  · exact (⟨by decide, xr_aloadn dX11_init_51 rfl⟩)
  · exact (xr_getf dX11_init_52 (show vwCl[11]? = some (RX11, TX11, 15) from rfl) (by decide) xin_X11 xw_9)
  · exact (⟨rfl, _, rfl, ⟨30, dX11_init_55, rfl, rfl, xw_18, Or.inl xw_19⟩⟩)
  · exact (⟨(.object "RansomHymn$Teller"), true, 0, rfl, xr_putF dX11_init_58 (show vwCl[11]? = some (RX11, TX11, 15) from rfl) (by decide) xin_X11 tyX11_ok nmX11 xw_20 rfl (rfl : tyX11 3 = (.object "RansomHymn$Teller")) rfl, fun _ => rfl⟩)
  · exact (⟨by decide, xr_aloadn dX11_init_61 rfl⟩)
  · exact (xr_new dX11_init_62 (show vwCl[10]? = some (RX10, TX10, 13) from rfl) xin_X10 tyX10_ok xw_21 xw_22 xw_23 _ (by decide +kernel))
  · exact (fun v h => xr_dup dX11_init_65 v h)
  · exact (⟨rfl, _, rfl, ⟨39, dX11_init_66, rfl, rfl, xw_24, Or.inr ⟨_, List.mem_of_getElem? (i := 1) rfl⟩⟩⟩)
  · exact (⟨(.object "RansomHymn$World"), true, 0, rfl, xr_putF dX11_init_69 (show vwCl[11]? = some (RX11, TX11, 15) from rfl) (by decide) xin_X11 tyX11_ok nmX11 xw_25 rfl (rfl : tyX11 4 = (.object "RansomHymn$World")) rfl, fun _ => rfl⟩)
  · exact (⟨by decide, xr_aloadn dX11_init_72 rfl⟩)
  · exact (xr_new dX11_init_73 (show vwCl[10]? = some (RX10, TX10, 13) from rfl) xin_X10 tyX10_ok xw_21 xw_22 xw_23 _ (by decide +kernel))
  · exact (fun v h => xr_dup dX11_init_76 v h)
  · exact (⟨rfl, _, rfl, ⟨39, dX11_init_77, rfl, rfl, xw_24, Or.inr ⟨_, List.mem_of_getElem? (i := 1) rfl⟩⟩⟩)
  · exact (⟨(.object "RansomHymn$World"), true, 0, rfl, xr_putF dX11_init_80 (show vwCl[11]? = some (RX11, TX11, 15) from rfl) (by decide) xin_X11 tyX11_ok nmX11 xw_26 rfl (rfl : tyX11 5 = (.object "RansomHymn$World")) rfl, fun _ => rfl⟩)
  · exact (⟨by decide, xr_aloadn dX11_init_83 rfl⟩)
  · exact (xr_new dX11_init_84 (show vwCl[3]? = some (RX3, TX3, 2) from rfl) xin_X3 tyX3_ok xw_27 xw_28 xw_29 _ (by decide +kernel))
  · exact (fun v h => xr_dup dX11_init_87 v h)
  · exact (⟨rfl, _, rfl, ⟨49, dX11_init_88, rfl, rfl, xw_30, Or.inr ⟨_, List.mem_of_getElem? (i := 2) rfl⟩⟩⟩)
  · exact (⟨(.object "RansomHymn$Hums"), true, 0, rfl, xr_putF dX11_init_91 (show vwCl[11]? = some (RX11, TX11, 15) from rfl) (by decide) xin_X11 tyX11_ok nmX11 xw_31 rfl (rfl : tyX11 6 = (.object "RansomHymn$Hums")) rfl, fun _ => rfl⟩)
  · exact (⟨by decide, xr_aloadn dX11_init_94 rfl⟩)
  · exact (xr_new dX11_init_95 (show vwCl[5]? = some (RX5, TX5, 6) from rfl) xin_X5 tyX5_ok xw_32 xw_33 xw_34 _ (by decide +kernel))
  · exact (fun v h => xr_dup dX11_init_98 v h)
  · exact (⟨by decide, xr_aloadn dX11_init_99 rfl⟩)
  · exact (xr_getf dX11_init_100 (show vwCl[11]? = some (RX11, TX11, 15) from rfl) (by decide) xin_X11 xw_8)
  · exact (⟨by decide, xr_aloadn dX11_init_103 rfl⟩)
  · exact (xr_getf dX11_init_104 (show vwCl[11]? = some (RX11, TX11, 15) from rfl) (by decide) xin_X11 xw_25)
  · exact (⟨rfl, _, rfl, ⟨56, dX11_init_107, rfl, rfl, xw_35, Or.inl xw_36⟩⟩)
  · exact (⟨(.object "RansomHymn$Laws"), true, 0, rfl, xr_putF dX11_init_110 (show vwCl[11]? = some (RX11, TX11, 15) from rfl) (by decide) xin_X11 tyX11_ok nmX11 xw_37 rfl (rfl : tyX11 7 = (.object "RansomHymn$Laws")) rfl, fun _ => rfl⟩)
  · exact (⟨by decide, xr_aloadn dX11_init_113 rfl⟩)
  · exact (xr_new dX11_init_114 (show vwCl[1]? = some (RX1, TX1, 11) from rfl) xin_X1 tyX1_ok xw_38 xw_39 xw_40 _ (by decide +kernel))
  · exact (fun v h => xr_dup dX11_init_117 v h)
  · exact (⟨by decide, xr_aloadn dX11_init_118 rfl⟩)
  · exact (xr_getf dX11_init_119 (show vwCl[11]? = some (RX11, TX11, 15) from rfl) (by decide) xin_X11 xw_8)
  · exact (⟨by decide, xr_aloadn dX11_init_122 rfl⟩)
  · exact (xr_getf dX11_init_123 (show vwCl[11]? = some (RX11, TX11, 15) from rfl) (by decide) xin_X11 xw_25)
  · exact (⟨by decide, xr_aloadn dX11_init_126 rfl⟩)
  · exact (xr_getf dX11_init_127 (show vwCl[11]? = some (RX11, TX11, 15) from rfl) (by decide) xin_X11 xw_37)
  · exact (⟨rfl, _, rfl, ⟨65, dX11_init_130, rfl, rfl, xw_41, Or.inl xw_42⟩⟩)
  · exact (⟨(.object "RansomHymn$Choice"), true, 0, rfl, xr_putF dX11_init_133 (show vwCl[11]? = some (RX11, TX11, 15) from rfl) (by decide) xin_X11 tyX11_ok nmX11 xw_43 rfl (rfl : tyX11 8 = (.object "RansomHymn$Choice")) rfl, fun _ => rfl⟩)
  · exact (⟨by decide, xr_aloadn dX11_init_136 rfl⟩)
  · exact (xr_new dX11_init_137 (show vwCl[7]? = some (RX7, TX7, 6) from rfl) xin_X7 tyX7_ok xw_44 xw_45 xw_46 _ (by decide +kernel))
  · exact (fun v h => xr_dup dX11_init_140 v h)
  · exact (⟨by decide, xr_aloadn dX11_init_141 rfl⟩)
  · exact (xr_getf dX11_init_142 (show vwCl[11]? = some (RX11, TX11, 15) from rfl) (by decide) xin_X11 xw_8)
  · exact (⟨by decide, xr_aloadn dX11_init_145 rfl⟩)
  · exact (xr_getf dX11_init_146 (show vwCl[11]? = some (RX11, TX11, 15) from rfl) (by decide) xin_X11 xw_25)
  · exact (⟨by decide, xr_aloadn dX11_init_149 rfl⟩)
  · exact (xr_getf dX11_init_150 (show vwCl[11]? = some (RX11, TX11, 15) from rfl) (by decide) xin_X11 xw_37)
  · exact (⟨rfl, _, rfl, ⟨74, dX11_init_153, rfl, rfl, xw_47, Or.inl xw_48⟩⟩)
  · exact (⟨(.object "RansomHymn$Sale"), true, 0, rfl, xr_putF dX11_init_156 (show vwCl[11]? = some (RX11, TX11, 15) from rfl) (by decide) xin_X11 tyX11_ok nmX11 xw_49 rfl (rfl : tyX11 9 = (.object "RansomHymn$Sale")) rfl, fun _ => rfl⟩)
  · exact (⟨by decide, xr_aloadn dX11_init_159 rfl⟩)
  · exact (xr_new dX11_init_160 (show vwCl[0]? = some (RX0, TX0, 10) from rfl) xin_X0 tyX0_ok xw_50 xw_51 xw_52 _ (by decide +kernel))
  · exact (fun v h => xr_dup dX11_init_163 v h)
  · exact (⟨by decide, xr_aloadn dX11_init_164 rfl⟩)
  · exact (xr_getf dX11_init_165 (show vwCl[11]? = some (RX11, TX11, 15) from rfl) (by decide) xin_X11 xw_8)
  · exact (⟨by decide, xr_aloadn dX11_init_168 rfl⟩)
  · exact (xr_getf dX11_init_169 (show vwCl[11]? = some (RX11, TX11, 15) from rfl) (by decide) xin_X11 xw_25)
  · exact (⟨by decide, xr_aloadn dX11_init_172 rfl⟩)
  · exact (xr_getf dX11_init_173 (show vwCl[11]? = some (RX11, TX11, 15) from rfl) (by decide) xin_X11 xw_37)
  · exact (⟨rfl, _, rfl, ⟨81, dX11_init_176, rfl, rfl, xw_53, Or.inl xw_54⟩⟩)
  · exact (⟨(.object "RansomHymn$Canon"), true, 0, rfl, xr_putF dX11_init_179 (show vwCl[11]? = some (RX11, TX11, 15) from rfl) (by decide) xin_X11 tyX11_ok nmX11 xw_55 rfl (rfl : tyX11 10 = (.object "RansomHymn$Canon")) rfl, fun _ => rfl⟩)
  · exact (⟨by decide, xr_aloadn dX11_init_182 rfl⟩)
  · exact (xr_iconst dX11_init_183 (by decide +kernel))
  · exact (⟨.int, false, 0, rfl, xr_putf dX11_init_184 (show vwCl[11]? = some (RX11, TX11, 15) from rfl) (by decide) xin_X11 tyX11_ok nmX11 xw_56 rfl (rfl : tyX11 11 = .int), fun h => (by cases h)⟩)
  · exact (⟨by decide, xr_aloadn dX11_init_187 rfl⟩)
  · exact (xr_iconst dX11_init_188 (by decide +kernel))
  · exact (⟨.int, false, 0, rfl, xr_putf dX11_init_189 (show vwCl[11]? = some (RX11, TX11, 15) from rfl) (by decide) xin_X11 tyX11_ok nmX11 xw_57 rfl (rfl : tyX11 12 = .int), fun h => (by cases h)⟩)
  · exact (⟨by decide, xr_aloadn dX11_init_192 rfl⟩)
  · exact (xr_iconst dX11_init_193 (by decide +kernel))
  · exact (⟨.int, false, 0, rfl, xr_putf dX11_init_194 (show vwCl[11]? = some (RX11, TX11, 15) from rfl) (by decide) xin_X11 tyX11_ok nmX11 xw_58 rfl (rfl : tyX11 13 = .int), fun h => (by cases h)⟩)
  · exact (⟨by decide, xr_aloadn dX11_init_197 rfl⟩)
  · exact (xr_iconst dX11_init_198 (by decide +kernel))
  · exact (⟨.boolean, false, 0, rfl, xr_putf dX11_init_199 (show vwCl[11]? = some (RX11, TX11, 15) from rfl) (by decide) xin_X11 tyX11_ok nmX11 xw_59 rfl (rfl : tyX11 14 = .boolean), fun h => (by cases h)⟩)
  · exact (⟨by decide, xr_aloadn dX11_init_202 rfl⟩)
  · exact (xr_getf dX11_init_203 (show vwCl[11]? = some (RX11, TX11, 15) from rfl) (by decide) xin_X11 xw_25)
  · exact (⟨by decide, xr_aloadn dX11_init_206 rfl⟩)
  · exact (xr_getf dX11_init_207 (show vwCl[11]? = some (RX11, TX11, 15) from rfl) (by decide) xin_X11 xw_8)
  · exact (⟨rfl, _, rfl, ⟨100, dX11_init_210, xw_62, xw_60, xw_61⟩, _, rfl, rfl⟩)
  · exact (⟨dX11_init_213, rfl⟩)
theorem xmo_0 : xMok xmt xm_0 := ⟨xw_63, xw_64, ⟨by decide, by decide, by decide +kernel⟩, by decide +kernel, rfl, xo_0⟩
set_option maxRecDepth 100000 in
set_option maxHeartbeats 4000000 in
theorem xo_1 : ∀ q ∈ xk_1, xok xmt xm_1 q.1 q.2 := by
  refine xcns ?_ <| xcns ?_ <| xcns ?_ <| xcns ?_ <| xcns ?_ <| xnl
  · exact (⟨by decide, xr_aloadn dX11_back_0 rfl⟩)
  · exact (xr_getf dX11_back_1 (show vwCl[11]? = some (RX11, TX11, 15) from rfl) (by decide) xin_X11 xw_59)
  · exact (xr_ifne dX11_back_4 (by decide))
  · exact (xr_iconst dX11_back_7 (by decide +kernel))
  · exact (⟨dX11_back_8, .int, rfl, rfl, Or.inl rfl⟩)
theorem xmo_1 : xMok xmt xm_1 := ⟨xw_65, xw_64, ⟨by decide, by decide, by decide +kernel⟩, by decide +kernel, rfl, xo_1⟩
set_option maxRecDepth 100000 in
set_option maxHeartbeats 4000000 in
theorem xo_2 : ∀ q ∈ xk_2, xok xmt xm_2 q.1 q.2 := by
  refine xcns ?_ <| xcns ?_ <| xcns ?_ <| xcns ?_ <| xcns ?_ <| xcns ?_ <| xcns ?_ <| xcns ?_ <| xnl
  · exact (⟨by decide, xr_aloadn dX11_bar_0 rfl⟩)
  · exact (xr_getf dX11_bar_1 (show vwCl[11]? = some (RX11, TX11, 15) from rfl) (by decide) xin_X11 xw_8)
  · exact (xr_getf dX11_bar_4 (show vwCl[4]? = some (RX4, TX4, 19) from rfl) (by decide) xin_X4 xw_66)
  · exact (⟨by decide, xr_iloadn dX11_bar_7 rfl⟩)
  · exact (⟨rfl, _, rfl, ⟨145, dX11_bar_8, xw_69, xw_67, xw_68⟩, _, rfl, rfl⟩)
  · exact (xr_ifeq dX11_bar_11 (by decide))
  · exact (xr_iconst dX11_bar_24 (by decide +kernel))
  · exact (⟨dX11_bar_25, .int, rfl, rfl, Or.inl rfl⟩)
theorem xmo_2 : xMok xmt xm_2 := ⟨xw_70, xw_64, ⟨by decide, by decide, by decide +kernel⟩, by decide +kernel, rfl, xo_2⟩
set_option maxRecDepth 100000 in
set_option maxHeartbeats 4000000 in
theorem xo_3 : ∀ q ∈ xk_3, xok xmt xm_3 q.1 q.2 := by
  refine xcns ?_ <| xcns ?_ <| xcns ?_ <| xcns ?_ <| xcns ?_ <| xcns ?_ <| xcns ?_ <| xcns ?_ <| xcns ?_ <| xcns ?_ <| xcns ?_ <| xcns ?_ <| xcns ?_ <| xcns ?_ <| xcns ?_ <| xcns ?_ <| xcns ?_ <| xcns ?_ <| xcns ?_ <| xcns ?_ <| xcns ?_ <| xcns ?_ <| xcns ?_ <| xcns ?_ <| xcns ?_ <| xcns ?_ <| xcns ?_ <| xcns ?_ <| xcns ?_ <| xnl
  · exact (⟨by decide, xr_iloadn dX11_best_0 rfl⟩)
  · exact (xr_iflt dX11_best_1 (by decide))
  · exact (⟨by decide, xr_iloadn dX11_best_4 rfl⟩)
  · exact (xr_sipush dX11_best_5 (by decide +kernel))
  · exact (xr_icmpgt dX11_best_8 (by decide))
  · exact (⟨by decide, xr_iloadn dX11_best_11 rfl⟩)
  · exact (xr_iflt dX11_best_12 (by decide))
  · exact (⟨by decide, xr_iloadn dX11_best_15 rfl⟩)
  · exact (xr_iconst dX11_best_16 (by decide +kernel))
  · exact (xr_icmple dX11_best_17 (by decide))
  · exact (xr_iconst dX11_best_20 (by decide +kernel))
  · exact (⟨dX11_best_21, .int, rfl, rfl, Or.inl rfl⟩)
  · exact (⟨by decide, xr_aloadn dX11_best_22 rfl⟩)
  · exact (xr_getf dX11_best_23 (show vwCl[11]? = some (RX11, TX11, 15) from rfl) (by decide) xin_X11 xw_43)
  · exact (⟨rfl, _, rfl, ⟨267, dX11_best_26, xw_73, xw_71, xw_72⟩, _, rfl, rfl⟩)
  · exact (⟨by decide, xr_aloadn dX11_best_29 rfl⟩)
  · exact (xr_getf dX11_best_30 (show vwCl[11]? = some (RX11, TX11, 15) from rfl) (by decide) xin_X11 xw_43)
  · exact (⟨by decide, xr_iloadn dX11_best_33 rfl⟩)
  · exact (⟨rfl, _, rfl, ⟨270, dX11_best_34, xw_76, xw_74, xw_75⟩, _, rfl, rfl⟩)
  · exact (⟨by decide, xr_istoren dX11_best_37 rfl⟩)
  · exact (⟨by decide, xr_iloadn dX11_best_38 rfl⟩)
  · exact (xr_ifne dX11_best_39 (by decide))
  · exact (⟨by decide, xr_iloadn dX11_best_42 rfl⟩)
  · exact (xr_goto dX11_best_43 (by decide))
  · exact (⟨by decide, xr_aloadn dX11_best_46 rfl⟩)
  · exact (xr_getf dX11_best_47 (show vwCl[11]? = some (RX11, TX11, 15) from rfl) (by decide) xin_X11 xw_43)
  · exact (⟨by decide, xr_iloadn dX11_best_50 rfl⟩)
  · exact (⟨rfl, _, rfl, ⟨273, dX11_best_51, xw_79, xw_77, xw_78⟩, _, rfl, rfl⟩)
  · exact (⟨dX11_best_54, .int, rfl, rfl, Or.inl rfl⟩)
theorem xmo_3 : xMok xmt xm_3 := ⟨xw_80, xw_64, ⟨by decide, by decide, by decide +kernel⟩, by decide +kernel, rfl, xo_3⟩
set_option maxRecDepth 100000 in
set_option maxHeartbeats 4000000 in
theorem xo_4 : ∀ q ∈ xk_4, xok xmt xm_4 q.1 q.2 := by
  refine xcns ?_ <| xcns ?_ <| xcns ?_ <| xcns ?_ <| xcns ?_ <| xcns ?_ <| xcns ?_ <| xcns ?_ <| xnl
  · exact (⟨by decide, xr_aloadn dX11_bids_0 rfl⟩)
  · exact (xr_getf dX11_bids_1 (show vwCl[11]? = some (RX11, TX11, 15) from rfl) (by decide) xin_X11 xw_8)
  · exact (xr_getf dX11_bids_4 (show vwCl[4]? = some (RX4, TX4, 19) from rfl) (by decide) xin_X4 xw_81)
  · exact (⟨by decide, xr_iloadn dX11_bids_7 rfl⟩)
  · exact (⟨rfl, _, rfl, ⟨145, dX11_bids_8, xw_69, xw_67, xw_68⟩, _, rfl, rfl⟩)
  · exact (xr_ifeq dX11_bids_11 (by decide))
  · exact (xr_iconst dX11_bids_28 (by decide +kernel))
  · exact (⟨dX11_bids_29, .int, rfl, rfl, Or.inl rfl⟩)
theorem xmo_4 : xMok xmt xm_4 := ⟨xw_82, xw_64, ⟨by decide, by decide, by decide +kernel⟩, by decide +kernel, rfl, xo_4⟩
set_option maxRecDepth 100000 in
set_option maxHeartbeats 4000000 in
theorem xo_5 : ∀ q ∈ xk_5, xok xmt xm_5 q.1 q.2 := by
  refine xcns ?_ <| xcns ?_ <| xcns ?_ <| xcns ?_ <| xcns ?_ <| xcns ?_ <| xcns ?_ <| xcns ?_ <| xcns ?_ <| xcns ?_ <| xcns ?_ <| xcns ?_ <| xcns ?_ <| xnl
  · exact (⟨by decide, xr_iloadn dX11_chosen_0 rfl⟩)
  · exact (xr_iflt dX11_chosen_1 (by decide))
  · exact (⟨by decide, xr_iloadn dX11_chosen_4 rfl⟩)
  · exact (xr_sipush dX11_chosen_5 (by decide +kernel))
  · exact (xr_icmpgt dX11_chosen_8 (by decide))
  · exact (⟨by decide, xr_aloadn dX11_chosen_11 rfl⟩)
  · exact (xr_getf dX11_chosen_12 (show vwCl[11]? = some (RX11, TX11, 15) from rfl) (by decide) xin_X11 xw_8)
  · exact (⟨by decide, xr_iloadn dX11_chosen_15 rfl⟩)
  · exact (⟨by decide, xr_iloadn dX11_chosen_16 rfl⟩)
  · exact (⟨rfl, _, rfl, ⟨195, dX11_chosen_17, xw_85, xw_83, xw_84⟩, _, rfl, rfl⟩)
  · exact (xr_ifne dX11_chosen_20 (by decide))
  · exact (xr_iconst dX11_chosen_23 (by decide +kernel))
  · exact (⟨dX11_chosen_24, .int, rfl, rfl, Or.inl rfl⟩)
theorem xmo_5 : xMok xmt xm_5 := ⟨xw_86, xw_64, ⟨by decide, by decide, by decide +kernel⟩, by decide +kernel, rfl, xo_5⟩
set_option maxRecDepth 100000 in
set_option maxHeartbeats 4000000 in
theorem xo_6 : ∀ q ∈ xk_6, xok xmt xm_6 q.1 q.2 := by
  refine xcns ?_ <| xcns ?_ <| xcns ?_ <| xcns ?_ <| xcns ?_ <| xcns ?_ <| xcns ?_ <| xcns ?_ <| xcns ?_ <| xcns ?_ <| xcns ?_ <| xcns ?_ <| xcns ?_ <| xcns ?_ <| xcns ?_ <| xcns ?_ <| xcns ?_ <| xcns ?_ <| xcns ?_ <| xcns ?_ <| xcns ?_ <| xcns ?_ <| xcns ?_ <| xcns ?_ <| xcns ?_ <| xcns ?_ <| xcns ?_ <| xcns ?_ <| xcns ?_ <| xcns ?_ <| xcns ?_ <| xcns ?_ <| xcns ?_ <| xcns ?_ <| xcns ?_ <| xcns ?_ <| xcns ?_ <| xcns ?_ <| xcns ?_ <| xcns ?_ <| xcns ?_ <| xcns ?_ <| xcns ?_ <| xcns ?_ <| xcns ?_ <| xcns ?_ <| xcns ?_ <| xcns ?_ <| xcns ?_ <| xcns ?_ <| xcns ?_ <| xcns ?_ <| xcns ?_ <| xcns ?_ <| xcns ?_ <| xcns ?_ <| xcns ?_ <| xnl
  · exact (⟨by decide, xr_iloadn dX11_count_0 rfl⟩)
  · exact (xr_table dX11_count_1 (by decide) (by decide) (by decide))
  · exact (⟨by decide, xr_aloadn dX11_count_64 rfl⟩)
  · exact (xr_getf dX11_count_65 (show vwCl[11]? = some (RX11, TX11, 15) from rfl) (by decide) xin_X11 xw_8)
  · exact (xr_getf dX11_count_68 (show vwCl[4]? = some (RX4, TX4, 19) from rfl) (by decide) xin_X4 xw_87)
  · exact (xr_getf dX11_count_71 (show vwCl[6]? = some (RX6, TX6, 2) from rfl) (by decide) xin_X6 xw_88)
  · exact (⟨dX11_count_74, .int, rfl, rfl, Or.inl rfl⟩)
  · exact (⟨by decide, xr_aloadn dX11_count_75 rfl⟩)
  · exact (xr_getf dX11_count_76 (show vwCl[11]? = some (RX11, TX11, 15) from rfl) (by decide) xin_X11 xw_8)
  · exact (xr_getf dX11_count_79 (show vwCl[4]? = some (RX4, TX4, 19) from rfl) (by decide) xin_X4 xw_89)
  · exact (xr_getf dX11_count_82 (show vwCl[6]? = some (RX6, TX6, 2) from rfl) (by decide) xin_X6 xw_88)
  · exact (⟨dX11_count_85, .int, rfl, rfl, Or.inl rfl⟩)
  · exact (⟨by decide, xr_aloadn dX11_count_86 rfl⟩)
  · exact (xr_getf dX11_count_87 (show vwCl[11]? = some (RX11, TX11, 15) from rfl) (by decide) xin_X11 xw_8)
  · exact (xr_getf dX11_count_90 (show vwCl[4]? = some (RX4, TX4, 19) from rfl) (by decide) xin_X4 xw_66)
  · exact (xr_getf dX11_count_93 (show vwCl[6]? = some (RX6, TX6, 2) from rfl) (by decide) xin_X6 xw_88)
  · exact (⟨dX11_count_96, .int, rfl, rfl, Or.inl rfl⟩)
  · exact (⟨by decide, xr_aloadn dX11_count_97 rfl⟩)
  · exact (xr_getf dX11_count_98 (show vwCl[11]? = some (RX11, TX11, 15) from rfl) (by decide) xin_X11 xw_8)
  · exact (xr_getf dX11_count_101 (show vwCl[4]? = some (RX4, TX4, 19) from rfl) (by decide) xin_X4 xw_81)
  · exact (xr_getf dX11_count_104 (show vwCl[6]? = some (RX6, TX6, 2) from rfl) (by decide) xin_X6 xw_88)
  · exact (⟨dX11_count_107, .int, rfl, rfl, Or.inl rfl⟩)
  · exact (⟨by decide, xr_aloadn dX11_count_108 rfl⟩)
  · exact (xr_getf dX11_count_109 (show vwCl[11]? = some (RX11, TX11, 15) from rfl) (by decide) xin_X11 xw_8)
  · exact (xr_getf dX11_count_112 (show vwCl[4]? = some (RX4, TX4, 19) from rfl) (by decide) xin_X4 xw_90)
  · exact (xr_getf dX11_count_115 (show vwCl[2]? = some (RX2, TX2, 10) from rfl) (by decide) xin_X2 xw_91)
  · exact (⟨dX11_count_118, .int, rfl, rfl, Or.inl rfl⟩)
  · exact (⟨by decide, xr_aloadn dX11_count_119 rfl⟩)
  · exact (xr_getf dX11_count_120 (show vwCl[11]? = some (RX11, TX11, 15) from rfl) (by decide) xin_X11 xw_25)
  · exact (xr_getf dX11_count_123 (show vwCl[10]? = some (RX10, TX10, 13) from rfl) (by decide) xin_X10 xw_92)
  · exact (⟨dX11_count_126, .int, rfl, rfl, Or.inl rfl⟩)
  · exact (⟨by decide, xr_aloadn dX11_count_127 rfl⟩)
  · exact (xr_getf dX11_count_128 (show vwCl[11]? = some (RX11, TX11, 15) from rfl) (by decide) xin_X11 xw_25)
  · exact (xr_getf dX11_count_131 (show vwCl[10]? = some (RX10, TX10, 13) from rfl) (by decide) xin_X10 xw_93)
  · exact (⟨dX11_count_134, .int, rfl, rfl, Or.inl rfl⟩)
  · exact (⟨by decide, xr_aloadn dX11_count_135 rfl⟩)
  · exact (xr_getf dX11_count_136 (show vwCl[11]? = some (RX11, TX11, 15) from rfl) (by decide) xin_X11 xw_25)
  · exact (xr_getf dX11_count_139 (show vwCl[10]? = some (RX10, TX10, 13) from rfl) (by decide) xin_X10 xw_94)
  · exact (⟨dX11_count_142, .int, rfl, rfl, Or.inl rfl⟩)
  · exact (⟨by decide, xr_aloadn dX11_count_143 rfl⟩)
  · exact (xr_getf dX11_count_144 (show vwCl[11]? = some (RX11, TX11, 15) from rfl) (by decide) xin_X11 xw_31)
  · exact (xr_getf dX11_count_147 (show vwCl[3]? = some (RX3, TX3, 2) from rfl) (by decide) xin_X3 xw_95)
  · exact (⟨dX11_count_150, .int, rfl, rfl, Or.inl rfl⟩)
  · exact (⟨by decide, xr_aloadn dX11_count_151 rfl⟩)
  · exact (⟨rfl, _, rfl, ⟨302, dX11_count_152, xw_98, xw_96, xw_97⟩, _, rfl, rfl⟩)
  · exact (⟨dX11_count_155, .int, rfl, rfl, Or.inl rfl⟩)
  · exact (⟨by decide, xr_aloadn dX11_count_156 rfl⟩)
  · exact (xr_getf dX11_count_157 (show vwCl[11]? = some (RX11, TX11, 15) from rfl) (by decide) xin_X11 xw_25)
  · exact (xr_getf dX11_count_160 (show vwCl[10]? = some (RX10, TX10, 13) from rfl) (by decide) xin_X10 xw_99)
  · exact (⟨rfl, _, rfl, ⟨216, dX11_count_163, xw_100, xw_101⟩⟩)
  · exact (⟨dX11_count_166, .int, rfl, rfl, Or.inl rfl⟩)
  · exact (⟨by decide, xr_aloadn dX11_count_167 rfl⟩)
  · exact (xr_getf dX11_count_168 (show vwCl[11]? = some (RX11, TX11, 15) from rfl) (by decide) xin_X11 xw_25)
  · exact (⟨rfl, _, rfl, ⟨364, dX11_count_171, xw_104, xw_102, xw_103⟩, _, rfl, rfl⟩)
  · exact (⟨dX11_count_174, .int, rfl, rfl, Or.inl rfl⟩)
  · exact (xr_iconst dX11_count_175 (by decide +kernel))
  · exact (⟨dX11_count_176, .int, rfl, rfl, Or.inl rfl⟩)
theorem xmo_6 : xMok xmt xm_6 := ⟨xw_105, xw_64, ⟨by decide, by decide, by decide +kernel⟩, by decide +kernel, rfl, xo_6⟩
set_option maxRecDepth 100000 in
set_option maxHeartbeats 4000000 in
theorem xo_7 : ∀ q ∈ xk_7, xok xmt xm_7 q.1 q.2 := by
  refine xcns ?_ <| xcns ?_ <| xcns ?_ <| xcns ?_ <| xcns ?_ <| xcns ?_ <| xcns ?_ <| xcns ?_ <| xcns ?_ <| xnl
  · exact (xr_iconst dX11_crackBoys_0 (by decide +kernel))
  · exact (⟨by decide, xr_istoren dX11_crackBoys_1 rfl⟩)
  · exact (⟨by decide, xr_iloadn dX11_crackBoys_2 rfl⟩)
  · exact (⟨by decide, xr_aloadn dX11_crackBoys_3 rfl⟩)
  · exact (xr_getf dX11_crackBoys_4 (show vwCl[11]? = some (RX11, TX11, 15) from rfl) (by decide) xin_X11 xw_8)
  · exact (xr_getf dX11_crackBoys_7 (show vwCl[4]? = some (RX4, TX4, 19) from rfl) (by decide) xin_X4 xw_89)
  · exact (xr_getf dX11_crackBoys_10 (show vwCl[6]? = some (RX6, TX6, 2) from rfl) (by decide) xin_X6 xw_88)
  · exact (xr_icmpge dX11_crackBoys_13 (by decide))
  · exact (⟨dX11_crackBoys_89, rfl⟩)
theorem xmo_7 : xMok xmt xm_7 := ⟨xw_106, xw_64, ⟨by decide, by decide, by decide +kernel⟩, by decide +kernel, rfl, xo_7⟩
set_option maxRecDepth 100000 in
set_option maxHeartbeats 4000000 in
theorem xo_8 : ∀ q ∈ xk_8, xok xmt xm_8 q.1 q.2 := by
  refine xcns ?_ <| xcns ?_ <| xcns ?_ <| xcns ?_ <| xcns ?_ <| xcns ?_ <| xcns ?_ <| xcns ?_ <| xnl
  · exact (⟨by decide, xr_aloadn dX11_cracks_0 rfl⟩)
  · exact (xr_getf dX11_cracks_1 (show vwCl[11]? = some (RX11, TX11, 15) from rfl) (by decide) xin_X11 xw_8)
  · exact (xr_getf dX11_cracks_4 (show vwCl[4]? = some (RX4, TX4, 19) from rfl) (by decide) xin_X4 xw_89)
  · exact (⟨by decide, xr_iloadn dX11_cracks_7 rfl⟩)
  · exact (⟨rfl, _, rfl, ⟨145, dX11_cracks_8, xw_69, xw_67, xw_68⟩, _, rfl, rfl⟩)
  · exact (xr_ifeq dX11_cracks_11 (by decide))
  · exact (xr_iconst dX11_cracks_32 (by decide +kernel))
  · exact (⟨dX11_cracks_33, .int, rfl, rfl, Or.inl rfl⟩)
theorem xmo_8 : xMok xmt xm_8 := ⟨xw_107, xw_64, ⟨by decide, by decide, by decide +kernel⟩, by decide +kernel, rfl, xo_8⟩
set_option maxRecDepth 100000 in
set_option maxHeartbeats 4000000 in
theorem xo_9 : ∀ q ∈ xk_9, xok xmt xm_9 q.1 q.2 := by
  refine xcns ?_ <| xcns ?_ <| xcns ?_ <| xcns ?_ <| xcns ?_ <| xcns ?_ <| xcns ?_ <| xcns ?_ <| xnl
  · exact (⟨by decide, xr_aloadn dX11_due_0 rfl⟩)
  · exact (xr_getf dX11_due_1 (show vwCl[11]? = some (RX11, TX11, 15) from rfl) (by decide) xin_X11 xw_8)
  · exact (⟨by decide, xr_iloadn dX11_due_4 rfl⟩)
  · exact (⟨by decide, xr_iloadn dX11_due_5 rfl⟩)
  · exact (⟨rfl, _, rfl, ⟨195, dX11_due_6, xw_85, xw_83, xw_84⟩, _, rfl, rfl⟩)
  · exact (xr_ifeq dX11_due_9 (by decide))
  · exact (xr_iconst dX11_due_39 (by decide +kernel))
  · exact (⟨dX11_due_40, .int, rfl, rfl, Or.inl rfl⟩)
theorem xmo_9 : xMok xmt xm_9 := ⟨xw_108, xw_64, ⟨by decide, by decide, by decide +kernel⟩, by decide +kernel, rfl, xo_9⟩
set_option maxRecDepth 100000 in
set_option maxHeartbeats 4000000 in
theorem xo_10 : ∀ q ∈ xk_10, xok xmt xm_10 q.1 q.2 := by
  refine xcns ?_ <| xcns ?_ <| xcns ?_ <| xcns ?_ <| xcns ?_ <| xcns ?_ <| xcns ?_ <| xcns ?_ <| xcns ?_ <| xcns ?_ <| xcns ?_ <| xcns ?_ <| xcns ?_ <| xcns ?_ <| xcns ?_ <| xcns ?_ <| xcns ?_ <| xcns ?_ <| xcns ?_ <| xcns ?_ <| xcns ?_ <| xcns ?_ <| xcns ?_ <| xcns ?_ <| xcns ?_ <| xcns ?_ <| xcns ?_ <| xcns ?_ <| xcns ?_ <| xnl
  · exact (⟨by decide, xr_aloadn dX11_easter_0 rfl⟩)
  · exact (xr_getf dX11_easter_1 (show vwCl[11]? = some (RX11, TX11, 15) from rfl) (by decide) xin_X11 xw_8)
  · exact (⟨by decide, xr_iloadn dX11_easter_4 rfl⟩)
  · exact (⟨rfl, _, rfl, ⟨280, dX11_easter_5, xw_111, xw_109, xw_110⟩, _, rfl, rfl⟩)
  · exact (xr_ifne dX11_easter_8 (by decide))
  · exact (xr_iconst dX11_easter_11 (by decide +kernel))
  · exact (⟨dX11_easter_12, .int, rfl, rfl, Or.inl rfl⟩)
  · exact (⟨by decide, xr_aloadn dX11_easter_13 rfl⟩)
  · exact (xr_getf dX11_easter_14 (show vwCl[11]? = some (RX11, TX11, 15) from rfl) (by decide) xin_X11 xw_49)
  · exact (⟨by decide, xr_iloadn dX11_easter_17 rfl⟩)
  · exact (⟨rfl, _, rfl, ⟨283, dX11_easter_18, xw_114, xw_112, xw_113⟩, _, rfl, rfl⟩)
  · exact (⟨by decide, xr_istoren dX11_easter_21 rfl⟩)
  · exact (xr_iconst dX11_easter_22 (by decide +kernel))
  · exact (⟨by decide, xr_istoren dX11_easter_23 rfl⟩)
  · exact (⟨by decide, xr_iloadn dX11_easter_24 rfl⟩)
  · exact (⟨by decide, xr_aloadn dX11_easter_25 rfl⟩)
  · exact (xr_getf dX11_easter_26 (show vwCl[11]? = some (RX11, TX11, 15) from rfl) (by decide) xin_X11 xw_8)
  · exact (xr_getf dX11_easter_29 (show vwCl[4]? = some (RX4, TX4, 19) from rfl) (by decide) xin_X4 xw_81)
  · exact (xr_getf dX11_easter_32 (show vwCl[6]? = some (RX6, TX6, 2) from rfl) (by decide) xin_X6 xw_88)
  · exact (xr_icmpge dX11_easter_35 (by decide))
  · exact (⟨by decide, xr_aloadn dX11_easter_62 rfl⟩)
  · exact (xr_getf dX11_easter_63 (show vwCl[11]? = some (RX11, TX11, 15) from rfl) (by decide) xin_X11 xw_25)
  · exact (fun v h => xr_dup dX11_easter_66 v h)
  · exact (xr_getf dX11_easter_67 (show vwCl[10]? = some (RX10, TX10, 13) from rfl) (by decide) xin_X10 xw_93)
  · exact (⟨by decide, xr_iloadn dX11_easter_70 rfl⟩)
  · exact (fun x y h => xr_iadd dX11_easter_71 x y)
  · exact (⟨.int, false, 0, rfl, xr_putf dX11_easter_72 (show vwCl[10]? = some (RX10, TX10, 13) from rfl) (by decide) xin_X10 tyX10_ok nmX10 xw_93 rfl (rfl : tyX10 8 = .int), fun h => (by cases h)⟩)
  · exact (⟨by decide, xr_iloadn dX11_easter_75 rfl⟩)
  · exact (⟨dX11_easter_76, .int, rfl, rfl, Or.inl rfl⟩)
theorem xmo_10 : xMok xmt xm_10 := ⟨xw_115, xw_64, ⟨by decide, by decide, by decide +kernel⟩, by decide +kernel, rfl, xo_10⟩
set_option maxRecDepth 100000 in
set_option maxHeartbeats 4000000 in
theorem xo_11 : ∀ q ∈ xk_11, xok xmt xm_11 q.1 q.2 := by
  refine xcns ?_ <| xcns ?_ <| xcns ?_ <| xcns ?_ <| xcns ?_ <| xcns ?_ <| xcns ?_ <| xcns ?_ <| xcns ?_ <| xnl
  · exact (⟨by decide, xr_aloadn dX11_entry_0 rfl⟩)
  · exact (⟨by decide, xr_iloadn dX11_entry_1 rfl⟩)
  · exact (⟨by decide, xr_iloadn dX11_entry_2 rfl⟩)
  · exact (⟨by decide, xr_iloadn dX11_entry_3 rfl⟩)
  · exact (⟨by decide, xr_iload dX11_entry_4⟩)
  · exact (⟨rfl, _, rfl, ⟨331, dX11_entry_6, xw_118, xw_116, xw_117⟩, _, rfl, rfl⟩)
  · exact (xr_ifeq dX11_entry_9 (by decide))
  · exact (xr_iconst dX11_entry_23 (by decide +kernel))
  · exact (⟨dX11_entry_24, .int, rfl, rfl, Or.inl rfl⟩)
theorem xmo_11 : xMok xmt xm_11 := ⟨xw_119, xw_64, ⟨by decide, by decide, by decide +kernel⟩, by decide +kernel, rfl, xo_11⟩
set_option maxRecDepth 100000 in
set_option maxHeartbeats 4000000 in
theorem xo_12 : ∀ q ∈ xk_12, xok xmt xm_12 q.1 q.2 := by
  refine xcns ?_ <| xcns ?_ <| xcns ?_ <| xcns ?_ <| xcns ?_ <| xcns ?_ <| xcns ?_ <| xcns ?_ <| xcns ?_ <| xcns ?_ <| xnl
  · exact (⟨by decide, xr_iloadn dX11_fault_0 rfl⟩)
  · exact (xr_look2 dX11_fault_1 (by decide) (by decide) (by decide) (by decide))
  · exact (⟨by decide, xr_aloadn dX11_fault_28 rfl⟩)
  · exact (xr_getf dX11_fault_29 (show vwCl[11]? = some (RX11, TX11, 15) from rfl) (by decide) xin_X11 xw_57)
  · exact (⟨dX11_fault_32, .int, rfl, rfl, Or.inl rfl⟩)
  · exact (⟨by decide, xr_aloadn dX11_fault_33 rfl⟩)
  · exact (xr_getf dX11_fault_34 (show vwCl[11]? = some (RX11, TX11, 15) from rfl) (by decide) xin_X11 xw_58)
  · exact (⟨dX11_fault_37, .int, rfl, rfl, Or.inl rfl⟩)
  · exact (xr_iconst dX11_fault_38 (by decide +kernel))
  · exact (⟨dX11_fault_39, .int, rfl, rfl, Or.inl rfl⟩)
theorem xmo_12 : xMok xmt xm_12 := ⟨xw_120, xw_64, ⟨by decide, by decide, by decide +kernel⟩, by decide +kernel, rfl, xo_12⟩
set_option maxRecDepth 100000 in
set_option maxHeartbeats 4000000 in
theorem xo_13 : ∀ q ∈ xk_13, xok xmt xm_13 q.1 q.2 := by
  refine xcns ?_ <| xcns ?_ <| xcns ?_ <| xcns ?_ <| xcns ?_ <| xcns ?_ <| xcns ?_ <| xcns ?_ <| xcns ?_ <| xcns ?_ <| xcns ?_ <| xcns ?_ <| xcns ?_ <| xcns ?_ <| xcns ?_ <| xcns ?_ <| xcns ?_ <| xcns ?_ <| xcns ?_ <| xcns ?_ <| xcns ?_ <| xcns ?_ <| xcns ?_ <| xcns ?_ <| xnl
  · exact (⟨by decide, xr_aloadn dX11_feed_0 rfl⟩)
  · exact (xr_getf dX11_feed_1 (show vwCl[11]? = some (RX11, TX11, 15) from rfl) (by decide) xin_X11 xw_56)
  · exact (xr_bipush dX11_feed_4 (by decide +kernel))
  · exact (fun x y h => xr_iadd dX11_feed_6 x y)
  · exact (xr_sipush dX11_feed_7 (by decide +kernel))
  · exact (xr_icmple dX11_feed_10 (by decide))
  · exact (⟨by decide, xr_aloadn dX11_feed_15 rfl⟩)
  · exact (⟨by decide, xr_iloadn dX11_feed_16 rfl⟩)
  · exact (⟨rfl, _, rfl, ⟨104, dX11_feed_17, xw_123, xw_121, xw_122⟩, _, rfl, rfl⟩)
  · exact (⟨by decide, xr_aloadn dX11_feed_20 rfl⟩)
  · exact (⟨by decide, xr_iloadn dX11_feed_21 rfl⟩)
  · exact (⟨rfl, _, rfl, ⟨104, dX11_feed_22, xw_123, xw_121, xw_122⟩, _, rfl, rfl⟩)
  · exact (⟨by decide, xr_aloadn dX11_feed_25 rfl⟩)
  · exact (⟨by decide, xr_iloadn dX11_feed_26 rfl⟩)
  · exact (⟨rfl, _, rfl, ⟨104, dX11_feed_27, xw_123, xw_121, xw_122⟩, _, rfl, rfl⟩)
  · exact (⟨by decide, xr_aloadn dX11_feed_30 rfl⟩)
  · exact (⟨by decide, xr_iload dX11_feed_31⟩)
  · exact (⟨rfl, _, rfl, ⟨104, dX11_feed_33, xw_123, xw_121, xw_122⟩, _, rfl, rfl⟩)
  · exact (⟨by decide, xr_aloadn dX11_feed_36 rfl⟩)
  · exact (⟨by decide, xr_iload dX11_feed_37⟩)
  · exact (⟨rfl, _, rfl, ⟨104, dX11_feed_39, xw_123, xw_121, xw_122⟩, _, rfl, rfl⟩)
  · exact (⟨by decide, xr_aloadn dX11_feed_42 rfl⟩)
  · exact (xr_getf dX11_feed_43 (show vwCl[11]? = some (RX11, TX11, 15) from rfl) (by decide) xin_X11 xw_56)
  · exact (⟨dX11_feed_46, .int, rfl, rfl, Or.inl rfl⟩)
theorem xmo_13 : xMok xmt xm_13 := ⟨xw_124, xw_64, ⟨by decide, by decide, by decide +kernel⟩, by decide +kernel, rfl, xo_13⟩
set_option maxRecDepth 100000 in
set_option maxHeartbeats 4000000 in
theorem xo_14 : ∀ q ∈ xk_14, xok xmt xm_14 q.1 q.2 := by
  refine xcns ?_ <| xcns ?_ <| xcns ?_ <| xcns ?_ <| xcns ?_ <| xcns ?_ <| xcns ?_ <| xcns ?_ <| xcns ?_ <| xcns ?_ <| xcns ?_ <| xcns ?_ <| xcns ?_ <| xcns ?_ <| xcns ?_ <| xcns ?_ <| xcns ?_ <| xcns ?_ <| xcns ?_ <| xcns ?_ <| xcns ?_ <| xcns ?_ <| xcns ?_ <| xcns ?_ <| xcns ?_ <| xcns ?_ <| xcns ?_ <| xcns ?_ <| xcns ?_ <| xcns ?_ <| xcns ?_ <| xcns ?_ <| xcns ?_ <| xcns ?_ <| xcns ?_ <| xcns ?_ <| xcns ?_ <| xcns ?_ <| xcns ?_ <| xcns ?_ <| xcns ?_ <| xcns ?_ <| xcns ?_ <| xcns ?_ <| xcns ?_ <| xcns ?_ <| xcns ?_ <| xcns ?_ <| xcns ?_ <| xcns ?_ <| xnl
  · exact (⟨by decide, xr_aloadn dX11_gang_0 rfl⟩)
  · exact (xr_getf dX11_gang_1 (show vwCl[11]? = some (RX11, TX11, 15) from rfl) (by decide) xin_X11 xw_31)
  · exact (⟨by decide, xr_aloadn dX11_gang_4 rfl⟩)
  · exact (⟨rfl, _, rfl, ⟨302, dX11_gang_5, xw_98, xw_96, xw_97⟩, _, rfl, rfl⟩)
  · exact (⟨rfl, _, rfl, ⟨306, dX11_gang_8, xw_127, xw_125, xw_126⟩, _, rfl, rfl⟩)
  · exact (⟨by decide, xr_lstoren dX11_gang_11 rfl⟩)
  · exact (xr_bipush dX11_gang_12 (by decide +kernel))
  · exact (⟨by decide, xr_istoren dX11_gang_14 rfl⟩)
  · exact (xr_bipush dX11_gang_15 (by decide +kernel))
  · exact (⟨by decide, xr_istore dX11_gang_17⟩)
  · exact (xr_iconst dX11_gang_19 (by decide +kernel))
  · exact (⟨by decide, xr_istore dX11_gang_20⟩)
  · exact (⟨by decide, xr_iload dX11_gang_22⟩)
  · exact (xr_iconst dX11_gang_24 (by decide +kernel))
  · exact (⟨by decide, xr_aloadn dX11_gang_25 rfl⟩)
  · exact (xr_getf dX11_gang_26 (show vwCl[11]? = some (RX11, TX11, 15) from rfl) (by decide) xin_X11 xw_8)
  · exact (xr_getf dX11_gang_29 (show vwCl[4]? = some (RX4, TX4, 19) from rfl) (by decide) xin_X4 xw_89)
  · exact (xr_getf dX11_gang_32 (show vwCl[6]? = some (RX6, TX6, 2) from rfl) (by decide) xin_X6 xw_88)
  · exact (fun x y h => xr_ishl dX11_gang_35 x y)
  · exact (xr_icmpge dX11_gang_36 (by decide))
  · exact (⟨by decide, xr_iload dX11_gang_39⟩)
  · exact (⟨rfl, _, rfl, ⟨216, dX11_gang_41, xw_100, xw_101⟩⟩)
  · exact (⟨by decide, xr_istore dX11_gang_44⟩)
  · exact (⟨by decide, xr_iload dX11_gang_46⟩)
  · exact (⟨by decide, xr_iload dX11_gang_48⟩)
  · exact (xr_icmpge dX11_gang_50 (by decide))
  · exact (⟨by decide, xr_iload dX11_gang_53⟩)
  · exact (⟨by decide, xr_aloadn dX11_gang_55 rfl⟩)
  · exact (xr_getf dX11_gang_56 (show vwCl[11]? = some (RX11, TX11, 15) from rfl) (by decide) xin_X11 xw_25)
  · exact (xr_getf dX11_gang_59 (show vwCl[10]? = some (RX10, TX10, 13) from rfl) (by decide) xin_X10 xw_99)
  · exact (fun x y h => xr_iand dX11_gang_62 x y)
  · exact (xr_ifne dX11_gang_63 (by decide))
  · exact (⟨by decide, xr_lloadn dX11_gang_66 rfl⟩)
  · exact (⟨by decide, xr_aloadn dX11_gang_67 rfl⟩)
  · exact (⟨by decide, xr_iload dX11_gang_68⟩)
  · exact (⟨rfl, _, rfl, ⟨328, dX11_gang_70, xw_130, xw_128, xw_129⟩, _, rfl, rfl⟩)
  · exact (xr_ldc2 dX11_gang_73 xw_131)
  · exact (fun x y => xr_lxor dX11_gang_76 x y)
  · exact (fun x y => xr_land dX11_gang_77 x y)
  · exact (xr_lconst dX11_gang_78 (by decide +kernel))
  · exact (fun x y => xr_lcmp dX11_gang_79 x y)
  · exact (xr_ifne dX11_gang_80 (by decide))
  · exact (⟨by decide, xr_iload dX11_gang_83⟩)
  · exact (⟨by decide, xr_istore dX11_gang_85⟩)
  · exact (⟨by decide, xr_iload dX11_gang_87⟩)
  · exact (⟨by decide, xr_istoren dX11_gang_89 rfl⟩)
  · exact (xr_iinc dX11_gang_90 (by decide +kernel))
  · exact (xr_goto dX11_gang_93 (by decide))
  · exact (⟨by decide, xr_iloadn dX11_gang_96 rfl⟩)
  · exact (⟨dX11_gang_97, .int, rfl, rfl, Or.inl rfl⟩)
theorem xmo_14 : xMok xmt xm_14 := ⟨xw_132, xw_64, ⟨by decide, by decide, by decide +kernel⟩, by decide +kernel, rfl, xo_14⟩
set_option maxRecDepth 100000 in
set_option maxHeartbeats 4000000 in
theorem xo_15 : ∀ q ∈ xk_15, xok xmt xm_15 q.1 q.2 := by
  refine xcns ?_ <| xcns ?_ <| xcns ?_ <| xcns ?_ <| xcns ?_ <| xcns ?_ <| xcns ?_ <| xcns ?_ <| xcns ?_ <| xcns ?_ <| xcns ?_ <| xcns ?_ <| xcns ?_ <| xnl
  · exact (⟨by decide, xr_iloadn dX11_hum_0 rfl⟩)
  · exact (xr_iconst dX11_hum_1 (by decide +kernel))
  · exact (xr_icmplt dX11_hum_2 (by decide))
  · exact (⟨by decide, xr_iloadn dX11_hum_5 rfl⟩)
  · exact (xr_bipush dX11_hum_6 (by decide +kernel))
  · exact (xr_icmpgt dX11_hum_8 (by decide))
  · exact (⟨by decide, xr_aloadn dX11_hum_11 rfl⟩)
  · exact (xr_getf dX11_hum_12 (show vwCl[11]? = some (RX11, TX11, 15) from rfl) (by decide) xin_X11 xw_31)
  · exact (⟨by decide, xr_iloadn dX11_hum_15 rfl⟩)
  · exact (⟨rfl, _, rfl, ⟨296, dX11_hum_16, xw_135, xw_133, xw_134⟩, _, rfl, rfl⟩)
  · exact (xr_goto dX11_hum_19 (by decide))
  · exact (xr_iconst dX11_hum_22 (by decide +kernel))
  · exact (⟨dX11_hum_23, .int, rfl, rfl, Or.inl rfl⟩)
theorem xmo_15 : xMok xmt xm_15 := ⟨xw_136, xw_64, ⟨by decide, by decide, by decide +kernel⟩, by decide +kernel, rfl, xo_15⟩
set_option maxRecDepth 100000 in
set_option maxHeartbeats 4000000 in
theorem xo_16 : ∀ q ∈ xk_16, xok xmt xm_16 q.1 q.2 := by
  refine xcns ?_ <| xcns ?_ <| xcns ?_ <| xcns ?_ <| xcns ?_ <| xcns ?_ <| xcns ?_ <| xcns ?_ <| xnl
  · exact (⟨by decide, xr_aloadn dX11_isRound_0 rfl⟩)
  · exact (xr_getf dX11_isRound_1 (show vwCl[11]? = some (RX11, TX11, 15) from rfl) (by decide) xin_X11 xw_8)
  · exact (⟨by decide, xr_iloadn dX11_isRound_4 rfl⟩)
  · exact (⟨by decide, xr_iloadn dX11_isRound_5 rfl⟩)
  · exact (⟨rfl, _, rfl, ⟨195, dX11_isRound_6, xw_85, xw_83, xw_84⟩, _, rfl, rfl⟩)
  · exact (xr_ifeq dX11_isRound_9 (by decide))
  · exact (xr_iconst dX11_isRound_39 (by decide +kernel))
  · exact (⟨dX11_isRound_40, .boolean, rfl, rfl, Or.inr rfl⟩)
theorem xmo_16 : xMok xmt xm_16 := ⟨xw_137, xw_64, ⟨by decide, by decide, by decide +kernel⟩, by decide +kernel, rfl, xo_16⟩
set_option maxRecDepth 100000 in
set_option maxHeartbeats 4000000 in
theorem xo_17 : ∀ q ∈ xk_17, xok xmt xm_17 q.1 q.2 := by
  refine xcns ?_ <| xcns ?_ <| xcns ?_ <| xcns ?_ <| xcns ?_ <| xcns ?_ <| xcns ?_ <| xcns ?_ <| xcns ?_ <| xcns ?_ <| xcns ?_ <| xcns ?_ <| xnl
  · exact (⟨by decide, xr_aloadn dX11_keep_0 rfl⟩)
  · exact (xr_getf dX11_keep_1 (show vwCl[11]? = some (RX11, TX11, 15) from rfl) (by decide) xin_X11 xw_26)
  · exact (⟨by decide, xr_aloadn dX11_keep_4 rfl⟩)
  · exact (xr_getf dX11_keep_5 (show vwCl[11]? = some (RX11, TX11, 15) from rfl) (by decide) xin_X11 xw_25)
  · exact (⟨rfl, _, rfl, ⟨354, dX11_keep_8, xw_140, xw_138, xw_139⟩, _, rfl, rfl⟩)
  · exact (⟨by decide, xr_aloadn dX11_keep_11 rfl⟩)
  · exact (xr_iconst dX11_keep_12 (by decide +kernel))
  · exact (⟨.boolean, false, 0, rfl, xr_putf dX11_keep_13 (show vwCl[11]? = some (RX11, TX11, 15) from rfl) (by decide) xin_X11 tyX11_ok nmX11 xw_59 rfl (rfl : tyX11 14 = .boolean), fun h => (by cases h)⟩)
  · exact (⟨by decide, xr_aloadn dX11_keep_16 rfl⟩)
  · exact (xr_getf dX11_keep_17 (show vwCl[11]? = some (RX11, TX11, 15) from rfl) (by decide) xin_X11 xw_25)
  · exact (xr_getf dX11_keep_20 (show vwCl[10]? = some (RX10, TX10, 13) from rfl) (by decide) xin_X10 xw_92)
  · exact (⟨dX11_keep_23, .int, rfl, rfl, Or.inl rfl⟩)
theorem xmo_17 : xMok xmt xm_17 := ⟨xw_141, xw_64, ⟨by decide, by decide, by decide +kernel⟩, by decide +kernel, rfl, xo_17⟩
set_option maxRecDepth 100000 in
set_option maxHeartbeats 4000000 in
theorem xo_18 : ∀ q ∈ xk_18, xok xmt xm_18 q.1 q.2 := by
  refine xcns ?_ <| xcns ?_ <| xcns ?_ <| xcns ?_ <| xcns ?_ <| xcns ?_ <| xcns ?_ <| xcns ?_ <| xcns ?_ <| xcns ?_ <| xcns ?_ <| xcns ?_ <| xcns ?_ <| xcns ?_ <| xcns ?_ <| xcns ?_ <| xnl
  · exact (⟨by decide, xr_iloadn dX11_known_0 rfl⟩)
  · exact (xr_iconst dX11_known_1 (by decide +kernel))
  · exact (xr_icmplt dX11_known_2 (by decide))
  · exact (⟨by decide, xr_iloadn dX11_known_5 rfl⟩)
  · exact (⟨by decide, xr_aloadn dX11_known_6 rfl⟩)
  · exact (xr_getf dX11_known_7 (show vwCl[11]? = some (RX11, TX11, 15) from rfl) (by decide) xin_X11 xw_31)
  · exact (xr_getf dX11_known_10 (show vwCl[3]? = some (RX3, TX3, 2) from rfl) (by decide) xin_X3 xw_95)
  · exact (xr_icmple dX11_known_13 (by decide))
  · exact (xr_iconst dX11_known_16 (by decide +kernel))
  · exact (⟨dX11_known_17, .boolean, rfl, rfl, Or.inr rfl⟩)
  · exact (⟨by decide, xr_aloadn dX11_known_18 rfl⟩)
  · exact (xr_getf dX11_known_19 (show vwCl[11]? = some (RX11, TX11, 15) from rfl) (by decide) xin_X11 xw_25)
  · exact (⟨by decide, xr_iloadn dX11_known_22 rfl⟩)
  · exact (⟨.int, false, 0, rfl, xr_putf dX11_known_23 (show vwCl[10]? = some (RX10, TX10, 13) from rfl) (by decide) xin_X10 tyX10_ok nmX10 xw_142 rfl (rfl : tyX10 11 = .int), fun h => (by cases h)⟩)
  · exact (xr_iconst dX11_known_26 (by decide +kernel))
  · exact (⟨dX11_known_27, .boolean, rfl, rfl, Or.inr rfl⟩)
theorem xmo_18 : xMok xmt xm_18 := ⟨xw_143, xw_64, ⟨by decide, by decide, by decide +kernel⟩, by decide +kernel, rfl, xo_18⟩
set_option maxRecDepth 100000 in
set_option maxHeartbeats 4000000 in
theorem xo_19 : ∀ q ∈ xk_19, xok xmt xm_19 q.1 q.2 := by
  refine xcns ?_ <| xcns ?_ <| xcns ?_ <| xcns ?_ <| xcns ?_ <| xcns ?_ <| xcns ?_ <| xcns ?_ <| xcns ?_ <| xcns ?_ <| xnl
  · exact (⟨by decide, xr_aloadn dX11_knownCount_0 rfl⟩)
  · exact (xr_getf dX11_knownCount_1 (show vwCl[11]? = some (RX11, TX11, 15) from rfl) (by decide) xin_X11 xw_25)
  · exact (xr_getf dX11_knownCount_4 (show vwCl[10]? = some (RX10, TX10, 13) from rfl) (by decide) xin_X10 xw_142)
  · exact (xr_iconst dX11_knownCount_7 (by decide +kernel))
  · exact (xr_icmpne dX11_knownCount_8 (by decide))
  · exact (⟨by decide, xr_aloadn dX11_knownCount_11 rfl⟩)
  · exact (xr_getf dX11_knownCount_12 (show vwCl[11]? = some (RX11, TX11, 15) from rfl) (by decide) xin_X11 xw_31)
  · exact (xr_getf dX11_knownCount_15 (show vwCl[3]? = some (RX3, TX3, 2) from rfl) (by decide) xin_X3 xw_95)
  · exact (xr_goto dX11_knownCount_18 (by decide))
  · exact (⟨dX11_knownCount_28, .int, rfl, rfl, Or.inl rfl⟩)
theorem xmo_19 : xMok xmt xm_19 := ⟨xw_144, xw_64, ⟨by decide, by decide, by decide +kernel⟩, by decide +kernel, rfl, xo_19⟩
set_option maxRecDepth 100000 in
set_option maxHeartbeats 4000000 in
theorem xo_20 : ∀ q ∈ xk_20, xok xmt xm_20 q.1 q.2 := by
  refine xcns ?_ <| xcns ?_ <| xcns ?_ <| xcns ?_ <| xcns ?_ <| xcns ?_ <| xcns ?_ <| xcns ?_ <| xcns ?_ <| xcns ?_ <| xcns ?_ <| xcns ?_ <| xcns ?_ <| xcns ?_ <| xcns ?_ <| xcns ?_ <| xcns ?_ <| xcns ?_ <| xcns ?_ <| xcns ?_ <| xcns ?_ <| xcns ?_ <| xcns ?_ <| xcns ?_ <| xcns ?_ <| xcns ?_ <| xcns ?_ <| xcns ?_ <| xnl
  · exact (⟨by decide, xr_iloadn dX11_named_0 rfl⟩)
  · exact (xr_table dX11_named_1 (by decide) (by decide) (by decide))
  · exact (⟨by decide, xr_aloadn dX11_named_32 rfl⟩)
  · exact (xr_getf dX11_named_33 (show vwCl[11]? = some (RX11, TX11, 15) from rfl) (by decide) xin_X11 xw_8)
  · exact (xr_getf dX11_named_36 (show vwCl[4]? = some (RX4, TX4, 19) from rfl) (by decide) xin_X4 xw_87)
  · exact (⟨by decide, xr_iloadn dX11_named_39 rfl⟩)
  · exact (⟨rfl, _, rfl, ⟨131, dX11_named_40, xw_147, xw_145, xw_146⟩, _, rfl, rfl⟩)
  · exact (⟨dX11_named_43, .int, rfl, rfl, Or.inl rfl⟩)
  · exact (⟨by decide, xr_aloadn dX11_named_44 rfl⟩)
  · exact (xr_getf dX11_named_45 (show vwCl[11]? = some (RX11, TX11, 15) from rfl) (by decide) xin_X11 xw_8)
  · exact (xr_getf dX11_named_48 (show vwCl[4]? = some (RX4, TX4, 19) from rfl) (by decide) xin_X4 xw_89)
  · exact (⟨by decide, xr_iloadn dX11_named_51 rfl⟩)
  · exact (⟨rfl, _, rfl, ⟨131, dX11_named_52, xw_147, xw_145, xw_146⟩, _, rfl, rfl⟩)
  · exact (⟨dX11_named_55, .int, rfl, rfl, Or.inl rfl⟩)
  · exact (⟨by decide, xr_aloadn dX11_named_56 rfl⟩)
  · exact (xr_getf dX11_named_57 (show vwCl[11]? = some (RX11, TX11, 15) from rfl) (by decide) xin_X11 xw_8)
  · exact (xr_getf dX11_named_60 (show vwCl[4]? = some (RX4, TX4, 19) from rfl) (by decide) xin_X4 xw_66)
  · exact (⟨by decide, xr_iloadn dX11_named_63 rfl⟩)
  · exact (⟨rfl, _, rfl, ⟨131, dX11_named_64, xw_147, xw_145, xw_146⟩, _, rfl, rfl⟩)
  · exact (⟨dX11_named_67, .int, rfl, rfl, Or.inl rfl⟩)
  · exact (⟨by decide, xr_aloadn dX11_named_68 rfl⟩)
  · exact (xr_getf dX11_named_69 (show vwCl[11]? = some (RX11, TX11, 15) from rfl) (by decide) xin_X11 xw_8)
  · exact (xr_getf dX11_named_72 (show vwCl[4]? = some (RX4, TX4, 19) from rfl) (by decide) xin_X4 xw_81)
  · exact (⟨by decide, xr_iloadn dX11_named_75 rfl⟩)
  · exact (⟨rfl, _, rfl, ⟨131, dX11_named_76, xw_147, xw_145, xw_146⟩, _, rfl, rfl⟩)
  · exact (⟨dX11_named_79, .int, rfl, rfl, Or.inl rfl⟩)
  · exact (xr_iconst dX11_named_80 (by decide +kernel))
  · exact (⟨dX11_named_81, .int, rfl, rfl, Or.inl rfl⟩)
theorem xmo_20 : xMok xmt xm_20 := ⟨xw_148, xw_64, ⟨by decide, by decide, by decide +kernel⟩, by decide +kernel, rfl, xo_20⟩
set_option maxRecDepth 100000 in
set_option maxHeartbeats 4000000 in
theorem xo_21 : ∀ q ∈ xk_21, xok xmt xm_21 q.1 q.2 := by
  refine xcns ?_ <| xcns ?_ <| xcns ?_ <| xcns ?_ <| xcns ?_ <| xcns ?_ <| xcns ?_ <| xcns ?_ <| xnl
  · exact (⟨by decide, xr_aloadn dX11_odds_0 rfl⟩)
  · exact (xr_getf dX11_odds_1 (show vwCl[11]? = some (RX11, TX11, 15) from rfl) (by decide) xin_X11 xw_8)
  · exact (xr_getf dX11_odds_4 (show vwCl[4]? = some (RX4, TX4, 19) from rfl) (by decide) xin_X4 xw_89)
  · exact (⟨by decide, xr_iloadn dX11_odds_7 rfl⟩)
  · exact (⟨rfl, _, rfl, ⟨145, dX11_odds_8, xw_69, xw_67, xw_68⟩, _, rfl, rfl⟩)
  · exact (xr_ifeq dX11_odds_11 (by decide))
  · exact (xr_iconst dX11_odds_23 (by decide +kernel))
  · exact (⟨dX11_odds_24, .int, rfl, rfl, Or.inl rfl⟩)
theorem xmo_21 : xMok xmt xm_21 := ⟨xw_149, xw_64, ⟨by decide, by decide, by decide +kernel⟩, by decide +kernel, rfl, xo_21⟩
set_option maxRecDepth 100000 in
set_option maxHeartbeats 4000000 in
theorem xo_22 : ∀ q ∈ xk_22, xok xmt xm_22 q.1 q.2 := by
  refine xcns ?_ <| xcns ?_ <| xcns ?_ <| xcns ?_ <| xcns ?_ <| xcns ?_ <| xcns ?_ <| xcns ?_ <| xnl
  · exact (⟨by decide, xr_aloadn dX11_pay_0 rfl⟩)
  · exact (xr_getf dX11_pay_1 (show vwCl[11]? = some (RX11, TX11, 15) from rfl) (by decide) xin_X11 xw_8)
  · exact (xr_getf dX11_pay_4 (show vwCl[4]? = some (RX4, TX4, 19) from rfl) (by decide) xin_X4 xw_87)
  · exact (⟨by decide, xr_iloadn dX11_pay_7 rfl⟩)
  · exact (⟨rfl, _, rfl, ⟨145, dX11_pay_8, xw_69, xw_67, xw_68⟩, _, rfl, rfl⟩)
  · exact (xr_ifne dX11_pay_11 (by decide))
  · exact (xr_iconst dX11_pay_14 (by decide +kernel))
  · exact (⟨dX11_pay_15, .int, rfl, rfl, Or.inl rfl⟩)
theorem xmo_22 : xMok xmt xm_22 := ⟨xw_150, xw_64, ⟨by decide, by decide, by decide +kernel⟩, by decide +kernel, rfl, xo_22⟩
set_option maxRecDepth 100000 in
set_option maxHeartbeats 4000000 in
theorem xo_23 : ∀ q ∈ xk_23, xok xmt xm_23 q.1 q.2 := by
  refine xcns ?_ <| xcns ?_ <| xcns ?_ <| xcns ?_ <| xcns ?_ <| xcns ?_ <| xcns ?_ <| xcns ?_ <| xnl
  · exact (⟨by decide, xr_aloadn dX11_pitch_0 rfl⟩)
  · exact (xr_getf dX11_pitch_1 (show vwCl[11]? = some (RX11, TX11, 15) from rfl) (by decide) xin_X11 xw_8)
  · exact (⟨by decide, xr_iloadn dX11_pitch_4 rfl⟩)
  · exact (⟨by decide, xr_iloadn dX11_pitch_5 rfl⟩)
  · exact (⟨rfl, _, rfl, ⟨195, dX11_pitch_6, xw_85, xw_83, xw_84⟩, _, rfl, rfl⟩)
  · exact (xr_ifne dX11_pitch_9 (by decide))
  · exact (xr_iconst dX11_pitch_12 (by decide +kernel))
  · exact (⟨dX11_pitch_13, .int, rfl, rfl, Or.inl rfl⟩)
theorem xmo_23 : xMok xmt xm_23 := ⟨xw_151, xw_64, ⟨by decide, by decide, by decide +kernel⟩, by decide +kernel, rfl, xo_23⟩
set_option maxRecDepth 100000 in
set_option maxHeartbeats 4000000 in
theorem xo_24 : ∀ q ∈ xk_24, xok xmt xm_24 q.1 q.2 := by
  refine xcns ?_ <| xcns ?_ <| xcns ?_ <| xcns ?_ <| xcns ?_ <| xcns ?_ <| xcns ?_ <| xcns ?_ <| xcns ?_ <| xcns ?_ <| xcns ?_ <| xcns ?_ <| xnl
  · exact (xr_lconst dX11_reachOf_0 (by decide +kernel))
  · exact (⟨by decide, xr_lstoren dX11_reachOf_1 rfl⟩)
  · exact (xr_iconst dX11_reachOf_2 (by decide +kernel))
  · exact (⟨by decide, xr_istore dX11_reachOf_3⟩)
  · exact (⟨by decide, xr_iload dX11_reachOf_5⟩)
  · exact (⟨by decide, xr_aloadn dX11_reachOf_7 rfl⟩)
  · exact (xr_getf dX11_reachOf_8 (show vwCl[11]? = some (RX11, TX11, 15) from rfl) (by decide) xin_X11 xw_8)
  · exact (xr_getf dX11_reachOf_11 (show vwCl[4]? = some (RX4, TX4, 19) from rfl) (by decide) xin_X4 xw_89)
  · exact (xr_getf dX11_reachOf_14 (show vwCl[6]? = some (RX6, TX6, 2) from rfl) (by decide) xin_X6 xw_88)
  · exact (xr_icmpge dX11_reachOf_17 (by decide))
  · exact (⟨by decide, xr_lloadn dX11_reachOf_47 rfl⟩)
  · exact (⟨dX11_reachOf_48, rfl⟩)
theorem xmo_24 : xMok xmt xm_24 := ⟨xw_152, xw_64, ⟨by decide, by decide, by decide +kernel⟩, by decide +kernel, rfl, xo_24⟩
set_option maxRecDepth 100000 in
set_option maxHeartbeats 4000000 in
theorem xo_25 : ∀ q ∈ xk_25, xok xmt xm_25 q.1 q.2 := by
  refine xcns ?_ <| xcns ?_ <| xcns ?_ <| xcns ?_ <| xcns ?_ <| xcns ?_ <| xcns ?_ <| xcns ?_ <| xnl
  · exact (⟨by decide, xr_aloadn dX11_redeem_0 rfl⟩)
  · exact (xr_getf dX11_redeem_1 (show vwCl[11]? = some (RX11, TX11, 15) from rfl) (by decide) xin_X11 xw_8)
  · exact (⟨by decide, xr_iloadn dX11_redeem_4 rfl⟩)
  · exact (⟨by decide, xr_iloadn dX11_redeem_5 rfl⟩)
  · exact (⟨rfl, _, rfl, ⟨195, dX11_redeem_6, xw_85, xw_83, xw_84⟩, _, rfl, rfl⟩)
  · exact (xr_ifeq dX11_redeem_9 (by decide))
  · exact (xr_iconst dX11_redeem_37 (by decide +kernel))
  · exact (⟨dX11_redeem_38, .int, rfl, rfl, Or.inl rfl⟩)
theorem xmo_25 : xMok xmt xm_25 := ⟨xw_153, xw_64, ⟨by decide, by decide, by decide +kernel⟩, by decide +kernel, rfl, xo_25⟩
set_option maxRecDepth 100000 in
set_option maxHeartbeats 4000000 in
theorem xo_26 : ∀ q ∈ xk_26, xok xmt xm_26 q.1 q.2 := by
  refine xcns ?_ <| xcns ?_ <| xcns ?_ <| xcns ?_ <| xcns ?_ <| xcns ?_ <| xcns ?_ <| xcns ?_ <| xcns ?_ <| xnl
  · exact (⟨by decide, xr_aloadn dX11_round_0 rfl⟩)
  · exact (⟨by decide, xr_iloadn dX11_round_1 rfl⟩)
  · exact (⟨by decide, xr_iloadn dX11_round_2 rfl⟩)
  · exact (⟨by decide, xr_iloadn dX11_round_3 rfl⟩)
  · exact (⟨by decide, xr_iload dX11_round_4⟩)
  · exact (⟨rfl, _, rfl, ⟨331, dX11_round_6, xw_118, xw_116, xw_117⟩, _, rfl, rfl⟩)
  · exact (xr_ifne dX11_round_9 (by decide))
  · exact (xr_iconst dX11_round_12 (by decide +kernel))
  · exact (⟨dX11_round_13, .int, rfl, rfl, Or.inl rfl⟩)
theorem xmo_26 : xMok xmt xm_26 := ⟨xw_154, xw_64, ⟨by decide, by decide, by decide +kernel⟩, by decide +kernel, rfl, xo_26⟩
set_option maxRecDepth 100000 in
set_option maxHeartbeats 4000000 in
theorem xo_27 : ∀ q ∈ xk_27, xok xmt xm_27 q.1 q.2 := by
  refine xcns ?_ <| xcns ?_ <| xcns ?_ <| xcns ?_ <| xcns ?_ <| xcns ?_ <| xcns ?_ <| xcns ?_ <| xnl
  · exact (⟨by decide, xr_aloadn dX11_run_0 rfl⟩)
  · exact (xr_getf dX11_run_1 (show vwCl[11]? = some (RX11, TX11, 15) from rfl) (by decide) xin_X11 xw_8)
  · exact (xr_getf dX11_run_4 (show vwCl[4]? = some (RX4, TX4, 19) from rfl) (by decide) xin_X4 xw_87)
  · exact (⟨by decide, xr_iloadn dX11_run_7 rfl⟩)
  · exact (⟨rfl, _, rfl, ⟨145, dX11_run_8, xw_69, xw_67, xw_68⟩, _, rfl, rfl⟩)
  · exact (xr_ifne dX11_run_11 (by decide))
  · exact (xr_iconst dX11_run_14 (by decide +kernel))
  · exact (⟨dX11_run_15, .int, rfl, rfl, Or.inl rfl⟩)
theorem xmo_27 : xMok xmt xm_27 := ⟨xw_155, xw_64, ⟨by decide, by decide, by decide +kernel⟩, by decide +kernel, rfl, xo_27⟩
set_option maxRecDepth 100000 in
set_option maxHeartbeats 4000000 in
theorem xo_28 : ∀ q ∈ xk_28, xok xmt xm_28 q.1 q.2 := by
  refine xcns ?_ <| xcns ?_ <| xcns ?_ <| xcns ?_ <| xcns ?_ <| xcns ?_ <| xcns ?_ <| xcns ?_ <| xnl
  · exact (⟨by decide, xr_aloadn dX11_sings_0 rfl⟩)
  · exact (xr_getf dX11_sings_1 (show vwCl[11]? = some (RX11, TX11, 15) from rfl) (by decide) xin_X11 xw_8)
  · exact (⟨by decide, xr_iloadn dX11_sings_4 rfl⟩)
  · exact (⟨by decide, xr_iloadn dX11_sings_5 rfl⟩)
  · exact (⟨rfl, _, rfl, ⟨195, dX11_sings_6, xw_85, xw_83, xw_84⟩, _, rfl, rfl⟩)
  · exact (xr_ifne dX11_sings_9 (by decide))
  · exact (xr_iconst dX11_sings_12 (by decide +kernel))
  · exact (⟨dX11_sings_13, .int, rfl, rfl, Or.inl rfl⟩)
theorem xmo_28 : xMok xmt xm_28 := ⟨xw_156, xw_64, ⟨by decide, by decide, by decide +kernel⟩, by decide +kernel, rfl, xo_28⟩
set_option maxRecDepth 100000 in
set_option maxHeartbeats 4000000 in
theorem xo_29 : ∀ q ∈ xk_29, xok xmt xm_29 q.1 q.2 := by
  refine xcns ?_ <| xcns ?_ <| xcns ?_ <| xcns ?_ <| xcns ?_ <| xcns ?_ <| xcns ?_ <| xcns ?_ <| xcns ?_ <| xcns ?_ <| xcns ?_ <| xcns ?_ <| xcns ?_ <| xnl
  · exact (⟨by decide, xr_aloadn dX11_sold_0 rfl⟩)
  · exact (xr_getf dX11_sold_1 (show vwCl[11]? = some (RX11, TX11, 15) from rfl) (by decide) xin_X11 xw_8)
  · exact (⟨by decide, xr_iloadn dX11_sold_4 rfl⟩)
  · exact (⟨rfl, _, rfl, ⟨280, dX11_sold_5, xw_111, xw_109, xw_110⟩, _, rfl, rfl⟩)
  · exact (xr_ifeq dX11_sold_8 (by decide))
  · exact (⟨by decide, xr_aloadn dX11_sold_11 rfl⟩)
  · exact (xr_getf dX11_sold_12 (show vwCl[11]? = some (RX11, TX11, 15) from rfl) (by decide) xin_X11 xw_8)
  · exact (xr_getf dX11_sold_15 (show vwCl[4]? = some (RX4, TX4, 19) from rfl) (by decide) xin_X4 xw_66)
  · exact (⟨by decide, xr_iloadn dX11_sold_18 rfl⟩)
  · exact (⟨rfl, _, rfl, ⟨145, dX11_sold_19, xw_69, xw_67, xw_68⟩, _, rfl, rfl⟩)
  · exact (xr_ifeq dX11_sold_22 (by decide))
  · exact (xr_iconst dX11_sold_34 (by decide +kernel))
  · exact (⟨dX11_sold_35, .int, rfl, rfl, Or.inl rfl⟩)
theorem xmo_29 : xMok xmt xm_29 := ⟨xw_157, xw_64, ⟨by decide, by decide, by decide +kernel⟩, by decide +kernel, rfl, xo_29⟩
set_option maxRecDepth 100000 in
set_option maxHeartbeats 4000000 in
theorem xo_30 : ∀ q ∈ xk_30, xok xmt xm_30 q.1 q.2 := by
  refine xcns ?_ <| xcns ?_ <| xcns ?_ <| xcns ?_ <| xcns ?_ <| xcns ?_ <| xcns ?_ <| xcns ?_ <| xnl
  · exact (⟨by decide, xr_aloadn dX11_sounds_0 rfl⟩)
  · exact (xr_getf dX11_sounds_1 (show vwCl[11]? = some (RX11, TX11, 15) from rfl) (by decide) xin_X11 xw_8)
  · exact (⟨by decide, xr_iloadn dX11_sounds_4 rfl⟩)
  · exact (⟨by decide, xr_iloadn dX11_sounds_5 rfl⟩)
  · exact (⟨rfl, _, rfl, ⟨195, dX11_sounds_6, xw_85, xw_83, xw_84⟩, _, rfl, rfl⟩)
  · exact (xr_ifeq dX11_sounds_9 (by decide))
  · exact (xr_iconst dX11_sounds_26 (by decide +kernel))
  · exact (⟨dX11_sounds_27, .int, rfl, rfl, Or.inl rfl⟩)
theorem xmo_30 : xMok xmt xm_30 := ⟨xw_158, xw_64, ⟨by decide, by decide, by decide +kernel⟩, by decide +kernel, rfl, xo_30⟩
set_option maxRecDepth 100000 in
set_option maxHeartbeats 4000000 in
theorem xo_31 : ∀ q ∈ xk_31, xok xmt xm_31 q.1 q.2 := by
  refine xcns ?_ <| xcns ?_ <| xcns ?_ <| xcns ?_ <| xcns ?_ <| xcns ?_ <| xcns ?_ <| xcns ?_ <| xcns ?_ <| xnl
  · exact (⟨by decide, xr_iloadn dX11_strike_0 rfl⟩)
  · exact (xr_iflt dX11_strike_1 (by decide))
  · exact (⟨by decide, xr_iloadn dX11_strike_4 rfl⟩)
  · exact (⟨by decide, xr_aloadn dX11_strike_5 rfl⟩)
  · exact (xr_getf dX11_strike_6 (show vwCl[11]? = some (RX11, TX11, 15) from rfl) (by decide) xin_X11 xw_31)
  · exact (xr_getf dX11_strike_9 (show vwCl[3]? = some (RX3, TX3, 2) from rfl) (by decide) xin_X3 xw_95)
  · exact (xr_icmpge dX11_strike_12 (by decide))
  · exact (xr_iconst dX11_strike_28 (by decide +kernel))
  · exact (⟨dX11_strike_29, .int, rfl, rfl, Or.inl rfl⟩)
theorem xmo_31 : xMok xmt xm_31 := ⟨xw_159, xw_64, ⟨by decide, by decide, by decide +kernel⟩, by decide +kernel, rfl, xo_31⟩
set_option maxRecDepth 100000 in
set_option maxHeartbeats 4000000 in
theorem xo_32 : ∀ q ∈ xk_32, xok xmt xm_32 q.1 q.2 := by
  refine xcns ?_ <| xcns ?_ <| xcns ?_ <| xcns ?_ <| xcns ?_ <| xcns ?_ <| xcns ?_ <| xcns ?_ <| xcns ?_ <| xcns ?_ <| xcns ?_ <| xcns ?_ <| xcns ?_ <| xcns ?_ <| xcns ?_ <| xcns ?_ <| xcns ?_ <| xcns ?_ <| xcns ?_ <| xcns ?_ <| xcns ?_ <| xcns ?_ <| xcns ?_ <| xcns ?_ <| xcns ?_ <| xcns ?_ <| xcns ?_ <| xnl
  · exact (xr_iconst dX11_sunday_0 (by decide +kernel))
  · exact (⟨by decide, xr_istoren dX11_sunday_1 rfl⟩)
  · exact (xr_iconst dX11_sunday_2 (by decide +kernel))
  · exact (⟨by decide, xr_istoren dX11_sunday_3 rfl⟩)
  · exact (⟨by decide, xr_iloadn dX11_sunday_4 rfl⟩)
  · exact (⟨by decide, xr_aloadn dX11_sunday_5 rfl⟩)
  · exact (xr_getf dX11_sunday_6 (show vwCl[11]? = some (RX11, TX11, 15) from rfl) (by decide) xin_X11 xw_25)
  · exact (xr_getf dX11_sunday_9 (show vwCl[10]? = some (RX10, TX10, 13) from rfl) (by decide) xin_X10 xw_94)
  · exact (xr_icmpge dX11_sunday_12 (by decide))
  · exact (⟨by decide, xr_aloadn dX11_sunday_37 rfl⟩)
  · exact (xr_getf dX11_sunday_38 (show vwCl[11]? = some (RX11, TX11, 15) from rfl) (by decide) xin_X11 xw_25)
  · exact (⟨rfl, _, rfl, ⟨261, dX11_sunday_41, xw_162, xw_160, xw_161⟩, _, rfl, rfl⟩)
  · exact (⟨by decide, xr_aloadn dX11_sunday_44 rfl⟩)
  · exact (⟨rfl, _, rfl, ⟨264, dX11_sunday_45, xw_165, xw_163, xw_164⟩, _, rfl, rfl⟩)
  · exact (⟨by decide, xr_aloadn dX11_sunday_48 rfl⟩)
  · exact (xr_getf dX11_sunday_49 (show vwCl[11]? = some (RX11, TX11, 15) from rfl) (by decide) xin_X11 xw_25)
  · exact (fun v h => xr_dup dX11_sunday_52 v h)
  · exact (xr_getf dX11_sunday_53 (show vwCl[10]? = some (RX10, TX10, 13) from rfl) (by decide) xin_X10 xw_92)
  · exact (xr_iconst dX11_sunday_56 (by decide +kernel))
  · exact (fun x y h => xr_iadd dX11_sunday_57 x y)
  · exact (⟨.int, false, 0, rfl, xr_putf dX11_sunday_58 (show vwCl[10]? = some (RX10, TX10, 13) from rfl) (by decide) xin_X10 tyX10_ok nmX10 xw_92 rfl (rfl : tyX10 7 = .int), fun h => (by cases h)⟩)
  · exact (⟨by decide, xr_aloadn dX11_sunday_61 rfl⟩)
  · exact (xr_getf dX11_sunday_62 (show vwCl[11]? = some (RX11, TX11, 15) from rfl) (by decide) xin_X11 xw_43)
  · exact (xr_iconst dX11_sunday_65 (by decide +kernel))
  · exact (⟨.boolean, false, 0, rfl, xr_putf dX11_sunday_66 (show vwCl[1]? = some (RX1, TX1, 11) from rfl) (by decide) xin_X1 tyX1_ok nmX1 xw_166 rfl (rfl : tyX1 10 = .boolean), fun h => (by cases h)⟩)
  · exact (⟨by decide, xr_iloadn dX11_sunday_69 rfl⟩)
  · exact (⟨dX11_sunday_70, .int, rfl, rfl, Or.inl rfl⟩)
theorem xmo_32 : xMok xmt xm_32 := ⟨xw_167, xw_64, ⟨by decide, by decide, by decide +kernel⟩, by decide +kernel, rfl, xo_32⟩
set_option maxRecDepth 100000 in
set_option maxHeartbeats 4000000 in
theorem xo_33 : ∀ q ∈ xk_33, xok xmt xm_33 q.1 q.2 := by
  refine xcns ?_ <| xcns ?_ <| xcns ?_ <| xcns ?_ <| xcns ?_ <| xcns ?_ <| xcns ?_ <| xcns ?_ <| xcns ?_ <| xcns ?_ <| xcns ?_ <| xcns ?_ <| xcns ?_ <| xcns ?_ <| xcns ?_ <| xcns ?_ <| xcns ?_ <| xcns ?_ <| xcns ?_ <| xcns ?_ <| xcns ?_ <| xcns ?_ <| xcns ?_ <| xcns ?_ <| xcns ?_ <| xcns ?_ <| xnl
  · exact (xr_bipush dX11_tapeNumber_0 (by decide +kernel))
  · exact (⟨by decide, xr_istoren dX11_tapeNumber_2 rfl⟩)
  · exact (⟨by decide, xr_iloadn dX11_tapeNumber_3 rfl⟩)
  · exact (xr_iflt dX11_tapeNumber_4 (by decide))
  · exact (⟨by decide, xr_aloadn dX11_tapeNumber_7 rfl⟩)
  · exact (xr_getf dX11_tapeNumber_8 (show vwCl[11]? = some (RX11, TX11, 15) from rfl) (by decide) xin_X11 xw_56)
  · exact (xr_sipush dX11_tapeNumber_11 (by decide +kernel))
  · exact (xr_icmpge dX11_tapeNumber_14 (by decide))
  · exact (⟨by decide, xr_aloadn dX11_tapeNumber_17 rfl⟩)
  · exact (xr_getf dX11_tapeNumber_18 (show vwCl[11]? = some (RX11, TX11, 15) from rfl) (by decide) xin_X11 xw_3)
  · exact (⟨by decide, xr_aloadn dX11_tapeNumber_21 rfl⟩)
  · exact (xr_getf dX11_tapeNumber_22 (show vwCl[11]? = some (RX11, TX11, 15) from rfl) (by decide) xin_X11 xw_56)
  · exact (⟨by decide, xr_iloadn dX11_tapeNumber_25 rfl⟩)
  · exact (⟨by decide, xr_iloadn dX11_tapeNumber_26 rfl⟩)
  · exact (fun x y h => xr_ishr dX11_tapeNumber_27 x y)
  · exact (fun x => xr_i2b dX11_tapeNumber_28 x)
  · exact (xr_bast dX11_tapeNumber_29)
  · exact (⟨by decide, xr_aloadn dX11_tapeNumber_30 rfl⟩)
  · exact (fun v h => xr_dup dX11_tapeNumber_31 v h)
  · exact (xr_getf dX11_tapeNumber_32 (show vwCl[11]? = some (RX11, TX11, 15) from rfl) (by decide) xin_X11 xw_56)
  · exact (xr_iconst dX11_tapeNumber_35 (by decide +kernel))
  · exact (fun x y h => xr_iadd dX11_tapeNumber_36 x y)
  · exact (⟨.int, false, 0, rfl, xr_putf dX11_tapeNumber_37 (show vwCl[11]? = some (RX11, TX11, 15) from rfl) (by decide) xin_X11 tyX11_ok nmX11 xw_56 rfl (rfl : tyX11 11 = .int), fun h => (by cases h)⟩)
  · exact (xr_iinc dX11_tapeNumber_40 (by decide +kernel))
  · exact (xr_goto dX11_tapeNumber_43 (by decide))
  · exact (⟨dX11_tapeNumber_46, rfl⟩)
theorem xmo_33 : xMok xmt xm_33 := ⟨xw_168, xw_64, ⟨by decide, by decide, by decide +kernel⟩, by decide +kernel, rfl, xo_33⟩
