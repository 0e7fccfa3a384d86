set_option maxRecDepth 100000 in
set_option maxHeartbeats 4000000 in
theorem xo_11 : ∀ q ∈ xk_11, xok xmt xm_11 q.1 q.2 := by
  refine xcns ?_ <| xcns ?_ <| xcns ?_ <| xcns ?_ <| xcns ?_ <| xcns ?_ <| xcns ?_ <| xcns ?_ <| xcns ?_ <| xnl
  · exact (⟨by decide, xr_aloadn dX12_cracks_0 rfl⟩)
  · exact (xr_iconst dX12_cracks_1 (by decide +kernel))
  · exact (⟨.int, false, 0, rfl, xr_putf dX12_cracks_2 (show vwCl[12]? = some (RX12, TX12, 69) from rfl) (by decide) xin_X12 tyX12_ok nmX12 xw_60 rfl (rfl : tyX12 0 = .int), fun h => (by cases h)⟩)
  · exact (⟨by decide, xr_aloadn dX12_cracks_5 rfl⟩)
  · exact (⟨by decide, xr_iloadn dX12_cracks_6 rfl⟩)
  · exact (⟨rfl, _, rfl, ⟨335, dX12_cracks_7, xw_90, xw_88, xw_89⟩, _, rfl, rfl⟩)
  · exact (xr_ifeq dX12_cracks_10 (by decide))
  · exact (xr_iconst dX12_cracks_22 (by decide +kernel))
  · exact (⟨dX12_cracks_23, .int, rfl, rfl, Or.inl rfl⟩)
theorem xmo_11 : xMok xmt xm_11 := ⟨xw_91, xw_58, ⟨by decide, by decide, by decide +kernel⟩, by decide +kernel, rfl, xo_11⟩
set_option maxRecDepth 100000 in
set_option maxHeartbeats 4000000 in
theorem xo_12 : ∀ q ∈ xk_12, xok xmt xm_12 q.1 q.2 := by
  refine xcns ?_ <| xcns ?_ <| xcns ?_ <| xcns ?_ <| xcns ?_ <| xcns ?_ <| xcns ?_ <| xcns ?_ <| xcns ?_ <| xcns ?_ <| xnl
  · exact (⟨by decide, xr_aloadn dX12_due_0 rfl⟩)
  · exact (xr_iconst dX12_due_1 (by decide +kernel))
  · exact (⟨.int, false, 0, rfl, xr_putf dX12_due_2 (show vwCl[12]? = some (RX12, TX12, 69) from rfl) (by decide) xin_X12 tyX12_ok nmX12 xw_60 rfl (rfl : tyX12 0 = .int), fun h => (by cases h)⟩)
  · exact (⟨by decide, xr_aloadn dX12_due_5 rfl⟩)
  · exact (⟨by decide, xr_iloadn dX12_due_6 rfl⟩)
  · exact (⟨by decide, xr_iloadn dX12_due_7 rfl⟩)
  · exact (⟨rfl, _, rfl, ⟨344, dX12_due_8, xw_78, xw_76, xw_77⟩, _, rfl, rfl⟩)
  · exact (xr_ifeq dX12_due_11 (by decide))
  · exact (xr_iconst dX12_due_35 (by decide +kernel))
  · exact (⟨dX12_due_36, .int, rfl, rfl, Or.inl rfl⟩)
theorem xmo_12 : xMok xmt xm_12 := ⟨xw_92, xw_58, ⟨by decide, by decide, by decide +kernel⟩, by decide +kernel, rfl, xo_12⟩
set_option maxRecDepth 100000 in
set_option maxHeartbeats 4000000 in
theorem xo_13 : ∀ q ∈ xk_13, xok xmt xm_13 q.1 q.2 := by
  refine xcns ?_ <| xcns ?_ <| xcns ?_ <| xcns ?_ <| xcns ?_ <| xcns ?_ <| xcns ?_ <| xcns ?_ <| xcns ?_ <| xcns ?_ <| xcns ?_ <| xcns ?_ <| xcns ?_ <| xcns ?_ <| xcns ?_ <| xcns ?_ <| xcns ?_ <| xcns ?_ <| xcns ?_ <| xcns ?_ <| xcns ?_ <| xcns ?_ <| xcns ?_ <| xcns ?_ <| xcns ?_ <| xcns ?_ <| xcns ?_ <| xcns ?_ <| xcns ?_ <| xcns ?_ <| xcns ?_ <| xcns ?_ <| xcns ?_ <| xcns ?_ <| xcns ?_ <| xcns ?_ <| xcns ?_ <| xnl
  · exact (⟨by decide, xr_aloadn dX12_easter_0 rfl⟩)
  · exact (xr_iconst dX12_easter_1 (by decide +kernel))
  · exact (⟨.int, false, 0, rfl, xr_putf dX12_easter_2 (show vwCl[12]? = some (RX12, TX12, 69) from rfl) (by decide) xin_X12 tyX12_ok nmX12 xw_60 rfl (rfl : tyX12 0 = .int), fun h => (by cases h)⟩)
  · exact (⟨by decide, xr_aloadn dX12_easter_5 rfl⟩)
  · exact (⟨by decide, xr_iloadn dX12_easter_6 rfl⟩)
  · exact (⟨rfl, _, rfl, ⟨461, dX12_easter_7, xw_95, xw_93, xw_94⟩, _, rfl, rfl⟩)
  · exact (xr_ifne dX12_easter_10 (by decide))
  · exact (xr_iconst dX12_easter_13 (by decide +kernel))
  · exact (⟨dX12_easter_14, .int, rfl, rfl, Or.inl rfl⟩)
  · exact (⟨by decide, xr_aloadn dX12_easter_15 rfl⟩)
  · exact (⟨by decide, xr_iloadn dX12_easter_16 rfl⟩)
  · exact (⟨by decide, xr_aloadn dX12_easter_17 rfl⟩)
  · exact (xr_getf dX12_easter_18 (show vwCl[12]? = some (RX12, TX12, 69) from rfl) (by decide) xin_X12 xw_4)
  · exact (xr_iconst dX12_easter_21 (by decide +kernel))
  · exact (⟨by decide, xr_iald dX12_easter_22⟩)
  · exact (xr_iconst dX12_easter_23 (by decide +kernel))
  · exact (fun x y h => xr_isub dX12_easter_24 x y)
  · exact (⟨rfl, _, rfl, ⟨464, dX12_easter_25, xw_98, xw_96, xw_97⟩, _, rfl, rfl⟩)
  · exact (⟨by decide, xr_istoren dX12_easter_28 rfl⟩)
  · exact (xr_iconst dX12_easter_29 (by decide +kernel))
  · exact (⟨by decide, xr_istoren dX12_easter_30 rfl⟩)
  · exact (⟨by decide, xr_iloadn dX12_easter_31 rfl⟩)
  · exact (⟨by decide, xr_aloadn dX12_easter_32 rfl⟩)
  · exact (xr_getf dX12_easter_33 (show vwCl[12]? = some (RX12, TX12, 69) from rfl) (by decide) xin_X12 xw_4)
  · exact (xr_iconst dX12_easter_36 (by decide +kernel))
  · exact (⟨by decide, xr_iald dX12_easter_37⟩)
  · exact (xr_icmpge dX12_easter_38 (by decide))
  · exact (⟨by decide, xr_aloadn dX12_easter_59 rfl⟩)
  · exact (xr_getf dX12_easter_60 (show vwCl[12]? = some (RX12, TX12, 69) from rfl) (by decide) xin_X12 xw_28)
  · exact (xr_iconst dX12_easter_63 (by decide +kernel))
  · exact (fun v w h h2 => xr_dup2 dX12_easter_64 v w h h2)
  · exact (⟨by decide, xr_iald dX12_easter_65⟩)
  · exact (⟨by decide, xr_iloadn dX12_easter_66 rfl⟩)
  · exact (fun x y h => xr_iadd dX12_easter_67 x y)
  · exact (xr_iast dX12_easter_68)
  · exact (⟨by decide, xr_iloadn dX12_easter_69 rfl⟩)
  · exact (⟨dX12_easter_70, .int, rfl, rfl, Or.inl rfl⟩)
theorem xmo_13 : xMok xmt xm_13 := ⟨xw_99, xw_58, ⟨by decide, by decide, by decide +kernel⟩, by decide +kernel, rfl, xo_13⟩
set_option maxRecDepth 100000 in
set_option maxHeartbeats 4000000 in
theorem xo_14 : ∀ q ∈ xk_14, xok xmt xm_14 q.1 q.2 := by
  refine xcns ?_ <| xcns ?_ <| xcns ?_ <| xcns ?_ <| xcns ?_ <| xcns ?_ <| xcns ?_ <| xcns ?_ <| xcns ?_ <| xcns ?_ <| xnl
  · exact (⟨by decide, xr_aloadn dX12_entry_0 rfl⟩)
  · exact (xr_iconst dX12_entry_1 (by decide +kernel))
  · exact (⟨.int, false, 0, rfl, xr_putf dX12_entry_2 (show vwCl[12]? = some (RX12, TX12, 69) from rfl) (by decide) xin_X12 tyX12_ok nmX12 xw_60 rfl (rfl : tyX12 0 = .int), fun h => (by cases h)⟩)
  · exact (⟨by decide, xr_aloadn dX12_entry_5 rfl⟩)
  · exact (⟨by decide, xr_iloadn dX12_entry_6 rfl⟩)
  · exact (⟨by decide, xr_iloadn dX12_entry_7 rfl⟩)
  · exact (⟨rfl, _, rfl, ⟨344, dX12_entry_8, xw_78, xw_76, xw_77⟩, _, rfl, rfl⟩)
  · exact (xr_ifeq dX12_entry_11 (by decide))
  · exact (xr_iconst dX12_entry_34 (by decide +kernel))
  · exact (⟨dX12_entry_35, .int, rfl, rfl, Or.inl rfl⟩)
theorem xmo_14 : xMok xmt xm_14 := ⟨xw_100, xw_58, ⟨by decide, by decide, by decide +kernel⟩, by decide +kernel, rfl, xo_14⟩
set_option maxRecDepth 100000 in
set_option maxHeartbeats 4000000 in
theorem xo_15 : ∀ q ∈ xk_15, xok xmt xm_15 q.1 q.2 := by
  refine xcns ?_ <| xcns ?_ <| xcns ?_ <| xcns ?_ <| xcns ?_ <| xcns ?_ <| xcns ?_ <| xcns ?_ <| xcns ?_ <| xcns ?_ <| xcns ?_ <| xcns ?_ <| xcns ?_ <| xcns ?_ <| xcns ?_ <| xcns ?_ <| xnl
  · exact (⟨by decide, xr_aloadn dX12_fault_0 rfl⟩)
  · exact (xr_iconst dX12_fault_1 (by decide +kernel))
  · exact (⟨.int, false, 0, rfl, xr_putf dX12_fault_2 (show vwCl[12]? = some (RX12, TX12, 69) from rfl) (by decide) xin_X12 tyX12_ok nmX12 xw_60 rfl (rfl : tyX12 0 = .int), fun h => (by cases h)⟩)
  · exact (⟨by decide, xr_iloadn dX12_fault_5 rfl⟩)
  · exact (xr_ifne dX12_fault_6 (by decide))
  · exact (⟨by decide, xr_aloadn dX12_fault_9 rfl⟩)
  · exact (xr_getf dX12_fault_10 (show vwCl[12]? = some (RX12, TX12, 69) from rfl) (by decide) xin_X12 xw_101)
  · exact (xr_goto dX12_fault_13 (by decide))
  · exact (⟨by decide, xr_iloadn dX12_fault_16 rfl⟩)
  · exact (xr_iconst dX12_fault_17 (by decide +kernel))
  · exact (xr_icmpne dX12_fault_18 (by decide))
  · exact (⟨by decide, xr_aloadn dX12_fault_21 rfl⟩)
  · exact (xr_getf dX12_fault_22 (show vwCl[12]? = some (RX12, TX12, 69) from rfl) (by decide) xin_X12 xw_26)
  · exact (xr_goto dX12_fault_25 (by decide))
  · exact (xr_iconst dX12_fault_28 (by decide +kernel))
  · exact (⟨dX12_fault_29, .int, rfl, rfl, Or.inl rfl⟩)
theorem xmo_15 : xMok xmt xm_15 := ⟨xw_102, xw_58, ⟨by decide, by decide, by decide +kernel⟩, by decide +kernel, rfl, xo_15⟩
set_option maxRecDepth 100000 in
set_option maxHeartbeats 4000000 in
theorem xo_16 : ∀ q ∈ xk_16, xok xmt xm_16 q.1 q.2 := by
  refine xcns ?_ <| xcns ?_ <| xcns ?_ <| xcns ?_ <| xcns ?_ <| xcns ?_ <| xcns ?_ <| xcns ?_ <| xcns ?_ <| xcns ?_ <| xcns ?_ <| xcns ?_ <| xcns ?_ <| xcns ?_ <| xcns ?_ <| xcns ?_ <| xcns ?_ <| xcns ?_ <| xcns ?_ <| xcns ?_ <| xcns ?_ <| xcns ?_ <| xcns ?_ <| xcns ?_ <| xcns ?_ <| xcns ?_ <| xcns ?_ <| xcns ?_ <| xcns ?_ <| xcns ?_ <| xcns ?_ <| xcns ?_ <| xcns ?_ <| xcns ?_ <| xcns ?_ <| xcns ?_ <| xcns ?_ <| xcns ?_ <| xcns ?_ <| xcns ?_ <| xcns ?_ <| xcns ?_ <| xcns ?_ <| xcns ?_ <| xcns ?_ <| xcns ?_ <| xcns ?_ <| xcns ?_ <| xcns ?_ <| xcns ?_ <| xcns ?_ <| xcns ?_ <| xcns ?_ <| xcns ?_ <| xcns ?_ <| xcns ?_ <| xcns ?_ <| xcns ?_ <| xcns ?_ <| xcns ?_ <| xcns ?_ <| xcns ?_ <| xcns ?_ <| xnl
  · exact (⟨by decide, xr_aloadn dX12_feed_0 rfl⟩)
  · exact (xr_iconst dX12_feed_1 (by decide +kernel))
  · exact (⟨.int, false, 0, rfl, xr_putf dX12_feed_2 (show vwCl[12]? = some (RX12, TX12, 69) from rfl) (by decide) xin_X12 tyX12_ok nmX12 xw_60 rfl (rfl : tyX12 0 = .int), fun h => (by cases h)⟩)
  · exact (⟨by decide, xr_aloadn dX12_feed_5 rfl⟩)
  · exact (xr_getf dX12_feed_6 (show vwCl[12]? = some (RX12, TX12, 69) from rfl) (by decide) xin_X12 xw_103)
  · exact (xr_sipush dX12_feed_9 (by decide +kernel))
  · exact (xr_icmple dX12_feed_12 (by decide))
  · exact (xr_iconst dX12_feed_17 (by decide +kernel))
  · exact (⟨by decide, xr_istore dX12_feed_18⟩)
  · exact (⟨by decide, xr_iload dX12_feed_20⟩)
  · exact (xr_bipush dX12_feed_22 (by decide +kernel))
  · exact (xr_icmpge dX12_feed_24 (by decide))
  · exact (⟨by decide, xr_iload dX12_feed_27⟩)
  · exact (xr_iconst dX12_feed_29 (by decide +kernel))
  · exact (xr_icmpge dX12_feed_30 (by decide))
  · exact (⟨by decide, xr_iloadn dX12_feed_33 rfl⟩)
  · exact (xr_goto dX12_feed_34 (by decide))
  · exact (⟨by decide, xr_iload dX12_feed_37⟩)
  · exact (xr_bipush dX12_feed_39 (by decide +kernel))
  · exact (xr_icmpge dX12_feed_41 (by decide))
  · exact (⟨by decide, xr_iloadn dX12_feed_44 rfl⟩)
  · exact (xr_goto dX12_feed_45 (by decide))
  · exact (⟨by decide, xr_iload dX12_feed_48⟩)
  · exact (xr_bipush dX12_feed_50 (by decide +kernel))
  · exact (xr_icmpge dX12_feed_52 (by decide))
  · exact (⟨by decide, xr_iloadn dX12_feed_55 rfl⟩)
  · exact (xr_goto dX12_feed_56 (by decide))
  · exact (⟨by decide, xr_iload dX12_feed_59⟩)
  · exact (xr_bipush dX12_feed_61 (by decide +kernel))
  · exact (xr_icmpge dX12_feed_63 (by decide))
  · exact (⟨by decide, xr_iload dX12_feed_66⟩)
  · exact (xr_goto dX12_feed_68 (by decide))
  · exact (⟨by decide, xr_iload dX12_feed_71⟩)
  · exact (⟨by decide, xr_istore dX12_feed_73⟩)
  · exact (⟨by decide, xr_aloadn dX12_feed_75 rfl⟩)
  · exact (xr_getf dX12_feed_76 (show vwCl[12]? = some (RX12, TX12, 69) from rfl) (by decide) xin_X12 xw_3)
  · exact (⟨by decide, xr_aloadn dX12_feed_79 rfl⟩)
  · exact (xr_getf dX12_feed_80 (show vwCl[12]? = some (RX12, TX12, 69) from rfl) (by decide) xin_X12 xw_103)
  · exact (⟨by decide, xr_iload dX12_feed_83⟩)
  · exact (fun x y h => xr_iadd dX12_feed_85 x y)
  · exact (⟨by decide, xr_iload dX12_feed_86⟩)
  · exact (xr_bipush dX12_feed_88 (by decide +kernel))
  · exact (xr_bipush dX12_feed_90 (by decide +kernel))
  · exact (⟨by decide, xr_iload dX12_feed_92⟩)
  · exact (xr_iconst dX12_feed_94 (by decide +kernel))
  · exact (fun x y h => xr_irem dX12_feed_95 x y (h (Or.inr rfl)))
  · exact (fun x y h => xr_imul dX12_feed_96 x y)
  · exact (fun x y h => xr_isub dX12_feed_97 x y)
  · exact (fun x y h => xr_ishr dX12_feed_98 x y)
  · exact (xr_sipush dX12_feed_99 (by decide +kernel))
  · exact (fun x y h => xr_iand dX12_feed_102 x y)
  · exact (xr_iast dX12_feed_103)
  · exact (xr_iinc dX12_feed_104 (by decide +kernel))
  · exact (xr_goto dX12_feed_107 (by decide))
  · exact (⟨by decide, xr_aloadn dX12_feed_110 rfl⟩)
  · exact (fun v h => xr_dup dX12_feed_111 v h)
  · exact (xr_getf dX12_feed_112 (show vwCl[12]? = some (RX12, TX12, 69) from rfl) (by decide) xin_X12 xw_103)
  · exact (xr_bipush dX12_feed_115 (by decide +kernel))
  · exact (fun x y h => xr_iadd dX12_feed_117 x y)
  · exact (⟨.int, false, 0, rfl, xr_putf dX12_feed_118 (show vwCl[12]? = some (RX12, TX12, 69) from rfl) (by decide) xin_X12 tyX12_ok nmX12 xw_103 rfl (rfl : tyX12 2 = .int), fun h => (by cases h)⟩)
  · exact (⟨by decide, xr_aloadn dX12_feed_121 rfl⟩)
  · exact (xr_getf dX12_feed_122 (show vwCl[12]? = some (RX12, TX12, 69) from rfl) (by decide) xin_X12 xw_103)
  · exact (⟨dX12_feed_125, .int, rfl, rfl, Or.inl rfl⟩)
theorem xmo_16 : xMok xmt xm_16 := ⟨xw_104, xw_58, ⟨by decide, by decide, by decide +kernel⟩, by decide +kernel, rfl, xo_16⟩
set_option maxRecDepth 100000 in
set_option maxHeartbeats 4000000 in
theorem xo_17 : ∀ q ∈ xk_17, xok xmt xm_17 q.1 q.2 := by
  refine xcns ?_ <| xcns ?_ <| xcns ?_ <| xcns ?_ <| xcns ?_ <| xcns ?_ <| xcns ?_ <| xnl
  · exact (xr_iconst dX12_found_0 (by decide +kernel))
  · exact (⟨by decide, xr_istore dX12_found_1⟩)
  · exact (⟨by decide, xr_iload dX12_found_3⟩)
  · exact (⟨by decide, xr_iloadn dX12_found_5 rfl⟩)
  · exact (xr_icmpge dX12_found_6 (by decide))
  · exact (xr_iconst dX12_found_28 (by decide +kernel))
  · exact (⟨dX12_found_29, .int, rfl, rfl, Or.inl rfl⟩)
theorem xmo_17 : xMok xmt xm_17 := ⟨xw_105, xw_58, ⟨by decide, by decide, by decide +kernel⟩, by decide +kernel, rfl, xo_17⟩
set_option maxRecDepth 100000 in
set_option maxHeartbeats 4000000 in
theorem xo_18 : ∀ q ∈ xk_18, xok xmt xm_18 q.1 q.2 := by
  refine xcns ?_ <| xcns ?_ <| xcns ?_ <| xcns ?_ <| xcns ?_ <| xcns ?_ <| xcns ?_ <| xcns ?_ <| xcns ?_ <| xcns ?_ <| xcns ?_ <| xcns ?_ <| xcns ?_ <| xcns ?_ <| xcns ?_ <| xcns ?_ <| xcns ?_ <| xcns ?_ <| xcns ?_ <| xcns ?_ <| xcns ?_ <| xcns ?_ <| xcns ?_ <| xcns ?_ <| xcns ?_ <| xcns ?_ <| xcns ?_ <| xcns ?_ <| xcns ?_ <| xcns ?_ <| xnl
  · exact (⟨by decide, xr_aloadn dX12_gang_0 rfl⟩)
  · exact (xr_iconst dX12_gang_1 (by decide +kernel))
  · exact (⟨.int, false, 0, rfl, xr_putf dX12_gang_2 (show vwCl[12]? = some (RX12, TX12, 69) from rfl) (by decide) xin_X12 tyX12_ok nmX12 xw_60 rfl (rfl : tyX12 0 = .int), fun h => (by cases h)⟩)
  · exact (⟨by decide, xr_aloadn dX12_gang_5 rfl⟩)
  · exact (⟨rfl, _, rfl, ⟨473, dX12_gang_6, xw_108, xw_106, xw_107⟩, _, rfl, rfl⟩)
  · exact (xr_bipush dX12_gang_9 (by decide +kernel))
  · exact (⟨by decide, xr_istoren dX12_gang_11 rfl⟩)
  · exact (xr_iconst dX12_gang_12 (by decide +kernel))
  · exact (⟨by decide, xr_istoren dX12_gang_13 rfl⟩)
  · exact (⟨by decide, xr_iloadn dX12_gang_14 rfl⟩)
  · exact (xr_iconst dX12_gang_15 (by decide +kernel))
  · exact (⟨by decide, xr_aloadn dX12_gang_16 rfl⟩)
  · exact (xr_getf dX12_gang_17 (show vwCl[12]? = some (RX12, TX12, 69) from rfl) (by decide) xin_X12 xw_4)
  · exact (xr_iconst dX12_gang_20 (by decide +kernel))
  · exact (⟨by decide, xr_iald dX12_gang_21⟩)
  · exact (fun x y h => xr_ishl dX12_gang_22 x y)
  · exact (xr_icmpge dX12_gang_23 (by decide))
  · exact (⟨by decide, xr_iloadn dX12_gang_26 rfl⟩)
  · exact (xr_bipush dX12_gang_27 (by decide +kernel))
  · exact (xr_icmpeq dX12_gang_29 (by decide))
  · exact (⟨by decide, xr_aloadn dX12_gang_43 rfl⟩)
  · exact (⟨by decide, xr_iloadn dX12_gang_44 rfl⟩)
  · exact (⟨rfl, _, rfl, ⟨488, dX12_gang_45, xw_111, xw_109, xw_110⟩, _, rfl, rfl⟩)
  · exact (xr_ifeq dX12_gang_48 (by decide))
  · exact (⟨by decide, xr_iloadn dX12_gang_51 rfl⟩)
  · exact (⟨by decide, xr_istoren dX12_gang_52 rfl⟩)
  · exact (xr_iinc dX12_gang_53 (by decide +kernel))
  · exact (xr_goto dX12_gang_56 (by decide))
  · exact (⟨by decide, xr_iloadn dX12_gang_59 rfl⟩)
  · exact (⟨dX12_gang_60, .int, rfl, rfl, Or.inl rfl⟩)
theorem xmo_18 : xMok xmt xm_18 := ⟨xw_112, xw_58, ⟨by decide, by decide, by decide +kernel⟩, by decide +kernel, rfl, xo_18⟩
set_option maxRecDepth 100000 in
set_option maxHeartbeats 4000000 in
theorem xo_19 : ∀ q ∈ xk_19, xok xmt xm_19 q.1 q.2 := by
  refine xcns ?_ <| xcns ?_ <| xcns ?_ <| xcns ?_ <| xcns ?_ <| xcns ?_ <| xcns ?_ <| xcns ?_ <| xcns ?_ <| xcns ?_ <| xcns ?_ <| xcns ?_ <| xcns ?_ <| xcns ?_ <| xcns ?_ <| xcns ?_ <| xcns ?_ <| xcns ?_ <| xcns ?_ <| xcns ?_ <| xcns ?_ <| xnl
  · exact (⟨by decide, xr_aloadn dX12_half_0 rfl⟩)
  · exact (xr_alen dX12_half_1)
  · exact (xr_iconst dX12_half_2 (by decide +kernel))
  · exact (fun x y h => xr_idiv dX12_half_3 x y (h (Or.inl rfl)))
  · exact (⟨by decide, xr_istoren dX12_half_4 rfl⟩)
  · exact (xr_iconst dX12_half_5 (by decide +kernel))
  · exact (⟨by decide, xr_istoren dX12_half_6 rfl⟩)
  · exact (⟨by decide, xr_iloadn dX12_half_7 rfl⟩)
  · exact (⟨by decide, xr_iloadn dX12_half_8 rfl⟩)
  · exact (xr_icmpge dX12_half_9 (by decide))
  · exact (⟨by decide, xr_aloadn dX12_half_12 rfl⟩)
  · exact (⟨by decide, xr_iloadn dX12_half_13 rfl⟩)
  · exact (⟨by decide, xr_aloadn dX12_half_14 rfl⟩)
  · exact (⟨by decide, xr_iloadn dX12_half_15 rfl⟩)
  · exact (⟨by decide, xr_iloadn dX12_half_16 rfl⟩)
  · exact (fun x y h => xr_iadd dX12_half_17 x y)
  · exact (⟨by decide, xr_iald dX12_half_18⟩)
  · exact (xr_iast dX12_half_19)
  · exact (xr_iinc dX12_half_20 (by decide +kernel))
  · exact (xr_goto dX12_half_23 (by decide))
  · exact (⟨dX12_half_26, rfl⟩)
theorem xmo_19 : xMok xmt xm_19 := ⟨xw_113, xw_58, ⟨by decide, by decide, by decide +kernel⟩, by decide +kernel, rfl, xo_19⟩
set_option maxRecDepth 100000 in
set_option maxHeartbeats 4000000 in
theorem xo_20 : ∀ q ∈ xk_20, xok xmt xm_20 q.1 q.2 := by
  refine xcns ?_ <| xcns ?_ <| xcns ?_ <| xcns ?_ <| xcns ?_ <| xcns ?_ <| xcns ?_ <| xnl
  · exact (⟨by decide, xr_aloadn dX12_here_0 rfl⟩)
  · exact (xr_getf dX12_here_1 (show vwCl[12]? = some (RX12, TX12, 69) from rfl) (by decide) xin_X12 xw_114)
  · exact (⟨by decide, xr_aloadn dX12_here_4 rfl⟩)
  · exact (xr_getf dX12_here_5 (show vwCl[12]? = some (RX12, TX12, 69) from rfl) (by decide) xin_X12 xw_115)
  · exact (xr_icmpge dX12_here_8 (by decide))
  · exact (xr_iconst dX12_here_23 (by decide +kernel))
  · exact (⟨dX12_here_24, .int, rfl, rfl, Or.inl rfl⟩)
theorem xmo_20 : xMok xmt xm_20 := ⟨xw_116, xw_58, ⟨by decide, by decide, by decide +kernel⟩, by decide +kernel, rfl, xo_20⟩
set_option maxRecDepth 100000 in
set_option maxHeartbeats 4000000 in
theorem xo_21 : ∀ q ∈ xk_21, xok xmt xm_21 q.1 q.2 := by
  refine xcns ?_ <| xcns ?_ <| xcns ?_ <| xcns ?_ <| xcns ?_ <| xcns ?_ <| xcns ?_ <| xcns ?_ <| xcns ?_ <| xcns ?_ <| xcns ?_ <| xcns ?_ <| xcns ?_ <| xcns ?_ <| xcns ?_ <| xcns ?_ <| xcns ?_ <| xcns ?_ <| xcns ?_ <| xcns ?_ <| xcns ?_ <| xcns ?_ <| xcns ?_ <| xcns ?_ <| xcns ?_ <| xcns ?_ <| xcns ?_ <| xcns ?_ <| xcns ?_ <| xcns ?_ <| xcns ?_ <| xcns ?_ <| xcns ?_ <| xcns ?_ <| xcns ?_ <| xcns ?_ <| xcns ?_ <| xcns ?_ <| xnl
  · exact (⟨by decide, xr_aloadn dX12_hum_0 rfl⟩)
  · exact (xr_iconst dX12_hum_1 (by decide +kernel))
  · exact (⟨.int, false, 0, rfl, xr_putf dX12_hum_2 (show vwCl[12]? = some (RX12, TX12, 69) from rfl) (by decide) xin_X12 tyX12_ok nmX12 xw_60 rfl (rfl : tyX12 0 = .int), fun h => (by cases h)⟩)
  · exact (⟨by decide, xr_iloadn dX12_hum_5 rfl⟩)
  · exact (xr_iconst dX12_hum_6 (by decide +kernel))
  · exact (xr_icmplt dX12_hum_7 (by decide))
  · exact (⟨by decide, xr_iloadn dX12_hum_10 rfl⟩)
  · exact (xr_bipush dX12_hum_11 (by decide +kernel))
  · exact (xr_icmpgt dX12_hum_13 (by decide))
  · exact (⟨by decide, xr_aloadn dX12_hum_16 rfl⟩)
  · exact (xr_getf dX12_hum_17 (show vwCl[12]? = some (RX12, TX12, 69) from rfl) (by decide) xin_X12 xw_81)
  · exact (xr_bipush dX12_hum_20 (by decide +kernel))
  · exact (xr_icmpne dX12_hum_22 (by decide))
  · exact (xr_iconst dX12_hum_25 (by decide +kernel))
  · exact (⟨dX12_hum_26, .int, rfl, rfl, Or.inl rfl⟩)
  · exact (⟨by decide, xr_aloadn dX12_hum_27 rfl⟩)
  · exact (xr_getf dX12_hum_28 (show vwCl[12]? = some (RX12, TX12, 69) from rfl) (by decide) xin_X12 xw_49)
  · exact (⟨by decide, xr_aloadn dX12_hum_31 rfl⟩)
  · exact (xr_getf dX12_hum_32 (show vwCl[12]? = some (RX12, TX12, 69) from rfl) (by decide) xin_X12 xw_81)
  · exact (⟨by decide, xr_iloadn dX12_hum_35 rfl⟩)
  · exact (xr_iast dX12_hum_36)
  · exact (⟨by decide, xr_aloadn dX12_hum_37 rfl⟩)
  · exact (xr_getf dX12_hum_38 (show vwCl[12]? = some (RX12, TX12, 69) from rfl) (by decide) xin_X12 xw_50)
  · exact (⟨by decide, xr_aloadn dX12_hum_41 rfl⟩)
  · exact (xr_getf dX12_hum_42 (show vwCl[12]? = some (RX12, TX12, 69) from rfl) (by decide) xin_X12 xw_81)
  · exact (xr_iconst dX12_hum_45 (by decide +kernel))
  · exact (xr_iast dX12_hum_46)
  · exact (⟨by decide, xr_aloadn dX12_hum_47 rfl⟩)
  · exact (fun v h => xr_dup dX12_hum_48 v h)
  · exact (xr_getf dX12_hum_49 (show vwCl[12]? = some (RX12, TX12, 69) from rfl) (by decide) xin_X12 xw_81)
  · exact (xr_iconst dX12_hum_52 (by decide +kernel))
  · exact (fun x y h => xr_iadd dX12_hum_53 x y)
  · exact (⟨.int, false, 0, rfl, xr_putf dX12_hum_54 (show vwCl[12]? = some (RX12, TX12, 69) from rfl) (by decide) xin_X12 tyX12_ok nmX12 xw_81 rfl (rfl : tyX12 61 = .int), fun h => (by cases h)⟩)
  · exact (⟨by decide, xr_aloadn dX12_hum_57 rfl⟩)
  · exact (xr_getf dX12_hum_58 (show vwCl[12]? = some (RX12, TX12, 69) from rfl) (by decide) xin_X12 xw_81)
  · exact (xr_iconst dX12_hum_61 (by decide +kernel))
  · exact (fun x y h => xr_isub dX12_hum_62 x y)
  · exact (⟨dX12_hum_63, .int, rfl, rfl, Or.inl rfl⟩)
theorem xmo_21 : xMok xmt xm_21 := ⟨xw_117, xw_58, ⟨by decide, by decide, by decide +kernel⟩, by decide +kernel, rfl, xo_21⟩
set_option maxRecDepth 100000 in
set_option maxHeartbeats 4000000 in
theorem xo_22 : ∀ q ∈ xk_22, xok xmt xm_22 q.1 q.2 := by
  refine xcns ?_ <| xcns ?_ <| xcns ?_ <| xcns ?_ <| xcns ?_ <| xcns ?_ <| xcns ?_ <| xcns ?_ <| xcns ?_ <| xnl
  · exact (⟨by decide, xr_iloadn dX12_isCrowns_0 rfl⟩)
  · exact (xr_iflt dX12_isCrowns_1 (by decide))
  · exact (⟨by decide, xr_iloadn dX12_isCrowns_4 rfl⟩)
  · exact (xr_sipush dX12_isCrowns_5 (by decide +kernel))
  · exact (xr_icmpge dX12_isCrowns_8 (by decide))
  · exact (xr_iconst dX12_isCrowns_11 (by decide +kernel))
  · exact (xr_goto dX12_isCrowns_12 (by decide))
  · exact (xr_iconst dX12_isCrowns_15 (by decide +kernel))
  · exact (⟨dX12_isCrowns_16, .boolean, rfl, rfl, Or.inr rfl⟩)
theorem xmo_22 : xMok xmt xm_22 := ⟨xw_118, xw_58, ⟨by decide, by decide, by decide +kernel⟩, by decide +kernel, rfl, xo_22⟩
set_option maxRecDepth 100000 in
set_option maxHeartbeats 4000000 in
theorem xo_23 : ∀ q ∈ xk_23, xok xmt xm_23 q.1 q.2 := by
  refine xcns ?_ <| xcns ?_ <| xcns ?_ <| xcns ?_ <| xcns ?_ <| xcns ?_ <| xcns ?_ <| xcns ?_ <| xnl
  · exact (xr_iconst dX12_isGang_0 (by decide +kernel))
  · exact (⟨by decide, xr_istoren dX12_isGang_1 rfl⟩)
  · exact (⟨by decide, xr_iloadn dX12_isGang_2 rfl⟩)
  · exact (⟨by decide, xr_aloadn dX12_isGang_3 rfl⟩)
  · exact (⟨rfl, _, rfl, ⟨467, dX12_isGang_4, xw_84, xw_82, xw_83⟩, _, rfl, rfl⟩)
  · exact (xr_icmpge dX12_isGang_7 (by decide))
  · exact (xr_iconst dX12_isGang_97 (by decide +kernel))
  · exact (⟨dX12_isGang_98, .boolean, rfl, rfl, Or.inr rfl⟩)
theorem xmo_23 : xMok xmt xm_23 := ⟨xw_119, xw_58, ⟨by decide, by decide, by decide +kernel⟩, by decide +kernel, rfl, xo_23⟩
set_option maxRecDepth 100000 in
set_option maxHeartbeats 4000000 in
theorem xo_24 : ∀ q ∈ xk_24, xok xmt xm_24 q.1 q.2 := by
  refine xcns ?_ <| xcns ?_ <| xcns ?_ <| xcns ?_ <| xcns ?_ <| xcns ?_ <| xnl
  · exact (⟨by decide, xr_aloadn dX12_isPart_0 rfl⟩)
  · exact (⟨by decide, xr_iloadn dX12_isPart_1 rfl⟩)
  · exact (⟨rfl, _, rfl, ⟨332, dX12_isPart_2, xw_65, xw_63, xw_64⟩, _, rfl, rfl⟩)
  · exact (xr_ifeq dX12_isPart_5 (by decide))
  · exact (xr_iconst dX12_isPart_26 (by decide +kernel))
  · exact (⟨dX12_isPart_27, .boolean, rfl, rfl, Or.inr rfl⟩)
theorem xmo_24 : xMok xmt xm_24 := ⟨xw_120, xw_58, ⟨by decide, by decide, by decide +kernel⟩, by decide +kernel, rfl, xo_24⟩
set_option maxRecDepth 100000 in
set_option maxHeartbeats 4000000 in
theorem xo_25 : ∀ q ∈ xk_25, xok xmt xm_25 q.1 q.2 := by
  refine xcns ?_ <| xcns ?_ <| xcns ?_ <| xcns ?_ <| xcns ?_ <| xcns ?_ <| xcns ?_ <| xcns ?_ <| xcns ?_ <| xcns ?_ <| xnl
  · exact (⟨by decide, xr_iloadn dX12_isTavern_0 rfl⟩)
  · exact (xr_iflt dX12_isTavern_1 (by decide))
  · exact (⟨by decide, xr_iloadn dX12_isTavern_4 rfl⟩)
  · exact (⟨by decide, xr_aloadn dX12_isTavern_5 rfl⟩)
  · exact (xr_getf dX12_isTavern_6 (show vwCl[12]? = some (RX12, TX12, 69) from rfl) (by decide) xin_X12 xw_4)
  · exact (xr_iconst dX12_isTavern_9 (by decide +kernel))
  · exact (⟨by decide, xr_iald dX12_isTavern_10⟩)
  · exact (xr_icmpge dX12_isTavern_11 (by decide))
  · exact (xr_iconst dX12_isTavern_18 (by decide +kernel))
  · exact (⟨dX12_isTavern_19, .boolean, rfl, rfl, Or.inr rfl⟩)
theorem xmo_25 : xMok xmt xm_25 := ⟨xw_121, xw_58, ⟨by decide, by decide, by decide +kernel⟩, by decide +kernel, rfl, xo_25⟩
set_option maxRecDepth 100000 in
set_option maxHeartbeats 4000000 in
theorem xo_26 : ∀ q ∈ xk_26, xok xmt xm_26 q.1 q.2 := by
  refine xcns ?_ <| xcns ?_ <| xcns ?_ <| xcns ?_ <| xcns ?_ <| xcns ?_ <| xcns ?_ <| xcns ?_ <| xcns ?_ <| xcns ?_ <| xnl
  · exact (⟨by decide, xr_iloadn dX12_isVerse_0 rfl⟩)
  · exact (xr_iflt dX12_isVerse_1 (by decide))
  · exact (⟨by decide, xr_iloadn dX12_isVerse_4 rfl⟩)
  · exact (⟨by decide, xr_aloadn dX12_isVerse_5 rfl⟩)
  · exact (xr_getf dX12_isVerse_6 (show vwCl[12]? = some (RX12, TX12, 69) from rfl) (by decide) xin_X12 xw_4)
  · exact (xr_iconst dX12_isVerse_9 (by decide +kernel))
  · exact (⟨by decide, xr_iald dX12_isVerse_10⟩)
  · exact (xr_icmpge dX12_isVerse_11 (by decide))
  · exact (xr_iconst dX12_isVerse_18 (by decide +kernel))
  · exact (⟨dX12_isVerse_19, .boolean, rfl, rfl, Or.inr rfl⟩)
theorem xmo_26 : xMok xmt xm_26 := ⟨xw_122, xw_58, ⟨by decide, by decide, by decide +kernel⟩, by decide +kernel, rfl, xo_26⟩
set_option maxRecDepth 100000 in
set_option maxHeartbeats 4000000 in
theorem xo_27 : ∀ q ∈ xk_27, xok xmt xm_27 q.1 q.2 := by
  refine xcns ?_ <| xcns ?_ <| xcns ?_ <| xcns ?_ <| xcns ?_ <| xcns ?_ <| xcns ?_ <| xcns ?_ <| xcns ?_ <| xcns ?_ <| xnl
  · exact (⟨by decide, xr_iloadn dX12_isVoice_0 rfl⟩)
  · exact (xr_iflt dX12_isVoice_1 (by decide))
  · exact (⟨by decide, xr_iloadn dX12_isVoice_4 rfl⟩)
  · exact (⟨by decide, xr_aloadn dX12_isVoice_5 rfl⟩)
  · exact (xr_getf dX12_isVoice_6 (show vwCl[12]? = some (RX12, TX12, 69) from rfl) (by decide) xin_X12 xw_4)
  · exact (xr_iconst dX12_isVoice_9 (by decide +kernel))
  · exact (⟨by decide, xr_iald dX12_isVoice_10⟩)
  · exact (xr_icmpge dX12_isVoice_11 (by decide))
  · exact (xr_iconst dX12_isVoice_18 (by decide +kernel))
  · exact (⟨dX12_isVoice_19, .boolean, rfl, rfl, Or.inr rfl⟩)
theorem xmo_27 : xMok xmt xm_27 := ⟨xw_123, xw_58, ⟨by decide, by decide, by decide +kernel⟩, by decide +kernel, rfl, xo_27⟩
set_option maxRecDepth 100000 in
set_option maxHeartbeats 4000000 in
theorem xo_28 : ∀ q ∈ xk_28, xok xmt xm_28 q.1 q.2 := by
  refine xcns ?_ <| xcns ?_ <| xcns ?_ <| xcns ?_ <| xcns ?_ <| xcns ?_ <| xcns ?_ <| xcns ?_ <| xcns ?_ <| xcns ?_ <| xcns ?_ <| xcns ?_ <| xcns ?_ <| xcns ?_ <| xcns ?_ <| xnl
  · exact (⟨by decide, xr_aloadn dX12_keep_0 rfl⟩)
  · exact (xr_iconst dX12_keep_1 (by decide +kernel))
  · exact (⟨.int, false, 0, rfl, xr_putf dX12_keep_2 (show vwCl[12]? = some (RX12, TX12, 69) from rfl) (by decide) xin_X12 tyX12_ok nmX12 xw_60 rfl (rfl : tyX12 0 = .int), fun h => (by cases h)⟩)
  · exact (⟨by decide, xr_aloadn dX12_keep_5 rfl⟩)
  · exact (xr_iconst dX12_keep_6 (by decide +kernel))
  · exact (xr_iconst dX12_keep_7 (by decide +kernel))
  · exact (⟨rfl, _, rfl, ⟨508, dX12_keep_8, xw_126, xw_124, xw_125⟩, _, rfl, rfl⟩)
  · exact (⟨by decide, xr_aloadn dX12_keep_11 rfl⟩)
  · exact (xr_iconst dX12_keep_12 (by decide +kernel))
  · exact (⟨.boolean, false, 0, rfl, xr_putf dX12_keep_13 (show vwCl[12]? = some (RX12, TX12, 69) from rfl) (by decide) xin_X12 tyX12_ok nmX12 xw_61 rfl (rfl : tyX12 49 = .boolean), fun h => (by cases h)⟩)
  · exact (⟨by decide, xr_aloadn dX12_keep_16 rfl⟩)
  · exact (xr_getf dX12_keep_17 (show vwCl[12]? = some (RX12, TX12, 69) from rfl) (by decide) xin_X12 xw_27)
  · exact (xr_iconst dX12_keep_20 (by decide +kernel))
  · exact (⟨by decide, xr_iald dX12_keep_21⟩)
  · exact (⟨dX12_keep_22, .int, rfl, rfl, Or.inl rfl⟩)
theorem xmo_28 : xMok xmt xm_28 := ⟨xw_127, xw_58, ⟨by decide, by decide, by decide +kernel⟩, by decide +kernel, rfl, xo_28⟩
set_option maxRecDepth 100000 in
set_option maxHeartbeats 4000000 in
theorem xo_29 : ∀ q ∈ xk_29, xok xmt xm_29 q.1 q.2 := by
  refine xcns ?_ <| xcns ?_ <| xcns ?_ <| xcns ?_ <| xcns ?_ <| xcns ?_ <| xcns ?_ <| xcns ?_ <| xcns ?_ <| xcns ?_ <| xcns ?_ <| xcns ?_ <| xcns ?_ <| xcns ?_ <| xcns ?_ <| xcns ?_ <| xcns ?_ <| xnl
  · exact (⟨by decide, xr_aloadn dX12_known_0 rfl⟩)
  · exact (xr_iconst dX12_known_1 (by decide +kernel))
  · exact (⟨.int, false, 0, rfl, xr_putf dX12_known_2 (show vwCl[12]? = some (RX12, TX12, 69) from rfl) (by decide) xin_X12 tyX12_ok nmX12 xw_60 rfl (rfl : tyX12 0 = .int), fun h => (by cases h)⟩)
  · exact (⟨by decide, xr_iloadn dX12_known_5 rfl⟩)
  · exact (xr_iconst dX12_known_6 (by decide +kernel))
  · exact (xr_icmplt dX12_known_7 (by decide))
  · exact (⟨by decide, xr_iloadn dX12_known_10 rfl⟩)
  · exact (⟨by decide, xr_aloadn dX12_known_11 rfl⟩)
  · exact (xr_getf dX12_known_12 (show vwCl[12]? = some (RX12, TX12, 69) from rfl) (by decide) xin_X12 xw_81)
  · exact (xr_icmple dX12_known_15 (by decide))
  · exact (xr_iconst dX12_known_18 (by decide +kernel))
  · exact (⟨dX12_known_19, .boolean, rfl, rfl, Or.inr rfl⟩)
  · exact (⟨by decide, xr_aloadn dX12_known_20 rfl⟩)
  · exact (⟨by decide, xr_iloadn dX12_known_21 rfl⟩)
  · exact (⟨.int, false, 0, rfl, xr_putf dX12_known_22 (show vwCl[12]? = some (RX12, TX12, 69) from rfl) (by decide) xin_X12 tyX12_ok nmX12 xw_48 rfl (rfl : tyX12 62 = .int), fun h => (by cases h)⟩)
  · exact (xr_iconst dX12_known_25 (by decide +kernel))
  · exact (⟨dX12_known_26, .boolean, rfl, rfl, Or.inr rfl⟩)
theorem xmo_29 : xMok xmt xm_29 := ⟨xw_128, xw_58, ⟨by decide, by decide, by decide +kernel⟩, by decide +kernel, rfl, xo_29⟩
set_option maxRecDepth 100000 in
set_option maxHeartbeats 4000000 in
theorem xo_30 : ∀ q ∈ xk_30, xok xmt xm_30 q.1 q.2 := by
  refine xcns ?_ <| xcns ?_ <| xcns ?_ <| xcns ?_ <| xcns ?_ <| xcns ?_ <| xcns ?_ <| xcns ?_ <| xnl
  · exact (⟨by decide, xr_aloadn dX12_knownMany_0 rfl⟩)
  · exact (xr_getf dX12_knownMany_1 (show vwCl[12]? = some (RX12, TX12, 69) from rfl) (by decide) xin_X12 xw_48)
  · exact (xr_iconst dX12_knownMany_4 (by decide +kernel))
  · exact (xr_icmpne dX12_knownMany_5 (by decide))
  · exact (⟨by decide, xr_aloadn dX12_knownMany_8 rfl⟩)
  · exact (xr_getf dX12_knownMany_9 (show vwCl[12]? = some (RX12, TX12, 69) from rfl) (by decide) xin_X12 xw_81)
  · exact (xr_goto dX12_knownMany_12 (by decide))
  · exact (⟨dX12_knownMany_19, .int, rfl, rfl, Or.inl rfl⟩)
theorem xmo_30 : xMok xmt xm_30 := ⟨xw_129, xw_58, ⟨by decide, by decide, by decide +kernel⟩, by decide +kernel, rfl, xo_30⟩
set_option maxRecDepth 100000 in
set_option maxHeartbeats 4000000 in
theorem xo_31 : ∀ q ∈ xk_31, xok xmt xm_31 q.1 q.2 := by
  refine xcns ?_ <| xcns ?_ <| xcns ?_ <| xcns ?_ <| xcns ?_ <| xcns ?_ <| xcns ?_ <| xcns ?_ <| xcns ?_ <| xcns ?_ <| xcns ?_ <| xcns ?_ <| xcns ?_ <| xcns ?_ <| xcns ?_ <| xcns ?_ <| xcns ?_ <| xcns ?_ <| xcns ?_ <| xcns ?_ <| xcns ?_ <| xcns ?_ <| xcns ?_ <| xcns ?_ <| xcns ?_ <| xcns ?_ <| xcns ?_ <| xcns ?_ <| xcns ?_ <| xcns ?_ <| xcns ?_ <| xcns ?_ <| xcns ?_ <| xcns ?_ <| xcns ?_ <| xcns ?_ <| xcns ?_ <| xcns ?_ <| xcns ?_ <| xcns ?_ <| xcns ?_ <| xcns ?_ <| xcns ?_ <| xnl
  · exact (⟨by decide, xr_aloadn dX12_layBest_0 rfl⟩)
  · exact (⟨rfl, _, rfl, ⟨424, dX12_layBest_1, xw_132, xw_130, xw_131⟩, _, rfl, rfl⟩)
  · exact (xr_iconst dX12_layBest_4 (by decide +kernel))
  · exact (⟨by decide, xr_istoren dX12_layBest_5 rfl⟩)
  · exact (⟨by decide, xr_iloadn dX12_layBest_6 rfl⟩)
  · exact (⟨by decide, xr_iloadn dX12_layBest_7 rfl⟩)
  · exact (xr_icmpgt dX12_layBest_8 (by decide))
  · exact (⟨by decide, xr_aloadn dX12_layBest_11 rfl⟩)
  · exact (xr_getf dX12_layBest_12 (show vwCl[12]? = some (RX12, TX12, 69) from rfl) (by decide) xin_X12 xw_42)
  · exact (xr_sipush dX12_layBest_15 (by decide +kernel))
  · exact (⟨by decide, xr_aloadn dX12_layBest_18 rfl⟩)
  · exact (xr_getf dX12_layBest_19 (show vwCl[12]? = some (RX12, TX12, 69) from rfl) (by decide) xin_X12 xw_4)
  · exact (xr_iconst dX12_layBest_22 (by decide +kernel))
  · exact (⟨by decide, xr_iald dX12_layBest_23⟩)
  · exact (fun x y h => xr_imul dX12_layBest_24 x y)
  · exact (⟨by decide, xr_iloadn dX12_layBest_25 rfl⟩)
  · exact (fun x y h => xr_iadd dX12_layBest_26 x y)
  · exact (xr_iconst dX12_layBest_27 (by decide +kernel))
  · exact (xr_iast dX12_layBest_28)
  · exact (⟨by decide, xr_aloadn dX12_layBest_29 rfl⟩)
  · exact (xr_getf dX12_layBest_30 (show vwCl[12]? = some (RX12, TX12, 69) from rfl) (by decide) xin_X12 xw_43)
  · exact (xr_sipush dX12_layBest_33 (by decide +kernel))
  · exact (⟨by decide, xr_aloadn dX12_layBest_36 rfl⟩)
  · exact (xr_getf dX12_layBest_37 (show vwCl[12]? = some (RX12, TX12, 69) from rfl) (by decide) xin_X12 xw_4)
  · exact (xr_iconst dX12_layBest_40 (by decide +kernel))
  · exact (⟨by decide, xr_iald dX12_layBest_41⟩)
  · exact (fun x y h => xr_imul dX12_layBest_42 x y)
  · exact (⟨by decide, xr_iloadn dX12_layBest_43 rfl⟩)
  · exact (fun x y h => xr_iadd dX12_layBest_44 x y)
  · exact (xr_iconst dX12_layBest_45 (by decide +kernel))
  · exact (xr_iast dX12_layBest_46)
  · exact (xr_iinc dX12_layBest_47 (by decide +kernel))
  · exact (xr_goto dX12_layBest_50 (by decide))
  · exact (⟨by decide, xr_aloadn dX12_layBest_53 rfl⟩)
  · exact (xr_getf dX12_layBest_54 (show vwCl[12]? = some (RX12, TX12, 69) from rfl) (by decide) xin_X12 xw_4)
  · exact (xr_iconst dX12_layBest_57 (by decide +kernel))
  · exact (⟨by decide, xr_iald dX12_layBest_58⟩)
  · exact (xr_iconst dX12_layBest_59 (by decide +kernel))
  · exact (fun x y h => xr_isub dX12_layBest_60 x y)
  · exact (⟨by decide, xr_istoren dX12_layBest_61 rfl⟩)
  · exact (⟨by decide, xr_iloadn dX12_layBest_62 rfl⟩)
  · exact (xr_iflt dX12_layBest_63 (by decide))
  · exact (⟨dX12_layBest_134, rfl⟩)
theorem xmo_31 : xMok xmt xm_31 := ⟨xw_133, xw_58, ⟨by decide, by decide, by decide +kernel⟩, by decide +kernel, rfl, xo_31⟩
set_option maxRecDepth 100000 in
set_option maxHeartbeats 4000000 in
theorem xo_32 : ∀ q ∈ xk_32, xok xmt xm_32 q.1 q.2 := by
  refine xcns ?_ <| xcns ?_ <| xcns ?_ <| xcns ?_ <| xcns ?_ <| xcns ?_ <| xcns ?_ <| xcns ?_ <| xcns ?_ <| xcns ?_ <| xcns ?_ <| xcns ?_ <| xcns ?_ <| xcns ?_ <| xcns ?_ <| xcns ?_ <| xcns ?_ <| xcns ?_ <| xnl
  · exact (xr_iconst dX12_layDues_0 (by decide +kernel))
  · exact (⟨by decide, xr_istoren dX12_layDues_1 rfl⟩)
  · exact (⟨by decide, xr_iloadn dX12_layDues_2 rfl⟩)
  · exact (xr_bipush dX12_layDues_3 (by decide +kernel))
  · exact (xr_icmpge dX12_layDues_5 (by decide))
  · exact (⟨by decide, xr_aloadn dX12_layDues_8 rfl⟩)
  · exact (⟨by decide, xr_iloadn dX12_layDues_9 rfl⟩)
  · exact (xr_iconst dX12_layDues_10 (by decide +kernel))
  · exact (fun x y h => xr_idiv dX12_layDues_11 x y (h (Or.inl rfl)))
  · exact (⟨by decide, xr_iloadn dX12_layDues_12 rfl⟩)
  · exact (xr_iconst dX12_layDues_13 (by decide +kernel))
  · exact (fun x y h => xr_irem dX12_layDues_14 x y (h (Or.inr rfl)))
  · exact (⟨rfl, _, rfl, ⟨344, dX12_layDues_15, xw_78, xw_76, xw_77⟩, _, rfl, rfl⟩)
  · exact (xr_ifne dX12_layDues_18 (by decide))
  · exact (xr_goto dX12_layDues_21 (by decide))
  · exact (xr_iinc dX12_layDues_76 (by decide +kernel))
  · exact (xr_goto dX12_layDues_79 (by decide))
  · exact (⟨dX12_layDues_82, rfl⟩)
theorem xmo_32 : xMok xmt xm_32 := ⟨xw_134, xw_58, ⟨by decide, by decide, by decide +kernel⟩, by decide +kernel, rfl, xo_32⟩
set_option maxRecDepth 100000 in
set_option maxHeartbeats 4000000 in
theorem xo_33 : ∀ q ∈ xk_33, xok xmt xm_33 q.1 q.2 := by
  refine xcns ?_ <| xcns ?_ <| xcns ?_ <| xcns ?_ <| xcns ?_ <| xcns ?_ <| xcns ?_ <| xcns ?_ <| xcns ?_ <| xcns ?_ <| xcns ?_ <| xcns ?_ <| xcns ?_ <| xcns ?_ <| xcns ?_ <| xcns ?_ <| xcns ?_ <| xcns ?_ <| xcns ?_ <| xcns ?_ <| xcns ?_ <| xcns ?_ <| xcns ?_ <| xcns ?_ <| xcns ?_ <| xcns ?_ <| xcns ?_ <| xcns ?_ <| xcns ?_ <| xcns ?_ <| xcns ?_ <| xcns ?_ <| xcns ?_ <| xcns ?_ <| xcns ?_ <| xcns ?_ <| xcns ?_ <| xcns ?_ <| xcns ?_ <| xcns ?_ <| xcns ?_ <| xcns ?_ <| xcns ?_ <| xcns ?_ <| xcns ?_ <| xcns ?_ <| xcns ?_ <| xnl
  · exact (⟨by decide, xr_aloadn dX12_named_0 rfl⟩)
  · exact (xr_iconst dX12_named_1 (by decide +kernel))
  · exact (⟨.int, false, 0, rfl, xr_putf dX12_named_2 (show vwCl[12]? = some (RX12, TX12, 69) from rfl) (by decide) xin_X12 tyX12_ok nmX12 xw_60 rfl (rfl : tyX12 0 = .int), fun h => (by cases h)⟩)
  · exact (⟨by decide, xr_iloadn dX12_named_5 rfl⟩)
  · exact (xr_table dX12_named_6 (by decide) (by decide) (by decide))
  · exact (⟨by decide, xr_aloadn dX12_named_36 rfl⟩)
  · exact (xr_getf dX12_named_37 (show vwCl[12]? = some (RX12, TX12, 69) from rfl) (by decide) xin_X12 xw_5)
  · exact (xr_iconst dX12_named_40 (by decide +kernel))
  · exact (⟨by decide, xr_aloadn dX12_named_41 rfl⟩)
  · exact (xr_getf dX12_named_42 (show vwCl[12]? = some (RX12, TX12, 69) from rfl) (by decide) xin_X12 xw_4)
  · exact (xr_iconst dX12_named_45 (by decide +kernel))
  · exact (⟨by decide, xr_iald dX12_named_46⟩)
  · exact (⟨by decide, xr_iloadn dX12_named_47 rfl⟩)
  · exact (⟨rfl, _, rfl, ⟨229, dX12_named_48, xw_135, xw_136⟩⟩)
  · exact (⟨dX12_named_51, .int, rfl, rfl, Or.inl rfl⟩)
  · exact (⟨by decide, xr_aloadn dX12_named_52 rfl⟩)
  · exact (xr_getf dX12_named_53 (show vwCl[12]? = some (RX12, TX12, 69) from rfl) (by decide) xin_X12 xw_8)
  · exact (xr_iconst dX12_named_56 (by decide +kernel))
  · exact (⟨by decide, xr_aloadn dX12_named_57 rfl⟩)
  · exact (xr_getf dX12_named_58 (show vwCl[12]? = some (RX12, TX12, 69) from rfl) (by decide) xin_X12 xw_4)
  · exact (xr_iconst dX12_named_61 (by decide +kernel))
  · exact (⟨by decide, xr_iald dX12_named_62⟩)
  · exact (⟨by decide, xr_iloadn dX12_named_63 rfl⟩)
  · exact (⟨rfl, _, rfl, ⟨229, dX12_named_64, xw_135, xw_136⟩⟩)
  · exact (⟨dX12_named_67, .int, rfl, rfl, Or.inl rfl⟩)
  · exact (⟨by decide, xr_aloadn dX12_named_68 rfl⟩)
  · exact (xr_getf dX12_named_69 (show vwCl[12]? = some (RX12, TX12, 69) from rfl) (by decide) xin_X12 xw_16)
  · exact (xr_iconst dX12_named_72 (by decide +kernel))
  · exact (⟨by decide, xr_aloadn dX12_named_73 rfl⟩)
  · exact (xr_getf dX12_named_74 (show vwCl[12]? = some (RX12, TX12, 69) from rfl) (by decide) xin_X12 xw_4)
  · exact (xr_iconst dX12_named_77 (by decide +kernel))
  · exact (⟨by decide, xr_iald dX12_named_78⟩)
  · exact (⟨by decide, xr_iloadn dX12_named_79 rfl⟩)
  · exact (⟨rfl, _, rfl, ⟨229, dX12_named_80, xw_135, xw_136⟩⟩)
  · exact (⟨dX12_named_83, .int, rfl, rfl, Or.inl rfl⟩)
  · exact (⟨by decide, xr_aloadn dX12_named_84 rfl⟩)
  · exact (xr_getf dX12_named_85 (show vwCl[12]? = some (RX12, TX12, 69) from rfl) (by decide) xin_X12 xw_20)
  · exact (xr_iconst dX12_named_88 (by decide +kernel))
  · exact (⟨by decide, xr_aloadn dX12_named_89 rfl⟩)
  · exact (xr_getf dX12_named_90 (show vwCl[12]? = some (RX12, TX12, 69) from rfl) (by decide) xin_X12 xw_4)
  · exact (xr_iconst dX12_named_93 (by decide +kernel))
  · exact (⟨by decide, xr_iald dX12_named_94⟩)
  · exact (⟨by decide, xr_iloadn dX12_named_95 rfl⟩)
  · exact (⟨rfl, _, rfl, ⟨229, dX12_named_96, xw_135, xw_136⟩⟩)
  · exact (⟨dX12_named_99, .int, rfl, rfl, Or.inl rfl⟩)
  · exact (xr_iconst dX12_named_100 (by decide +kernel))
  · exact (⟨dX12_named_101, .int, rfl, rfl, Or.inl rfl⟩)
theorem xmo_33 : xMok xmt xm_33 := ⟨xw_137, xw_58, ⟨by decide, by decide, by decide +kernel⟩, by decide +kernel, rfl, xo_33⟩
set_option maxRecDepth 100000 in
set_option maxHeartbeats 4000000 in
theorem xo_34 : ∀ q ∈ xk_34, xok xmt xm_34 q.1 q.2 := by
  refine xcns ?_ <| xcns ?_ <| xcns ?_ <| xcns ?_ <| xcns ?_ <| xcns ?_ <| xcns ?_ <| xcns ?_ <| xcns ?_ <| xnl
  · exact (⟨by decide, xr_aloadn dX12_odds_0 rfl⟩)
  · exact (xr_iconst dX12_odds_1 (by decide +kernel))
  · exact (⟨.int, false, 0, rfl, xr_putf dX12_odds_2 (show vwCl[12]? = some (RX12, TX12, 69) from rfl) (by decide) xin_X12 tyX12_ok nmX12 xw_60 rfl (rfl : tyX12 0 = .int), fun h => (by cases h)⟩)
  · exact (⟨by decide, xr_aloadn dX12_odds_5 rfl⟩)
  · exact (⟨by decide, xr_iloadn dX12_odds_6 rfl⟩)
  · exact (⟨rfl, _, rfl, ⟨335, dX12_odds_7, xw_90, xw_88, xw_89⟩, _, rfl, rfl⟩)
  · exact (xr_ifeq dX12_odds_10 (by decide))
  · exact (xr_iconst dX12_odds_22 (by decide +kernel))
  · exact (⟨dX12_odds_23, .int, rfl, rfl, Or.inl rfl⟩)
theorem xmo_34 : xMok xmt xm_34 := ⟨xw_138, xw_58, ⟨by decide, by decide, by decide +kernel⟩, by decide +kernel, rfl, xo_34⟩
set_option maxRecDepth 100000 in
set_option maxHeartbeats 4000000 in
theorem xo_35 : ∀ q ∈ xk_35, xok xmt xm_35 q.1 q.2 := by
  refine xcns ?_ <| xcns ?_ <| xcns ?_ <| xcns ?_ <| xcns ?_ <| xcns ?_ <| xcns ?_ <| xcns ?_ <| xcns ?_ <| xnl
  · exact (⟨by decide, xr_aloadn dX12_pay_0 rfl⟩)
  · exact (xr_iconst dX12_pay_1 (by decide +kernel))
  · exact (⟨.int, false, 0, rfl, xr_putf dX12_pay_2 (show vwCl[12]? = some (RX12, TX12, 69) from rfl) (by decide) xin_X12 tyX12_ok nmX12 xw_60 rfl (rfl : tyX12 0 = .int), fun h => (by cases h)⟩)
  · exact (⟨by decide, xr_aloadn dX12_pay_5 rfl⟩)
  · exact (⟨by decide, xr_iloadn dX12_pay_6 rfl⟩)
  · exact (⟨rfl, _, rfl, ⟨341, dX12_pay_7, xw_141, xw_139, xw_140⟩, _, rfl, rfl⟩)
  · exact (xr_ifne dX12_pay_10 (by decide))
  · exact (xr_iconst dX12_pay_13 (by decide +kernel))
  · exact (⟨dX12_pay_14, .int, rfl, rfl, Or.inl rfl⟩)
theorem xmo_35 : xMok xmt xm_35 := ⟨xw_142, xw_58, ⟨by decide, by decide, by decide +kernel⟩, by decide +kernel, rfl, xo_35⟩
set_option maxRecDepth 100000 in
set_option maxHeartbeats 4000000 in
theorem xo_36 : ∀ q ∈ xk_36, xok xmt xm_36 q.1 q.2 := by
  refine xcns ?_ <| xcns ?_ <| xcns ?_ <| xcns ?_ <| xcns ?_ <| xcns ?_ <| xcns ?_ <| xcns ?_ <| xcns ?_ <| xcns ?_ <| xnl
  · exact (⟨by decide, xr_aloadn dX12_pitch_0 rfl⟩)
  · exact (xr_iconst dX12_pitch_1 (by decide +kernel))
  · exact (⟨.int, false, 0, rfl, xr_putf dX12_pitch_2 (show vwCl[12]? = some (RX12, TX12, 69) from rfl) (by decide) xin_X12 tyX12_ok nmX12 xw_60 rfl (rfl : tyX12 0 = .int), fun h => (by cases h)⟩)
  · exact (⟨by decide, xr_aloadn dX12_pitch_5 rfl⟩)
  · exact (⟨by decide, xr_iloadn dX12_pitch_6 rfl⟩)
  · exact (⟨by decide, xr_iloadn dX12_pitch_7 rfl⟩)
  · exact (⟨rfl, _, rfl, ⟨344, dX12_pitch_8, xw_78, xw_76, xw_77⟩, _, rfl, rfl⟩)
  · exact (xr_ifeq dX12_pitch_11 (by decide))
  · exact (xr_iconst dX12_pitch_50 (by decide +kernel))
  · exact (⟨dX12_pitch_51, .int, rfl, rfl, Or.inl rfl⟩)
theorem xmo_36 : xMok xmt xm_36 := ⟨xw_143, xw_58, ⟨by decide, by decide, by decide +kernel⟩, by decide +kernel, rfl, xo_36⟩
set_option maxRecDepth 100000 in
set_option maxHeartbeats 4000000 in
theorem xo_37 : ∀ q ∈ xk_37, xok xmt xm_37 q.1 q.2 := by
  refine xcns ?_ <| xcns ?_ <| xcns ?_ <| xcns ?_ <| xcns ?_ <| xcns ?_ <| xcns ?_ <| xcns ?_ <| xnl
  · exact (⟨by decide, xr_aloadn dX12_reads_0 rfl⟩)
  · exact (xr_getf dX12_reads_1 (show vwCl[12]? = some (RX12, TX12, 69) from rfl) (by decide) xin_X12 xw_4)
  · exact (xr_bipush dX12_reads_4 (by decide +kernel))
  · exact (⟨by decide, xr_iloadn dX12_reads_6 rfl⟩)
  · exact (fun x y h => xr_iadd dX12_reads_7 x y)
  · exact (⟨by decide, xr_iloadn dX12_reads_8 rfl⟩)
  · exact (xr_iast dX12_reads_9)
  · exact (⟨dX12_reads_10, rfl⟩)
theorem xmo_37 : xMok xmt xm_37 := ⟨xw_144, xw_58, ⟨by decide, by decide, by decide +kernel⟩, by decide +kernel, rfl, xo_37⟩
set_option maxRecDepth 100000 in
set_option maxHeartbeats 4000000 in
theorem xo_38 : ∀ q ∈ xk_38, xok xmt xm_38 q.1 q.2 := by
  refine xcns ?_ <| xcns ?_ <| xcns ?_ <| xcns ?_ <| xcns ?_ <| xcns ?_ <| xcns ?_ <| xcns ?_ <| xcns ?_ <| xcns ?_ <| xnl
  · exact (⟨by decide, xr_aloadn dX12_redeem_0 rfl⟩)
  · exact (xr_iconst dX12_redeem_1 (by decide +kernel))
  · exact (⟨.int, false, 0, rfl, xr_putf dX12_redeem_2 (show vwCl[12]? = some (RX12, TX12, 69) from rfl) (by decide) xin_X12 tyX12_ok nmX12 xw_60 rfl (rfl : tyX12 0 = .int), fun h => (by cases h)⟩)
  · exact (⟨by decide, xr_aloadn dX12_redeem_5 rfl⟩)
  · exact (⟨by decide, xr_iloadn dX12_redeem_6 rfl⟩)
  · exact (⟨by decide, xr_iloadn dX12_redeem_7 rfl⟩)
  · exact (⟨rfl, _, rfl, ⟨344, dX12_redeem_8, xw_78, xw_76, xw_77⟩, _, rfl, rfl⟩)
  · exact (xr_ifeq dX12_redeem_11 (by decide))
  · exact (xr_iconst dX12_redeem_53 (by decide +kernel))
  · exact (⟨dX12_redeem_54, .int, rfl, rfl, Or.inl rfl⟩)
theorem xmo_38 : xMok xmt xm_38 := ⟨xw_145, xw_58, ⟨by decide, by decide, by decide +kernel⟩, by decide +kernel, rfl, xo_38⟩
set_option maxRecDepth 100000 in
set_option maxHeartbeats 4000000 in
theorem xo_39 : ∀ q ∈ xk_39, xok xmt xm_39 q.1 q.2 := by
  refine xcns ?_ <| xcns ?_ <| xcns ?_ <| xcns ?_ <| xcns ?_ <| xcns ?_ <| xcns ?_ <| xcns ?_ <| xcns ?_ <| xcns ?_ <| xnl
  · exact (⟨by decide, xr_aloadn dX12_round_0 rfl⟩)
  · exact (xr_iconst dX12_round_1 (by decide +kernel))
  · exact (⟨.int, false, 0, rfl, xr_putf dX12_round_2 (show vwCl[12]? = some (RX12, TX12, 69) from rfl) (by decide) xin_X12 tyX12_ok nmX12 xw_60 rfl (rfl : tyX12 0 = .int), fun h => (by cases h)⟩)
  · exact (⟨by decide, xr_aloadn dX12_round_5 rfl⟩)
  · exact (⟨by decide, xr_iloadn dX12_round_6 rfl⟩)
  · exact (⟨by decide, xr_iloadn dX12_round_7 rfl⟩)
  · exact (⟨rfl, _, rfl, ⟨344, dX12_round_8, xw_78, xw_76, xw_77⟩, _, rfl, rfl⟩)
  · exact (xr_ifeq dX12_round_11 (by decide))
  · exact (xr_iconst dX12_round_23 (by decide +kernel))
  · exact (⟨dX12_round_24, .int, rfl, rfl, Or.inl rfl⟩)
theorem xmo_39 : xMok xmt xm_39 := ⟨xw_146, xw_58, ⟨by decide, by decide, by decide +kernel⟩, by decide +kernel, rfl, xo_39⟩
set_option maxRecDepth 100000 in
set_option maxHeartbeats 4000000 in
theorem xo_40 : ∀ q ∈ xk_40, xok xmt xm_40 q.1 q.2 := by
  refine xcns ?_ <| xcns ?_ <| xcns ?_ <| xcns ?_ <| xcns ?_ <| xcns ?_ <| xcns ?_ <| xcns ?_ <| xcns ?_ <| xnl
  · exact (⟨by decide, xr_aloadn dX12_run_0 rfl⟩)
  · exact (xr_iconst dX12_run_1 (by decide +kernel))
  · exact (⟨.int, false, 0, rfl, xr_putf dX12_run_2 (show vwCl[12]? = some (RX12, TX12, 69) from rfl) (by decide) xin_X12 tyX12_ok nmX12 xw_60 rfl (rfl : tyX12 0 = .int), fun h => (by cases h)⟩)
  · exact (⟨by decide, xr_aloadn dX12_run_5 rfl⟩)
  · exact (⟨by decide, xr_iloadn dX12_run_6 rfl⟩)
  · exact (⟨rfl, _, rfl, ⟨341, dX12_run_7, xw_141, xw_139, xw_140⟩, _, rfl, rfl⟩)
  · exact (xr_ifeq dX12_run_10 (by decide))
  · exact (xr_iconst dX12_run_36 (by decide +kernel))
  · exact (⟨dX12_run_37, .int, rfl, rfl, Or.inl rfl⟩)
theorem xmo_40 : xMok xmt xm_40 := ⟨xw_147, xw_58, ⟨by decide, by decide, by decide +kernel⟩, by decide +kernel, rfl, xo_40⟩
set_option maxRecDepth 100000 in
set_option maxHeartbeats 4000000 in
theorem xo_41 : ∀ q ∈ xk_41, xok xmt xm_41 q.1 q.2 := by
  refine xcns ?_ <| xcns ?_ <| xcns ?_ <| xcns ?_ <| xcns ?_ <| xcns ?_ <| xcns ?_ <| xcns ?_ <| xcns ?_ <| xcns ?_ <| xcns ?_ <| xcns ?_ <| xcns ?_ <| xcns ?_ <| xcns ?_ <| xcns ?_ <| xcns ?_ <| xnl
  · exact (xr_iconst dX12_sells_0 (by decide +kernel))
  · exact (⟨by decide, xr_istoren dX12_sells_1 rfl⟩)
  · exact (xr_iconst dX12_sells_2 (by decide +kernel))
  · exact (⟨by decide, xr_istore dX12_sells_3⟩)
  · exact (⟨by decide, xr_iload dX12_sells_5⟩)
  · exact (⟨by decide, xr_aloadn dX12_sells_7 rfl⟩)
  · exact (xr_getf dX12_sells_8 (show vwCl[12]? = some (RX12, TX12, 69) from rfl) (by decide) xin_X12 xw_4)
  · exact (xr_iconst dX12_sells_11 (by decide +kernel))
  · exact (⟨by decide, xr_iald dX12_sells_12⟩)
  · exact (xr_icmpge dX12_sells_13 (by decide))
  · exact (xr_iconst dX12_sells_36 (by decide +kernel))
  · exact (⟨by decide, xr_istore dX12_sells_37⟩)
  · exact (⟨by decide, xr_iload dX12_sells_39⟩)
  · exact (⟨by decide, xr_iloadn dX12_sells_41 rfl⟩)
  · exact (xr_icmpgt dX12_sells_42 (by decide))
  · exact (⟨by decide, xr_iloadn dX12_sells_188 rfl⟩)
  · exact (⟨dX12_sells_189, .int, rfl, rfl, Or.inl rfl⟩)
theorem xmo_41 : xMok xmt xm_41 := ⟨xw_148, xw_58, ⟨by decide, by decide, by decide +kernel⟩, by decide +kernel, rfl, xo_41⟩
set_option maxRecDepth 100000 in
set_option maxHeartbeats 4000000 in
theorem xo_42 : ∀ q ∈ xk_42, xok xmt xm_42 q.1 q.2 := by
  refine xcns ?_ <| xcns ?_ <| xcns ?_ <| xcns ?_ <| xcns ?_ <| xcns ?_ <| xcns ?_ <| xcns ?_ <| xcns ?_ <| xcns ?_ <| xnl
  · exact (⟨by decide, xr_aloadn dX12_sings_0 rfl⟩)
  · exact (xr_iconst dX12_sings_1 (by decide +kernel))
  · exact (⟨.int, false, 0, rfl, xr_putf dX12_sings_2 (show vwCl[12]? = some (RX12, TX12, 69) from rfl) (by decide) xin_X12 tyX12_ok nmX12 xw_60 rfl (rfl : tyX12 0 = .int), fun h => (by cases h)⟩)
  · exact (⟨by decide, xr_aloadn dX12_sings_5 rfl⟩)
  · exact (⟨by decide, xr_iloadn dX12_sings_6 rfl⟩)
  · exact (⟨by decide, xr_iloadn dX12_sings_7 rfl⟩)
  · exact (⟨rfl, _, rfl, ⟨344, dX12_sings_8, xw_78, xw_76, xw_77⟩, _, rfl, rfl⟩)
  · exact (xr_ifne dX12_sings_11 (by decide))
  · exact (xr_iconst dX12_sings_14 (by decide +kernel))
  · exact (⟨dX12_sings_15, .int, rfl, rfl, Or.inl rfl⟩)
theorem xmo_42 : xMok xmt xm_42 := ⟨xw_149, xw_58, ⟨by decide, by decide, by decide +kernel⟩, by decide +kernel, rfl, xo_42⟩
set_option maxRecDepth 100000 in
set_option maxHeartbeats 4000000 in
theorem xo_43 : ∀ q ∈ xk_43, xok xmt xm_43 q.1 q.2 := by
  refine xcns ?_ <| xcns ?_ <| xcns ?_ <| xcns ?_ <| xcns ?_ <| xcns ?_ <| xcns ?_ <| xcns ?_ <| xcns ?_ <| xcns ?_ <| xcns ?_ <| xcns ?_ <| xcns ?_ <| xnl
  · exact (⟨by decide, xr_aloadn dX12_sold_0 rfl⟩)
  · exact (xr_iconst dX12_sold_1 (by decide +kernel))
  · exact (⟨.int, false, 0, rfl, xr_putf dX12_sold_2 (show vwCl[12]? = some (RX12, TX12, 69) from rfl) (by decide) xin_X12 tyX12_ok nmX12 xw_60 rfl (rfl : tyX12 0 = .int), fun h => (by cases h)⟩)
  · exact (⟨by decide, xr_aloadn dX12_sold_5 rfl⟩)
  · exact (⟨by decide, xr_iloadn dX12_sold_6 rfl⟩)
  · exact (⟨rfl, _, rfl, ⟨461, dX12_sold_7, xw_95, xw_93, xw_94⟩, _, rfl, rfl⟩)
  · exact (xr_ifeq dX12_sold_10 (by decide))
  · exact (⟨by decide, xr_aloadn dX12_sold_13 rfl⟩)
  · exact (⟨by decide, xr_iloadn dX12_sold_14 rfl⟩)
  · exact (⟨rfl, _, rfl, ⟨332, dX12_sold_15, xw_65, xw_63, xw_64⟩, _, rfl, rfl⟩)
  · exact (xr_ifeq dX12_sold_18 (by decide))
  · exact (xr_iconst dX12_sold_38 (by decide +kernel))
  · exact (⟨dX12_sold_39, .int, rfl, rfl, Or.inl rfl⟩)
theorem xmo_43 : xMok xmt xm_43 := ⟨xw_150, xw_58, ⟨by decide, by decide, by decide +kernel⟩, by decide +kernel, rfl, xo_43⟩
set_option maxRecDepth 100000 in
set_option maxHeartbeats 4000000 in
theorem xo_44 : ∀ q ∈ xk_44, xok xmt xm_44 q.1 q.2 := by
  refine xcns ?_ <| xcns ?_ <| xcns ?_ <| xcns ?_ <| xcns ?_ <| xcns ?_ <| xcns ?_ <| xcns ?_ <| xcns ?_ <| xcns ?_ <| xnl
  · exact (⟨by decide, xr_aloadn dX12_sounds_0 rfl⟩)
  · exact (xr_iconst dX12_sounds_1 (by decide +kernel))
  · exact (⟨.int, false, 0, rfl, xr_putf dX12_sounds_2 (show vwCl[12]? = some (RX12, TX12, 69) from rfl) (by decide) xin_X12 tyX12_ok nmX12 xw_60 rfl (rfl : tyX12 0 = .int), fun h => (by cases h)⟩)
  · exact (⟨by decide, xr_aloadn dX12_sounds_5 rfl⟩)
  · exact (⟨by decide, xr_iloadn dX12_sounds_6 rfl⟩)
  · exact (⟨by decide, xr_iloadn dX12_sounds_7 rfl⟩)
  · exact (⟨rfl, _, rfl, ⟨344, dX12_sounds_8, xw_78, xw_76, xw_77⟩, _, rfl, rfl⟩)
  · exact (xr_ifeq dX12_sounds_11 (by decide))
  · exact (xr_iconst dX12_sounds_35 (by decide +kernel))
  · exact (⟨dX12_sounds_36, .int, rfl, rfl, Or.inl rfl⟩)
theorem xmo_44 : xMok xmt xm_44 := ⟨xw_151, xw_58, ⟨by decide, by decide, by decide +kernel⟩, by decide +kernel, rfl, xo_44⟩
set_option maxRecDepth 100000 in
set_option maxHeartbeats 4000000 in
theorem xo_45 : ∀ q ∈ xk_45, xok xmt xm_45 q.1 q.2 := by
  refine xcns ?_ <| xcns ?_ <| xcns ?_ <| xcns ?_ <| xcns ?_ <| xcns ?_ <| xcns ?_ <| xcns ?_ <| xcns ?_ <| xcns ?_ <| xcns ?_ <| xnl
  · exact (⟨by decide, xr_aloadn dX12_strike_0 rfl⟩)
  · exact (xr_iconst dX12_strike_1 (by decide +kernel))
  · exact (⟨.int, false, 0, rfl, xr_putf dX12_strike_2 (show vwCl[12]? = some (RX12, TX12, 69) from rfl) (by decide) xin_X12 tyX12_ok nmX12 xw_60 rfl (rfl : tyX12 0 = .int), fun h => (by cases h)⟩)
  · exact (⟨by decide, xr_iloadn dX12_strike_5 rfl⟩)
  · exact (xr_iflt dX12_strike_6 (by decide))
  · exact (⟨by decide, xr_iloadn dX12_strike_9 rfl⟩)
  · exact (⟨by decide, xr_aloadn dX12_strike_10 rfl⟩)
  · exact (xr_getf dX12_strike_11 (show vwCl[12]? = some (RX12, TX12, 69) from rfl) (by decide) xin_X12 xw_81)
  · exact (xr_icmpge dX12_strike_14 (by decide))
  · exact (xr_iconst dX12_strike_26 (by decide +kernel))
  · exact (⟨dX12_strike_27, .int, rfl, rfl, Or.inl rfl⟩)
theorem xmo_45 : xMok xmt xm_45 := ⟨xw_152, xw_58, ⟨by decide, by decide, by decide +kernel⟩, by decide +kernel, rfl, xo_45⟩
set_option maxRecDepth 100000 in
set_option maxHeartbeats 4000000 in
theorem xo_46 : ∀ q ∈ xk_46, xok xmt xm_46 q.1 q.2 := by
  refine xcns ?_ <| xcns ?_ <| xcns ?_ <| xcns ?_ <| xcns ?_ <| xcns ?_ <| xcns ?_ <| xcns ?_ <| xcns ?_ <| xcns ?_ <| xcns ?_ <| xcns ?_ <| xcns ?_ <| xcns ?_ <| xnl
  · exact (xr_iconst dX12_strikes_0 (by decide +kernel))
  · exact (⟨by decide, xr_istoren dX12_strikes_1 rfl⟩)
  · exact (⟨by decide, xr_iloadn dX12_strikes_2 rfl⟩)
  · exact (⟨by decide, xr_aloadn dX12_strikes_3 rfl⟩)
  · exact (⟨rfl, _, rfl, ⟨467, dX12_strikes_4, xw_84, xw_82, xw_83⟩, _, rfl, rfl⟩)
  · exact (xr_icmpge dX12_strikes_7 (by decide))
  · exact (⟨by decide, xr_aloadn dX12_strikes_23 rfl⟩)
  · exact (⟨rfl, _, rfl, ⟨467, dX12_strikes_24, xw_84, xw_82, xw_83⟩, _, rfl, rfl⟩)
  · exact (xr_iconst dX12_strikes_27 (by decide +kernel))
  · exact (fun x y h => xr_isub dX12_strikes_28 x y)
  · exact (⟨by decide, xr_istoren dX12_strikes_29 rfl⟩)
  · exact (⟨by decide, xr_iloadn dX12_strikes_30 rfl⟩)
  · exact (xr_iflt dX12_strikes_31 (by decide))
  · exact (⟨dX12_strikes_71, rfl⟩)
theorem xmo_46 : xMok xmt xm_46 := ⟨xw_153, xw_58, ⟨by decide, by decide, by decide +kernel⟩, by decide +kernel, rfl, xo_46⟩
set_option maxRecDepth 100000 in
set_option maxHeartbeats 4000000 in
theorem xo_47 : ∀ q ∈ xk_47, xok xmt xm_47 q.1 q.2 := by
  refine xcns ?_ <| xcns ?_ <| xcns ?_ <| xcns ?_ <| xcns ?_ <| xcns ?_ <| xcns ?_ <| xcns ?_ <| xcns ?_ <| xcns ?_ <| xcns ?_ <| xcns ?_ <| xcns ?_ <| xcns ?_ <| xcns ?_ <| xcns ?_ <| xcns ?_ <| xcns ?_ <| xcns ?_ <| xcns ?_ <| xcns ?_ <| xcns ?_ <| xcns ?_ <| xcns ?_ <| xcns ?_ <| xcns ?_ <| xcns ?_ <| xcns ?_ <| xcns ?_ <| xcns ?_ <| xcns ?_ <| xcns ?_ <| xcns ?_ <| xcns ?_ <| xcns ?_ <| xcns ?_ <| xcns ?_ <| xcns ?_ <| xcns ?_ <| xcns ?_ <| xcns ?_ <| xcns ?_ <| xcns ?_ <| xcns ?_ <| xcns ?_ <| xcns ?_ <| xcns ?_ <| xcns ?_ <| xcns ?_ <| xcns ?_ <| xcns ?_ <| xcns ?_ <| xcns ?_ <| xcns ?_ <| xcns ?_ <| xcns ?_ <| xcns ?_ <| xcns ?_ <| xcns ?_ <| xnl
  · exact (⟨by decide, xr_aloadn dX12_sunday_0 rfl⟩)
  · exact (xr_iconst dX12_sunday_1 (by decide +kernel))
  · exact (⟨.int, false, 0, rfl, xr_putf dX12_sunday_2 (show vwCl[12]? = some (RX12, TX12, 69) from rfl) (by decide) xin_X12 tyX12_ok nmX12 xw_60 rfl (rfl : tyX12 0 = .int), fun h => (by cases h)⟩)
  · exact (xr_iconst dX12_sunday_5 (by decide +kernel))
  · exact (⟨by decide, xr_istoren dX12_sunday_6 rfl⟩)
  · exact (xr_iconst dX12_sunday_7 (by decide +kernel))
  · exact (⟨by decide, xr_istoren dX12_sunday_8 rfl⟩)
  · exact (⟨by decide, xr_iloadn dX12_sunday_9 rfl⟩)
  · exact (xr_bipush dX12_sunday_10 (by decide +kernel))
  · exact (xr_icmpge dX12_sunday_12 (by decide))
  · exact (⟨by decide, xr_aloadn dX12_sunday_15 rfl⟩)
  · exact (xr_getf dX12_sunday_16 (show vwCl[12]? = some (RX12, TX12, 69) from rfl) (by decide) xin_X12 xw_35)
  · exact (⟨by decide, xr_iloadn dX12_sunday_19 rfl⟩)
  · exact (⟨by decide, xr_iald dX12_sunday_20⟩)
  · exact (⟨by decide, xr_istoren dX12_sunday_21 rfl⟩)
  · exact (⟨by decide, xr_aloadn dX12_sunday_22 rfl⟩)
  · exact (xr_getf dX12_sunday_23 (show vwCl[12]? = some (RX12, TX12, 69) from rfl) (by decide) xin_X12 xw_35)
  · exact (⟨by decide, xr_iloadn dX12_sunday_26 rfl⟩)
  · exact (xr_iconst dX12_sunday_27 (by decide +kernel))
  · exact (xr_iast dX12_sunday_28)
  · exact (⟨by decide, xr_iloadn dX12_sunday_29 rfl⟩)
  · exact (xr_iconst dX12_sunday_30 (by decide +kernel))
  · exact (xr_icmpne dX12_sunday_31 (by decide))
  · exact (xr_goto dX12_sunday_34 (by decide))
  · exact (xr_iinc dX12_sunday_70 (by decide +kernel))
  · exact (xr_goto dX12_sunday_73 (by decide))
  · exact (⟨by decide, xr_aloadn dX12_sunday_76 rfl⟩)
  · exact (xr_getf dX12_sunday_77 (show vwCl[12]? = some (RX12, TX12, 69) from rfl) (by decide) xin_X12 xw_36)
  · exact (xr_iconst dX12_sunday_80 (by decide +kernel))
  · exact (xr_iconst dX12_sunday_81 (by decide +kernel))
  · exact (xr_iast dX12_sunday_82)
  · exact (⟨by decide, xr_aloadn dX12_sunday_83 rfl⟩)
  · exact (xr_getf dX12_sunday_84 (show vwCl[12]? = some (RX12, TX12, 69) from rfl) (by decide) xin_X12 xw_31)
  · exact (xr_iconst dX12_sunday_87 (by decide +kernel))
  · exact (⟨by decide, xr_iald dX12_sunday_88⟩)
  · exact (⟨by decide, xr_istoren dX12_sunday_89 rfl⟩)
  · exact (xr_iconst dX12_sunday_90 (by decide +kernel))
  · exact (⟨by decide, xr_istoren dX12_sunday_91 rfl⟩)
  · exact (⟨by decide, xr_iloadn dX12_sunday_92 rfl⟩)
  · exact (⟨by decide, xr_aloadn dX12_sunday_93 rfl⟩)
  · exact (xr_getf dX12_sunday_94 (show vwCl[12]? = some (RX12, TX12, 69) from rfl) (by decide) xin_X12 xw_4)
  · exact (xr_iconst dX12_sunday_97 (by decide +kernel))
  · exact (⟨by decide, xr_iald dX12_sunday_98⟩)
  · exact (xr_icmpge dX12_sunday_99 (by decide))
  · exact (⟨by decide, xr_aloadn dX12_sunday_144 rfl⟩)
  · exact (xr_getf dX12_sunday_145 (show vwCl[12]? = some (RX12, TX12, 69) from rfl) (by decide) xin_X12 xw_31)
  · exact (xr_iconst dX12_sunday_148 (by decide +kernel))
  · exact (⟨by decide, xr_iloadn dX12_sunday_149 rfl⟩)
  · exact (xr_iast dX12_sunday_150)
  · exact (⟨by decide, xr_aloadn dX12_sunday_151 rfl⟩)
  · exact (xr_getf dX12_sunday_152 (show vwCl[12]? = some (RX12, TX12, 69) from rfl) (by decide) xin_X12 xw_27)
  · exact (xr_iconst dX12_sunday_155 (by decide +kernel))
  · exact (fun v w h h2 => xr_dup2 dX12_sunday_156 v w h h2)
  · exact (⟨by decide, xr_iald dX12_sunday_157⟩)
  · exact (xr_iconst dX12_sunday_158 (by decide +kernel))
  · exact (fun x y h => xr_iadd dX12_sunday_159 x y)
  · exact (xr_iast dX12_sunday_160)
  · exact (⟨by decide, xr_iloadn dX12_sunday_161 rfl⟩)
  · exact (⟨dX12_sunday_162, .int, rfl, rfl, Or.inl rfl⟩)
theorem xmo_47 : xMok xmt xm_47 := ⟨xw_154, xw_58, ⟨by decide, by decide, by decide +kernel⟩, by decide +kernel, rfl, xo_47⟩
