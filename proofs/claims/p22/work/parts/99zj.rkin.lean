section
/-! THE REFERENCE: a LINE, kind by kind -/
theorem yBg_y {nm : List Int} {mx : Nat} {x : sY} (hl : nm.length < mx) : (yBg nm mx x).2 = yFr nm (yNx x) := by
  unfold yBg yFr
  rw [if_neg (by (first | exact Nat.le_of_ble_eq_true rfl | exact (fun h => absurd h.1 (by decide)) | omega))]
  by_cases h1 : ¬ yKd (yNx x) = 3
  · rw [if_pos h1, if_pos h1]
  · rw [if_neg h1, if_neg h1]
    by_cases h2 : ¬ sFd (fun j => nm.getD j 0) (yVl (yNx x)) nm.length 0 = -1
    · rw [if_pos h2, if_pos h2]
    · rw [if_neg h2, if_neg h2]
theorem yBg_f {nm : List Int} {mx : Nat} {x : sY} (hl : mx ≤ nm.length) : yBg nm mx x = (-1, yFl 2 x) := by
  unfold yBg
  rw [if_pos hl]
theorem yBg_n {nm : List Int} {mx : Nat} {x : sY} (hl : nm.length < mx) (h : (yBg nm mx x).1 = -1) : ∃ e, yFr nm (yNx x) = .inl e := by
  rw [← yBg_y hl]
  rcases yBg_1 (nm := nm) (mx := mx) (x := x) with ⟨_, h2⟩ | ⟨h2, _⟩
  · exact h2
  · (first | exact Nat.le_of_ble_eq_true rfl | exact (fun h => absurd h.1 (by decide)) | omega)
theorem pTv_eq {tav : dTv} {x : sY} (hl : tav.length < 3) : (pTv tav x).1 = (yNm 0 9999 (yNm 0 99 (yFr (tav.map (fun t => t.1)) (yNx x))).2).2 ∧ (yOk (pTv tav x).1 → (pTv tav x).2 = (yVl (yNx x), (yNm 0 99 (yFr (tav.map (fun t => t.1)) (yNx x))).1, (yNm 0 9999 (yNm 0 99 (yFr (tav.map (fun t => t.1)) (yNx x))).2).1)) := by
  have hl' : (tav.map (fun t => t.1)).length < 3 := by rw [List.length_map]; exact hl
  unfold pTv
  rw [yBg_y hl']
  by_cases h : (yBg (tav.map (fun t => t.1)) 3 x).1 = -1
  · obtain ⟨e, he⟩ := yBg_n hl' h
    rw [if_pos h, he, yNm_in, yNm_in]
    exact ⟨rfl, fun z => absurd z yOk_in⟩
  · rw [if_neg h]
    exact ⟨rfl, fun _ => rfl⟩
theorem pV1_in {e : Nat × Nat} : pV1 (.inl e) = (.inl e, 0) := by
  unfold pV1
  rw [if_neg (show ¬ yKd (.inl e) = 24 from (by decide : ¬ (0 : Nat) = 24))]
theorem pV2_in {nm : List Int} {e : Nat × Nat} : pV2 nm (.inl e) = (.inl e, -1, 0) := by
  unfold pV2
  rw [if_neg (show ¬ yKd (.inl e) = 25 from (by decide : ¬ (0 : Nat) = 25))]
theorem pV3_in {e : Nat × Nat} : pV3 (.inl e) = (.inl e, 1) := by
  unfold pV3
  rw [if_neg (show ¬ yKd (.inl e) = 26 from (by decide : ¬ (0 : Nat) = 26))]
theorem pVn_in {tn : List Int} {nm : Int} {e : Nat × Nat} : (pVn tn nm (.inl e)).1 = .inl e := by
  unfold pVn
  dsimp only
  rw [yNm_in, yNm_in, pV1_in, pV2_in, pV3_in]
theorem pVo_eq {tn : List Int} {vo : dVo} {x : sY} (hl : vo.length < 6) : (pVo tn vo x).1 = (pVn tn (yVl (yNx x)) (yFr (vo.map (fun t => t.1)) (yNx x))).1 ∧ (yOk (pVo tn vo x).1 → (pVo tn vo x).2 = (pVn tn (yVl (yNx x)) (yFr (vo.map (fun t => t.1)) (yNx x))).2) := by
  have hl' : (vo.map (fun t => t.1)).length < 6 := by rw [List.length_map]; exact hl
  unfold pVo
  rw [yBg_y hl']
  by_cases h : (yBg (vo.map (fun t => t.1)) 6 x).1 = -1
  · obtain ⟨e, he⟩ := yBg_n hl' h
    rw [if_pos h, he, pVn_in]
    exact ⟨rfl, fun z => absurd z yOk_in⟩
  · rw [if_neg h]
    exact ⟨rfl, fun _ => rfl⟩
theorem pVe_eq {ve : dVe} {x : sY} (hl : ve.length < 4) : (pVe ve x).1 = (pPts 3 (yFr (ve.map (fun t => t.1)) (yNx x))).2 ∧ (yOk (pVe ve x).1 → (pVe ve x).2 = (yVl (yNx x), (pPts 3 (yFr (ve.map (fun t => t.1)) (yNx x))).1)) := by
  have hl' : (ve.map (fun t => t.1)).length < 4 := by rw [List.length_map]; exact hl
  unfold pVe
  rw [yBg_y hl']
  by_cases h : (yBg (ve.map (fun t => t.1)) 4 x).1 = -1
  · obtain ⟨e, he⟩ := yBg_n hl' h
    have e2 := pPts_no (x := .inl e) (show ¬ yKd (.inl e) = 27 from (by decide : ¬ (0 : Nat) = 27)) 2
    rw [if_pos h, he]
    refine ⟨?_, fun z => absurd z yOk_in⟩
    show _ = (pPts (2 + 1) (.inl e)).2
    rw [e2]
    rfl
  · rw [if_neg h]
    exact ⟨rfl, fun _ => rfl⟩
theorem pBk_eq {bk : dBk} {cn : Nat} {o : sK} {x : sY} (hl : bk.length < 3) : (pBk bk cn o x).1 = pE (yNm 0 999 (yFr (bk.map (fun t => t.1)) (yNx x))).2 cn o ∧ (yOk (yOf (pBk bk cn o x).1) → (pBk bk cn o x).2 = (yVl (yNx x), (yNm 0 999 (yFr (bk.map (fun t => t.1)) (yNx x))).1)) := by
  have hl' : (bk.map (fun t => t.1)).length < 3 := by rw [List.length_map]; exact hl
  unfold pBk
  rw [yBg_y hl']
  by_cases h : (yBg (bk.map (fun t => t.1)) 3 x).1 = -1
  · obtain ⟨e, he⟩ := yBg_n hl' h
    rw [if_pos h, he, yNm_in]
    exact ⟨rfl, fun z => absurd z yOk_in⟩
  · rw [if_neg h]
    exact ⟨rfl, fun _ => rfl⟩
theorem pEnd_fl {f : Nat} {x : sY} : pEnd (yFl f x) = yFl f x := by
  obtain ⟨e, he⟩ := yFl_inl f x
  rw [he]
  unfold pEnd
  rw [if_neg (show ¬ yKd (.inl e) = 4 from (by decide : ¬ (0 : Nat) = 4))]
  rfl
theorem rNm_up {b m : yMem} {z q off : Nat} {nm : List Int} {v : Int} (h : rNm b z q off nm) (h1 : w32 (m 97 (7 + q)) = ((nm.length + 1 : Nat) : Int)) (h2 : nm.length < off) (h3 : ∀ j, j < nm.length → m z (off + j) = b z (off + j)) (h4 : w32 (m z (off + nm.length)) = v) : rNm m z q off (nm ++ [v]) := by
  have hl : (nm ++ [v]).length = nm.length + 1 := by rw [List.length_append]; rfl
  refine ⟨by rw [hl]; exact h1, by rw [hl]; (first | exact Nat.le_of_ble_eq_true rfl | exact (fun h => absurd h.1 (by decide)) | omega), fun j hj => ?_⟩
  rw [hl] at hj
  rw [List.getD_eq_getElem?_getD]
  by_cases hjl : j < nm.length
  · rw [h3 j hjl, List.getElem?_append_left hjl, ← List.getD_eq_getElem?_getD]
    exact h.2.2 j hjl
  · have e : j = nm.length := by (first | exact Nat.le_of_ble_eq_true rfl | exact (fun h => absurd h.1 (by decide)) | omega)
    subst e
    rw [List.getElem?_append_right (Nat.le_refl _), Nat.sub_self, h4]
    rfl
section RN
variable {E : yE} {b : yMem} {Q : Option yV → yMem → Prop} {ch : Nat → Int} {n d : Nat} {y : sY} {D : dDc} {p q r s : Bool} {w : Int}
/-- tavern -/
theorem rl132 (hE : yEok E) (hd : 9 ≤ d) (h : rTk ch n b y) (hD : rDp b D) (hT : rTd b p q r s) (hn : D.1.length < 3) (hk : 0 ≤ w32 (b 95 25) ∧ w32 (b 95 25) ≤ 1000) (hQ : ∀ m, rlR b m → rTk ch n m (pEnd (yNm 0 9999 (yNm 0 99 (yFr (D.1.map (fun t => t.1)) y)).2).2) → (yOk (pEnd (yNm 0 9999 (yNm 0 99 (yFr (D.1.map (fun t => t.1)) y)).2).2) → rDp m (D.1 ++ [(yVl y, (yNm 0 99 (yFr (D.1.map (fun t => t.1)) y)).1, (yNm 0 9999 (yNm 0 99 (yFr (D.1.map (fun t => t.1)) y)).2).1)], D.2) ∧ rTd m p q r s ∧ w32 (m 95 25) = w32 (b 95 25) + 1) → Q none m) : zG E (d + 1) xm_206 132 [some (1, 95), some (0, w), none, none] [] b Q := by
  have N := hD.1.1
  have hlm : (D.1.map (fun t => t.1)).length = D.1.length := List.length_map _
  have N1 : w32 (b 97 7) = (D.1.length : Int) := by rw [← hlm]; exact N.1
  have et : w32 (3 + b 97 7) = ((3 + D.1.length : Nat) : Int) := by rw [w32_ad (by rw [w32c_3]; (first | exact Nat.le_of_ble_eq_true rfl | exact (fun h => absurd h.1 (by decide)) | omega)) (by rw [w32c_3]; (first | exact Nat.le_of_ble_eq_true rfl | exact (fun h => absurd h.1 (by decide)) | omega)), w32c_3]; (first | exact Nat.le_of_ble_eq_true rfl | exact (fun h => absurd h.1 (by decide)) | omega)
  have ett : (w32 (3 + b 97 7)).toNat = 3 + D.1.length := by rw [et]; exact Int.toNat_natCast _
  refine zgo_ok (n := 60) hE xmo_206 (cs := zc_206) ?_
  simp only [ynok_30, ynok_31, w32c_0, w32c_1, w32c_2, w32c_3, w32c_4, w32c_5, w32c_6, w32c_7, w32c_8, w32c_9, w32c_10, w32c_11, w32c_12, w32c_13, w32c_14, w32c_m1, w32c_m2, w32c_118, Int.reduceAdd, Int.reduceSub, Int.reduceMul, yput_s, yput_n, znl_n, znl_0, znl_1, znl_4, ysum_n, ysum_0, ysum_1, ysum_4, true_and, and_true, Nat.reduceAdd, Nat.reduceLeDiff, true_implies, eq_self, true_or, or_true, or_false, false_or, not_true_eq_false, not_false_eq_true, false_implies, implies_true, yset_s, yset_o, yset_d, ne_eq, Nat.reduceEqDiff, Int.reduceToNat, Int.reduceEq, Int.reduceLE, Int.reduceLT, Classical.not_not, Nat.reduceLT, ↓zvk_s, ↓zvk_n, ↓s_206_0, ↓s_206_1, ↓s_206_4, ↓s_206_7, ↓s_206_8, ↓s_206_11, ↓s_206_13, ↓s_206_16, ↓s_206_17, ↓s_206_18, ↓s_206_21, ↓s_206_22, ↓s_206_23, ↓s_206_26n, ↓s_206_26i, ↓s_206_26p, ↓s_206_27, ↓s_206_28, ↓s_206_29, ↓s_206_32, ↓s_206_35, ↓s_206_36, ↓s_206_37, ↓s_206_40, ↓s_206_43, ↓s_206_44, ↓s_206_45, ↓s_206_48, ↓s_206_49, ↓s_206_50, ↓s_206_53, ↓s_206_54, ↓s_206_57, ↓s_206_58, ↓s_206_59, ↓s_206_60, ↓s_206_61, ↓s_206_62, ↓s_206_65, ↓s_206_66, ↓s_206_67, ↓g_206_70, ↓k_206_70, ↓s_206_71, ↓s_206_74, ↓s_206_77, ↓s_206_78, ↓s_206_79a, ↓s_206_79b, ↓s_206_80, ↓s_206_83, ↓s_206_84, ↓s_206_85, ↓s_206_86, ↓s_206_87, ↓s_206_90, ↓s_206_91, ↓s_206_94, ↓s_206_95, ↓g_206_132, ↓k_206_132, ↓s_206_133, ↓s_206_134, ↓s_206_135, ↓s_206_138, ↓s_206_139n, ↓s_206_139i, ↓s_206_139p, ↓s_206_140, ↓s_206_141, ↓s_206_144, ↓s_206_145, ↓s_206_146, ↓s_206_147, ↓s_206_150, ↓s_206_151, ↓s_206_152, ↓s_206_153, ↓s_206_156, ↓s_206_159, ↓s_206_160, ↓s_206_161, ↓s_206_164, ↓s_206_165, ↓s_206_166, ↓s_206_167, ↓s_206_169, ↓s_206_172, ↓s_206_173, ↓s_206_174, ↓s_206_177, ↓s_206_178, ↓s_206_179, ↓s_206_180, ↓s_206_183, ↓s_206_186, ↓s_206_187, ↓s_206_188, ↓s_206_189, ↓s_206_190, ↓s_206_191, ↓s_206_194, ↓s_206_195, ↓s_206_196, ↓s_206_199, ↓g_206_202, ↓k_206_202, ↓s_206_203, ↓s_206_205, ↓s_206_206, ↓s_206_207, ↓s_206_210, ↓s_206_211, ↓s_206_214, ↓g_206_217, ↓k_206_217, ↓s_206_218, ↓s_206_219, ↓s_206_220, ↓s_206_221, ↓s_206_224, ↓s_206_225, ↓s_206_228, ↓g_206_231, ↓k_206_231, ↓s_206_232, ↓s_206_233, ↓s_206_236n, ↓s_206_236i, ↓s_206_236p, ↓s_206_237, ↓s_206_238, ↓s_206_241, ↓s_206_242, ↓s_206_243, ↓s_206_244, ↓s_206_245, ↓s_206_246, ↓s_206_249, ↓s_206_250, ↓s_206_251, ↓s_206_254, ↓s_206_255, ↓s_206_256, ↓s_206_259, ↓s_206_260, ↓s_206_261, ↓s_206_262, ↓s_206_263, ↓s_206_264, ↓s_206_267, ↓s_206_270, ↓s_206_271, ↓s_206_272, ↓s_206_274, ↓s_206_275, ↓s_206_276, ↓s_206_279, ↓s_206_280, ↓s_206_281, ↓s_206_282, ↓s_206_283, ↓s_206_284, ↓s_206_287, ↓g_206_290, ↓k_206_290, ↓s_206_291, ↓s_206_292, ↓s_206_293, ↓s_206_294, ↓s_206_297, ↓s_206_300, ↓s_206_303, ↓g_206_306, ↓k_206_306, ↓s_206_307, ↓s_206_308, ↓s_206_309, ↓s_206_310, ↓s_206_312, ↓s_206_315, ↓s_206_318, ↓g_206_321, ↓k_206_321, ↓s_206_322, ↓g_206_325, ↓k_206_325, ↓s_206_326, ↓s_206_329, ↓s_206_332, ↓s_206_333, ↓s_206_334, ↓s_206_336, ↓s_206_339, ↓s_206_342, ↓s_206_343, ↓s_206_344, ↓s_206_347, ↓s_206_350, ↓s_206_351, ↓s_206_354, ↓s_206_355a, ↓s_206_355b, ↓s_206_356, ↓s_206_359, ↓s_206_360, ↓s_206_361, ↓s_206_364, w32c_99, w32c_9999, w32c_999, w32c_99999, w32c_59, ↓s_170_0, ↓s_170_1, ↓s_170_4, ↓s_170_6, ↓s_170_7, ↓s_170_8, ↓s_170_9, zar_112, zia_112, zln_112, zit_112, zar_113, zia_113, zln_113, zit_113, zar_98, zia_98, zln_98, zit_98, zar_99, zia_99, zln_99, zit_99, zar_100, zia_100, zln_100, zit_100, zar_97, zia_97, zln_97, zit_97, zio_95]
  refine ⟨by (first | exact Nat.le_of_ble_eq_true rfl | exact (fun h => absurd h.1 (by decide)) | omega), by (first | exact Nat.le_of_ble_eq_true rfl | exact (fun h => absurd h.1 (by decide)) | omega), ?_⟩
  refine rf_fresh hE (by (first | exact Nat.le_of_ble_eq_true rfl | exact (fun h => absurd h.1 (by decide)) | omega)) (z := 98) (L := 6) (q := 0) (off := 3) zar_98 w32c_3 N.1 (by decide) (by decide) N h (fun r1 m1 F1 T1 e1 => ?_)
  refine zgk_s hE xmo_206 60 zc_206 ?_
  simp only [ynok_30, ynok_31, w32c_0, w32c_1, w32c_2, w32c_3, w32c_4, w32c_5, w32c_6, w32c_7, w32c_8, w32c_9, w32c_10, w32c_11, w32c_12, w32c_13, w32c_14, w32c_m1, w32c_m2, w32c_118, Int.reduceAdd, Int.reduceSub, Int.reduceMul, yput_s, yput_n, znl_n, znl_0, znl_1, znl_4, ysum_n, ysum_0, ysum_1, ysum_4, true_and, and_true, Nat.reduceAdd, Nat.reduceLeDiff, true_implies, eq_self, true_or, or_true, or_false, false_or, not_true_eq_false, not_false_eq_true, false_implies, implies_true, yset_s, yset_o, yset_d, ne_eq, Nat.reduceEqDiff, Int.reduceToNat, Int.reduceEq, Int.reduceLE, Int.reduceLT, Classical.not_not, Nat.reduceLT, ↓zvk_s, ↓zvk_n, ↓s_206_0, ↓s_206_1, ↓s_206_4, ↓s_206_7, ↓s_206_8, ↓s_206_11, ↓s_206_13, ↓s_206_16, ↓s_206_17, ↓s_206_18, ↓s_206_21, ↓s_206_22, ↓s_206_23, ↓s_206_26n, ↓s_206_26i, ↓s_206_26p, ↓s_206_27, ↓s_206_28, ↓s_206_29, ↓s_206_32, ↓s_206_35, ↓s_206_36, ↓s_206_37, ↓s_206_40, ↓s_206_43, ↓s_206_44, ↓s_206_45, ↓s_206_48, ↓s_206_49, ↓s_206_50, ↓s_206_53, ↓s_206_54, ↓s_206_57, ↓s_206_58, ↓s_206_59, ↓s_206_60, ↓s_206_61, ↓s_206_62, ↓s_206_65, ↓s_206_66, ↓s_206_67, ↓g_206_70, ↓k_206_70, ↓s_206_71, ↓s_206_74, ↓s_206_77, ↓s_206_78, ↓s_206_79a, ↓s_206_79b, ↓s_206_80, ↓s_206_83, ↓s_206_84, ↓s_206_85, ↓s_206_86, ↓s_206_87, ↓s_206_90, ↓s_206_91, ↓s_206_94, ↓s_206_95, ↓g_206_132, ↓k_206_132, ↓s_206_133, ↓s_206_134, ↓s_206_135, ↓s_206_138, ↓s_206_139n, ↓s_206_139i, ↓s_206_139p, ↓s_206_140, ↓s_206_141, ↓s_206_144, ↓s_206_145, ↓s_206_146, ↓s_206_147, ↓s_206_150, ↓s_206_151, ↓s_206_152, ↓s_206_153, ↓s_206_156, ↓s_206_159, ↓s_206_160, ↓s_206_161, ↓s_206_164, ↓s_206_165, ↓s_206_166, ↓s_206_167, ↓s_206_169, ↓s_206_172, ↓s_206_173, ↓s_206_174, ↓s_206_177, ↓s_206_178, ↓s_206_179, ↓s_206_180, ↓s_206_183, ↓s_206_186, ↓s_206_187, ↓s_206_188, ↓s_206_189, ↓s_206_190, ↓s_206_191, ↓s_206_194, ↓s_206_195, ↓s_206_196, ↓s_206_199, ↓g_206_202, ↓k_206_202, ↓s_206_203, ↓s_206_205, ↓s_206_206, ↓s_206_207, ↓s_206_210, ↓s_206_211, ↓s_206_214, ↓g_206_217, ↓k_206_217, ↓s_206_218, ↓s_206_219, ↓s_206_220, ↓s_206_221, ↓s_206_224, ↓s_206_225, ↓s_206_228, ↓g_206_231, ↓k_206_231, ↓s_206_232, ↓s_206_233, ↓s_206_236n, ↓s_206_236i, ↓s_206_236p, ↓s_206_237, ↓s_206_238, ↓s_206_241, ↓s_206_242, ↓s_206_243, ↓s_206_244, ↓s_206_245, ↓s_206_246, ↓s_206_249, ↓s_206_250, ↓s_206_251, ↓s_206_254, ↓s_206_255, ↓s_206_256, ↓s_206_259, ↓s_206_260, ↓s_206_261, ↓s_206_262, ↓s_206_263, ↓s_206_264, ↓s_206_267, ↓s_206_270, ↓s_206_271, ↓s_206_272, ↓s_206_274, ↓s_206_275, ↓s_206_276, ↓s_206_279, ↓s_206_280, ↓s_206_281, ↓s_206_282, ↓s_206_283, ↓s_206_284, ↓s_206_287, ↓g_206_290, ↓k_206_290, ↓s_206_291, ↓s_206_292, ↓s_206_293, ↓s_206_294, ↓s_206_297, ↓s_206_300, ↓s_206_303, ↓g_206_306, ↓k_206_306, ↓s_206_307, ↓s_206_308, ↓s_206_309, ↓s_206_310, ↓s_206_312, ↓s_206_315, ↓s_206_318, ↓g_206_321, ↓k_206_321, ↓s_206_322, ↓g_206_325, ↓k_206_325, ↓s_206_326, ↓s_206_329, ↓s_206_332, ↓s_206_333, ↓s_206_334, ↓s_206_336, ↓s_206_339, ↓s_206_342, ↓s_206_343, ↓s_206_344, ↓s_206_347, ↓s_206_350, ↓s_206_351, ↓s_206_354, ↓s_206_355a, ↓s_206_355b, ↓s_206_356, ↓s_206_359, ↓s_206_360, ↓s_206_361, ↓s_206_364, w32c_99, w32c_9999, w32c_999, w32c_99999, w32c_59, ↓s_170_0, ↓s_170_1, ↓s_170_4, ↓s_170_6, ↓s_170_7, ↓s_170_8, ↓s_170_9, zar_112, zia_112, zln_112, zit_112, zar_113, zia_113, zln_113, zit_113, zar_98, zia_98, zln_98, zit_98, zar_99, zia_99, zln_99, zit_99, zar_100, zia_100, zln_100, zit_100, zar_97, zia_97, zln_97, zit_97, zio_95]
  refine ⟨⟨by (first | exact Nat.le_of_ble_eq_true rfl | exact (fun h => absurd h.1 (by decide)) | omega), by (first | exact Nat.le_of_ble_eq_true rfl | exact (fun h => absurd h.1 (by decide)) | omega)⟩, ?_⟩
  rw [ett]
  refine rf_numeral hE (by (first | exact Nat.le_of_ble_eq_true rfl | exact (fun h => absurd h.1 (by decide)) | omega)) (rTk_s T1 (by decide)) (by decide) (by decide) (fun r2 m2 F2 e2 T2 => ?_)
  rw [w32c_0, w32c_99] at e2 T2
  refine zgk_s hE xmo_206 60 zc_206 ?_
  simp only [ynok_30, ynok_31, w32c_0, w32c_1, w32c_2, w32c_3, w32c_4, w32c_5, w32c_6, w32c_7, w32c_8, w32c_9, w32c_10, w32c_11, w32c_12, w32c_13, w32c_14, w32c_m1, w32c_m2, w32c_118, Int.reduceAdd, Int.reduceSub, Int.reduceMul, yput_s, yput_n, znl_n, znl_0, znl_1, znl_4, ysum_n, ysum_0, ysum_1, ysum_4, true_and, and_true, Nat.reduceAdd, Nat.reduceLeDiff, true_implies, eq_self, true_or, or_true, or_false, false_or, not_true_eq_false, not_false_eq_true, false_implies, implies_true, yset_s, yset_o, yset_d, ne_eq, Nat.reduceEqDiff, Int.reduceToNat, Int.reduceEq, Int.reduceLE, Int.reduceLT, Classical.not_not, Nat.reduceLT, ↓zvk_s, ↓zvk_n, ↓s_206_0, ↓s_206_1, ↓s_206_4, ↓s_206_7, ↓s_206_8, ↓s_206_11, ↓s_206_13, ↓s_206_16, ↓s_206_17, ↓s_206_18, ↓s_206_21, ↓s_206_22, ↓s_206_23, ↓s_206_26n, ↓s_206_26i, ↓s_206_26p, ↓s_206_27, ↓s_206_28, ↓s_206_29, ↓s_206_32, ↓s_206_35, ↓s_206_36, ↓s_206_37, ↓s_206_40, ↓s_206_43, ↓s_206_44, ↓s_206_45, ↓s_206_48, ↓s_206_49, ↓s_206_50, ↓s_206_53, ↓s_206_54, ↓s_206_57, ↓s_206_58, ↓s_206_59, ↓s_206_60, ↓s_206_61, ↓s_206_62, ↓s_206_65, ↓s_206_66, ↓s_206_67, ↓g_206_70, ↓k_206_70, ↓s_206_71, ↓s_206_74, ↓s_206_77, ↓s_206_78, ↓s_206_79a, ↓s_206_79b, ↓s_206_80, ↓s_206_83, ↓s_206_84, ↓s_206_85, ↓s_206_86, ↓s_206_87, ↓s_206_90, ↓s_206_91, ↓s_206_94, ↓s_206_95, ↓g_206_132, ↓k_206_132, ↓s_206_133, ↓s_206_134, ↓s_206_135, ↓s_206_138, ↓s_206_139n, ↓s_206_139i, ↓s_206_139p, ↓s_206_140, ↓s_206_141, ↓s_206_144, ↓s_206_145, ↓s_206_146, ↓s_206_147, ↓s_206_150, ↓s_206_151, ↓s_206_152, ↓s_206_153, ↓s_206_156, ↓s_206_159, ↓s_206_160, ↓s_206_161, ↓s_206_164, ↓s_206_165, ↓s_206_166, ↓s_206_167, ↓s_206_169, ↓s_206_172, ↓s_206_173, ↓s_206_174, ↓s_206_177, ↓s_206_178, ↓s_206_179, ↓s_206_180, ↓s_206_183, ↓s_206_186, ↓s_206_187, ↓s_206_188, ↓s_206_189, ↓s_206_190, ↓s_206_191, ↓s_206_194, ↓s_206_195, ↓s_206_196, ↓s_206_199, ↓g_206_202, ↓k_206_202, ↓s_206_203, ↓s_206_205, ↓s_206_206, ↓s_206_207, ↓s_206_210, ↓s_206_211, ↓s_206_214, ↓g_206_217, ↓k_206_217, ↓s_206_218, ↓s_206_219, ↓s_206_220, ↓s_206_221, ↓s_206_224, ↓s_206_225, ↓s_206_228, ↓g_206_231, ↓k_206_231, ↓s_206_232, ↓s_206_233, ↓s_206_236n, ↓s_206_236i, ↓s_206_236p, ↓s_206_237, ↓s_206_238, ↓s_206_241, ↓s_206_242, ↓s_206_243, ↓s_206_244, ↓s_206_245, ↓s_206_246, ↓s_206_249, ↓s_206_250, ↓s_206_251, ↓s_206_254, ↓s_206_255, ↓s_206_256, ↓s_206_259, ↓s_206_260, ↓s_206_261, ↓s_206_262, ↓s_206_263, ↓s_206_264, ↓s_206_267, ↓s_206_270, ↓s_206_271, ↓s_206_272, ↓s_206_274, ↓s_206_275, ↓s_206_276, ↓s_206_279, ↓s_206_280, ↓s_206_281, ↓s_206_282, ↓s_206_283, ↓s_206_284, ↓s_206_287, ↓g_206_290, ↓k_206_290, ↓s_206_291, ↓s_206_292, ↓s_206_293, ↓s_206_294, ↓s_206_297, ↓s_206_300, ↓s_206_303, ↓g_206_306, ↓k_206_306, ↓s_206_307, ↓s_206_308, ↓s_206_309, ↓s_206_310, ↓s_206_312, ↓s_206_315, ↓s_206_318, ↓g_206_321, ↓k_206_321, ↓s_206_322, ↓g_206_325, ↓k_206_325, ↓s_206_326, ↓s_206_329, ↓s_206_332, ↓s_206_333, ↓s_206_334, ↓s_206_336, ↓s_206_339, ↓s_206_342, ↓s_206_343, ↓s_206_344, ↓s_206_347, ↓s_206_350, ↓s_206_351, ↓s_206_354, ↓s_206_355a, ↓s_206_355b, ↓s_206_356, ↓s_206_359, ↓s_206_360, ↓s_206_361, ↓s_206_364, w32c_99, w32c_9999, w32c_999, w32c_99999, w32c_59, ↓s_170_0, ↓s_170_1, ↓s_170_4, ↓s_170_6, ↓s_170_7, ↓s_170_8, ↓s_170_9, zar_112, zia_112, zln_112, zit_112, zar_113, zia_113, zln_113, zit_113, zar_98, zia_98, zln_98, zit_98, zar_99, zia_99, zln_99, zit_99, zar_100, zia_100, zln_100, zit_100, zar_97, zia_97, zln_97, zit_97, zio_95]
  refine ⟨⟨by (first | exact Nat.le_of_ble_eq_true rfl | exact (fun h => absurd h.1 (by decide)) | omega), by (first | exact Nat.le_of_ble_eq_true rfl | exact (fun h => absurd h.1 (by decide)) | omega)⟩, ?_⟩
  rw [ett]
  refine rf_numeral hE (by (first | exact Nat.le_of_ble_eq_true rfl | exact (fun h => absurd h.1 (by decide)) | omega)) (rTk_s T2 (by decide)) (by decide) (by decide) (fun r3 m3 F3 e3 T3 => ?_)
  rw [w32c_0, w32c_9999] at e3 T3
  refine zgk_s hE xmo_206 60 zc_206 ?_
  simp only [ynok_30, ynok_31, w32c_0, w32c_1, w32c_2, w32c_3, w32c_4, w32c_5, w32c_6, w32c_7, w32c_8, w32c_9, w32c_10, w32c_11, w32c_12, w32c_13, w32c_14, w32c_m1, w32c_m2, w32c_118, Int.reduceAdd, Int.reduceSub, Int.reduceMul, yput_s, yput_n, znl_n, znl_0, znl_1, znl_4, ysum_n, ysum_0, ysum_1, ysum_4, true_and, and_true, Nat.reduceAdd, Nat.reduceLeDiff, true_implies, eq_self, true_or, or_true, or_false, false_or, not_true_eq_false, not_false_eq_true, false_implies, implies_true, yset_s, yset_o, yset_d, ne_eq, Nat.reduceEqDiff, Int.reduceToNat, Int.reduceEq, Int.reduceLE, Int.reduceLT, Classical.not_not, Nat.reduceLT, ↓zvk_s, ↓zvk_n, ↓s_206_0, ↓s_206_1, ↓s_206_4, ↓s_206_7, ↓s_206_8, ↓s_206_11, ↓s_206_13, ↓s_206_16, ↓s_206_17, ↓s_206_18, ↓s_206_21, ↓s_206_22, ↓s_206_23, ↓s_206_26n, ↓s_206_26i, ↓s_206_26p, ↓s_206_27, ↓s_206_28, ↓s_206_29, ↓s_206_32, ↓s_206_35, ↓s_206_36, ↓s_206_37, ↓s_206_40, ↓s_206_43, ↓s_206_44, ↓s_206_45, ↓s_206_48, ↓s_206_49, ↓s_206_50, ↓s_206_53, ↓s_206_54, ↓s_206_57, ↓s_206_58, ↓s_206_59, ↓s_206_60, ↓s_206_61, ↓s_206_62, ↓s_206_65, ↓s_206_66, ↓s_206_67, ↓g_206_70, ↓k_206_70, ↓s_206_71, ↓s_206_74, ↓s_206_77, ↓s_206_78, ↓s_206_79a, ↓s_206_79b, ↓s_206_80, ↓s_206_83, ↓s_206_84, ↓s_206_85, ↓s_206_86, ↓s_206_87, ↓s_206_90, ↓s_206_91, ↓s_206_94, ↓s_206_95, ↓g_206_132, ↓k_206_132, ↓s_206_133, ↓s_206_134, ↓s_206_135, ↓s_206_138, ↓s_206_139n, ↓s_206_139i, ↓s_206_139p, ↓s_206_140, ↓s_206_141, ↓s_206_144, ↓s_206_145, ↓s_206_146, ↓s_206_147, ↓s_206_150, ↓s_206_151, ↓s_206_152, ↓s_206_153, ↓s_206_156, ↓s_206_159, ↓s_206_160, ↓s_206_161, ↓s_206_164, ↓s_206_165, ↓s_206_166, ↓s_206_167, ↓s_206_169, ↓s_206_172, ↓s_206_173, ↓s_206_174, ↓s_206_177, ↓s_206_178, ↓s_206_179, ↓s_206_180, ↓s_206_183, ↓s_206_186, ↓s_206_187, ↓s_206_188, ↓s_206_189, ↓s_206_190, ↓s_206_191, ↓s_206_194, ↓s_206_195, ↓s_206_196, ↓s_206_199, ↓g_206_202, ↓k_206_202, ↓s_206_203, ↓s_206_205, ↓s_206_206, ↓s_206_207, ↓s_206_210, ↓s_206_211, ↓s_206_214, ↓g_206_217, ↓k_206_217, ↓s_206_218, ↓s_206_219, ↓s_206_220, ↓s_206_221, ↓s_206_224, ↓s_206_225, ↓s_206_228, ↓g_206_231, ↓k_206_231, ↓s_206_232, ↓s_206_233, ↓s_206_236n, ↓s_206_236i, ↓s_206_236p, ↓s_206_237, ↓s_206_238, ↓s_206_241, ↓s_206_242, ↓s_206_243, ↓s_206_244, ↓s_206_245, ↓s_206_246, ↓s_206_249, ↓s_206_250, ↓s_206_251, ↓s_206_254, ↓s_206_255, ↓s_206_256, ↓s_206_259, ↓s_206_260, ↓s_206_261, ↓s_206_262, ↓s_206_263, ↓s_206_264, ↓s_206_267, ↓s_206_270, ↓s_206_271, ↓s_206_272, ↓s_206_274, ↓s_206_275, ↓s_206_276, ↓s_206_279, ↓s_206_280, ↓s_206_281, ↓s_206_282, ↓s_206_283, ↓s_206_284, ↓s_206_287, ↓g_206_290, ↓k_206_290, ↓s_206_291, ↓s_206_292, ↓s_206_293, ↓s_206_294, ↓s_206_297, ↓s_206_300, ↓s_206_303, ↓g_206_306, ↓k_206_306, ↓s_206_307, ↓s_206_308, ↓s_206_309, ↓s_206_310, ↓s_206_312, ↓s_206_315, ↓s_206_318, ↓g_206_321, ↓k_206_321, ↓s_206_322, ↓g_206_325, ↓k_206_325, ↓s_206_326, ↓s_206_329, ↓s_206_332, ↓s_206_333, ↓s_206_334, ↓s_206_336, ↓s_206_339, ↓s_206_342, ↓s_206_343, ↓s_206_344, ↓s_206_347, ↓s_206_350, ↓s_206_351, ↓s_206_354, ↓s_206_355a, ↓s_206_355b, ↓s_206_356, ↓s_206_359, ↓s_206_360, ↓s_206_361, ↓s_206_364, w32c_99, w32c_9999, w32c_999, w32c_99999, w32c_59, ↓s_170_0, ↓s_170_1, ↓s_170_4, ↓s_170_6, ↓s_170_7, ↓s_170_8, ↓s_170_9, ↓s_221_0, ↓s_221_1, ↓s_221_4, ↓s_221_6, ↓s_221_7, ↓s_221_8, ↓s_221_9, ↓s_221_10, zar_112, zia_112, zln_112, zit_112, zar_113, zia_113, zln_113, zit_113, zar_98, zia_98, zln_98, zit_98, zar_99, zia_99, zln_99, zit_99, zar_100, zia_100, zln_100, zit_100, zar_97, zia_97, zln_97, zit_97, zio_95]
  have g1 : ∀ i j, ¬ (i = 98 ∧ j = 3 + D.1.length) → ¬ (i = 99 ∧ j = 3 + D.1.length) → ¬ (i = 95 ∧ 27 ≤ j ∧ j ≤ 32) → m3 i j = b i j := fun i j q1 q2 q3 => by
    rw [F3 i j (amod_r q3), yset_n2 q2, F2 i j (amod_r q3), yset_n2 q1, F1 i j (amod_r q3)]
  have e7 : w32 (m3 97 7 + 1) = ((D.1.length + 1 : Nat) : Int) := by
    rw [g1 97 7 (by (first | exact Nat.le_of_ble_eq_true rfl | exact (fun h => absurd h.1 (by decide)) | omega)) (by (first | exact Nat.le_of_ble_eq_true rfl | exact (fun h => absurd h.1 (by decide)) | omega)) (by (first | exact Nat.le_of_ble_eq_true rfl | exact (fun h => absurd h.1 (by decide)) | omega)), w32_ad (by rw [w32c_1]; (first | exact Nat.le_of_ble_eq_true rfl | exact (fun h => absurd h.1 (by decide)) | omega)) (by rw [w32c_1]; (first | exact Nat.le_of_ble_eq_true rfl | exact (fun h => absurd h.1 (by decide)) | omega)), w32c_1]
    (first | exact Nat.le_of_ble_eq_true rfl | exact (fun h => absurd h.1 (by decide)) | omega)
  rw [ett]
  have g2 : ∀ i j, ¬ (98 ≤ i ∧ i ≤ 100 ∧ j = 3 + D.1.length) → ¬ (i = 97 ∧ j = 7) → ¬ (i = 95 ∧ 27 ≤ j ∧ j ≤ 32) → yset (yset m3 100 (3 + D.1.length) r3) 97 7 (m3 97 7 + 1) i j = b i j := fun i j q1 q2 q3 => by
    rw [yset_n2 q2, yset_n2 (fun z => q1 (by (first | exact Nat.le_of_ble_eq_true rfl | exact (fun h => absurd h.1 (by decide)) | omega)))]
    exact g1 i j (fun z => q1 (by (first | exact Nat.le_of_ble_eq_true rfl | exact (fun h => absurd h.1 (by decide)) | omega))) (fun z => q1 (by (first | exact Nat.le_of_ble_eq_true rfl | exact (fun h => absurd h.1 (by decide)) | omega))) q3
  have v98 : yset (yset m3 100 (3 + D.1.length) r3) 97 7 (m3 97 7 + 1) 98 (3 + D.1.length) = r1 := by
    rw [yset_o (by decide), yset_o (by decide), F3 98 _ (amod_r5 (by decide)), yset_o (by decide), F2 98 _ (amod_r5 (by decide)), yset_s]
  have v99 : yset (yset m3 100 (3 + D.1.length) r3) 97 7 (m3 97 7 + 1) 99 (3 + D.1.length) = r2 := by
    rw [yset_o (by decide), yset_o (by decide), F3 99 _ (amod_r5 (by decide)), yset_s]
  have v100 : yset (yset m3 100 (3 + D.1.length) r3) 97 7 (m3 97 7 + 1) 100 (3 + D.1.length) = r3 := by rw [yset_o (by decide), yset_s]
  have v7 : yset (yset m3 100 (3 + D.1.length) r3) 97 7 (m3 97 7 + 1) 97 7 = m3 97 7 + 1 := yset_s
  have T4 : rTk ch n (yset (yset m3 100 (3 + D.1.length) r3) 97 7 (m3 97 7 + 1)) (yNm 0 9999 (yNm 0 99 (yFr (D.1.map (fun t => t.1)) y)).2).2 := rTk_s (rTk_s T3 (by decide)) (by decide)
  refine ⟨⟨by (first | exact Nat.le_of_ble_eq_true rfl | exact (fun h => absurd h.1 (by decide)) | omega), by (first | exact Nat.le_of_ble_eq_true rfl | exact (fun h => absurd h.1 (by decide)) | omega)⟩, by (first | exact Nat.le_of_ble_eq_true rfl | exact (fun h => absurd h.1 (by decide)) | omega), by (first | exact Nat.le_of_ble_eq_true rfl | exact (fun h => absurd h.1 (by decide)) | omega), ?_⟩
  revert g2 v98 v99 v100 v7 T4
  generalize yset (yset m3 100 (3 + D.1.length) r3) 97 7 (m3 97 7 + 1) = m4
  intro g2 v98 v99 v100 v7 T4
  have l25 : m4 95 25 = b 95 25 := g2 95 25 (by (first | exact Nat.le_of_ble_eq_true rfl | exact (fun h => absurd h.1 (by decide)) | omega)) (by (first | exact Nat.le_of_ble_eq_true rfl | exact (fun h => absurd h.1 (by decide)) | omega)) (by (first | exact Nat.le_of_ble_eq_true rfl | exact (fun h => absurd h.1 (by decide)) | omega))
  refine rl325 hE (by (first | exact Nat.le_of_ble_eq_true rfl | exact (fun h => absurd h.1 (by decide)) | omega)) T4 (by rw [l25]; exact hk) (fun m' G1 G24 G2 G3 => hQ m' ?_ G2 (fun z => ?_))
  · exact rlR_tr (fun i j hij => g2 i j (fun z => hij (rlF_c ⟨z.1, z.2.1, by (first | exact Nat.le_of_ble_eq_true rfl | exact (fun h => absurd h.1 (by decide)) | omega)⟩)) (fun z => hij (rlF_b ⟨z.1, by (first | exact Nat.le_of_ble_eq_true rfl | exact (fun h => absurd h.1 (by decide)) | omega)⟩)) (fun z => hij (rlF_a ⟨z.1, Or.inr (Or.inl z.2)⟩))) (rlR_rt G1)
  · obtain ⟨zk, zo⟩ := pEnd_ok z
    refine ⟨rDp_fr ?_ G1, rTd_fr (rTd_fr hT (g2 95 24 (by (first | exact Nat.le_of_ble_eq_true rfl | exact (fun h => absurd h.1 (by decide)) | omega)) (by (first | exact Nat.le_of_ble_eq_true rfl | exact (fun h => absurd h.1 (by decide)) | omega)) (by (first | exact Nat.le_of_ble_eq_true rfl | exact (fun h => absurd h.1 (by decide)) | omega)))) G24, by rw [G3 z, l25]⟩
    obtain ⟨c1, c2, c3, c4, c5, c6⟩ := hD
    have k : ∀ i j, 101 ≤ i → m4 i j = b i j := fun i j q => g2 i j (by (first | exact Nat.le_of_ble_eq_true rfl | exact (fun h => absurd h.1 (by decide)) | omega)) (by (first | exact Nat.le_of_ble_eq_true rfl | exact (fun h => absurd h.1 (by decide)) | omega)) (by (first | exact Nat.le_of_ble_eq_true rfl | exact (fun h => absurd h.1 (by decide)) | omega))
    have k7 : ∀ j, j ≠ 7 → m4 97 j = b 97 j := fun j q => g2 97 j (by (first | exact Nat.le_of_ble_eq_true rfl | exact (fun h => absurd h.1 (by decide)) | omega)) (by (first | exact Nat.le_of_ble_eq_true rfl | exact (fun h => absurd h.1 (by decide)) | omega)) (by (first | exact Nat.le_of_ble_eq_true rfl | exact (fun h => absurd h.1 (by decide)) | omega))
    have zf := yOk_nm (yOk_nm zo)
    obtain ⟨lf, hlf⟩ := zf
    refine ⟨⟨?_, fun j t ht => ?_⟩, rVo_fr c2 (k7 8 (by decide)) (fun i j h1 h2 => k i j h1), rVe_fr c3 (k7 9 (by decide)) (fun i j h1 h2 => k i j (by (first | exact Nat.le_of_ble_eq_true rfl | exact (fun h => absurd h.1 (by decide)) | omega))), rBk_fr c4 (k7 10 (by decide)) (fun i j h1 h2 => k i j (by (first | exact Nat.le_of_ble_eq_true rfl | exact (fun h => absurd h.1 (by decide)) | omega))), ⟨by rw [k7 11 (by decide)]; exact c5.1, by rw [k7 12 (by decide)]; exact c5.2⟩, rFs_fr c6 (fun i j h1 h2 => k i j (by (first | exact Nat.le_of_ble_eq_true rfl | exact (fun h => absurd h.1 (by decide)) | omega))) (k7 13 (by decide)) (g2 95 35 (by (first | exact Nat.le_of_ble_eq_true rfl | exact (fun h => absurd h.1 (by decide)) | omega)) (by (first | exact Nat.le_of_ble_eq_true rfl | exact (fun h => absurd h.1 (by decide)) | omega)) (by (first | exact Nat.le_of_ble_eq_true rfl | exact (fun h => absurd h.1 (by decide)) | omega))) (g2 95 36 (by (first | exact Nat.le_of_ble_eq_true rfl | exact (fun h => absurd h.1 (by decide)) | omega)) (by (first | exact Nat.le_of_ble_eq_true rfl | exact (fun h => absurd h.1 (by decide)) | omega)) (by (first | exact Nat.le_of_ble_eq_true rfl | exact (fun h => absurd h.1 (by decide)) | omega)))⟩
    · show rNm m4 98 0 3 ((D.1 ++ [_]).map (fun t : Int × Int × Int => t.1))
      rw [List.map_append]
      refine rNm_up N (by rw [hlm]; show w32 (m4 97 7) = _; rw [v7]; exact e7) (by rw [hlm]; exact hn) (fun j hj => g2 98 _ (by rw [hlm] at hj; (first | exact Nat.le_of_ble_eq_true rfl | exact (fun h => absurd h.1 (by decide)) | omega)) (by (first | exact Nat.le_of_ble_eq_true rfl | exact (fun h => absurd h.1 (by decide)) | omega)) (by (first | exact Nat.le_of_ble_eq_true rfl | exact (fun h => absurd h.1 (by decide)) | omega))) ?_
      rw [hlm, v98]
      exact e1 lf hlf
    · rcases app_get ht with ht | ⟨rfl, rfl⟩
      · have hj := get_lt ht
        rw [g2 99 _ (by (first | exact Nat.le_of_ble_eq_true rfl | exact (fun h => absurd h.1 (by decide)) | omega)) (by (first | exact Nat.le_of_ble_eq_true rfl | exact (fun h => absurd h.1 (by decide)) | omega)) (by (first | exact Nat.le_of_ble_eq_true rfl | exact (fun h => absurd h.1 (by decide)) | omega)), g2 100 _ (by (first | exact Nat.le_of_ble_eq_true rfl | exact (fun h => absurd h.1 (by decide)) | omega)) (by (first | exact Nat.le_of_ble_eq_true rfl | exact (fun h => absurd h.1 (by decide)) | omega)) (by (first | exact Nat.le_of_ble_eq_true rfl | exact (fun h => absurd h.1 (by decide)) | omega))]
        exact c1.2 j t ht
      · rw [v99, v100]
        exact ⟨e2, e3⟩
/-- voice -/
theorem rl202 (hE : yEok E) (hd : 10 ≤ d) (h : rTk ch n b y) (hD : rDp b D) (hT : rTd b p q r s) (hn : D.2.1.length < 6) (hk : 0 ≤ w32 (b 95 25) ∧ w32 (b 95 25) ≤ 1000) (hQ : ∀ m, rlR b m → rTk ch n m (pEnd (pVn (D.1.map (fun t => t.1)) (yVl y) (yFr (D.2.1.map (fun t => t.1)) y)).1) → (yOk (pEnd (pVn (D.1.map (fun t => t.1)) (yVl y) (yFr (D.2.1.map (fun t => t.1)) y)).1) → rDp m (D.1, D.2.1 ++ [(pVn (D.1.map (fun t => t.1)) (yVl y) (yFr (D.2.1.map (fun t => t.1)) y)).2], D.2.2) ∧ rTd m p q r s ∧ w32 (m 95 25) = w32 (b 95 25) + 1) → Q none m) : zG E (d + 1) xm_206 202 [some (1, 95), some (0, w), none, none] [] b Q := by
  have N := hD.2.1.1
  have hlm : (D.2.1.map (fun t => t.1)).length = D.2.1.length := List.length_map _
  have N1 : w32 (b 97 8) = (D.2.1.length : Int) := by rw [← hlm]; exact N.1
  have et : w32 (6 + b 97 8) = ((6 + (D.2.1.map (fun t => t.1)).length : Nat) : Int) := by rw [hlm, w32_ad (by rw [w32c_6]; (first | exact Nat.le_of_ble_eq_true rfl | exact (fun h => absurd h.1 (by decide)) | omega)) (by rw [w32c_6]; (first | exact Nat.le_of_ble_eq_true rfl | exact (fun h => absurd h.1 (by decide)) | omega)), w32c_6]; (first | exact Nat.le_of_ble_eq_true rfl | exact (fun h => absurd h.1 (by decide)) | omega)
  refine zgo_ok (n := 60) hE xmo_206 (cs := zc_206) ?_
  simp only [ynok_30, ynok_31, w32c_0, w32c_1, w32c_2, w32c_3, w32c_4, w32c_5, w32c_6, w32c_7, w32c_8, w32c_9, w32c_10, w32c_11, w32c_12, w32c_13, w32c_14, w32c_m1, w32c_m2, w32c_118, Int.reduceAdd, Int.reduceSub, Int.reduceMul, yput_s, yput_n, znl_n, znl_0, znl_1, znl_4, ysum_n, ysum_0, ysum_1, ysum_4, true_and, and_true, Nat.reduceAdd, Nat.reduceLeDiff, true_implies, eq_self, true_or, or_true, or_false, false_or, not_true_eq_false, not_false_eq_true, false_implies, implies_true, yset_s, yset_o, yset_d, ne_eq, Nat.reduceEqDiff, Int.reduceToNat, Int.reduceEq, Int.reduceLE, Int.reduceLT, Classical.not_not, Nat.reduceLT, ↓zvk_s, ↓zvk_n, ↓s_206_0, ↓s_206_1, ↓s_206_4, ↓s_206_7, ↓s_206_8, ↓s_206_11, ↓s_206_13, ↓s_206_16, ↓s_206_17, ↓s_206_18, ↓s_206_21, ↓s_206_22, ↓s_206_23, ↓s_206_26n, ↓s_206_26i, ↓s_206_26p, ↓s_206_27, ↓s_206_28, ↓s_206_29, ↓s_206_32, ↓s_206_35, ↓s_206_36, ↓s_206_37, ↓s_206_40, ↓s_206_43, ↓s_206_44, ↓s_206_45, ↓s_206_48, ↓s_206_49, ↓s_206_50, ↓s_206_53, ↓s_206_54, ↓s_206_57, ↓s_206_58, ↓s_206_59, ↓s_206_60, ↓s_206_61, ↓s_206_62, ↓s_206_65, ↓s_206_66, ↓s_206_67, ↓g_206_70, ↓k_206_70, ↓s_206_71, ↓s_206_74, ↓s_206_77, ↓s_206_78, ↓s_206_79a, ↓s_206_79b, ↓s_206_80, ↓s_206_83, ↓s_206_84, ↓s_206_85, ↓s_206_86, ↓s_206_87, ↓s_206_90, ↓s_206_91, ↓s_206_94, ↓s_206_95, ↓g_206_132, ↓k_206_132, ↓s_206_133, ↓s_206_134, ↓s_206_135, ↓s_206_138, ↓s_206_139n, ↓s_206_139i, ↓s_206_139p, ↓s_206_140, ↓s_206_141, ↓s_206_144, ↓s_206_145, ↓s_206_146, ↓s_206_147, ↓s_206_150, ↓s_206_151, ↓s_206_152, ↓s_206_153, ↓s_206_156, ↓s_206_159, ↓s_206_160, ↓s_206_161, ↓s_206_164, ↓s_206_165, ↓s_206_166, ↓s_206_167, ↓s_206_169, ↓s_206_172, ↓s_206_173, ↓s_206_174, ↓s_206_177, ↓s_206_178, ↓s_206_179, ↓s_206_180, ↓s_206_183, ↓s_206_186, ↓s_206_187, ↓s_206_188, ↓s_206_189, ↓s_206_190, ↓s_206_191, ↓s_206_194, ↓s_206_195, ↓s_206_196, ↓s_206_199, ↓g_206_202, ↓k_206_202, ↓s_206_203, ↓s_206_205, ↓s_206_206, ↓s_206_207, ↓s_206_210, ↓s_206_211, ↓s_206_214, ↓g_206_217, ↓k_206_217, ↓s_206_218, ↓s_206_219, ↓s_206_220, ↓s_206_221, ↓s_206_224, ↓s_206_225, ↓s_206_228, ↓g_206_231, ↓k_206_231, ↓s_206_232, ↓s_206_233, ↓s_206_236n, ↓s_206_236i, ↓s_206_236p, ↓s_206_237, ↓s_206_238, ↓s_206_241, ↓s_206_242, ↓s_206_243, ↓s_206_244, ↓s_206_245, ↓s_206_246, ↓s_206_249, ↓s_206_250, ↓s_206_251, ↓s_206_254, ↓s_206_255, ↓s_206_256, ↓s_206_259, ↓s_206_260, ↓s_206_261, ↓s_206_262, ↓s_206_263, ↓s_206_264, ↓s_206_267, ↓s_206_270, ↓s_206_271, ↓s_206_272, ↓s_206_274, ↓s_206_275, ↓s_206_276, ↓s_206_279, ↓s_206_280, ↓s_206_281, ↓s_206_282, ↓s_206_283, ↓s_206_284, ↓s_206_287, ↓g_206_290, ↓k_206_290, ↓s_206_291, ↓s_206_292, ↓s_206_293, ↓s_206_294, ↓s_206_297, ↓s_206_300, ↓s_206_303, ↓g_206_306, ↓k_206_306, ↓s_206_307, ↓s_206_308, ↓s_206_309, ↓s_206_310, ↓s_206_312, ↓s_206_315, ↓s_206_318, ↓g_206_321, ↓k_206_321, ↓s_206_322, ↓g_206_325, ↓k_206_325, ↓s_206_326, ↓s_206_329, ↓s_206_332, ↓s_206_333, ↓s_206_334, ↓s_206_336, ↓s_206_339, ↓s_206_342, ↓s_206_343, ↓s_206_344, ↓s_206_347, ↓s_206_350, ↓s_206_351, ↓s_206_354, ↓s_206_355a, ↓s_206_355b, ↓s_206_356, ↓s_206_359, ↓s_206_360, ↓s_206_361, ↓s_206_364, w32c_99, w32c_9999, w32c_999, w32c_99999, w32c_59, ↓s_170_0, ↓s_170_1, ↓s_170_4, ↓s_170_6, ↓s_170_7, ↓s_170_8, ↓s_170_9, zar_112, zia_112, zln_112, zit_112, zar_113, zia_113, zln_113, zit_113, zar_98, zia_98, zln_98, zit_98, zar_99, zia_99, zln_99, zit_99, zar_100, zia_100, zln_100, zit_100, zar_97, zia_97, zln_97, zit_97, zio_95]
  refine ⟨by (first | exact Nat.le_of_ble_eq_true rfl | exact (fun h => absurd h.1 (by decide)) | omega), ?_⟩
  refine rf_voiceLine hE (by (first | exact Nat.le_of_ble_eq_true rfl | exact (fun h => absurd h.1 (by decide)) | omega)) (by rw [hlm]; exact hn) et h hD.1.1 N (fun m4 g2 T4 v8 vs => ?_)
  rw [hlm] at g2 v8 vs
  refine zgk_n hE xmo_206 60 zc_206 ?_
  simp only [ynok_30, ynok_31, w32c_0, w32c_1, w32c_2, w32c_3, w32c_4, w32c_5, w32c_6, w32c_7, w32c_8, w32c_9, w32c_10, w32c_11, w32c_12, w32c_13, w32c_14, w32c_m1, w32c_m2, w32c_118, Int.reduceAdd, Int.reduceSub, Int.reduceMul, yput_s, yput_n, znl_n, znl_0, znl_1, znl_4, ysum_n, ysum_0, ysum_1, ysum_4, true_and, and_true, Nat.reduceAdd, Nat.reduceLeDiff, true_implies, eq_self, true_or, or_true, or_false, false_or, not_true_eq_false, not_false_eq_true, false_implies, implies_true, yset_s, yset_o, yset_d, ne_eq, Nat.reduceEqDiff, Int.reduceToNat, Int.reduceEq, Int.reduceLE, Int.reduceLT, Classical.not_not, Nat.reduceLT, ↓zvk_s, ↓zvk_n, ↓s_206_0, ↓s_206_1, ↓s_206_4, ↓s_206_7, ↓s_206_8, ↓s_206_11, ↓s_206_13, ↓s_206_16, ↓s_206_17, ↓s_206_18, ↓s_206_21, ↓s_206_22, ↓s_206_23, ↓s_206_26n, ↓s_206_26i, ↓s_206_26p, ↓s_206_27, ↓s_206_28, ↓s_206_29, ↓s_206_32, ↓s_206_35, ↓s_206_36, ↓s_206_37, ↓s_206_40, ↓s_206_43, ↓s_206_44, ↓s_206_45, ↓s_206_48, ↓s_206_49, ↓s_206_50, ↓s_206_53, ↓s_206_54, ↓s_206_57, ↓s_206_58, ↓s_206_59, ↓s_206_60, ↓s_206_61, ↓s_206_62, ↓s_206_65, ↓s_206_66, ↓s_206_67, ↓g_206_70, ↓k_206_70, ↓s_206_71, ↓s_206_74, ↓s_206_77, ↓s_206_78, ↓s_206_79a, ↓s_206_79b, ↓s_206_80, ↓s_206_83, ↓s_206_84, ↓s_206_85, ↓s_206_86, ↓s_206_87, ↓s_206_90, ↓s_206_91, ↓s_206_94, ↓s_206_95, ↓g_206_132, ↓k_206_132, ↓s_206_133, ↓s_206_134, ↓s_206_135, ↓s_206_138, ↓s_206_139n, ↓s_206_139i, ↓s_206_139p, ↓s_206_140, ↓s_206_141, ↓s_206_144, ↓s_206_145, ↓s_206_146, ↓s_206_147, ↓s_206_150, ↓s_206_151, ↓s_206_152, ↓s_206_153, ↓s_206_156, ↓s_206_159, ↓s_206_160, ↓s_206_161, ↓s_206_164, ↓s_206_165, ↓s_206_166, ↓s_206_167, ↓s_206_169, ↓s_206_172, ↓s_206_173, ↓s_206_174, ↓s_206_177, ↓s_206_178, ↓s_206_179, ↓s_206_180, ↓s_206_183, ↓s_206_186, ↓s_206_187, ↓s_206_188, ↓s_206_189, ↓s_206_190, ↓s_206_191, ↓s_206_194, ↓s_206_195, ↓s_206_196, ↓s_206_199, ↓g_206_202, ↓k_206_202, ↓s_206_203, ↓s_206_205, ↓s_206_206, ↓s_206_207, ↓s_206_210, ↓s_206_211, ↓s_206_214, ↓g_206_217, ↓k_206_217, ↓s_206_218, ↓s_206_219, ↓s_206_220, ↓s_206_221, ↓s_206_224, ↓s_206_225, ↓s_206_228, ↓g_206_231, ↓k_206_231, ↓s_206_232, ↓s_206_233, ↓s_206_236n, ↓s_206_236i, ↓s_206_236p, ↓s_206_237, ↓s_206_238, ↓s_206_241, ↓s_206_242, ↓s_206_243, ↓s_206_244, ↓s_206_245, ↓s_206_246, ↓s_206_249, ↓s_206_250, ↓s_206_251, ↓s_206_254, ↓s_206_255, ↓s_206_256, ↓s_206_259, ↓s_206_260, ↓s_206_261, ↓s_206_262, ↓s_206_263, ↓s_206_264, ↓s_206_267, ↓s_206_270, ↓s_206_271, ↓s_206_272, ↓s_206_274, ↓s_206_275, ↓s_206_276, ↓s_206_279, ↓s_206_280, ↓s_206_281, ↓s_206_282, ↓s_206_283, ↓s_206_284, ↓s_206_287, ↓g_206_290, ↓k_206_290, ↓s_206_291, ↓s_206_292, ↓s_206_293, ↓s_206_294, ↓s_206_297, ↓s_206_300, ↓s_206_303, ↓g_206_306, ↓k_206_306, ↓s_206_307, ↓s_206_308, ↓s_206_309, ↓s_206_310, ↓s_206_312, ↓s_206_315, ↓s_206_318, ↓g_206_321, ↓k_206_321, ↓s_206_322, ↓g_206_325, ↓k_206_325, ↓s_206_326, ↓s_206_329, ↓s_206_332, ↓s_206_333, ↓s_206_334, ↓s_206_336, ↓s_206_339, ↓s_206_342, ↓s_206_343, ↓s_206_344, ↓s_206_347, ↓s_206_350, ↓s_206_351, ↓s_206_354, ↓s_206_355a, ↓s_206_355b, ↓s_206_356, ↓s_206_359, ↓s_206_360, ↓s_206_361, ↓s_206_364, w32c_99, w32c_9999, w32c_999, w32c_99999, w32c_59, zar_112, zia_112, zln_112, zit_112, zar_113, zia_113, zln_113, zit_113, zar_98, zia_98, zln_98, zit_98, zar_99, zia_99, zln_99, zit_99, zar_100, zia_100, zln_100, zit_100, zio_95]
  have l25 : m4 95 25 = b 95 25 := g2 95 25 (by unfold rvF; (first | exact Nat.le_of_ble_eq_true rfl | exact (fun h => absurd h.1 (by decide)) | omega))
  refine rl325 hE (by (first | exact Nat.le_of_ble_eq_true rfl | exact (fun h => absurd h.1 (by decide)) | omega)) T4 (by rw [l25]; exact hk) (fun m' G1 G24 G2 G3 => hQ m' ?_ G2 (fun z => ?_))
  · exact rlR_tr (fun i j hij => g2 i j (fun z => hij (rvF_rl z))) (rlR_rt G1)
  · obtain ⟨zk, zo⟩ := pEnd_ok z
    have vs := vs zo
    refine ⟨rDp_fr ?_ G1, rTd_fr (rTd_fr hT (g2 95 24 (by unfold rvF; (first | exact Nat.le_of_ble_eq_true rfl | exact (fun h => absurd h.1 (by decide)) | omega)))) G24, by rw [G3 z, l25]⟩
    obtain ⟨c1, c2, c3, c4, c5, c6⟩ := hD
    have k : ∀ i j, 98 ≤ i → ¬ (101 ≤ i ∧ i ≤ 107) → m4 i j = b i j := fun i j q q2 => g2 i j (by unfold rvF; (first | exact Nat.le_of_ble_eq_true rfl | exact (fun h => absurd h.1 (by decide)) | omega))
    have k7 : ∀ j, j ≠ 8 → m4 97 j = b 97 j := fun j q => g2 97 j (by unfold rvF; (first | exact Nat.le_of_ble_eq_true rfl | exact (fun h => absurd h.1 (by decide)) | omega))
    refine ⟨rTv_fr c1 (k7 7 (by decide)) (fun i j h1 h2 => k i j h1 (by (first | exact Nat.le_of_ble_eq_true rfl | exact (fun h => absurd h.1 (by decide)) | omega))), ⟨?_, fun j t ht => ?_⟩, rVe_fr c3 (k7 9 (by decide)) (fun i j h1 h2 => k i j (by (first | exact Nat.le_of_ble_eq_true rfl | exact (fun h => absurd h.1 (by decide)) | omega)) (by (first | exact Nat.le_of_ble_eq_true rfl | exact (fun h => absurd h.1 (by decide)) | omega))), rBk_fr c4 (k7 10 (by decide)) (fun i j h1 h2 => k i j (by (first | exact Nat.le_of_ble_eq_true rfl | exact (fun h => absurd h.1 (by decide)) | omega)) (by (first | exact Nat.le_of_ble_eq_true rfl | exact (fun h => absurd h.1 (by decide)) | omega))), ⟨by rw [k7 11 (by decide)]; exact c5.1, by rw [k7 12 (by decide)]; exact c5.2⟩, rFs_fr c6 (fun i j h1 h2 => k i j (by (first | exact Nat.le_of_ble_eq_true rfl | exact (fun h => absurd h.1 (by decide)) | omega)) (by (first | exact Nat.le_of_ble_eq_true rfl | exact (fun h => absurd h.1 (by decide)) | omega))) (k7 13 (by decide)) (g2 95 35 (by unfold rvF; (first | exact Nat.le_of_ble_eq_true rfl | exact (fun h => absurd h.1 (by decide)) | omega))) (g2 95 36 (by unfold rvF; (first | exact Nat.le_of_ble_eq_true rfl | exact (fun h => absurd h.1 (by decide)) | omega)))⟩
    · show rNm m4 101 1 6 ((D.2.1 ++ [_]).map (fun t : tVo => t.1))
      rw [List.map_append]
      refine rNm_up N (by rw [hlm]; exact v8) (by rw [hlm]; exact hn) (fun j hj => g2 101 _ (by rw [hlm] at hj; unfold rvF; (first | exact Nat.le_of_ble_eq_true rfl | exact (fun h => absurd h.1 (by decide)) | omega))) ?_
      rw [hlm]
      exact vs.1
    · rcases app_get ht with ht | ⟨rfl, rfl⟩
      · have hj := get_lt ht
        exact rVs_fr (c2.2 j t ht) (fun i h1 h2 => g2 i _ (by unfold rvF; (first | exact Nat.le_of_ble_eq_true rfl | exact (fun h => absurd h.1 (by decide)) | omega)))
      · exact vs
/-- verse -/
theorem rl217 (hE : yEok E) (hd : 11 ≤ d) (h : rTk ch n b y) (hD : rDp b D) (hT : rTd b p q r s) (hn : D.2.2.1.length < 4) (hk : 0 ≤ w32 (b 95 25) ∧ w32 (b 95 25) ≤ 1000) (hQ : ∀ m, rlR b m → rTk ch n m (pEnd (pPts 3 (yFr (D.2.2.1.map (fun t => t.1)) y)).2) → (yOk (pEnd (pPts 3 (yFr (D.2.2.1.map (fun t => t.1)) y)).2) → rDp m (D.1, D.2.1, D.2.2.1 ++ [(yVl y, (pPts 3 (yFr (D.2.2.1.map (fun t => t.1)) y)).1)], D.2.2.2) ∧ rTd m p q r s ∧ w32 (m 95 25) = w32 (b 95 25) + 1) → Q none m) : zG E (d + 1) xm_206 217 [some (1, 95), some (0, w), none, none] [] b Q := by
  have N := hD.2.2.1.1
  have hlm : (D.2.2.1.map (fun t => t.1)).length = D.2.2.1.length := List.length_map _
  have N1 : w32 (b 97 9) = (D.2.2.1.length : Int) := by rw [← hlm]; exact N.1
  have et : w32 (4 + b 97 9) = ((4 + (D.2.2.1.map (fun t => t.1)).length : Nat) : Int) := by rw [hlm, w32_ad (by rw [w32c_4]; (first | exact Nat.le_of_ble_eq_true rfl | exact (fun h => absurd h.1 (by decide)) | omega)) (by rw [w32c_4]; (first | exact Nat.le_of_ble_eq_true rfl | exact (fun h => absurd h.1 (by decide)) | omega)), w32c_4]; (first | exact Nat.le_of_ble_eq_true rfl | exact (fun h => absurd h.1 (by decide)) | omega)
  refine zgo_ok (n := 60) hE xmo_206 (cs := zc_206) ?_
  simp only [ynok_30, ynok_31, w32c_0, w32c_1, w32c_2, w32c_3, w32c_4, w32c_5, w32c_6, w32c_7, w32c_8, w32c_9, w32c_10, w32c_11, w32c_12, w32c_13, w32c_14, w32c_m1, w32c_m2, w32c_118, Int.reduceAdd, Int.reduceSub, Int.reduceMul, yput_s, yput_n, znl_n, znl_0, znl_1, znl_4, ysum_n, ysum_0, ysum_1, ysum_4, true_and, and_true, Nat.reduceAdd, Nat.reduceLeDiff, true_implies, eq_self, true_or, or_true, or_false, false_or, not_true_eq_false, not_false_eq_true, false_implies, implies_true, yset_s, yset_o, yset_d, ne_eq, Nat.reduceEqDiff, Int.reduceToNat, Int.reduceEq, Int.reduceLE, Int.reduceLT, Classical.not_not, Nat.reduceLT, ↓zvk_s, ↓zvk_n, ↓s_206_0, ↓s_206_1, ↓s_206_4, ↓s_206_7, ↓s_206_8, ↓s_206_11, ↓s_206_13, ↓s_206_16, ↓s_206_17, ↓s_206_18, ↓s_206_21, ↓s_206_22, ↓s_206_23, ↓s_206_26n, ↓s_206_26i, ↓s_206_26p, ↓s_206_27, ↓s_206_28, ↓s_206_29, ↓s_206_32, ↓s_206_35, ↓s_206_36, ↓s_206_37, ↓s_206_40, ↓s_206_43, ↓s_206_44, ↓s_206_45, ↓s_206_48, ↓s_206_49, ↓s_206_50, ↓s_206_53, ↓s_206_54, ↓s_206_57, ↓s_206_58, ↓s_206_59, ↓s_206_60, ↓s_206_61, ↓s_206_62, ↓s_206_65, ↓s_206_66, ↓s_206_67, ↓g_206_70, ↓k_206_70, ↓s_206_71, ↓s_206_74, ↓s_206_77, ↓s_206_78, ↓s_206_79a, ↓s_206_79b, ↓s_206_80, ↓s_206_83, ↓s_206_84, ↓s_206_85, ↓s_206_86, ↓s_206_87, ↓s_206_90, ↓s_206_91, ↓s_206_94, ↓s_206_95, ↓g_206_132, ↓k_206_132, ↓s_206_133, ↓s_206_134, ↓s_206_135, ↓s_206_138, ↓s_206_139n, ↓s_206_139i, ↓s_206_139p, ↓s_206_140, ↓s_206_141, ↓s_206_144, ↓s_206_145, ↓s_206_146, ↓s_206_147, ↓s_206_150, ↓s_206_151, ↓s_206_152, ↓s_206_153, ↓s_206_156, ↓s_206_159, ↓s_206_160, ↓s_206_161, ↓s_206_164, ↓s_206_165, ↓s_206_166, ↓s_206_167, ↓s_206_169, ↓s_206_172, ↓s_206_173, ↓s_206_174, ↓s_206_177, ↓s_206_178, ↓s_206_179, ↓s_206_180, ↓s_206_183, ↓s_206_186, ↓s_206_187, ↓s_206_188, ↓s_206_189, ↓s_206_190, ↓s_206_191, ↓s_206_194, ↓s_206_195, ↓s_206_196, ↓s_206_199, ↓g_206_202, ↓k_206_202, ↓s_206_203, ↓s_206_205, ↓s_206_206, ↓s_206_207, ↓s_206_210, ↓s_206_211, ↓s_206_214, ↓g_206_217, ↓k_206_217, ↓s_206_218, ↓s_206_219, ↓s_206_220, ↓s_206_221, ↓s_206_224, ↓s_206_225, ↓s_206_228, ↓g_206_231, ↓k_206_231, ↓s_206_232, ↓s_206_233, ↓s_206_236n, ↓s_206_236i, ↓s_206_236p, ↓s_206_237, ↓s_206_238, ↓s_206_241, ↓s_206_242, ↓s_206_243, ↓s_206_244, ↓s_206_245, ↓s_206_246, ↓s_206_249, ↓s_206_250, ↓s_206_251, ↓s_206_254, ↓s_206_255, ↓s_206_256, ↓s_206_259, ↓s_206_260, ↓s_206_261, ↓s_206_262, ↓s_206_263, ↓s_206_264, ↓s_206_267, ↓s_206_270, ↓s_206_271, ↓s_206_272, ↓s_206_274, ↓s_206_275, ↓s_206_276, ↓s_206_279, ↓s_206_280, ↓s_206_281, ↓s_206_282, ↓s_206_283, ↓s_206_284, ↓s_206_287, ↓g_206_290, ↓k_206_290, ↓s_206_291, ↓s_206_292, ↓s_206_293, ↓s_206_294, ↓s_206_297, ↓s_206_300, ↓s_206_303, ↓g_206_306, ↓k_206_306, ↓s_206_307, ↓s_206_308, ↓s_206_309, ↓s_206_310, ↓s_206_312, ↓s_206_315, ↓s_206_318, ↓g_206_321, ↓k_206_321, ↓s_206_322, ↓g_206_325, ↓k_206_325, ↓s_206_326, ↓s_206_329, ↓s_206_332, ↓s_206_333, ↓s_206_334, ↓s_206_336, ↓s_206_339, ↓s_206_342, ↓s_206_343, ↓s_206_344, ↓s_206_347, ↓s_206_350, ↓s_206_351, ↓s_206_354, ↓s_206_355a, ↓s_206_355b, ↓s_206_356, ↓s_206_359, ↓s_206_360, ↓s_206_361, ↓s_206_364, w32c_99, w32c_9999, w32c_999, w32c_99999, w32c_59, ↓s_170_0, ↓s_170_1, ↓s_170_4, ↓s_170_6, ↓s_170_7, ↓s_170_8, ↓s_170_9, zar_112, zia_112, zln_112, zit_112, zar_113, zia_113, zln_113, zit_113, zar_98, zia_98, zln_98, zit_98, zar_99, zia_99, zln_99, zit_99, zar_100, zia_100, zln_100, zit_100, zar_97, zia_97, zln_97, zit_97, zio_95]
  refine ⟨by (first | exact Nat.le_of_ble_eq_true rfl | exact (fun h => absurd h.1 (by decide)) | omega), ?_⟩
  refine rf_verseLine hE (by (first | exact Nat.le_of_ble_eq_true rfl | exact (fun h => absurd h.1 (by decide)) | omega)) (by rw [hlm]; exact hn) et N h (fun m4 g2 T4 vs => ?_)
  rw [hlm] at g2 vs
  refine zgk_n hE xmo_206 60 zc_206 ?_
  simp only [ynok_30, ynok_31, w32c_0, w32c_1, w32c_2, w32c_3, w32c_4, w32c_5, w32c_6, w32c_7, w32c_8, w32c_9, w32c_10, w32c_11, w32c_12, w32c_13, w32c_14, w32c_m1, w32c_m2, w32c_118, Int.reduceAdd, Int.reduceSub, Int.reduceMul, yput_s, yput_n, znl_n, znl_0, znl_1, znl_4, ysum_n, ysum_0, ysum_1, ysum_4, true_and, and_true, Nat.reduceAdd, Nat.reduceLeDiff, true_implies, eq_self, true_or, or_true, or_false, false_or, not_true_eq_false, not_false_eq_true, false_implies, implies_true, yset_s, yset_o, yset_d, ne_eq, Nat.reduceEqDiff, Int.reduceToNat, Int.reduceEq, Int.reduceLE, Int.reduceLT, Classical.not_not, Nat.reduceLT, ↓zvk_s, ↓zvk_n, ↓s_206_0, ↓s_206_1, ↓s_206_4, ↓s_206_7, ↓s_206_8, ↓s_206_11, ↓s_206_13, ↓s_206_16, ↓s_206_17, ↓s_206_18, ↓s_206_21, ↓s_206_22, ↓s_206_23, ↓s_206_26n, ↓s_206_26i, ↓s_206_26p, ↓s_206_27, ↓s_206_28, ↓s_206_29, ↓s_206_32, ↓s_206_35, ↓s_206_36, ↓s_206_37, ↓s_206_40, ↓s_206_43, ↓s_206_44, ↓s_206_45, ↓s_206_48, ↓s_206_49, ↓s_206_50, ↓s_206_53, ↓s_206_54, ↓s_206_57, ↓s_206_58, ↓s_206_59, ↓s_206_60, ↓s_206_61, ↓s_206_62, ↓s_206_65, ↓s_206_66, ↓s_206_67, ↓g_206_70, ↓k_206_70, ↓s_206_71, ↓s_206_74, ↓s_206_77, ↓s_206_78, ↓s_206_79a, ↓s_206_79b, ↓s_206_80, ↓s_206_83, ↓s_206_84, ↓s_206_85, ↓s_206_86, ↓s_206_87, ↓s_206_90, ↓s_206_91, ↓s_206_94, ↓s_206_95, ↓g_206_132, ↓k_206_132, ↓s_206_133, ↓s_206_134, ↓s_206_135, ↓s_206_138, ↓s_206_139n, ↓s_206_139i, ↓s_206_139p, ↓s_206_140, ↓s_206_141, ↓s_206_144, ↓s_206_145, ↓s_206_146, ↓s_206_147, ↓s_206_150, ↓s_206_151, ↓s_206_152, ↓s_206_153, ↓s_206_156, ↓s_206_159, ↓s_206_160, ↓s_206_161, ↓s_206_164, ↓s_206_165, ↓s_206_166, ↓s_206_167, ↓s_206_169, ↓s_206_172, ↓s_206_173, ↓s_206_174, ↓s_206_177, ↓s_206_178, ↓s_206_179, ↓s_206_180, ↓s_206_183, ↓s_206_186, ↓s_206_187, ↓s_206_188, ↓s_206_189, ↓s_206_190, ↓s_206_191, ↓s_206_194, ↓s_206_195, ↓s_206_196, ↓s_206_199, ↓g_206_202, ↓k_206_202, ↓s_206_203, ↓s_206_205, ↓s_206_206, ↓s_206_207, ↓s_206_210, ↓s_206_211, ↓s_206_214, ↓g_206_217, ↓k_206_217, ↓s_206_218, ↓s_206_219, ↓s_206_220, ↓s_206_221, ↓s_206_224, ↓s_206_225, ↓s_206_228, ↓g_206_231, ↓k_206_231, ↓s_206_232, ↓s_206_233, ↓s_206_236n, ↓s_206_236i, ↓s_206_236p, ↓s_206_237, ↓s_206_238, ↓s_206_241, ↓s_206_242, ↓s_206_243, ↓s_206_244, ↓s_206_245, ↓s_206_246, ↓s_206_249, ↓s_206_250, ↓s_206_251, ↓s_206_254, ↓s_206_255, ↓s_206_256, ↓s_206_259, ↓s_206_260, ↓s_206_261, ↓s_206_262, ↓s_206_263, ↓s_206_264, ↓s_206_267, ↓s_206_270, ↓s_206_271, ↓s_206_272, ↓s_206_274, ↓s_206_275, ↓s_206_276, ↓s_206_279, ↓s_206_280, ↓s_206_281, ↓s_206_282, ↓s_206_283, ↓s_206_284, ↓s_206_287, ↓g_206_290, ↓k_206_290, ↓s_206_291, ↓s_206_292, ↓s_206_293, ↓s_206_294, ↓s_206_297, ↓s_206_300, ↓s_206_303, ↓g_206_306, ↓k_206_306, ↓s_206_307, ↓s_206_308, ↓s_206_309, ↓s_206_310, ↓s_206_312, ↓s_206_315, ↓s_206_318, ↓g_206_321, ↓k_206_321, ↓s_206_322, ↓g_206_325, ↓k_206_325, ↓s_206_326, ↓s_206_329, ↓s_206_332, ↓s_206_333, ↓s_206_334, ↓s_206_336, ↓s_206_339, ↓s_206_342, ↓s_206_343, ↓s_206_344, ↓s_206_347, ↓s_206_350, ↓s_206_351, ↓s_206_354, ↓s_206_355a, ↓s_206_355b, ↓s_206_356, ↓s_206_359, ↓s_206_360, ↓s_206_361, ↓s_206_364, w32c_99, w32c_9999, w32c_999, w32c_99999, w32c_59, zar_112, zia_112, zln_112, zit_112, zar_113, zia_113, zln_113, zit_113, zar_98, zia_98, zln_98, zit_98, zar_99, zia_99, zln_99, zit_99, zar_100, zia_100, zln_100, zit_100, zio_95]
  have l25 : m4 95 25 = b 95 25 := g2 95 25 (by unfold rwF; (first | exact Nat.le_of_ble_eq_true rfl | exact (fun h => absurd h.1 (by decide)) | omega))
  refine rl325 hE (by (first | exact Nat.le_of_ble_eq_true rfl | exact (fun h => absurd h.1 (by decide)) | omega)) T4 (by rw [l25]; exact hk) (fun m' G1 G24 G2 G3 => hQ m' ?_ G2 (fun z => ?_))
  · exact rlR_tr (fun i j hij => g2 i j (fun z => hij (rwF_rl z))) (rlR_rt G1)
  · obtain ⟨zk, zo⟩ := pEnd_ok z
    obtain ⟨w9, w108, w109, wps⟩ := vs zo
    refine ⟨rDp_fr ?_ G1, rTd_fr (rTd_fr hT (g2 95 24 (by unfold rwF; (first | exact Nat.le_of_ble_eq_true rfl | exact (fun h => absurd h.1 (by decide)) | omega)))) G24, by rw [G3 z, l25]⟩
    obtain ⟨c1, c2, c3, c4, c5, c6⟩ := hD
    have k : ∀ i j, 98 ≤ i → ¬ (108 ≤ i ∧ i ≤ 111) → m4 i j = b i j := fun i j q q2 => g2 i j (by unfold rwF; (first | exact Nat.le_of_ble_eq_true rfl | exact (fun h => absurd h.1 (by decide)) | omega))
    have k7 : ∀ j, j ≠ 9 → m4 97 j = b 97 j := fun j q => g2 97 j (by unfold rwF; (first | exact Nat.le_of_ble_eq_true rfl | exact (fun h => absurd h.1 (by decide)) | omega))
    refine ⟨rTv_fr c1 (k7 7 (by decide)) (fun i j h1 h2 => k i j h1 (by (first | exact Nat.le_of_ble_eq_true rfl | exact (fun h => absurd h.1 (by decide)) | omega))), rVo_fr c2 (k7 8 (by decide)) (fun i j h1 h2 => k i j (by (first | exact Nat.le_of_ble_eq_true rfl | exact (fun h => absurd h.1 (by decide)) | omega)) (by (first | exact Nat.le_of_ble_eq_true rfl | exact (fun h => absurd h.1 (by decide)) | omega))), ⟨?_, fun j t ht => ?_⟩, rBk_fr c4 (k7 10 (by decide)) (fun i j h1 h2 => k i j (by (first | exact Nat.le_of_ble_eq_true rfl | exact (fun h => absurd h.1 (by decide)) | omega)) (by (first | exact Nat.le_of_ble_eq_true rfl | exact (fun h => absurd h.1 (by decide)) | omega))), ⟨by rw [k7 11 (by decide)]; exact c5.1, by rw [k7 12 (by decide)]; exact c5.2⟩, rFs_fr c6 (fun i j h1 h2 => k i j (by (first | exact Nat.le_of_ble_eq_true rfl | exact (fun h => absurd h.1 (by decide)) | omega)) (by (first | exact Nat.le_of_ble_eq_true rfl | exact (fun h => absurd h.1 (by decide)) | omega))) (k7 13 (by decide)) (g2 95 35 (by unfold rwF; (first | exact Nat.le_of_ble_eq_true rfl | exact (fun h => absurd h.1 (by decide)) | omega))) (g2 95 36 (by unfold rwF; (first | exact Nat.le_of_ble_eq_true rfl | exact (fun h => absurd h.1 (by decide)) | omega)))⟩
    · show rNm m4 108 2 4 ((D.2.2.1 ++ [_]).map (fun t : Int × List (List Int) => t.1))
      rw [List.map_append]
      refine rNm_up N (by rw [hlm]; exact w9) (by rw [hlm]; exact hn) (fun j hj => g2 108 _ (by rw [hlm] at hj; unfold rwF; (first | exact Nat.le_of_ble_eq_true rfl | exact (fun h => absurd h.1 (by decide)) | omega))) ?_
      rw [hlm]
      exact w108
    · rcases app_get ht with ht | ⟨rfl, rfl⟩
      · have hj := get_lt ht
        obtain ⟨a1, a2, a3⟩ := c3.2 j t ht
        refine ⟨a1, by rw [g2 109 _ (by unfold rwF; (first | exact Nat.le_of_ble_eq_true rfl | exact (fun h => absurd h.1 (by decide)) | omega))]; exact a2, fun p q hq => ?_⟩
        have hp := get_lt hq
        obtain ⟨b1, b2, b3⟩ := a3 p q hq
        refine ⟨b1, by rw [g2 110 _ (by unfold rwF; (first | exact Nat.le_of_ble_eq_true rfl | exact (fun h => absurd h.1 (by decide)) | omega))]; exact b2, fun i v hv => ?_⟩
        have hi := get_lt hv
        rw [g2 111 _ (by unfold rwF; (first | exact Nat.le_of_ble_eq_true rfl | exact (fun h => absurd h.1 (by decide)) | omega))]
        exact b3 i v hv
      · exact ⟨pPts_len 3 _, w109, wps⟩
/-- purse, seed -/
theorem rl290 (hE : yEok E) (hd : 7 ≤ d) (h : rTk ch n b y) (hD : rDp b D) (hT : rTd b p q r s) (hk : 0 ≤ w32 (b 95 25) ∧ w32 (b 95 25) ≤ 1000) (hQ : ∀ m, rlR b m → rTk ch n m (pEnd (yNm 0 999 y).2) → (yOk (pEnd (yNm 0 999 y).2) → rDp m (D.1, D.2.1, D.2.2.1, D.2.2.2.1, (true, (yNm 0 999 y).1), D.2.2.2.2.2) ∧ rTd m p q r s ∧ w32 (m 95 25) = w32 (b 95 25) + 1) → Q none m) : zG E (d + 1) xm_206 290 [some (1, 95), some (0, w), none, none] [] b Q := by
  refine zgo_ok (n := 60) hE xmo_206 (cs := zc_206) ?_
  simp only [ynok_30, ynok_31, w32c_0, w32c_1, w32c_2, w32c_3, w32c_4, w32c_5, w32c_6, w32c_7, w32c_8, w32c_9, w32c_10, w32c_11, w32c_12, w32c_13, w32c_14, w32c_m1, w32c_m2, w32c_118, Int.reduceAdd, Int.reduceSub, Int.reduceMul, yput_s, yput_n, znl_n, znl_0, znl_1, znl_4, ysum_n, ysum_0, ysum_1, ysum_4, true_and, and_true, Nat.reduceAdd, Nat.reduceLeDiff, true_implies, eq_self, true_or, or_true, or_false, false_or, not_true_eq_false, not_false_eq_true, false_implies, implies_true, yset_s, yset_o, yset_d, ne_eq, Nat.reduceEqDiff, Int.reduceToNat, Int.reduceEq, Int.reduceLE, Int.reduceLT, Classical.not_not, Nat.reduceLT, ↓zvk_s, ↓zvk_n, ↓s_206_0, ↓s_206_1, ↓s_206_4, ↓s_206_7, ↓s_206_8, ↓s_206_11, ↓s_206_13, ↓s_206_16, ↓s_206_17, ↓s_206_18, ↓s_206_21, ↓s_206_22, ↓s_206_23, ↓s_206_26n, ↓s_206_26i, ↓s_206_26p, ↓s_206_27, ↓s_206_28, ↓s_206_29, ↓s_206_32, ↓s_206_35, ↓s_206_36, ↓s_206_37, ↓s_206_40, ↓s_206_43, ↓s_206_44, ↓s_206_45, ↓s_206_48, ↓s_206_49, ↓s_206_50, ↓s_206_53, ↓s_206_54, ↓s_206_57, ↓s_206_58, ↓s_206_59, ↓s_206_60, ↓s_206_61, ↓s_206_62, ↓s_206_65, ↓s_206_66, ↓s_206_67, ↓g_206_70, ↓k_206_70, ↓s_206_71, ↓s_206_74, ↓s_206_77, ↓s_206_78, ↓s_206_79a, ↓s_206_79b, ↓s_206_80, ↓s_206_83, ↓s_206_84, ↓s_206_85, ↓s_206_86, ↓s_206_87, ↓s_206_90, ↓s_206_91, ↓s_206_94, ↓s_206_95, ↓g_206_132, ↓k_206_132, ↓s_206_133, ↓s_206_134, ↓s_206_135, ↓s_206_138, ↓s_206_139n, ↓s_206_139i, ↓s_206_139p, ↓s_206_140, ↓s_206_141, ↓s_206_144, ↓s_206_145, ↓s_206_146, ↓s_206_147, ↓s_206_150, ↓s_206_151, ↓s_206_152, ↓s_206_153, ↓s_206_156, ↓s_206_159, ↓s_206_160, ↓s_206_161, ↓s_206_164, ↓s_206_165, ↓s_206_166, ↓s_206_167, ↓s_206_169, ↓s_206_172, ↓s_206_173, ↓s_206_174, ↓s_206_177, ↓s_206_178, ↓s_206_179, ↓s_206_180, ↓s_206_183, ↓s_206_186, ↓s_206_187, ↓s_206_188, ↓s_206_189, ↓s_206_190, ↓s_206_191, ↓s_206_194, ↓s_206_195, ↓s_206_196, ↓s_206_199, ↓g_206_202, ↓k_206_202, ↓s_206_203, ↓s_206_205, ↓s_206_206, ↓s_206_207, ↓s_206_210, ↓s_206_211, ↓s_206_214, ↓g_206_217, ↓k_206_217, ↓s_206_218, ↓s_206_219, ↓s_206_220, ↓s_206_221, ↓s_206_224, ↓s_206_225, ↓s_206_228, ↓g_206_231, ↓k_206_231, ↓s_206_232, ↓s_206_233, ↓s_206_236n, ↓s_206_236i, ↓s_206_236p, ↓s_206_237, ↓s_206_238, ↓s_206_241, ↓s_206_242, ↓s_206_243, ↓s_206_244, ↓s_206_245, ↓s_206_246, ↓s_206_249, ↓s_206_250, ↓s_206_251, ↓s_206_254, ↓s_206_255, ↓s_206_256, ↓s_206_259, ↓s_206_260, ↓s_206_261, ↓s_206_262, ↓s_206_263, ↓s_206_264, ↓s_206_267, ↓s_206_270, ↓s_206_271, ↓s_206_272, ↓s_206_274, ↓s_206_275, ↓s_206_276, ↓s_206_279, ↓s_206_280, ↓s_206_281, ↓s_206_282, ↓s_206_283, ↓s_206_284, ↓s_206_287, ↓g_206_290, ↓k_206_290, ↓s_206_291, ↓s_206_292, ↓s_206_293, ↓s_206_294, ↓s_206_297, ↓s_206_300, ↓s_206_303, ↓g_206_306, ↓k_206_306, ↓s_206_307, ↓s_206_308, ↓s_206_309, ↓s_206_310, ↓s_206_312, ↓s_206_315, ↓s_206_318, ↓g_206_321, ↓k_206_321, ↓s_206_322, ↓g_206_325, ↓k_206_325, ↓s_206_326, ↓s_206_329, ↓s_206_332, ↓s_206_333, ↓s_206_334, ↓s_206_336, ↓s_206_339, ↓s_206_342, ↓s_206_343, ↓s_206_344, ↓s_206_347, ↓s_206_350, ↓s_206_351, ↓s_206_354, ↓s_206_355a, ↓s_206_355b, ↓s_206_356, ↓s_206_359, ↓s_206_360, ↓s_206_361, ↓s_206_364, w32c_99, w32c_9999, w32c_999, w32c_99999, w32c_59, ↓s_170_0, ↓s_170_1, ↓s_170_4, ↓s_170_6, ↓s_170_7, ↓s_170_8, ↓s_170_9, zar_112, zia_112, zln_112, zit_112, zar_113, zia_113, zln_113, zit_113, zar_98, zia_98, zln_98, zit_98, zar_99, zia_99, zln_99, zit_99, zar_100, zia_100, zln_100, zit_100, zar_97, zia_97, zln_97, zit_97, zio_95]
  refine rf_numeral hE (by (first | exact Nat.le_of_ble_eq_true rfl | exact (fun h => absurd h.1 (by decide)) | omega)) h (by decide) (by decide) (fun r1 m1 F1 e1 T1 => ?_)
  rw [w32c_0, show w32 999 = 999 by decide] at e1 T1
  refine zgk_s hE xmo_206 60 zc_206 ?_
  simp only [ynok_30, ynok_31, w32c_0, w32c_1, w32c_2, w32c_3, w32c_4, w32c_5, w32c_6, w32c_7, w32c_8, w32c_9, w32c_10, w32c_11, w32c_12, w32c_13, w32c_14, w32c_m1, w32c_m2, w32c_118, Int.reduceAdd, Int.reduceSub, Int.reduceMul, yput_s, yput_n, znl_n, znl_0, znl_1, znl_4, ysum_n, ysum_0, ysum_1, ysum_4, true_and, and_true, Nat.reduceAdd, Nat.reduceLeDiff, true_implies, eq_self, true_or, or_true, or_false, false_or, not_true_eq_false, not_false_eq_true, false_implies, implies_true, yset_s, yset_o, yset_d, ne_eq, Nat.reduceEqDiff, Int.reduceToNat, Int.reduceEq, Int.reduceLE, Int.reduceLT, Classical.not_not, Nat.reduceLT, ↓zvk_s, ↓zvk_n, ↓s_206_0, ↓s_206_1, ↓s_206_4, ↓s_206_7, ↓s_206_8, ↓s_206_11, ↓s_206_13, ↓s_206_16, ↓s_206_17, ↓s_206_18, ↓s_206_21, ↓s_206_22, ↓s_206_23, ↓s_206_26n, ↓s_206_26i, ↓s_206_26p, ↓s_206_27, ↓s_206_28, ↓s_206_29, ↓s_206_32, ↓s_206_35, ↓s_206_36, ↓s_206_37, ↓s_206_40, ↓s_206_43, ↓s_206_44, ↓s_206_45, ↓s_206_48, ↓s_206_49, ↓s_206_50, ↓s_206_53, ↓s_206_54, ↓s_206_57, ↓s_206_58, ↓s_206_59, ↓s_206_60, ↓s_206_61, ↓s_206_62, ↓s_206_65, ↓s_206_66, ↓s_206_67, ↓g_206_70, ↓k_206_70, ↓s_206_71, ↓s_206_74, ↓s_206_77, ↓s_206_78, ↓s_206_79a, ↓s_206_79b, ↓s_206_80, ↓s_206_83, ↓s_206_84, ↓s_206_85, ↓s_206_86, ↓s_206_87, ↓s_206_90, ↓s_206_91, ↓s_206_94, ↓s_206_95, ↓g_206_132, ↓k_206_132, ↓s_206_133, ↓s_206_134, ↓s_206_135, ↓s_206_138, ↓s_206_139n, ↓s_206_139i, ↓s_206_139p, ↓s_206_140, ↓s_206_141, ↓s_206_144, ↓s_206_145, ↓s_206_146, ↓s_206_147, ↓s_206_150, ↓s_206_151, ↓s_206_152, ↓s_206_153, ↓s_206_156, ↓s_206_159, ↓s_206_160, ↓s_206_161, ↓s_206_164, ↓s_206_165, ↓s_206_166, ↓s_206_167, ↓s_206_169, ↓s_206_172, ↓s_206_173, ↓s_206_174, ↓s_206_177, ↓s_206_178, ↓s_206_179, ↓s_206_180, ↓s_206_183, ↓s_206_186, ↓s_206_187, ↓s_206_188, ↓s_206_189, ↓s_206_190, ↓s_206_191, ↓s_206_194, ↓s_206_195, ↓s_206_196, ↓s_206_199, ↓g_206_202, ↓k_206_202, ↓s_206_203, ↓s_206_205, ↓s_206_206, ↓s_206_207, ↓s_206_210, ↓s_206_211, ↓s_206_214, ↓g_206_217, ↓k_206_217, ↓s_206_218, ↓s_206_219, ↓s_206_220, ↓s_206_221, ↓s_206_224, ↓s_206_225, ↓s_206_228, ↓g_206_231, ↓k_206_231, ↓s_206_232, ↓s_206_233, ↓s_206_236n, ↓s_206_236i, ↓s_206_236p, ↓s_206_237, ↓s_206_238, ↓s_206_241, ↓s_206_242, ↓s_206_243, ↓s_206_244, ↓s_206_245, ↓s_206_246, ↓s_206_249, ↓s_206_250, ↓s_206_251, ↓s_206_254, ↓s_206_255, ↓s_206_256, ↓s_206_259, ↓s_206_260, ↓s_206_261, ↓s_206_262, ↓s_206_263, ↓s_206_264, ↓s_206_267, ↓s_206_270, ↓s_206_271, ↓s_206_272, ↓s_206_274, ↓s_206_275, ↓s_206_276, ↓s_206_279, ↓s_206_280, ↓s_206_281, ↓s_206_282, ↓s_206_283, ↓s_206_284, ↓s_206_287, ↓g_206_290, ↓k_206_290, ↓s_206_291, ↓s_206_292, ↓s_206_293, ↓s_206_294, ↓s_206_297, ↓s_206_300, ↓s_206_303, ↓g_206_306, ↓k_206_306, ↓s_206_307, ↓s_206_308, ↓s_206_309, ↓s_206_310, ↓s_206_312, ↓s_206_315, ↓s_206_318, ↓g_206_321, ↓k_206_321, ↓s_206_322, ↓g_206_325, ↓k_206_325, ↓s_206_326, ↓s_206_329, ↓s_206_332, ↓s_206_333, ↓s_206_334, ↓s_206_336, ↓s_206_339, ↓s_206_342, ↓s_206_343, ↓s_206_344, ↓s_206_347, ↓s_206_350, ↓s_206_351, ↓s_206_354, ↓s_206_355a, ↓s_206_355b, ↓s_206_356, ↓s_206_359, ↓s_206_360, ↓s_206_361, ↓s_206_364, w32c_99, w32c_9999, w32c_999, w32c_99999, w32c_59, ↓s_221_0, ↓s_221_1, ↓s_221_4, ↓s_221_6, ↓s_221_7, ↓s_221_8, ↓s_221_9, ↓s_221_10, zar_112, zia_112, zln_112, zit_112, zar_113, zia_113, zln_113, zit_113, zar_98, zia_98, zln_98, zit_98, zar_99, zia_99, zln_99, zit_99, zar_100, zia_100, zln_100, zit_100, zar_97, zia_97, zln_97, zit_97, zio_95]
  have g2 : ∀ i j, ¬ (i = 97 ∧ j = 11) → ¬ (i = 95 ∧ 27 ≤ j ∧ j ≤ 32) → yset m1 97 11 r1 i j = b i j := fun i j q1 q2 => by rw [yset_n2 q1]; exact F1 i j (amod_r q2)
  have v11 : w32 (yset m1 97 11 r1 97 11) = (yNm 0 999 y).1 := by rw [yset_s]; exact e1
  have T4 : rTk ch n (yset m1 97 11 r1) (yNm 0 999 y).2 := rTk_s T1 (by decide)
  refine ⟨by (first | exact Nat.le_of_ble_eq_true rfl | exact (fun h => absurd h.1 (by decide)) | omega), ?_⟩
  revert g2 v11 T4
  generalize yset m1 97 11 r1 = m4
  intro g2 v11 T4
  have l25 : m4 95 25 = b 95 25 := g2 95 25 (by (first | exact Nat.le_of_ble_eq_true rfl | exact (fun h => absurd h.1 (by decide)) | omega)) (by (first | exact Nat.le_of_ble_eq_true rfl | exact (fun h => absurd h.1 (by decide)) | omega))
  refine rl325 hE (by (first | exact Nat.le_of_ble_eq_true rfl | exact (fun h => absurd h.1 (by decide)) | omega)) T4 (by rw [l25]; exact hk) (fun m' G1 G24 G2 G3 => hQ m' ?_ G2 (fun z => ?_))
  · exact rlR_tr (fun i j hij => g2 i j (fun z => hij (rlF_b ⟨z.1, by (first | exact Nat.le_of_ble_eq_true rfl | exact (fun h => absurd h.1 (by decide)) | omega)⟩)) (fun z => hij (rlF_a ⟨z.1, Or.inr (Or.inl z.2)⟩))) (rlR_rt G1)
  · refine ⟨rDp_fr ?_ G1, rTd_fr (rTd_fr hT (g2 95 24 (by (first | exact Nat.le_of_ble_eq_true rfl | exact (fun h => absurd h.1 (by decide)) | omega)) (by (first | exact Nat.le_of_ble_eq_true rfl | exact (fun h => absurd h.1 (by decide)) | omega)))) G24, by rw [G3 z, l25]⟩
    obtain ⟨c1, c2, c3, c4, c5, c6⟩ := hD
    have k : ∀ i j, 98 ≤ i → m4 i j = b i j := fun i j q => g2 i j (by (first | exact Nat.le_of_ble_eq_true rfl | exact (fun h => absurd h.1 (by decide)) | omega)) (by (first | exact Nat.le_of_ble_eq_true rfl | exact (fun h => absurd h.1 (by decide)) | omega))
    have k7 : ∀ j, j ≠ 11 → m4 97 j = b 97 j := fun j q => g2 97 j (by (first | exact Nat.le_of_ble_eq_true rfl | exact (fun h => absurd h.1 (by decide)) | omega)) (by (first | exact Nat.le_of_ble_eq_true rfl | exact (fun h => absurd h.1 (by decide)) | omega))
    exact ⟨rTv_fr c1 (k7 7 (by decide)) (fun i j h1 h2 => k i j h1), rVo_fr c2 (k7 8 (by decide)) (fun i j h1 h2 => k i j (by (first | exact Nat.le_of_ble_eq_true rfl | exact (fun h => absurd h.1 (by decide)) | omega))), rVe_fr c3 (k7 9 (by decide)) (fun i j h1 h2 => k i j (by (first | exact Nat.le_of_ble_eq_true rfl | exact (fun h => absurd h.1 (by decide)) | omega))), rBk_fr c4 (k7 10 (by decide)) (fun i j h1 h2 => k i j (by (first | exact Nat.le_of_ble_eq_true rfl | exact (fun h => absurd h.1 (by decide)) | omega))), ⟨v11, by rw [k7 12 (by decide)]; exact c5.2⟩, rFs_fr c6 (fun i j h1 h2 => k i j (by (first | exact Nat.le_of_ble_eq_true rfl | exact (fun h => absurd h.1 (by decide)) | omega))) (k7 13 (by decide)) (g2 95 35 (by (first | exact Nat.le_of_ble_eq_true rfl | exact (fun h => absurd h.1 (by decide)) | omega)) (by (first | exact Nat.le_of_ble_eq_true rfl | exact (fun h => absurd h.1 (by decide)) | omega))) (g2 95 36 (by (first | exact Nat.le_of_ble_eq_true rfl | exact (fun h => absurd h.1 (by decide)) | omega)) (by (first | exact Nat.le_of_ble_eq_true rfl | exact (fun h => absurd h.1 (by decide)) | omega)))⟩
theorem rl306 (hE : yEok E) (hd : 7 ≤ d) (h : rTk ch n b y) (hD : rDp b D) (hT : rTd b p q r s) (hk : 0 ≤ w32 (b 95 25) ∧ w32 (b 95 25) ≤ 1000) (hQ : ∀ m, rlR b m → rTk ch n m (pEnd (yNm 0 99999 y).2) → (yOk (pEnd (yNm 0 99999 y).2) → rDp m (D.1, D.2.1, D.2.2.1, D.2.2.2.1, D.2.2.2.2.1, (true, (yNm 0 99999 y).1), D.2.2.2.2.2.2) ∧ rTd m p q r s ∧ w32 (m 95 25) = w32 (b 95 25) + 1) → Q none m) : zG E (d + 1) xm_206 306 [some (1, 95), some (0, w), none, none] [] b Q := by
  refine zgo_ok (n := 60) hE xmo_206 (cs := zc_206) ?_
  simp only [ynok_30, ynok_31, w32c_0, w32c_1, w32c_2, w32c_3, w32c_4, w32c_5, w32c_6, w32c_7, w32c_8, w32c_9, w32c_10, w32c_11, w32c_12, w32c_13, w32c_14, w32c_m1, w32c_m2, w32c_118, Int.reduceAdd, Int.reduceSub, Int.reduceMul, yput_s, yput_n, znl_n, znl_0, znl_1, znl_4, ysum_n, ysum_0, ysum_1, ysum_4, true_and, and_true, Nat.reduceAdd, Nat.reduceLeDiff, true_implies, eq_self, true_or, or_true, or_false, false_or, not_true_eq_false, not_false_eq_true, false_implies, implies_true, yset_s, yset_o, yset_d, ne_eq, Nat.reduceEqDiff, Int.reduceToNat, Int.reduceEq, Int.reduceLE, Int.reduceLT, Classical.not_not, Nat.reduceLT, ↓zvk_s, ↓zvk_n, ↓s_206_0, ↓s_206_1, ↓s_206_4, ↓s_206_7, ↓s_206_8, ↓s_206_11, ↓s_206_13, ↓s_206_16, ↓s_206_17, ↓s_206_18, ↓s_206_21, ↓s_206_22, ↓s_206_23, ↓s_206_26n, ↓s_206_26i, ↓s_206_26p, ↓s_206_27, ↓s_206_28, ↓s_206_29, ↓s_206_32, ↓s_206_35, ↓s_206_36, ↓s_206_37, ↓s_206_40, ↓s_206_43, ↓s_206_44, ↓s_206_45, ↓s_206_48, ↓s_206_49, ↓s_206_50, ↓s_206_53, ↓s_206_54, ↓s_206_57, ↓s_206_58, ↓s_206_59, ↓s_206_60, ↓s_206_61, ↓s_206_62, ↓s_206_65, ↓s_206_66, ↓s_206_67, ↓g_206_70, ↓k_206_70, ↓s_206_71, ↓s_206_74, ↓s_206_77, ↓s_206_78, ↓s_206_79a, ↓s_206_79b, ↓s_206_80, ↓s_206_83, ↓s_206_84, ↓s_206_85, ↓s_206_86, ↓s_206_87, ↓s_206_90, ↓s_206_91, ↓s_206_94, ↓s_206_95, ↓g_206_132, ↓k_206_132, ↓s_206_133, ↓s_206_134, ↓s_206_135, ↓s_206_138, ↓s_206_139n, ↓s_206_139i, ↓s_206_139p, ↓s_206_140, ↓s_206_141, ↓s_206_144, ↓s_206_145, ↓s_206_146, ↓s_206_147, ↓s_206_150, ↓s_206_151, ↓s_206_152, ↓s_206_153, ↓s_206_156, ↓s_206_159, ↓s_206_160, ↓s_206_161, ↓s_206_164, ↓s_206_165, ↓s_206_166, ↓s_206_167, ↓s_206_169, ↓s_206_172, ↓s_206_173, ↓s_206_174, ↓s_206_177, ↓s_206_178, ↓s_206_179, ↓s_206_180, ↓s_206_183, ↓s_206_186, ↓s_206_187, ↓s_206_188, ↓s_206_189, ↓s_206_190, ↓s_206_191, ↓s_206_194, ↓s_206_195, ↓s_206_196, ↓s_206_199, ↓g_206_202, ↓k_206_202, ↓s_206_203, ↓s_206_205, ↓s_206_206, ↓s_206_207, ↓s_206_210, ↓s_206_211, ↓s_206_214, ↓g_206_217, ↓k_206_217, ↓s_206_218, ↓s_206_219, ↓s_206_220, ↓s_206_221, ↓s_206_224, ↓s_206_225, ↓s_206_228, ↓g_206_231, ↓k_206_231, ↓s_206_232, ↓s_206_233, ↓s_206_236n, ↓s_206_236i, ↓s_206_236p, ↓s_206_237, ↓s_206_238, ↓s_206_241, ↓s_206_242, ↓s_206_243, ↓s_206_244, ↓s_206_245, ↓s_206_246, ↓s_206_249, ↓s_206_250, ↓s_206_251, ↓s_206_254, ↓s_206_255, ↓s_206_256, ↓s_206_259, ↓s_206_260, ↓s_206_261, ↓s_206_262, ↓s_206_263, ↓s_206_264, ↓s_206_267, ↓s_206_270, ↓s_206_271, ↓s_206_272, ↓s_206_274, ↓s_206_275, ↓s_206_276, ↓s_206_279, ↓s_206_280, ↓s_206_281, ↓s_206_282, ↓s_206_283, ↓s_206_284, ↓s_206_287, ↓g_206_290, ↓k_206_290, ↓s_206_291, ↓s_206_292, ↓s_206_293, ↓s_206_294, ↓s_206_297, ↓s_206_300, ↓s_206_303, ↓g_206_306, ↓k_206_306, ↓s_206_307, ↓s_206_308, ↓s_206_309, ↓s_206_310, ↓s_206_312, ↓s_206_315, ↓s_206_318, ↓g_206_321, ↓k_206_321, ↓s_206_322, ↓g_206_325, ↓k_206_325, ↓s_206_326, ↓s_206_329, ↓s_206_332, ↓s_206_333, ↓s_206_334, ↓s_206_336, ↓s_206_339, ↓s_206_342, ↓s_206_343, ↓s_206_344, ↓s_206_347, ↓s_206_350, ↓s_206_351, ↓s_206_354, ↓s_206_355a, ↓s_206_355b, ↓s_206_356, ↓s_206_359, ↓s_206_360, ↓s_206_361, ↓s_206_364, w32c_99, w32c_9999, w32c_999, w32c_99999, w32c_59, ↓s_170_0, ↓s_170_1, ↓s_170_4, ↓s_170_6, ↓s_170_7, ↓s_170_8, ↓s_170_9, zar_112, zia_112, zln_112, zit_112, zar_113, zia_113, zln_113, zit_113, zar_98, zia_98, zln_98, zit_98, zar_99, zia_99, zln_99, zit_99, zar_100, zia_100, zln_100, zit_100, zar_97, zia_97, zln_97, zit_97, zio_95]
  refine rf_numeral hE (by (first | exact Nat.le_of_ble_eq_true rfl | exact (fun h => absurd h.1 (by decide)) | omega)) h (by decide) (by decide) (fun r1 m1 F1 e1 T1 => ?_)
  rw [w32c_0, show w32 99999 = 99999 by decide] at e1 T1
  refine zgk_s hE xmo_206 60 zc_206 ?_
  simp only [ynok_30, ynok_31, w32c_0, w32c_1, w32c_2, w32c_3, w32c_4, w32c_5, w32c_6, w32c_7, w32c_8, w32c_9, w32c_10, w32c_11, w32c_12, w32c_13, w32c_14, w32c_m1, w32c_m2, w32c_118, Int.reduceAdd, Int.reduceSub, Int.reduceMul, yput_s, yput_n, znl_n, znl_0, znl_1, znl_4, ysum_n, ysum_0, ysum_1, ysum_4, true_and, and_true, Nat.reduceAdd, Nat.reduceLeDiff, true_implies, eq_self, true_or, or_true, or_false, false_or, not_true_eq_false, not_false_eq_true, false_implies, implies_true, yset_s, yset_o, yset_d, ne_eq, Nat.reduceEqDiff, Int.reduceToNat, Int.reduceEq, Int.reduceLE, Int.reduceLT, Classical.not_not, Nat.reduceLT, ↓zvk_s, ↓zvk_n, ↓s_206_0, ↓s_206_1, ↓s_206_4, ↓s_206_7, ↓s_206_8, ↓s_206_11, ↓s_206_13, ↓s_206_16, ↓s_206_17, ↓s_206_18, ↓s_206_21, ↓s_206_22, ↓s_206_23, ↓s_206_26n, ↓s_206_26i, ↓s_206_26p, ↓s_206_27, ↓s_206_28, ↓s_206_29, ↓s_206_32, ↓s_206_35, ↓s_206_36, ↓s_206_37, ↓s_206_40, ↓s_206_43, ↓s_206_44, ↓s_206_45, ↓s_206_48, ↓s_206_49, ↓s_206_50, ↓s_206_53, ↓s_206_54, ↓s_206_57, ↓s_206_58, ↓s_206_59, ↓s_206_60, ↓s_206_61, ↓s_206_62, ↓s_206_65, ↓s_206_66, ↓s_206_67, ↓g_206_70, ↓k_206_70, ↓s_206_71, ↓s_206_74, ↓s_206_77, ↓s_206_78, ↓s_206_79a, ↓s_206_79b, ↓s_206_80, ↓s_206_83, ↓s_206_84, ↓s_206_85, ↓s_206_86, ↓s_206_87, ↓s_206_90, ↓s_206_91, ↓s_206_94, ↓s_206_95, ↓g_206_132, ↓k_206_132, ↓s_206_133, ↓s_206_134, ↓s_206_135, ↓s_206_138, ↓s_206_139n, ↓s_206_139i, ↓s_206_139p, ↓s_206_140, ↓s_206_141, ↓s_206_144, ↓s_206_145, ↓s_206_146, ↓s_206_147, ↓s_206_150, ↓s_206_151, ↓s_206_152, ↓s_206_153, ↓s_206_156, ↓s_206_159, ↓s_206_160, ↓s_206_161, ↓s_206_164, ↓s_206_165, ↓s_206_166, ↓s_206_167, ↓s_206_169, ↓s_206_172, ↓s_206_173, ↓s_206_174, ↓s_206_177, ↓s_206_178, ↓s_206_179, ↓s_206_180, ↓s_206_183, ↓s_206_186, ↓s_206_187, ↓s_206_188, ↓s_206_189, ↓s_206_190, ↓s_206_191, ↓s_206_194, ↓s_206_195, ↓s_206_196, ↓s_206_199, ↓g_206_202, ↓k_206_202, ↓s_206_203, ↓s_206_205, ↓s_206_206, ↓s_206_207, ↓s_206_210, ↓s_206_211, ↓s_206_214, ↓g_206_217, ↓k_206_217, ↓s_206_218, ↓s_206_219, ↓s_206_220, ↓s_206_221, ↓s_206_224, ↓s_206_225, ↓s_206_228, ↓g_206_231, ↓k_206_231, ↓s_206_232, ↓s_206_233, ↓s_206_236n, ↓s_206_236i, ↓s_206_236p, ↓s_206_237, ↓s_206_238, ↓s_206_241, ↓s_206_242, ↓s_206_243, ↓s_206_244, ↓s_206_245, ↓s_206_246, ↓s_206_249, ↓s_206_250, ↓s_206_251, ↓s_206_254, ↓s_206_255, ↓s_206_256, ↓s_206_259, ↓s_206_260, ↓s_206_261, ↓s_206_262, ↓s_206_263, ↓s_206_264, ↓s_206_267, ↓s_206_270, ↓s_206_271, ↓s_206_272, ↓s_206_274, ↓s_206_275, ↓s_206_276, ↓s_206_279, ↓s_206_280, ↓s_206_281, ↓s_206_282, ↓s_206_283, ↓s_206_284, ↓s_206_287, ↓g_206_290, ↓k_206_290, ↓s_206_291, ↓s_206_292, ↓s_206_293, ↓s_206_294, ↓s_206_297, ↓s_206_300, ↓s_206_303, ↓g_206_306, ↓k_206_306, ↓s_206_307, ↓s_206_308, ↓s_206_309, ↓s_206_310, ↓s_206_312, ↓s_206_315, ↓s_206_318, ↓g_206_321, ↓k_206_321, ↓s_206_322, ↓g_206_325, ↓k_206_325, ↓s_206_326, ↓s_206_329, ↓s_206_332, ↓s_206_333, ↓s_206_334, ↓s_206_336, ↓s_206_339, ↓s_206_342, ↓s_206_343, ↓s_206_344, ↓s_206_347, ↓s_206_350, ↓s_206_351, ↓s_206_354, ↓s_206_355a, ↓s_206_355b, ↓s_206_356, ↓s_206_359, ↓s_206_360, ↓s_206_361, ↓s_206_364, w32c_99, w32c_9999, w32c_999, w32c_99999, w32c_59, ↓s_221_0, ↓s_221_1, ↓s_221_4, ↓s_221_6, ↓s_221_7, ↓s_221_8, ↓s_221_9, ↓s_221_10, zar_112, zia_112, zln_112, zit_112, zar_113, zia_113, zln_113, zit_113, zar_98, zia_98, zln_98, zit_98, zar_99, zia_99, zln_99, zit_99, zar_100, zia_100, zln_100, zit_100, zar_97, zia_97, zln_97, zit_97, zio_95]
  have g2 : ∀ i j, ¬ (i = 97 ∧ j = 12) → ¬ (i = 95 ∧ 27 ≤ j ∧ j ≤ 32) → yset m1 97 12 r1 i j = b i j := fun i j q1 q2 => by rw [yset_n2 q1]; exact F1 i j (amod_r q2)
  have v11 : w32 (yset m1 97 12 r1 97 12) = (yNm 0 99999 y).1 := by rw [yset_s]; exact e1
  have T4 : rTk ch n (yset m1 97 12 r1) (yNm 0 99999 y).2 := rTk_s T1 (by decide)
  refine ⟨by (first | exact Nat.le_of_ble_eq_true rfl | exact (fun h => absurd h.1 (by decide)) | omega), ?_⟩
  revert g2 v11 T4
  generalize yset m1 97 12 r1 = m4
  intro g2 v11 T4
  have l25 : m4 95 25 = b 95 25 := g2 95 25 (by (first | exact Nat.le_of_ble_eq_true rfl | exact (fun h => absurd h.1 (by decide)) | omega)) (by (first | exact Nat.le_of_ble_eq_true rfl | exact (fun h => absurd h.1 (by decide)) | omega))
  refine rl325 hE (by (first | exact Nat.le_of_ble_eq_true rfl | exact (fun h => absurd h.1 (by decide)) | omega)) T4 (by rw [l25]; exact hk) (fun m' G1 G24 G2 G3 => hQ m' ?_ G2 (fun z => ?_))
  · exact rlR_tr (fun i j hij => g2 i j (fun z => hij (rlF_b ⟨z.1, by (first | exact Nat.le_of_ble_eq_true rfl | exact (fun h => absurd h.1 (by decide)) | omega)⟩)) (fun z => hij (rlF_a ⟨z.1, Or.inr (Or.inl z.2)⟩))) (rlR_rt G1)
  · refine ⟨rDp_fr ?_ G1, rTd_fr (rTd_fr hT (g2 95 24 (by (first | exact Nat.le_of_ble_eq_true rfl | exact (fun h => absurd h.1 (by decide)) | omega)) (by (first | exact Nat.le_of_ble_eq_true rfl | exact (fun h => absurd h.1 (by decide)) | omega)))) G24, by rw [G3 z, l25]⟩
    obtain ⟨c1, c2, c3, c4, c5, c6⟩ := hD
    have k : ∀ i j, 98 ≤ i → m4 i j = b i j := fun i j q => g2 i j (by (first | exact Nat.le_of_ble_eq_true rfl | exact (fun h => absurd h.1 (by decide)) | omega)) (by (first | exact Nat.le_of_ble_eq_true rfl | exact (fun h => absurd h.1 (by decide)) | omega))
    have k7 : ∀ j, j ≠ 12 → m4 97 j = b 97 j := fun j q => g2 97 j (by (first | exact Nat.le_of_ble_eq_true rfl | exact (fun h => absurd h.1 (by decide)) | omega)) (by (first | exact Nat.le_of_ble_eq_true rfl | exact (fun h => absurd h.1 (by decide)) | omega))
    exact ⟨rTv_fr c1 (k7 7 (by decide)) (fun i j h1 h2 => k i j h1), rVo_fr c2 (k7 8 (by decide)) (fun i j h1 h2 => k i j (by (first | exact Nat.le_of_ble_eq_true rfl | exact (fun h => absurd h.1 (by decide)) | omega))), rVe_fr c3 (k7 9 (by decide)) (fun i j h1 h2 => k i j (by (first | exact Nat.le_of_ble_eq_true rfl | exact (fun h => absurd h.1 (by decide)) | omega))), rBk_fr c4 (k7 10 (by decide)) (fun i j h1 h2 => k i j (by (first | exact Nat.le_of_ble_eq_true rfl | exact (fun h => absurd h.1 (by decide)) | omega))), ⟨by rw [k7 11 (by decide)]; exact c5.1, v11⟩, rFs_fr c6 (fun i j h1 h2 => k i j (by (first | exact Nat.le_of_ble_eq_true rfl | exact (fun h => absurd h.1 (by decide)) | omega))) (k7 13 (by decide)) (g2 95 35 (by (first | exact Nat.le_of_ble_eq_true rfl | exact (fun h => absurd h.1 (by decide)) | omega)) (by (first | exact Nat.le_of_ble_eq_true rfl | exact (fun h => absurd h.1 (by decide)) | omega))) (g2 95 36 (by (first | exact Nat.le_of_ble_eq_true rfl | exact (fun h => absurd h.1 (by decide)) | omega)) (by (first | exact Nat.le_of_ble_eq_true rfl | exact (fun h => absurd h.1 (by decide)) | omega)))⟩
end RN
end
section
section RO
variable {E : yE} {b : yMem} {Q : Option yV → yMem → Prop} {ch : Nat → Int} {n d : Nat} {y : sY} {D : dDc} {p q r s : Bool} {w : Int}
/-- baker -/
theorem rl231 (hE : yEok E) (hd : 682 ≤ d) (h : rTk ch n b y) (hD : rDp b D) (hT : rTd b p q r s) (hn : D.2.2.2.1.length < 3) (hk : 0 ≤ w32 (b 95 25) ∧ w32 (b 95 25) ≤ 1000) {W : sX} (hW : W = pE (yNm 0 999 (yFr (D.2.2.2.1.map (fun t => t.1)) y)).2 D.2.2.2.2.2.2.2.1 D.2.2.2.2.2.2.2.2) (hQ : ∀ m, rlR b m → rTk ch n m (pEnd (yOf W)) → (yOk (pEnd (yOf W)) → rDp m (D.1, D.2.1, D.2.2.1, D.2.2.2.1 ++ [(yVl y, (yNm 0 999 (yFr (D.2.2.2.1.map (fun t => t.1)) y)).1)], D.2.2.2.2.1, D.2.2.2.2.2.1, dFx D.2.2.2.2.2.2 (2 + D.2.2.2.1.length) W) ∧ rTd m p q r s ∧ w32 (m 95 25) = w32 (b 95 25) + 1) → Q none m) : zG E (d + 1) xm_206 231 [some (1, 95), some (0, w), none, none] [] b Q := by
  have N := hD.2.2.2.1.1
  have hlm : (D.2.2.2.1.map (fun t => t.1)).length = D.2.2.2.1.length := List.length_map _
  have N1 : w32 (b 97 10) = (D.2.2.2.1.length : Int) := by rw [← hlm]; exact N.1
  have et : w32 (3 + b 97 10) = ((3 + D.2.2.2.1.length : Nat) : Int) := by rw [w32_ad (by rw [w32c_3]; (first | exact Nat.le_of_ble_eq_true rfl | exact (fun h => absurd h.1 (by decide)) | omega)) (by rw [w32c_3]; (first | exact Nat.le_of_ble_eq_true rfl | exact (fun h => absurd h.1 (by decide)) | omega)), w32c_3]; (first | exact Nat.le_of_ble_eq_true rfl | exact (fun h => absurd h.1 (by decide)) | omega)
  have ett : (w32 (3 + b 97 10)).toNat = 3 + D.2.2.2.1.length := by rw [et]; exact Int.toNat_natCast _
  have es : w32 (7 + b 97 10) = ((5 + (2 + D.2.2.2.1.length) : Nat) : Int) := by rw [w32_ad (by rw [w32c_7]; (first | exact Nat.le_of_ble_eq_true rfl | exact (fun h => absurd h.1 (by decide)) | omega)) (by rw [w32c_7]; (first | exact Nat.le_of_ble_eq_true rfl | exact (fun h => absurd h.1 (by decide)) | omega)), w32c_7]; (first | exact Nat.le_of_ble_eq_true rfl | exact (fun h => absurd h.1 (by decide)) | omega)
  have ei : w32 (b 97 10 + 1) = ((D.2.2.2.1.length + 1 : Nat) : Int) := by rw [w32_ad (by rw [w32c_1]; (first | exact Nat.le_of_ble_eq_true rfl | exact (fun h => absurd h.1 (by decide)) | omega)) (by rw [w32c_1]; (first | exact Nat.le_of_ble_eq_true rfl | exact (fun h => absurd h.1 (by decide)) | omega)), w32c_1]; (first | exact Nat.le_of_ble_eq_true rfl | exact (fun h => absurd h.1 (by decide)) | omega)
  refine zgo_ok (n := 60) hE xmo_206 (cs := zc_206) ?_
  simp only [ynok_30, ynok_31, w32c_0, w32c_1, w32c_2, w32c_3, w32c_4, w32c_5, w32c_6, w32c_7, w32c_8, w32c_9, w32c_10, w32c_11, w32c_12, w32c_13, w32c_14, w32c_m1, w32c_m2, w32c_118, Int.reduceAdd, Int.reduceSub, Int.reduceMul, yput_s, yput_n, znl_n, znl_0, znl_1, znl_4, ysum_n, ysum_0, ysum_1, ysum_4, true_and, and_true, Nat.reduceAdd, Nat.reduceLeDiff, true_implies, eq_self, true_or, or_true, or_false, false_or, not_true_eq_false, not_false_eq_true, false_implies, implies_true, yset_s, yset_o, yset_d, ne_eq, Nat.reduceEqDiff, Int.reduceToNat, Int.reduceEq, Int.reduceLE, Int.reduceLT, Classical.not_not, Nat.reduceLT, ↓zvk_s, ↓zvk_n, ↓s_206_0, ↓s_206_1, ↓s_206_4, ↓s_206_7, ↓s_206_8, ↓s_206_11, ↓s_206_13, ↓s_206_16, ↓s_206_17, ↓s_206_18, ↓s_206_21, ↓s_206_22, ↓s_206_23, ↓s_206_26n, ↓s_206_26i, ↓s_206_26p, ↓s_206_27, ↓s_206_28, ↓s_206_29, ↓s_206_32, ↓s_206_35, ↓s_206_36, ↓s_206_37, ↓s_206_40, ↓s_206_43, ↓s_206_44, ↓s_206_45, ↓s_206_48, ↓s_206_49, ↓s_206_50, ↓s_206_53, ↓s_206_54, ↓s_206_57, ↓s_206_58, ↓s_206_59, ↓s_206_60, ↓s_206_61, ↓s_206_62, ↓s_206_65, ↓s_206_66, ↓s_206_67, ↓g_206_70, ↓k_206_70, ↓s_206_71, ↓s_206_74, ↓s_206_77, ↓s_206_78, ↓s_206_79a, ↓s_206_79b, ↓s_206_80, ↓s_206_83, ↓s_206_84, ↓s_206_85, ↓s_206_86, ↓s_206_87, ↓s_206_90, ↓s_206_91, ↓s_206_94, ↓s_206_95, ↓g_206_132, ↓k_206_132, ↓s_206_133, ↓s_206_134, ↓s_206_135, ↓s_206_138, ↓s_206_139n, ↓s_206_139i, ↓s_206_139p, ↓s_206_140, ↓s_206_141, ↓s_206_144, ↓s_206_145, ↓s_206_146, ↓s_206_147, ↓s_206_150, ↓s_206_151, ↓s_206_152, ↓s_206_153, ↓s_206_156, ↓s_206_159, ↓s_206_160, ↓s_206_161, ↓s_206_164, ↓s_206_165, ↓s_206_166, ↓s_206_167, ↓s_206_169, ↓s_206_172, ↓s_206_173, ↓s_206_174, ↓s_206_177, ↓s_206_178, ↓s_206_179, ↓s_206_180, ↓s_206_183, ↓s_206_186, ↓s_206_187, ↓s_206_188, ↓s_206_189, ↓s_206_190, ↓s_206_191, ↓s_206_194, ↓s_206_195, ↓s_206_196, ↓s_206_199, ↓g_206_202, ↓k_206_202, ↓s_206_203, ↓s_206_205, ↓s_206_206, ↓s_206_207, ↓s_206_210, ↓s_206_211, ↓s_206_214, ↓g_206_217, ↓k_206_217, ↓s_206_218, ↓s_206_219, ↓s_206_220, ↓s_206_221, ↓s_206_224, ↓s_206_225, ↓s_206_228, ↓g_206_231, ↓k_206_231, ↓s_206_232, ↓s_206_233, ↓s_206_236n, ↓s_206_236i, ↓s_206_236p, ↓s_206_237, ↓s_206_238, ↓s_206_241, ↓s_206_242, ↓s_206_243, ↓s_206_244, ↓s_206_245, ↓s_206_246, ↓s_206_249, ↓s_206_250, ↓s_206_251, ↓s_206_254, ↓s_206_255, ↓s_206_256, ↓s_206_259, ↓s_206_260, ↓s_206_261, ↓s_206_262, ↓s_206_263, ↓s_206_264, ↓s_206_267, ↓s_206_270, ↓s_206_271, ↓s_206_272, ↓s_206_274, ↓s_206_275, ↓s_206_276, ↓s_206_279, ↓s_206_280, ↓s_206_281, ↓s_206_282, ↓s_206_283, ↓s_206_284, ↓s_206_287, ↓g_206_290, ↓k_206_290, ↓s_206_291, ↓s_206_292, ↓s_206_293, ↓s_206_294, ↓s_206_297, ↓s_206_300, ↓s_206_303, ↓g_206_306, ↓k_206_306, ↓s_206_307, ↓s_206_308, ↓s_206_309, ↓s_206_310, ↓s_206_312, ↓s_206_315, ↓s_206_318, ↓g_206_321, ↓k_206_321, ↓s_206_322, ↓g_206_325, ↓k_206_325, ↓s_206_326, ↓s_206_329, ↓s_206_332, ↓s_206_333, ↓s_206_334, ↓s_206_336, ↓s_206_339, ↓s_206_342, ↓s_206_343, ↓s_206_344, ↓s_206_347, ↓s_206_350, ↓s_206_351, ↓s_206_354, ↓s_206_355a, ↓s_206_355b, ↓s_206_356, ↓s_206_359, ↓s_206_360, ↓s_206_361, ↓s_206_364, w32c_99, w32c_9999, w32c_999, w32c_99999, w32c_59, ↓s_170_0, ↓s_170_1, ↓s_170_4, ↓s_170_6, ↓s_170_7, ↓s_170_8, ↓s_170_9, zar_112, zia_112, zln_112, zit_112, zar_113, zia_113, zln_113, zit_113, zar_98, zia_98, zln_98, zit_98, zar_99, zia_99, zln_99, zit_99, zar_100, zia_100, zln_100, zit_100, zar_97, zia_97, zln_97, zit_97, zio_95]
  refine ⟨by (first | exact Nat.le_of_ble_eq_true rfl | exact (fun h => absurd h.1 (by decide)) | omega), ?_⟩
  refine rf_fresh hE (by (first | exact Nat.le_of_ble_eq_true rfl | exact (fun h => absurd h.1 (by decide)) | omega)) (z := 112) (L := 6) (q := 3) (off := 3) zar_112 w32c_3 N.1 (by decide) (by decide) N h (fun r1 m1 F1 T1 e1 => ?_)
  refine zgk_s hE xmo_206 60 zc_206 ?_
  simp only [ynok_30, ynok_31, w32c_0, w32c_1, w32c_2, w32c_3, w32c_4, w32c_5, w32c_6, w32c_7, w32c_8, w32c_9, w32c_10, w32c_11, w32c_12, w32c_13, w32c_14, w32c_m1, w32c_m2, w32c_118, Int.reduceAdd, Int.reduceSub, Int.reduceMul, yput_s, yput_n, znl_n, znl_0, znl_1, znl_4, ysum_n, ysum_0, ysum_1, ysum_4, true_and, and_true, Nat.reduceAdd, Nat.reduceLeDiff, true_implies, eq_self, true_or, or_true, or_false, false_or, not_true_eq_false, not_false_eq_true, false_implies, implies_true, yset_s, yset_o, yset_d, ne_eq, Nat.reduceEqDiff, Int.reduceToNat, Int.reduceEq, Int.reduceLE, Int.reduceLT, Classical.not_not, Nat.reduceLT, ↓zvk_s, ↓zvk_n, ↓s_206_0, ↓s_206_1, ↓s_206_4, ↓s_206_7, ↓s_206_8, ↓s_206_11, ↓s_206_13, ↓s_206_16, ↓s_206_17, ↓s_206_18, ↓s_206_21, ↓s_206_22, ↓s_206_23, ↓s_206_26n, ↓s_206_26i, ↓s_206_26p, ↓s_206_27, ↓s_206_28, ↓s_206_29, ↓s_206_32, ↓s_206_35, ↓s_206_36, ↓s_206_37, ↓s_206_40, ↓s_206_43, ↓s_206_44, ↓s_206_45, ↓s_206_48, ↓s_206_49, ↓s_206_50, ↓s_206_53, ↓s_206_54, ↓s_206_57, ↓s_206_58, ↓s_206_59, ↓s_206_60, ↓s_206_61, ↓s_206_62, ↓s_206_65, ↓s_206_66, ↓s_206_67, ↓g_206_70, ↓k_206_70, ↓s_206_71, ↓s_206_74, ↓s_206_77, ↓s_206_78, ↓s_206_79a, ↓s_206_79b, ↓s_206_80, ↓s_206_83, ↓s_206_84, ↓s_206_85, ↓s_206_86, ↓s_206_87, ↓s_206_90, ↓s_206_91, ↓s_206_94, ↓s_206_95, ↓g_206_132, ↓k_206_132, ↓s_206_133, ↓s_206_134, ↓s_206_135, ↓s_206_138, ↓s_206_139n, ↓s_206_139i, ↓s_206_139p, ↓s_206_140, ↓s_206_141, ↓s_206_144, ↓s_206_145, ↓s_206_146, ↓s_206_147, ↓s_206_150, ↓s_206_151, ↓s_206_152, ↓s_206_153, ↓s_206_156, ↓s_206_159, ↓s_206_160, ↓s_206_161, ↓s_206_164, ↓s_206_165, ↓s_206_166, ↓s_206_167, ↓s_206_169, ↓s_206_172, ↓s_206_173, ↓s_206_174, ↓s_206_177, ↓s_206_178, ↓s_206_179, ↓s_206_180, ↓s_206_183, ↓s_206_186, ↓s_206_187, ↓s_206_188, ↓s_206_189, ↓s_206_190, ↓s_206_191, ↓s_206_194, ↓s_206_195, ↓s_206_196, ↓s_206_199, ↓g_206_202, ↓k_206_202, ↓s_206_203, ↓s_206_205, ↓s_206_206, ↓s_206_207, ↓s_206_210, ↓s_206_211, ↓s_206_214, ↓g_206_217, ↓k_206_217, ↓s_206_218, ↓s_206_219, ↓s_206_220, ↓s_206_221, ↓s_206_224, ↓s_206_225, ↓s_206_228, ↓g_206_231, ↓k_206_231, ↓s_206_232, ↓s_206_233, ↓s_206_236n, ↓s_206_236i, ↓s_206_236p, ↓s_206_237, ↓s_206_238, ↓s_206_241, ↓s_206_242, ↓s_206_243, ↓s_206_244, ↓s_206_245, ↓s_206_246, ↓s_206_249, ↓s_206_250, ↓s_206_251, ↓s_206_254, ↓s_206_255, ↓s_206_256, ↓s_206_259, ↓s_206_260, ↓s_206_261, ↓s_206_262, ↓s_206_263, ↓s_206_264, ↓s_206_267, ↓s_206_270, ↓s_206_271, ↓s_206_272, ↓s_206_274, ↓s_206_275, ↓s_206_276, ↓s_206_279, ↓s_206_280, ↓s_206_281, ↓s_206_282, ↓s_206_283, ↓s_206_284, ↓s_206_287, ↓g_206_290, ↓k_206_290, ↓s_206_291, ↓s_206_292, ↓s_206_293, ↓s_206_294, ↓s_206_297, ↓s_206_300, ↓s_206_303, ↓g_206_306, ↓k_206_306, ↓s_206_307, ↓s_206_308, ↓s_206_309, ↓s_206_310, ↓s_206_312, ↓s_206_315, ↓s_206_318, ↓g_206_321, ↓k_206_321, ↓s_206_322, ↓g_206_325, ↓k_206_325, ↓s_206_326, ↓s_206_329, ↓s_206_332, ↓s_206_333, ↓s_206_334, ↓s_206_336, ↓s_206_339, ↓s_206_342, ↓s_206_343, ↓s_206_344, ↓s_206_347, ↓s_206_350, ↓s_206_351, ↓s_206_354, ↓s_206_355a, ↓s_206_355b, ↓s_206_356, ↓s_206_359, ↓s_206_360, ↓s_206_361, ↓s_206_364, w32c_99, w32c_9999, w32c_999, w32c_99999, w32c_59, ↓s_170_0, ↓s_170_1, ↓s_170_4, ↓s_170_6, ↓s_170_7, ↓s_170_8, ↓s_170_9, zar_112, zia_112, zln_112, zit_112, zar_113, zia_113, zln_113, zit_113, zar_98, zia_98, zln_98, zit_98, zar_99, zia_99, zln_99, zit_99, zar_100, zia_100, zln_100, zit_100, zar_97, zia_97, zln_97, zit_97, zio_95]
  refine ⟨⟨by (first | exact Nat.le_of_ble_eq_true rfl | exact (fun h => absurd h.1 (by decide)) | omega), by (first | exact Nat.le_of_ble_eq_true rfl | exact (fun h => absurd h.1 (by decide)) | omega)⟩, ?_⟩
  rw [ett]
  refine rf_numeral hE (by (first | exact Nat.le_of_ble_eq_true rfl | exact (fun h => absurd h.1 (by decide)) | omega)) (rTk_s T1 (by decide)) (by decide) (by decide) (fun r2 m2 F2 e2 T2 => ?_)
  rw [w32c_0, show w32 999 = 999 by decide] at e2 T2
  refine zgk_s hE xmo_206 60 zc_206 ?_
  simp only [ynok_30, ynok_31, w32c_0, w32c_1, w32c_2, w32c_3, w32c_4, w32c_5, w32c_6, w32c_7, w32c_8, w32c_9, w32c_10, w32c_11, w32c_12, w32c_13, w32c_14, w32c_m1, w32c_m2, w32c_118, Int.reduceAdd, Int.reduceSub, Int.reduceMul, yput_s, yput_n, znl_n, znl_0, znl_1, znl_4, ysum_n, ysum_0, ysum_1, ysum_4, true_and, and_true, Nat.reduceAdd, Nat.reduceLeDiff, true_implies, eq_self, true_or, or_true, or_false, false_or, not_true_eq_false, not_false_eq_true, false_implies, implies_true, yset_s, yset_o, yset_d, ne_eq, Nat.reduceEqDiff, Int.reduceToNat, Int.reduceEq, Int.reduceLE, Int.reduceLT, Classical.not_not, Nat.reduceLT, ↓zvk_s, ↓zvk_n, ↓s_206_0, ↓s_206_1, ↓s_206_4, ↓s_206_7, ↓s_206_8, ↓s_206_11, ↓s_206_13, ↓s_206_16, ↓s_206_17, ↓s_206_18, ↓s_206_21, ↓s_206_22, ↓s_206_23, ↓s_206_26n, ↓s_206_26i, ↓s_206_26p, ↓s_206_27, ↓s_206_28, ↓s_206_29, ↓s_206_32, ↓s_206_35, ↓s_206_36, ↓s_206_37, ↓s_206_40, ↓s_206_43, ↓s_206_44, ↓s_206_45, ↓s_206_48, ↓s_206_49, ↓s_206_50, ↓s_206_53, ↓s_206_54, ↓s_206_57, ↓s_206_58, ↓s_206_59, ↓s_206_60, ↓s_206_61, ↓s_206_62, ↓s_206_65, ↓s_206_66, ↓s_206_67, ↓g_206_70, ↓k_206_70, ↓s_206_71, ↓s_206_74, ↓s_206_77, ↓s_206_78, ↓s_206_79a, ↓s_206_79b, ↓s_206_80, ↓s_206_83, ↓s_206_84, ↓s_206_85, ↓s_206_86, ↓s_206_87, ↓s_206_90, ↓s_206_91, ↓s_206_94, ↓s_206_95, ↓g_206_132, ↓k_206_132, ↓s_206_133, ↓s_206_134, ↓s_206_135, ↓s_206_138, ↓s_206_139n, ↓s_206_139i, ↓s_206_139p, ↓s_206_140, ↓s_206_141, ↓s_206_144, ↓s_206_145, ↓s_206_146, ↓s_206_147, ↓s_206_150, ↓s_206_151, ↓s_206_152, ↓s_206_153, ↓s_206_156, ↓s_206_159, ↓s_206_160, ↓s_206_161, ↓s_206_164, ↓s_206_165, ↓s_206_166, ↓s_206_167, ↓s_206_169, ↓s_206_172, ↓s_206_173, ↓s_206_174, ↓s_206_177, ↓s_206_178, ↓s_206_179, ↓s_206_180, ↓s_206_183, ↓s_206_186, ↓s_206_187, ↓s_206_188, ↓s_206_189, ↓s_206_190, ↓s_206_191, ↓s_206_194, ↓s_206_195, ↓s_206_196, ↓s_206_199, ↓g_206_202, ↓k_206_202, ↓s_206_203, ↓s_206_205, ↓s_206_206, ↓s_206_207, ↓s_206_210, ↓s_206_211, ↓s_206_214, ↓g_206_217, ↓k_206_217, ↓s_206_218, ↓s_206_219, ↓s_206_220, ↓s_206_221, ↓s_206_224, ↓s_206_225, ↓s_206_228, ↓g_206_231, ↓k_206_231, ↓s_206_232, ↓s_206_233, ↓s_206_236n, ↓s_206_236i, ↓s_206_236p, ↓s_206_237, ↓s_206_238, ↓s_206_241, ↓s_206_242, ↓s_206_243, ↓s_206_244, ↓s_206_245, ↓s_206_246, ↓s_206_249, ↓s_206_250, ↓s_206_251, ↓s_206_254, ↓s_206_255, ↓s_206_256, ↓s_206_259, ↓s_206_260, ↓s_206_261, ↓s_206_262, ↓s_206_263, ↓s_206_264, ↓s_206_267, ↓s_206_270, ↓s_206_271, ↓s_206_272, ↓s_206_274, ↓s_206_275, ↓s_206_276, ↓s_206_279, ↓s_206_280, ↓s_206_281, ↓s_206_282, ↓s_206_283, ↓s_206_284, ↓s_206_287, ↓g_206_290, ↓k_206_290, ↓s_206_291, ↓s_206_292, ↓s_206_293, ↓s_206_294, ↓s_206_297, ↓s_206_300, ↓s_206_303, ↓g_206_306, ↓k_206_306, ↓s_206_307, ↓s_206_308, ↓s_206_309, ↓s_206_310, ↓s_206_312, ↓s_206_315, ↓s_206_318, ↓g_206_321, ↓k_206_321, ↓s_206_322, ↓g_206_325, ↓k_206_325, ↓s_206_326, ↓s_206_329, ↓s_206_332, ↓s_206_333, ↓s_206_334, ↓s_206_336, ↓s_206_339, ↓s_206_342, ↓s_206_343, ↓s_206_344, ↓s_206_347, ↓s_206_350, ↓s_206_351, ↓s_206_354, ↓s_206_355a, ↓s_206_355b, ↓s_206_356, ↓s_206_359, ↓s_206_360, ↓s_206_361, ↓s_206_364, w32c_99, w32c_9999, w32c_999, w32c_99999, w32c_59, ↓s_170_0, ↓s_170_1, ↓s_170_4, ↓s_170_6, ↓s_170_7, ↓s_170_8, ↓s_170_9, zar_112, zia_112, zln_112, zit_112, zar_113, zia_113, zln_113, zit_113, zar_98, zia_98, zln_98, zit_98, zar_99, zia_99, zln_99, zit_99, zar_100, zia_100, zln_100, zit_100, zar_97, zia_97, zln_97, zit_97, zio_95]
  refine ⟨⟨by (first | exact Nat.le_of_ble_eq_true rfl | exact (fun h => absurd h.1 (by decide)) | omega), by (first | exact Nat.le_of_ble_eq_true rfl | exact (fun h => absurd h.1 (by decide)) | omega)⟩, ?_⟩
  rw [ett]
  have g1 : ∀ i j, ¬ (112 ≤ i ∧ i ≤ 113 ∧ j = 3 + D.2.2.2.1.length) → ¬ (i = 95 ∧ 27 ≤ j ∧ j ≤ 32) → yset m2 113 (3 + D.2.2.2.1.length) r2 i j = b i j := fun i j q1 q3 => by
    rw [yset_n2 (fun z => q1 (by (first | exact Nat.le_of_ble_eq_true rfl | exact (fun h => absurd h.1 (by decide)) | omega))), F2 i j (amod_r q3), yset_n2 (fun z => q1 (by (first | exact Nat.le_of_ble_eq_true rfl | exact (fun h => absurd h.1 (by decide)) | omega))), F1 i j (amod_r q3)]
  have v112 : yset m2 113 (3 + D.2.2.2.1.length) r2 112 (3 + D.2.2.2.1.length) = r1 := by rw [yset_o (by decide), F2 112 _ (amod_r5 (by decide)), yset_s]
  have v113 : yset m2 113 (3 + D.2.2.2.1.length) r2 113 (3 + D.2.2.2.1.length) = r2 := yset_s
  have T3 : rTk ch n (yset m2 113 (3 + D.2.2.2.1.length) r2) (yNm 0 999 (yFr (D.2.2.2.1.map (fun t => t.1)) y)).2 := rTk_s T2 (by decide)
  revert g1 v112 v113 T3
  generalize yset m2 113 (3 + D.2.2.2.1.length) r2 = m3
  intro g1 v112 v113 T3
  have hFs : rFs m3 D.2.2.2.2.2.2 := rFs_fr hD.2.2.2.2.2 (fun i j h1 h2 => g1 i j (by (first | exact Nat.le_of_ble_eq_true rfl | exact (fun h => absurd h.1 (by decide)) | omega)) (by (first | exact Nat.le_of_ble_eq_true rfl | exact (fun h => absurd h.1 (by decide)) | omega))) (g1 97 13 (by (first | exact Nat.le_of_ble_eq_true rfl | exact (fun h => absurd h.1 (by decide)) | omega)) (by (first | exact Nat.le_of_ble_eq_true rfl | exact (fun h => absurd h.1 (by decide)) | omega))) (g1 95 35 (by (first | exact Nat.le_of_ble_eq_true rfl | exact (fun h => absurd h.1 (by decide)) | omega)) (by (first | exact Nat.le_of_ble_eq_true rfl | exact (fun h => absurd h.1 (by decide)) | omega))) (g1 95 36 (by (first | exact Nat.le_of_ble_eq_true rfl | exact (fun h => absurd h.1 (by decide)) | omega)) (by (first | exact Nat.le_of_ble_eq_true rfl | exact (fun h => absurd h.1 (by decide)) | omega)))
  have fin : ∀ m4 Y, rsF m3 m4 (2 + D.2.2.2.1.length) → rTk ch n m4 Y → pEnd Y = pEnd (yOf W) → (yOk (pEnd (yOf W)) → rFs m4 (dFx D.2.2.2.2.2.2 (2 + D.2.2.2.1.length) W)) → zgk E (d + 1) xm_206 279 [some (1, 95), some (0, w), none, some (0, b 97 10)] [] none m4 Q := fun m4 Y F4 T4 eY hF4 => by
    refine zgk_n hE xmo_206 60 zc_206 ?_
    simp only [ynok_30, ynok_31, w32c_0, w32c_1, w32c_2, w32c_3, w32c_4, w32c_5, w32c_6, w32c_7, w32c_8, w32c_9, w32c_10, w32c_11, w32c_12, w32c_13, w32c_14, w32c_m1, w32c_m2, w32c_118, Int.reduceAdd, Int.reduceSub, Int.reduceMul, yput_s, yput_n, znl_n, znl_0, znl_1, znl_4, ysum_n, ysum_0, ysum_1, ysum_4, true_and, and_true, Nat.reduceAdd, Nat.reduceLeDiff, true_implies, eq_self, true_or, or_true, or_false, false_or, not_true_eq_false, not_false_eq_true, false_implies, implies_true, yset_s, yset_o, yset_d, ne_eq, Nat.reduceEqDiff, Int.reduceToNat, Int.reduceEq, Int.reduceLE, Int.reduceLT, Classical.not_not, Nat.reduceLT, ↓zvk_s, ↓zvk_n, ↓s_206_0, ↓s_206_1, ↓s_206_4, ↓s_206_7, ↓s_206_8, ↓s_206_11, ↓s_206_13, ↓s_206_16, ↓s_206_17, ↓s_206_18, ↓s_206_21, ↓s_206_22, ↓s_206_23, ↓s_206_26n, ↓s_206_26i, ↓s_206_26p, ↓s_206_27, ↓s_206_28, ↓s_206_29, ↓s_206_32, ↓s_206_35, ↓s_206_36, ↓s_206_37, ↓s_206_40, ↓s_206_43, ↓s_206_44, ↓s_206_45, ↓s_206_48, ↓s_206_49, ↓s_206_50, ↓s_206_53, ↓s_206_54, ↓s_206_57, ↓s_206_58, ↓s_206_59, ↓s_206_60, ↓s_206_61, ↓s_206_62, ↓s_206_65, ↓s_206_66, ↓s_206_67, ↓g_206_70, ↓k_206_70, ↓s_206_71, ↓s_206_74, ↓s_206_77, ↓s_206_78, ↓s_206_79a, ↓s_206_79b, ↓s_206_80, ↓s_206_83, ↓s_206_84, ↓s_206_85, ↓s_206_86, ↓s_206_87, ↓s_206_90, ↓s_206_91, ↓s_206_94, ↓s_206_95, ↓g_206_132, ↓k_206_132, ↓s_206_133, ↓s_206_134, ↓s_206_135, ↓s_206_138, ↓s_206_139n, ↓s_206_139i, ↓s_206_139p, ↓s_206_140, ↓s_206_141, ↓s_206_144, ↓s_206_145, ↓s_206_146, ↓s_206_147, ↓s_206_150, ↓s_206_151, ↓s_206_152, ↓s_206_153, ↓s_206_156, ↓s_206_159, ↓s_206_160, ↓s_206_161, ↓s_206_164, ↓s_206_165, ↓s_206_166, ↓s_206_167, ↓s_206_169, ↓s_206_172, ↓s_206_173, ↓s_206_174, ↓s_206_177, ↓s_206_178, ↓s_206_179, ↓s_206_180, ↓s_206_183, ↓s_206_186, ↓s_206_187, ↓s_206_188, ↓s_206_189, ↓s_206_190, ↓s_206_191, ↓s_206_194, ↓s_206_195, ↓s_206_196, ↓s_206_199, ↓g_206_202, ↓k_206_202, ↓s_206_203, ↓s_206_205, ↓s_206_206, ↓s_206_207, ↓s_206_210, ↓s_206_211, ↓s_206_214, ↓g_206_217, ↓k_206_217, ↓s_206_218, ↓s_206_219, ↓s_206_220, ↓s_206_221, ↓s_206_224, ↓s_206_225, ↓s_206_228, ↓g_206_231, ↓k_206_231, ↓s_206_232, ↓s_206_233, ↓s_206_236n, ↓s_206_236i, ↓s_206_236p, ↓s_206_237, ↓s_206_238, ↓s_206_241, ↓s_206_242, ↓s_206_243, ↓s_206_244, ↓s_206_245, ↓s_206_246, ↓s_206_249, ↓s_206_250, ↓s_206_251, ↓s_206_254, ↓s_206_255, ↓s_206_256, ↓s_206_259, ↓s_206_260, ↓s_206_261, ↓s_206_262, ↓s_206_263, ↓s_206_264, ↓s_206_267, ↓s_206_270, ↓s_206_271, ↓s_206_272, ↓s_206_274, ↓s_206_275, ↓s_206_276, ↓s_206_279, ↓s_206_280, ↓s_206_281, ↓s_206_282, ↓s_206_283, ↓s_206_284, ↓s_206_287, ↓g_206_290, ↓k_206_290, ↓s_206_291, ↓s_206_292, ↓s_206_293, ↓s_206_294, ↓s_206_297, ↓s_206_300, ↓s_206_303, ↓g_206_306, ↓k_206_306, ↓s_206_307, ↓s_206_308, ↓s_206_309, ↓s_206_310, ↓s_206_312, ↓s_206_315, ↓s_206_318, ↓g_206_321, ↓k_206_321, ↓s_206_322, ↓g_206_325, ↓k_206_325, ↓s_206_326, ↓s_206_329, ↓s_206_332, ↓s_206_333, ↓s_206_334, ↓s_206_336, ↓s_206_339, ↓s_206_342, ↓s_206_343, ↓s_206_344, ↓s_206_347, ↓s_206_350, ↓s_206_351, ↓s_206_354, ↓s_206_355a, ↓s_206_355b, ↓s_206_356, ↓s_206_359, ↓s_206_360, ↓s_206_361, ↓s_206_364, w32c_99, w32c_9999, w32c_999, w32c_99999, w32c_59, ↓s_170_0, ↓s_170_1, ↓s_170_4, ↓s_170_6, ↓s_170_7, ↓s_170_8, ↓s_170_9, ↓s_221_0, ↓s_221_1, ↓s_221_4, ↓s_221_6, ↓s_221_7, ↓s_221_8, ↓s_221_9, ↓s_221_10, zar_112, zia_112, zln_112, zit_112, zar_113, zia_113, zln_113, zit_113, zar_98, zia_98, zln_98, zit_98, zar_99, zia_99, zln_99, zit_99, zar_100, zia_100, zln_100, zit_100, zar_97, zia_97, zln_97, zit_97, zio_95]
    refine ⟨by (first | exact Nat.le_of_ble_eq_true rfl | exact (fun h => absurd h.1 (by decide)) | omega), ?_⟩
    have g2 : ∀ i j, amod exW i j = false → ¬ (i = 114 ∧ j = 5 + (2 + D.2.2.2.1.length)) → ¬ (i = 115 ∧ j = 5 + (2 + D.2.2.2.1.length)) → ¬ (112 ≤ i ∧ i ≤ 113 ∧ j = 3 + D.2.2.2.1.length) → ¬ (i = 97 ∧ j = 10) → ¬ (i = 95 ∧ 27 ≤ j ∧ j ≤ 32) → yset m4 97 10 (b 97 10 + 1) i j = b i j := fun i j q1 q2 q3 q4 q5 q6 => by
      rw [yset_n2 q5, F4 i j q1 q2 q3]
      exact g1 i j q4 q6
    have l25 : yset m4 97 10 (b 97 10 + 1) 95 25 = b 95 25 := g2 95 25 rfl (by (first | exact Nat.le_of_ble_eq_true rfl | exact (fun h => absurd h.1 (by decide)) | omega)) (by (first | exact Nat.le_of_ble_eq_true rfl | exact (fun h => absurd h.1 (by decide)) | omega)) (by (first | exact Nat.le_of_ble_eq_true rfl | exact (fun h => absurd h.1 (by decide)) | omega)) (by (first | exact Nat.le_of_ble_eq_true rfl | exact (fun h => absurd h.1 (by decide)) | omega)) (by (first | exact Nat.le_of_ble_eq_true rfl | exact (fun h => absurd h.1 (by decide)) | omega))
    refine rl325 hE (by (first | exact Nat.le_of_ble_eq_true rfl | exact (fun h => absurd h.1 (by decide)) | omega)) (Y := Y) (rTk_s T4 (by decide)) (by rw [l25]; exact hk) (fun m' G1 G24 G2 G3 => hQ m' ?_ (by rw [← eY]; exact G2) (fun z => ?_))
    · refine rlR_tr (rlR_s (rlR_tr (fun i j hij => g1 i j (fun z => hij (rlF_h ⟨z.1, z.2.1, by (first | exact Nat.le_of_ble_eq_true rfl | exact (fun h => absurd h.1 (by decide)) | omega)⟩)) (fun z => hij (rlF_a ⟨z.1, Or.inr (Or.inl z.2)⟩))) (rlR_rs F4)) (rlF_b ⟨rfl, by decide⟩)) (rlR_rt G1)
    · rw [← eY] at z
      have zW : yOk (pEnd (yOf W)) := by rw [← eY]; exact z
      refine ⟨rDp_fr ?_ G1, rTd_fr (rTd_fr hT (g2 95 24 rfl (by (first | exact Nat.le_of_ble_eq_true rfl | exact (fun h => absurd h.1 (by decide)) | omega)) (by (first | exact Nat.le_of_ble_eq_true rfl | exact (fun h => absurd h.1 (by decide)) | omega)) (by (first | exact Nat.le_of_ble_eq_true rfl | exact (fun h => absurd h.1 (by decide)) | omega)) (by (first | exact Nat.le_of_ble_eq_true rfl | exact (fun h => absurd h.1 (by decide)) | omega)) (by (first | exact Nat.le_of_ble_eq_true rfl | exact (fun h => absurd h.1 (by decide)) | omega)))) G24, by rw [G3 z, l25]⟩
      obtain ⟨c1, c2, c3, c4, c5, c6⟩ := hD
      have k : ∀ i j, 98 ≤ i → i ≤ 111 → yset m4 97 10 (b 97 10 + 1) i j = b i j := fun i j q1 q2 => g2 i j (exW_i (by (first | exact Nat.le_of_ble_eq_true rfl | exact (fun h => absurd h.1 (by decide)) | omega)) (by (first | exact Nat.le_of_ble_eq_true rfl | exact (fun h => absurd h.1 (by decide)) | omega)) (by (first | exact Nat.le_of_ble_eq_true rfl | exact (fun h => absurd h.1 (by decide)) | omega)) (by (first | exact Nat.le_of_ble_eq_true rfl | exact (fun h => absurd h.1 (by decide)) | omega))) (by (first | exact Nat.le_of_ble_eq_true rfl | exact (fun h => absurd h.1 (by decide)) | omega)) (by (first | exact Nat.le_of_ble_eq_true rfl | exact (fun h => absurd h.1 (by decide)) | omega)) (by (first | exact Nat.le_of_ble_eq_true rfl | exact (fun h => absurd h.1 (by decide)) | omega)) (by (first | exact Nat.le_of_ble_eq_true rfl | exact (fun h => absurd h.1 (by decide)) | omega)) (by (first | exact Nat.le_of_ble_eq_true rfl | exact (fun h => absurd h.1 (by decide)) | omega))
      have k7 : ∀ j, j ≠ 10 → j ≠ 13 → yset m4 97 10 (b 97 10 + 1) 97 j = b 97 j := fun j q1 q2 => g2 97 j (exW_97 q2) (by (first | exact Nat.le_of_ble_eq_true rfl | exact (fun h => absurd h.1 (by decide)) | omega)) (by (first | exact Nat.le_of_ble_eq_true rfl | exact (fun h => absurd h.1 (by decide)) | omega)) (by (first | exact Nat.le_of_ble_eq_true rfl | exact (fun h => absurd h.1 (by decide)) | omega)) (by (first | exact Nat.le_of_ble_eq_true rfl | exact (fun h => absurd h.1 (by decide)) | omega)) (by (first | exact Nat.le_of_ble_eq_true rfl | exact (fun h => absurd h.1 (by decide)) | omega))
      have zf : yOk (yFr (D.2.2.2.1.map (fun t => t.1)) y) := by
        have z1 := (pEnd_ok zW).2
        rw [hW] at z1
        cases hy : (yNm 0 999 (yFr (D.2.2.2.1.map (fun t => t.1)) y)).2 with
        | inl e =>
          rw [hy] at z1
          exact absurd z1 yOk_in
        | inr l => exact yOk_nm ⟨l, hy⟩
      obtain ⟨lf, hlf⟩ := zf
      refine ⟨rTv_fr c1 (k7 7 (by decide) (by decide)) (fun i j h1 h2 => k i j h1 (by (first | exact Nat.le_of_ble_eq_true rfl | exact (fun h => absurd h.1 (by decide)) | omega))), rVo_fr c2 (k7 8 (by decide) (by decide)) (fun i j h1 h2 => k i j (by (first | exact Nat.le_of_ble_eq_true rfl | exact (fun h => absurd h.1 (by decide)) | omega)) (by (first | exact Nat.le_of_ble_eq_true rfl | exact (fun h => absurd h.1 (by decide)) | omega))), rVe_fr c3 (k7 9 (by decide) (by decide)) (fun i j h1 h2 => k i j (by (first | exact Nat.le_of_ble_eq_true rfl | exact (fun h => absurd h.1 (by decide)) | omega)) (by (first | exact Nat.le_of_ble_eq_true rfl | exact (fun h => absurd h.1 (by decide)) | omega))), ⟨?_, fun j t ht => ?_⟩, ⟨by rw [k7 11 (by decide) (by decide)]; exact c5.1, by rw [k7 12 (by decide) (by decide)]; exact c5.2⟩, rFs_fr (hF4 zW) (fun i j h1 h2 => yset_o (by (first | exact Nat.le_of_ble_eq_true rfl | exact (fun h => absurd h.1 (by decide)) | omega))) (yset_d (by decide)) (yset_o (by decide)) (yset_o (by decide))⟩
      · show rNm _ 112 3 3 ((D.2.2.2.1 ++ [_]).map (fun t : Int × Int => t.1))
        rw [List.map_append]
        refine rNm_up N (by rw [hlm]; show w32 (yset m4 97 10 (b 97 10 + 1) 97 10) = _; rw [yset_s]; exact ei) (by rw [hlm]; exact hn) (fun j hj => g2 112 _ (exW_i (by decide) (by decide) (by decide) (by decide)) (by (first | exact Nat.le_of_ble_eq_true rfl | exact (fun h => absurd h.1 (by decide)) | omega)) (by (first | exact Nat.le_of_ble_eq_true rfl | exact (fun h => absurd h.1 (by decide)) | omega)) (by rw [hlm] at hj; (first | exact Nat.le_of_ble_eq_true rfl | exact (fun h => absurd h.1 (by decide)) | omega)) (by (first | exact Nat.le_of_ble_eq_true rfl | exact (fun h => absurd h.1 (by decide)) | omega)) (by (first | exact Nat.le_of_ble_eq_true rfl | exact (fun h => absurd h.1 (by decide)) | omega))) ?_
        rw [hlm, yset_o (by decide), F4 112 _ (exW_i (by decide) (by decide) (by decide) (by decide)) (by (first | exact Nat.le_of_ble_eq_true rfl | exact (fun h => absurd h.1 (by decide)) | omega)) (by (first | exact Nat.le_of_ble_eq_true rfl | exact (fun h => absurd h.1 (by decide)) | omega)), v112]
        exact e1 lf hlf
      · rcases app_get ht with ht | ⟨rfl, rfl⟩
        · have hj := get_lt ht
          rw [g2 113 _ (exW_i (by decide) (by decide) (by decide) (by decide)) (by (first | exact Nat.le_of_ble_eq_true rfl | exact (fun h => absurd h.1 (by decide)) | omega)) (by (first | exact Nat.le_of_ble_eq_true rfl | exact (fun h => absurd h.1 (by decide)) | omega)) (by (first | exact Nat.le_of_ble_eq_true rfl | exact (fun h => absurd h.1 (by decide)) | omega)) (by (first | exact Nat.le_of_ble_eq_true rfl | exact (fun h => absurd h.1 (by decide)) | omega)) (by (first | exact Nat.le_of_ble_eq_true rfl | exact (fun h => absurd h.1 (by decide)) | omega))]
          exact c4.2 j t ht
        · rw [yset_o (by decide), F4 113 _ (exW_i (by decide) (by decide) (by decide) (by decide)) (by (first | exact Nat.le_of_ble_eq_true rfl | exact (fun h => absurd h.1 (by decide)) | omega)) (by (first | exact Nat.le_of_ble_eq_true rfl | exact (fun h => absurd h.1 (by decide)) | omega)), v113]
          exact e2
  revert T3 hW
  generalize (yNm 0 999 (yFr (D.2.2.2.1.map (fun t => t.1)) y)).2 = y3
  intro hW T3
  cases y3 with
  | inl e =>
    refine rf_sumOfF hE (by (first | exact Nat.le_of_ble_eq_true rfl | exact (fun h => absurd h.1 (by decide)) | omega)) es (by (first | exact Nat.le_of_ble_eq_true rfl | exact (fun h => absurd h.1 (by decide)) | omega)) T3 (fun m4 F4 T4 => ?_)
    have e1 : W = .inl e := hW
    refine fin m4 (.inl e) F4 T4 (by rw [e1]; rfl) (fun z => ?_)
    rw [e1] at z
    exact absurd (pEnd_ok z).2 yOk_in
  | inr l =>
    refine rf_sumOf hE (by (first | exact Nat.le_of_ble_eq_true rfl | exact (fun h => absurd h.1 (by decide)) | omega)) es (by (first | exact Nat.le_of_ble_eq_true rfl | exact (fun h => absurd h.1 (by decide)) | omega)) (rFs_ex hFs T3) (fun m4 x hx F4 R4 w1 w2 => ?_)
    obtain ⟨P1, P2⟩ := pE_rX hx
    rw [← hW] at P1 P2
    refine fin m4 (yOf x) F4 ?_ P1 (fun z => ?_)
    · cases x with
      | inl e => exact R4
      | inr u => exact R4.1
    · rw [← P1] at z
      rw [P2 z]
      cases x with
      | inl e => exact absurd (pEnd_ok z).2 yOk_in
      | inr u => exact rFs_up (ch := ch) (n := n) hFs (by (first | exact Nat.le_of_ble_eq_true rfl | exact (fun h => absurd h.1 (by decide)) | omega)) R4 (rX_inv (by decide) hx).1 F4 w1 (w2 u rfl)
/-- law -/
theorem rl321 (hE : yEok E) (hd : 684 ≤ d) {l : List sT} (h : rTk ch n b (.inr l)) (hD : rDp b D) (hT : rTd b p q (tlF D.2.2.2.2.2.2 0) (tlF D.2.2.2.2.2.2 1)) (hk : 0 ≤ w32 (b 95 25) ∧ w32 (b 95 25) ≤ 1000) {W : sX × Nat} (hW : W = (if (sHd l).1 = 28 then (pL1 (tlF D.2.2.2.2.2.2 0) D.2.2.2.2.2.2.2.1 D.2.2.2.2.2.2.2.2 (.inr l), 0) else if (sHd l).1 = 29 then (pL1 (tlF D.2.2.2.2.2.2 1) D.2.2.2.2.2.2.2.1 D.2.2.2.2.2.2.2.2 (.inr l), 1) else (xFl 1 (.inr l), 0))) (hQ : ∀ m, rlR b m → rTk ch n m (pEnd (yOf W.1)) → (yOk (pEnd (yOf W.1)) → rDp m (D.1, D.2.1, D.2.2.1, D.2.2.2.1, D.2.2.2.2.1, D.2.2.2.2.2.1, dFx D.2.2.2.2.2.2 W.2 W.1) ∧ rTd m p q (tlF (dFx D.2.2.2.2.2.2 W.2 W.1) 0) (tlF (dFx D.2.2.2.2.2.2 W.2 W.1) 1) ∧ w32 (m 95 25) = w32 (b 95 25) + 1) → Q none m) : zG E (d + 1) xm_206 321 [some (1, 95), some (0, w), none, none] [] b Q := by
  refine zgo_ok (n := 60) hE xmo_206 (cs := zc_206) ?_
  simp only [ynok_30, ynok_31, w32c_0, w32c_1, w32c_2, w32c_3, w32c_4, w32c_5, w32c_6, w32c_7, w32c_8, w32c_9, w32c_10, w32c_11, w32c_12, w32c_13, w32c_14, w32c_m1, w32c_m2, w32c_118, Int.reduceAdd, Int.reduceSub, Int.reduceMul, yput_s, yput_n, znl_n, znl_0, znl_1, znl_4, ysum_n, ysum_0, ysum_1, ysum_4, true_and, and_true, Nat.reduceAdd, Nat.reduceLeDiff, true_implies, eq_self, true_or, or_true, or_false, false_or, not_true_eq_false, not_false_eq_true, false_implies, implies_true, yset_s, yset_o, yset_d, ne_eq, Nat.reduceEqDiff, Int.reduceToNat, Int.reduceEq, Int.reduceLE, Int.reduceLT, Classical.not_not, Nat.reduceLT, ↓zvk_s, ↓zvk_n, ↓s_206_0, ↓s_206_1, ↓s_206_4, ↓s_206_7, ↓s_206_8, ↓s_206_11, ↓s_206_13, ↓s_206_16, ↓s_206_17, ↓s_206_18, ↓s_206_21, ↓s_206_22, ↓s_206_23, ↓s_206_26n, ↓s_206_26i, ↓s_206_26p, ↓s_206_27, ↓s_206_28, ↓s_206_29, ↓s_206_32, ↓s_206_35, ↓s_206_36, ↓s_206_37, ↓s_206_40, ↓s_206_43, ↓s_206_44, ↓s_206_45, ↓s_206_48, ↓s_206_49, ↓s_206_50, ↓s_206_53, ↓s_206_54, ↓s_206_57, ↓s_206_58, ↓s_206_59, ↓s_206_60, ↓s_206_61, ↓s_206_62, ↓s_206_65, ↓s_206_66, ↓s_206_67, ↓g_206_70, ↓k_206_70, ↓s_206_71, ↓s_206_74, ↓s_206_77, ↓s_206_78, ↓s_206_79a, ↓s_206_79b, ↓s_206_80, ↓s_206_83, ↓s_206_84, ↓s_206_85, ↓s_206_86, ↓s_206_87, ↓s_206_90, ↓s_206_91, ↓s_206_94, ↓s_206_95, ↓g_206_132, ↓k_206_132, ↓s_206_133, ↓s_206_134, ↓s_206_135, ↓s_206_138, ↓s_206_139n, ↓s_206_139i, ↓s_206_139p, ↓s_206_140, ↓s_206_141, ↓s_206_144, ↓s_206_145, ↓s_206_146, ↓s_206_147, ↓s_206_150, ↓s_206_151, ↓s_206_152, ↓s_206_153, ↓s_206_156, ↓s_206_159, ↓s_206_160, ↓s_206_161, ↓s_206_164, ↓s_206_165, ↓s_206_166, ↓s_206_167, ↓s_206_169, ↓s_206_172, ↓s_206_173, ↓s_206_174, ↓s_206_177, ↓s_206_178, ↓s_206_179, ↓s_206_180, ↓s_206_183, ↓s_206_186, ↓s_206_187, ↓s_206_188, ↓s_206_189, ↓s_206_190, ↓s_206_191, ↓s_206_194, ↓s_206_195, ↓s_206_196, ↓s_206_199, ↓g_206_202, ↓k_206_202, ↓s_206_203, ↓s_206_205, ↓s_206_206, ↓s_206_207, ↓s_206_210, ↓s_206_211, ↓s_206_214, ↓g_206_217, ↓k_206_217, ↓s_206_218, ↓s_206_219, ↓s_206_220, ↓s_206_221, ↓s_206_224, ↓s_206_225, ↓s_206_228, ↓g_206_231, ↓k_206_231, ↓s_206_232, ↓s_206_233, ↓s_206_236n, ↓s_206_236i, ↓s_206_236p, ↓s_206_237, ↓s_206_238, ↓s_206_241, ↓s_206_242, ↓s_206_243, ↓s_206_244, ↓s_206_245, ↓s_206_246, ↓s_206_249, ↓s_206_250, ↓s_206_251, ↓s_206_254, ↓s_206_255, ↓s_206_256, ↓s_206_259, ↓s_206_260, ↓s_206_261, ↓s_206_262, ↓s_206_263, ↓s_206_264, ↓s_206_267, ↓s_206_270, ↓s_206_271, ↓s_206_272, ↓s_206_274, ↓s_206_275, ↓s_206_276, ↓s_206_279, ↓s_206_280, ↓s_206_281, ↓s_206_282, ↓s_206_283, ↓s_206_284, ↓s_206_287, ↓g_206_290, ↓k_206_290, ↓s_206_291, ↓s_206_292, ↓s_206_293, ↓s_206_294, ↓s_206_297, ↓s_206_300, ↓s_206_303, ↓g_206_306, ↓k_206_306, ↓s_206_307, ↓s_206_308, ↓s_206_309, ↓s_206_310, ↓s_206_312, ↓s_206_315, ↓s_206_318, ↓g_206_321, ↓k_206_321, ↓s_206_322, ↓g_206_325, ↓k_206_325, ↓s_206_326, ↓s_206_329, ↓s_206_332, ↓s_206_333, ↓s_206_334, ↓s_206_336, ↓s_206_339, ↓s_206_342, ↓s_206_343, ↓s_206_344, ↓s_206_347, ↓s_206_350, ↓s_206_351, ↓s_206_354, ↓s_206_355a, ↓s_206_355b, ↓s_206_356, ↓s_206_359, ↓s_206_360, ↓s_206_361, ↓s_206_364, w32c_99, w32c_9999, w32c_999, w32c_99999, w32c_59, ↓s_170_0, ↓s_170_1, ↓s_170_4, ↓s_170_6, ↓s_170_7, ↓s_170_8, ↓s_170_9, zar_112, zia_112, zln_112, zit_112, zar_113, zia_113, zln_113, zit_113, zar_98, zia_98, zln_98, zit_98, zar_99, zia_99, zln_99, zit_99, zar_100, zia_100, zln_100, zit_100, zar_97, zia_97, zln_97, zit_97, zio_95]
  refine rf_lawLine hE (by (first | exact Nat.le_of_ble_eq_true rfl | exact (fun h => absurd h.1 (by decide)) | omega)) h hD hT hW (fun m4 Y g1 l25 T4 eY g2 => ?_)
  refine zgk_n hE xmo_206 60 zc_206 ?_
  simp only [ynok_30, ynok_31, w32c_0, w32c_1, w32c_2, w32c_3, w32c_4, w32c_5, w32c_6, w32c_7, w32c_8, w32c_9, w32c_10, w32c_11, w32c_12, w32c_13, w32c_14, w32c_m1, w32c_m2, w32c_118, Int.reduceAdd, Int.reduceSub, Int.reduceMul, yput_s, yput_n, znl_n, znl_0, znl_1, znl_4, ysum_n, ysum_0, ysum_1, ysum_4, true_and, and_true, Nat.reduceAdd, Nat.reduceLeDiff, true_implies, eq_self, true_or, or_true, or_false, false_or, not_true_eq_false, not_false_eq_true, false_implies, implies_true, yset_s, yset_o, yset_d, ne_eq, Nat.reduceEqDiff, Int.reduceToNat, Int.reduceEq, Int.reduceLE, Int.reduceLT, Classical.not_not, Nat.reduceLT, ↓zvk_s, ↓zvk_n, ↓s_206_0, ↓s_206_1, ↓s_206_4, ↓s_206_7, ↓s_206_8, ↓s_206_11, ↓s_206_13, ↓s_206_16, ↓s_206_17, ↓s_206_18, ↓s_206_21, ↓s_206_22, ↓s_206_23, ↓s_206_26n, ↓s_206_26i, ↓s_206_26p, ↓s_206_27, ↓s_206_28, ↓s_206_29, ↓s_206_32, ↓s_206_35, ↓s_206_36, ↓s_206_37, ↓s_206_40, ↓s_206_43, ↓s_206_44, ↓s_206_45, ↓s_206_48, ↓s_206_49, ↓s_206_50, ↓s_206_53, ↓s_206_54, ↓s_206_57, ↓s_206_58, ↓s_206_59, ↓s_206_60, ↓s_206_61, ↓s_206_62, ↓s_206_65, ↓s_206_66, ↓s_206_67, ↓g_206_70, ↓k_206_70, ↓s_206_71, ↓s_206_74, ↓s_206_77, ↓s_206_78, ↓s_206_79a, ↓s_206_79b, ↓s_206_80, ↓s_206_83, ↓s_206_84, ↓s_206_85, ↓s_206_86, ↓s_206_87, ↓s_206_90, ↓s_206_91, ↓s_206_94, ↓s_206_95, ↓g_206_132, ↓k_206_132, ↓s_206_133, ↓s_206_134, ↓s_206_135, ↓s_206_138, ↓s_206_139n, ↓s_206_139i, ↓s_206_139p, ↓s_206_140, ↓s_206_141, ↓s_206_144, ↓s_206_145, ↓s_206_146, ↓s_206_147, ↓s_206_150, ↓s_206_151, ↓s_206_152, ↓s_206_153, ↓s_206_156, ↓s_206_159, ↓s_206_160, ↓s_206_161, ↓s_206_164, ↓s_206_165, ↓s_206_166, ↓s_206_167, ↓s_206_169, ↓s_206_172, ↓s_206_173, ↓s_206_174, ↓s_206_177, ↓s_206_178, ↓s_206_179, ↓s_206_180, ↓s_206_183, ↓s_206_186, ↓s_206_187, ↓s_206_188, ↓s_206_189, ↓s_206_190, ↓s_206_191, ↓s_206_194, ↓s_206_195, ↓s_206_196, ↓s_206_199, ↓g_206_202, ↓k_206_202, ↓s_206_203, ↓s_206_205, ↓s_206_206, ↓s_206_207, ↓s_206_210, ↓s_206_211, ↓s_206_214, ↓g_206_217, ↓k_206_217, ↓s_206_218, ↓s_206_219, ↓s_206_220, ↓s_206_221, ↓s_206_224, ↓s_206_225, ↓s_206_228, ↓g_206_231, ↓k_206_231, ↓s_206_232, ↓s_206_233, ↓s_206_236n, ↓s_206_236i, ↓s_206_236p, ↓s_206_237, ↓s_206_238, ↓s_206_241, ↓s_206_242, ↓s_206_243, ↓s_206_244, ↓s_206_245, ↓s_206_246, ↓s_206_249, ↓s_206_250, ↓s_206_251, ↓s_206_254, ↓s_206_255, ↓s_206_256, ↓s_206_259, ↓s_206_260, ↓s_206_261, ↓s_206_262, ↓s_206_263, ↓s_206_264, ↓s_206_267, ↓s_206_270, ↓s_206_271, ↓s_206_272, ↓s_206_274, ↓s_206_275, ↓s_206_276, ↓s_206_279, ↓s_206_280, ↓s_206_281, ↓s_206_282, ↓s_206_283, ↓s_206_284, ↓s_206_287, ↓g_206_290, ↓k_206_290, ↓s_206_291, ↓s_206_292, ↓s_206_293, ↓s_206_294, ↓s_206_297, ↓s_206_300, ↓s_206_303, ↓g_206_306, ↓k_206_306, ↓s_206_307, ↓s_206_308, ↓s_206_309, ↓s_206_310, ↓s_206_312, ↓s_206_315, ↓s_206_318, ↓g_206_321, ↓k_206_321, ↓s_206_322, ↓g_206_325, ↓k_206_325, ↓s_206_326, ↓s_206_329, ↓s_206_332, ↓s_206_333, ↓s_206_334, ↓s_206_336, ↓s_206_339, ↓s_206_342, ↓s_206_343, ↓s_206_344, ↓s_206_347, ↓s_206_350, ↓s_206_351, ↓s_206_354, ↓s_206_355a, ↓s_206_355b, ↓s_206_356, ↓s_206_359, ↓s_206_360, ↓s_206_361, ↓s_206_364, w32c_99, w32c_9999, w32c_999, w32c_99999, w32c_59, zar_112, zia_112, zln_112, zit_112, zar_113, zia_113, zln_113, zit_113, zar_98, zia_98, zln_98, zit_98, zar_99, zia_99, zln_99, zit_99, zar_100, zia_100, zln_100, zit_100, zio_95]
  refine rl325 hE (by (first | exact Nat.le_of_ble_eq_true rfl | exact (fun h => absurd h.1 (by decide)) | omega)) T4 (by rw [l25]; exact hk) (fun m' G1 G24 G2 G3 => hQ m' (rlR_tr g1 (rlR_rt G1)) (by rw [← eY]; exact G2) (fun z => ?_))
  rw [← eY] at z
  obtain ⟨k1, k2⟩ := g2 z
  exact ⟨rDp_fr k1 G1, rTd_fr k2 G24, by rw [G3 z, l25]⟩
theorem rf_isFull (hE : yEok E) {D0 : Nat} (hD : 2 ≤ D0) (hQ : ∀ x : Int, x = 0 ∨ x = 1 → (x = 1 ↔ (w32 w = 0 ∧ w32 (b 97 7) = 3) ∨ (w32 w = 1 ∧ w32 (b 97 8) = 6) ∨ (w32 w = 2 ∧ w32 (b 97 9) = 4) ∨ (w32 w = 3 ∧ w32 (b 97 10) = 3)) → Q (some (0, x)) b) : yCon E D0 xm_186 [(1, 95), (0, w)] b Q := by
  obtain ⟨d, rfl⟩ := Nat.exists_eq_add_of_le' hD
  refine e_186 ?_
  refine zvc_ok hE 90 [] _ _ _ _ _ _ _ xmo_186 ?_
  have q1 := fun h => hQ 1 (Or.inr rfl) ⟨fun _ => h, fun _ => rfl⟩
  have q0 := fun h => hQ 0 (Or.inl rfl) ⟨fun z => absurd z (by decide), fun z => absurd z h⟩
  simp only [ynok_30, ynok_31, w32c_0, w32c_1, w32c_2, w32c_3, w32c_4, w32c_5, w32c_6, w32c_7, w32c_8, w32c_9, w32c_10, w32c_11, w32c_12, w32c_13, w32c_14, w32c_m1, w32c_m2, w32c_118, Int.reduceAdd, Int.reduceSub, Int.reduceMul, yput_s, yput_n, znl_n, znl_0, znl_1, znl_4, ysum_n, ysum_0, ysum_1, ysum_4, true_and, and_true, Nat.reduceAdd, Nat.reduceLeDiff, true_implies, eq_self, true_or, or_true, or_false, false_or, not_true_eq_false, not_false_eq_true, false_implies, implies_true, yset_s, yset_o, yset_d, ne_eq, Nat.reduceEqDiff, Int.reduceToNat, Int.reduceEq, Int.reduceLE, Int.reduceLT, Classical.not_not, Nat.reduceLT, ↓zvk_s, ↓zvk_n, ↓s_186_0, ↓s_186_1, ↓s_186_4, ↓s_186_5, ↓s_186_6, ↓s_186_9, ↓s_186_10, ↓s_186_13, ↓s_186_14, ↓s_186_15, ↓s_186_18, ↓s_186_19, ↓s_186_20, ↓s_186_23, ↓s_186_25, ↓s_186_28, ↓s_186_29, ↓s_186_30, ↓s_186_33, ↓s_186_34, ↓s_186_35, ↓s_186_38, ↓s_186_39, ↓s_186_42, ↓s_186_43, ↓s_186_44, ↓s_186_47, ↓s_186_48, ↓s_186_49, ↓s_186_52, ↓s_186_53, ↓s_186_56, ↓s_186_57, ↓s_186_60, ↓s_186_61, ↓s_170_0, ↓s_170_1, ↓s_170_4, ↓s_170_6, ↓s_170_7, ↓s_170_8, ↓s_170_9, zar_97, zia_97, zln_97, zit_97, zio_95]
  repeat' (first | (refine ⟨?_, ?_⟩) | (intro _))
  all_goals first | (first | exact Nat.le_of_ble_eq_true rfl | exact (fun h => absurd h.1 (by decide)) | omega) | exact q0 (by (first | exact Nat.le_of_ble_eq_true rfl | exact (fun h => absurd h.1 (by decide)) | omega)) | exact q1 (by (first | exact Nat.le_of_ble_eq_true rfl | exact (fun h => absurd h.1 (by decide)) | omega))
theorem sRw_6 : ∀ k, k < 40 → 17 ≤ k → (sRw k ≤ 6 ↔ k ≤ 23) ∧ (k ≤ 23 → sRw k = (k : Int) - 17) := by decide +kernel
/-- the LINE's word is read, it is not full, not told -/
theorem rl70 (hE : yEok E) (hd : 684 ≤ d) {l : List sT} (h : rTk ch n b (.inr l)) (h1 : 17 ≤ (sHd l).1) (h2 : (sHd l).1 ≤ 23) (hD : rDc b D) (hk : 0 ≤ w32 (b 95 25) ∧ w32 (b 95 25) ≤ 1000) (hu : ((sHd l).1 = 17 → D.1.length < 3) ∧ ((sHd l).1 = 18 → D.2.1.length < 6) ∧ ((sHd l).1 = 19 → D.2.2.1.length < 4) ∧ ((sHd l).1 = 20 → D.2.2.2.1.length < 3) ∧ ((sHd l).1 = 21 → D.2.2.2.2.1.1 = false) ∧ ((sHd l).1 = 22 → D.2.2.2.2.2.1.1 = false)) (hQ : ∀ m, rlR b m → rTk ch n m (pEnd (pLine (.inr l) D).1) → (yOk (pEnd (pLine (.inr l) D).1) → rDc m (pLine (.inr l) D).2 ∧ w32 (m 95 25) = w32 (b 95 25) + 1) → Q none m) : zG E (d + 1) xm_206 70 [some (1, 95), some (0, b 95 30), none, none] [] b Q := by
  have hf := rTk_0 h
  have hv : w32 (b 95 30) = (((sHd l).1 - 17 : Nat) : Int) := by
    have hR := rTk_rk h
    have := (sRw_6 (sHd l).1 (by (first | exact Nat.le_of_ble_eq_true rfl | exact (fun h => absurd h.1 (by decide)) | omega)) h1).2 h2
    unfold sRk at hR
    (first | exact Nat.le_of_ble_eq_true rfl | exact (fun h => absurd h.1 (by decide)) | omega)
  refine zgo_ok (n := 60) hE xmo_206 (cs := zc_206) ?_
  simp only [ynok_30, ynok_31, w32c_0, w32c_1, w32c_2, w32c_3, w32c_4, w32c_5, w32c_6, w32c_7, w32c_8, w32c_9, w32c_10, w32c_11, w32c_12, w32c_13, w32c_14, w32c_m1, w32c_m2, w32c_118, Int.reduceAdd, Int.reduceSub, Int.reduceMul, yput_s, yput_n, znl_n, znl_0, znl_1, znl_4, ysum_n, ysum_0, ysum_1, ysum_4, true_and, and_true, Nat.reduceAdd, Nat.reduceLeDiff, true_implies, eq_self, true_or, or_true, or_false, false_or, not_true_eq_false, not_false_eq_true, false_implies, implies_true, yset_s, yset_o, yset_d, ne_eq, Nat.reduceEqDiff, Int.reduceToNat, Int.reduceEq, Int.reduceLE, Int.reduceLT, Classical.not_not, Nat.reduceLT, ↓zvk_s, ↓zvk_n, ↓s_206_0, ↓s_206_1, ↓s_206_4, ↓s_206_7, ↓s_206_8, ↓s_206_11, ↓s_206_13, ↓s_206_16, ↓s_206_17, ↓s_206_18, ↓s_206_21, ↓s_206_22, ↓s_206_23, ↓s_206_26n, ↓s_206_26i, ↓s_206_26p, ↓s_206_27, ↓s_206_28, ↓s_206_29, ↓s_206_32, ↓s_206_35, ↓s_206_36, ↓s_206_37, ↓s_206_40, ↓s_206_43, ↓s_206_44, ↓s_206_45, ↓s_206_48, ↓s_206_49, ↓s_206_50, ↓s_206_53, ↓s_206_54, ↓s_206_57, ↓s_206_58, ↓s_206_59, ↓s_206_60, ↓s_206_61, ↓s_206_62, ↓s_206_65, ↓s_206_66, ↓s_206_67, ↓g_206_70, ↓k_206_70, ↓s_206_71, ↓s_206_74, ↓s_206_77, ↓s_206_78, ↓s_206_79a, ↓s_206_79b, ↓s_206_80, ↓s_206_83, ↓s_206_84, ↓s_206_85, ↓s_206_86, ↓s_206_87, ↓s_206_90, ↓s_206_91, ↓s_206_94, ↓s_206_95, ↓g_206_132, ↓k_206_132, ↓s_206_133, ↓s_206_134, ↓s_206_135, ↓s_206_138, ↓s_206_139n, ↓s_206_139i, ↓s_206_139p, ↓s_206_140, ↓s_206_141, ↓s_206_144, ↓s_206_145, ↓s_206_146, ↓s_206_147, ↓s_206_150, ↓s_206_151, ↓s_206_152, ↓s_206_153, ↓s_206_156, ↓s_206_159, ↓s_206_160, ↓s_206_161, ↓s_206_164, ↓s_206_165, ↓s_206_166, ↓s_206_167, ↓s_206_169, ↓s_206_172, ↓s_206_173, ↓s_206_174, ↓s_206_177, ↓s_206_178, ↓s_206_179, ↓s_206_180, ↓s_206_183, ↓s_206_186, ↓s_206_187, ↓s_206_188, ↓s_206_189, ↓s_206_190, ↓s_206_191, ↓s_206_194, ↓s_206_195, ↓s_206_196, ↓s_206_199, ↓g_206_202, ↓k_206_202, ↓s_206_203, ↓s_206_205, ↓s_206_206, ↓s_206_207, ↓s_206_210, ↓s_206_211, ↓s_206_214, ↓g_206_217, ↓k_206_217, ↓s_206_218, ↓s_206_219, ↓s_206_220, ↓s_206_221, ↓s_206_224, ↓s_206_225, ↓s_206_228, ↓g_206_231, ↓k_206_231, ↓s_206_232, ↓s_206_233, ↓s_206_236n, ↓s_206_236i, ↓s_206_236p, ↓s_206_237, ↓s_206_238, ↓s_206_241, ↓s_206_242, ↓s_206_243, ↓s_206_244, ↓s_206_245, ↓s_206_246, ↓s_206_249, ↓s_206_250, ↓s_206_251, ↓s_206_254, ↓s_206_255, ↓s_206_256, ↓s_206_259, ↓s_206_260, ↓s_206_261, ↓s_206_262, ↓s_206_263, ↓s_206_264, ↓s_206_267, ↓s_206_270, ↓s_206_271, ↓s_206_272, ↓s_206_274, ↓s_206_275, ↓s_206_276, ↓s_206_279, ↓s_206_280, ↓s_206_281, ↓s_206_282, ↓s_206_283, ↓s_206_284, ↓s_206_287, ↓g_206_290, ↓k_206_290, ↓s_206_291, ↓s_206_292, ↓s_206_293, ↓s_206_294, ↓s_206_297, ↓s_206_300, ↓s_206_303, ↓g_206_306, ↓k_206_306, ↓s_206_307, ↓s_206_308, ↓s_206_309, ↓s_206_310, ↓s_206_312, ↓s_206_315, ↓s_206_318, ↓g_206_321, ↓k_206_321, ↓s_206_322, ↓g_206_325, ↓k_206_325, ↓s_206_326, ↓s_206_329, ↓s_206_332, ↓s_206_333, ↓s_206_334, ↓s_206_336, ↓s_206_339, ↓s_206_342, ↓s_206_343, ↓s_206_344, ↓s_206_347, ↓s_206_350, ↓s_206_351, ↓s_206_354, ↓s_206_355a, ↓s_206_355b, ↓s_206_356, ↓s_206_359, ↓s_206_360, ↓s_206_361, ↓s_206_364, w32c_99, w32c_9999, w32c_999, w32c_99999, w32c_59, zar_112, zia_112, zln_112, zit_112, zar_113, zia_113, zln_113, zit_113, zar_98, zia_98, zln_98, zit_98, zar_99, zia_99, zln_99, zit_99, zar_100, zia_100, zln_100, zit_100, zio_95, hf]
  have T1 := rTd_or hD.2 hv (by (first | exact Nat.le_of_ble_eq_true rfl | exact (fun h => absurd h.1 (by decide)) | omega))
  rw [show decide ((sHd l).1 - 17 = 10) = false from decide_eq_false (by (first | exact Nat.le_of_ble_eq_true rfl | exact (fun h => absurd h.1 (by decide)) | omega)), show decide ((sHd l).1 - 17 = 11) = false from decide_eq_false (by (first | exact Nat.le_of_ble_eq_true rfl | exact (fun h => absurd h.1 (by decide)) | omega)), Bool.or_false, Bool.or_false] at T1
  have t1 : rTk ch n (yset b 95 24 (ybin 4 (b 95 24) (ybin 6 1 (b 95 30)))) (.inr l) := rTk_of h (fun j j1 _ => yset_d (by (first | exact Nat.le_of_ble_eq_true rfl | exact (fun h => absurd h.1 (by decide)) | omega))) (fun j => yset_o (by decide))
  have F0 : rtF b (yset b 95 24 (ybin 4 (b 95 24) (ybin 6 1 (b 95 30)))) := fun i j hij => yset_n2 (fun z => hij ⟨z.1, Or.inl z.2⟩)
  have l0 : yset b 95 24 (ybin 4 (b 95 24) (ybin 6 1 (b 95 30))) 95 25 = b 95 25 := yset_d (by decide)
  have D1 := rDp_fr hD.1 F0
  revert T1 t1 F0 D1 l0
  generalize yset b 95 24 (ybin 4 (b 95 24) (ybin 6 1 (b 95 30))) = m1
  intro T1 t1 F0 l0 D1
  refine rf_token hE (by (first | exact Nat.le_of_ble_eq_true rfl | exact (fun h => absurd h.1 (by decide)) | omega)) t1 (fun m2 F2 T2 => ?_)
  refine zgk_n hE xmo_206 60 zc_206 ?_
  have F2' : rtF m1 m2 := rtF_rn (aFrm_w F2 (by decide))
  have D2 := rDp_fr D1 F2'
  have T2' := rTd_fr (m := m2) T1 (F2 95 24 rfl)
  have l2 : m2 95 25 = b 95 25 := by rw [F2 95 25 rfl]; exact l0
  have hk2 : 0 ≤ w32 (m2 95 25) ∧ w32 (m2 95 25) ≤ 1000 := by rw [l2]; exact hk
  have RR : rlR b m2 := rlR_tr (rlR_rt F0) (rlR_rt F2')
  have T2 : rTk ch n m2 (yNx (.inr l)) := T2
  obtain ⟨u0, u1, u2, u3, u4, u5⟩ := hu
  simp only [ynok_30, ynok_31, w32c_0, w32c_1, w32c_2, w32c_3, w32c_4, w32c_5, w32c_6, w32c_7, w32c_8, w32c_9, w32c_10, w32c_11, w32c_12, w32c_13, w32c_14, w32c_m1, w32c_m2, w32c_118, Int.reduceAdd, Int.reduceSub, Int.reduceMul, yput_s, yput_n, znl_n, znl_0, znl_1, znl_4, ysum_n, ysum_0, ysum_1, ysum_4, true_and, and_true, Nat.reduceAdd, Nat.reduceLeDiff, true_implies, eq_self, true_or, or_true, or_false, false_or, not_true_eq_false, not_false_eq_true, false_implies, implies_true, yset_s, yset_o, yset_d, ne_eq, Nat.reduceEqDiff, Int.reduceToNat, Int.reduceEq, Int.reduceLE, Int.reduceLT, Classical.not_not, Nat.reduceLT, ↓zvk_s, ↓zvk_n, ↓s_206_0, ↓s_206_1, ↓s_206_4, ↓s_206_7, ↓s_206_8, ↓s_206_11, ↓s_206_13, ↓s_206_16, ↓s_206_17, ↓s_206_18, ↓s_206_21, ↓s_206_22, ↓s_206_23, ↓s_206_26n, ↓s_206_26i, ↓s_206_26p, ↓s_206_27, ↓s_206_28, ↓s_206_29, ↓s_206_32, ↓s_206_35, ↓s_206_36, ↓s_206_37, ↓s_206_40, ↓s_206_43, ↓s_206_44, ↓s_206_45, ↓s_206_48, ↓s_206_49, ↓s_206_50, ↓s_206_53, ↓s_206_54, ↓s_206_57, ↓s_206_58, ↓s_206_59, ↓s_206_60, ↓s_206_61, ↓s_206_62, ↓s_206_65, ↓s_206_66, ↓s_206_67, ↓g_206_70, ↓k_206_70, ↓s_206_71, ↓s_206_74, ↓s_206_77, ↓s_206_78, ↓s_206_79a, ↓s_206_79b, ↓s_206_80, ↓s_206_83, ↓s_206_84, ↓s_206_85, ↓s_206_86, ↓s_206_87, ↓s_206_90, ↓s_206_91, ↓s_206_94, ↓s_206_95, ↓g_206_132, ↓k_206_132, ↓s_206_133, ↓s_206_134, ↓s_206_135, ↓s_206_138, ↓s_206_139n, ↓s_206_139i, ↓s_206_139p, ↓s_206_140, ↓s_206_141, ↓s_206_144, ↓s_206_145, ↓s_206_146, ↓s_206_147, ↓s_206_150, ↓s_206_151, ↓s_206_152, ↓s_206_153, ↓s_206_156, ↓s_206_159, ↓s_206_160, ↓s_206_161, ↓s_206_164, ↓s_206_165, ↓s_206_166, ↓s_206_167, ↓s_206_169, ↓s_206_172, ↓s_206_173, ↓s_206_174, ↓s_206_177, ↓s_206_178, ↓s_206_179, ↓s_206_180, ↓s_206_183, ↓s_206_186, ↓s_206_187, ↓s_206_188, ↓s_206_189, ↓s_206_190, ↓s_206_191, ↓s_206_194, ↓s_206_195, ↓s_206_196, ↓s_206_199, ↓g_206_202, ↓k_206_202, ↓s_206_203, ↓s_206_205, ↓s_206_206, ↓s_206_207, ↓s_206_210, ↓s_206_211, ↓s_206_214, ↓g_206_217, ↓k_206_217, ↓s_206_218, ↓s_206_219, ↓s_206_220, ↓s_206_221, ↓s_206_224, ↓s_206_225, ↓s_206_228, ↓g_206_231, ↓k_206_231, ↓s_206_232, ↓s_206_233, ↓s_206_236n, ↓s_206_236i, ↓s_206_236p, ↓s_206_237, ↓s_206_238, ↓s_206_241, ↓s_206_242, ↓s_206_243, ↓s_206_244, ↓s_206_245, ↓s_206_246, ↓s_206_249, ↓s_206_250, ↓s_206_251, ↓s_206_254, ↓s_206_255, ↓s_206_256, ↓s_206_259, ↓s_206_260, ↓s_206_261, ↓s_206_262, ↓s_206_263, ↓s_206_264, ↓s_206_267, ↓s_206_270, ↓s_206_271, ↓s_206_272, ↓s_206_274, ↓s_206_275, ↓s_206_276, ↓s_206_279, ↓s_206_280, ↓s_206_281, ↓s_206_282, ↓s_206_283, ↓s_206_284, ↓s_206_287, ↓g_206_290, ↓k_206_290, ↓s_206_291, ↓s_206_292, ↓s_206_293, ↓s_206_294, ↓s_206_297, ↓s_206_300, ↓s_206_303, ↓g_206_306, ↓k_206_306, ↓s_206_307, ↓s_206_308, ↓s_206_309, ↓s_206_310, ↓s_206_312, ↓s_206_315, ↓s_206_318, ↓g_206_321, ↓k_206_321, ↓s_206_322, ↓g_206_325, ↓k_206_325, ↓s_206_326, ↓s_206_329, ↓s_206_332, ↓s_206_333, ↓s_206_334, ↓s_206_336, ↓s_206_339, ↓s_206_342, ↓s_206_343, ↓s_206_344, ↓s_206_347, ↓s_206_350, ↓s_206_351, ↓s_206_354, ↓s_206_355a, ↓s_206_355b, ↓s_206_356, ↓s_206_359, ↓s_206_360, ↓s_206_361, ↓s_206_364, w32c_99, w32c_9999, w32c_999, w32c_99999, w32c_59, zar_112, zia_112, zln_112, zit_112, zar_113, zia_113, zln_113, zit_113, zar_98, zia_98, zln_98, zit_98, zar_99, zia_99, zln_99, zit_99, zar_100, zia_100, zln_100, zit_100, zio_95]
  refine ⟨fun z => ?_, fun z0 => ⟨fun z => ?_, fun z1 => ⟨fun z => ?_, fun z2 => ⟨fun z => ?_, fun z3 => ⟨fun z => ?_, fun z4 => ⟨fun z => ?_, fun z5 => ?_⟩⟩⟩⟩⟩⟩
  · have hkd : (sHd l).1 = 17 := by (first | exact Nat.le_of_ble_eq_true rfl | exact (fun h => absurd h.1 (by decide)) | omega)
    have ep : pLine (.inr l) D = ((pTv D.1 (.inr l)).1, (D.1 ++ [(pTv D.1 (.inr l)).2], D.2)) := by unfold pLine; rw [if_pos (show yKd (.inr l) = 17 from hkd)]
    obtain ⟨e1, e2⟩ := pTv_eq (tav := D.1) (x := .inr l) (u0 hkd)
    rw [ep] at hQ
    rw [show decide ((sHd l).1 - 17 = 4) = false from decide_eq_false (by (first | exact Nat.le_of_ble_eq_true rfl | exact (fun h => absurd h.1 (by decide)) | omega)), show decide ((sHd l).1 - 17 = 5) = false from decide_eq_false (by (first | exact Nat.le_of_ble_eq_true rfl | exact (fun h => absurd h.1 (by decide)) | omega)), Bool.or_false, Bool.or_false] at T2'
    refine rl132 hE (by (first | exact Nat.le_of_ble_eq_true rfl | exact (fun h => absurd h.1 (by decide)) | omega)) T2 D2 T2' (u0 hkd) hk2 (fun m g1 g2 g3 => hQ m (rlR_tr RR g1) (by dsimp only; rw [e1]; exact g2) (fun zz => ?_))
    dsimp only at zz ⊢
    rw [e2 (pEnd_ok zz).2]
    rw [e1] at zz
    obtain ⟨k1, k2, k3⟩ := g3 zz
    exact ⟨⟨k1, k2⟩, by rw [k3, l2]⟩
  · have hkd : (sHd l).1 = 18 := by (first | exact Nat.le_of_ble_eq_true rfl | exact (fun h => absurd h.1 (by decide)) | omega)
    have ep : pLine (.inr l) D = ((pVo (D.1.map (fun t => t.1)) D.2.1 (.inr l)).1, (D.1, D.2.1 ++ [(pVo (D.1.map (fun t => t.1)) D.2.1 (.inr l)).2], D.2.2)) := by unfold pLine; rw [if_neg (show ¬ yKd (.inr l) = 17 from (by show ¬ (sHd l).1 = 17; (first | exact Nat.le_of_ble_eq_true rfl | exact (fun h => absurd h.1 (by decide)) | omega))), if_pos (show yKd (.inr l) = 18 from hkd)]
    obtain ⟨e1, e2⟩ := pVo_eq (tn := D.1.map (fun t => t.1)) (vo := D.2.1) (x := .inr l) (u1 hkd)
    rw [ep] at hQ
    rw [show decide ((sHd l).1 - 17 = 4) = false from decide_eq_false (by (first | exact Nat.le_of_ble_eq_true rfl | exact (fun h => absurd h.1 (by decide)) | omega)), show decide ((sHd l).1 - 17 = 5) = false from decide_eq_false (by (first | exact Nat.le_of_ble_eq_true rfl | exact (fun h => absurd h.1 (by decide)) | omega)), Bool.or_false, Bool.or_false] at T2'
    refine rl202 hE (by (first | exact Nat.le_of_ble_eq_true rfl | exact (fun h => absurd h.1 (by decide)) | omega)) T2 D2 T2' (u1 hkd) hk2 (fun m g1 g2 g3 => hQ m (rlR_tr RR g1) (by dsimp only; rw [e1]; exact g2) (fun zz => ?_))
    dsimp only at zz ⊢
    rw [e2 (pEnd_ok zz).2]
    rw [e1] at zz
    obtain ⟨k1, k2, k3⟩ := g3 zz
    exact ⟨⟨k1, k2⟩, by rw [k3, l2]⟩
  · have hkd : (sHd l).1 = 19 := by (first | exact Nat.le_of_ble_eq_true rfl | exact (fun h => absurd h.1 (by decide)) | omega)
    have ep : pLine (.inr l) D = ((pVe D.2.2.1 (.inr l)).1, (D.1, D.2.1, D.2.2.1 ++ [(pVe D.2.2.1 (.inr l)).2], D.2.2.2)) := by unfold pLine; rw [if_neg (show ¬ yKd (.inr l) = 17 from (by show ¬ (sHd l).1 = 17; (first | exact Nat.le_of_ble_eq_true rfl | exact (fun h => absurd h.1 (by decide)) | omega))), if_neg (show ¬ yKd (.inr l) = 18 from (by show ¬ (sHd l).1 = 18; (first | exact Nat.le_of_ble_eq_true rfl | exact (fun h => absurd h.1 (by decide)) | omega))), if_pos (show yKd (.inr l) = 19 from hkd)]
    obtain ⟨e1, e2⟩ := pVe_eq (ve := D.2.2.1) (x := .inr l) (u2 hkd)
    rw [ep] at hQ
    rw [show decide ((sHd l).1 - 17 = 4) = false from decide_eq_false (by (first | exact Nat.le_of_ble_eq_true rfl | exact (fun h => absurd h.1 (by decide)) | omega)), show decide ((sHd l).1 - 17 = 5) = false from decide_eq_false (by (first | exact Nat.le_of_ble_eq_true rfl | exact (fun h => absurd h.1 (by decide)) | omega)), Bool.or_false, Bool.or_false] at T2'
    refine rl217 hE (by (first | exact Nat.le_of_ble_eq_true rfl | exact (fun h => absurd h.1 (by decide)) | omega)) T2 D2 T2' (u2 hkd) hk2 (fun m g1 g2 g3 => hQ m (rlR_tr RR g1) (by dsimp only; rw [e1]; exact g2) (fun zz => ?_))
    dsimp only at zz ⊢
    rw [e2 (pEnd_ok zz).2]
    rw [e1] at zz
    obtain ⟨k1, k2, k3⟩ := g3 zz
    exact ⟨⟨k1, k2⟩, by rw [k3, l2]⟩
  · have hkd : (sHd l).1 = 20 := by (first | exact Nat.le_of_ble_eq_true rfl | exact (fun h => absurd h.1 (by decide)) | omega)
    have ep : pLine (.inr l) D = (yOf (pBk D.2.2.2.1 D.2.2.2.2.2.2.2.1 D.2.2.2.2.2.2.2.2 (.inr l)).1, (D.1, D.2.1, D.2.2.1, D.2.2.2.1 ++ [(pBk D.2.2.2.1 D.2.2.2.2.2.2.2.1 D.2.2.2.2.2.2.2.2 (.inr l)).2], D.2.2.2.2.1, D.2.2.2.2.2.1, dFx D.2.2.2.2.2.2 (2 + D.2.2.2.1.length) (pBk D.2.2.2.1 D.2.2.2.2.2.2.2.1 D.2.2.2.2.2.2.2.2 (.inr l)).1)) := by unfold pLine; rw [if_neg (show ¬ yKd (.inr l) = 17 from (by show ¬ (sHd l).1 = 17; (first | exact Nat.le_of_ble_eq_true rfl | exact (fun h => absurd h.1 (by decide)) | omega))), if_neg (show ¬ yKd (.inr l) = 18 from (by show ¬ (sHd l).1 = 18; (first | exact Nat.le_of_ble_eq_true rfl | exact (fun h => absurd h.1 (by decide)) | omega))), if_neg (show ¬ yKd (.inr l) = 19 from (by show ¬ (sHd l).1 = 19; (first | exact Nat.le_of_ble_eq_true rfl | exact (fun h => absurd h.1 (by decide)) | omega))), if_pos (show yKd (.inr l) = 20 from hkd)]
    obtain ⟨e1, e2⟩ := pBk_eq (bk := D.2.2.2.1) (cn := D.2.2.2.2.2.2.2.1) (o := D.2.2.2.2.2.2.2.2) (x := .inr l) (u3 hkd)
    rw [ep] at hQ
    rw [show decide ((sHd l).1 - 17 = 4) = false from decide_eq_false (by (first | exact Nat.le_of_ble_eq_true rfl | exact (fun h => absurd h.1 (by decide)) | omega)), show decide ((sHd l).1 - 17 = 5) = false from decide_eq_false (by (first | exact Nat.le_of_ble_eq_true rfl | exact (fun h => absurd h.1 (by decide)) | omega)), Bool.or_false, Bool.or_false] at T2'
    have htl : ∀ f x, 2 ≤ f → tlF (dFx D.2.2.2.2.2.2 f x) 0 = tlF D.2.2.2.2.2.2 0 ∧ tlF (dFx D.2.2.2.2.2.2 f x) 1 = tlF D.2.2.2.2.2.2 1 := fun f x hf2 => by
      cases x with
      | inl e => exact ⟨rfl, rfl⟩
      | inr u =>
        refine ⟨?_, ?_⟩
        · show decide ((if 0 = f then _ else _ : Int × Int).1 < (if 0 = f then _ else _ : Int × Int).2) = _
          rw [if_neg (by (first | exact Nat.le_of_ble_eq_true rfl | exact (fun h => absurd h.1 (by decide)) | omega))]
          rfl
        · show decide ((if 1 = f then _ else _ : Int × Int).1 < (if 1 = f then _ else _ : Int × Int).2) = _
          rw [if_neg (by (first | exact Nat.le_of_ble_eq_true rfl | exact (fun h => absurd h.1 (by decide)) | omega))]
          rfl
    refine rl231 hE (by (first | exact Nat.le_of_ble_eq_true rfl | exact (fun h => absurd h.1 (by decide)) | omega)) T2 D2 T2' (u3 hkd) hk2 e1 (fun m g1 g2 g3 => hQ m (rlR_tr RR g1) g2 (fun zz => ?_))
    dsimp only at zz ⊢
    rw [e2 (pEnd_ok zz).2]
    obtain ⟨k1, k2, k3⟩ := g3 zz
    refine ⟨⟨k1, ?_⟩, by rw [k3, l2]⟩
    dsimp only
    rw [(htl _ _ (by (first | exact Nat.le_of_ble_eq_true rfl | exact (fun h => absurd h.1 (by decide)) | omega))).1, (htl _ _ (by (first | exact Nat.le_of_ble_eq_true rfl | exact (fun h => absurd h.1 (by decide)) | omega))).2]
    exact k2
  · have hkd : (sHd l).1 = 21 := by (first | exact Nat.le_of_ble_eq_true rfl | exact (fun h => absurd h.1 (by decide)) | omega)
    have ep : pLine (.inr l) D = ((pLn D.2.2.2.2.1.1 999 (.inr l)).2, (D.1, D.2.1, D.2.2.1, D.2.2.2.1, (true, (pLn D.2.2.2.2.1.1 999 (.inr l)).1), D.2.2.2.2.2)) := by unfold pLine; rw [if_neg (show ¬ yKd (.inr l) = 17 from (by show ¬ (sHd l).1 = 17; (first | exact Nat.le_of_ble_eq_true rfl | exact (fun h => absurd h.1 (by decide)) | omega))), if_neg (show ¬ yKd (.inr l) = 18 from (by show ¬ (sHd l).1 = 18; (first | exact Nat.le_of_ble_eq_true rfl | exact (fun h => absurd h.1 (by decide)) | omega))), if_neg (show ¬ yKd (.inr l) = 19 from (by show ¬ (sHd l).1 = 19; (first | exact Nat.le_of_ble_eq_true rfl | exact (fun h => absurd h.1 (by decide)) | omega))), if_neg (show ¬ yKd (.inr l) = 20 from (by show ¬ (sHd l).1 = 20; (first | exact Nat.le_of_ble_eq_true rfl | exact (fun h => absurd h.1 (by decide)) | omega))), if_pos (show yKd (.inr l) = 21 from hkd)]
    have e1 : pLn D.2.2.2.2.1.1 999 (.inr l) = yNm 0 999 (yNx (.inr l)) := by unfold pLn; rw [u4 hkd]; rfl
    rw [ep, e1] at hQ
    rw [show decide ((sHd l).1 - 17 = 4) = true from decide_eq_true (by (first | exact Nat.le_of_ble_eq_true rfl | exact (fun h => absurd h.1 (by decide)) | omega)), show decide ((sHd l).1 - 17 = 5) = false from decide_eq_false (by (first | exact Nat.le_of_ble_eq_true rfl | exact (fun h => absurd h.1 (by decide)) | omega)), Bool.or_false, Bool.or_true] at T2'
    refine rl290 hE (by (first | exact Nat.le_of_ble_eq_true rfl | exact (fun h => absurd h.1 (by decide)) | omega)) T2 D2 T2' hk2 (fun m g1 g2 g3 => hQ m (rlR_tr RR g1) g2 (fun zz => ?_))
    obtain ⟨k1, k2, k3⟩ := g3 zz
    exact ⟨⟨k1, k2⟩, by rw [k3, l2]⟩
  · have hkd : (sHd l).1 = 22 := by (first | exact Nat.le_of_ble_eq_true rfl | exact (fun h => absurd h.1 (by decide)) | omega)
    have ep : pLine (.inr l) D = ((pLn D.2.2.2.2.2.1.1 99999 (.inr l)).2, (D.1, D.2.1, D.2.2.1, D.2.2.2.1, D.2.2.2.2.1, (true, (pLn D.2.2.2.2.2.1.1 99999 (.inr l)).1), D.2.2.2.2.2.2)) := by unfold pLine; rw [if_neg (show ¬ yKd (.inr l) = 17 from (by show ¬ (sHd l).1 = 17; (first | exact Nat.le_of_ble_eq_true rfl | exact (fun h => absurd h.1 (by decide)) | omega))), if_neg (show ¬ yKd (.inr l) = 18 from (by show ¬ (sHd l).1 = 18; (first | exact Nat.le_of_ble_eq_true rfl | exact (fun h => absurd h.1 (by decide)) | omega))), if_neg (show ¬ yKd (.inr l) = 19 from (by show ¬ (sHd l).1 = 19; (first | exact Nat.le_of_ble_eq_true rfl | exact (fun h => absurd h.1 (by decide)) | omega))), if_neg (show ¬ yKd (.inr l) = 20 from (by show ¬ (sHd l).1 = 20; (first | exact Nat.le_of_ble_eq_true rfl | exact (fun h => absurd h.1 (by decide)) | omega))), if_neg (show ¬ yKd (.inr l) = 21 from (by show ¬ (sHd l).1 = 21; (first | exact Nat.le_of_ble_eq_true rfl | exact (fun h => absurd h.1 (by decide)) | omega))), if_pos (show yKd (.inr l) = 22 from hkd)]
    have e1 : pLn D.2.2.2.2.2.1.1 99999 (.inr l) = yNm 0 99999 (yNx (.inr l)) := by unfold pLn; rw [u5 hkd]; rfl
    rw [ep, e1] at hQ
    rw [show decide ((sHd l).1 - 17 = 4) = false from decide_eq_false (by (first | exact Nat.le_of_ble_eq_true rfl | exact (fun h => absurd h.1 (by decide)) | omega)), show decide ((sHd l).1 - 17 = 5) = true from decide_eq_true (by (first | exact Nat.le_of_ble_eq_true rfl | exact (fun h => absurd h.1 (by decide)) | omega)), Bool.or_false, Bool.or_true] at T2'
    refine rl306 hE (by (first | exact Nat.le_of_ble_eq_true rfl | exact (fun h => absurd h.1 (by decide)) | omega)) T2 D2 T2' hk2 (fun m g1 g2 g3 => hQ m (rlR_tr RR g1) g2 (fun zz => ?_))
    obtain ⟨k1, k2, k3⟩ := g3 zz
    exact ⟨⟨k1, k2⟩, by rw [k3, l2]⟩
  · have hkd : (sHd l).1 = 23 := by (first | exact Nat.le_of_ble_eq_true rfl | exact (fun h => absurd h.1 (by decide)) | omega)
    have ep : pLine (.inr l) D = (yOf (pLw (tlF D.2.2.2.2.2.2) D.2.2.2.2.2.2.2.1 D.2.2.2.2.2.2.2.2 (.inr l)).1, (D.1, D.2.1, D.2.2.1, D.2.2.2.1, D.2.2.2.2.1, D.2.2.2.2.2.1, dFx D.2.2.2.2.2.2 (pLw (tlF D.2.2.2.2.2.2) D.2.2.2.2.2.2.2.1 D.2.2.2.2.2.2.2.2 (.inr l)).2 (pLw (tlF D.2.2.2.2.2.2) D.2.2.2.2.2.2.2.1 D.2.2.2.2.2.2.2.2 (.inr l)).1)) := by unfold pLine; rw [if_neg (show ¬ yKd (.inr l) = 17 from (by show ¬ (sHd l).1 = 17; (first | exact Nat.le_of_ble_eq_true rfl | exact (fun h => absurd h.1 (by decide)) | omega))), if_neg (show ¬ yKd (.inr l) = 18 from (by show ¬ (sHd l).1 = 18; (first | exact Nat.le_of_ble_eq_true rfl | exact (fun h => absurd h.1 (by decide)) | omega))), if_neg (show ¬ yKd (.inr l) = 19 from (by show ¬ (sHd l).1 = 19; (first | exact Nat.le_of_ble_eq_true rfl | exact (fun h => absurd h.1 (by decide)) | omega))), if_neg (show ¬ yKd (.inr l) = 20 from (by show ¬ (sHd l).1 = 20; (first | exact Nat.le_of_ble_eq_true rfl | exact (fun h => absurd h.1 (by decide)) | omega))), if_neg (show ¬ yKd (.inr l) = 21 from (by show ¬ (sHd l).1 = 21; (first | exact Nat.le_of_ble_eq_true rfl | exact (fun h => absurd h.1 (by decide)) | omega))), if_neg (show ¬ yKd (.inr l) = 22 from (by show ¬ (sHd l).1 = 22; (first | exact Nat.le_of_ble_eq_true rfl | exact (fun h => absurd h.1 (by decide)) | omega))), if_pos (show yKd (.inr l) = 23 from hkd)]
    rw [ep] at hQ
    rw [show decide ((sHd l).1 - 17 = 4) = false from decide_eq_false (by (first | exact Nat.le_of_ble_eq_true rfl | exact (fun h => absurd h.1 (by decide)) | omega)), show decide ((sHd l).1 - 17 = 5) = false from decide_eq_false (by (first | exact Nat.le_of_ble_eq_true rfl | exact (fun h => absurd h.1 (by decide)) | omega)), Bool.or_false, Bool.or_false] at T2'
    refine rl321 hE (by (first | exact Nat.le_of_ble_eq_true rfl | exact (fun h => absurd h.1 (by decide)) | omega)) (l := sNx l) T2 D2 T2' hk2 (W := pLw (tlF D.2.2.2.2.2.2) D.2.2.2.2.2.2.2.1 D.2.2.2.2.2.2.2.2 (.inr l)) rfl (fun m g1 g2 g3 => hQ m (rlR_tr RR g1) g2 (fun zz => ?_))
    obtain ⟨k1, k2, k3⟩ := g3 zz
    exact ⟨⟨k1, k2⟩, by rw [k3, l2]⟩
end RO
end
section
theorem s_94_0 {E : yE} {n d : Nat} {mem : yMem} {Post : Option yV → yMem → Prop} {st : List yV} {r1 r2 : Option yV} {x : Int} : zvc E (n + 1) [] d xm_94 0 [some (1, x), r1, r2] (st) mem Post = (zvc E n [] d xm_94 1 [some (1, x), r1, r2] ((1, x) :: st) mem Post) := zrf rfl
theorem s_94_1a {E : yE} {n d : Nat} {mem : yMem} {Post : Option yV → yMem → Prop} {st : List yV} {r0 r1 r2 : Option yV} {x : Int} : zvc E (n + 1) [] d xm_94 1 [r0, r1, r2] ((0, x) :: st) mem Post = (zvc E n [] d xm_94 2 [r0, r1, r2] ((0, x) :: (0, x) :: st) mem Post) := zrf rfl
theorem s_94_1b {E : yE} {n d : Nat} {mem : yMem} {Post : Option yV → yMem → Prop} {st : List yV} {r0 r1 r2 : Option yV} {x : Int} : zvc E (n + 1) [] d xm_94 1 [r0, r1, r2] ((1, x) :: st) mem Post = (zvc E n [] d xm_94 2 [r0, r1, r2] ((1, x) :: (1, x) :: st) mem Post) := zrf rfl
theorem s_94_2 {E : yE} {n d : Nat} {mem : yMem} {Post : Option yV → yMem → Prop} {st : List yV} {r0 r1 r2 : Option yV} : zvc E (n + 1) [] d xm_94 2 [r0, r1, r2] ((1, 73) :: st) mem Post = (zvc E n [] d xm_94 5 [r0, r1, r2] ((0, mem 73 5) :: st) mem Post) := zrf rfl
theorem s_94_5 {E : yE} {n d : Nat} {mem : yMem} {Post : Option yV → yMem → Prop} {st : List yV} {r0 r2 : Option yV} {x : Int} : zvc E (n + 1) [] d xm_94 5 [r0, some (4, x), r2] (st) mem Post = (zvc E n [] d xm_94 6 [r0, some (4, x), r2] ((4, x) :: st) mem Post) := zrf rfl
theorem s_94_6 {E : yE} {n d : Nat} {mem : yMem} {Post : Option yV → yMem → Prop} {st : List yV} {r0 r1 r2 : Option yV} : zvc E (n + 1) [] d xm_94 6 [r0, r1, r2] (st) mem Post = (zvc E n [] d xm_94 9 [r0, r1, r2] ((4, 1000000000000) :: st) mem Post) := zrf rfl
theorem s_94_9 {E : yE} {n d : Nat} {mem : yMem} {Post : Option yV → yMem → Prop} {st : List yV} {r0 r1 r2 : Option yV} {x y : Int} : zvc E (n + 1) [] d xm_94 9 [r0, r1, r2] ((4, y) :: (4, x) :: st) mem Post = (zvc E n [] d xm_94 10 [r0, r1, r2] ((0, ycmp x y) :: st) mem Post) := zrf rfl
theorem s_94_10 {E : yE} {n d : Nat} {mem : yMem} {Post : Option yV → yMem → Prop} {st : List yV} {r0 r1 r2 : Option yV} {x : Int} : zvc E (n + 1) [] d xm_94 10 [r0, r1, r2] ((0, x) :: st) mem Post = ((w32 0 < w32 x → zvc E n [] d xm_94 21 [r0, r1, r2] (st) mem Post) ∧ (¬ (w32 0 < w32 x) → zvc E n [] d xm_94 13 [r0, r1, r2] (st) mem Post)) := zrf rfl
theorem s_94_13 {E : yE} {n d : Nat} {mem : yMem} {Post : Option yV → yMem → Prop} {st : List yV} {r0 r2 : Option yV} {x : Int} : zvc E (n + 1) [] d xm_94 13 [r0, some (4, x), r2] (st) mem Post = (zvc E n [] d xm_94 14 [r0, some (4, x), r2] ((4, x) :: st) mem Post) := zrf rfl
theorem s_94_14 {E : yE} {n d : Nat} {mem : yMem} {Post : Option yV → yMem → Prop} {st : List yV} {r0 r1 r2 : Option yV} : zvc E (n + 1) [] d xm_94 14 [r0, r1, r2] (st) mem Post = (zvc E n [] d xm_94 17 [r0, r1, r2] ((4, (-1000000000000)) :: st) mem Post) := zrf rfl
theorem s_94_17 {E : yE} {n d : Nat} {mem : yMem} {Post : Option yV → yMem → Prop} {st : List yV} {r0 r1 r2 : Option yV} {x y : Int} : zvc E (n + 1) [] d xm_94 17 [r0, r1, r2] ((4, y) :: (4, x) :: st) mem Post = (zvc E n [] d xm_94 18 [r0, r1, r2] ((0, ycmp x y) :: st) mem Post) := zrf rfl
theorem s_94_18 {E : yE} {n d : Nat} {mem : yMem} {Post : Option yV → yMem → Prop} {st : List yV} {r0 r1 r2 : Option yV} {x : Int} : zvc E (n + 1) [] d xm_94 18 [r0, r1, r2] ((0, x) :: st) mem Post = ((w32 0 ≤ w32 x → zvc E n [] d xm_94 25 [r0, r1, r2] (st) mem Post) ∧ (¬ (w32 0 ≤ w32 x) → zvc E n [] d xm_94 21 [r0, r1, r2] (st) mem Post)) := zrf rfl
theorem s_94_21 {E : yE} {n d : Nat} {mem : yMem} {Post : Option yV → yMem → Prop} {st : List yV} {r0 r1 r2 : Option yV} : zvc E (n + 1) [] d xm_94 21 [r0, r1, r2] (st) mem Post = (zvc E n [] d xm_94 22 [r0, r1, r2] ((0, 1) :: st) mem Post) := zrf rfl
theorem s_94_22 {E : yE} {n d : Nat} {mem : yMem} {Post : Option yV → yMem → Prop} {st : List yV} {r0 r1 r2 : Option yV} : zvc E (n + 1) [] d xm_94 22 [r0, r1, r2] (st) mem Post = (zvc E n [] d xm_94 26 [r0, r1, r2] (st) mem Post) := zrf rfl
theorem s_94_25 {E : yE} {n d : Nat} {mem : yMem} {Post : Option yV → yMem → Prop} {st : List yV} {r0 r1 r2 : Option yV} : zvc E (n + 1) [] d xm_94 25 [r0, r1, r2] (st) mem Post = (zvc E n [] d xm_94 26 [r0, r1, r2] ((0, 0) :: st) mem Post) := zrf rfl
theorem s_94_26 {E : yE} {n d : Nat} {mem : yMem} {Post : Option yV → yMem → Prop} {st : List yV} {r0 r1 r2 : Option yV} {x y : Int} : zvc E (n + 1) [] d xm_94 26 [r0, r1, r2] ((0, y) :: (0, x) :: st) mem Post = (zvc E n [] d xm_94 27 [r0, r1, r2] ((0, ybin 4 x y) :: st) mem Post) := zrf rfl
theorem s_94_27 {E : yE} {n d : Nat} {mem : yMem} {Post : Option yV → yMem → Prop} {st : List yV} {r0 r1 r2 : Option yV} {x : Int} : zvc E (n + 1) [] d xm_94 27 [r0, r1, r2] ((0, x) :: (1, 73) :: st) mem Post = ((w32 x = 0 ∨ w32 x = 1) ∧ zvc E n [] d xm_94 30 [r0, r1, r2] (st) (yset mem 73 5 x) Post) := zrf rfl
theorem s_94_30 {E : yE} {n d : Nat} {mem : yMem} {Post : Option yV → yMem → Prop} {st : List yV} {r1 r2 : Option yV} {x : Int} : zvc E (n + 1) [] d xm_94 30 [some (1, x), r1, r2] (st) mem Post = (zvc E n [] d xm_94 31 [some (1, x), r1, r2] ((1, x) :: st) mem Post) := zrf rfl
theorem s_94_31 {E : yE} {n d : Nat} {mem : yMem} {Post : Option yV → yMem → Prop} {st : List yV} {r0 r1 r2 : Option yV} : zvc E (n + 1) [] d xm_94 31 [r0, r1, r2] ((1, 73) :: st) mem Post = (zvc E n [] d xm_94 34 [r0, r1, r2] ((0, mem 73 4) :: st) mem Post) := zrf rfl
theorem s_94_34 {E : yE} {n d : Nat} {mem : yMem} {Post : Option yV → yMem → Prop} {st : List yV} {r1 r2 : Option yV} {x : Int} : zvc E (n + 1) [] d xm_94 34 [some (1, x), r1, r2] (st) mem Post = (zvc E n [] d xm_94 35 [some (1, x), r1, r2] ((1, x) :: st) mem Post) := zrf rfl
theorem s_94_35 {E : yE} {n d : Nat} {mem : yMem} {Post : Option yV → yMem → Prop} {st : List yV} {r0 r1 r2 : Option yV} : zvc E (n + 1) [] d xm_94 35 [r0, r1, r2] ((1, 73) :: st) mem Post = (zvc E n [] d xm_94 38 [r0, r1, r2] ((1, 75) :: st) mem Post) := zrf rfl
theorem s_94_38 {E : yE} {n d : Nat} {mem : yMem} {Post : Option yV → yMem → Prop} {st : List yV} {r0 r1 r2 : Option yV} {z : Int} : zvc E (n + 1) [] d xm_94 38 [r0, r1, r2] ((1, z) :: st) mem Post = (zia z = true ∧ zvc E n [] d xm_94 39 [r0, r1, r2] ((0, ((zln z : Nat) : Int)) :: st) mem Post) := zrf rfl
theorem s_94_39 {E : yE} {n d : Nat} {mem : yMem} {Post : Option yV → yMem → Prop} {st : List yV} {r0 r1 r2 : Option yV} {x y : Int} : zvc E (n + 1) [] d xm_94 39 [r0, r1, r2] ((0, y) :: (0, x) :: st) mem Post = ((w32 y ≤ w32 x → zvc E n [] d xm_94 62 [r0, r1, r2] (st) mem Post) ∧ (¬ (w32 y ≤ w32 x) → zvc E n [] d xm_94 42 [r0, r1, r2] (st) mem Post)) := zrf rfl
theorem s_94_42 {E : yE} {n d : Nat} {mem : yMem} {Post : Option yV → yMem → Prop} {st : List yV} {r1 r2 : Option yV} {x : Int} : zvc E (n + 1) [] d xm_94 42 [some (1, x), r1, r2] (st) mem Post = (zvc E n [] d xm_94 43 [some (1, x), r1, r2] ((1, x) :: st) mem Post) := zrf rfl
theorem s_94_43 {E : yE} {n d : Nat} {mem : yMem} {Post : Option yV → yMem → Prop} {st : List yV} {r0 r1 r2 : Option yV} : zvc E (n + 1) [] d xm_94 43 [r0, r1, r2] ((1, 73) :: st) mem Post = (zvc E n [] d xm_94 46 [r0, r1, r2] ((1, 75) :: st) mem Post) := zrf rfl
theorem s_94_46 {E : yE} {n d : Nat} {mem : yMem} {Post : Option yV → yMem → Prop} {st : List yV} {r1 r2 : Option yV} {x : Int} : zvc E (n + 1) [] d xm_94 46 [some (1, x), r1, r2] (st) mem Post = (zvc E n [] d xm_94 47 [some (1, x), r1, r2] ((1, x) :: st) mem Post) := zrf rfl
theorem s_94_47 {E : yE} {n d : Nat} {mem : yMem} {Post : Option yV → yMem → Prop} {st : List yV} {r0 r1 r2 : Option yV} : zvc E (n + 1) [] d xm_94 47 [r0, r1, r2] ((1, 73) :: st) mem Post = (zvc E n [] d xm_94 50 [r0, r1, r2] ((0, mem 73 4) :: st) mem Post) := zrf rfl
theorem s_94_50 {E : yE} {n d : Nat} {mem : yMem} {Post : Option yV → yMem → Prop} {st : List yV} {r0 r2 : Option yV} {x : Int} : zvc E (n + 1) [] d xm_94 50 [r0, some (4, x), r2] (st) mem Post = (zvc E n [] d xm_94 51 [r0, some (4, x), r2] ((4, x) :: st) mem Post) := zrf rfl
theorem s_94_51 {E : yE} {n d : Nat} {mem : yMem} {Post : Option yV → yMem → Prop} {st : List yV} {r0 r1 r2 : Option yV} {x z j : Int} : zvc E (n + 1) [] d xm_94 51 [r0, r1, r2] ((4, x) :: (0, j) :: (1, z) :: st) mem Post = ((0 ≤ w32 j ∧ w32 j < ((zar z 2 : Nat) : Int)) ∧ zvc E n [] d xm_94 52 [r0, r1, r2] (st) (yset mem z.toNat (w32 j).toNat x) Post) := zrf rfl
theorem s_94_52 {E : yE} {n d : Nat} {mem : yMem} {Post : Option yV → yMem → Prop} {st : List yV} {r1 r2 : Option yV} {x : Int} : zvc E (n + 1) [] d xm_94 52 [some (1, x), r1, r2] (st) mem Post = (zvc E n [] d xm_94 53 [some (1, x), r1, r2] ((1, x) :: st) mem Post) := zrf rfl
theorem s_94_53a {E : yE} {n d : Nat} {mem : yMem} {Post : Option yV → yMem → Prop} {st : List yV} {r0 r1 r2 : Option yV} {x : Int} : zvc E (n + 1) [] d xm_94 53 [r0, r1, r2] ((0, x) :: st) mem Post = (zvc E n [] d xm_94 54 [r0, r1, r2] ((0, x) :: (0, x) :: st) mem Post) := zrf rfl
theorem s_94_53b {E : yE} {n d : Nat} {mem : yMem} {Post : Option yV → yMem → Prop} {st : List yV} {r0 r1 r2 : Option yV} {x : Int} : zvc E (n + 1) [] d xm_94 53 [r0, r1, r2] ((1, x) :: st) mem Post = (zvc E n [] d xm_94 54 [r0, r1, r2] ((1, x) :: (1, x) :: st) mem Post) := zrf rfl
theorem s_94_54 {E : yE} {n d : Nat} {mem : yMem} {Post : Option yV → yMem → Prop} {st : List yV} {r0 r1 r2 : Option yV} : zvc E (n + 1) [] d xm_94 54 [r0, r1, r2] ((1, 73) :: st) mem Post = (zvc E n [] d xm_94 57 [r0, r1, r2] ((0, mem 73 4) :: st) mem Post) := zrf rfl
theorem s_94_57 {E : yE} {n d : Nat} {mem : yMem} {Post : Option yV → yMem → Prop} {st : List yV} {r0 r1 r2 : Option yV} : zvc E (n + 1) [] d xm_94 57 [r0, r1, r2] (st) mem Post = (zvc E n [] d xm_94 58 [r0, r1, r2] ((0, 1) :: st) mem Post) := zrf rfl
theorem s_94_58 {E : yE} {n d : Nat} {mem : yMem} {Post : Option yV → yMem → Prop} {st : List yV} {r0 r1 r2 : Option yV} {x y : Int} : zvc E (n + 1) [] d xm_94 58 [r0, r1, r2] ((0, y) :: (0, x) :: st) mem Post = (zvc E n [] d xm_94 59 [r0, r1, r2] ((0, x + y) :: st) mem Post) := zrf rfl
theorem s_94_59 {E : yE} {n d : Nat} {mem : yMem} {Post : Option yV → yMem → Prop} {st : List yV} {r0 r1 r2 : Option yV} {x : Int} : zvc E (n + 1) [] d xm_94 59 [r0, r1, r2] ((0, x) :: (1, 73) :: st) mem Post = (zvc E n [] d xm_94 62 [r0, r1, r2] (st) (yset mem 73 4 x) Post) := zrf rfl
theorem s_94_62 {E : yE} {n d : Nat} {mem : yMem} {Post : Option yV → yMem → Prop} {r0 r1 r2 : Option yV} : zvc E (n + 1) [] d xm_94 62 [r0, r1, r2] ([]) mem Post = (Post none mem) := zrf rfl
theorem s_93_0 {E : yE} {n d : Nat} {mem : yMem} {Post : Option yV → yMem → Prop} {st : List yV} {x : Int} : zvc E (n + 1) [] d xm_93 0 [some (1, x)] (st) mem Post = (zvc E n [] d xm_93 1 [some (1, x)] ((1, x) :: st) mem Post) := zrf rfl
theorem s_93_1 {E : yE} {n d : Nat} {mem : yMem} {Post : Option yV → yMem → Prop} {st : List yV} {r0 : Option yV} : zvc E (n + 1) [] d xm_93 1 [r0] ((1, 73) :: st) mem Post = (zvc E n [] d xm_93 4 [r0] ((0, mem 73 4) :: st) mem Post) := zrf rfl
theorem s_93_4 {E : yE} {n d : Nat} {mem : yMem} {Post : Option yV → yMem → Prop} {st : List yV} {r0 : Option yV} {x : Int} : zvc E (n + 1) [] d xm_93 4 [r0] ((0, x) :: st) mem Post = ((¬ w32 x = w32 0 → zvc E n [] d xm_93 9 [r0] (st) mem Post) ∧ (¬ (¬ w32 x = w32 0) → zvc E n [] d xm_93 7 [r0] (st) mem Post)) := zrf rfl
theorem s_93_7 {E : yE} {n d : Nat} {mem : yMem} {Post : Option yV → yMem → Prop} {st : List yV} {r0 : Option yV} : zvc E (n + 1) [] d xm_93 7 [r0] (st) mem Post = (zvc E n [] d xm_93 8 [r0] ((4, 0) :: st) mem Post) := zrf rfl
theorem s_93_8 {E : yE} {n d : Nat} {mem : yMem} {Post : Option yV → yMem → Prop} {r0 : Option yV} {x : Int} : zvc E (n + 1) [] d xm_93 8 [r0] ([(4, x)]) mem Post = (Post (some (4, x)) mem) := zrf rfl
theorem s_93_9 {E : yE} {n d : Nat} {mem : yMem} {Post : Option yV → yMem → Prop} {st : List yV} {x : Int} : zvc E (n + 1) [] d xm_93 9 [some (1, x)] (st) mem Post = (zvc E n [] d xm_93 10 [some (1, x)] ((1, x) :: st) mem Post) := zrf rfl
theorem s_93_10a {E : yE} {n d : Nat} {mem : yMem} {Post : Option yV → yMem → Prop} {st : List yV} {r0 : Option yV} {x : Int} : zvc E (n + 1) [] d xm_93 10 [r0] ((0, x) :: st) mem Post = (zvc E n [] d xm_93 11 [r0] ((0, x) :: (0, x) :: st) mem Post) := zrf rfl
theorem s_93_10b {E : yE} {n d : Nat} {mem : yMem} {Post : Option yV → yMem → Prop} {st : List yV} {r0 : Option yV} {x : Int} : zvc E (n + 1) [] d xm_93 10 [r0] ((1, x) :: st) mem Post = (zvc E n [] d xm_93 11 [r0] ((1, x) :: (1, x) :: st) mem Post) := zrf rfl
theorem s_93_11 {E : yE} {n d : Nat} {mem : yMem} {Post : Option yV → yMem → Prop} {st : List yV} {r0 : Option yV} : zvc E (n + 1) [] d xm_93 11 [r0] ((1, 73) :: st) mem Post = (zvc E n [] d xm_93 14 [r0] ((0, mem 73 4) :: st) mem Post) := zrf rfl
theorem s_93_14 {E : yE} {n d : Nat} {mem : yMem} {Post : Option yV → yMem → Prop} {st : List yV} {r0 : Option yV} : zvc E (n + 1) [] d xm_93 14 [r0] (st) mem Post = (zvc E n [] d xm_93 15 [r0] ((0, 1) :: st) mem Post) := zrf rfl
theorem s_93_15 {E : yE} {n d : Nat} {mem : yMem} {Post : Option yV → yMem → Prop} {st : List yV} {r0 : Option yV} {x y : Int} : zvc E (n + 1) [] d xm_93 15 [r0] ((0, y) :: (0, x) :: st) mem Post = (zvc E n [] d xm_93 16 [r0] ((0, x - y) :: st) mem Post) := zrf rfl
theorem s_93_16 {E : yE} {n d : Nat} {mem : yMem} {Post : Option yV → yMem → Prop} {st : List yV} {r0 : Option yV} {x : Int} : zvc E (n + 1) [] d xm_93 16 [r0] ((0, x) :: (1, 73) :: st) mem Post = (zvc E n [] d xm_93 19 [r0] (st) (yset mem 73 4 x) Post) := zrf rfl
theorem s_93_19 {E : yE} {n d : Nat} {mem : yMem} {Post : Option yV → yMem → Prop} {st : List yV} {x : Int} : zvc E (n + 1) [] d xm_93 19 [some (1, x)] (st) mem Post = (zvc E n [] d xm_93 20 [some (1, x)] ((1, x) :: st) mem Post) := zrf rfl
theorem s_93_20 {E : yE} {n d : Nat} {mem : yMem} {Post : Option yV → yMem → Prop} {st : List yV} {r0 : Option yV} : zvc E (n + 1) [] d xm_93 20 [r0] ((1, 73) :: st) mem Post = (zvc E n [] d xm_93 23 [r0] ((1, 75) :: st) mem Post) := zrf rfl
theorem s_93_23 {E : yE} {n d : Nat} {mem : yMem} {Post : Option yV → yMem → Prop} {st : List yV} {x : Int} : zvc E (n + 1) [] d xm_93 23 [some (1, x)] (st) mem Post = (zvc E n [] d xm_93 24 [some (1, x)] ((1, x) :: st) mem Post) := zrf rfl
theorem s_93_24 {E : yE} {n d : Nat} {mem : yMem} {Post : Option yV → yMem → Prop} {st : List yV} {r0 : Option yV} : zvc E (n + 1) [] d xm_93 24 [r0] ((1, 73) :: st) mem Post = (zvc E n [] d xm_93 27 [r0] ((0, mem 73 4) :: st) mem Post) := zrf rfl
theorem s_93_27 {E : yE} {n d : Nat} {mem : yMem} {Post : Option yV → yMem → Prop} {st : List yV} {r0 : Option yV} {z j : Int} : zvc E (n + 1) [] d xm_93 27 [r0] ((0, j) :: (1, z) :: st) mem Post = ((0 ≤ w32 j ∧ w32 j < ((zar z 2 : Nat) : Int)) ∧ zvc E n [] d xm_93 28 [r0] ((4, mem z.toNat (w32 j).toNat) :: st) mem Post) := zrf rfl
theorem s_93_28 {E : yE} {n d : Nat} {mem : yMem} {Post : Option yV → yMem → Prop} {r0 : Option yV} {x : Int} : zvc E (n + 1) [] d xm_93 28 [r0] ([(4, x)]) mem Post = (Post (some (4, x)) mem) := zrf rfl
theorem s_96_0 {E : yE} {n d : Nat} {mem : yMem} {Post : Option yV → yMem → Prop} {st : List yV} {r0 r2 r3 r4 r5 : Option yV} {x : Int} : zvc E (n + 1) [] d xm_96 0 [r0, some (0, x), r2, r3, r4, r5] (st) mem Post = (zvc E n [] d xm_96 1 [r0, some (0, x), r2, r3, r4, r5] ((0, x) :: st) mem Post) := zrf rfl
theorem s_96_1 {E : yE} {n d : Nat} {mem : yMem} {Post : Option yV → yMem → Prop} {st : List yV} {r0 r1 r2 r3 r4 r5 : Option yV} : zvc E (n + 1) [] d xm_96 1 [r0, r1, r2, r3, r4, r5] (st) mem Post = (zvc E n [] d xm_96 3 [r0, r1, r2, r3, r4, r5] ((0, 16) :: st) mem Post) := zrf rfl
theorem s_96_3 {E : yE} {n d : Nat} {mem : yMem} {Post : Option yV → yMem → Prop} {st : List yV} {r0 r1 r2 r3 r4 r5 : Option yV} {x y : Int} : zvc E (n + 1) [] d xm_96 3 [r0, r1, r2, r3, r4, r5] ((0, y) :: (0, x) :: st) mem Post = ((¬ w32 x = w32 y → zvc E n [] d xm_96 43 [r0, r1, r2, r3, r4, r5] (st) mem Post) ∧ (¬ (¬ w32 x = w32 y) → zvc E n [] d xm_96 6 [r0, r1, r2, r3, r4, r5] (st) mem Post)) := zrf rfl
theorem s_96_6 {E : yE} {n d : Nat} {mem : yMem} {Post : Option yV → yMem → Prop} {st : List yV} {r1 r2 r3 r4 r5 : Option yV} {x : Int} : zvc E (n + 1) [] d xm_96 6 [some (1, x), r1, r2, r3, r4, r5] (st) mem Post = (zvc E n [] d xm_96 7 [some (1, x), r1, r2, r3, r4, r5] ((1, x) :: st) mem Post) := zrf rfl
theorem s_96_7a {E : yE} {n d : Nat} {mem : yMem} {Post : Option yV → yMem → Prop} {st : List yV} {r0 r1 r2 r3 r4 r5 : Option yV} {x : Int} : zvc E (n + 1) [] d xm_96 7 [r0, r1, r2, r3, r4, r5] ((0, x) :: st) mem Post = (zvc E n [] d xm_96 8 [r0, r1, r2, r3, r4, r5] ((0, x) :: (0, x) :: st) mem Post) := zrf rfl
theorem s_96_7b {E : yE} {n d : Nat} {mem : yMem} {Post : Option yV → yMem → Prop} {st : List yV} {r0 r1 r2 r3 r4 r5 : Option yV} {x : Int} : zvc E (n + 1) [] d xm_96 7 [r0, r1, r2, r3, r4, r5] ((1, x) :: st) mem Post = (zvc E n [] d xm_96 8 [r0, r1, r2, r3, r4, r5] ((1, x) :: (1, x) :: st) mem Post) := zrf rfl
theorem s_96_8 {E : yE} {n d : Nat} {mem : yMem} {Post : Option yV → yMem → Prop} {st : List yV} {r0 r1 r2 r3 r4 r5 : Option yV} : zvc E (n + 1) [] d xm_96 8 [r0, r1, r2, r3, r4, r5] ((1, 73) :: st) mem Post = (zvc E n [] d xm_96 11 [r0, r1, r2, r3, r4, r5] ((0, mem 73 5) :: st) mem Post) := zrf rfl
theorem s_96_11 {E : yE} {n d : Nat} {mem : yMem} {Post : Option yV → yMem → Prop} {st : List yV} {r0 r1 r2 r3 r5 : Option yV} {x : Int} : zvc E (n + 1) [] d xm_96 11 [r0, r1, r2, r3, some (4, x), r5] (st) mem Post = (zvc E n [] d xm_96 13 [r0, r1, r2, r3, some (4, x), r5] ((4, x) :: st) mem Post) := zrf rfl
theorem s_96_13 {E : yE} {n d : Nat} {mem : yMem} {Post : Option yV → yMem → Prop} {st : List yV} {r0 r1 r2 r3 r4 r5 : Option yV} : zvc E (n + 1) [] d xm_96 13 [r0, r1, r2, r3, r4, r5] (st) mem Post = (zvc E n [] d xm_96 14 [r0, r1, r2, r3, r4, r5] ((4, 0) :: st) mem Post) := zrf rfl
theorem s_96_14 {E : yE} {n d : Nat} {mem : yMem} {Post : Option yV → yMem → Prop} {st : List yV} {r0 r1 r2 r3 r4 r5 : Option yV} {x y : Int} : zvc E (n + 1) [] d xm_96 14 [r0, r1, r2, r3, r4, r5] ((4, y) :: (4, x) :: st) mem Post = (zvc E n [] d xm_96 15 [r0, r1, r2, r3, r4, r5] ((0, ycmp x y) :: st) mem Post) := zrf rfl
theorem s_96_15 {E : yE} {n d : Nat} {mem : yMem} {Post : Option yV → yMem → Prop} {st : List yV} {r0 r1 r2 r3 r4 r5 : Option yV} {x : Int} : zvc E (n + 1) [] d xm_96 15 [r0, r1, r2, r3, r4, r5] ((0, x) :: st) mem Post = ((¬ w32 x = w32 0 → zvc E n [] d xm_96 22 [r0, r1, r2, r3, r4, r5] (st) mem Post) ∧ (¬ (¬ w32 x = w32 0) → zvc E n [] d xm_96 18 [r0, r1, r2, r3, r4, r5] (st) mem Post)) := zrf rfl
theorem s_96_18 {E : yE} {n d : Nat} {mem : yMem} {Post : Option yV → yMem → Prop} {st : List yV} {r0 r1 r2 r3 r4 r5 : Option yV} : zvc E (n + 1) [] d xm_96 18 [r0, r1, r2, r3, r4, r5] (st) mem Post = (zvc E n [] d xm_96 19 [r0, r1, r2, r3, r4, r5] ((0, 1) :: st) mem Post) := zrf rfl
theorem s_96_19 {E : yE} {n d : Nat} {mem : yMem} {Post : Option yV → yMem → Prop} {st : List yV} {r0 r1 r2 r3 r4 r5 : Option yV} : zvc E (n + 1) [] d xm_96 19 [r0, r1, r2, r3, r4, r5] (st) mem Post = (zvc E n [] d xm_96 23 [r0, r1, r2, r3, r4, r5] (st) mem Post) := zrf rfl
theorem s_96_22 {E : yE} {n d : Nat} {mem : yMem} {Post : Option yV → yMem → Prop} {st : List yV} {r0 r1 r2 r3 r4 r5 : Option yV} : zvc E (n + 1) [] d xm_96 22 [r0, r1, r2, r3, r4, r5] (st) mem Post = (zvc E n [] d xm_96 23 [r0, r1, r2, r3, r4, r5] ((0, 0) :: st) mem Post) := zrf rfl
theorem s_96_23 {E : yE} {n d : Nat} {mem : yMem} {Post : Option yV → yMem → Prop} {st : List yV} {r0 r1 r2 r3 r4 r5 : Option yV} {x y : Int} : zvc E (n + 1) [] d xm_96 23 [r0, r1, r2, r3, r4, r5] ((0, y) :: (0, x) :: st) mem Post = (zvc E n [] d xm_96 24 [r0, r1, r2, r3, r4, r5] ((0, ybin 4 x y) :: st) mem Post) := zrf rfl
theorem s_96_24 {E : yE} {n d : Nat} {mem : yMem} {Post : Option yV → yMem → Prop} {st : List yV} {r0 r1 r2 r3 r4 r5 : Option yV} {x : Int} : zvc E (n + 1) [] d xm_96 24 [r0, r1, r2, r3, r4, r5] ((0, x) :: (1, 73) :: st) mem Post = ((w32 x = 0 ∨ w32 x = 1) ∧ zvc E n [] d xm_96 27 [r0, r1, r2, r3, r4, r5] (st) (yset mem 73 5 x) Post) := zrf rfl
theorem s_96_27 {E : yE} {n d : Nat} {mem : yMem} {Post : Option yV → yMem → Prop} {st : List yV} {r0 r1 r2 r3 r5 : Option yV} {x : Int} : zvc E (n + 1) [] d xm_96 27 [r0, r1, r2, r3, some (4, x), r5] (st) mem Post = (zvc E n [] d xm_96 29 [r0, r1, r2, r3, some (4, x), r5] ((4, x) :: st) mem Post) := zrf rfl
theorem s_96_29 {E : yE} {n d : Nat} {mem : yMem} {Post : Option yV → yMem → Prop} {st : List yV} {r0 r1 r2 r3 r4 r5 : Option yV} : zvc E (n + 1) [] d xm_96 29 [r0, r1, r2, r3, r4, r5] (st) mem Post = (zvc E n [] d xm_96 30 [r0, r1, r2, r3, r4, r5] ((4, 0) :: st) mem Post) := zrf rfl
theorem s_96_30 {E : yE} {n d : Nat} {mem : yMem} {Post : Option yV → yMem → Prop} {st : List yV} {r0 r1 r2 r3 r4 r5 : Option yV} {x y : Int} : zvc E (n + 1) [] d xm_96 30 [r0, r1, r2, r3, r4, r5] ((4, y) :: (4, x) :: st) mem Post = (zvc E n [] d xm_96 31 [r0, r1, r2, r3, r4, r5] ((0, ycmp x y) :: st) mem Post) := zrf rfl
theorem s_96_31 {E : yE} {n d : Nat} {mem : yMem} {Post : Option yV → yMem → Prop} {st : List yV} {r0 r1 r2 r3 r4 r5 : Option yV} {x : Int} : zvc E (n + 1) [] d xm_96 31 [r0, r1, r2, r3, r4, r5] ((0, x) :: st) mem Post = ((¬ w32 x = w32 0 → zvc E n [] d xm_96 38 [r0, r1, r2, r3, r4, r5] (st) mem Post) ∧ (¬ (¬ w32 x = w32 0) → zvc E n [] d xm_96 34 [r0, r1, r2, r3, r4, r5] (st) mem Post)) := zrf rfl
theorem s_96_34 {E : yE} {n d : Nat} {mem : yMem} {Post : Option yV → yMem → Prop} {st : List yV} {r0 r1 r2 r3 r4 r5 : Option yV} : zvc E (n + 1) [] d xm_96 34 [r0, r1, r2, r3, r4, r5] (st) mem Post = (zvc E n [] d xm_96 35 [r0, r1, r2, r3, r4, r5] ((4, 0) :: st) mem Post) := zrf rfl
theorem s_96_35 {E : yE} {n d : Nat} {mem : yMem} {Post : Option yV → yMem → Prop} {st : List yV} {r0 r1 r2 r3 r4 r5 : Option yV} : zvc E (n + 1) [] d xm_96 35 [r0, r1, r2, r3, r4, r5] (st) mem Post = (zvc E n [] d xm_96 42 [r0, r1, r2, r3, r4, r5] (st) mem Post) := zrf rfl
theorem s_96_38 {E : yE} {n d : Nat} {mem : yMem} {Post : Option yV → yMem → Prop} {st : List yV} {r0 r1 r3 r4 r5 : Option yV} {x : Int} : zvc E (n + 1) [] d xm_96 38 [r0, r1, some (4, x), r3, r4, r5] (st) mem Post = (zvc E n [] d xm_96 39 [r0, r1, some (4, x), r3, r4, r5] ((4, x) :: st) mem Post) := zrf rfl
theorem s_96_39 {E : yE} {n d : Nat} {mem : yMem} {Post : Option yV → yMem → Prop} {st : List yV} {r0 r1 r2 r3 r5 : Option yV} {x : Int} : zvc E (n + 1) [] d xm_96 39 [r0, r1, r2, r3, some (4, x), r5] (st) mem Post = (zvc E n [] d xm_96 41 [r0, r1, r2, r3, some (4, x), r5] ((4, x) :: st) mem Post) := zrf rfl
theorem s_96_41 {E : yE} {n d : Nat} {mem : yMem} {Post : Option yV → yMem → Prop} {st : List yV} {r0 r1 r2 r3 r4 r5 : Option yV} {x y : Int} : zvc E (n + 1) [] d xm_96 41 [r0, r1, r2, r3, r4, r5] ((4, y) :: (4, x) :: st) mem Post = (¬ w64 y = 0 ∧ zvc E n [] d xm_96 42 [r0, r1, r2, r3, r4, r5] ((4, ylbin 9 x y) :: st) mem Post) := zrf rfl
theorem s_96_42 {E : yE} {n d : Nat} {mem : yMem} {Post : Option yV → yMem → Prop} {r0 r1 r2 r3 r4 r5 : Option yV} {x : Int} : zvc E (n + 1) [] d xm_96 42 [r0, r1, r2, r3, r4, r5] ([(4, x)]) mem Post = (Post (some (4, x)) mem) := zrf rfl
theorem s_96_43 {E : yE} {n d : Nat} {mem : yMem} {Post : Option yV → yMem → Prop} {st : List yV} {r0 r1 r3 r4 r5 : Option yV} {x : Int} : zvc E (n + 1) [] d xm_96 43 [r0, r1, some (4, x), r3, r4, r5] (st) mem Post = (zvc E n [] d xm_96 44 [r0, r1, some (4, x), r3, r4, r5] ((4, x) :: st) mem Post) := zrf rfl
theorem s_96_44 {E : yE} {n d : Nat} {mem : yMem} {Post : Option yV → yMem → Prop} {st : List yV} {r0 r1 r2 r3 r4 r5 : Option yV} : zvc E (n + 1) [] d xm_96 44 [r0, r1, r2, r3, r4, r5] (st) mem Post = (zvc E n [] d xm_96 45 [r0, r1, r2, r3, r4, r5] ((4, 0) :: st) mem Post) := zrf rfl
theorem s_96_45 {E : yE} {n d : Nat} {mem : yMem} {Post : Option yV → yMem → Prop} {st : List yV} {r0 r1 r2 r3 r4 r5 : Option yV} {x y : Int} : zvc E (n + 1) [] d xm_96 45 [r0, r1, r2, r3, r4, r5] ((4, y) :: (4, x) :: st) mem Post = (zvc E n [] d xm_96 46 [r0, r1, r2, r3, r4, r5] ((0, ycmp x y) :: st) mem Post) := zrf rfl
theorem s_96_46 {E : yE} {n d : Nat} {mem : yMem} {Post : Option yV → yMem → Prop} {st : List yV} {r0 r1 r2 r3 r4 r5 : Option yV} {x : Int} : zvc E (n + 1) [] d xm_96 46 [r0, r1, r2, r3, r4, r5] ((0, x) :: st) mem Post = ((w32 x = w32 0 → zvc E n [] d xm_96 73 [r0, r1, r2, r3, r4, r5] (st) mem Post) ∧ (¬ (w32 x = w32 0) → zvc E n [] d xm_96 49 [r0, r1, r2, r3, r4, r5] (st) mem Post)) := zrf rfl
theorem s_96_49 {E : yE} {n d : Nat} {mem : yMem} {Post : Option yV → yMem → Prop} {st : List yV} {r0 r1 r2 r3 r5 : Option yV} {x : Int} : zvc E (n + 1) [] d xm_96 49 [r0, r1, r2, r3, some (4, x), r5] (st) mem Post = (zvc E n [] d xm_96 51 [r0, r1, r2, r3, some (4, x), r5] ((4, x) :: st) mem Post) := zrf rfl
theorem s_96_51 {E : yE} {n d : Nat} {mem : yMem} {Post : Option yV → yMem → Prop} {st : List yV} {r0 r1 r2 r3 r4 r5 : Option yV} {x : Int} : zvc E (n + 1) [] d xm_96 51 [r0, r1, r2, r3, r4, r5] ((4, x) :: st) mem Post = (ysum st ≤ 8 ∧ zvc E n [] d xm_96 54 [r0, r1, r2, r3, r4, r5] ((4, zabl x) :: st) mem Post) := zrf rfl
theorem s_96_54 {E : yE} {n d : Nat} {mem : yMem} {Post : Option yV → yMem → Prop} {st : List yV} {r0 r1 r2 r3 r4 r5 : Option yV} : zvc E (n + 1) [] d xm_96 54 [r0, r1, r2, r3, r4, r5] (st) mem Post = (zvc E n [] d xm_96 57 [r0, r1, r2, r3, r4, r5] ((4, 1000000000000) :: st) mem Post) := zrf rfl
theorem s_96_57 {E : yE} {n d : Nat} {mem : yMem} {Post : Option yV → yMem → Prop} {st : List yV} {r0 r1 r3 r4 r5 : Option yV} {x : Int} : zvc E (n + 1) [] d xm_96 57 [r0, r1, some (4, x), r3, r4, r5] (st) mem Post = (zvc E n [] d xm_96 58 [r0, r1, some (4, x), r3, r4, r5] ((4, x) :: st) mem Post) := zrf rfl
theorem s_96_58 {E : yE} {n d : Nat} {mem : yMem} {Post : Option yV → yMem → Prop} {st : List yV} {r0 r1 r2 r3 r4 r5 : Option yV} {x : Int} : zvc E (n + 1) [] d xm_96 58 [r0, r1, r2, r3, r4, r5] ((4, x) :: st) mem Post = (ysum st ≤ 8 ∧ zvc E n [] d xm_96 61 [r0, r1, r2, r3, r4, r5] ((4, zabl x) :: st) mem Post) := zrf rfl
theorem s_96_61 {E : yE} {n d : Nat} {mem : yMem} {Post : Option yV → yMem → Prop} {st : List yV} {r0 r1 r2 r3 r4 r5 : Option yV} {x y : Int} : zvc E (n + 1) [] d xm_96 61 [r0, r1, r2, r3, r4, r5] ((4, y) :: (4, x) :: st) mem Post = (¬ w64 y = 0 ∧ zvc E n [] d xm_96 62 [r0, r1, r2, r3, r4, r5] ((4, ylbin 9 x y) :: st) mem Post) := zrf rfl
theorem s_96_62 {E : yE} {n d : Nat} {mem : yMem} {Post : Option yV → yMem → Prop} {st : List yV} {r0 r1 r2 r3 r4 r5 : Option yV} {x y : Int} : zvc E (n + 1) [] d xm_96 62 [r0, r1, r2, r3, r4, r5] ((4, y) :: (4, x) :: st) mem Post = (zvc E n [] d xm_96 63 [r0, r1, r2, r3, r4, r5] ((0, ycmp x y) :: st) mem Post) := zrf rfl
theorem s_96_63 {E : yE} {n d : Nat} {mem : yMem} {Post : Option yV → yMem → Prop} {st : List yV} {r0 r1 r2 r3 r4 r5 : Option yV} {x : Int} : zvc E (n + 1) [] d xm_96 63 [r0, r1, r2, r3, r4, r5] ((0, x) :: st) mem Post = ((w32 x ≤ w32 0 → zvc E n [] d xm_96 73 [r0, r1, r2, r3, r4, r5] (st) mem Post) ∧ (¬ (w32 x ≤ w32 0) → zvc E n [] d xm_96 66 [r0, r1, r2, r3, r4, r5] (st) mem Post)) := zrf rfl
theorem s_96_66 {E : yE} {n d : Nat} {mem : yMem} {Post : Option yV → yMem → Prop} {st : List yV} {r1 r2 r3 r4 r5 : Option yV} {x : Int} : zvc E (n + 1) [] d xm_96 66 [some (1, x), r1, r2, r3, r4, r5] (st) mem Post = (zvc E n [] d xm_96 67 [some (1, x), r1, r2, r3, r4, r5] ((1, x) :: st) mem Post) := zrf rfl
theorem s_96_67 {E : yE} {n d : Nat} {mem : yMem} {Post : Option yV → yMem → Prop} {st : List yV} {r0 r1 r2 r3 r4 r5 : Option yV} : zvc E (n + 1) [] d xm_96 67 [r0, r1, r2, r3, r4, r5] (st) mem Post = (zvc E n [] d xm_96 68 [r0, r1, r2, r3, r4, r5] ((0, 1) :: st) mem Post) := zrf rfl
theorem s_96_68 {E : yE} {n d : Nat} {mem : yMem} {Post : Option yV → yMem → Prop} {st : List yV} {r0 r1 r2 r3 r4 r5 : Option yV} {x : Int} : zvc E (n + 1) [] d xm_96 68 [r0, r1, r2, r3, r4, r5] ((0, x) :: (1, 73) :: st) mem Post = ((w32 x = 0 ∨ w32 x = 1) ∧ zvc E n [] d xm_96 71 [r0, r1, r2, r3, r4, r5] (st) (yset mem 73 5 x) Post) := zrf rfl
theorem s_96_71 {E : yE} {n d : Nat} {mem : yMem} {Post : Option yV → yMem → Prop} {st : List yV} {r0 r1 r2 r3 r4 r5 : Option yV} : zvc E (n + 1) [] d xm_96 71 [r0, r1, r2, r3, r4, r5] (st) mem Post = (zvc E n [] d xm_96 72 [r0, r1, r2, r3, r4, r5] ((4, 0) :: st) mem Post) := zrf rfl
theorem s_96_72 {E : yE} {n d : Nat} {mem : yMem} {Post : Option yV → yMem → Prop} {r0 r1 r2 r3 r4 r5 : Option yV} {x : Int} : zvc E (n + 1) [] d xm_96 72 [r0, r1, r2, r3, r4, r5] ([(4, x)]) mem Post = (Post (some (4, x)) mem) := zrf rfl
theorem s_96_73 {E : yE} {n d : Nat} {mem : yMem} {Post : Option yV → yMem → Prop} {st : List yV} {r0 r1 r3 r4 r5 : Option yV} {x : Int} : zvc E (n + 1) [] d xm_96 73 [r0, r1, some (4, x), r3, r4, r5] (st) mem Post = (zvc E n [] d xm_96 74 [r0, r1, some (4, x), r3, r4, r5] ((4, x) :: st) mem Post) := zrf rfl
theorem s_96_74 {E : yE} {n d : Nat} {mem : yMem} {Post : Option yV → yMem → Prop} {st : List yV} {r0 r1 r2 r3 r5 : Option yV} {x : Int} : zvc E (n + 1) [] d xm_96 74 [r0, r1, r2, r3, some (4, x), r5] (st) mem Post = (zvc E n [] d xm_96 76 [r0, r1, r2, r3, some (4, x), r5] ((4, x) :: st) mem Post) := zrf rfl
theorem s_96_76 {E : yE} {n d : Nat} {mem : yMem} {Post : Option yV → yMem → Prop} {st : List yV} {r0 r1 r2 r3 r4 r5 : Option yV} {x y : Int} : zvc E (n + 1) [] d xm_96 76 [r0, r1, r2, r3, r4, r5] ((4, y) :: (4, x) :: st) mem Post = (zvc E n [] d xm_96 77 [r0, r1, r2, r3, r4, r5] ((4, x * y) :: st) mem Post) := zrf rfl
theorem s_96_77 {E : yE} {n d : Nat} {mem : yMem} {Post : Option yV → yMem → Prop} {r0 r1 r2 r3 r4 r5 : Option yV} {x : Int} : zvc E (n + 1) [] d xm_96 77 [r0, r1, r2, r3, r4, r5] ([(4, x)]) mem Post = (Post (some (4, x)) mem) := zrf rfl
theorem s_92_0 {E : yE} {n d : Nat} {mem : yMem} {Post : Option yV → yMem → Prop} {st : List yV} {r1 r2 r3 r4 : Option yV} {x : Int} : zvc E (n + 1) [] d xm_92 0 [some (0, x), r1, r2, r3, r4] (st) mem Post = (zvc E n [] d xm_92 1 [some (0, x), r1, r2, r3, r4] ((0, x) :: st) mem Post) := zrf rfl
theorem s_92_1 {E : yE} {n d : Nat} {mem : yMem} {Post : Option yV → yMem → Prop} {st : List yV} {r0 r1 r2 r3 r4 : Option yV} {x : Int} : zvc E (n + 1) [] d xm_92 1 [r0, r1, r2, r3, r4] ((0, x) :: st) mem Post = ((w32 x = 7 → zvc E n [] d xm_92 160 [r0, r1, r2, r3, r4] (st) mem Post) ∧ (¬ w32 x = 7 → (w32 x = 8 → zvc E n [] d xm_92 172 [r0, r1, r2, r3, r4] (st) mem Post) ∧ (¬ w32 x = 8 → (w32 x = 9 → zvc E n [] d xm_92 184 [r0, r1, r2, r3, r4] (st) mem Post) ∧ (¬ w32 x = 9 → (w32 x = 10 → zvc E n [] d xm_92 196 [r0, r1, r2, r3, r4] (st) mem Post) ∧ (¬ w32 x = 10 → (w32 x = 11 → zvc E n [] d xm_92 208 [r0, r1, r2, r3, r4] (st) mem Post) ∧ (¬ w32 x = 11 → (w32 x = 12 → zvc E n [] d xm_92 220 [r0, r1, r2, r3, r4] (st) mem Post) ∧ (¬ w32 x = 12 → (w32 x = 13 → zvc E n [] d xm_92 116 [r0, r1, r2, r3, r4] (st) mem Post) ∧ (¬ w32 x = 13 → (w32 x = 14 → zvc E n [] d xm_92 120 [r0, r1, r2, r3, r4] (st) mem Post) ∧ (¬ w32 x = 14 → (w32 x = 15 → zvc E n [] d xm_92 220 [r0, r1, r2, r3, r4] (st) mem Post) ∧ (¬ w32 x = 15 → (w32 x = 16 → zvc E n [] d xm_92 220 [r0, r1, r2, r3, r4] (st) mem Post) ∧ (¬ w32 x = 16 → (w32 x = 17 → zvc E n [] d xm_92 220 [r0, r1, r2, r3, r4] (st) mem Post) ∧ (¬ w32 x = 17 → (w32 x = 18 → zvc E n [] d xm_92 220 [r0, r1, r2, r3, r4] (st) mem Post) ∧ (¬ w32 x = 18 → (w32 x = 19 → zvc E n [] d xm_92 220 [r0, r1, r2, r3, r4] (st) mem Post) ∧ (¬ w32 x = 19 → (w32 x = 20 → zvc E n [] d xm_92 220 [r0, r1, r2, r3, r4] (st) mem Post) ∧ (¬ w32 x = 20 → (w32 x = 21 → zvc E n [] d xm_92 220 [r0, r1, r2, r3, r4] (st) mem Post) ∧ (¬ w32 x = 21 → (w32 x = 22 → zvc E n [] d xm_92 220 [r0, r1, r2, r3, r4] (st) mem Post) ∧ (¬ w32 x = 22 → (w32 x = 23 → zvc E n [] d xm_92 220 [r0, r1, r2, r3, r4] (st) mem Post) ∧ (¬ w32 x = 23 → (w32 x = 24 → zvc E n [] d xm_92 220 [r0, r1, r2, r3, r4] (st) mem Post) ∧ (¬ w32 x = 24 → (w32 x = 25 → zvc E n [] d xm_92 220 [r0, r1, r2, r3, r4] (st) mem Post) ∧ (¬ w32 x = 25 → (w32 x = 26 → zvc E n [] d xm_92 220 [r0, r1, r2, r3, r4] (st) mem Post) ∧ (¬ w32 x = 26 → (w32 x = 27 → zvc E n [] d xm_92 220 [r0, r1, r2, r3, r4] (st) mem Post) ∧ (¬ w32 x = 27 → (w32 x = 28 → zvc E n [] d xm_92 220 [r0, r1, r2, r3, r4] (st) mem Post) ∧ (¬ w32 x = 28 → (w32 x = 29 → zvc E n [] d xm_92 220 [r0, r1, r2, r3, r4] (st) mem Post) ∧ (¬ w32 x = 29 → (w32 x = 30 → zvc E n [] d xm_92 142 [r0, r1, r2, r3, r4] (st) mem Post) ∧ (¬ w32 x = 30 → (w32 x = 31 → zvc E n [] d xm_92 124 [r0, r1, r2, r3, r4] (st) mem Post) ∧ (¬ w32 x = 31 → zvc E n [] d xm_92 220 [r0, r1, r2, r3, r4] (st) mem Post)))))))))))))))))))))))))) := zrf rfl
theorem s_92_116 {E : yE} {n d : Nat} {mem : yMem} {Post : Option yV → yMem → Prop} {st : List yV} {r0 r2 r3 r4 : Option yV} {x : Int} : zvc E (n + 1) [] d xm_92 116 [r0, some (4, x), r2, r3, r4] (st) mem Post = (zvc E n [] d xm_92 117 [r0, some (4, x), r2, r3, r4] ((4, x) :: st) mem Post) := zrf rfl
theorem s_92_117 {E : yE} {n d : Nat} {mem : yMem} {Post : Option yV → yMem → Prop} {st : List yV} {r0 r1 r2 r4 : Option yV} {x : Int} : zvc E (n + 1) [] d xm_92 117 [r0, r1, r2, some (4, x), r4] (st) mem Post = (zvc E n [] d xm_92 118 [r0, r1, r2, some (4, x), r4] ((4, x) :: st) mem Post) := zrf rfl
theorem s_92_118 {E : yE} {n d : Nat} {mem : yMem} {Post : Option yV → yMem → Prop} {st : List yV} {r0 r1 r2 r3 r4 : Option yV} {x y : Int} : zvc E (n + 1) [] d xm_92 118 [r0, r1, r2, r3, r4] ((4, y) :: (4, x) :: st) mem Post = (zvc E n [] d xm_92 119 [r0, r1, r2, r3, r4] ((4, x + y) :: st) mem Post) := zrf rfl
theorem s_92_119 {E : yE} {n d : Nat} {mem : yMem} {Post : Option yV → yMem → Prop} {r0 r1 r2 r3 r4 : Option yV} {x : Int} : zvc E (n + 1) [] d xm_92 119 [r0, r1, r2, r3, r4] ([(4, x)]) mem Post = (Post (some (4, x)) mem) := zrf rfl
theorem s_92_120 {E : yE} {n d : Nat} {mem : yMem} {Post : Option yV → yMem → Prop} {st : List yV} {r0 r2 r3 r4 : Option yV} {x : Int} : zvc E (n + 1) [] d xm_92 120 [r0, some (4, x), r2, r3, r4] (st) mem Post = (zvc E n [] d xm_92 121 [r0, some (4, x), r2, r3, r4] ((4, x) :: st) mem Post) := zrf rfl
theorem s_92_121 {E : yE} {n d : Nat} {mem : yMem} {Post : Option yV → yMem → Prop} {st : List yV} {r0 r1 r2 r4 : Option yV} {x : Int} : zvc E (n + 1) [] d xm_92 121 [r0, r1, r2, some (4, x), r4] (st) mem Post = (zvc E n [] d xm_92 122 [r0, r1, r2, some (4, x), r4] ((4, x) :: st) mem Post) := zrf rfl
theorem s_92_122 {E : yE} {n d : Nat} {mem : yMem} {Post : Option yV → yMem → Prop} {st : List yV} {r0 r1 r2 r3 r4 : Option yV} {x y : Int} : zvc E (n + 1) [] d xm_92 122 [r0, r1, r2, r3, r4] ((4, y) :: (4, x) :: st) mem Post = (zvc E n [] d xm_92 123 [r0, r1, r2, r3, r4] ((4, x - y) :: st) mem Post) := zrf rfl
theorem s_92_123 {E : yE} {n d : Nat} {mem : yMem} {Post : Option yV → yMem → Prop} {r0 r1 r2 r3 r4 : Option yV} {x : Int} : zvc E (n + 1) [] d xm_92 123 [r0, r1, r2, r3, r4] ([(4, x)]) mem Post = (Post (some (4, x)) mem) := zrf rfl
theorem s_92_124 {E : yE} {n d : Nat} {mem : yMem} {Post : Option yV → yMem → Prop} {st : List yV} {r0 r2 r3 r4 : Option yV} {x : Int} : zvc E (n + 1) [] d xm_92 124 [r0, some (4, x), r2, r3, r4] (st) mem Post = (zvc E n [] d xm_92 125 [r0, some (4, x), r2, r3, r4] ((4, x) :: st) mem Post) := zrf rfl
theorem s_92_125 {E : yE} {n d : Nat} {mem : yMem} {Post : Option yV → yMem → Prop} {st : List yV} {r0 r1 r2 r3 r4 : Option yV} : zvc E (n + 1) [] d xm_92 125 [r0, r1, r2, r3, r4] (st) mem Post = (zvc E n [] d xm_92 126 [r0, r1, r2, r3, r4] ((4, 0) :: st) mem Post) := zrf rfl
theorem s_92_126 {E : yE} {n d : Nat} {mem : yMem} {Post : Option yV → yMem → Prop} {st : List yV} {r0 r1 r2 r3 r4 : Option yV} {x y : Int} : zvc E (n + 1) [] d xm_92 126 [r0, r1, r2, r3, r4] ((4, y) :: (4, x) :: st) mem Post = (zvc E n [] d xm_92 127 [r0, r1, r2, r3, r4] ((0, ycmp x y) :: st) mem Post) := zrf rfl
theorem s_92_127 {E : yE} {n d : Nat} {mem : yMem} {Post : Option yV → yMem → Prop} {st : List yV} {r0 r1 r2 r3 r4 : Option yV} {x : Int} : zvc E (n + 1) [] d xm_92 127 [r0, r1, r2, r3, r4] ((0, x) :: st) mem Post = ((w32 x = w32 0 → zvc E n [] d xm_92 140 [r0, r1, r2, r3, r4] (st) mem Post) ∧ (¬ (w32 x = w32 0) → zvc E n [] d xm_92 130 [r0, r1, r2, r3, r4] (st) mem Post)) := zrf rfl
theorem s_92_130 {E : yE} {n d : Nat} {mem : yMem} {Post : Option yV → yMem → Prop} {st : List yV} {r0 r1 r2 r4 : Option yV} {x : Int} : zvc E (n + 1) [] d xm_92 130 [r0, r1, r2, some (4, x), r4] (st) mem Post = (zvc E n [] d xm_92 131 [r0, r1, r2, some (4, x), r4] ((4, x) :: st) mem Post) := zrf rfl
theorem s_92_131 {E : yE} {n d : Nat} {mem : yMem} {Post : Option yV → yMem → Prop} {st : List yV} {r0 r1 r2 r3 r4 : Option yV} : zvc E (n + 1) [] d xm_92 131 [r0, r1, r2, r3, r4] (st) mem Post = (zvc E n [] d xm_92 132 [r0, r1, r2, r3, r4] ((4, 0) :: st) mem Post) := zrf rfl
theorem s_92_132 {E : yE} {n d : Nat} {mem : yMem} {Post : Option yV → yMem → Prop} {st : List yV} {r0 r1 r2 r3 r4 : Option yV} {x y : Int} : zvc E (n + 1) [] d xm_92 132 [r0, r1, r2, r3, r4] ((4, y) :: (4, x) :: st) mem Post = (zvc E n [] d xm_92 133 [r0, r1, r2, r3, r4] ((0, ycmp x y) :: st) mem Post) := zrf rfl
theorem s_92_133 {E : yE} {n d : Nat} {mem : yMem} {Post : Option yV → yMem → Prop} {st : List yV} {r0 r1 r2 r3 r4 : Option yV} {x : Int} : zvc E (n + 1) [] d xm_92 133 [r0, r1, r2, r3, r4] ((0, x) :: st) mem Post = ((w32 x = w32 0 → zvc E n [] d xm_92 140 [r0, r1, r2, r3, r4] (st) mem Post) ∧ (¬ (w32 x = w32 0) → zvc E n [] d xm_92 136 [r0, r1, r2, r3, r4] (st) mem Post)) := zrf rfl
theorem s_92_136 {E : yE} {n d : Nat} {mem : yMem} {Post : Option yV → yMem → Prop} {st : List yV} {r0 r1 r2 r3 r4 : Option yV} : zvc E (n + 1) [] d xm_92 136 [r0, r1, r2, r3, r4] (st) mem Post = (zvc E n [] d xm_92 137 [r0, r1, r2, r3, r4] ((4, 1) :: st) mem Post) := zrf rfl
theorem s_92_137 {E : yE} {n d : Nat} {mem : yMem} {Post : Option yV → yMem → Prop} {st : List yV} {r0 r1 r2 r3 r4 : Option yV} : zvc E (n + 1) [] d xm_92 137 [r0, r1, r2, r3, r4] (st) mem Post = (zvc E n [] d xm_92 141 [r0, r1, r2, r3, r4] (st) mem Post) := zrf rfl
theorem s_92_140 {E : yE} {n d : Nat} {mem : yMem} {Post : Option yV → yMem → Prop} {st : List yV} {r0 r1 r2 r3 r4 : Option yV} : zvc E (n + 1) [] d xm_92 140 [r0, r1, r2, r3, r4] (st) mem Post = (zvc E n [] d xm_92 141 [r0, r1, r2, r3, r4] ((4, 0) :: st) mem Post) := zrf rfl
theorem s_92_141 {E : yE} {n d : Nat} {mem : yMem} {Post : Option yV → yMem → Prop} {r0 r1 r2 r3 r4 : Option yV} {x : Int} : zvc E (n + 1) [] d xm_92 141 [r0, r1, r2, r3, r4] ([(4, x)]) mem Post = (Post (some (4, x)) mem) := zrf rfl
theorem s_92_142 {E : yE} {n d : Nat} {mem : yMem} {Post : Option yV → yMem → Prop} {st : List yV} {r0 r2 r3 r4 : Option yV} {x : Int} : zvc E (n + 1) [] d xm_92 142 [r0, some (4, x), r2, r3, r4] (st) mem Post = (zvc E n [] d xm_92 143 [r0, some (4, x), r2, r3, r4] ((4, x) :: st) mem Post) := zrf rfl
theorem s_92_143 {E : yE} {n d : Nat} {mem : yMem} {Post : Option yV → yMem → Prop} {st : List yV} {r0 r1 r2 r3 r4 : Option yV} : zvc E (n + 1) [] d xm_92 143 [r0, r1, r2, r3, r4] (st) mem Post = (zvc E n [] d xm_92 144 [r0, r1, r2, r3, r4] ((4, 0) :: st) mem Post) := zrf rfl
theorem s_92_144 {E : yE} {n d : Nat} {mem : yMem} {Post : Option yV → yMem → Prop} {st : List yV} {r0 r1 r2 r3 r4 : Option yV} {x y : Int} : zvc E (n + 1) [] d xm_92 144 [r0, r1, r2, r3, r4] ((4, y) :: (4, x) :: st) mem Post = (zvc E n [] d xm_92 145 [r0, r1, r2, r3, r4] ((0, ycmp x y) :: st) mem Post) := zrf rfl
theorem s_92_145 {E : yE} {n d : Nat} {mem : yMem} {Post : Option yV → yMem → Prop} {st : List yV} {r0 r1 r2 r3 r4 : Option yV} {x : Int} : zvc E (n + 1) [] d xm_92 145 [r0, r1, r2, r3, r4] ((0, x) :: st) mem Post = ((¬ w32 x = w32 0 → zvc E n [] d xm_92 154 [r0, r1, r2, r3, r4] (st) mem Post) ∧ (¬ (¬ w32 x = w32 0) → zvc E n [] d xm_92 148 [r0, r1, r2, r3, r4] (st) mem Post)) := zrf rfl
theorem s_92_148 {E : yE} {n d : Nat} {mem : yMem} {Post : Option yV → yMem → Prop} {st : List yV} {r0 r1 r2 r4 : Option yV} {x : Int} : zvc E (n + 1) [] d xm_92 148 [r0, r1, r2, some (4, x), r4] (st) mem Post = (zvc E n [] d xm_92 149 [r0, r1, r2, some (4, x), r4] ((4, x) :: st) mem Post) := zrf rfl
theorem s_92_149 {E : yE} {n d : Nat} {mem : yMem} {Post : Option yV → yMem → Prop} {st : List yV} {r0 r1 r2 r3 r4 : Option yV} : zvc E (n + 1) [] d xm_92 149 [r0, r1, r2, r3, r4] (st) mem Post = (zvc E n [] d xm_92 150 [r0, r1, r2, r3, r4] ((4, 0) :: st) mem Post) := zrf rfl
theorem s_92_150 {E : yE} {n d : Nat} {mem : yMem} {Post : Option yV → yMem → Prop} {st : List yV} {r0 r1 r2 r3 r4 : Option yV} {x y : Int} : zvc E (n + 1) [] d xm_92 150 [r0, r1, r2, r3, r4] ((4, y) :: (4, x) :: st) mem Post = (zvc E n [] d xm_92 151 [r0, r1, r2, r3, r4] ((0, ycmp x y) :: st) mem Post) := zrf rfl
theorem s_92_151 {E : yE} {n d : Nat} {mem : yMem} {Post : Option yV → yMem → Prop} {st : List yV} {r0 r1 r2 r3 r4 : Option yV} {x : Int} : zvc E (n + 1) [] d xm_92 151 [r0, r1, r2, r3, r4] ((0, x) :: st) mem Post = ((w32 x = w32 0 → zvc E n [] d xm_92 158 [r0, r1, r2, r3, r4] (st) mem Post) ∧ (¬ (w32 x = w32 0) → zvc E n [] d xm_92 154 [r0, r1, r2, r3, r4] (st) mem Post)) := zrf rfl
theorem s_92_154 {E : yE} {n d : Nat} {mem : yMem} {Post : Option yV → yMem → Prop} {st : List yV} {r0 r1 r2 r3 r4 : Option yV} : zvc E (n + 1) [] d xm_92 154 [r0, r1, r2, r3, r4] (st) mem Post = (zvc E n [] d xm_92 155 [r0, r1, r2, r3, r4] ((4, 1) :: st) mem Post) := zrf rfl
theorem s_92_155 {E : yE} {n d : Nat} {mem : yMem} {Post : Option yV → yMem → Prop} {st : List yV} {r0 r1 r2 r3 r4 : Option yV} : zvc E (n + 1) [] d xm_92 155 [r0, r1, r2, r3, r4] (st) mem Post = (zvc E n [] d xm_92 159 [r0, r1, r2, r3, r4] (st) mem Post) := zrf rfl
theorem s_92_158 {E : yE} {n d : Nat} {mem : yMem} {Post : Option yV → yMem → Prop} {st : List yV} {r0 r1 r2 r3 r4 : Option yV} : zvc E (n + 1) [] d xm_92 158 [r0, r1, r2, r3, r4] (st) mem Post = (zvc E n [] d xm_92 159 [r0, r1, r2, r3, r4] ((4, 0) :: st) mem Post) := zrf rfl
theorem s_92_159 {E : yE} {n d : Nat} {mem : yMem} {Post : Option yV → yMem → Prop} {r0 r1 r2 r3 r4 : Option yV} {x : Int} : zvc E (n + 1) [] d xm_92 159 [r0, r1, r2, r3, r4] ([(4, x)]) mem Post = (Post (some (4, x)) mem) := zrf rfl
theorem s_92_160 {E : yE} {n d : Nat} {mem : yMem} {Post : Option yV → yMem → Prop} {st : List yV} {r0 r2 r3 r4 : Option yV} {x : Int} : zvc E (n + 1) [] d xm_92 160 [r0, some (4, x), r2, r3, r4] (st) mem Post = (zvc E n [] d xm_92 161 [r0, some (4, x), r2, r3, r4] ((4, x) :: st) mem Post) := zrf rfl
theorem s_92_161 {E : yE} {n d : Nat} {mem : yMem} {Post : Option yV → yMem → Prop} {st : List yV} {r0 r1 r2 r4 : Option yV} {x : Int} : zvc E (n + 1) [] d xm_92 161 [r0, r1, r2, some (4, x), r4] (st) mem Post = (zvc E n [] d xm_92 162 [r0, r1, r2, some (4, x), r4] ((4, x) :: st) mem Post) := zrf rfl
theorem s_92_162 {E : yE} {n d : Nat} {mem : yMem} {Post : Option yV → yMem → Prop} {st : List yV} {r0 r1 r2 r3 r4 : Option yV} {x y : Int} : zvc E (n + 1) [] d xm_92 162 [r0, r1, r2, r3, r4] ((4, y) :: (4, x) :: st) mem Post = (zvc E n [] d xm_92 163 [r0, r1, r2, r3, r4] ((0, ycmp x y) :: st) mem Post) := zrf rfl
theorem s_92_163 {E : yE} {n d : Nat} {mem : yMem} {Post : Option yV → yMem → Prop} {st : List yV} {r0 r1 r2 r3 r4 : Option yV} {x : Int} : zvc E (n + 1) [] d xm_92 163 [r0, r1, r2, r3, r4] ((0, x) :: st) mem Post = ((w32 0 ≤ w32 x → zvc E n [] d xm_92 170 [r0, r1, r2, r3, r4] (st) mem Post) ∧ (¬ (w32 0 ≤ w32 x) → zvc E n [] d xm_92 166 [r0, r1, r2, r3, r4] (st) mem Post)) := zrf rfl
theorem s_92_166 {E : yE} {n d : Nat} {mem : yMem} {Post : Option yV → yMem → Prop} {st : List yV} {r0 r1 r2 r3 r4 : Option yV} : zvc E (n + 1) [] d xm_92 166 [r0, r1, r2, r3, r4] (st) mem Post = (zvc E n [] d xm_92 167 [r0, r1, r2, r3, r4] ((4, 1) :: st) mem Post) := zrf rfl
theorem s_92_167 {E : yE} {n d : Nat} {mem : yMem} {Post : Option yV → yMem → Prop} {st : List yV} {r0 r1 r2 r3 r4 : Option yV} : zvc E (n + 1) [] d xm_92 167 [r0, r1, r2, r3, r4] (st) mem Post = (zvc E n [] d xm_92 171 [r0, r1, r2, r3, r4] (st) mem Post) := zrf rfl
theorem s_92_170 {E : yE} {n d : Nat} {mem : yMem} {Post : Option yV → yMem → Prop} {st : List yV} {r0 r1 r2 r3 r4 : Option yV} : zvc E (n + 1) [] d xm_92 170 [r0, r1, r2, r3, r4] (st) mem Post = (zvc E n [] d xm_92 171 [r0, r1, r2, r3, r4] ((4, 0) :: st) mem Post) := zrf rfl
theorem s_92_171 {E : yE} {n d : Nat} {mem : yMem} {Post : Option yV → yMem → Prop} {r0 r1 r2 r3 r4 : Option yV} {x : Int} : zvc E (n + 1) [] d xm_92 171 [r0, r1, r2, r3, r4] ([(4, x)]) mem Post = (Post (some (4, x)) mem) := zrf rfl
theorem s_92_172 {E : yE} {n d : Nat} {mem : yMem} {Post : Option yV → yMem → Prop} {st : List yV} {r0 r2 r3 r4 : Option yV} {x : Int} : zvc E (n + 1) [] d xm_92 172 [r0, some (4, x), r2, r3, r4] (st) mem Post = (zvc E n [] d xm_92 173 [r0, some (4, x), r2, r3, r4] ((4, x) :: st) mem Post) := zrf rfl
theorem s_92_173 {E : yE} {n d : Nat} {mem : yMem} {Post : Option yV → yMem → Prop} {st : List yV} {r0 r1 r2 r4 : Option yV} {x : Int} : zvc E (n + 1) [] d xm_92 173 [r0, r1, r2, some (4, x), r4] (st) mem Post = (zvc E n [] d xm_92 174 [r0, r1, r2, some (4, x), r4] ((4, x) :: st) mem Post) := zrf rfl
theorem s_92_174 {E : yE} {n d : Nat} {mem : yMem} {Post : Option yV → yMem → Prop} {st : List yV} {r0 r1 r2 r3 r4 : Option yV} {x y : Int} : zvc E (n + 1) [] d xm_92 174 [r0, r1, r2, r3, r4] ((4, y) :: (4, x) :: st) mem Post = (zvc E n [] d xm_92 175 [r0, r1, r2, r3, r4] ((0, ycmp x y) :: st) mem Post) := zrf rfl
theorem s_92_175 {E : yE} {n d : Nat} {mem : yMem} {Post : Option yV → yMem → Prop} {st : List yV} {r0 r1 r2 r3 r4 : Option yV} {x : Int} : zvc E (n + 1) [] d xm_92 175 [r0, r1, r2, r3, r4] ((0, x) :: st) mem Post = ((w32 0 < w32 x → zvc E n [] d xm_92 182 [r0, r1, r2, r3, r4] (st) mem Post) ∧ (¬ (w32 0 < w32 x) → zvc E n [] d xm_92 178 [r0, r1, r2, r3, r4] (st) mem Post)) := zrf rfl
theorem s_92_178 {E : yE} {n d : Nat} {mem : yMem} {Post : Option yV → yMem → Prop} {st : List yV} {r0 r1 r2 r3 r4 : Option yV} : zvc E (n + 1) [] d xm_92 178 [r0, r1, r2, r3, r4] (st) mem Post = (zvc E n [] d xm_92 179 [r0, r1, r2, r3, r4] ((4, 1) :: st) mem Post) := zrf rfl
theorem s_92_179 {E : yE} {n d : Nat} {mem : yMem} {Post : Option yV → yMem → Prop} {st : List yV} {r0 r1 r2 r3 r4 : Option yV} : zvc E (n + 1) [] d xm_92 179 [r0, r1, r2, r3, r4] (st) mem Post = (zvc E n [] d xm_92 183 [r0, r1, r2, r3, r4] (st) mem Post) := zrf rfl
theorem s_92_182 {E : yE} {n d : Nat} {mem : yMem} {Post : Option yV → yMem → Prop} {st : List yV} {r0 r1 r2 r3 r4 : Option yV} : zvc E (n + 1) [] d xm_92 182 [r0, r1, r2, r3, r4] (st) mem Post = (zvc E n [] d xm_92 183 [r0, r1, r2, r3, r4] ((4, 0) :: st) mem Post) := zrf rfl
theorem s_92_183 {E : yE} {n d : Nat} {mem : yMem} {Post : Option yV → yMem → Prop} {r0 r1 r2 r3 r4 : Option yV} {x : Int} : zvc E (n + 1) [] d xm_92 183 [r0, r1, r2, r3, r4] ([(4, x)]) mem Post = (Post (some (4, x)) mem) := zrf rfl
theorem s_92_184 {E : yE} {n d : Nat} {mem : yMem} {Post : Option yV → yMem → Prop} {st : List yV} {r0 r2 r3 r4 : Option yV} {x : Int} : zvc E (n + 1) [] d xm_92 184 [r0, some (4, x), r2, r3, r4] (st) mem Post = (zvc E n [] d xm_92 185 [r0, some (4, x), r2, r3, r4] ((4, x) :: st) mem Post) := zrf rfl
theorem s_92_185 {E : yE} {n d : Nat} {mem : yMem} {Post : Option yV → yMem → Prop} {st : List yV} {r0 r1 r2 r4 : Option yV} {x : Int} : zvc E (n + 1) [] d xm_92 185 [r0, r1, r2, some (4, x), r4] (st) mem Post = (zvc E n [] d xm_92 186 [r0, r1, r2, some (4, x), r4] ((4, x) :: st) mem Post) := zrf rfl
theorem s_92_186 {E : yE} {n d : Nat} {mem : yMem} {Post : Option yV → yMem → Prop} {st : List yV} {r0 r1 r2 r3 r4 : Option yV} {x y : Int} : zvc E (n + 1) [] d xm_92 186 [r0, r1, r2, r3, r4] ((4, y) :: (4, x) :: st) mem Post = (zvc E n [] d xm_92 187 [r0, r1, r2, r3, r4] ((0, ycmp x y) :: st) mem Post) := zrf rfl
theorem s_92_187 {E : yE} {n d : Nat} {mem : yMem} {Post : Option yV → yMem → Prop} {st : List yV} {r0 r1 r2 r3 r4 : Option yV} {x : Int} : zvc E (n + 1) [] d xm_92 187 [r0, r1, r2, r3, r4] ((0, x) :: st) mem Post = ((¬ w32 x = w32 0 → zvc E n [] d xm_92 194 [r0, r1, r2, r3, r4] (st) mem Post) ∧ (¬ (¬ w32 x = w32 0) → zvc E n [] d xm_92 190 [r0, r1, r2, r3, r4] (st) mem Post)) := zrf rfl
theorem s_92_190 {E : yE} {n d : Nat} {mem : yMem} {Post : Option yV → yMem → Prop} {st : List yV} {r0 r1 r2 r3 r4 : Option yV} : zvc E (n + 1) [] d xm_92 190 [r0, r1, r2, r3, r4] (st) mem Post = (zvc E n [] d xm_92 191 [r0, r1, r2, r3, r4] ((4, 1) :: st) mem Post) := zrf rfl
theorem s_92_191 {E : yE} {n d : Nat} {mem : yMem} {Post : Option yV → yMem → Prop} {st : List yV} {r0 r1 r2 r3 r4 : Option yV} : zvc E (n + 1) [] d xm_92 191 [r0, r1, r2, r3, r4] (st) mem Post = (zvc E n [] d xm_92 195 [r0, r1, r2, r3, r4] (st) mem Post) := zrf rfl
theorem s_92_194 {E : yE} {n d : Nat} {mem : yMem} {Post : Option yV → yMem → Prop} {st : List yV} {r0 r1 r2 r3 r4 : Option yV} : zvc E (n + 1) [] d xm_92 194 [r0, r1, r2, r3, r4] (st) mem Post = (zvc E n [] d xm_92 195 [r0, r1, r2, r3, r4] ((4, 0) :: st) mem Post) := zrf rfl
theorem s_92_195 {E : yE} {n d : Nat} {mem : yMem} {Post : Option yV → yMem → Prop} {r0 r1 r2 r3 r4 : Option yV} {x : Int} : zvc E (n + 1) [] d xm_92 195 [r0, r1, r2, r3, r4] ([(4, x)]) mem Post = (Post (some (4, x)) mem) := zrf rfl
theorem s_92_196 {E : yE} {n d : Nat} {mem : yMem} {Post : Option yV → yMem → Prop} {st : List yV} {r0 r2 r3 r4 : Option yV} {x : Int} : zvc E (n + 1) [] d xm_92 196 [r0, some (4, x), r2, r3, r4] (st) mem Post = (zvc E n [] d xm_92 197 [r0, some (4, x), r2, r3, r4] ((4, x) :: st) mem Post) := zrf rfl
theorem s_92_197 {E : yE} {n d : Nat} {mem : yMem} {Post : Option yV → yMem → Prop} {st : List yV} {r0 r1 r2 r4 : Option yV} {x : Int} : zvc E (n + 1) [] d xm_92 197 [r0, r1, r2, some (4, x), r4] (st) mem Post = (zvc E n [] d xm_92 198 [r0, r1, r2, some (4, x), r4] ((4, x) :: st) mem Post) := zrf rfl
theorem s_92_198 {E : yE} {n d : Nat} {mem : yMem} {Post : Option yV → yMem → Prop} {st : List yV} {r0 r1 r2 r3 r4 : Option yV} {x y : Int} : zvc E (n + 1) [] d xm_92 198 [r0, r1, r2, r3, r4] ((4, y) :: (4, x) :: st) mem Post = (zvc E n [] d xm_92 199 [r0, r1, r2, r3, r4] ((0, ycmp x y) :: st) mem Post) := zrf rfl
theorem s_92_199 {E : yE} {n d : Nat} {mem : yMem} {Post : Option yV → yMem → Prop} {st : List yV} {r0 r1 r2 r3 r4 : Option yV} {x : Int} : zvc E (n + 1) [] d xm_92 199 [r0, r1, r2, r3, r4] ((0, x) :: st) mem Post = ((w32 x = w32 0 → zvc E n [] d xm_92 206 [r0, r1, r2, r3, r4] (st) mem Post) ∧ (¬ (w32 x = w32 0) → zvc E n [] d xm_92 202 [r0, r1, r2, r3, r4] (st) mem Post)) := zrf rfl
theorem s_92_202 {E : yE} {n d : Nat} {mem : yMem} {Post : Option yV → yMem → Prop} {st : List yV} {r0 r1 r2 r3 r4 : Option yV} : zvc E (n + 1) [] d xm_92 202 [r0, r1, r2, r3, r4] (st) mem Post = (zvc E n [] d xm_92 203 [r0, r1, r2, r3, r4] ((4, 1) :: st) mem Post) := zrf rfl
theorem s_92_203 {E : yE} {n d : Nat} {mem : yMem} {Post : Option yV → yMem → Prop} {st : List yV} {r0 r1 r2 r3 r4 : Option yV} : zvc E (n + 1) [] d xm_92 203 [r0, r1, r2, r3, r4] (st) mem Post = (zvc E n [] d xm_92 207 [r0, r1, r2, r3, r4] (st) mem Post) := zrf rfl
theorem s_92_206 {E : yE} {n d : Nat} {mem : yMem} {Post : Option yV → yMem → Prop} {st : List yV} {r0 r1 r2 r3 r4 : Option yV} : zvc E (n + 1) [] d xm_92 206 [r0, r1, r2, r3, r4] (st) mem Post = (zvc E n [] d xm_92 207 [r0, r1, r2, r3, r4] ((4, 0) :: st) mem Post) := zrf rfl
theorem s_92_207 {E : yE} {n d : Nat} {mem : yMem} {Post : Option yV → yMem → Prop} {r0 r1 r2 r3 r4 : Option yV} {x : Int} : zvc E (n + 1) [] d xm_92 207 [r0, r1, r2, r3, r4] ([(4, x)]) mem Post = (Post (some (4, x)) mem) := zrf rfl
theorem s_92_208 {E : yE} {n d : Nat} {mem : yMem} {Post : Option yV → yMem → Prop} {st : List yV} {r0 r2 r3 r4 : Option yV} {x : Int} : zvc E (n + 1) [] d xm_92 208 [r0, some (4, x), r2, r3, r4] (st) mem Post = (zvc E n [] d xm_92 209 [r0, some (4, x), r2, r3, r4] ((4, x) :: st) mem Post) := zrf rfl
theorem s_92_209 {E : yE} {n d : Nat} {mem : yMem} {Post : Option yV → yMem → Prop} {st : List yV} {r0 r1 r2 r4 : Option yV} {x : Int} : zvc E (n + 1) [] d xm_92 209 [r0, r1, r2, some (4, x), r4] (st) mem Post = (zvc E n [] d xm_92 210 [r0, r1, r2, some (4, x), r4] ((4, x) :: st) mem Post) := zrf rfl
theorem s_92_210 {E : yE} {n d : Nat} {mem : yMem} {Post : Option yV → yMem → Prop} {st : List yV} {r0 r1 r2 r3 r4 : Option yV} {x y : Int} : zvc E (n + 1) [] d xm_92 210 [r0, r1, r2, r3, r4] ((4, y) :: (4, x) :: st) mem Post = (zvc E n [] d xm_92 211 [r0, r1, r2, r3, r4] ((0, ycmp x y) :: st) mem Post) := zrf rfl
theorem s_92_211 {E : yE} {n d : Nat} {mem : yMem} {Post : Option yV → yMem → Prop} {st : List yV} {r0 r1 r2 r3 r4 : Option yV} {x : Int} : zvc E (n + 1) [] d xm_92 211 [r0, r1, r2, r3, r4] ((0, x) :: st) mem Post = ((w32 x < w32 0 → zvc E n [] d xm_92 218 [r0, r1, r2, r3, r4] (st) mem Post) ∧ (¬ (w32 x < w32 0) → zvc E n [] d xm_92 214 [r0, r1, r2, r3, r4] (st) mem Post)) := zrf rfl
theorem s_92_214 {E : yE} {n d : Nat} {mem : yMem} {Post : Option yV → yMem → Prop} {st : List yV} {r0 r1 r2 r3 r4 : Option yV} : zvc E (n + 1) [] d xm_92 214 [r0, r1, r2, r3, r4] (st) mem Post = (zvc E n [] d xm_92 215 [r0, r1, r2, r3, r4] ((4, 1) :: st) mem Post) := zrf rfl
theorem s_92_215 {E : yE} {n d : Nat} {mem : yMem} {Post : Option yV → yMem → Prop} {st : List yV} {r0 r1 r2 r3 r4 : Option yV} : zvc E (n + 1) [] d xm_92 215 [r0, r1, r2, r3, r4] (st) mem Post = (zvc E n [] d xm_92 219 [r0, r1, r2, r3, r4] (st) mem Post) := zrf rfl
theorem s_92_218 {E : yE} {n d : Nat} {mem : yMem} {Post : Option yV → yMem → Prop} {st : List yV} {r0 r1 r2 r3 r4 : Option yV} : zvc E (n + 1) [] d xm_92 218 [r0, r1, r2, r3, r4] (st) mem Post = (zvc E n [] d xm_92 219 [r0, r1, r2, r3, r4] ((4, 0) :: st) mem Post) := zrf rfl
theorem s_92_219 {E : yE} {n d : Nat} {mem : yMem} {Post : Option yV → yMem → Prop} {r0 r1 r2 r3 r4 : Option yV} {x : Int} : zvc E (n + 1) [] d xm_92 219 [r0, r1, r2, r3, r4] ([(4, x)]) mem Post = (Post (some (4, x)) mem) := zrf rfl
theorem s_92_220 {E : yE} {n d : Nat} {mem : yMem} {Post : Option yV → yMem → Prop} {st : List yV} {r0 r2 r3 r4 : Option yV} {x : Int} : zvc E (n + 1) [] d xm_92 220 [r0, some (4, x), r2, r3, r4] (st) mem Post = (zvc E n [] d xm_92 221 [r0, some (4, x), r2, r3, r4] ((4, x) :: st) mem Post) := zrf rfl
theorem s_92_221 {E : yE} {n d : Nat} {mem : yMem} {Post : Option yV → yMem → Prop} {st : List yV} {r0 r1 r2 r4 : Option yV} {x : Int} : zvc E (n + 1) [] d xm_92 221 [r0, r1, r2, some (4, x), r4] (st) mem Post = (zvc E n [] d xm_92 222 [r0, r1, r2, some (4, x), r4] ((4, x) :: st) mem Post) := zrf rfl
theorem s_92_222 {E : yE} {n d : Nat} {mem : yMem} {Post : Option yV → yMem → Prop} {st : List yV} {r0 r1 r2 r3 r4 : Option yV} {x y : Int} : zvc E (n + 1) [] d xm_92 222 [r0, r1, r2, r3, r4] ((4, y) :: (4, x) :: st) mem Post = (zvc E n [] d xm_92 223 [r0, r1, r2, r3, r4] ((0, ycmp x y) :: st) mem Post) := zrf rfl
theorem s_92_223 {E : yE} {n d : Nat} {mem : yMem} {Post : Option yV → yMem → Prop} {st : List yV} {r0 r1 r2 r3 r4 : Option yV} {x : Int} : zvc E (n + 1) [] d xm_92 223 [r0, r1, r2, r3, r4] ((0, x) :: st) mem Post = ((w32 x ≤ w32 0 → zvc E n [] d xm_92 230 [r0, r1, r2, r3, r4] (st) mem Post) ∧ (¬ (w32 x ≤ w32 0) → zvc E n [] d xm_92 226 [r0, r1, r2, r3, r4] (st) mem Post)) := zrf rfl
theorem s_92_226 {E : yE} {n d : Nat} {mem : yMem} {Post : Option yV → yMem → Prop} {st : List yV} {r0 r1 r2 r3 r4 : Option yV} : zvc E (n + 1) [] d xm_92 226 [r0, r1, r2, r3, r4] (st) mem Post = (zvc E n [] d xm_92 227 [r0, r1, r2, r3, r4] ((4, 1) :: st) mem Post) := zrf rfl
theorem s_92_227 {E : yE} {n d : Nat} {mem : yMem} {Post : Option yV → yMem → Prop} {st : List yV} {r0 r1 r2 r3 r4 : Option yV} : zvc E (n + 1) [] d xm_92 227 [r0, r1, r2, r3, r4] (st) mem Post = (zvc E n [] d xm_92 231 [r0, r1, r2, r3, r4] (st) mem Post) := zrf rfl
theorem s_92_230 {E : yE} {n d : Nat} {mem : yMem} {Post : Option yV → yMem → Prop} {st : List yV} {r0 r1 r2 r3 r4 : Option yV} : zvc E (n + 1) [] d xm_92 230 [r0, r1, r2, r3, r4] (st) mem Post = (zvc E n [] d xm_92 231 [r0, r1, r2, r3, r4] ((4, 0) :: st) mem Post) := zrf rfl
theorem s_92_231 {E : yE} {n d : Nat} {mem : yMem} {Post : Option yV → yMem → Prop} {r0 r1 r2 r3 r4 : Option yV} {x : Int} : zvc E (n + 1) [] d xm_92 231 [r0, r1, r2, r3, r4] ([(4, x)]) mem Post = (Post (some (4, x)) mem) := zrf rfl
theorem e_94 {E : yE} {d : Nat} {mem : yMem} {Q : Option yV → yMem → Prop} {z a0 : Int} (h : zG E d xm_94 0 [some (1, z), some (4, a0), none] [] mem Q) : yCon E (d + 1) xm_94 [(1, z), (4, a0)] mem Q := zcon_of xmo_94 (Nat.le_of_ble_eq_true rfl) h
theorem e_93 {E : yE} {d : Nat} {mem : yMem} {Q : Option yV → yMem → Prop} {z : Int} (h : zG E d xm_93 0 [some (1, z)] [] mem Q) : yCon E (d + 1) xm_93 [(1, z)] mem Q := zcon_of xmo_93 (Nat.le_of_ble_eq_true rfl) h
theorem e_96 {E : yE} {d : Nat} {mem : yMem} {Q : Option yV → yMem → Prop} {z a0 a1 a2 : Int} (h : zG E d xm_96 0 [some (1, z), some (0, a0), some (4, a1), none, some (4, a2), none] [] mem Q) : yCon E (d + 1) xm_96 [(1, z), (0, a0), (4, a1), (4, a2)] mem Q := zcon_of xmo_96 (Nat.le_of_ble_eq_true rfl) h
theorem e_92 {E : yE} {d : Nat} {mem : yMem} {Q : Option yV → yMem → Prop} {a0 a1 a2 : Int} (h : zG E d xm_92 0 [some (0, a0), some (4, a1), none, some (4, a2), none] [] mem Q) : yCon E (d + 1) xm_92 [(0, a0), (4, a1), (4, a2)] mem Q := zcon_of xmo_92 (Nat.le_of_ble_eq_true rfl) h

/-! WHAT AN E COMES TO: knots (kind, value) on a stack; none: an ERROR -/
def eLm (v : Int) : Option Int := if -1000000000000 ≤ v ∧ v ≤ 1000000000000 then some v else none
def eCm (k : Nat) (x y : Int) : Bool := if k = 31 then decide (¬ x = 0 ∧ ¬ y = 0) else if k = 30 then decide (¬ x = 0 ∨ ¬ y = 0) else if k = 7 then decide (x < y) else if k = 8 then decide (x ≤ y) else if k = 9 then decide (x = y) else if k = 10 then decide (¬ x = y) else if k = 11 then decide (y ≤ x) else decide (y < x)
def eOp (k : Nat) (x y : Int) : Option Int := if k = 13 then eLm (x + y) else if k = 14 then eLm (x - y) else if k = 15 then (if ¬ x = 0 ∧ 1000000000000 / (x.natAbs : Int) < (y.natAbs : Int) then none else some (x * y)) else if k = 16 then (if y = 0 then none else some (x.tdiv y)) else some (if eCm k x y then 1 else 0)
def eAp (nm : Nat → Int) (q : Nat × Int) (st : List Int) : Option (List Int) := if q.1 = 2 then some (q.2 :: st) else if 33 ≤ q.1 ∧ q.1 ≤ 39 then some (nm (q.1 - 33) :: st) else if q.1 = 32 then some ((if st.headD 0 = 0 then 1 else 0) :: st.tail) else match eOp q.1 (st.tail.headD 0) (st.headD 0) with
  | some v => some (v :: st.tail.tail)
  | none => none
def eRn (kn : Nat → Nat × Int) (nm : Nat → Int) : Nat → Nat → List Int → Option (List Int)
  | 0, _, st => some st
  | n + 1, a, st => match eAp nm (kn a) st with
    | some st' => eRn kn nm n (a + 1) st'
    | none => none
/-- within the limit -/
abbrev eIn (v : Int) : Prop := -1000000000000 ≤ v ∧ v ≤ 1000000000000
/-! longs -/
theorem w64_add (x y : Int) : w64 (x + y) = w64 (w64 x + w64 y) := by
  show (lI (x + y)).toInt = (lI (w64 x + w64 y)).toInt
  rw [show lI (x + y) = lI x + lI y from Int64.ofInt_add x y, show lI (w64 x + w64 y) = lI (w64 x) + lI (w64 y) from Int64.ofInt_add _ _, lI_w, lI_w]
theorem w64_sub (x y : Int) : w64 (x - y) = w64 (w64 x - w64 y) := by
  show (lI (x - y)).toInt = (lI (w64 x - w64 y)).toInt
  rw [show lI (x - y) = lI x - lI y from Int64.ofInt_sub x y, show lI (w64 x - w64 y) = lI (w64 x) - lI (w64 y) from Int64.ofInt_sub _ _, lI_w, lI_w]
theorem w64_mul (x y : Int) : w64 (x * y) = w64 (w64 x * w64 y) := by
  show (lI (x * y)).toInt = (lI (w64 x * w64 y)).toInt
  rw [show lI (x * y) = lI x * lI y from Int64.ofInt_mul x y, show lI (w64 x * w64 y) = lI (w64 x) * lI (w64 y) from Int64.ofInt_mul _ _, lI_w, lI_w]
theorem w64_neg (x : Int) : w64 (-x) = w64 (-w64 x) := by
  show (lI (-x)).toInt = (lI (-w64 x)).toInt
  rw [show lI (-x) = -lI x from Int64.ofInt_neg x, show lI (-w64 x) = -lI (w64 x) from Int64.ofInt_neg _, lI_w]
theorem w64_0 : w64 0 = 0 := by decide +kernel
theorem w64_1 : w64 1 = 1 := by decide +kernel
theorem w64_L : w64 1000000000000 = 1000000000000 := by decide +kernel
theorem w64_mL : w64 (-1000000000000) = -1000000000000 := by decide +kernel
theorem yc_v (x y : Int) : w32 (ycmp x y) = ycmp x y := by
  unfold ycmp
  split
  · decide +kernel
  · split <;> decide +kernel
theorem yc_lt {x y : Int} : (w32 (ycmp x y) < 0) = (w64 x < w64 y) := by
  rw [yc_v]; unfold ycmp; apply propext
  split
  · exact ⟨fun h => absurd h (by (first | exact Nat.le_of_ble_eq_true rfl | exact (fun h => absurd h.1 (by decide)) | omega)), fun h => absurd h (by (first | exact Nat.le_of_ble_eq_true rfl | exact (fun h => absurd h.1 (by decide)) | omega))⟩
  · split
    · exact ⟨fun h => absurd h (by (first | exact Nat.le_of_ble_eq_true rfl | exact (fun h => absurd h.1 (by decide)) | omega)), fun h => absurd h (by (first | exact Nat.le_of_ble_eq_true rfl | exact (fun h => absurd h.1 (by decide)) | omega))⟩
    · exact ⟨fun _ => by (first | exact Nat.le_of_ble_eq_true rfl | exact (fun h => absurd h.1 (by decide)) | omega), fun _ => by (first | exact Nat.le_of_ble_eq_true rfl | exact (fun h => absurd h.1 (by decide)) | omega)⟩
theorem yc_le {x y : Int} : (w32 (ycmp x y) ≤ 0) = (w64 x ≤ w64 y) := by
  rw [yc_v]; unfold ycmp; apply propext
  split
  · exact ⟨fun h => absurd h (by (first | exact Nat.le_of_ble_eq_true rfl | exact (fun h => absurd h.1 (by decide)) | omega)), fun h => absurd h (by (first | exact Nat.le_of_ble_eq_true rfl | exact (fun h => absurd h.1 (by decide)) | omega))⟩
  · split
    · exact ⟨fun _ => by (first | exact Nat.le_of_ble_eq_true rfl | exact (fun h => absurd h.1 (by decide)) | omega), fun _ => by (first | exact Nat.le_of_ble_eq_true rfl | exact (fun h => absurd h.1 (by decide)) | omega)⟩
    · exact ⟨fun _ => by (first | exact Nat.le_of_ble_eq_true rfl | exact (fun h => absurd h.1 (by decide)) | omega), fun _ => by (first | exact Nat.le_of_ble_eq_true rfl | exact (fun h => absurd h.1 (by decide)) | omega)⟩
theorem yc_gt {x y : Int} : (0 < w32 (ycmp x y)) = (w64 y < w64 x) := by
  rw [yc_v]; unfold ycmp; apply propext
  split
  · exact ⟨fun _ => by (first | exact Nat.le_of_ble_eq_true rfl | exact (fun h => absurd h.1 (by decide)) | omega), fun _ => by (first | exact Nat.le_of_ble_eq_true rfl | exact (fun h => absurd h.1 (by decide)) | omega)⟩
  · split
    · exact ⟨fun h => absurd h (by (first | exact Nat.le_of_ble_eq_true rfl | exact (fun h => absurd h.1 (by decide)) | omega)), fun h => absurd h (by (first | exact Nat.le_of_ble_eq_true rfl | exact (fun h => absurd h.1 (by decide)) | omega))⟩
    · exact ⟨fun h => absurd h (by (first | exact Nat.le_of_ble_eq_true rfl | exact (fun h => absurd h.1 (by decide)) | omega)), fun h => absurd h (by (first | exact Nat.le_of_ble_eq_true rfl | exact (fun h => absurd h.1 (by decide)) | omega))⟩
theorem yc_ge {x y : Int} : (0 ≤ w32 (ycmp x y)) = (w64 y ≤ w64 x) := by
  rw [yc_v]; unfold ycmp; apply propext
  split
  · exact ⟨fun _ => by (first | exact Nat.le_of_ble_eq_true rfl | exact (fun h => absurd h.1 (by decide)) | omega), fun _ => by (first | exact Nat.le_of_ble_eq_true rfl | exact (fun h => absurd h.1 (by decide)) | omega)⟩
  · split
    · exact ⟨fun _ => by (first | exact Nat.le_of_ble_eq_true rfl | exact (fun h => absurd h.1 (by decide)) | omega), fun _ => by (first | exact Nat.le_of_ble_eq_true rfl | exact (fun h => absurd h.1 (by decide)) | omega)⟩
    · exact ⟨fun h => absurd h (by (first | exact Nat.le_of_ble_eq_true rfl | exact (fun h => absurd h.1 (by decide)) | omega)), fun h => absurd h (by (first | exact Nat.le_of_ble_eq_true rfl | exact (fun h => absurd h.1 (by decide)) | omega))⟩
theorem yc_eq {x y : Int} : (w32 (ycmp x y) = 0) = (w64 x = w64 y) := by
  rw [yc_v]; unfold ycmp; apply propext
  split
  · exact ⟨fun h => absurd h (by (first | exact Nat.le_of_ble_eq_true rfl | exact (fun h => absurd h.1 (by decide)) | omega)), fun h => absurd h (by (first | exact Nat.le_of_ble_eq_true rfl | exact (fun h => absurd h.1 (by decide)) | omega))⟩
  · split
    · exact ⟨fun _ => by assumption, fun _ => rfl⟩
    · exact ⟨fun h => absurd h (by (first | exact Nat.le_of_ble_eq_true rfl | exact (fun h => absurd h.1 (by decide)) | omega)), fun h => absurd h (by assumption)⟩
theorem eDv {x y : Int} (h : eIn (w64 x)) : w64 (ylbin 9 x y) = (w64 x).tdiv (w64 y) ∧ eIn ((w64 x).tdiv (w64 y)) := by
  have hb : ((w64 x).tdiv (w64 y)).natAbs ≤ (w64 x).natAbs := Int.natAbs_tdiv_le_natAbs _ _
  have hi : eIn ((w64 x).tdiv (w64 y)) := by unfold eIn at h ⊢; (first | exact Nat.le_of_ble_eq_true rfl | exact (fun h => absurd h.1 (by decide)) | omega)
  refine ⟨?_, hi⟩
  show (lI (gbin 9 (lI x) (lI y)).toInt).toInt = _
  rw [lI_t]
  show (lI x / lI y).toInt = _
  rw [Int64.toInt_div]
  have e : w64 ((w64 x).tdiv (w64 y)) = ((w64 x).tdiv (w64 y)).bmod (2 ^ 64) := Int64.toInt_ofInt
  exact e.symm.trans (w64_of (by unfold eIn at hi; (first | exact Nat.le_of_ble_eq_true rfl | exact (fun h => absurd h.1 (by decide)) | omega)) (by unfold eIn at hi; (first | exact Nat.le_of_ble_eq_true rfl | exact (fun h => absurd h.1 (by decide)) | omega)))
theorem eMul {x y : Int} (h : ¬ x = 0) (hy : (y.natAbs : Int) ≤ 1000000000000 / (x.natAbs : Int)) : eIn (x * y) := by
  have e : (x * y).natAbs = x.natAbs * y.natAbs := Int.natAbs_mul x y
  have h2 : y.natAbs ≤ 1000000000000 / x.natAbs := by
    have : ((1000000000000 / x.natAbs : Nat) : Int) = 1000000000000 / (x.natAbs : Int) := Int.natCast_ediv _ _
    (first | exact Nat.le_of_ble_eq_true rfl | exact (fun h => absurd h.1 (by decide)) | omega)
  have h3 := Nat.mul_le_mul_left x.natAbs h2
  have h4 := Nat.mul_div_le 1000000000000 x.natAbs
  unfold eIn
  (first | exact Nat.le_of_ble_eq_true rfl | exact (fun h => absurd h.1 (by decide)) | omega)
theorem zabl_w {x : Int} (h : eIn (w64 x)) : w64 (zabl x) = ((w64 x).natAbs : Int) := by
  obtain ⟨h1, h2⟩ := h
  unfold zabl
  split
  · (first | exact Nat.le_of_ble_eq_true rfl | exact (fun h => absurd h.1 (by decide)) | omega)
  · rw [w64_neg, w64_of (by (first | exact Nat.le_of_ble_eq_true rfl | exact (fun h => absurd h.1 (by decide)) | omega)) (by (first | exact Nat.le_of_ble_eq_true rfl | exact (fun h => absurd h.1 (by decide)) | omega))]
    (first | exact Nat.le_of_ble_eq_true rfl | exact (fun h => absurd h.1 (by decide)) | omega)
theorem or_0 {x : Int} : w32 (ybin 4 x 0) = w32 x := by
  show (iI (fbin 4 (iI x) (iI 0)).toInt).toInt = _
  rw [iI_t]
  show (iI x ||| iI 0).toInt = _
  rw [show iI 0 = (0 : Int32) by decide, Int32.or_zero]
  rfl
theorem or_1 {x : Int} (h : w32 x = 0 ∨ w32 x = 1) : w32 (ybin 4 x 1) = 1 := by
  show (iI (fbin 4 (iI x) (iI 1)).toInt).toInt = _
  rw [iI_t]
  show (iI x ||| iI 1).toInt = _
  rcases w32_01 h with e | e <;> rw [e] <;> decide +kernel
/-! the class's stack -/
def cSk (m : yMem) : List Int → Prop
  | [] => True
  | v :: r => w64 (m 75 r.length) = v ∧ cSk m r
theorem cSk_fr {a b : yMem} : ∀ {st : List Int}, cSk a st → (∀ j, j < st.length → b 75 j = a 75 j) → cSk b st
  | [], _, _ => trivial
  | v :: r, h, hf => ⟨by rw [hf _ (Nat.lt_succ_self _)]; exact h.1, cSk_fr h.2 (fun j hj => hf j (Nat.lt_succ_of_lt hj))⟩
/-- what reckon's helpers may change -/
def evF (b m : yMem) : Prop := ∀ i j, ¬ (i = 73 ∧ (j = 4 ∨ j = 5)) → i ≠ 75 → m i j = b i j
theorem evF_rf {b : yMem} : evF b b := fun _ _ _ _ => rfl
theorem evF_tr {a b c : yMem} (h1 : evF a b) (h2 : evF b c) : evF a c := fun i j p q => by rw [h2 i j p q, h1 i j p q]
/-- the stack, and whether there was an ERROR -/
def eSt (m : yMem) (st : List Int) (er : Int) : Prop := w32 (m 73 4) = (st.length : Int) ∧ cSk m st ∧ w32 (m 73 5) = er
section EV
variable {E : yE} {mem : yMem} {Q : Option yV → yMem → Prop} {st : List Int} {er : Int}
theorem xe_pop (hE : yEok E) {D : Nat} (hD : 1 ≤ D) (h : eSt mem st er) (hl : st.length ≤ 64) (hQ : ∀ x m, w64 x = st.headD 0 → evF mem m → eSt m st.tail er → Q (some (4, x)) m) : yCon E D xm_93 [(1, 73)] mem Q := by
  obtain ⟨d, rfl⟩ := Nat.exists_eq_add_of_le' hD
  refine e_93 ?_
  refine zvc_ok hE 60 [] _ _ _ _ _ _ _ xmo_93 ?_
  simp only [ynok_30, ynok_31, w32c_0, w32c_1, w32c_2, w32c_3, w32c_4, w32c_5, w32c_6, w32c_7, w32c_8, w32c_9, w32c_10, w32c_11, w32c_12, w32c_13, w32c_14, w32c_m1, w32c_m2, w32c_118, Int.reduceAdd, Int.reduceSub, Int.reduceMul, yput_s, yput_n, znl_n, znl_0, znl_1, znl_4, ysum_n, ysum_0, ysum_1, ysum_4, true_and, and_true, Nat.reduceAdd, Nat.reduceLeDiff, true_implies, eq_self, true_or, or_true, or_false, false_or, not_true_eq_false, not_false_eq_true, false_implies, implies_true, yset_s, yset_o, yset_d, ne_eq, Nat.reduceEqDiff, Int.reduceToNat, Int.reduceEq, Int.reduceLE, Int.reduceLT, Classical.not_not, Nat.reduceLT, ↓zvk_s, ↓zvk_n, ↓s_93_0, ↓s_93_1, ↓s_93_4, ↓s_93_7, ↓s_93_8, ↓s_93_9, ↓s_93_10a, ↓s_93_10b, ↓s_93_11, ↓s_93_14, ↓s_93_15, ↓s_93_16, ↓s_93_19, ↓s_93_20, ↓s_93_23, ↓s_93_24, ↓s_93_27, ↓s_93_28, zio_73, zar_75, zia_75, zln_75, zit_75]
  obtain ⟨h1, h2, h3⟩ := h
  cases st with
  | nil =>
    have h1 : w32 (mem 73 4) = 0 := h1
    exact ⟨fun hn => absurd h1 hn, fun _ => hQ _ _ w64_0 evF_rf ⟨h1, trivial, h3⟩⟩
  | cons v r =>
    have hl : r.length + 1 ≤ 64 := hl
    have h1 : w32 (mem 73 4) = ((r.length + 1 : Nat) : Int) := h1
    have e1 : w32 (mem 73 4 - 1) = (r.length : Int) := by rw [w32_sb (by rw [w32c_1]; (first | exact Nat.le_of_ble_eq_true rfl | exact (fun h => absurd h.1 (by decide)) | omega)) (by rw [w32c_1]; (first | exact Nat.le_of_ble_eq_true rfl | exact (fun h => absurd h.1 (by decide)) | omega)), w32c_1]; (first | exact Nat.le_of_ble_eq_true rfl | exact (fun h => absurd h.1 (by decide)) | omega)
    refine ⟨fun _ => ⟨⟨by (first | exact Nat.le_of_ble_eq_true rfl | exact (fun h => absurd h.1 (by decide)) | omega), by (first | exact Nat.le_of_ble_eq_true rfl | exact (fun h => absurd h.1 (by decide)) | omega)⟩, hQ _ _ ?_ (fun i j p q => ?_) ⟨?_, cSk_fr h2.2 (fun j _ => yset_o (by decide)), ?_⟩⟩, fun h0 => absurd h0 (by (first | exact Nat.le_of_ble_eq_true rfl | exact (fun h => absurd h.1 (by decide)) | omega))⟩
    · rw [e1, Int.toNat_natCast]; exact h2.1
    · rw [yset_a]
      split
      · next e => rw [if_neg (fun e2 => p ⟨e, Or.inl e2⟩)]
      · rfl
    · rw [yset_s]; exact e1
    · rw [yset_d (by decide)]; exact h3
theorem xe_push (hE : yEok E) {D : Nat} (hD : 1 ≤ D) {x : Int} (h : eSt mem st er) (her : er = 0 ∨ er = 1) (hl : st.length < 64) (hQ : ∀ m, evF mem m → eSt m (w64 x :: st) (if eIn (w64 x) then er else 1) → Q none m) : yCon E D xm_94 [(1, 73), (4, x)] mem Q := by
  obtain ⟨d, rfl⟩ := Nat.exists_eq_add_of_le' hD
  refine e_94 ?_
  refine zvc_ok hE 90 [] _ _ _ _ _ _ _ xmo_94 ?_
  obtain ⟨h1, h2, h3⟩ := h
  have er01 : w32 (mem 73 5) = 0 ∨ w32 (mem 73 5) = 1 := by rw [h3]; exact her
  have go : ∀ y, w32 y = (if eIn (w64 x) then er else 1) → Q none (yset (yset (yset mem 73 5 y) 75 st.length x) 73 4 (mem 73 4 + 1)) := fun y hy => hQ _ (fun i j p q => by
      rw [yset_a]
      split
      · next e => rw [if_neg (fun e2 => p ⟨e, Or.inl e2⟩), yset_o q, yset_a, if_pos e, if_neg (fun e2 => p ⟨e, Or.inr e2⟩)]
      · next e => rw [yset_o q, yset_o e]) ⟨by rw [yset_s, w32_ad (by rw [w32c_1]; (first | exact Nat.le_of_ble_eq_true rfl | exact (fun h => absurd h.1 (by decide)) | omega)) (by rw [w32c_1]; (first | exact Nat.le_of_ble_eq_true rfl | exact (fun h => absurd h.1 (by decide)) | omega)), w32c_1, h1]; rfl, ⟨by rw [yset_o (by decide), yset_s], cSk_fr h2 (fun j hj => by rw [yset_o (by decide), yset_d (by (first | exact Nat.le_of_ble_eq_true rfl | exact (fun h => absurd h.1 (by decide)) | omega)), yset_o (by decide)])⟩, by rw [yset_d (by decide), yset_o (by decide), yset_s]; exact hy⟩
  simp only [ynok_30, ynok_31, w32c_0, w32c_1, w32c_2, w32c_3, w32c_4, w32c_5, w32c_6, w32c_7, w32c_8, w32c_9, w32c_10, w32c_11, w32c_12, w32c_13, w32c_14, w32c_m1, w32c_m2, w32c_118, Int.reduceAdd, Int.reduceSub, Int.reduceMul, yput_s, yput_n, znl_n, znl_0, znl_1, znl_4, ysum_n, ysum_0, ysum_1, ysum_4, true_and, and_true, Nat.reduceAdd, Nat.reduceLeDiff, true_implies, eq_self, true_or, or_true, or_false, false_or, not_true_eq_false, not_false_eq_true, false_implies, implies_true, yset_s, yset_o, yset_d, ne_eq, Nat.reduceEqDiff, Int.reduceToNat, Int.reduceEq, Int.reduceLE, Int.reduceLT, Classical.not_not, Nat.reduceLT, ↓zvk_s, ↓zvk_n, ↓s_94_0, ↓s_94_1a, ↓s_94_1b, ↓s_94_2, ↓s_94_5, ↓s_94_6, ↓s_94_9, ↓s_94_10, ↓s_94_13, ↓s_94_14, ↓s_94_17, ↓s_94_18, ↓s_94_21, ↓s_94_22, ↓s_94_25, ↓s_94_26, ↓s_94_27, ↓s_94_30, ↓s_94_31, ↓s_94_34, ↓s_94_35, ↓s_94_38, ↓s_94_39, ↓s_94_42, ↓s_94_43, ↓s_94_46, ↓s_94_47, ↓s_94_50, ↓s_94_51, ↓s_94_52, ↓s_94_53a, ↓s_94_53b, ↓s_94_54, ↓s_94_57, ↓s_94_58, ↓s_94_59, ↓s_94_62, zio_73, zar_75, zia_75, zln_75, zit_75, yc_lt, yc_le, yc_gt, yc_ge, yc_eq, w64_L, w64_mL]
  have e64 : w32 ((64 : Nat) : Int) = 64 := by decide
  have ix : (w32 (mem 73 4)).toNat = st.length := by rw [h1]; exact Int.toNat_natCast _
  simp only [e64, ix]
  refine ⟨fun a => ⟨Or.inr (or_1 er01), fun b => absurd b (by (first | exact Nat.le_of_ble_eq_true rfl | exact (fun h => absurd h.1 (by decide)) | omega)), fun _ => ⟨⟨by (first | exact Nat.le_of_ble_eq_true rfl | exact (fun h => absurd h.1 (by decide)) | omega), by (first | exact Nat.le_of_ble_eq_true rfl | exact (fun h => absurd h.1 (by decide)) | omega)⟩, go _ (by rw [or_1 er01, if_neg (by (first | exact Nat.le_of_ble_eq_true rfl | exact (fun h => absurd h.1 (by decide)) | omega))])⟩⟩, fun a => ⟨fun b => ⟨by rw [or_0]; exact er01, fun c => absurd c (by (first | exact Nat.le_of_ble_eq_true rfl | exact (fun h => absurd h.1 (by decide)) | omega)), fun _ => ⟨⟨by (first | exact Nat.le_of_ble_eq_true rfl | exact (fun h => absurd h.1 (by decide)) | omega), by (first | exact Nat.le_of_ble_eq_true rfl | exact (fun h => absurd h.1 (by decide)) | omega)⟩, go _ (by rw [or_0, if_pos ⟨by (first | exact Nat.le_of_ble_eq_true rfl | exact (fun h => absurd h.1 (by decide)) | omega), by (first | exact Nat.le_of_ble_eq_true rfl | exact (fun h => absurd h.1 (by decide)) | omega)⟩]; exact h3)⟩⟩, fun b => ⟨Or.inr (or_1 er01), fun c => absurd c (by (first | exact Nat.le_of_ble_eq_true rfl | exact (fun h => absurd h.1 (by decide)) | omega)), fun _ => ⟨⟨by (first | exact Nat.le_of_ble_eq_true rfl | exact (fun h => absurd h.1 (by decide)) | omega), by (first | exact Nat.le_of_ble_eq_true rfl | exact (fun h => absurd h.1 (by decide)) | omega)⟩, go _ (by rw [or_1 er01, if_neg (by (first | exact Nat.le_of_ble_eq_true rfl | exact (fun h => absurd h.1 (by decide)) | omega))])⟩⟩⟩⟩
theorem evF_5 {y : Int} : evF mem (yset mem 73 5 y) := fun i j p q => by
  rw [yset_a]
  split
  · next e => rw [if_neg (fun e2 => p ⟨e, Or.inr e2⟩)]
  · rfl
theorem eSt_5 {y e : Int} (h : eSt mem st er) (hy : w32 y = e) : eSt (yset mem 73 5 y) st e := ⟨by rw [yset_d (by decide)]; exact h.1, cSk_fr h.2.1 (fun j _ => yset_o (by decide)), by rw [yset_s]; exact hy⟩
def eJn (k : Nat) (x y : Int) : Int := if k = 13 then x + y else if k = 14 then x - y else if eCm k x y then 1 else 0
theorem xe_join_7 (hE : yEok E) {D : Nat} (hD : 1 ≤ D) {K x y : Int} (hK : w32 K = 7) (hQ : ∀ r, w64 r = eJn 7 (w64 x) (w64 y) → Q (some (4, r)) mem) : yCon E D xm_92 [(0, K), (4, x), (4, y)] mem Q := by
  obtain ⟨d, rfl⟩ := Nat.exists_eq_add_of_le' hD
  refine e_92 ?_
  refine zvc_ok hE 60 [] _ _ _ _ _ _ _ xmo_92 ?_
  simp only [ynok_30, ynok_31, w32c_0, w32c_1, w32c_2, w32c_3, w32c_4, w32c_5, w32c_6, w32c_7, w32c_8, w32c_9, w32c_10, w32c_11, w32c_12, w32c_13, w32c_14, w32c_m1, w32c_m2, w32c_118, Int.reduceAdd, Int.reduceSub, Int.reduceMul, yput_s, yput_n, znl_n, znl_0, znl_1, znl_4, ysum_n, ysum_0, ysum_1, ysum_4, true_and, and_true, Nat.reduceAdd, Nat.reduceLeDiff, true_implies, eq_self, true_or, or_true, or_false, false_or, not_true_eq_false, not_false_eq_true, false_implies, implies_true, yset_s, yset_o, yset_d, ne_eq, Nat.reduceEqDiff, Int.reduceToNat, Int.reduceEq, Int.reduceLE, Int.reduceLT, Classical.not_not, Nat.reduceLT, ↓zvk_s, ↓zvk_n, ↓s_92_0, ↓s_92_1, ↓s_92_116, ↓s_92_117, ↓s_92_118, ↓s_92_119, ↓s_92_120, ↓s_92_121, ↓s_92_122, ↓s_92_123, ↓s_92_124, ↓s_92_125, ↓s_92_126, ↓s_92_127, ↓s_92_130, ↓s_92_131, ↓s_92_132, ↓s_92_133, ↓s_92_136, ↓s_92_137, ↓s_92_140, ↓s_92_141, ↓s_92_142, ↓s_92_143, ↓s_92_144, ↓s_92_145, ↓s_92_148, ↓s_92_149, ↓s_92_150, ↓s_92_151, ↓s_92_154, ↓s_92_155, ↓s_92_158, ↓s_92_159, ↓s_92_160, ↓s_92_161, ↓s_92_162, ↓s_92_163, ↓s_92_166, ↓s_92_167, ↓s_92_170, ↓s_92_171, ↓s_92_172, ↓s_92_173, ↓s_92_174, ↓s_92_175, ↓s_92_178, ↓s_92_179, ↓s_92_182, ↓s_92_183, ↓s_92_184, ↓s_92_185, ↓s_92_186, ↓s_92_187, ↓s_92_190, ↓s_92_191, ↓s_92_194, ↓s_92_195, ↓s_92_196, ↓s_92_197, ↓s_92_198, ↓s_92_199, ↓s_92_202, ↓s_92_203, ↓s_92_206, ↓s_92_207, ↓s_92_208, ↓s_92_209, ↓s_92_210, ↓s_92_211, ↓s_92_214, ↓s_92_215, ↓s_92_218, ↓s_92_219, ↓s_92_220, ↓s_92_221, ↓s_92_222, ↓s_92_223, ↓s_92_226, ↓s_92_227, ↓s_92_230, ↓s_92_231, hK, yc_lt, yc_le, yc_gt, yc_ge, yc_eq, w64_0]
  have f1 : (w64 x < w64 y) → Q (some (4, 1)) mem := fun h => hQ 1 (by rw [w64_1]; simp [eJn, eCm]; (first | exact Nat.le_of_ble_eq_true rfl | exact (fun h => absurd h.1 (by decide)) | omega))
  have f0 : ¬ (w64 x < w64 y) → Q (some (4, 0)) mem := fun h => hQ 0 (by rw [w64_0]; simp [eJn, eCm]; (first | exact Nat.le_of_ble_eq_true rfl | exact (fun h => absurd h.1 (by decide)) | omega))
  repeat' first | exact f1 (by (first | exact Nat.le_of_ble_eq_true rfl | exact (fun h => absurd h.1 (by decide)) | omega)) | exact f0 (by (first | exact Nat.le_of_ble_eq_true rfl | exact (fun h => absurd h.1 (by decide)) | omega)) | refine And.intro ?_ ?_ | intro _
theorem xe_join_8 (hE : yEok E) {D : Nat} (hD : 1 ≤ D) {K x y : Int} (hK : w32 K = 8) (hQ : ∀ r, w64 r = eJn 8 (w64 x) (w64 y) → Q (some (4, r)) mem) : yCon E D xm_92 [(0, K), (4, x), (4, y)] mem Q := by
  obtain ⟨d, rfl⟩ := Nat.exists_eq_add_of_le' hD
  refine e_92 ?_
  refine zvc_ok hE 60 [] _ _ _ _ _ _ _ xmo_92 ?_
  simp only [ynok_30, ynok_31, w32c_0, w32c_1, w32c_2, w32c_3, w32c_4, w32c_5, w32c_6, w32c_7, w32c_8, w32c_9, w32c_10, w32c_11, w32c_12, w32c_13, w32c_14, w32c_m1, w32c_m2, w32c_118, Int.reduceAdd, Int.reduceSub, Int.reduceMul, yput_s, yput_n, znl_n, znl_0, znl_1, znl_4, ysum_n, ysum_0, ysum_1, ysum_4, true_and, and_true, Nat.reduceAdd, Nat.reduceLeDiff, true_implies, eq_self, true_or, or_true, or_false, false_or, not_true_eq_false, not_false_eq_true, false_implies, implies_true, yset_s, yset_o, yset_d, ne_eq, Nat.reduceEqDiff, Int.reduceToNat, Int.reduceEq, Int.reduceLE, Int.reduceLT, Classical.not_not, Nat.reduceLT, ↓zvk_s, ↓zvk_n, ↓s_92_0, ↓s_92_1, ↓s_92_116, ↓s_92_117, ↓s_92_118, ↓s_92_119, ↓s_92_120, ↓s_92_121, ↓s_92_122, ↓s_92_123, ↓s_92_124, ↓s_92_125, ↓s_92_126, ↓s_92_127, ↓s_92_130, ↓s_92_131, ↓s_92_132, ↓s_92_133, ↓s_92_136, ↓s_92_137, ↓s_92_140, ↓s_92_141, ↓s_92_142, ↓s_92_143, ↓s_92_144, ↓s_92_145, ↓s_92_148, ↓s_92_149, ↓s_92_150, ↓s_92_151, ↓s_92_154, ↓s_92_155, ↓s_92_158, ↓s_92_159, ↓s_92_160, ↓s_92_161, ↓s_92_162, ↓s_92_163, ↓s_92_166, ↓s_92_167, ↓s_92_170, ↓s_92_171, ↓s_92_172, ↓s_92_173, ↓s_92_174, ↓s_92_175, ↓s_92_178, ↓s_92_179, ↓s_92_182, ↓s_92_183, ↓s_92_184, ↓s_92_185, ↓s_92_186, ↓s_92_187, ↓s_92_190, ↓s_92_191, ↓s_92_194, ↓s_92_195, ↓s_92_196, ↓s_92_197, ↓s_92_198, ↓s_92_199, ↓s_92_202, ↓s_92_203, ↓s_92_206, ↓s_92_207, ↓s_92_208, ↓s_92_209, ↓s_92_210, ↓s_92_211, ↓s_92_214, ↓s_92_215, ↓s_92_218, ↓s_92_219, ↓s_92_220, ↓s_92_221, ↓s_92_222, ↓s_92_223, ↓s_92_226, ↓s_92_227, ↓s_92_230, ↓s_92_231, hK, yc_lt, yc_le, yc_gt, yc_ge, yc_eq, w64_0]
  have f1 : (w64 x ≤ w64 y) → Q (some (4, 1)) mem := fun h => hQ 1 (by rw [w64_1]; simp [eJn, eCm]; (first | exact Nat.le_of_ble_eq_true rfl | exact (fun h => absurd h.1 (by decide)) | omega))
  have f0 : ¬ (w64 x ≤ w64 y) → Q (some (4, 0)) mem := fun h => hQ 0 (by rw [w64_0]; simp [eJn, eCm]; (first | exact Nat.le_of_ble_eq_true rfl | exact (fun h => absurd h.1 (by decide)) | omega))
  repeat' first | exact f1 (by (first | exact Nat.le_of_ble_eq_true rfl | exact (fun h => absurd h.1 (by decide)) | omega)) | exact f0 (by (first | exact Nat.le_of_ble_eq_true rfl | exact (fun h => absurd h.1 (by decide)) | omega)) | refine And.intro ?_ ?_ | intro _
theorem xe_join_9 (hE : yEok E) {D : Nat} (hD : 1 ≤ D) {K x y : Int} (hK : w32 K = 9) (hQ : ∀ r, w64 r = eJn 9 (w64 x) (w64 y) → Q (some (4, r)) mem) : yCon E D xm_92 [(0, K), (4, x), (4, y)] mem Q := by
  obtain ⟨d, rfl⟩ := Nat.exists_eq_add_of_le' hD
  refine e_92 ?_
  refine zvc_ok hE 60 [] _ _ _ _ _ _ _ xmo_92 ?_
  simp only [ynok_30, ynok_31, w32c_0, w32c_1, w32c_2, w32c_3, w32c_4, w32c_5, w32c_6, w32c_7, w32c_8, w32c_9, w32c_10, w32c_11, w32c_12, w32c_13, w32c_14, w32c_m1, w32c_m2, w32c_118, Int.reduceAdd, Int.reduceSub, Int.reduceMul, yput_s, yput_n, znl_n, znl_0, znl_1, znl_4, ysum_n, ysum_0, ysum_1, ysum_4, true_and, and_true, Nat.reduceAdd, Nat.reduceLeDiff, true_implies, eq_self, true_or, or_true, or_false, false_or, not_true_eq_false, not_false_eq_true, false_implies, implies_true, yset_s, yset_o, yset_d, ne_eq, Nat.reduceEqDiff, Int.reduceToNat, Int.reduceEq, Int.reduceLE, Int.reduceLT, Classical.not_not, Nat.reduceLT, ↓zvk_s, ↓zvk_n, ↓s_92_0, ↓s_92_1, ↓s_92_116, ↓s_92_117, ↓s_92_118, ↓s_92_119, ↓s_92_120, ↓s_92_121, ↓s_92_122, ↓s_92_123, ↓s_92_124, ↓s_92_125, ↓s_92_126, ↓s_92_127, ↓s_92_130, ↓s_92_131, ↓s_92_132, ↓s_92_133, ↓s_92_136, ↓s_92_137, ↓s_92_140, ↓s_92_141, ↓s_92_142, ↓s_92_143, ↓s_92_144, ↓s_92_145, ↓s_92_148, ↓s_92_149, ↓s_92_150, ↓s_92_151, ↓s_92_154, ↓s_92_155, ↓s_92_158, ↓s_92_159, ↓s_92_160, ↓s_92_161, ↓s_92_162, ↓s_92_163, ↓s_92_166, ↓s_92_167, ↓s_92_170, ↓s_92_171, ↓s_92_172, ↓s_92_173, ↓s_92_174, ↓s_92_175, ↓s_92_178, ↓s_92_179, ↓s_92_182, ↓s_92_183, ↓s_92_184, ↓s_92_185, ↓s_92_186, ↓s_92_187, ↓s_92_190, ↓s_92_191, ↓s_92_194, ↓s_92_195, ↓s_92_196, ↓s_92_197, ↓s_92_198, ↓s_92_199, ↓s_92_202, ↓s_92_203, ↓s_92_206, ↓s_92_207, ↓s_92_208, ↓s_92_209, ↓s_92_210, ↓s_92_211, ↓s_92_214, ↓s_92_215, ↓s_92_218, ↓s_92_219, ↓s_92_220, ↓s_92_221, ↓s_92_222, ↓s_92_223, ↓s_92_226, ↓s_92_227, ↓s_92_230, ↓s_92_231, hK, yc_lt, yc_le, yc_gt, yc_ge, yc_eq, w64_0]
  have f1 : (w64 x = w64 y) → Q (some (4, 1)) mem := fun h => hQ 1 (by rw [w64_1]; simp [eJn, eCm]; (first | exact Nat.le_of_ble_eq_true rfl | exact (fun h => absurd h.1 (by decide)) | omega))
  have f0 : ¬ (w64 x = w64 y) → Q (some (4, 0)) mem := fun h => hQ 0 (by rw [w64_0]; simp [eJn, eCm]; (first | exact Nat.le_of_ble_eq_true rfl | exact (fun h => absurd h.1 (by decide)) | omega))
  repeat' first | exact f1 (by (first | exact Nat.le_of_ble_eq_true rfl | exact (fun h => absurd h.1 (by decide)) | omega)) | exact f0 (by (first | exact Nat.le_of_ble_eq_true rfl | exact (fun h => absurd h.1 (by decide)) | omega)) | refine And.intro ?_ ?_ | intro _
theorem xe_join_10 (hE : yEok E) {D : Nat} (hD : 1 ≤ D) {K x y : Int} (hK : w32 K = 10) (hQ : ∀ r, w64 r = eJn 10 (w64 x) (w64 y) → Q (some (4, r)) mem) : yCon E D xm_92 [(0, K), (4, x), (4, y)] mem Q := by
  obtain ⟨d, rfl⟩ := Nat.exists_eq_add_of_le' hD
  refine e_92 ?_
  refine zvc_ok hE 60 [] _ _ _ _ _ _ _ xmo_92 ?_
  simp only [ynok_30, ynok_31, w32c_0, w32c_1, w32c_2, w32c_3, w32c_4, w32c_5, w32c_6, w32c_7, w32c_8, w32c_9, w32c_10, w32c_11, w32c_12, w32c_13, w32c_14, w32c_m1, w32c_m2, w32c_118, Int.reduceAdd, Int.reduceSub, Int.reduceMul, yput_s, yput_n, znl_n, znl_0, znl_1, znl_4, ysum_n, ysum_0, ysum_1, ysum_4, true_and, and_true, Nat.reduceAdd, Nat.reduceLeDiff, true_implies, eq_self, true_or, or_true, or_false, false_or, not_true_eq_false, not_false_eq_true, false_implies, implies_true, yset_s, yset_o, yset_d, ne_eq, Nat.reduceEqDiff, Int.reduceToNat, Int.reduceEq, Int.reduceLE, Int.reduceLT, Classical.not_not, Nat.reduceLT, ↓zvk_s, ↓zvk_n, ↓s_92_0, ↓s_92_1, ↓s_92_116, ↓s_92_117, ↓s_92_118, ↓s_92_119, ↓s_92_120, ↓s_92_121, ↓s_92_122, ↓s_92_123, ↓s_92_124, ↓s_92_125, ↓s_92_126, ↓s_92_127, ↓s_92_130, ↓s_92_131, ↓s_92_132, ↓s_92_133, ↓s_92_136, ↓s_92_137, ↓s_92_140, ↓s_92_141, ↓s_92_142, ↓s_92_143, ↓s_92_144, ↓s_92_145, ↓s_92_148, ↓s_92_149, ↓s_92_150, ↓s_92_151, ↓s_92_154, ↓s_92_155, ↓s_92_158, ↓s_92_159, ↓s_92_160, ↓s_92_161, ↓s_92_162, ↓s_92_163, ↓s_92_166, ↓s_92_167, ↓s_92_170, ↓s_92_171, ↓s_92_172, ↓s_92_173, ↓s_92_174, ↓s_92_175, ↓s_92_178, ↓s_92_179, ↓s_92_182, ↓s_92_183, ↓s_92_184, ↓s_92_185, ↓s_92_186, ↓s_92_187, ↓s_92_190, ↓s_92_191, ↓s_92_194, ↓s_92_195, ↓s_92_196, ↓s_92_197, ↓s_92_198, ↓s_92_199, ↓s_92_202, ↓s_92_203, ↓s_92_206, ↓s_92_207, ↓s_92_208, ↓s_92_209, ↓s_92_210, ↓s_92_211, ↓s_92_214, ↓s_92_215, ↓s_92_218, ↓s_92_219, ↓s_92_220, ↓s_92_221, ↓s_92_222, ↓s_92_223, ↓s_92_226, ↓s_92_227, ↓s_92_230, ↓s_92_231, hK, yc_lt, yc_le, yc_gt, yc_ge, yc_eq, w64_0]
  have f1 : (¬ w64 x = w64 y) → Q (some (4, 1)) mem := fun h => hQ 1 (by rw [w64_1]; simp [eJn, eCm]; (first | exact Nat.le_of_ble_eq_true rfl | exact (fun h => absurd h.1 (by decide)) | omega))
  have f0 : ¬ (¬ w64 x = w64 y) → Q (some (4, 0)) mem := fun h => hQ 0 (by rw [w64_0]; simp [eJn, eCm]; (first | exact Nat.le_of_ble_eq_true rfl | exact (fun h => absurd h.1 (by decide)) | omega))
  repeat' first | exact f1 (by (first | exact Nat.le_of_ble_eq_true rfl | exact (fun h => absurd h.1 (by decide)) | omega)) | exact f0 (by (first | exact Nat.le_of_ble_eq_true rfl | exact (fun h => absurd h.1 (by decide)) | omega)) | refine And.intro ?_ ?_ | intro _
theorem xe_join_11 (hE : yEok E) {D : Nat} (hD : 1 ≤ D) {K x y : Int} (hK : w32 K = 11) (hQ : ∀ r, w64 r = eJn 11 (w64 x) (w64 y) → Q (some (4, r)) mem) : yCon E D xm_92 [(0, K), (4, x), (4, y)] mem Q := by
  obtain ⟨d, rfl⟩ := Nat.exists_eq_add_of_le' hD
  refine e_92 ?_
  refine zvc_ok hE 60 [] _ _ _ _ _ _ _ xmo_92 ?_
  simp only [ynok_30, ynok_31, w32c_0, w32c_1, w32c_2, w32c_3, w32c_4, w32c_5, w32c_6, w32c_7, w32c_8, w32c_9, w32c_10, w32c_11, w32c_12, w32c_13, w32c_14, w32c_m1, w32c_m2, w32c_118, Int.reduceAdd, Int.reduceSub, Int.reduceMul, yput_s, yput_n, znl_n, znl_0, znl_1, znl_4, ysum_n, ysum_0, ysum_1, ysum_4, true_and, and_true, Nat.reduceAdd, Nat.reduceLeDiff, true_implies, eq_self, true_or, or_true, or_false, false_or, not_true_eq_false, not_false_eq_true, false_implies, implies_true, yset_s, yset_o, yset_d, ne_eq, Nat.reduceEqDiff, Int.reduceToNat, Int.reduceEq, Int.reduceLE, Int.reduceLT, Classical.not_not, Nat.reduceLT, ↓zvk_s, ↓zvk_n, ↓s_92_0, ↓s_92_1, ↓s_92_116, ↓s_92_117, ↓s_92_118, ↓s_92_119, ↓s_92_120, ↓s_92_121, ↓s_92_122, ↓s_92_123, ↓s_92_124, ↓s_92_125, ↓s_92_126, ↓s_92_127, ↓s_92_130, ↓s_92_131, ↓s_92_132, ↓s_92_133, ↓s_92_136, ↓s_92_137, ↓s_92_140, ↓s_92_141, ↓s_92_142, ↓s_92_143, ↓s_92_144, ↓s_92_145, ↓s_92_148, ↓s_92_149, ↓s_92_150, ↓s_92_151, ↓s_92_154, ↓s_92_155, ↓s_92_158, ↓s_92_159, ↓s_92_160, ↓s_92_161, ↓s_92_162, ↓s_92_163, ↓s_92_166, ↓s_92_167, ↓s_92_170, ↓s_92_171, ↓s_92_172, ↓s_92_173, ↓s_92_174, ↓s_92_175, ↓s_92_178, ↓s_92_179, ↓s_92_182, ↓s_92_183, ↓s_92_184, ↓s_92_185, ↓s_92_186, ↓s_92_187, ↓s_92_190, ↓s_92_191, ↓s_92_194, ↓s_92_195, ↓s_92_196, ↓s_92_197, ↓s_92_198, ↓s_92_199, ↓s_92_202, ↓s_92_203, ↓s_92_206, ↓s_92_207, ↓s_92_208, ↓s_92_209, ↓s_92_210, ↓s_92_211, ↓s_92_214, ↓s_92_215, ↓s_92_218, ↓s_92_219, ↓s_92_220, ↓s_92_221, ↓s_92_222, ↓s_92_223, ↓s_92_226, ↓s_92_227, ↓s_92_230, ↓s_92_231, hK, yc_lt, yc_le, yc_gt, yc_ge, yc_eq, w64_0]
  have f1 : (w64 y ≤ w64 x) → Q (some (4, 1)) mem := fun h => hQ 1 (by rw [w64_1]; simp [eJn, eCm]; (first | exact Nat.le_of_ble_eq_true rfl | exact (fun h => absurd h.1 (by decide)) | omega))
  have f0 : ¬ (w64 y ≤ w64 x) → Q (some (4, 0)) mem := fun h => hQ 0 (by rw [w64_0]; simp [eJn, eCm]; (first | exact Nat.le_of_ble_eq_true rfl | exact (fun h => absurd h.1 (by decide)) | omega))
  repeat' first | exact f1 (by (first | exact Nat.le_of_ble_eq_true rfl | exact (fun h => absurd h.1 (by decide)) | omega)) | exact f0 (by (first | exact Nat.le_of_ble_eq_true rfl | exact (fun h => absurd h.1 (by decide)) | omega)) | refine And.intro ?_ ?_ | intro _
theorem xe_join_12 (hE : yEok E) {D : Nat} (hD : 1 ≤ D) {K x y : Int} (hK : w32 K = 12) (hQ : ∀ r, w64 r = eJn 12 (w64 x) (w64 y) → Q (some (4, r)) mem) : yCon E D xm_92 [(0, K), (4, x), (4, y)] mem Q := by
  obtain ⟨d, rfl⟩ := Nat.exists_eq_add_of_le' hD
  refine e_92 ?_
  refine zvc_ok hE 60 [] _ _ _ _ _ _ _ xmo_92 ?_
  simp only [ynok_30, ynok_31, w32c_0, w32c_1, w32c_2, w32c_3, w32c_4, w32c_5, w32c_6, w32c_7, w32c_8, w32c_9, w32c_10, w32c_11, w32c_12, w32c_13, w32c_14, w32c_m1, w32c_m2, w32c_118, Int.reduceAdd, Int.reduceSub, Int.reduceMul, yput_s, yput_n, znl_n, znl_0, znl_1, znl_4, ysum_n, ysum_0, ysum_1, ysum_4, true_and, and_true, Nat.reduceAdd, Nat.reduceLeDiff, true_implies, eq_self, true_or, or_true, or_false, false_or, not_true_eq_false, not_false_eq_true, false_implies, implies_true, yset_s, yset_o, yset_d, ne_eq, Nat.reduceEqDiff, Int.reduceToNat, Int.reduceEq, Int.reduceLE, Int.reduceLT, Classical.not_not, Nat.reduceLT, ↓zvk_s, ↓zvk_n, ↓s_92_0, ↓s_92_1, ↓s_92_116, ↓s_92_117, ↓s_92_118, ↓s_92_119, ↓s_92_120, ↓s_92_121, ↓s_92_122, ↓s_92_123, ↓s_92_124, ↓s_92_125, ↓s_92_126, ↓s_92_127, ↓s_92_130, ↓s_92_131, ↓s_92_132, ↓s_92_133, ↓s_92_136, ↓s_92_137, ↓s_92_140, ↓s_92_141, ↓s_92_142, ↓s_92_143, ↓s_92_144, ↓s_92_145, ↓s_92_148, ↓s_92_149, ↓s_92_150, ↓s_92_151, ↓s_92_154, ↓s_92_155, ↓s_92_158, ↓s_92_159, ↓s_92_160, ↓s_92_161, ↓s_92_162, ↓s_92_163, ↓s_92_166, ↓s_92_167, ↓s_92_170, ↓s_92_171, ↓s_92_172, ↓s_92_173, ↓s_92_174, ↓s_92_175, ↓s_92_178, ↓s_92_179, ↓s_92_182, ↓s_92_183, ↓s_92_184, ↓s_92_185, ↓s_92_186, ↓s_92_187, ↓s_92_190, ↓s_92_191, ↓s_92_194, ↓s_92_195, ↓s_92_196, ↓s_92_197, ↓s_92_198, ↓s_92_199, ↓s_92_202, ↓s_92_203, ↓s_92_206, ↓s_92_207, ↓s_92_208, ↓s_92_209, ↓s_92_210, ↓s_92_211, ↓s_92_214, ↓s_92_215, ↓s_92_218, ↓s_92_219, ↓s_92_220, ↓s_92_221, ↓s_92_222, ↓s_92_223, ↓s_92_226, ↓s_92_227, ↓s_92_230, ↓s_92_231, hK, yc_lt, yc_le, yc_gt, yc_ge, yc_eq, w64_0]
  have f1 : (w64 y < w64 x) → Q (some (4, 1)) mem := fun h => hQ 1 (by rw [w64_1]; simp [eJn, eCm]; (first | exact Nat.le_of_ble_eq_true rfl | exact (fun h => absurd h.1 (by decide)) | omega))
  have f0 : ¬ (w64 y < w64 x) → Q (some (4, 0)) mem := fun h => hQ 0 (by rw [w64_0]; simp [eJn, eCm]; (first | exact Nat.le_of_ble_eq_true rfl | exact (fun h => absurd h.1 (by decide)) | omega))
  repeat' first | exact f1 (by (first | exact Nat.le_of_ble_eq_true rfl | exact (fun h => absurd h.1 (by decide)) | omega)) | exact f0 (by (first | exact Nat.le_of_ble_eq_true rfl | exact (fun h => absurd h.1 (by decide)) | omega)) | refine And.intro ?_ ?_ | intro _
theorem xe_join_30 (hE : yEok E) {D : Nat} (hD : 1 ≤ D) {K x y : Int} (hK : w32 K = 30) (hQ : ∀ r, w64 r = eJn 30 (w64 x) (w64 y) → Q (some (4, r)) mem) : yCon E D xm_92 [(0, K), (4, x), (4, y)] mem Q := by
  obtain ⟨d, rfl⟩ := Nat.exists_eq_add_of_le' hD
  refine e_92 ?_
  refine zvc_ok hE 60 [] _ _ _ _ _ _ _ xmo_92 ?_
  simp only [ynok_30, ynok_31, w32c_0, w32c_1, w32c_2, w32c_3, w32c_4, w32c_5, w32c_6, w32c_7, w32c_8, w32c_9, w32c_10, w32c_11, w32c_12, w32c_13, w32c_14, w32c_m1, w32c_m2, w32c_118, Int.reduceAdd, Int.reduceSub, Int.reduceMul, yput_s, yput_n, znl_n, znl_0, znl_1, znl_4, ysum_n, ysum_0, ysum_1, ysum_4, true_and, and_true, Nat.reduceAdd, Nat.reduceLeDiff, true_implies, eq_self, true_or, or_true, or_false, false_or, not_true_eq_false, not_false_eq_true, false_implies, implies_true, yset_s, yset_o, yset_d, ne_eq, Nat.reduceEqDiff, Int.reduceToNat, Int.reduceEq, Int.reduceLE, Int.reduceLT, Classical.not_not, Nat.reduceLT, ↓zvk_s, ↓zvk_n, ↓s_92_0, ↓s_92_1, ↓s_92_116, ↓s_92_117, ↓s_92_118, ↓s_92_119, ↓s_92_120, ↓s_92_121, ↓s_92_122, ↓s_92_123, ↓s_92_124, ↓s_92_125, ↓s_92_126, ↓s_92_127, ↓s_92_130, ↓s_92_131, ↓s_92_132, ↓s_92_133, ↓s_92_136, ↓s_92_137, ↓s_92_140, ↓s_92_141, ↓s_92_142, ↓s_92_143, ↓s_92_144, ↓s_92_145, ↓s_92_148, ↓s_92_149, ↓s_92_150, ↓s_92_151, ↓s_92_154, ↓s_92_155, ↓s_92_158, ↓s_92_159, ↓s_92_160, ↓s_92_161, ↓s_92_162, ↓s_92_163, ↓s_92_166, ↓s_92_167, ↓s_92_170, ↓s_92_171, ↓s_92_172, ↓s_92_173, ↓s_92_174, ↓s_92_175, ↓s_92_178, ↓s_92_179, ↓s_92_182, ↓s_92_183, ↓s_92_184, ↓s_92_185, ↓s_92_186, ↓s_92_187, ↓s_92_190, ↓s_92_191, ↓s_92_194, ↓s_92_195, ↓s_92_196, ↓s_92_197, ↓s_92_198, ↓s_92_199, ↓s_92_202, ↓s_92_203, ↓s_92_206, ↓s_92_207, ↓s_92_208, ↓s_92_209, ↓s_92_210, ↓s_92_211, ↓s_92_214, ↓s_92_215, ↓s_92_218, ↓s_92_219, ↓s_92_220, ↓s_92_221, ↓s_92_222, ↓s_92_223, ↓s_92_226, ↓s_92_227, ↓s_92_230, ↓s_92_231, hK, yc_lt, yc_le, yc_gt, yc_ge, yc_eq, w64_0]
  have f1 : (¬ w64 x = 0 ∨ ¬ w64 y = 0) → Q (some (4, 1)) mem := fun h => hQ 1 (by rw [w64_1]; simp [eJn, eCm]; (first | exact Nat.le_of_ble_eq_true rfl | exact (fun h => absurd h.1 (by decide)) | omega))
  have f0 : ¬ (¬ w64 x = 0 ∨ ¬ w64 y = 0) → Q (some (4, 0)) mem := fun h => hQ 0 (by rw [w64_0]; simp [eJn, eCm]; (first | exact Nat.le_of_ble_eq_true rfl | exact (fun h => absurd h.1 (by decide)) | omega))
  repeat' first | exact f1 (by (first | exact Nat.le_of_ble_eq_true rfl | exact (fun h => absurd h.1 (by decide)) | omega)) | exact f0 (by (first | exact Nat.le_of_ble_eq_true rfl | exact (fun h => absurd h.1 (by decide)) | omega)) | refine And.intro ?_ ?_ | intro _
theorem xe_join_31 (hE : yEok E) {D : Nat} (hD : 1 ≤ D) {K x y : Int} (hK : w32 K = 31) (hQ : ∀ r, w64 r = eJn 31 (w64 x) (w64 y) → Q (some (4, r)) mem) : yCon E D xm_92 [(0, K), (4, x), (4, y)] mem Q := by
  obtain ⟨d, rfl⟩ := Nat.exists_eq_add_of_le' hD
  refine e_92 ?_
  refine zvc_ok hE 60 [] _ _ _ _ _ _ _ xmo_92 ?_
  simp only [ynok_30, ynok_31, w32c_0, w32c_1, w32c_2, w32c_3, w32c_4, w32c_5, w32c_6, w32c_7, w32c_8, w32c_9, w32c_10, w32c_11, w32c_12, w32c_13, w32c_14, w32c_m1, w32c_m2, w32c_118, Int.reduceAdd, Int.reduceSub, Int.reduceMul, yput_s, yput_n, znl_n, znl_0, znl_1, znl_4, ysum_n, ysum_0, ysum_1, ysum_4, true_and, and_true, Nat.reduceAdd, Nat.reduceLeDiff, true_implies, eq_self, true_or, or_true, or_false, false_or, not_true_eq_false, not_false_eq_true, false_implies, implies_true, yset_s, yset_o, yset_d, ne_eq, Nat.reduceEqDiff, Int.reduceToNat, Int.reduceEq, Int.reduceLE, Int.reduceLT, Classical.not_not, Nat.reduceLT, ↓zvk_s, ↓zvk_n, ↓s_92_0, ↓s_92_1, ↓s_92_116, ↓s_92_117, ↓s_92_118, ↓s_92_119, ↓s_92_120, ↓s_92_121, ↓s_92_122, ↓s_92_123, ↓s_92_124, ↓s_92_125, ↓s_92_126, ↓s_92_127, ↓s_92_130, ↓s_92_131, ↓s_92_132, ↓s_92_133, ↓s_92_136, ↓s_92_137, ↓s_92_140, ↓s_92_141, ↓s_92_142, ↓s_92_143, ↓s_92_144, ↓s_92_145, ↓s_92_148, ↓s_92_149, ↓s_92_150, ↓s_92_151, ↓s_92_154, ↓s_92_155, ↓s_92_158, ↓s_92_159, ↓s_92_160, ↓s_92_161, ↓s_92_162, ↓s_92_163, ↓s_92_166, ↓s_92_167, ↓s_92_170, ↓s_92_171, ↓s_92_172, ↓s_92_173, ↓s_92_174, ↓s_92_175, ↓s_92_178, ↓s_92_179, ↓s_92_182, ↓s_92_183, ↓s_92_184, ↓s_92_185, ↓s_92_186, ↓s_92_187, ↓s_92_190, ↓s_92_191, ↓s_92_194, ↓s_92_195, ↓s_92_196, ↓s_92_197, ↓s_92_198, ↓s_92_199, ↓s_92_202, ↓s_92_203, ↓s_92_206, ↓s_92_207, ↓s_92_208, ↓s_92_209, ↓s_92_210, ↓s_92_211, ↓s_92_214, ↓s_92_215, ↓s_92_218, ↓s_92_219, ↓s_92_220, ↓s_92_221, ↓s_92_222, ↓s_92_223, ↓s_92_226, ↓s_92_227, ↓s_92_230, ↓s_92_231, hK, yc_lt, yc_le, yc_gt, yc_ge, yc_eq, w64_0]
  have f1 : (¬ w64 x = 0 ∧ ¬ w64 y = 0) → Q (some (4, 1)) mem := fun h => hQ 1 (by rw [w64_1]; simp [eJn, eCm]; (first | exact Nat.le_of_ble_eq_true rfl | exact (fun h => absurd h.1 (by decide)) | omega))
  have f0 : ¬ (¬ w64 x = 0 ∧ ¬ w64 y = 0) → Q (some (4, 0)) mem := fun h => hQ 0 (by rw [w64_0]; simp [eJn, eCm]; (first | exact Nat.le_of_ble_eq_true rfl | exact (fun h => absurd h.1 (by decide)) | omega))
  repeat' first | exact f1 (by (first | exact Nat.le_of_ble_eq_true rfl | exact (fun h => absurd h.1 (by decide)) | omega)) | exact f0 (by (first | exact Nat.le_of_ble_eq_true rfl | exact (fun h => absurd h.1 (by decide)) | omega)) | refine And.intro ?_ ?_ | intro _
theorem xe_join_13 (hE : yEok E) {D : Nat} (hD : 1 ≤ D) {K x y : Int} (hK : w32 K = 13) (hx : eIn (w64 x)) (hy : eIn (w64 y)) (hQ : ∀ r, w64 r = eJn 13 (w64 x) (w64 y) → Q (some (4, r)) mem) : yCon E D xm_92 [(0, K), (4, x), (4, y)] mem Q := by
  obtain ⟨d, rfl⟩ := Nat.exists_eq_add_of_le' hD
  refine e_92 ?_
  refine zvc_ok hE 60 [] _ _ _ _ _ _ _ xmo_92 ?_
  simp only [ynok_30, ynok_31, w32c_0, w32c_1, w32c_2, w32c_3, w32c_4, w32c_5, w32c_6, w32c_7, w32c_8, w32c_9, w32c_10, w32c_11, w32c_12, w32c_13, w32c_14, w32c_m1, w32c_m2, w32c_118, Int.reduceAdd, Int.reduceSub, Int.reduceMul, yput_s, yput_n, znl_n, znl_0, znl_1, znl_4, ysum_n, ysum_0, ysum_1, ysum_4, true_and, and_true, Nat.reduceAdd, Nat.reduceLeDiff, true_implies, eq_self, true_or, or_true, or_false, false_or, not_true_eq_false, not_false_eq_true, false_implies, implies_true, yset_s, yset_o, yset_d, ne_eq, Nat.reduceEqDiff, Int.reduceToNat, Int.reduceEq, Int.reduceLE, Int.reduceLT, Classical.not_not, Nat.reduceLT, ↓zvk_s, ↓zvk_n, ↓s_92_0, ↓s_92_1, ↓s_92_116, ↓s_92_117, ↓s_92_118, ↓s_92_119, ↓s_92_120, ↓s_92_121, ↓s_92_122, ↓s_92_123, ↓s_92_124, ↓s_92_125, ↓s_92_126, ↓s_92_127, ↓s_92_130, ↓s_92_131, ↓s_92_132, ↓s_92_133, ↓s_92_136, ↓s_92_137, ↓s_92_140, ↓s_92_141, ↓s_92_142, ↓s_92_143, ↓s_92_144, ↓s_92_145, ↓s_92_148, ↓s_92_149, ↓s_92_150, ↓s_92_151, ↓s_92_154, ↓s_92_155, ↓s_92_158, ↓s_92_159, ↓s_92_160, ↓s_92_161, ↓s_92_162, ↓s_92_163, ↓s_92_166, ↓s_92_167, ↓s_92_170, ↓s_92_171, ↓s_92_172, ↓s_92_173, ↓s_92_174, ↓s_92_175, ↓s_92_178, ↓s_92_179, ↓s_92_182, ↓s_92_183, ↓s_92_184, ↓s_92_185, ↓s_92_186, ↓s_92_187, ↓s_92_190, ↓s_92_191, ↓s_92_194, ↓s_92_195, ↓s_92_196, ↓s_92_197, ↓s_92_198, ↓s_92_199, ↓s_92_202, ↓s_92_203, ↓s_92_206, ↓s_92_207, ↓s_92_208, ↓s_92_209, ↓s_92_210, ↓s_92_211, ↓s_92_214, ↓s_92_215, ↓s_92_218, ↓s_92_219, ↓s_92_220, ↓s_92_221, ↓s_92_222, ↓s_92_223, ↓s_92_226, ↓s_92_227, ↓s_92_230, ↓s_92_231, hK, yc_lt, yc_le, yc_gt, yc_ge, yc_eq, w64_0]
  exact hQ _ (by rw [w64_add, w64_of (by unfold eIn at hx hy; (first | exact Nat.le_of_ble_eq_true rfl | exact (fun h => absurd h.1 (by decide)) | omega)) (by unfold eIn at hx hy; (first | exact Nat.le_of_ble_eq_true rfl | exact (fun h => absurd h.1 (by decide)) | omega))]; rfl)
theorem xe_join_14 (hE : yEok E) {D : Nat} (hD : 1 ≤ D) {K x y : Int} (hK : w32 K = 14) (hx : eIn (w64 x)) (hy : eIn (w64 y)) (hQ : ∀ r, w64 r = eJn 14 (w64 x) (w64 y) → Q (some (4, r)) mem) : yCon E D xm_92 [(0, K), (4, x), (4, y)] mem Q := by
  obtain ⟨d, rfl⟩ := Nat.exists_eq_add_of_le' hD
  refine e_92 ?_
  refine zvc_ok hE 60 [] _ _ _ _ _ _ _ xmo_92 ?_
  simp only [ynok_30, ynok_31, w32c_0, w32c_1, w32c_2, w32c_3, w32c_4, w32c_5, w32c_6, w32c_7, w32c_8, w32c_9, w32c_10, w32c_11, w32c_12, w32c_13, w32c_14, w32c_m1, w32c_m2, w32c_118, Int.reduceAdd, Int.reduceSub, Int.reduceMul, yput_s, yput_n, znl_n, znl_0, znl_1, znl_4, ysum_n, ysum_0, ysum_1, ysum_4, true_and, and_true, Nat.reduceAdd, Nat.reduceLeDiff, true_implies, eq_self, true_or, or_true, or_false, false_or, not_true_eq_false, not_false_eq_true, false_implies, implies_true, yset_s, yset_o, yset_d, ne_eq, Nat.reduceEqDiff, Int.reduceToNat, Int.reduceEq, Int.reduceLE, Int.reduceLT, Classical.not_not, Nat.reduceLT, ↓zvk_s, ↓zvk_n, ↓s_92_0, ↓s_92_1, ↓s_92_116, ↓s_92_117, ↓s_92_118, ↓s_92_119, ↓s_92_120, ↓s_92_121, ↓s_92_122, ↓s_92_123, ↓s_92_124, ↓s_92_125, ↓s_92_126, ↓s_92_127, ↓s_92_130, ↓s_92_131, ↓s_92_132, ↓s_92_133, ↓s_92_136, ↓s_92_137, ↓s_92_140, ↓s_92_141, ↓s_92_142, ↓s_92_143, ↓s_92_144, ↓s_92_145, ↓s_92_148, ↓s_92_149, ↓s_92_150, ↓s_92_151, ↓s_92_154, ↓s_92_155, ↓s_92_158, ↓s_92_159, ↓s_92_160, ↓s_92_161, ↓s_92_162, ↓s_92_163, ↓s_92_166, ↓s_92_167, ↓s_92_170, ↓s_92_171, ↓s_92_172, ↓s_92_173, ↓s_92_174, ↓s_92_175, ↓s_92_178, ↓s_92_179, ↓s_92_182, ↓s_92_183, ↓s_92_184, ↓s_92_185, ↓s_92_186, ↓s_92_187, ↓s_92_190, ↓s_92_191, ↓s_92_194, ↓s_92_195, ↓s_92_196, ↓s_92_197, ↓s_92_198, ↓s_92_199, ↓s_92_202, ↓s_92_203, ↓s_92_206, ↓s_92_207, ↓s_92_208, ↓s_92_209, ↓s_92_210, ↓s_92_211, ↓s_92_214, ↓s_92_215, ↓s_92_218, ↓s_92_219, ↓s_92_220, ↓s_92_221, ↓s_92_222, ↓s_92_223, ↓s_92_226, ↓s_92_227, ↓s_92_230, ↓s_92_231, hK, yc_lt, yc_le, yc_gt, yc_ge, yc_eq, w64_0]
  exact hQ _ (by rw [w64_sub, w64_of (by unfold eIn at hx hy; (first | exact Nat.le_of_ble_eq_true rfl | exact (fun h => absurd h.1 (by decide)) | omega)) (by unfold eIn at hx hy; (first | exact Nat.le_of_ble_eq_true rfl | exact (fun h => absurd h.1 (by decide)) | omega))]; rfl)
theorem eIn_0 : eIn 0 := by decide
theorem xe_scale_16 (hE : yEok E) {D : Nat} (hD : 1 ≤ D) {K x y : Int} (hK : w32 K = 16) (h : eSt mem st 0) (hx : eIn (w64 x)) (hQ : ∀ r m, evF mem m → (eOp 16 (w64 x) (w64 y) = none ∧ eIn (w64 r) ∧ eSt m st 1 ∨ eOp 16 (w64 x) (w64 y) = some (w64 r) ∧ eIn (w64 r) ∧ eSt m st 0) → Q (some (4, r)) m) : yCon E D xm_96 [(1, 73), (0, K), (4, x), (4, y)] mem Q := by
  obtain ⟨d, rfl⟩ := Nat.exists_eq_add_of_le' hD
  refine e_96 ?_
  refine zvc_ok hE 60 [] _ _ _ _ _ _ _ xmo_96 ?_
  simp only [ynok_30, ynok_31, w32c_0, w32c_1, w32c_2, w32c_3, w32c_4, w32c_5, w32c_6, w32c_7, w32c_8, w32c_9, w32c_10, w32c_11, w32c_12, w32c_13, w32c_14, w32c_m1, w32c_m2, w32c_118, Int.reduceAdd, Int.reduceSub, Int.reduceMul, yput_s, yput_n, znl_n, znl_0, znl_1, znl_4, ysum_n, ysum_0, ysum_1, ysum_4, true_and, and_true, Nat.reduceAdd, Nat.reduceLeDiff, true_implies, eq_self, true_or, or_true, or_false, false_or, not_true_eq_false, not_false_eq_true, false_implies, implies_true, yset_s, yset_o, yset_d, ne_eq, Nat.reduceEqDiff, Int.reduceToNat, Int.reduceEq, Int.reduceLE, Int.reduceLT, Classical.not_not, Nat.reduceLT, ↓zvk_s, ↓zvk_n, ↓s_96_0, ↓s_96_1, ↓s_96_3, ↓s_96_6, ↓s_96_7a, ↓s_96_7b, ↓s_96_8, ↓s_96_11, ↓s_96_13, ↓s_96_14, ↓s_96_15, ↓s_96_18, ↓s_96_19, ↓s_96_22, ↓s_96_23, ↓s_96_24, ↓s_96_27, ↓s_96_29, ↓s_96_30, ↓s_96_31, ↓s_96_34, ↓s_96_35, ↓s_96_38, ↓s_96_39, ↓s_96_41, ↓s_96_42, ↓s_96_43, ↓s_96_44, ↓s_96_45, ↓s_96_46, ↓s_96_49, ↓s_96_51, ↓s_96_54, ↓s_96_57, ↓s_96_58, ↓s_96_61, ↓s_96_62, ↓s_96_63, ↓s_96_66, ↓s_96_67, ↓s_96_68, ↓s_96_71, ↓s_96_72, ↓s_96_73, ↓s_96_74, ↓s_96_76, ↓s_96_77, w32c_16, zio_73, hK, yc_lt, yc_le, yc_gt, yc_ge, yc_eq, w64_0]
  have h5 : w32 (mem 73 5) = 0 := h.2.2
  have o1 : w32 (ybin 4 (mem 73 5) 1) = 1 := or_1 (Or.inl h5)
  have o0 : w32 (ybin 4 (mem 73 5) 0) = 0 := by rw [or_0]; exact h5
  obtain ⟨d1, d2⟩ := eDv (y := y) hx
  refine ⟨fun a => ⟨Or.inl o0, fun _ => ⟨a, hQ _ _ evF_5 (Or.inr ⟨?_, by rw [d1]; exact d2, eSt_5 h o0⟩)⟩, fun c => absurd c a⟩, fun a => ⟨Or.inr o1, fun c => absurd a c, fun _ => hQ _ _ evF_5 (Or.inl ⟨?_, by rw [w64_0]; exact eIn_0, eSt_5 h o1⟩)⟩⟩
  · rw [d1]; exact if_neg a
  · exact if_pos a
theorem xe_scale_15 (hE : yEok E) {D : Nat} (hD : 1 ≤ D) {K x y : Int} (hK : w32 K = 15) (h : eSt mem st 0) (hx : eIn (w64 x)) (hy : eIn (w64 y)) (hQ : ∀ r m, evF mem m → (eOp 15 (w64 x) (w64 y) = none ∧ eIn (w64 r) ∧ eSt m st 1 ∨ eOp 15 (w64 x) (w64 y) = some (w64 r) ∧ eIn (w64 r) ∧ eSt m st 0) → Q (some (4, r)) m) : yCon E D xm_96 [(1, 73), (0, K), (4, x), (4, y)] mem Q := by
  obtain ⟨d, rfl⟩ := Nat.exists_eq_add_of_le' hD
  refine e_96 ?_
  refine zvc_ok hE 60 [] _ _ _ _ _ _ _ xmo_96 ?_
  simp only [ynok_30, ynok_31, w32c_0, w32c_1, w32c_2, w32c_3, w32c_4, w32c_5, w32c_6, w32c_7, w32c_8, w32c_9, w32c_10, w32c_11, w32c_12, w32c_13, w32c_14, w32c_m1, w32c_m2, w32c_118, Int.reduceAdd, Int.reduceSub, Int.reduceMul, yput_s, yput_n, znl_n, znl_0, znl_1, znl_4, ysum_n, ysum_0, ysum_1, ysum_4, true_and, and_true, Nat.reduceAdd, Nat.reduceLeDiff, true_implies, eq_self, true_or, or_true, or_false, false_or, not_true_eq_false, not_false_eq_true, false_implies, implies_true, yset_s, yset_o, yset_d, ne_eq, Nat.reduceEqDiff, Int.reduceToNat, Int.reduceEq, Int.reduceLE, Int.reduceLT, Classical.not_not, Nat.reduceLT, ↓zvk_s, ↓zvk_n, ↓s_96_0, ↓s_96_1, ↓s_96_3, ↓s_96_6, ↓s_96_7a, ↓s_96_7b, ↓s_96_8, ↓s_96_11, ↓s_96_13, ↓s_96_14, ↓s_96_15, ↓s_96_18, ↓s_96_19, ↓s_96_22, ↓s_96_23, ↓s_96_24, ↓s_96_27, ↓s_96_29, ↓s_96_30, ↓s_96_31, ↓s_96_34, ↓s_96_35, ↓s_96_38, ↓s_96_39, ↓s_96_41, ↓s_96_42, ↓s_96_43, ↓s_96_44, ↓s_96_45, ↓s_96_46, ↓s_96_49, ↓s_96_51, ↓s_96_54, ↓s_96_57, ↓s_96_58, ↓s_96_61, ↓s_96_62, ↓s_96_63, ↓s_96_66, ↓s_96_67, ↓s_96_68, ↓s_96_71, ↓s_96_72, ↓s_96_73, ↓s_96_74, ↓s_96_76, ↓s_96_77, w32c_16, zio_73, hK, yc_lt, yc_le, yc_gt, yc_ge, yc_eq, w64_0]
  have ax := zabl_w hx
  have ay := zabl_w hy
  have aL : w64 (ylbin 9 1000000000000 (zabl x)) = 1000000000000 / ((w64 x).natAbs : Int) := by
    rw [(eDv (by rw [w64_L]; decide)).1, w64_L, ax]
    exact Int.tdiv_eq_ediv_of_nonneg (by decide)
  have e15 : eOp 15 (w64 x) (w64 y) = if ¬ w64 x = 0 ∧ 1000000000000 / ((w64 x).natAbs : Int) < ((w64 y).natAbs : Int) then none else some (w64 x * w64 y) := rfl
  rw [aL, ay, ax]
  rw [e15] at hQ
  have ok : eIn (w64 x * w64 y) → w64 (x * y) = w64 x * w64 y := fun z => by rw [w64_mul, w64_of (by unfold eIn at z; (first | exact Nat.le_of_ble_eq_true rfl | exact (fun h => absurd h.1 (by decide)) | omega)) (by unfold eIn at z; (first | exact Nat.le_of_ble_eq_true rfl | exact (fun h => absurd h.1 (by decide)) | omega))]
  refine ⟨fun a => ?_, fun a => ⟨by (first | exact Nat.le_of_ble_eq_true rfl | exact (fun h => absurd h.1 (by decide)) | omega), fun b => ?_, fun b => ?_⟩⟩
  · have z : eIn (w64 x * w64 y) := by rw [a, Int.zero_mul]; exact eIn_0
    exact hQ _ _ evF_rf (Or.inr ⟨by rw [if_neg (fun q => q.1 a), ok z], by rw [ok z]; exact z, h⟩)
  · have z : eIn (w64 x * w64 y) := eMul a b
    exact hQ _ _ evF_rf (Or.inr ⟨by rw [if_neg (fun q => absurd q.2 (by (first | exact Nat.le_of_ble_eq_true rfl | exact (fun h => absurd h.1 (by decide)) | omega))), ok z], by rw [ok z]; exact z, h⟩)
  · exact hQ _ _ evF_5 (Or.inl ⟨by rw [if_pos ⟨a, by (first | exact Nat.le_of_ble_eq_true rfl | exact (fun h => absurd h.1 (by decide)) | omega)⟩], by rw [w64_0]; exact eIn_0, eSt_5 h w32c_1⟩)
end EV
end
section
/-! AN E AS IT IS READ is worked out to one value -/
theorem sBd_i {x : sX} {f : sU → sX} {z : sU} (h : sBd x f = .inr z) : ∃ u, x = .inr u ∧ f u = .inr z := by
  cases x with
  | inl e => cases h
  | inr u => exact ⟨u, rfl, h⟩
theorem sKn_i {p : Nat} {u : sU} {f : sU → sX} {z : sU} (h : sKn p u f = .inr z) : f (u.1, u.2.1 + 1, u.2.2) = .inr z := by
  unfold sKn at h
  split at h
  · cases h
  · exact h
/-- KNOTS, the last one first, worked out in their order -/
def eRl (nm : Nat → Int) : sK → List Int → Option (List Int)
  | [], st => some st
  | q :: o, st => match eRl nm o st with
    | some s => eAp nm q s
    | none => none
theorem eRl_app (nm : Nat → Int) (b : sK) (st : List Int) : ∀ a : sK, eRl nm (a ++ b) st = match eRl nm b st with
    | some s => eRl nm a s
    | none => none
  | [] => by
    show eRl nm b st = _
    cases eRl nm b st <;> rfl
  | q :: a => by
    show (match eRl nm (a ++ b) st with | some s => eAp nm q s | none => none) = _
    rw [eRl_app nm b st a]
    cases eRl nm b st <;> rfl
/-- one value more; the one on top is another one -/
def eG (nm : Nat → Int) (ks : sK) : Prop := ∀ st, eRl nm ks st = none ∨ ∃ v, eRl nm ks st = some (v :: st)
def eT (nm : Nat → Int) (ks : sK) : Prop := ∀ x st, eRl nm ks (x :: st) = none ∨ ∃ v, eRl nm ks (x :: st) = some (v :: st)
/-- kinds that a KNOT may have -/
def kOk (k : Nat) : Prop := k = 2 ∨ (33 ≤ k ∧ k ≤ 39) ∨ 1 ≤ sLv k
theorem kOk_lv {k : Nat} (h : 1 ≤ sLv k) : k ≠ 2 ∧ ¬ (33 ≤ k ∧ k ≤ 39) := by
  unfold sLv at h
  constructor
  · intro e; subst e; simp at h
  · intro e
    rw [if_neg (by (first | exact Nat.le_of_ble_eq_true rfl | exact (fun h => absurd h.1 (by decide)) | omega)), if_neg (by (first | exact Nat.le_of_ble_eq_true rfl | exact (fun h => absurd h.1 (by decide)) | omega)), if_neg (by (first | exact Nat.le_of_ble_eq_true rfl | exact (fun h => absurd h.1 (by decide)) | omega)), if_neg (by (first | exact Nat.le_of_ble_eq_true rfl | exact (fun h => absurd h.1 (by decide)) | omega)), if_neg (by (first | exact Nat.le_of_ble_eq_true rfl | exact (fun h => absurd h.1 (by decide)) | omega)), if_neg (by (first | exact Nat.le_of_ble_eq_true rfl | exact (fun h => absurd h.1 (by decide)) | omega))] at h
    (first | exact Nat.le_of_ble_eq_true rfl | exact (fun h => absurd h.1 (by decide)) | omega)
variable {nm : Nat → Int}
theorem eT_nil : eT nm [] := fun x st => Or.inr ⟨x, rfl⟩
theorem eG_1 {k : Nat} {v : Int} (h : k = 2 ∨ (33 ≤ k ∧ k ≤ 39)) : eG nm [(k, v)] := fun st => by
  refine Or.inr ?_
  show ∃ w, eAp nm (k, v) st = some (w :: st)
  unfold eAp
  by_cases h2 : k = 2
  · exact ⟨v, if_pos h2⟩
  · rw [if_neg h2, if_pos (by (first | exact Nat.le_of_ble_eq_true rfl | exact (fun h => absurd h.1 (by decide)) | omega))]
    exact ⟨_, rfl⟩
theorem eG_T {a b : sK} (ha : eG nm a) (hb : eT nm b) : eG nm (b ++ a) := fun st => by
  rw [eRl_app]
  rcases ha st with h | ⟨v, h⟩
  · rw [h]; exact Or.inl rfl
  · rw [h]; exact hb v st
theorem eT_T {a b : sK} (ha : eT nm a) (hb : eT nm b) : eT nm (b ++ a) := fun x st => by
  rw [eRl_app]
  rcases ha x st with h | ⟨v, h⟩
  · rw [h]; exact Or.inl rfl
  · rw [h]; exact hb v st
theorem eG_not {b : sK} (hb : eG nm b) : eG nm ((32, 0) :: b) := fun st => by
  show (match eRl nm b st with | some s => eAp nm (32, 0) s | none => none) = none ∨ ∃ v, (match eRl nm b st with | some s => eAp nm (32, 0) s | none => none) = some (v :: st)
  rcases hb st with h | ⟨v, h⟩
  · rw [h]; exact Or.inl rfl
  · rw [h]; exact Or.inr ⟨_, rfl⟩
theorem eT_op {k : Nat} {b : sK} (hk : 1 ≤ sLv k) (h32 : k ≠ 32) (hb : eG nm b) : eT nm ((k, 0) :: b) := fun x st => by
  show (match eRl nm b (x :: st) with | some s => eAp nm (k, 0) s | none => none) = none ∨ ∃ v, (match eRl nm b (x :: st) with | some s => eAp nm (k, 0) s | none => none) = some (v :: st)
  rcases hb (x :: st) with h | ⟨v, h⟩
  · rw [h]; exact Or.inl rfl
  · rw [h]
    have h2 := kOk_lv hk
    show eAp nm (k, 0) (v :: x :: st) = none ∨ ∃ w, eAp nm (k, 0) (v :: x :: st) = some (w :: st)
    unfold eAp
    rw [if_neg h2.1, if_neg h2.2, if_neg h32]
    show (match eOp k x v with | some v => some (v :: st) | none => none) = none ∨ ∃ w, (match eOp k x v with | some v => some (v :: st) | none => none) = some (w :: st)
    cases eOp k x v with
    | none => exact Or.inl rfl
    | some w => exact Or.inr ⟨w, rfl⟩
theorem lv_32 {k L : Nat} (h : sLv k = L) (hL : L ≠ 3) : k ≠ 32 := fun e => by
  subst e
  exact hL h.symm
def eM (nm : Nat → Int) (mode : Nat) (ks : sK) : Prop := if mode = 2 ∨ mode = 4 ∨ mode = 7 ∨ 9 ≤ mode then eT nm ks else eG nm ks
def eR (nm : Nat → Int) (mode : Nat) (u z : sU) : Prop := ∃ ks, z.2.2.2 = ks ++ u.2.2.2 ∧ (∀ q ∈ ks, kOk q.1) ∧ eM nm mode ks
theorem eR_seq {m1 m2 m3 : Nat} {u v z : sU} (h1 : eR nm m1 u v) (h2 : eR nm m2 v z) (e1 : ∀ ks, eM nm m1 ks → eG nm ks) (e2 : ∀ ks, eM nm m2 ks → eT nm ks) (e3 : ∀ ks, eG nm ks → eM nm m3 ks) : eR nm m3 u z := by
  obtain ⟨a, a1, a2, a3⟩ := h1
  obtain ⟨b, b1, b2, b3⟩ := h2
  exact ⟨b ++ a, by rw [b1, a1, List.append_assoc], fun q hq => (List.mem_append.mp hq).elim (b2 q) (a2 q), e3 _ (eG_T (e1 a a3) (e2 b b3))⟩
/-- a sign and its right side, then more of the loop -/
theorem eR_loop {m1 m2 k L : Nat} {u y v w z : sU} (hk : sLv k = L) (h1 : 1 ≤ L) (h3 : L ≠ 3) (hv : eR nm m1 y v) (hy : y.2.2.2 = u.2.2.2) (hw : w.2.2.2 = (k, 0) :: v.2.2.2) (hz : eR nm m2 w z) (e1 : ∀ ks, eM nm m1 ks → eG nm ks) (e2 : ∀ ks, eM nm m2 ks → eT nm ks) (e3 : ∀ ks, eT nm ks → eM nm m2 ks) : eR nm m2 u z := by
  obtain ⟨a, a1, a2, a3⟩ := hv
  obtain ⟨b, b1, b2, b3⟩ := hz
  have hk1 : 1 ≤ sLv k := by (first | exact Nat.le_of_ble_eq_true rfl | exact (fun h => absurd h.1 (by decide)) | omega)
  refine ⟨b ++ ((k, 0) :: a), ?_, fun q hq => ?_, e3 _ (eT_T (eT_op hk1 (lv_32 hk h3) (e1 a a3)) (e2 b b3))⟩
  · rw [b1, hw, a1, hy, List.append_assoc]; rfl
  · rcases List.mem_append.mp hq with h | h
    · exact b2 q h
    · rcases List.mem_cons.mp h with rfl | h
      · exact Or.inr (Or.inr hk1)
      · exact a2 q h
theorem eM_G {m : Nat} (h : ¬ (m = 2 ∨ m = 4 ∨ m = 7 ∨ 9 ≤ m)) (ks : sK) : eM nm m ks ↔ eG nm ks := by unfold eM; rw [if_neg h]
theorem eM_T {m : Nat} (h : m = 2 ∨ m = 4 ∨ m = 7 ∨ 9 ≤ m) (ks : sK) : eM nm m ks ↔ eT nm ks := by unfold eM; rw [if_pos h]
theorem eR_0 {m : Nat} (h : m = 2 ∨ m = 4 ∨ m = 7 ∨ 9 ≤ m) {u : sU} : eR nm m u u := ⟨[], rfl, fun q hq => absurd hq List.not_mem_nil, (eM_T h []).mpr eT_nil⟩
theorem rd_eR : ∀ (f mode : Nat) (u z : sU), rd f mode u = .inr z → eR nm mode u z
  | 0, _, _, _, h => by cases h
  | f + 1, 0, (l, cn, op, o), z, h => by
    simp only [rd] at h
    split at h
    · split at h
      · cases h
      · obtain ⟨v, hv, h⟩ := sBd_i h
        split at h
        · cases h
          obtain ⟨a, a1, a2, a3⟩ := rd_eR f 8 _ v hv
          exact ⟨a, a1, a2, (eM_G (by decide) a).mpr ((eM_G (by decide) a).mp a3)⟩
        · cases h
    · split at h
      · cases h
      · next hk =>
        split at h
        · cases h
        · have h := sKn_i h
          cases h
          exact ⟨[((sHd l).1, if (sHd l).1 = 2 then (sHd l).2.2 else 0)], rfl, fun q hq => by
            rw [List.mem_singleton] at hq
            subst hq
            show kOk (sHd l).1
            unfold kOk
            have := Classical.not_not.mp hk
            (first | exact Nat.le_of_ble_eq_true rfl | exact (fun h => absurd h.1 (by decide)) | omega), (eM_G (by decide) _).mpr (eG_1 (by have := Classical.not_not.mp hk; (first | exact Nat.le_of_ble_eq_true rfl | exact (fun h => absurd h.1 (by decide)) | omega)))⟩
  | f + 1, 1, u, z, h => by
    obtain ⟨v, hv, h⟩ := sBd_i (show sBd (rd f 0 u) (rd f 2) = .inr z from h)
    exact eR_seq (rd_eR f 0 u v hv) (rd_eR f 2 v z h) (fun ks => (eM_G (by decide) ks).mp) (fun ks => (eM_T (by decide) ks).mp) (fun ks => (eM_G (by decide) ks).mpr)
  | f + 1, 2, u, z, h => by
    simp only [rd] at h
    split at h
    · next hk =>
      obtain ⟨v, hv, h⟩ := sBd_i (sKn_i h)
      exact eR_loop hk (by decide) (by decide) (rd_eR f 0 _ v hv) rfl rfl (rd_eR f 2 _ z h) (fun ks => (eM_G (by decide) ks).mp) (fun ks => (eM_T (by decide) ks).mp) (fun ks => (eM_T (by decide) ks).mpr)
    · cases h; exact eR_0 (by decide)
  | f + 1, 3, u, z, h => by
    obtain ⟨v, hv, h⟩ := sBd_i (show sBd (rd f 1 u) (rd f 4) = .inr z from h)
    exact eR_seq (rd_eR f 1 u v hv) (rd_eR f 4 v z h) (fun ks => (eM_G (by decide) ks).mp) (fun ks => (eM_T (by decide) ks).mp) (fun ks => (eM_G (by decide) ks).mpr)
  | f + 1, 4, u, z, h => by
    simp only [rd] at h
    split at h
    · next hk =>
      obtain ⟨v, hv, h⟩ := sBd_i (sKn_i h)
      exact eR_loop hk (by decide) (by decide) (rd_eR f 1 _ v hv) rfl rfl (rd_eR f 4 _ z h) (fun ks => (eM_G (by decide) ks).mp) (fun ks => (eM_T (by decide) ks).mp) (fun ks => (eM_T (by decide) ks).mpr)
    · cases h; exact eR_0 (by decide)
  | f + 1, 5, u, z, h => by
    simp only [rd] at h
    split at h
    · obtain ⟨v, hv, h⟩ := sBd_i (sKn_i h)
      cases h
      obtain ⟨a, a1, a2, a3⟩ := rd_eR f 5 _ v hv
      refine ⟨(32, 0) :: a, by show (32, 0) :: v.2.2.2 = _; rw [a1]; rfl, fun q hq => ?_, (eM_G (by decide) _).mpr (eG_not ((eM_G (by decide) _).mp a3))⟩
      rcases List.mem_cons.mp hq with rfl | hq
      · exact Or.inr (Or.inr (by decide))
      · exact a2 q hq
    · obtain ⟨y, hy, h⟩ := sBd_i h
      have r1 := rd_eR f 3 u y hy
      split at h
      · next hk =>
        obtain ⟨v, hv, h⟩ := sBd_i (sKn_i h)
        cases h
        obtain ⟨a, a1, a2, a3⟩ := r1
        obtain ⟨b, b1, b2, b3⟩ := rd_eR f 3 _ v hv
        have hk1 : 1 ≤ sLv (sHd y.1).1 := by (first | exact Nat.le_of_ble_eq_true rfl | exact (fun h => absurd h.1 (by decide)) | omega)
        refine ⟨((sHd y.1).1, 0) :: b ++ a, ?_, fun q hq => ?_, (eM_G (by decide) _).mpr (eG_T ((eM_G (by decide) _).mp a3) (eT_op hk1 (lv_32 hk (by decide)) ((eM_G (by decide) _).mp b3)))⟩
        · show ((sHd y.1).1, 0) :: v.2.2.2 = _
          rw [b1]
          show ((sHd y.1).1, 0) :: (b ++ y.2.2.2) = ((sHd y.1).1, 0) :: (b ++ a ++ u.2.2.2)
          rw [a1, List.append_assoc]
        · rcases List.mem_append.mp hq with hq | hq
          · rcases List.mem_cons.mp hq with rfl | hq
            · exact Or.inr (Or.inr hk1)
            · exact b2 q hq
          · exact a2 q hq
      · cases h
        obtain ⟨a, a1, a2, a3⟩ := r1
        exact ⟨a, a1, a2, (eM_G (by decide) a).mpr ((eM_G (by decide) a).mp a3)⟩
  | f + 1, 6, u, z, h => by
    obtain ⟨v, hv, h⟩ := sBd_i (show sBd (rd f 5 u) (rd f 7) = .inr z from h)
    exact eR_seq (rd_eR f 5 u v hv) (rd_eR f 7 v z h) (fun ks => (eM_G (by decide) ks).mp) (fun ks => (eM_T (by decide) ks).mp) (fun ks => (eM_G (by decide) ks).mpr)
  | f + 1, 7, u, z, h => by
    simp only [rd] at h
    split at h
    · next hk =>
      obtain ⟨v, hv, h⟩ := sBd_i (sKn_i h)
      exact eR_loop hk (by decide) (by decide) (rd_eR f 5 _ v hv) rfl rfl (rd_eR f 7 _ z h) (fun ks => (eM_G (by decide) ks).mp) (fun ks => (eM_T (by decide) ks).mp) (fun ks => (eM_T (by decide) ks).mpr)
    · cases h; exact eR_0 (by decide)
  | f + 1, 8, u, z, h => by
    obtain ⟨v, hv, h⟩ := sBd_i (show sBd (rd f 6 u) (rd f 9) = .inr z from h)
    exact eR_seq (rd_eR f 6 u v hv) (rd_eR f 9 v z h) (fun ks => (eM_G (by decide) ks).mp) (fun ks => (eM_T (by decide) ks).mp) (fun ks => (eM_G (by decide) ks).mpr)
  | f + 1, n + 9, u, z, h => by
    simp only [rd] at h
    split at h
    · next hk =>
      obtain ⟨v, hv, h⟩ := sBd_i (sKn_i h)
      obtain ⟨a, a1, a2, a3⟩ := rd_eR f 9 _ z h
      have r9 : eR nm (n + 9) _ z := ⟨a, a1, a2, (eM_T (by (first | exact Nat.le_of_ble_eq_true rfl | exact (fun h => absurd h.1 (by decide)) | omega)) a).mpr ((eM_T (by decide) a).mp a3)⟩
      exact eR_loop hk (by decide) (by decide) (rd_eR f 6 _ v hv) rfl rfl r9 (fun ks => (eM_G (by decide) ks).mp) (fun ks => (eM_T (by (first | exact Nat.le_of_ble_eq_true rfl | exact (fun h => absurd h.1 (by decide)) | omega)) ks).mp) (fun ks => (eM_T (by (first | exact Nat.le_of_ble_eq_true rfl | exact (fun h => absurd h.1 (by decide)) | omega)) ks).mpr)
    · cases h; exact eR_0 (by (first | exact Nat.le_of_ble_eq_true rfl | exact (fun h => absurd h.1 (by decide)) | omega))
theorem eTl_le {α : Type} (l : List α) : l.tail.length ≤ l.length := by rw [List.length_tail]; (first | exact Nat.le_of_ble_eq_true rfl | exact (fun h => absurd h.1 (by decide)) | omega)
theorem rd_len : ∀ (f mode : Nat) (u z : sU), rd f mode u = .inr z → z.1.length ≤ u.1.length
  | 0, _, _, _, h => by cases h
  | f + 1, 0, (l, cn, op, o), z, h => by
    simp only [rd] at h
    have t := eTl_le l
    split at h
    · split at h
      · cases h
      · obtain ⟨v, hv, h⟩ := sBd_i h
        have i1 : v.1.length ≤ l.tail.length := rd_len f 8 _ v hv
        have t2 := eTl_le v.1
        split at h
        · cases h
          show v.1.tail.length ≤ l.length
          (first | exact Nat.le_of_ble_eq_true rfl | exact (fun h => absurd h.1 (by decide)) | omega)
        · cases h
    · split at h
      · cases h
      · split at h
        · cases h
        · have h := sKn_i h
          cases h
          exact t
  | f + 1, 1, u, z, h => by
    obtain ⟨v, hv, h⟩ := sBd_i (show sBd (rd f 0 u) (rd f 2) = .inr z from h)
    exact Nat.le_trans (rd_len f 2 v z h) (rd_len f 0 u v hv)
  | f + 1, 2, u, z, h => by
    simp only [rd] at h
    split at h
    · obtain ⟨v, hv, h⟩ := sBd_i (sKn_i h)
      exact Nat.le_trans (rd_len f 2 _ z h) (Nat.le_trans (rd_len f 0 _ v hv) (eTl_le u.1))
    · cases h; exact Nat.le_refl _
  | f + 1, 3, u, z, h => by
    obtain ⟨v, hv, h⟩ := sBd_i (show sBd (rd f 1 u) (rd f 4) = .inr z from h)
    exact Nat.le_trans (rd_len f 4 v z h) (rd_len f 1 u v hv)
  | f + 1, 4, u, z, h => by
    simp only [rd] at h
    split at h
    · obtain ⟨v, hv, h⟩ := sBd_i (sKn_i h)
      exact Nat.le_trans (rd_len f 4 _ z h) (Nat.le_trans (rd_len f 1 _ v hv) (eTl_le u.1))
    · cases h; exact Nat.le_refl _
  | f + 1, 5, u, z, h => by
    simp only [rd] at h
    split at h
    · obtain ⟨v, hv, h⟩ := sBd_i (sKn_i h)
      cases h
      exact Nat.le_trans (rd_len f 5 _ v hv) (eTl_le u.1)
    · obtain ⟨y, hy, h⟩ := sBd_i h
      have r1 := rd_len f 3 u y hy
      split at h
      · obtain ⟨v, hv, h⟩ := sBd_i (sKn_i h)
        cases h
        exact Nat.le_trans (Nat.le_trans (rd_len f 3 _ v hv) (eTl_le y.1)) r1
      · cases h; exact r1
  | f + 1, 6, u, z, h => by
    obtain ⟨v, hv, h⟩ := sBd_i (show sBd (rd f 5 u) (rd f 7) = .inr z from h)
    exact Nat.le_trans (rd_len f 7 v z h) (rd_len f 5 u v hv)
  | f + 1, 7, u, z, h => by
    simp only [rd] at h
    split at h
    · obtain ⟨v, hv, h⟩ := sBd_i (sKn_i h)
      exact Nat.le_trans (rd_len f 7 _ z h) (Nat.le_trans (rd_len f 5 _ v hv) (eTl_le u.1))
    · cases h; exact Nat.le_refl _
  | f + 1, 8, u, z, h => by
    obtain ⟨v, hv, h⟩ := sBd_i (show sBd (rd f 6 u) (rd f 9) = .inr z from h)
    exact Nat.le_trans (rd_len f 9 v z h) (rd_len f 6 u v hv)
  | f + 1, n + 9, u, z, h => by
    simp only [rd] at h
    split at h
    · obtain ⟨v, hv, h⟩ := sBd_i (sKn_i h)
      exact Nat.le_trans (rd_len f 9 _ z h) (Nat.le_trans (rd_len f 6 _ v hv) (eTl_le u.1))
    · cases h; exact Nat.le_refl _
theorem hd_ne {l : List sT} (h : ¬ (sHd l).1 = 0) : l.tail.length < l.length := by
  cases l with
  | nil => exact absurd rfl h
  | cons a r => exact Nat.lt_succ_self _
theorem hd_lv {l : List sT} {b : Nat} (h : sLv (sHd l).1 = b) (hb : 1 ≤ b) : l.tail.length < l.length := hd_ne (fun e => by rw [e] at h; have h : 0 = b := h; (first | exact Nat.le_of_ble_eq_true rfl | exact (fun h => absurd h.1 (by decide)) | omega))
theorem rX_len {k : Nat} {u z : sU} (h : rX k u (.inr z)) : z.1.length ≤ u.1.length := by
  obtain ⟨⟨f, h⟩, _⟩ := h
  exact rd_len f k u z h
/-- the reference's descent ends -/
theorem rX_tot : ∀ n : Nat, ∀ u : sU, u.1.length ≤ n → ∀ k, k ≤ 9 → ∃ x, rX k u x := by
  intro n
  induction n using Nat.strongRecOn with
  | ind n IH =>
    have ih : ∀ u : sU, u.1.length < n → ∀ k, k ≤ 9 → ∃ x, rX k u x := fun u hu k hk => IH u.1.length hu u (Nat.le_refl _) k hk
    have lp : ∀ k k1 b, rLp k k1 b → k1 ≤ 9 → k ≤ 9 → 1 ≤ b → ∀ u : sU, u.1.length ≤ n → ∃ x, rX k u x := fun k k1 b hL q1 q2 hb u hu => by
      obtain ⟨g1, g2, g3⟩ := rX_lp hL q1 q2 (u := u)
      by_cases h : sLv (sHd u.1).1 = b
      · by_cases h6 : u.2.1 = 64
        · exact ⟨_, g2 h h6⟩
        · have tl := hd_lv h hb
          obtain ⟨x1, hx1⟩ := ih (u.1.tail, u.2.1 + 1, u.2.2) (show u.1.tail.length < n by (first | exact Nat.le_of_ble_eq_true rfl | exact (fun h => absurd h.1 (by decide)) | omega)) k1 q1
          cases x1 with
          | inl e => exact ⟨_, (g3 h h6).1 e hx1⟩
          | inr z =>
            have l2 : z.1.length ≤ u.1.tail.length := rX_len hx1
            obtain ⟨x2, hx2⟩ := ih (z.1, z.2.1, z.2.2.1, ((sHd u.1).1, 0) :: z.2.2.2) (show z.1.length < n by (first | exact Nat.le_of_ble_eq_true rfl | exact (fun h => absurd h.1 (by decide)) | omega)) k q2
            exact ⟨_, (g3 h h6).2 z x2 hx1 hx2⟩
      · exact ⟨_, g1 h⟩
    have sq : ∀ k k1 k2, rSq k k1 k2 → k1 ≤ 9 → k2 ≤ 9 → (∀ u : sU, u.1.length ≤ n → ∃ x, rX k1 u x) → (∀ u : sU, u.1.length ≤ n → ∃ x, rX k2 u x) → ∀ u : sU, u.1.length ≤ n → ∃ x, rX k u x := fun k k1 k2 hL q1 q2 a1 a2 u hu => by
      obtain ⟨g1, g2⟩ := rX_sq hL q1 q2 (u := u)
      obtain ⟨x1, hx1⟩ := a1 u hu
      cases x1 with
      | inl e => exact ⟨_, g1 e hx1⟩
      | inr z =>
        obtain ⟨x2, hx2⟩ := a2 z (Nat.le_trans (rX_len hx1) hu)
        exact ⟨_, g2 z x2 hx1 hx2⟩
    have m0 : ∀ u : sU, u.1.length ≤ n → ∃ x, rX 0 u x := fun ⟨l, cn, op, o⟩ hu => by
      have hu : l.length ≤ n := hu
      obtain ⟨g1, g2, g3⟩ := rX_0 (l := l) (cn := cn) (op := op) (o := o)
      by_cases h5 : (sHd l).1 = 5
      · by_cases h8 : op = 8
        · exact ⟨_, g1 h5 h8⟩
        · have tl := hd_ne (l := l) (by (first | exact Nat.le_of_ble_eq_true rfl | exact (fun h => absurd h.1 (by decide)) | omega))
          obtain ⟨x1, hx1⟩ := ih (l.tail, cn, op + 1, o) (show l.tail.length < n by (first | exact Nat.le_of_ble_eq_true rfl | exact (fun h => absurd h.1 (by decide)) | omega)) 8 (by decide)
          cases x1 with
          | inl e => exact ⟨_, (g2 h5 h8).1 e hx1⟩
          | inr z =>
            by_cases h6 : (sHd z.1).1 = 6
            · exact ⟨_, ((g2 h5 h8).2 z hx1).1 h6⟩
            · exact ⟨_, ((g2 h5 h8).2 z hx1).2 h6⟩
      · by_cases h2 : (sHd l).1 = 2 ∨ (33 ≤ (sHd l).1 ∧ (sHd l).1 ≤ 39)
        · by_cases h9 : (sHd l).1 = 2 ∧ 9999 < (sHd l).2.2
          · exact ⟨_, (g3 h5).2.1 h9⟩
          · by_cases h6 : cn = 64
            · exact ⟨_, ((g3 h5).2.2 h2 h9).1 h6⟩
            · exact ⟨_, ((g3 h5).2.2 h2 h9).2 h6⟩
        · exact ⟨_, (g3 h5).1 h2⟩
    have m1 := sq 1 0 2 rSq_1 (by decide) (by decide) m0 (lp 2 0 6 rLp_2 (by decide) (by decide) (by decide))
    have m3 := sq 3 1 4 rSq_3 (by decide) (by decide) m1 (lp 4 1 5 rLp_4 (by decide) (by decide) (by decide))
    have m5 : ∀ u : sU, u.1.length ≤ n → ∃ x, rX 5 u x := fun u hu => by
      by_cases h : (sHd u.1).1 = 32
      · obtain ⟨g1, g2⟩ := rX_5n h
        by_cases h6 : u.2.1 = 64
        · exact ⟨_, g1 h6⟩
        · have tl := hd_ne (l := u.1) (by (first | exact Nat.le_of_ble_eq_true rfl | exact (fun h => absurd h.1 (by decide)) | omega))
          obtain ⟨x1, hx1⟩ := ih (u.1.tail, u.2.1 + 1, u.2.2) (show u.1.tail.length < n by (first | exact Nat.le_of_ble_eq_true rfl | exact (fun h => absurd h.1 (by decide)) | omega)) 5 (by decide)
          cases x1 with
          | inl e => exact ⟨_, (g2 h6).1 e hx1⟩
          | inr z => exact ⟨_, (g2 h6).2 z hx1⟩
      · obtain ⟨g1, g2⟩ := rX_5s h
        obtain ⟨x1, hx1⟩ := m3 u hu
        cases x1 with
        | inl e => exact ⟨_, g1 e hx1⟩
        | inr y =>
          obtain ⟨k1, k2⟩ := g2 y hx1
          by_cases h4 : sLv (sHd y.1).1 = 4
          · by_cases h6 : y.2.1 = 64
            · exact ⟨_, (k2 h4).1 h6⟩
            · have l1 := rX_len hx1
              have tl := hd_lv h4 (by decide)
              obtain ⟨x2, hx2⟩ := ih (y.1.tail, y.2.1 + 1, y.2.2) (show y.1.tail.length < n by (first | exact Nat.le_of_ble_eq_true rfl | exact (fun h => absurd h.1 (by decide)) | omega)) 3 (by decide)
              cases x2 with
              | inl e => exact ⟨_, ((k2 h4).2 h6).1 e hx2⟩
              | inr z => exact ⟨_, ((k2 h4).2 h6).2 z hx2⟩
          · exact ⟨_, k1 h4⟩
    have m6 := sq 6 5 7 rSq_6 (by decide) (by decide) m5 (lp 7 5 2 rLp_7 (by decide) (by decide) (by decide))
    have m8 := sq 8 6 9 rSq_8 (by decide) (by decide) m6 (lp 9 6 1 rLp_9 (by decide) (by decide) (by decide))
    intro u hu k hk
    match k, hk with
    | 0, _ => exact m0 u hu
    | 1, _ => exact m1 u hu
    | 2, _ => exact lp 2 0 6 rLp_2 (by decide) (by decide) (by decide) u hu
    | 3, _ => exact m3 u hu
    | 4, _ => exact lp 4 1 5 rLp_4 (by decide) (by decide) (by decide) u hu
    | 5, _ => exact m5 u hu
    | 6, _ => exact m6 u hu
    | 7, _ => exact lp 7 5 2 rLp_7 (by decide) (by decide) (by decide) u hu
    | 8, _ => exact m8 u hu
    | 9, _ => exact lp 9 6 1 rLp_9 (by decide) (by decide) (by decide) u hu
/-- an E as both read it -/
theorem pE_eG {l : List sT} {cn : Nat} {o : sK} {u : sU} (h : pE (.inr l) cn o = .inr u) : ∃ ks, u.2.2.2 = ks ++ o ∧ (∀ q ∈ ks, kOk q.1) ∧ 1 ≤ ks.length ∧ ∀ nm, eG nm ks := by
  obtain ⟨x, ⟨f, hf⟩, hg⟩ := rX_tot l.length (l, cn, 0, o) (Nat.le_refl _) 8 (by decide)
  have hr : rd f 8 (l, cn, 0, o) = .inr u := by
    rcases rd_sy_all (f := f) (l := l) (cn := cn) (o := o) (fun e he => hg e (hf.symm.trans he)) with h1 | ⟨z, h1, h2, h3⟩
    · rw [pE_en h1] at h
      exact h
    · rw [pE_en h3] at h
      cases h
  have key : ∀ nm : Nat → Int, ∃ ks, u.2.2.2 = ks ++ o ∧ (∀ q ∈ ks, kOk q.1) ∧ eG nm ks := fun nm => by
    obtain ⟨ks, k1, k2, k3⟩ := rd_eR (nm := nm) f 8 _ _ hr
    exact ⟨ks, k1, k2, (eM_G (by decide) ks).mp k3⟩
  obtain ⟨ks, k1, k2, k3⟩ := key (fun _ => 0)
  refine ⟨ks, k1, k2, ?_, fun nm => ?_⟩
  · have hi := (rd_inv f 8 (by decide) _ _ hr).2.2.1
    rw [k1, List.length_append] at hi
    have hi : o.length + 1 ≤ ks.length + o.length := hi
    (first | exact Nat.le_of_ble_eq_true rfl | exact (fun h => absurd h.1 (by decide)) | omega)
  · obtain ⟨ks', j1, j2, j3⟩ := key nm
    rw [k1] at j1
    rw [List.append_cancel_right j1]
    exact j3
end
section
/-! A DOCUMENT THAT A TEXT TELLS: what holds of it -/
def dTk (t : Int × Int × Int) : Prop := 0 ≤ t.2.2 ∧ t.2.2 ≤ 9999
def dVk (nt : Nat) (t : tVo) : Prop := 1 ≤ t.2.1 ∧ (-1 ≤ t.2.2.2.2.1 ∧ t.2.2.2.2.1 < (nt : Int)) ∧ 0 ≤ t.2.2.2.2.2.1 ∧ t.2.2.2.2.2.1 ≤ 99
/-- the KNOT at a place -/
def knD (o : sK) (i : Nat) : Nat × Int := o.reverse.getD i (0, 0)
theorem knD_c {q : Nat × Int} {o : sK} {i : Nat} (h : i < o.length) : knD (q :: o) i = knD o i := by
  unfold knD
  rw [List.reverse_cons, List.getD_eq_getElem?_getD, List.getD_eq_getElem?_getD, List.getElem?_append_left (by rw [List.length_reverse]; exact h)]
theorem knD_l {q : Nat × Int} {o : sK} : knD (q :: o) o.length = q := by
  unfold knD
  rw [List.reverse_cons, List.getD_eq_getElem?_getD, List.getElem?_append_right (by rw [List.length_reverse]; exact Nat.le_refl _), List.length_reverse, Nat.sub_self]
  rfl
theorem knD_m {o : sK} {i : Nat} (h : i < o.length) : knD o i ∈ o := by
  unfold knD
  rw [List.getD_eq_getElem?_getD, List.getElem?_eq_getElem (by rw [List.length_reverse]; exact h)]
  exact List.mem_reverse.mp (List.getElem_mem _)
/-- KNOTS from place a to place b -/
def dSl (o : sK) (a b : Nat) : sK := (o.drop (o.length - b)).take (b - a)
theorem dropA {α : Type} : ∀ (ks o : List α) (n : Nat), (ks ++ o).drop (ks.length + n) = o.drop n
  | [], o, n => by
    show o.drop (0 + n) = _
    rw [Nat.zero_add]
  | k :: ks, o, n => by
    show (k :: (ks ++ o)).drop (ks.length + 1 + n) = _
    rw [show ks.length + 1 + n = (ks.length + n) + 1 by (first | exact Nat.le_of_ble_eq_true rfl | exact (fun h => absurd h.1 (by decide)) | omega)]
    exact dropA ks o n
theorem takeA {α : Type} : ∀ (ks o : List α), (ks ++ o).take ks.length = ks
  | [], o => by cases o <;> rfl
  | k :: ks, o => by
    show k :: (ks ++ o).take ks.length = k :: ks
    rw [takeA ks o]
theorem dSl_app {ks o : sK} {a b : Nat} (hb : b ≤ o.length) : dSl (ks ++ o) a b = dSl o a b := by
  unfold dSl
  rw [List.length_append, show ks.length + o.length - b = ks.length + (o.length - b) by (first | exact Nat.le_of_ble_eq_true rfl | exact (fun h => absurd h.1 (by decide)) | omega), dropA]
theorem dSl_new {ks o : sK} : dSl (ks ++ o) o.length (ks ++ o).length = ks := by
  unfold dSl
  rw [Nat.sub_self, List.length_append, Nat.add_sub_cancel]
  exact takeA ks o
theorem knD_i {o : sK} {i : Nat} (h : i < o.length) (hj : o.length - (i + 1) < o.length) : knD o i = o[o.length - (i + 1)] := by
  unfold knD
  rw [List.getD_eq_getElem?_getD, List.getElem?_eq_getElem (by rw [List.length_reverse]; exact h)]
  show o.reverse[i]'(by rw [List.length_reverse]; exact h) = _
  rw [List.getElem_reverse]
  congr 1
  (first | exact Nat.le_of_ble_eq_true rfl | exact (fun h => absurd h.1 (by decide)) | omega)
theorem dSl_s {o : sK} {a b : Nat} (hab : a ≤ b) (hb : b < o.length) : dSl o a (b + 1) = knD o b :: dSl o a b := by
  unfold dSl
  rw [List.drop_eq_getElem_cons (show o.length - (b + 1) < o.length by (first | exact Nat.le_of_ble_eq_true rfl | exact (fun h => absurd h.1 (by decide)) | omega)), show o.length - (b + 1) + 1 = o.length - b by (first | exact Nat.le_of_ble_eq_true rfl | exact (fun h => absurd h.1 (by decide)) | omega), show b + 1 - a = (b - a) + 1 by (first | exact Nat.le_of_ble_eq_true rfl | exact (fun h => absurd h.1 (by decide)) | omega), List.take_succ_cons, knD_i hb]
theorem eRn_s (kn : Nat → Nat × Int) (nm : Nat → Int) : ∀ (n a : Nat) (st : List Int), eRn kn nm (n + 1) a st = match eRn kn nm n a st with
    | some s => eAp nm (kn (a + n)) s
    | none => none
  | 0, a, st => by
    show (match eAp nm (kn a) st with | some st' => some st' | none => none) = eAp nm (kn (a + 0)) st
    rw [Nat.add_zero]
    cases eAp nm (kn a) st <;> rfl
  | n + 1, a, st => by
    show (match eAp nm (kn a) st with | some st' => eRn kn nm (n + 1) (a + 1) st' | none => none) = match (match eAp nm (kn a) st with | some st' => eRn kn nm n (a + 1) st' | none => none) with
      | some s => eAp nm (kn (a + (n + 1))) s
      | none => none
    cases eAp nm (kn a) st with
    | none => rfl
    | some s =>
      show eRn kn nm (n + 1) (a + 1) s = _
      rw [eRn_s kn nm n (a + 1) s, show a + 1 + n = a + (n + 1) by (first | exact Nat.le_of_ble_eq_true rfl | exact (fun h => absurd h.1 (by decide)) | omega)]
theorem eRn_l {o : sK} {nm : Nat → Int} {a : Nat} {st : List Int} : ∀ n, a + n ≤ o.length → eRn (knD o) nm n a st = eRl nm (dSl o a (a + n)) st
  | 0, _ => by
    unfold dSl
    rw [Nat.add_zero, Nat.sub_self]
    show some st = eRl nm (List.take 0 _) st
    rw [List.take_zero]
    rfl
  | n + 1, h => by
    rw [eRn_s, eRn_l n (by (first | exact Nat.le_of_ble_eq_true rfl | exact (fun h => absurd h.1 (by decide)) | omega)), show a + (n + 1) = a + n + 1 by (first | exact Nat.le_of_ble_eq_true rfl | exact (fun h => absurd h.1 (by decide)) | omega), dSl_s (by (first | exact Nat.le_of_ble_eq_true rfl | exact (fun h => absurd h.1 (by decide)) | omega)) (by (first | exact Nat.le_of_ble_eq_true rfl | exact (fun h => absurd h.1 (by decide)) | omega))]
    rfl
theorem eRn_one {o : sK} {nm : Nat → Int} {a b : Nat} (hab : a ≤ b) (hb : b ≤ o.length) (h : eG nm (dSl o a b)) : eRn (knD o) nm (b - a) a [] = none ∨ ∃ v, eRn (knD o) nm (b - a) a [] = some [v] := by
  rw [eRn_l (b - a) (by (first | exact Nat.le_of_ble_eq_true rfl | exact (fun h => absurd h.1 (by decide)) | omega)), show a + (b - a) = b by (first | exact Nat.le_of_ble_eq_true rfl | exact (fun h => absurd h.1 (by decide)) | omega)]
  exact h []
/-- formulas that can be worked out -/
def dFo (fs : dFs) : Prop := (∀ q ∈ fs.2.2, kOk q.1) ∧ ∀ f, f < 5 → ∃ a b : Nat, fs.1 f = ((a : Int), (b : Int)) ∧ a ≤ b ∧ b ≤ fs.2.2.length ∧ (a < b → ∀ nm, eG nm (dSl fs.2.2 a b))
def dOk (D : dDc) : Prop := (∀ t ∈ D.1, dTk t) ∧ (∀ t ∈ D.2.1, dVk D.1.length t) ∧ dFo D.2.2.2.2.2.2
theorem dOk_0 : dOk dD0 := ⟨fun t h => absurd h List.not_mem_nil, fun t h => absurd h List.not_mem_nil, fun t h => absurd h List.not_mem_nil, fun f _ => ⟨0, 0, rfl, Nat.le_refl _, Nat.le_refl _, fun h => absurd h (Nat.lt_irrefl _)⟩⟩
theorem sFd_rg {f : Nat → Int} {v : Int} : ∀ c i : Nat, -1 ≤ sFd f v c i ∧ sFd f v c i < ((i + c : Nat) : Int)
  | 0, i => by
    show (-1 : Int) ≤ -1 ∧ (-1 : Int) < _
    (first | exact Nat.le_of_ble_eq_true rfl | exact (fun h => absurd h.1 (by decide)) | omega)
  | c + 1, i => by
    have h := sFd_rg (f := f) (v := v) c (i + 1)
    simp only [sFd]
    split <;> (first | exact Nat.le_of_ble_eq_true rfl | exact (fun h => absurd h.1 (by decide)) | omega)
theorem yTt_rg (nm : List Int) (x : sY) : -1 ≤ (yTt nm x).1 ∧ (yTt nm x).1 < (nm.length : Int) := by
  have h := sFd_rg (f := fun j => nm.getD j 0) (v := yVl x) nm.length 0
  rw [Nat.zero_add] at h
  unfold yTt
  split
  · split
    · dsimp only
      (first | exact Nat.le_of_ble_eq_true rfl | exact (fun h => absurd h.1 (by decide)) | omega)
    · exact h
  · dsimp only
    (first | exact Nat.le_of_ble_eq_true rfl | exact (fun h => absurd h.1 (by decide)) | omega)
theorem pV2_rg (tn : List Int) (x : sY) : (-1 ≤ (pV2 tn x).2.1 ∧ (pV2 tn x).2.1 < (tn.length : Int)) ∧ 0 ≤ (pV2 tn x).2.2 ∧ (pV2 tn x).2.2 ≤ 99 := by
  have h := yTt_rg tn (yNx x)
  have g := yNm_bd 0 99 (yTt tn (yNx x)).2 (by decide)
  unfold pV2
  split
  · exact ⟨h, g⟩
  · dsimp only
    (first | exact Nat.le_of_ble_eq_true rfl | exact (fun h => absurd h.1 (by decide)) | omega)
theorem yBg_bad {nm : List Int} {mx : Nat} {x : sY} (h : (yBg nm mx x).1 = -1) : ¬ yOk (yBg nm mx x).2 := by
  revert h
  unfold yBg
  split
  · exact fun _ => yOk_fl
  · split
    · exact fun _ => yOk_fl
    · split
      · exact fun _ => yOk_fl
      · intro h
        dsimp only at h
        (first | exact Nat.le_of_ble_eq_true rfl | exact (fun h => absurd h.1 (by decide)) | omega)
theorem pTv_ok {tav : dTv} {x : sY} (h : yOk (pTv tav x).1) : dTk (pTv tav x).2 := by
  unfold pTv at h ⊢
  by_cases e : (yBg (tav.map (fun t => t.1)) 3 x).1 = -1
  · rw [if_pos e] at h
    exact absurd h (yBg_bad e)
  · rw [if_neg e]
    exact yNm_bd 0 9999 _ (by decide)
theorem pVo_ok {tn : List Int} {vo : dVo} {x : sY} (h : yOk (pVo tn vo x).1) : dVk tn.length (pVo tn vo x).2 := by
  unfold pVo at h ⊢
  by_cases e : (yBg (vo.map (fun t => t.1)) 6 x).1 = -1
  · rw [if_pos e] at h
    exact absurd h (yBg_bad e)
  · rw [if_neg e]
    exact ⟨(yNm_bd 1 40 _ (by decide)).1, (pV2_rg _ _).1, (pV2_rg _ _).2⟩
theorem dVk_le {a b : Nat} {t : tVo} (h : dVk a t) (hab : a ≤ b) : dVk b t := ⟨h.1, ⟨h.2.1.1, by have := h.2.1.2; (first | exact Nat.le_of_ble_eq_true rfl | exact (fun h => absurd h.1 (by decide)) | omega)⟩, h.2.2⟩
def eKs (u : sU) (o : sK) : Prop := ∃ ks, u.2.2.2 = ks ++ o ∧ (∀ q ∈ ks, kOk q.1) ∧ ∀ nm, eG nm ks
theorem pE_dk {y : sY} {cn : Nat} {o : sK} {u : sU} (h : pE y cn o = .inr u) : eKs u o := by
  cases y with
  | inl e => cases h
  | inr l =>
    obtain ⟨ks, k1, k2, _, k3⟩ := pE_eG h
    exact ⟨ks, k1, k2, k3⟩
theorem pBk_dk {bk : dBk} {cn : Nat} {o : sK} {x : sY} {u : sU} (h : (pBk bk cn o x).1 = .inr u) : eKs u o := by
  unfold pBk at h
  by_cases e : (yBg (bk.map (fun t => t.1)) 3 x).1 = -1
  · rw [if_pos e] at h
    dsimp only at h
    split at h <;> cases h
  · rw [if_neg e] at h
    exact pE_dk h
theorem pL1_dk {tl : Bool} {cn : Nat} {o : sK} {y : sY} {u : sU} (h : pL1 tl cn o y = .inr u) : eKs u o := by
  unfold pL1 at h
  split at h
  · exact (xFl_r h).elim
  · exact pE_dk h
theorem pLw_dk {tl : Nat → Bool} {cn : Nat} {o : sK} {x : sY} {u : sU} (h : (pLw tl cn o x).1 = .inr u) : eKs u o := by
  unfold pLw at h
  split at h
  · exact pL1_dk h
  · split at h
    · exact pL1_dk h
    · exact (xFl_r h).elim
theorem dFo_x {fs : dFs} {f : Nat} {x : sX} (h : dFo fs) (hp : ∀ u, x = .inr u → eKs u fs.2.2) : dFo (dFx fs f x) := by
  cases x with
  | inl e => exact h
  | inr u =>
    obtain ⟨ks, k1, k2, k3⟩ := hp u rfl
    refine ⟨fun q hq => ?_, fun g hg => ?_⟩
    · have hq : q ∈ u.2.2.2 := hq
      rw [k1] at hq
      exact (List.mem_append.mp hq).elim (k2 q) (h.1 q)
    · by_cases e : g = f
      · refine ⟨fs.2.2.length, u.2.2.2.length, if_pos e, ?_, Nat.le_refl _, fun _ nm => ?_⟩
        · rw [k1, List.length_append]
          (first | exact Nat.le_of_ble_eq_true rfl | exact (fun h => absurd h.1 (by decide)) | omega)
        · show eG nm (dSl u.2.2.2 fs.2.2.length u.2.2.2.length)
          rw [k1, dSl_new]
          exact k3 nm
      · obtain ⟨a, b, h1, h2, h3, h4⟩ := h.2 g hg
        refine ⟨a, b, (if_neg e).trans h1, h2, ?_, fun hab nm => ?_⟩
        · show b ≤ u.2.2.2.length
          rw [k1, List.length_append]
          (first | exact Nat.le_of_ble_eq_true rfl | exact (fun h => absurd h.1 (by decide)) | omega)
        · show eG nm (dSl u.2.2.2 a b)
          rw [k1, dSl_app h3]
          exact h4 hab nm
theorem dOk_ln {x : sY} {D : dDc} (h : dOk D) (hk : yOk (pLine x D).1) : dOk (pLine x D).2 := by
  obtain ⟨h1, h2, h3⟩ := h
  unfold pLine at hk ⊢
  by_cases e17 : yKd x = 17
  · rw [if_pos e17] at hk ⊢
    refine ⟨fun t ht => ?_, fun t ht => ?_, h3⟩
    · rcases List.mem_append.mp ht with ht | ht
      · exact h1 t ht
      · rw [List.mem_singleton] at ht
        subst ht
        exact pTv_ok hk
    · show dVk (D.1 ++ [(pTv D.1 x).2]).length t
      rw [List.length_append]
      exact dVk_le (h2 t ht) (Nat.le_add_right _ _)
  · rw [if_neg e17] at hk ⊢
    by_cases e18 : yKd x = 18
    · rw [if_pos e18] at hk ⊢
      refine ⟨h1, fun t ht => ?_, h3⟩
      rcases List.mem_append.mp ht with ht | ht
      · exact h2 t ht
      · rw [List.mem_singleton] at ht
        subst ht
        have := pVo_ok hk
        rw [List.length_map] at this
        exact this
    · rw [if_neg e18] at hk ⊢
      by_cases e19 : yKd x = 19
      · rw [if_pos e19]
        exact ⟨h1, h2, h3⟩
      · rw [if_neg e19] at hk ⊢
        by_cases e20 : yKd x = 20
        · rw [if_pos e20]
          exact ⟨h1, h2, dFo_x h3 (fun u hu => pBk_dk hu)⟩
        · rw [if_neg e20] at hk ⊢
          by_cases e21 : yKd x = 21
          · rw [if_pos e21]
            exact ⟨h1, h2, h3⟩
          · rw [if_neg e21] at hk ⊢
            by_cases e22 : yKd x = 22
            · rw [if_pos e22]
              exact ⟨h1, h2, h3⟩
            · rw [if_neg e22] at hk ⊢
              by_cases e23 : yKd x = 23
              · rw [if_pos e23]
                exact ⟨h1, h2, dFo_x h3 (fun u hu => pLw_dk hu)⟩
              · rw [if_neg e23] at hk
                exact absurd hk yOk_fl
theorem pTx_in : ∀ (f : Nat) (e : Nat × Nat) (D : dDc) (k : Int), ¬ yOk (pTx f (.inl e) D k).1
  | 0, e, D, k => yOk_in
  | f + 1, e, D, k => by
    show ¬ yOk (if yKd (.inl e) = 0 then (_ : sY × dDc × Int) else _).1
    rw [if_pos (show yKd (.inl e) = 0 from rfl)]
    exact yOk_in
theorem pTx_ok : ∀ (f : Nat) (x : sY) (D : dDc) (k : Int), dOk D → yOk (pTx f x D k).1 → dOk (pTx f x D k).2.1
  | 0, x, D, k, h, _ => h
  | f + 1, x, D, k, h, hk => by
    have hp : pTx (f + 1) x D k = if yKd x = 0 then (x, D, k) else if yKd (pLine x D).1 = 4 then pTx f (yNx (pLine x D).1) (pLine x D).2 (k + 1) else pTx f (yFl 1 (pLine x D).1) (pLine x D).2 k := rfl
    rw [hp] at hk ⊢
    by_cases e0 : yKd x = 0
    · rw [if_pos e0]
      exact h
    · rw [if_neg e0] at hk ⊢
      by_cases e4 : yKd (pLine x D).1 = 4
      · rw [if_pos e4] at hk ⊢
        exact pTx_ok f _ _ _ (dOk_ln h (yOk_kd (by rw [e4]; decide))) hk
      · rw [if_neg e4] at hk
        obtain ⟨e, he⟩ := yFl_inl 1 (pLine x D).1
        rw [he] at hk
        exact absurd hk (pTx_in _ _ _ _)
end
