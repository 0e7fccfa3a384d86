section
/-! THE REFERENCE'S text: its answer -/
def tAn (x : sY) (k : Int) : Int := match x with
  | .inl _ => -1
  | .inr _ => k
/-- the FAULT that is kept -/
def tFk (x : sY) : Int × Int := match x with
  | .inl e => ((e.1 : Int), (e.2 : Int))
  | .inr _ => (0, -1)
theorem pTx_s {f : Nat} {x : sY} {D : dDc} {k : Int} (h : ¬ yKd x = 0) : pTx (f + 1) x D k = pTx f (pEnd (pLine x D).1) (pLine x D).2 (if yKd (pLine x D).1 = 4 then k + 1 else k) := by
  show (if yKd x = 0 then (x, D, k) else if yKd (pLine x D).1 = 4 then pTx f (yNx (pLine x D).1) (pLine x D).2 (k + 1) else pTx f (yFl 1 (pLine x D).1) (pLine x D).2 k) = _
  rw [if_neg h]
  unfold pEnd
  by_cases h4 : yKd (pLine x D).1 = 4
  · rw [if_pos h4, if_pos h4, if_pos h4]
  · rw [if_neg h4, if_neg h4, if_neg h4]
theorem pTx_e {f : Nat} {x : sY} {D : dDc} {k : Int} (h : yKd x = 0) : pTx f x D k = (x, D, k) := by
  cases f with
  | zero => rfl
  | succ f =>
    show (if yKd x = 0 then (x, D, k) else _) = _
    rw [if_pos h]
section RR
variable {E : yE} {Q : Option yV → yMem → Prop} {ch : Nat → Int} {n d : Nat} {x : Int} {r2 : Option yV}
theorem rt333 (hE : yEok E) {s : yMem} (hG : aGok s) (hQ : ∀ r (m : yMem), w32 r = w32 (s 95 25) → m 95 33 = s 95 33 → m 95 34 = s 95 34 → (∀ i j n, zhf.getD (i - 97) 0 = n → 97 ≤ i → i ≤ 117 → j < n → m i j = s i (n + j)) → Q (some (0, r)) m) : zG E (d + 1) xm_242 333 [some (1, 95), some (0, x), r2] [] (Hm S2 s) Q := by
  refine zgo_ok (n := 40) hE xmo_242 (cs := zc_242) ?_
  simp only [ynok_30, ynok_31, w32c_0, w32c_1, w32c_2, w32c_3, w32c_4, w32c_5, w32c_6, w32c_7, w32c_8, w32c_9, w32c_10, w32c_11, w32c_12, w32c_13, w32c_14, w32c_m1, w32c_m2, w32c_118, Int.reduceAdd, Int.reduceSub, Int.reduceMul, yput_s, yput_n, znl_n, znl_0, znl_1, znl_4, ysum_n, ysum_0, ysum_1, ysum_4, true_and, and_true, Nat.reduceAdd, Nat.reduceLeDiff, true_implies, eq_self, true_or, or_true, or_false, false_or, not_true_eq_false, not_false_eq_true, false_implies, implies_true, yset_s, yset_o, yset_d, ne_eq, Nat.reduceEqDiff, Int.reduceToNat, Int.reduceEq, Int.reduceLE, Int.reduceLT, Classical.not_not, Nat.reduceLT, ↓zvk_s, ↓zvk_n, ↓s_242_0, ↓s_242_1, ↓s_242_2, ↓s_242_5, ↓s_242_6, ↓s_242_9, ↓s_242_10, ↓s_242_11, ↓s_242_14, ↓s_242_17, ↓s_242_19, ↓s_242_20, ↓s_242_21, ↓s_242_22, ↓s_242_25, ↓s_242_26, ↓s_242_27, ↓s_242_30, ↓s_242_31, ↓s_242_32, ↓s_242_35, ↓s_242_36, ↓s_242_37, ↓s_242_40, ↓s_242_41, ↓s_242_42, ↓s_242_45, ↓s_242_46n, ↓s_242_46i, ↓s_242_46p, ↓g_242_47, ↓k_242_47, ↓s_242_48, ↓s_242_50, ↓s_242_53, ↓s_242_54, ↓s_242_55, ↓s_242_56, ↓s_242_59n, ↓s_242_59i, ↓s_242_59p, ↓s_242_62, ↓s_242_65, ↓s_242_66n, ↓s_242_66i, ↓s_242_66p, ↓g_242_67, ↓k_242_67, ↓s_242_68, ↓s_242_70, ↓s_242_73, ↓s_242_74, ↓s_242_77, ↓s_242_78, ↓s_242_79, ↓s_242_80, ↓s_242_81, ↓s_242_84, ↓s_242_85, ↓s_242_86, ↓s_242_87n, ↓s_242_87i, ↓s_242_87p, ↓s_242_90, ↓g_242_93, ↓k_242_93, ↓s_242_94, ↓s_242_95, ↓s_242_98, ↓s_242_99, ↓s_242_100, ↓s_242_103, ↓s_242_104, ↓s_242_105, ↓s_242_108, ↓s_242_109, ↓s_242_110, ↓s_242_113, ↓s_242_114, ↓g_242_117, ↓k_242_117, ↓s_242_118, ↓s_242_121, ↓s_242_124, ↓s_242_125, ↓s_242_128, ↓s_242_129, ↓s_242_132, ↓s_242_133, ↓s_242_136, ↓g_242_139, ↓k_242_139, ↓s_242_140, ↓s_242_141, ↓s_242_144, ↓s_242_147, ↓s_242_148, ↓s_242_149, ↓s_242_152, ↓s_242_155, ↓s_242_156, ↓s_242_159, ↓s_242_162, ↓s_242_163, ↓g_242_164, ↓k_242_164, ↓s_242_165, ↓s_242_168, ↓s_242_171, ↓s_242_172, ↓s_242_175, ↓s_242_178, ↓s_242_179, ↓s_242_182, ↓s_242_185, ↓s_242_186, ↓s_242_189, ↓s_242_192, ↓s_242_193, ↓s_242_196, ↓s_242_199, ↓s_242_200, ↓s_242_203, ↓s_242_206, ↓s_242_207, ↓s_242_210, ↓s_242_213, ↓s_242_214n, ↓s_242_214i, ↓s_242_214p, ↓g_242_215, ↓k_242_215, ↓s_242_216, ↓s_242_218, ↓s_242_221, ↓s_242_222, ↓s_242_225, ↓s_242_226, ↓s_242_227, ↓s_242_230, ↓s_242_232, ↓s_242_233, ↓s_242_234, ↓s_242_235, ↓s_242_236n, ↓s_242_236i, ↓s_242_236p, ↓s_242_239, ↓g_242_242, ↓k_242_242, ↓s_242_243, ↓s_242_246, ↓s_242_249, ↓s_242_250, ↓s_242_253, ↓s_242_256, ↓s_242_257, ↓s_242_260, ↓s_242_263, ↓s_242_264, ↓s_242_267, ↓s_242_270, ↓s_242_271, ↓s_242_274, ↓s_242_277, ↓s_242_278, ↓s_242_281, ↓s_242_284, ↓s_242_285, ↓s_242_288, ↓s_242_291, ↓s_242_292, ↓s_242_295, ↓s_242_298, ↓s_242_299, ↓s_242_302, ↓s_242_305, ↓s_242_306, ↓s_242_309, ↓s_242_312, ↓s_242_313, ↓s_242_316, ↓s_242_319, ↓s_242_320, ↓s_242_323, ↓s_242_326, ↓s_242_327, ↓s_242_330, ↓g_242_333, ↓k_242_333, ↓s_242_334, ↓s_242_335, ↓s_242_338, ↓s_242_339, ↓s_242_340, ↓s_242_343, ↓s_242_344, ↓s_242_345, ↓s_242_348, ↓s_242_349, ↓s_242_352, ↓s_242_353, ↓s_242_356, zio_95, zar_97, zia_97, zln_97, zit_97, zar_98, zia_98, zln_98, zit_98, zar_99, zia_99, zln_99, zit_99, zar_100, zia_100, zln_100, zit_100, zar_101, zia_101, zln_101, zit_101, zar_102, zia_102, zln_102, zit_102, zar_103, zia_103, zln_103, zit_103, zar_104, zia_104, zln_104, zit_104, zar_105, zia_105, zln_105, zit_105, zar_106, zia_106, zln_106, zit_106, zar_107, zia_107, zln_107, zit_107, zar_108, zia_108, zln_108, zit_108, zar_109, zia_109, zln_109, zit_109, zar_110, zia_110, zln_110, zit_110, zar_111, zia_111, zln_111, zit_111, zar_112, zia_112, zln_112, zit_112, zar_113, zia_113, zln_113, zit_113, zar_114, zia_114, zln_114, zit_114, zar_115, zia_115, zln_115, zit_115, zar_116, zia_116, zln_116, zit_116, zar_117, zia_117, zln_117, zit_117]
  have hG2 : aGok (yset (yset (yset (Hm S2 s) 95 61 0) 95 62 (-1)) 95 49 0) := aGok_set (aGok_set (aGok_set (aGok_Hm hG) (by rw [ag_95_61]; decide)) (by rw [ag_95_62]; decide)) (by rw [ag_95_49]; decide)
  refine abs_begins E hE _ (show 1 ≤ _ by (first | exact Nat.le_of_ble_eq_true rfl | exact (fun h => absurd h.1 (by decide)) | omega)) _ rfl _ _ _ ⟨rfl, trivial⟩ hG2 trivial (fun q hq => by cases hq) (fun r m he => ?_)
  obtain ⟨e1, e2, -, e3, e4⟩ := he
  have hr : r = none := by
    cases r with
    | none => rfl
    | some y => exact absurd e1 (fun h => h)
  subst hr
  refine zgk_n hE xmo_242 40 zc_242 ?_
  simp only [ynok_30, ynok_31, w32c_0, w32c_1, w32c_2, w32c_3, w32c_4, w32c_5, w32c_6, w32c_7, w32c_8, w32c_9, w32c_10, w32c_11, w32c_12, w32c_13, w32c_14, w32c_m1, w32c_m2, w32c_118, Int.reduceAdd, Int.reduceSub, Int.reduceMul, yput_s, yput_n, znl_n, znl_0, znl_1, znl_4, ysum_n, ysum_0, ysum_1, ysum_4, true_and, and_true, Nat.reduceAdd, Nat.reduceLeDiff, true_implies, eq_self, true_or, or_true, or_false, false_or, not_true_eq_false, not_false_eq_true, false_implies, implies_true, yset_s, yset_o, yset_d, ne_eq, Nat.reduceEqDiff, Int.reduceToNat, Int.reduceEq, Int.reduceLE, Int.reduceLT, Classical.not_not, Nat.reduceLT, ↓zvk_s, ↓zvk_n, ↓s_242_0, ↓s_242_1, ↓s_242_2, ↓s_242_5, ↓s_242_6, ↓s_242_9, ↓s_242_10, ↓s_242_11, ↓s_242_14, ↓s_242_17, ↓s_242_19, ↓s_242_20, ↓s_242_21, ↓s_242_22, ↓s_242_25, ↓s_242_26, ↓s_242_27, ↓s_242_30, ↓s_242_31, ↓s_242_32, ↓s_242_35, ↓s_242_36, ↓s_242_37, ↓s_242_40, ↓s_242_41, ↓s_242_42, ↓s_242_45, ↓s_242_46n, ↓s_242_46i, ↓s_242_46p, ↓g_242_47, ↓k_242_47, ↓s_242_48, ↓s_242_50, ↓s_242_53, ↓s_242_54, ↓s_242_55, ↓s_242_56, ↓s_242_59n, ↓s_242_59i, ↓s_242_59p, ↓s_242_62, ↓s_242_65, ↓s_242_66n, ↓s_242_66i, ↓s_242_66p, ↓g_242_67, ↓k_242_67, ↓s_242_68, ↓s_242_70, ↓s_242_73, ↓s_242_74, ↓s_242_77, ↓s_242_78, ↓s_242_79, ↓s_242_80, ↓s_242_81, ↓s_242_84, ↓s_242_85, ↓s_242_86, ↓s_242_87n, ↓s_242_87i, ↓s_242_87p, ↓s_242_90, ↓g_242_93, ↓k_242_93, ↓s_242_94, ↓s_242_95, ↓s_242_98, ↓s_242_99, ↓s_242_100, ↓s_242_103, ↓s_242_104, ↓s_242_105, ↓s_242_108, ↓s_242_109, ↓s_242_110, ↓s_242_113, ↓s_242_114, ↓g_242_117, ↓k_242_117, ↓s_242_118, ↓s_242_121, ↓s_242_124, ↓s_242_125, ↓s_242_128, ↓s_242_129, ↓s_242_132, ↓s_242_133, ↓s_242_136, ↓g_242_139, ↓k_242_139, ↓s_242_140, ↓s_242_141, ↓s_242_144, ↓s_242_147, ↓s_242_148, ↓s_242_149, ↓s_242_152, ↓s_242_155, ↓s_242_156, ↓s_242_159, ↓s_242_162, ↓s_242_163, ↓g_242_164, ↓k_242_164, ↓s_242_165, ↓s_242_168, ↓s_242_171, ↓s_242_172, ↓s_242_175, ↓s_242_178, ↓s_242_179, ↓s_242_182, ↓s_242_185, ↓s_242_186, ↓s_242_189, ↓s_242_192, ↓s_242_193, ↓s_242_196, ↓s_242_199, ↓s_242_200, ↓s_242_203, ↓s_242_206, ↓s_242_207, ↓s_242_210, ↓s_242_213, ↓s_242_214n, ↓s_242_214i, ↓s_242_214p, ↓g_242_215, ↓k_242_215, ↓s_242_216, ↓s_242_218, ↓s_242_221, ↓s_242_222, ↓s_242_225, ↓s_242_226, ↓s_242_227, ↓s_242_230, ↓s_242_232, ↓s_242_233, ↓s_242_234, ↓s_242_235, ↓s_242_236n, ↓s_242_236i, ↓s_242_236p, ↓s_242_239, ↓g_242_242, ↓k_242_242, ↓s_242_243, ↓s_242_246, ↓s_242_249, ↓s_242_250, ↓s_242_253, ↓s_242_256, ↓s_242_257, ↓s_242_260, ↓s_242_263, ↓s_242_264, ↓s_242_267, ↓s_242_270, ↓s_242_271, ↓s_242_274, ↓s_242_277, ↓s_242_278, ↓s_242_281, ↓s_242_284, ↓s_242_285, ↓s_242_288, ↓s_242_291, ↓s_242_292, ↓s_242_295, ↓s_242_298, ↓s_242_299, ↓s_242_302, ↓s_242_305, ↓s_242_306, ↓s_242_309, ↓s_242_312, ↓s_242_313, ↓s_242_316, ↓s_242_319, ↓s_242_320, ↓s_242_323, ↓s_242_326, ↓s_242_327, ↓s_242_330, ↓g_242_333, ↓k_242_333, ↓s_242_334, ↓s_242_335, ↓s_242_338, ↓s_242_339, ↓s_242_340, ↓s_242_343, ↓s_242_344, ↓s_242_345, ↓s_242_348, ↓s_242_349, ↓s_242_352, ↓s_242_353, ↓s_242_356, zio_95, zar_97, zia_97, zln_97, zit_97, zar_98, zia_98, zln_98, zit_98, zar_99, zia_99, zln_99, zit_99, zar_100, zia_100, zln_100, zit_100, zar_101, zia_101, zln_101, zit_101, zar_102, zia_102, zln_102, zit_102, zar_103, zia_103, zln_103, zit_103, zar_104, zia_104, zln_104, zit_104, zar_105, zia_105, zln_105, zit_105, zar_106, zia_106, zln_106, zit_106, zar_107, zia_107, zln_107, zit_107, zar_108, zia_108, zln_108, zit_108, zar_109, zia_109, zln_109, zit_109, zar_110, zia_110, zln_110, zit_110, zar_111, zia_111, zln_111, zit_111, zar_112, zia_112, zln_112, zit_112, zar_113, zia_113, zln_113, zit_113, zar_114, zia_114, zln_114, zit_114, zar_115, zia_115, zln_115, zit_115, zar_116, zia_116, zln_116, zit_116, zar_117, zia_117, zln_117, zit_117]
  refine hQ _ m ?_ ?_ ?_ (fun i j n hn h1 h2 hj => ?_)
  · rw [e3 95 25 rfl, yset_d (by decide), yset_d (by decide), yset_d (by decide), Hm_no rfl]
  · rw [e3 95 33 rfl, yset_d (by decide), yset_d (by decide), yset_d (by decide), Hm_no rfl]
  · rw [e3 95 34 rfl, yset_d (by decide), yset_d (by decide), yset_d (by decide), Hm_no rfl]
  · have hm : amod (acW abc_begins) i j = false := by
      cases hm : amod (acW abc_begins) i j with
      | false => rfl
      | true =>
        obtain ⟨q, q1, q2, q3⟩ := amod_ex hm
        have hall : (acW abc_begins).all (fun q => Nat.beq q.1 95 || Nat.ble 118 q.1) = true := by decide +kernel
        have := List.all_eq_true.mp hall q q1
        rw [q2] at this
        simp only [Bool.or_eq_true, Nat.beq_eq, Nat.ble_eq] at this
        (first | exact Nat.le_of_ble_eq_true rfl | exact (fun h => absurd h.1 (by decide)) | omega)
    rw [e3 i j hm, yset_o (by (first | exact Nat.le_of_ble_eq_true rfl | exact (fun h => absurd h.1 (by decide)) | omega)), yset_o (by (first | exact Nat.le_of_ble_eq_true rfl | exact (fun h => absurd h.1 (by decide)) | omega)), yset_o (by (first | exact Nat.le_of_ble_eq_true rfl | exact (fun h => absurd h.1 (by decide)) | omega)), Hm_lo (n := n) (zS2 i (by (first | exact Nat.le_of_ble_eq_true rfl | exact (fun h => absurd h.1 (by decide)) | omega)) h1) hn hj]
theorem rt139 (hE : yEok E) {s : yMem} (hG : aGok s) {X : sY} {D : dDc} {k : Int} (hT : rTk ch n s X) (hDp : yOk X → rDp s D) (hk : yOk X → w32 (s 95 25) = k) (hQ : ∀ r (m : yMem), w32 r = tAn X k → (w32 (m 95 33), w32 (m 95 34)) = tFk X → ((yOk X → rDl m D) ∧ (¬ yOk X → lwW s m)) → Q (some (0, r)) m) : zG E (d + 1) xm_242 139 [some (1, 95), some (0, x), r2] [] s Q := by
  refine zgo_ok (n := 40) hE xmo_242 (cs := zc_242) ?_
  have hG2 : aGok (yset (yset s 95 33 (s 95 31)) 95 34 (s 95 32)) := aGok_set (aGok_set hG (ag_32 ag_95_33)) (ag_32 ag_95_34)
  cases X with
  | inl e =>
    have hf := rTk_f hT
    simp only [ynok_30, ynok_31, w32c_0, w32c_1, w32c_2, w32c_3, w32c_4, w32c_5, w32c_6, w32c_7, w32c_8, w32c_9, w32c_10, w32c_11, w32c_12, w32c_13, w32c_14, w32c_m1, w32c_m2, w32c_118, Int.reduceAdd, Int.reduceSub, Int.reduceMul, yput_s, yput_n, znl_n, znl_0, znl_1, znl_4, ysum_n, ysum_0, ysum_1, ysum_4, true_and, and_true, Nat.reduceAdd, Nat.reduceLeDiff, true_implies, eq_self, true_or, or_true, or_false, false_or, not_true_eq_false, not_false_eq_true, false_implies, implies_true, yset_s, yset_o, yset_d, ne_eq, Nat.reduceEqDiff, Int.reduceToNat, Int.reduceEq, Int.reduceLE, Int.reduceLT, Classical.not_not, Nat.reduceLT, ↓zvk_s, ↓zvk_n, ↓s_242_0, ↓s_242_1, ↓s_242_2, ↓s_242_5, ↓s_242_6, ↓s_242_9, ↓s_242_10, ↓s_242_11, ↓s_242_14, ↓s_242_17, ↓s_242_19, ↓s_242_20, ↓s_242_21, ↓s_242_22, ↓s_242_25, ↓s_242_26, ↓s_242_27, ↓s_242_30, ↓s_242_31, ↓s_242_32, ↓s_242_35, ↓s_242_36, ↓s_242_37, ↓s_242_40, ↓s_242_41, ↓s_242_42, ↓s_242_45, ↓s_242_46n, ↓s_242_46i, ↓s_242_46p, ↓g_242_47, ↓k_242_47, ↓s_242_48, ↓s_242_50, ↓s_242_53, ↓s_242_54, ↓s_242_55, ↓s_242_56, ↓s_242_59n, ↓s_242_59i, ↓s_242_59p, ↓s_242_62, ↓s_242_65, ↓s_242_66n, ↓s_242_66i, ↓s_242_66p, ↓g_242_67, ↓k_242_67, ↓s_242_68, ↓s_242_70, ↓s_242_73, ↓s_242_74, ↓s_242_77, ↓s_242_78, ↓s_242_79, ↓s_242_80, ↓s_242_81, ↓s_242_84, ↓s_242_85, ↓s_242_86, ↓s_242_87n, ↓s_242_87i, ↓s_242_87p, ↓s_242_90, ↓g_242_93, ↓k_242_93, ↓s_242_94, ↓s_242_95, ↓s_242_98, ↓s_242_99, ↓s_242_100, ↓s_242_103, ↓s_242_104, ↓s_242_105, ↓s_242_108, ↓s_242_109, ↓s_242_110, ↓s_242_113, ↓s_242_114, ↓g_242_117, ↓k_242_117, ↓s_242_118, ↓s_242_121, ↓s_242_124, ↓s_242_125, ↓s_242_128, ↓s_242_129, ↓s_242_132, ↓s_242_133, ↓s_242_136, ↓g_242_139, ↓k_242_139, ↓s_242_140, ↓s_242_141, ↓s_242_144, ↓s_242_147, ↓s_242_148, ↓s_242_149, ↓s_242_152, ↓s_242_155, ↓s_242_156, ↓s_242_159, ↓s_242_162, ↓s_242_163, ↓g_242_164, ↓k_242_164, ↓s_242_165, ↓s_242_168, ↓s_242_171, ↓s_242_172, ↓s_242_175, ↓s_242_178, ↓s_242_179, ↓s_242_182, ↓s_242_185, ↓s_242_186, ↓s_242_189, ↓s_242_192, ↓s_242_193, ↓s_242_196, ↓s_242_199, ↓s_242_200, ↓s_242_203, ↓s_242_206, ↓s_242_207, ↓s_242_210, ↓s_242_213, ↓s_242_214n, ↓s_242_214i, ↓s_242_214p, ↓g_242_215, ↓k_242_215, ↓s_242_216, ↓s_242_218, ↓s_242_221, ↓s_242_222, ↓s_242_225, ↓s_242_226, ↓s_242_227, ↓s_242_230, ↓s_242_232, ↓s_242_233, ↓s_242_234, ↓s_242_235, ↓s_242_236n, ↓s_242_236i, ↓s_242_236p, ↓s_242_239, ↓g_242_242, ↓k_242_242, ↓s_242_243, ↓s_242_246, ↓s_242_249, ↓s_242_250, ↓s_242_253, ↓s_242_256, ↓s_242_257, ↓s_242_260, ↓s_242_263, ↓s_242_264, ↓s_242_267, ↓s_242_270, ↓s_242_271, ↓s_242_274, ↓s_242_277, ↓s_242_278, ↓s_242_281, ↓s_242_284, ↓s_242_285, ↓s_242_288, ↓s_242_291, ↓s_242_292, ↓s_242_295, ↓s_242_298, ↓s_242_299, ↓s_242_302, ↓s_242_305, ↓s_242_306, ↓s_242_309, ↓s_242_312, ↓s_242_313, ↓s_242_316, ↓s_242_319, ↓s_242_320, ↓s_242_323, ↓s_242_326, ↓s_242_327, ↓s_242_330, ↓g_242_333, ↓k_242_333, ↓s_242_334, ↓s_242_335, ↓s_242_338, ↓s_242_339, ↓s_242_340, ↓s_242_343, ↓s_242_344, ↓s_242_345, ↓s_242_348, ↓s_242_349, ↓s_242_352, ↓s_242_353, ↓s_242_356, zio_95, zar_97, zia_97, zln_97, zit_97, zar_98, zia_98, zln_98, zit_98, zar_99, zia_99, zln_99, zit_99, zar_100, zia_100, zln_100, zit_100, zar_101, zia_101, zln_101, zit_101, zar_102, zia_102, zln_102, zit_102, zar_103, zia_103, zln_103, zit_103, zar_104, zia_104, zln_104, zit_104, zar_105, zia_105, zln_105, zit_105, zar_106, zia_106, zln_106, zit_106, zar_107, zia_107, zln_107, zit_107, zar_108, zia_108, zln_108, zit_108, zar_109, zia_109, zln_109, zit_109, zar_110, zia_110, zln_110, zit_110, zar_111, zia_111, zln_111, zit_111, zar_112, zia_112, zln_112, zit_112, zar_113, zia_113, zln_113, zit_113, zar_114, zia_114, zln_114, zit_114, zar_115, zia_115, zln_115, zit_115, zar_116, zia_116, zln_116, zit_116, zar_117, zia_117, zln_117, zit_117, hf]
    refine hQ _ _ w32c_m1 ?_ ⟨fun z => absurd z yOk_in, fun _ i j n _ h1 _ _ => by rw [yset_o (by (first | exact Nat.le_of_ble_eq_true rfl | exact (fun h => absurd h.1 (by decide)) | omega)), yset_o (by (first | exact Nat.le_of_ble_eq_true rfl | exact (fun h => absurd h.1 (by decide)) | omega))]⟩
    rw [yset_d (by decide), yset_s, yset_s]
    exact Prod.ext hT.2.2.2.1 hT.2.2.2.2.2
  | inr l =>
    have hf := rTk_0 hT
    simp only [ynok_30, ynok_31, w32c_0, w32c_1, w32c_2, w32c_3, w32c_4, w32c_5, w32c_6, w32c_7, w32c_8, w32c_9, w32c_10, w32c_11, w32c_12, w32c_13, w32c_14, w32c_m1, w32c_m2, w32c_118, Int.reduceAdd, Int.reduceSub, Int.reduceMul, yput_s, yput_n, znl_n, znl_0, znl_1, znl_4, ysum_n, ysum_0, ysum_1, ysum_4, true_and, and_true, Nat.reduceAdd, Nat.reduceLeDiff, true_implies, eq_self, true_or, or_true, or_false, false_or, not_true_eq_false, not_false_eq_true, false_implies, implies_true, yset_s, yset_o, yset_d, ne_eq, Nat.reduceEqDiff, Int.reduceToNat, Int.reduceEq, Int.reduceLE, Int.reduceLT, Classical.not_not, Nat.reduceLT, ↓zvk_s, ↓zvk_n, ↓s_242_0, ↓s_242_1, ↓s_242_2, ↓s_242_5, ↓s_242_6, ↓s_242_9, ↓s_242_10, ↓s_242_11, ↓s_242_14, ↓s_242_17, ↓s_242_19, ↓s_242_20, ↓s_242_21, ↓s_242_22, ↓s_242_25, ↓s_242_26, ↓s_242_27, ↓s_242_30, ↓s_242_31, ↓s_242_32, ↓s_242_35, ↓s_242_36, ↓s_242_37, ↓s_242_40, ↓s_242_41, ↓s_242_42, ↓s_242_45, ↓s_242_46n, ↓s_242_46i, ↓s_242_46p, ↓g_242_47, ↓k_242_47, ↓s_242_48, ↓s_242_50, ↓s_242_53, ↓s_242_54, ↓s_242_55, ↓s_242_56, ↓s_242_59n, ↓s_242_59i, ↓s_242_59p, ↓s_242_62, ↓s_242_65, ↓s_242_66n, ↓s_242_66i, ↓s_242_66p, ↓g_242_67, ↓k_242_67, ↓s_242_68, ↓s_242_70, ↓s_242_73, ↓s_242_74, ↓s_242_77, ↓s_242_78, ↓s_242_79, ↓s_242_80, ↓s_242_81, ↓s_242_84, ↓s_242_85, ↓s_242_86, ↓s_242_87n, ↓s_242_87i, ↓s_242_87p, ↓s_242_90, ↓g_242_93, ↓k_242_93, ↓s_242_94, ↓s_242_95, ↓s_242_98, ↓s_242_99, ↓s_242_100, ↓s_242_103, ↓s_242_104, ↓s_242_105, ↓s_242_108, ↓s_242_109, ↓s_242_110, ↓s_242_113, ↓s_242_114, ↓g_242_117, ↓k_242_117, ↓s_242_118, ↓s_242_121, ↓s_242_124, ↓s_242_125, ↓s_242_128, ↓s_242_129, ↓s_242_132, ↓s_242_133, ↓s_242_136, ↓g_242_139, ↓k_242_139, ↓s_242_140, ↓s_242_141, ↓s_242_144, ↓s_242_147, ↓s_242_148, ↓s_242_149, ↓s_242_152, ↓s_242_155, ↓s_242_156, ↓s_242_159, ↓s_242_162, ↓s_242_163, ↓g_242_164, ↓k_242_164, ↓s_242_165, ↓s_242_168, ↓s_242_171, ↓s_242_172, ↓s_242_175, ↓s_242_178, ↓s_242_179, ↓s_242_182, ↓s_242_185, ↓s_242_186, ↓s_242_189, ↓s_242_192, ↓s_242_193, ↓s_242_196, ↓s_242_199, ↓s_242_200, ↓s_242_203, ↓s_242_206, ↓s_242_207, ↓s_242_210, ↓s_242_213, ↓s_242_214n, ↓s_242_214i, ↓s_242_214p, ↓g_242_215, ↓k_242_215, ↓s_242_216, ↓s_242_218, ↓s_242_221, ↓s_242_222, ↓s_242_225, ↓s_242_226, ↓s_242_227, ↓s_242_230, ↓s_242_232, ↓s_242_233, ↓s_242_234, ↓s_242_235, ↓s_242_236n, ↓s_242_236i, ↓s_242_236p, ↓s_242_239, ↓g_242_242, ↓k_242_242, ↓s_242_243, ↓s_242_246, ↓s_242_249, ↓s_242_250, ↓s_242_253, ↓s_242_256, ↓s_242_257, ↓s_242_260, ↓s_242_263, ↓s_242_264, ↓s_242_267, ↓s_242_270, ↓s_242_271, ↓s_242_274, ↓s_242_277, ↓s_242_278, ↓s_242_281, ↓s_242_284, ↓s_242_285, ↓s_242_288, ↓s_242_291, ↓s_242_292, ↓s_242_295, ↓s_242_298, ↓s_242_299, ↓s_242_302, ↓s_242_305, ↓s_242_306, ↓s_242_309, ↓s_242_312, ↓s_242_313, ↓s_242_316, ↓s_242_319, ↓s_242_320, ↓s_242_323, ↓s_242_326, ↓s_242_327, ↓s_242_330, ↓g_242_333, ↓k_242_333, ↓s_242_334, ↓s_242_335, ↓s_242_338, ↓s_242_339, ↓s_242_340, ↓s_242_343, ↓s_242_344, ↓s_242_345, ↓s_242_348, ↓s_242_349, ↓s_242_352, ↓s_242_353, ↓s_242_356, zio_95, zar_97, zia_97, zln_97, zit_97, zar_98, zia_98, zln_98, zit_98, zar_99, zia_99, zln_99, zit_99, zar_100, zia_100, zln_100, zit_100, zar_101, zia_101, zln_101, zit_101, zar_102, zia_102, zln_102, zit_102, zar_103, zia_103, zln_103, zit_103, zar_104, zia_104, zln_104, zit_104, zar_105, zia_105, zln_105, zit_105, zar_106, zia_106, zln_106, zit_106, zar_107, zia_107, zln_107, zit_107, zar_108, zia_108, zln_108, zit_108, zar_109, zia_109, zln_109, zit_109, zar_110, zia_110, zln_110, zit_110, zar_111, zia_111, zln_111, zit_111, zar_112, zia_112, zln_112, zit_112, zar_113, zia_113, zln_113, zit_113, zar_114, zia_114, zln_114, zit_114, zar_115, zia_115, zln_115, zit_115, zar_116, zia_116, zln_116, zit_116, zar_117, zia_117, zln_117, zit_117, hf]
    refine tx164 hE hG2 (fun r2 => rt333 hE hG2 (fun r m hr h33 h34 hlw => hQ r m ?_ ?_ ⟨fun _ => rDl_h (hDp ⟨l, rfl⟩) (fun i j n hn h1 h2 hj => by rw [hlw i j n hn h1 h2 hj, yset_o (by (first | exact Nat.le_of_ble_eq_true rfl | exact (fun h => absurd h.1 (by decide)) | omega)), yset_o (by (first | exact Nat.le_of_ble_eq_true rfl | exact (fun h => absurd h.1 (by decide)) | omega))]), fun z => absurd ⟨l, rfl⟩ z⟩))
    · rw [hr, yset_d (by decide), yset_d (by decide)]
      exact hk ⟨l, rfl⟩
    · rw [h33, h34, yset_d (by decide), yset_s, yset_s]
      obtain ⟨_, _, _, _, e, b2, _⟩ := hT
      exact Prod.ext hf b2.2
/-- the LINES -/
theorem rt117 (hE : yEok E) (hd : 686 ≤ d) {b : yMem} : ∀ (f : Nat) (X : sY) (D : dDc) (k : Int) (s : yMem), ySz X < f → PI s → lwW b s → rTk ch n s X → (yOk X → rDc s D ∧ w32 (s 95 25) = k ∧ 0 ≤ k ∧ k + (ySz X : Int) ≤ 802) → (∀ r (m : yMem), w32 r = tAn (pTx f X D k).1 (pTx f X D k).2.2 → (w32 (m 95 33), w32 (m 95 34)) = tFk (pTx f X D k).1 → ((yOk (pTx f X D k).1 → rDl m (pTx f X D k).2.1) ∧ (¬ yOk (pTx f X D k).1 → lwW b m)) → Q (some (0, r)) m) → zG E (d + 1) xm_242 117 [some (1, 95), some (0, x), r2] [] s Q := by
  intro f
  induction f with
  | zero => intro X D k s h; exact absurd h (Nat.not_lt_zero _)
  | succ f ih =>
    intro X D k s hf hP hLw hT hD hQ
    refine zgo_ok (n := 40) hE xmo_242 (cs := zc_242) ?_
    by_cases h0 : yKd X = 0
    · rw [pTx_e h0] at hQ
      have f0 := rt139 (d := d) (x := x) (r2 := r2) hE hP.1 hT (fun z => (hD z).1.1) (fun z => (hD z).2.1) (fun r m a1 a2 a3 => hQ r m a1 a2 ⟨a3.1, fun z => lwW_tr hLw (a3.2 z)⟩)
      cases X with
      | inl e =>
        have hfl := rTk_f hT
        simp only [ynok_30, ynok_31, w32c_0, w32c_1, w32c_2, w32c_3, w32c_4, w32c_5, w32c_6, w32c_7, w32c_8, w32c_9, w32c_10, w32c_11, w32c_12, w32c_13, w32c_14, w32c_m1, w32c_m2, w32c_118, Int.reduceAdd, Int.reduceSub, Int.reduceMul, yput_s, yput_n, znl_n, znl_0, znl_1, znl_4, ysum_n, ysum_0, ysum_1, ysum_4, true_and, and_true, Nat.reduceAdd, Nat.reduceLeDiff, true_implies, eq_self, true_or, or_true, or_false, false_or, not_true_eq_false, not_false_eq_true, false_implies, implies_true, yset_s, yset_o, yset_d, ne_eq, Nat.reduceEqDiff, Int.reduceToNat, Int.reduceEq, Int.reduceLE, Int.reduceLT, Classical.not_not, Nat.reduceLT, ↓zvk_s, ↓zvk_n, ↓s_242_0, ↓s_242_1, ↓s_242_2, ↓s_242_5, ↓s_242_6, ↓s_242_9, ↓s_242_10, ↓s_242_11, ↓s_242_14, ↓s_242_17, ↓s_242_19, ↓s_242_20, ↓s_242_21, ↓s_242_22, ↓s_242_25, ↓s_242_26, ↓s_242_27, ↓s_242_30, ↓s_242_31, ↓s_242_32, ↓s_242_35, ↓s_242_36, ↓s_242_37, ↓s_242_40, ↓s_242_41, ↓s_242_42, ↓s_242_45, ↓s_242_46n, ↓s_242_46i, ↓s_242_46p, ↓g_242_47, ↓k_242_47, ↓s_242_48, ↓s_242_50, ↓s_242_53, ↓s_242_54, ↓s_242_55, ↓s_242_56, ↓s_242_59n, ↓s_242_59i, ↓s_242_59p, ↓s_242_62, ↓s_242_65, ↓s_242_66n, ↓s_242_66i, ↓s_242_66p, ↓g_242_67, ↓k_242_67, ↓s_242_68, ↓s_242_70, ↓s_242_73, ↓s_242_74, ↓s_242_77, ↓s_242_78, ↓s_242_79, ↓s_242_80, ↓s_242_81, ↓s_242_84, ↓s_242_85, ↓s_242_86, ↓s_242_87n, ↓s_242_87i, ↓s_242_87p, ↓s_242_90, ↓g_242_93, ↓k_242_93, ↓s_242_94, ↓s_242_95, ↓s_242_98, ↓s_242_99, ↓s_242_100, ↓s_242_103, ↓s_242_104, ↓s_242_105, ↓s_242_108, ↓s_242_109, ↓s_242_110, ↓s_242_113, ↓s_242_114, ↓g_242_117, ↓k_242_117, ↓s_242_118, ↓s_242_121, ↓s_242_124, ↓s_242_125, ↓s_242_128, ↓s_242_129, ↓s_242_132, ↓s_242_133, ↓s_242_136, ↓g_242_139, ↓k_242_139, ↓s_242_140, ↓s_242_141, ↓s_242_144, ↓s_242_147, ↓s_242_148, ↓s_242_149, ↓s_242_152, ↓s_242_155, ↓s_242_156, ↓s_242_159, ↓s_242_162, ↓s_242_163, ↓g_242_164, ↓k_242_164, ↓s_242_165, ↓s_242_168, ↓s_242_171, ↓s_242_172, ↓s_242_175, ↓s_242_178, ↓s_242_179, ↓s_242_182, ↓s_242_185, ↓s_242_186, ↓s_242_189, ↓s_242_192, ↓s_242_193, ↓s_242_196, ↓s_242_199, ↓s_242_200, ↓s_242_203, ↓s_242_206, ↓s_242_207, ↓s_242_210, ↓s_242_213, ↓s_242_214n, ↓s_242_214i, ↓s_242_214p, ↓g_242_215, ↓k_242_215, ↓s_242_216, ↓s_242_218, ↓s_242_221, ↓s_242_222, ↓s_242_225, ↓s_242_226, ↓s_242_227, ↓s_242_230, ↓s_242_232, ↓s_242_233, ↓s_242_234, ↓s_242_235, ↓s_242_236n, ↓s_242_236i, ↓s_242_236p, ↓s_242_239, ↓g_242_242, ↓k_242_242, ↓s_242_243, ↓s_242_246, ↓s_242_249, ↓s_242_250, ↓s_242_253, ↓s_242_256, ↓s_242_257, ↓s_242_260, ↓s_242_263, ↓s_242_264, ↓s_242_267, ↓s_242_270, ↓s_242_271, ↓s_242_274, ↓s_242_277, ↓s_242_278, ↓s_242_281, ↓s_242_284, ↓s_242_285, ↓s_242_288, ↓s_242_291, ↓s_242_292, ↓s_242_295, ↓s_242_298, ↓s_242_299, ↓s_242_302, ↓s_242_305, ↓s_242_306, ↓s_242_309, ↓s_242_312, ↓s_242_313, ↓s_242_316, ↓s_242_319, ↓s_242_320, ↓s_242_323, ↓s_242_326, ↓s_242_327, ↓s_242_330, ↓g_242_333, ↓k_242_333, ↓s_242_334, ↓s_242_335, ↓s_242_338, ↓s_242_339, ↓s_242_340, ↓s_242_343, ↓s_242_344, ↓s_242_345, ↓s_242_348, ↓s_242_349, ↓s_242_352, ↓s_242_353, ↓s_242_356, zio_95, zar_97, zia_97, zln_97, zit_97, zar_98, zia_98, zln_98, zit_98, zar_99, zia_99, zln_99, zit_99, zar_100, zia_100, zln_100, zit_100, zar_101, zia_101, zln_101, zit_101, zar_102, zia_102, zln_102, zit_102, zar_103, zia_103, zln_103, zit_103, zar_104, zia_104, zln_104, zit_104, zar_105, zia_105, zln_105, zit_105, zar_106, zia_106, zln_106, zit_106, zar_107, zia_107, zln_107, zit_107, zar_108, zia_108, zln_108, zit_108, zar_109, zia_109, zln_109, zit_109, zar_110, zia_110, zln_110, zit_110, zar_111, zia_111, zln_111, zit_111, zar_112, zia_112, zln_112, zit_112, zar_113, zia_113, zln_113, zit_113, zar_114, zia_114, zln_114, zit_114, zar_115, zia_115, zln_115, zit_115, zar_116, zia_116, zln_116, zit_116, zar_117, zia_117, zln_117, zit_117, hfl]
        exact f0
      | inr l =>
        have hfl := rTk_0 hT
        have q2 : w32 (s 95 29) = 4 := by
          have hR := rTk_rk hT
          have h0 : (sHd l).1 = 0 := h0
          unfold sRk at hR
          (first | exact Nat.le_of_ble_eq_true rfl | exact (fun h => absurd h.1 (by decide)) | omega)
        simp only [ynok_30, ynok_31, w32c_0, w32c_1, w32c_2, w32c_3, w32c_4, w32c_5, w32c_6, w32c_7, w32c_8, w32c_9, w32c_10, w32c_11, w32c_12, w32c_13, w32c_14, w32c_m1, w32c_m2, w32c_118, Int.reduceAdd, Int.reduceSub, Int.reduceMul, yput_s, yput_n, znl_n, znl_0, znl_1, znl_4, ysum_n, ysum_0, ysum_1, ysum_4, true_and, and_true, Nat.reduceAdd, Nat.reduceLeDiff, true_implies, eq_self, true_or, or_true, or_false, false_or, not_true_eq_false, not_false_eq_true, false_implies, implies_true, yset_s, yset_o, yset_d, ne_eq, Nat.reduceEqDiff, Int.reduceToNat, Int.reduceEq, Int.reduceLE, Int.reduceLT, Classical.not_not, Nat.reduceLT, ↓zvk_s, ↓zvk_n, ↓s_242_0, ↓s_242_1, ↓s_242_2, ↓s_242_5, ↓s_242_6, ↓s_242_9, ↓s_242_10, ↓s_242_11, ↓s_242_14, ↓s_242_17, ↓s_242_19, ↓s_242_20, ↓s_242_21, ↓s_242_22, ↓s_242_25, ↓s_242_26, ↓s_242_27, ↓s_242_30, ↓s_242_31, ↓s_242_32, ↓s_242_35, ↓s_242_36, ↓s_242_37, ↓s_242_40, ↓s_242_41, ↓s_242_42, ↓s_242_45, ↓s_242_46n, ↓s_242_46i, ↓s_242_46p, ↓g_242_47, ↓k_242_47, ↓s_242_48, ↓s_242_50, ↓s_242_53, ↓s_242_54, ↓s_242_55, ↓s_242_56, ↓s_242_59n, ↓s_242_59i, ↓s_242_59p, ↓s_242_62, ↓s_242_65, ↓s_242_66n, ↓s_242_66i, ↓s_242_66p, ↓g_242_67, ↓k_242_67, ↓s_242_68, ↓s_242_70, ↓s_242_73, ↓s_242_74, ↓s_242_77, ↓s_242_78, ↓s_242_79, ↓s_242_80, ↓s_242_81, ↓s_242_84, ↓s_242_85, ↓s_242_86, ↓s_242_87n, ↓s_242_87i, ↓s_242_87p, ↓s_242_90, ↓g_242_93, ↓k_242_93, ↓s_242_94, ↓s_242_95, ↓s_242_98, ↓s_242_99, ↓s_242_100, ↓s_242_103, ↓s_242_104, ↓s_242_105, ↓s_242_108, ↓s_242_109, ↓s_242_110, ↓s_242_113, ↓s_242_114, ↓g_242_117, ↓k_242_117, ↓s_242_118, ↓s_242_121, ↓s_242_124, ↓s_242_125, ↓s_242_128, ↓s_242_129, ↓s_242_132, ↓s_242_133, ↓s_242_136, ↓g_242_139, ↓k_242_139, ↓s_242_140, ↓s_242_141, ↓s_242_144, ↓s_242_147, ↓s_242_148, ↓s_242_149, ↓s_242_152, ↓s_242_155, ↓s_242_156, ↓s_242_159, ↓s_242_162, ↓s_242_163, ↓g_242_164, ↓k_242_164, ↓s_242_165, ↓s_242_168, ↓s_242_171, ↓s_242_172, ↓s_242_175, ↓s_242_178, ↓s_242_179, ↓s_242_182, ↓s_242_185, ↓s_242_186, ↓s_242_189, ↓s_242_192, ↓s_242_193, ↓s_242_196, ↓s_242_199, ↓s_242_200, ↓s_242_203, ↓s_242_206, ↓s_242_207, ↓s_242_210, ↓s_242_213, ↓s_242_214n, ↓s_242_214i, ↓s_242_214p, ↓g_242_215, ↓k_242_215, ↓s_242_216, ↓s_242_218, ↓s_242_221, ↓s_242_222, ↓s_242_225, ↓s_242_226, ↓s_242_227, ↓s_242_230, ↓s_242_232, ↓s_242_233, ↓s_242_234, ↓s_242_235, ↓s_242_236n, ↓s_242_236i, ↓s_242_236p, ↓s_242_239, ↓g_242_242, ↓k_242_242, ↓s_242_243, ↓s_242_246, ↓s_242_249, ↓s_242_250, ↓s_242_253, ↓s_242_256, ↓s_242_257, ↓s_242_260, ↓s_242_263, ↓s_242_264, ↓s_242_267, ↓s_242_270, ↓s_242_271, ↓s_242_274, ↓s_242_277, ↓s_242_278, ↓s_242_281, ↓s_242_284, ↓s_242_285, ↓s_242_288, ↓s_242_291, ↓s_242_292, ↓s_242_295, ↓s_242_298, ↓s_242_299, ↓s_242_302, ↓s_242_305, ↓s_242_306, ↓s_242_309, ↓s_242_312, ↓s_242_313, ↓s_242_316, ↓s_242_319, ↓s_242_320, ↓s_242_323, ↓s_242_326, ↓s_242_327, ↓s_242_330, ↓g_242_333, ↓k_242_333, ↓s_242_334, ↓s_242_335, ↓s_242_338, ↓s_242_339, ↓s_242_340, ↓s_242_343, ↓s_242_344, ↓s_242_345, ↓s_242_348, ↓s_242_349, ↓s_242_352, ↓s_242_353, ↓s_242_356, zio_95, zar_97, zia_97, zln_97, zit_97, zar_98, zia_98, zln_98, zit_98, zar_99, zia_99, zln_99, zit_99, zar_100, zia_100, zln_100, zit_100, zar_101, zia_101, zln_101, zit_101, zar_102, zia_102, zln_102, zit_102, zar_103, zia_103, zln_103, zit_103, zar_104, zia_104, zln_104, zit_104, zar_105, zia_105, zln_105, zit_105, zar_106, zia_106, zln_106, zit_106, zar_107, zia_107, zln_107, zit_107, zar_108, zia_108, zln_108, zit_108, zar_109, zia_109, zln_109, zit_109, zar_110, zia_110, zln_110, zit_110, zar_111, zia_111, zln_111, zit_111, zar_112, zia_112, zln_112, zit_112, zar_113, zia_113, zln_113, zit_113, zar_114, zia_114, zln_114, zit_114, zar_115, zia_115, zln_115, zit_115, zar_116, zia_116, zln_116, zit_116, zar_117, zia_117, zln_117, zit_117, hfl, q2]
        exact f0
    · obtain ⟨l, rfl⟩ := yOk_kd h0
      obtain ⟨hD1, hD2, hD3, hD4⟩ := hD ⟨l, rfl⟩
      have hfl := rTk_0 hT
      have q2 : ¬ w32 (s 95 29) = 4 := by
        have hR := rTk_rk hT
        have h0 : ¬ (sHd l).1 = 0 := h0
        unfold sRk at hR
        (first | exact Nat.le_of_ble_eq_true rfl | exact (fun h => absurd h.1 (by decide)) | omega)
      have hsz := ySz_1 h0
      rw [pTx_s h0] at hQ
      simp only [ynok_30, ynok_31, w32c_0, w32c_1, w32c_2, w32c_3, w32c_4, w32c_5, w32c_6, w32c_7, w32c_8, w32c_9, w32c_10, w32c_11, w32c_12, w32c_13, w32c_14, w32c_m1, w32c_m2, w32c_118, Int.reduceAdd, Int.reduceSub, Int.reduceMul, yput_s, yput_n, znl_n, znl_0, znl_1, znl_4, ysum_n, ysum_0, ysum_1, ysum_4, true_and, and_true, Nat.reduceAdd, Nat.reduceLeDiff, true_implies, eq_self, true_or, or_true, or_false, false_or, not_true_eq_false, not_false_eq_true, false_implies, implies_true, yset_s, yset_o, yset_d, ne_eq, Nat.reduceEqDiff, Int.reduceToNat, Int.reduceEq, Int.reduceLE, Int.reduceLT, Classical.not_not, Nat.reduceLT, ↓zvk_s, ↓zvk_n, ↓s_242_0, ↓s_242_1, ↓s_242_2, ↓s_242_5, ↓s_242_6, ↓s_242_9, ↓s_242_10, ↓s_242_11, ↓s_242_14, ↓s_242_17, ↓s_242_19, ↓s_242_20, ↓s_242_21, ↓s_242_22, ↓s_242_25, ↓s_242_26, ↓s_242_27, ↓s_242_30, ↓s_242_31, ↓s_242_32, ↓s_242_35, ↓s_242_36, ↓s_242_37, ↓s_242_40, ↓s_242_41, ↓s_242_42, ↓s_242_45, ↓s_242_46n, ↓s_242_46i, ↓s_242_46p, ↓g_242_47, ↓k_242_47, ↓s_242_48, ↓s_242_50, ↓s_242_53, ↓s_242_54, ↓s_242_55, ↓s_242_56, ↓s_242_59n, ↓s_242_59i, ↓s_242_59p, ↓s_242_62, ↓s_242_65, ↓s_242_66n, ↓s_242_66i, ↓s_242_66p, ↓g_242_67, ↓k_242_67, ↓s_242_68, ↓s_242_70, ↓s_242_73, ↓s_242_74, ↓s_242_77, ↓s_242_78, ↓s_242_79, ↓s_242_80, ↓s_242_81, ↓s_242_84, ↓s_242_85, ↓s_242_86, ↓s_242_87n, ↓s_242_87i, ↓s_242_87p, ↓s_242_90, ↓g_242_93, ↓k_242_93, ↓s_242_94, ↓s_242_95, ↓s_242_98, ↓s_242_99, ↓s_242_100, ↓s_242_103, ↓s_242_104, ↓s_242_105, ↓s_242_108, ↓s_242_109, ↓s_242_110, ↓s_242_113, ↓s_242_114, ↓g_242_117, ↓k_242_117, ↓s_242_118, ↓s_242_121, ↓s_242_124, ↓s_242_125, ↓s_242_128, ↓s_242_129, ↓s_242_132, ↓s_242_133, ↓s_242_136, ↓g_242_139, ↓k_242_139, ↓s_242_140, ↓s_242_141, ↓s_242_144, ↓s_242_147, ↓s_242_148, ↓s_242_149, ↓s_242_152, ↓s_242_155, ↓s_242_156, ↓s_242_159, ↓s_242_162, ↓s_242_163, ↓g_242_164, ↓k_242_164, ↓s_242_165, ↓s_242_168, ↓s_242_171, ↓s_242_172, ↓s_242_175, ↓s_242_178, ↓s_242_179, ↓s_242_182, ↓s_242_185, ↓s_242_186, ↓s_242_189, ↓s_242_192, ↓s_242_193, ↓s_242_196, ↓s_242_199, ↓s_242_200, ↓s_242_203, ↓s_242_206, ↓s_242_207, ↓s_242_210, ↓s_242_213, ↓s_242_214n, ↓s_242_214i, ↓s_242_214p, ↓g_242_215, ↓k_242_215, ↓s_242_216, ↓s_242_218, ↓s_242_221, ↓s_242_222, ↓s_242_225, ↓s_242_226, ↓s_242_227, ↓s_242_230, ↓s_242_232, ↓s_242_233, ↓s_242_234, ↓s_242_235, ↓s_242_236n, ↓s_242_236i, ↓s_242_236p, ↓s_242_239, ↓g_242_242, ↓k_242_242, ↓s_242_243, ↓s_242_246, ↓s_242_249, ↓s_242_250, ↓s_242_253, ↓s_242_256, ↓s_242_257, ↓s_242_260, ↓s_242_263, ↓s_242_264, ↓s_242_267, ↓s_242_270, ↓s_242_271, ↓s_242_274, ↓s_242_277, ↓s_242_278, ↓s_242_281, ↓s_242_284, ↓s_242_285, ↓s_242_288, ↓s_242_291, ↓s_242_292, ↓s_242_295, ↓s_242_298, ↓s_242_299, ↓s_242_302, ↓s_242_305, ↓s_242_306, ↓s_242_309, ↓s_242_312, ↓s_242_313, ↓s_242_316, ↓s_242_319, ↓s_242_320, ↓s_242_323, ↓s_242_326, ↓s_242_327, ↓s_242_330, ↓g_242_333, ↓k_242_333, ↓s_242_334, ↓s_242_335, ↓s_242_338, ↓s_242_339, ↓s_242_340, ↓s_242_343, ↓s_242_344, ↓s_242_345, ↓s_242_348, ↓s_242_349, ↓s_242_352, ↓s_242_353, ↓s_242_356, zio_95, zar_97, zia_97, zln_97, zit_97, zar_98, zia_98, zln_98, zit_98, zar_99, zia_99, zln_99, zit_99, zar_100, zia_100, zln_100, zit_100, zar_101, zia_101, zln_101, zit_101, zar_102, zia_102, zln_102, zit_102, zar_103, zia_103, zln_103, zit_103, zar_104, zia_104, zln_104, zit_104, zar_105, zia_105, zln_105, zit_105, zar_106, zia_106, zln_106, zit_106, zar_107, zia_107, zln_107, zit_107, zar_108, zia_108, zln_108, zit_108, zar_109, zia_109, zln_109, zit_109, zar_110, zia_110, zln_110, zit_110, zar_111, zia_111, zln_111, zit_111, zar_112, zia_112, zln_112, zit_112, zar_113, zia_113, zln_113, zit_113, zar_114, zia_114, zln_114, zit_114, zar_115, zia_115, zln_115, zit_115, zar_116, zia_116, zln_116, zit_116, zar_117, zia_117, zln_117, zit_117, hfl, q2]
      have C1 : yCon E (d + 1) xm_206 [(1, 95)] s (fun r m => r = none ∧ PI m ∧ (∀ j, m 96 j = s 96 j) ∧ lwW s m) := c_line hE (by (first | exact Nat.le_of_ble_eq_true rfl | exact (fun h => absurd h.1 (by decide)) | omega)) hP hfl (fun m hL _ => ⟨rfl, hL.1, fun j => hL.2.1 96 j rfl, fun i j n hn h1 h2 hj => by rw [hL.2.1 i j (lnA_lo (by (first | exact Nat.le_of_ble_eq_true rfl | exact (fun h => absurd h.1 (by decide)) | omega)) (Or.inr (Or.inr (by rw [hn]; exact hj))))]⟩)
      have C2 : yCon E (d + 1) xm_206 [(1, 95)] s (fun r m => r = none ∧ rlR s m ∧ rTk ch n m (pEnd (pLine (.inr l) D).1) ∧ (yOk (pEnd (pLine (.inr l) D).1) → rDc m (pLine (.inr l) D).2 ∧ w32 (m 95 25) = w32 (s 95 25) + 1)) := rf_line hE (by (first | exact Nat.le_of_ble_eq_true rfl | exact (fun h => absurd h.1 (by decide)) | omega)) hT hD1 (by rw [hD2]; (first | exact Nat.le_of_ble_eq_true rfl | exact (fun h => absurd h.1 (by decide)) | omega)) (fun m g1 g2 g3 => ⟨rfl, g1, g2, g3⟩)
      refine yCon_mono (yCon_and C1 C2) (fun r m hm => ?_)
      obtain ⟨⟨rfl, P1, h96, hw1⟩, r', m2, ⟨_, g1, g2, g3⟩, al, _⟩ := hm
      refine zgk_n hE xmo_242 40 zc_242 ?_
      simp only [ynok_30, ynok_31, w32c_0, w32c_1, w32c_2, w32c_3, w32c_4, w32c_5, w32c_6, w32c_7, w32c_8, w32c_9, w32c_10, w32c_11, w32c_12, w32c_13, w32c_14, w32c_m1, w32c_m2, w32c_118, Int.reduceAdd, Int.reduceSub, Int.reduceMul, yput_s, yput_n, znl_n, znl_0, znl_1, znl_4, ysum_n, ysum_0, ysum_1, ysum_4, true_and, and_true, Nat.reduceAdd, Nat.reduceLeDiff, true_implies, eq_self, true_or, or_true, or_false, false_or, not_true_eq_false, not_false_eq_true, false_implies, implies_true, yset_s, yset_o, yset_d, ne_eq, Nat.reduceEqDiff, Int.reduceToNat, Int.reduceEq, Int.reduceLE, Int.reduceLT, Classical.not_not, Nat.reduceLT, ↓zvk_s, ↓zvk_n, ↓s_242_0, ↓s_242_1, ↓s_242_2, ↓s_242_5, ↓s_242_6, ↓s_242_9, ↓s_242_10, ↓s_242_11, ↓s_242_14, ↓s_242_17, ↓s_242_19, ↓s_242_20, ↓s_242_21, ↓s_242_22, ↓s_242_25, ↓s_242_26, ↓s_242_27, ↓s_242_30, ↓s_242_31, ↓s_242_32, ↓s_242_35, ↓s_242_36, ↓s_242_37, ↓s_242_40, ↓s_242_41, ↓s_242_42, ↓s_242_45, ↓s_242_46n, ↓s_242_46i, ↓s_242_46p, ↓g_242_47, ↓k_242_47, ↓s_242_48, ↓s_242_50, ↓s_242_53, ↓s_242_54, ↓s_242_55, ↓s_242_56, ↓s_242_59n, ↓s_242_59i, ↓s_242_59p, ↓s_242_62, ↓s_242_65, ↓s_242_66n, ↓s_242_66i, ↓s_242_66p, ↓g_242_67, ↓k_242_67, ↓s_242_68, ↓s_242_70, ↓s_242_73, ↓s_242_74, ↓s_242_77, ↓s_242_78, ↓s_242_79, ↓s_242_80, ↓s_242_81, ↓s_242_84, ↓s_242_85, ↓s_242_86, ↓s_242_87n, ↓s_242_87i, ↓s_242_87p, ↓s_242_90, ↓g_242_93, ↓k_242_93, ↓s_242_94, ↓s_242_95, ↓s_242_98, ↓s_242_99, ↓s_242_100, ↓s_242_103, ↓s_242_104, ↓s_242_105, ↓s_242_108, ↓s_242_109, ↓s_242_110, ↓s_242_113, ↓s_242_114, ↓g_242_117, ↓k_242_117, ↓s_242_118, ↓s_242_121, ↓s_242_124, ↓s_242_125, ↓s_242_128, ↓s_242_129, ↓s_242_132, ↓s_242_133, ↓s_242_136, ↓g_242_139, ↓k_242_139, ↓s_242_140, ↓s_242_141, ↓s_242_144, ↓s_242_147, ↓s_242_148, ↓s_242_149, ↓s_242_152, ↓s_242_155, ↓s_242_156, ↓s_242_159, ↓s_242_162, ↓s_242_163, ↓g_242_164, ↓k_242_164, ↓s_242_165, ↓s_242_168, ↓s_242_171, ↓s_242_172, ↓s_242_175, ↓s_242_178, ↓s_242_179, ↓s_242_182, ↓s_242_185, ↓s_242_186, ↓s_242_189, ↓s_242_192, ↓s_242_193, ↓s_242_196, ↓s_242_199, ↓s_242_200, ↓s_242_203, ↓s_242_206, ↓s_242_207, ↓s_242_210, ↓s_242_213, ↓s_242_214n, ↓s_242_214i, ↓s_242_214p, ↓g_242_215, ↓k_242_215, ↓s_242_216, ↓s_242_218, ↓s_242_221, ↓s_242_222, ↓s_242_225, ↓s_242_226, ↓s_242_227, ↓s_242_230, ↓s_242_232, ↓s_242_233, ↓s_242_234, ↓s_242_235, ↓s_242_236n, ↓s_242_236i, ↓s_242_236p, ↓s_242_239, ↓g_242_242, ↓k_242_242, ↓s_242_243, ↓s_242_246, ↓s_242_249, ↓s_242_250, ↓s_242_253, ↓s_242_256, ↓s_242_257, ↓s_242_260, ↓s_242_263, ↓s_242_264, ↓s_242_267, ↓s_242_270, ↓s_242_271, ↓s_242_274, ↓s_242_277, ↓s_242_278, ↓s_242_281, ↓s_242_284, ↓s_242_285, ↓s_242_288, ↓s_242_291, ↓s_242_292, ↓s_242_295, ↓s_242_298, ↓s_242_299, ↓s_242_302, ↓s_242_305, ↓s_242_306, ↓s_242_309, ↓s_242_312, ↓s_242_313, ↓s_242_316, ↓s_242_319, ↓s_242_320, ↓s_242_323, ↓s_242_326, ↓s_242_327, ↓s_242_330, ↓g_242_333, ↓k_242_333, ↓s_242_334, ↓s_242_335, ↓s_242_338, ↓s_242_339, ↓s_242_340, ↓s_242_343, ↓s_242_344, ↓s_242_345, ↓s_242_348, ↓s_242_349, ↓s_242_352, ↓s_242_353, ↓s_242_356, zio_95, zar_97, zia_97, zln_97, zit_97, zar_98, zia_98, zln_98, zit_98, zar_99, zia_99, zln_99, zit_99, zar_100, zia_100, zln_100, zit_100, zar_101, zia_101, zln_101, zit_101, zar_102, zia_102, zln_102, zit_102, zar_103, zia_103, zln_103, zit_103, zar_104, zia_104, zln_104, zit_104, zar_105, zia_105, zln_105, zit_105, zar_106, zia_106, zln_106, zit_106, zar_107, zia_107, zln_107, zit_107, zar_108, zia_108, zln_108, zit_108, zar_109, zia_109, zln_109, zit_109, zar_110, zia_110, zln_110, zit_110, zar_111, zia_111, zln_111, zit_111, zar_112, zia_112, zln_112, zit_112, zar_113, zia_113, zln_113, zit_113, zar_114, zia_114, zln_114, zit_114, zar_115, zia_115, zln_115, zit_115, zar_116, zia_116, zln_116, zit_116, zar_117, zia_117, zln_117, zit_117]
      have T1 : rTk ch n m (pEnd (pLine (.inr l) D).1) := rTk_al al (fun j => by rw [h96, g1 96 j (by unfold rlF; (first | exact Nat.le_of_ble_eq_true rfl | exact (fun h => absurd h.1 (by decide)) | omega))]) g2
      refine ih _ _ _ m ?_ P1 (lwW_tr hLw hw1) T1 (fun z => ?_) hQ
      · by_cases h4 : yKd (pLine (.inr l) D).1 = 4
        · have e : pEnd (pLine (.inr l) D).1 = yNx (pLine (.inr l) D).1 := if_pos h4
          rw [e]
          have := ySz_nl (x := (pLine (.inr l) D).1) (by (first | exact Nat.le_of_ble_eq_true rfl | exact (fun h => absurd h.1 (by decide)) | omega))
          have := ySz_line (.inr l) D
          (first | exact Nat.le_of_ble_eq_true rfl | exact (fun h => absurd h.1 (by decide)) | omega)
        · have e : pEnd (pLine (.inr l) D).1 = yFl 1 (pLine (.inr l) D).1 := if_neg h4
          rw [e]
          obtain ⟨e2, he2⟩ := yFl_inl 1 (pLine (.inr l) D).1
          rw [he2]
          show 0 < f
          (first | exact Nat.le_of_ble_eq_true rfl | exact (fun h => absurd h.1 (by decide)) | omega)
      · obtain ⟨k1, k2⟩ := g3 z
        obtain ⟨z4, _⟩ := pEnd_ok z
        rw [if_pos z4]
        have e : pEnd (pLine (.inr l) D).1 = yNx (pLine (.inr l) D).1 := if_pos z4
        rw [e]
        have := ySz_nl (x := (pLine (.inr l) D).1) (by (first | exact Nat.le_of_ble_eq_true rfl | exact (fun h => absurd h.1 (by decide)) | omega))
        have := ySz_line (.inr l) D
        refine ⟨rDc_al al k1, by rw [al 95 25 rfl, k2, hD2], by (first | exact Nat.le_of_ble_eq_true rfl | exact (fun h => absurd h.1 (by decide)) | omega), by (first | exact Nat.le_of_ble_eq_true rfl | exact (fun h => absurd h.1 (by decide)) | omega)⟩
/-- all is made ready -/
theorem rt93 (hE : yEok E) (hd : 686 ≤ d) {b m : yMem} (hLw : lwW b m) (hGm : aGok m) (h26 : w32 (m 95 26) = (n : Int)) (hn8 : n ≤ 800) (h27 : w32 (m 95 27) = 0) (h31 : w32 (m 95 31) = 0) (h32 : w32 (m 95 32) = -1) (hch : ∀ j, w32 (m 96 j) = ch j ∧ 0 ≤ ch j ∧ ch j ≤ 255) (hn : ∀ j : Nat, (j : Int) < 7 → w32 (m 97 (7 + j)) = 0) (hs : ∀ j : Nat, 5 ≤ j → (j : Int) < 10 → w32 (m 114 j) = 0 ∧ w32 (m 115 j) = 0) (hQ : ∀ r (m : yMem) l, sTl ch n l 0 → w32 r = tAn (pTx (l.length + 1) (.inr l) dD0 0).1 (pTx (l.length + 1) (.inr l) dD0 0).2.2 → (w32 (m 95 33), w32 (m 95 34)) = tFk (pTx (l.length + 1) (.inr l) dD0 0).1 → ((yOk (pTx (l.length + 1) (.inr l) dD0 0).1 → rDl m (pTx (l.length + 1) (.inr l) dD0 0).2.1) ∧ (¬ yOk (pTx (l.length + 1) (.inr l) dD0 0).1 → lwW b m)) → Q (some (0, r)) m) : zG E (d + 1) xm_242 93 [some (1, 95), some (0, x), r2] [] m Q := by
  refine zgo_ok (n := 40) hE xmo_242 (cs := zc_242) ?_
  simp only [ynok_30, ynok_31, w32c_0, w32c_1, w32c_2, w32c_3, w32c_4, w32c_5, w32c_6, w32c_7, w32c_8, w32c_9, w32c_10, w32c_11, w32c_12, w32c_13, w32c_14, w32c_m1, w32c_m2, w32c_118, Int.reduceAdd, Int.reduceSub, Int.reduceMul, yput_s, yput_n, znl_n, znl_0, znl_1, znl_4, ysum_n, ysum_0, ysum_1, ysum_4, true_and, and_true, Nat.reduceAdd, Nat.reduceLeDiff, true_implies, eq_self, true_or, or_true, or_false, false_or, not_true_eq_false, not_false_eq_true, false_implies, implies_true, yset_s, yset_o, yset_d, ne_eq, Nat.reduceEqDiff, Int.reduceToNat, Int.reduceEq, Int.reduceLE, Int.reduceLT, Classical.not_not, Nat.reduceLT, ↓zvk_s, ↓zvk_n, ↓s_242_0, ↓s_242_1, ↓s_242_2, ↓s_242_5, ↓s_242_6, ↓s_242_9, ↓s_242_10, ↓s_242_11, ↓s_242_14, ↓s_242_17, ↓s_242_19, ↓s_242_20, ↓s_242_21, ↓s_242_22, ↓s_242_25, ↓s_242_26, ↓s_242_27, ↓s_242_30, ↓s_242_31, ↓s_242_32, ↓s_242_35, ↓s_242_36, ↓s_242_37, ↓s_242_40, ↓s_242_41, ↓s_242_42, ↓s_242_45, ↓s_242_46n, ↓s_242_46i, ↓s_242_46p, ↓g_242_47, ↓k_242_47, ↓s_242_48, ↓s_242_50, ↓s_242_53, ↓s_242_54, ↓s_242_55, ↓s_242_56, ↓s_242_59n, ↓s_242_59i, ↓s_242_59p, ↓s_242_62, ↓s_242_65, ↓s_242_66n, ↓s_242_66i, ↓s_242_66p, ↓g_242_67, ↓k_242_67, ↓s_242_68, ↓s_242_70, ↓s_242_73, ↓s_242_74, ↓s_242_77, ↓s_242_78, ↓s_242_79, ↓s_242_80, ↓s_242_81, ↓s_242_84, ↓s_242_85, ↓s_242_86, ↓s_242_87n, ↓s_242_87i, ↓s_242_87p, ↓s_242_90, ↓g_242_93, ↓k_242_93, ↓s_242_94, ↓s_242_95, ↓s_242_98, ↓s_242_99, ↓s_242_100, ↓s_242_103, ↓s_242_104, ↓s_242_105, ↓s_242_108, ↓s_242_109, ↓s_242_110, ↓s_242_113, ↓s_242_114, ↓g_242_117, ↓k_242_117, ↓s_242_118, ↓s_242_121, ↓s_242_124, ↓s_242_125, ↓s_242_128, ↓s_242_129, ↓s_242_132, ↓s_242_133, ↓s_242_136, ↓g_242_139, ↓k_242_139, ↓s_242_140, ↓s_242_141, ↓s_242_144, ↓s_242_147, ↓s_242_148, ↓s_242_149, ↓s_242_152, ↓s_242_155, ↓s_242_156, ↓s_242_159, ↓s_242_162, ↓s_242_163, ↓g_242_164, ↓k_242_164, ↓s_242_165, ↓s_242_168, ↓s_242_171, ↓s_242_172, ↓s_242_175, ↓s_242_178, ↓s_242_179, ↓s_242_182, ↓s_242_185, ↓s_242_186, ↓s_242_189, ↓s_242_192, ↓s_242_193, ↓s_242_196, ↓s_242_199, ↓s_242_200, ↓s_242_203, ↓s_242_206, ↓s_242_207, ↓s_242_210, ↓s_242_213, ↓s_242_214n, ↓s_242_214i, ↓s_242_214p, ↓g_242_215, ↓k_242_215, ↓s_242_216, ↓s_242_218, ↓s_242_221, ↓s_242_222, ↓s_242_225, ↓s_242_226, ↓s_242_227, ↓s_242_230, ↓s_242_232, ↓s_242_233, ↓s_242_234, ↓s_242_235, ↓s_242_236n, ↓s_242_236i, ↓s_242_236p, ↓s_242_239, ↓g_242_242, ↓k_242_242, ↓s_242_243, ↓s_242_246, ↓s_242_249, ↓s_242_250, ↓s_242_253, ↓s_242_256, ↓s_242_257, ↓s_242_260, ↓s_242_263, ↓s_242_264, ↓s_242_267, ↓s_242_270, ↓s_242_271, ↓s_242_274, ↓s_242_277, ↓s_242_278, ↓s_242_281, ↓s_242_284, ↓s_242_285, ↓s_242_288, ↓s_242_291, ↓s_242_292, ↓s_242_295, ↓s_242_298, ↓s_242_299, ↓s_242_302, ↓s_242_305, ↓s_242_306, ↓s_242_309, ↓s_242_312, ↓s_242_313, ↓s_242_316, ↓s_242_319, ↓s_242_320, ↓s_242_323, ↓s_242_326, ↓s_242_327, ↓s_242_330, ↓g_242_333, ↓k_242_333, ↓s_242_334, ↓s_242_335, ↓s_242_338, ↓s_242_339, ↓s_242_340, ↓s_242_343, ↓s_242_344, ↓s_242_345, ↓s_242_348, ↓s_242_349, ↓s_242_352, ↓s_242_353, ↓s_242_356, zio_95, zar_97, zia_97, zln_97, zit_97, zar_98, zia_98, zln_98, zit_98, zar_99, zia_99, zln_99, zit_99, zar_100, zia_100, zln_100, zit_100, zar_101, zia_101, zln_101, zit_101, zar_102, zia_102, zln_102, zit_102, zar_103, zia_103, zln_103, zit_103, zar_104, zia_104, zln_104, zit_104, zar_105, zia_105, zln_105, zit_105, zar_106, zia_106, zln_106, zit_106, zar_107, zia_107, zln_107, zit_107, zar_108, zia_108, zln_108, zit_108, zar_109, zia_109, zln_109, zit_109, zar_110, zia_110, zln_110, zit_110, zar_111, zia_111, zln_111, zit_111, zar_112, zia_112, zln_112, zit_112, zar_113, zia_113, zln_113, zit_113, zar_114, zia_114, zln_114, zit_114, zar_115, zia_115, zln_115, zit_115, zar_116, zia_116, zln_116, zit_116, zar_117, zia_117, zln_117, zit_117]
  have e9 : ∀ i j, i ≠ 95 → yset (yset (yset (yset m 95 24 0) 95 25 0) 95 35 0) 95 36 0 i j = m i j := fun i j h => by rw [yset_o h, yset_o h, yset_o h, yset_o h]
  have e5 : ∀ j, j ≠ 24 → j ≠ 25 → j ≠ 35 → j ≠ 36 → yset (yset (yset (yset m 95 24 0) 95 25 0) 95 35 0) 95 36 0 95 j = m 95 j := fun j h1 h2 h3 h4 => by rw [yset_d h4, yset_d h3, yset_d h2, yset_d h1]
  have hG1 : aGok (yset (yset (yset (yset m 95 24 0) 95 25 0) 95 35 0) 95 36 0) := aGok_set (aGok_set (aGok_set (aGok_set hGm (ag_32 ag_95_24)) (ag_32 ag_95_25)) (by rw [ag_95_35]; decide)) (by rw [ag_95_36]; decide)
  have v24 : yset (yset (yset (yset m 95 24 0) 95 25 0) 95 35 0) 95 36 0 95 24 = 0 := by rw [yset_d (by decide), yset_d (by decide), yset_d (by decide), yset_s]
  have v25 : yset (yset (yset (yset m 95 24 0) 95 25 0) 95 35 0) 95 36 0 95 25 = 0 := by rw [yset_d (by decide), yset_d (by decide), yset_s]
  have v35 : yset (yset (yset (yset m 95 24 0) 95 25 0) 95 35 0) 95 36 0 95 35 = 0 := by rw [yset_d (by decide), yset_s]
  have v36 : yset (yset (yset (yset m 95 24 0) 95 25 0) 95 35 0) 95 36 0 95 36 = 0 := yset_s
  have n13 := hn 6 (by decide)
  have m26 : w32 (yset (yset (yset (yset m 95 24 0) 95 25 0) 95 35 0) 95 36 0 95 26) = (n : Int) := by rw [e5 26 (by decide) (by decide) (by decide) (by decide)]; exact h26
  have m27 : w32 (yset (yset (yset (yset m 95 24 0) 95 25 0) 95 35 0) 95 36 0 95 27) = 0 := by rw [e5 27 (by decide) (by decide) (by decide) (by decide)]; exact h27
  have m31 : w32 (yset (yset (yset (yset m 95 24 0) 95 25 0) 95 35 0) 95 36 0 95 31) = 0 := by rw [e5 31 (by decide) (by decide) (by decide) (by decide)]; exact h31
  have m32 : w32 (yset (yset (yset (yset m 95 24 0) 95 25 0) 95 35 0) 95 36 0 95 32) = -1 := by rw [e5 32 (by decide) (by decide) (by decide) (by decide)]; exact h32
  have lwM : lwW b (yset (yset (yset (yset m 95 24 0) 95 25 0) 95 35 0) 95 36 0) := fun i j n hn h1 h2 hj => by rw [e9 i j (by (first | exact Nat.le_of_ble_eq_true rfl | exact (fun h => absurd h.1 (by decide)) | omega))]; exact hLw i j n hn h1 h2 hj
  have m13 : w32 (yset (yset (yset (yset m 95 24 0) 95 25 0) 95 35 0) 95 36 0 97 13) ≤ w32 (yset (yset (yset (yset m 95 24 0) 95 25 0) 95 35 0) 95 36 0 95 36) := by rw [e9 97 13 (by decide), v36, show w32 (m 97 13) = 0 from n13]; decide
  have hnn : ∀ j : Nat, (j : Int) < 7 → w32 (yset (yset (yset (yset m 95 24 0) 95 25 0) 95 35 0) 95 36 0 97 (7 + j)) = 0 := fun j hj => by rw [e9 97 _ (by decide)]; exact hn j hj
  have hss : ∀ j : Nat, 5 ≤ j → (j : Int) < 10 → w32 (yset (yset (yset (yset m 95 24 0) 95 25 0) 95 35 0) 95 36 0 114 j) = 0 ∧ w32 (yset (yset (yset (yset m 95 24 0) 95 25 0) 95 35 0) 95 36 0 115 j) = 0 := fun j j1 j2 => by rw [e9 114 _ (by decide), e9 115 _ (by decide)]; exact hs j j1 j2
  have hcc : ∀ j, w32 (yset (yset (yset (yset m 95 24 0) 95 25 0) 95 35 0) 95 36 0 96 j) = ch j ∧ 0 ≤ ch j ∧ ch j ≤ 255 := fun j => by rw [e9 96 j (by decide)]; exact hch j
  revert hG1 v24 v25 v35 v36 m26 m27 m31 m32 lwM m13 hnn hss hcc
  generalize yset (yset (yset (yset m 95 24 0) 95 25 0) 95 35 0) 95 36 0 = M
  intro hG1 v24 v25 v35 v36 m26 m27 m31 m32 lwM m13 hnn hss hcc
  have b8 : ∀ j, 0 ≤ w32 (M 96 j) ∧ w32 (M 96 j) ≤ 255 := fun j => by rw [(hcc j).1]; exact (hcc j).2
  obtain ⟨l, hl, hlen⟩ := sTl_ex ch n n 0 rfl (Nat.zero_le n)
  have C1 : yCon E (d + 1) xm_244 [(1, 95)] M (fun r m => r = none ∧ TkQ M m) := c_token hE (by (first | exact Nat.le_of_ble_eq_true rfl | exact (fun h => absurd h.1 (by decide)) | omega)) (by (first | exact Nat.le_of_ble_eq_true rfl | exact (fun h => absurd h.1 (by decide)) | omega)) (by (first | exact Nat.le_of_ble_eq_true rfl | exact (fun h => absurd h.1 (by decide)) | omega)) (by (first | exact Nat.le_of_ble_eq_true rfl | exact (fun h => absurd h.1 (by decide)) | omega)) b8 (fun m hK => ⟨rfl, hK⟩)
  have C2 : yCon E (d + 1) xm_244 [(1, 95)] M (fun r m => r = none ∧ aFrm tkF M m ∧ rTk ch n m (.inr l)) := by
    refine f_token hE (by (first | exact Nat.le_of_ble_eq_true rfl | exact (fun h => absurd h.1 (by decide)) | omega)) (by (first | exact Nat.le_of_ble_eq_true rfl | exact (fun h => absurd h.1 (by decide)) | omega)) (by (first | exact Nat.le_of_ble_eq_true rfl | exact (fun h => absurd h.1 (by decide)) | omega)) (by (first | exact Nat.le_of_ble_eq_true rfl | exact (fun h => absurd h.1 (by decide)) | omega)) b8 (fun m k p v e F ht h7 h8 h9 => ?_)
    have ec : rsz M = n := by show (w32 (M 95 26)).toNat = n; rw [m26]; exact Int.toNat_natCast _
    have ea : rat M = 0 := by show (w32 (M 95 27)).toNat = 0; rw [m27]; rfl
    have eh : rch M = ch := funext fun j => (hcc j).1
    rw [ec, ea, eh] at ht
    obtain ⟨t1, t2⟩ := sTl_cu hl ht
    exact ⟨rfl, F, by rw [F 95 26 rfl]; exact m26, hn8, fun j => by rw [F 96 j rfl]; exact hcc j, by rw [F 95 31 rfl]; exact m31, e, ⟨h7, by rw [F 95 32 rfl]; exact m32⟩, t2, by rw [t1]; exact h8, by rw [t1]; exact h9⟩
  refine yCon_mono (yCon_and C1 C2) (fun r s hm => ?_)
  obtain ⟨⟨rfl, hK⟩, r', s2, ⟨_, F2, T2⟩, al, _⟩ := hm
  have hP : PI s := TkQ_PI hG1 m13 hK
  have hF := hK.1
  refine zgk_n hE xmo_242 40 zc_242 ?_
  simp only [ynok_30, ynok_31, w32c_0, w32c_1, w32c_2, w32c_3, w32c_4, w32c_5, w32c_6, w32c_7, w32c_8, w32c_9, w32c_10, w32c_11, w32c_12, w32c_13, w32c_14, w32c_m1, w32c_m2, w32c_118, Int.reduceAdd, Int.reduceSub, Int.reduceMul, yput_s, yput_n, znl_n, znl_0, znl_1, znl_4, ysum_n, ysum_0, ysum_1, ysum_4, true_and, and_true, Nat.reduceAdd, Nat.reduceLeDiff, true_implies, eq_self, true_or, or_true, or_false, false_or, not_true_eq_false, not_false_eq_true, false_implies, implies_true, yset_s, yset_o, yset_d, ne_eq, Nat.reduceEqDiff, Int.reduceToNat, Int.reduceEq, Int.reduceLE, Int.reduceLT, Classical.not_not, Nat.reduceLT, ↓zvk_s, ↓zvk_n, ↓s_242_0, ↓s_242_1, ↓s_242_2, ↓s_242_5, ↓s_242_6, ↓s_242_9, ↓s_242_10, ↓s_242_11, ↓s_242_14, ↓s_242_17, ↓s_242_19, ↓s_242_20, ↓s_242_21, ↓s_242_22, ↓s_242_25, ↓s_242_26, ↓s_242_27, ↓s_242_30, ↓s_242_31, ↓s_242_32, ↓s_242_35, ↓s_242_36, ↓s_242_37, ↓s_242_40, ↓s_242_41, ↓s_242_42, ↓s_242_45, ↓s_242_46n, ↓s_242_46i, ↓s_242_46p, ↓g_242_47, ↓k_242_47, ↓s_242_48, ↓s_242_50, ↓s_242_53, ↓s_242_54, ↓s_242_55, ↓s_242_56, ↓s_242_59n, ↓s_242_59i, ↓s_242_59p, ↓s_242_62, ↓s_242_65, ↓s_242_66n, ↓s_242_66i, ↓s_242_66p, ↓g_242_67, ↓k_242_67, ↓s_242_68, ↓s_242_70, ↓s_242_73, ↓s_242_74, ↓s_242_77, ↓s_242_78, ↓s_242_79, ↓s_242_80, ↓s_242_81, ↓s_242_84, ↓s_242_85, ↓s_242_86, ↓s_242_87n, ↓s_242_87i, ↓s_242_87p, ↓s_242_90, ↓g_242_93, ↓k_242_93, ↓s_242_94, ↓s_242_95, ↓s_242_98, ↓s_242_99, ↓s_242_100, ↓s_242_103, ↓s_242_104, ↓s_242_105, ↓s_242_108, ↓s_242_109, ↓s_242_110, ↓s_242_113, ↓s_242_114, ↓g_242_117, ↓k_242_117, ↓s_242_118, ↓s_242_121, ↓s_242_124, ↓s_242_125, ↓s_242_128, ↓s_242_129, ↓s_242_132, ↓s_242_133, ↓s_242_136, ↓g_242_139, ↓k_242_139, ↓s_242_140, ↓s_242_141, ↓s_242_144, ↓s_242_147, ↓s_242_148, ↓s_242_149, ↓s_242_152, ↓s_242_155, ↓s_242_156, ↓s_242_159, ↓s_242_162, ↓s_242_163, ↓g_242_164, ↓k_242_164, ↓s_242_165, ↓s_242_168, ↓s_242_171, ↓s_242_172, ↓s_242_175, ↓s_242_178, ↓s_242_179, ↓s_242_182, ↓s_242_185, ↓s_242_186, ↓s_242_189, ↓s_242_192, ↓s_242_193, ↓s_242_196, ↓s_242_199, ↓s_242_200, ↓s_242_203, ↓s_242_206, ↓s_242_207, ↓s_242_210, ↓s_242_213, ↓s_242_214n, ↓s_242_214i, ↓s_242_214p, ↓g_242_215, ↓k_242_215, ↓s_242_216, ↓s_242_218, ↓s_242_221, ↓s_242_222, ↓s_242_225, ↓s_242_226, ↓s_242_227, ↓s_242_230, ↓s_242_232, ↓s_242_233, ↓s_242_234, ↓s_242_235, ↓s_242_236n, ↓s_242_236i, ↓s_242_236p, ↓s_242_239, ↓g_242_242, ↓k_242_242, ↓s_242_243, ↓s_242_246, ↓s_242_249, ↓s_242_250, ↓s_242_253, ↓s_242_256, ↓s_242_257, ↓s_242_260, ↓s_242_263, ↓s_242_264, ↓s_242_267, ↓s_242_270, ↓s_242_271, ↓s_242_274, ↓s_242_277, ↓s_242_278, ↓s_242_281, ↓s_242_284, ↓s_242_285, ↓s_242_288, ↓s_242_291, ↓s_242_292, ↓s_242_295, ↓s_242_298, ↓s_242_299, ↓s_242_302, ↓s_242_305, ↓s_242_306, ↓s_242_309, ↓s_242_312, ↓s_242_313, ↓s_242_316, ↓s_242_319, ↓s_242_320, ↓s_242_323, ↓s_242_326, ↓s_242_327, ↓s_242_330, ↓g_242_333, ↓k_242_333, ↓s_242_334, ↓s_242_335, ↓s_242_338, ↓s_242_339, ↓s_242_340, ↓s_242_343, ↓s_242_344, ↓s_242_345, ↓s_242_348, ↓s_242_349, ↓s_242_352, ↓s_242_353, ↓s_242_356, zio_95, zar_97, zia_97, zln_97, zit_97, zar_98, zia_98, zln_98, zit_98, zar_99, zia_99, zln_99, zit_99, zar_100, zia_100, zln_100, zit_100, zar_101, zia_101, zln_101, zit_101, zar_102, zia_102, zln_102, zit_102, zar_103, zia_103, zln_103, zit_103, zar_104, zia_104, zln_104, zit_104, zar_105, zia_105, zln_105, zit_105, zar_106, zia_106, zln_106, zit_106, zar_107, zia_107, zln_107, zit_107, zar_108, zia_108, zln_108, zit_108, zar_109, zia_109, zln_109, zit_109, zar_110, zia_110, zln_110, zit_110, zar_111, zia_111, zln_111, zit_111, zar_112, zia_112, zln_112, zit_112, zar_113, zia_113, zln_113, zit_113, zar_114, zia_114, zln_114, zit_114, zar_115, zia_115, zln_115, zit_115, zar_116, zia_116, zln_116, zit_116, zar_117, zia_117, zln_117, zit_117]
  have T1 : rTk ch n s (.inr l) := rTk_al al (fun j => by rw [hF 96 j rfl, F2 96 j rfl]) T2
  refine rt117 (b := b) hE hd (l.length + 1) (.inr l) dD0 0 s (Nat.lt_succ_self _) hP (lwW_tr lwM (fun i j n _ h1 _ _ => by rw [hF i j (amod_sub (w := tkF) (w' := rnF) (by decide) (amod_r5 (by (first | exact Nat.le_of_ble_eq_true rfl | exact (fun h => absurd h.1 (by decide)) | omega))))])) T1 (fun _ => ⟨⟨⟨⟨⟨?_, Nat.zero_le _, fun j hj => absurd hj (Nat.not_lt_zero _)⟩, fun j t ht => (by cases ht)⟩, ⟨⟨?_, Nat.zero_le _, fun j hj => absurd hj (Nat.not_lt_zero _)⟩, fun j t ht => (by cases ht)⟩, ⟨⟨?_, Nat.zero_le _, fun j hj => absurd hj (Nat.not_lt_zero _)⟩, fun j t ht => (by cases ht)⟩, ⟨⟨?_, Nat.zero_le _, fun j hj => absurd hj (Nat.not_lt_zero _)⟩, fun j t ht => (by cases ht)⟩, ⟨?_, ?_⟩, fun j hj => ⟨?_, ?_⟩, ⟨?_, ?_, Nat.le_refl 0, Nat.zero_le _⟩, trivial, ?_⟩, 0, ?_, by decide, rfl, rfl, rfl, rfl⟩, ?_, Int.le_refl 0, ?_⟩) (fun r m hr hf hd => hQ r m l hl hr hf hd)
  · rw [hF 97 _ rfl]; exact hnn 0 (by decide)
  · rw [hF 97 _ rfl]; exact hnn 1 (by decide)
  · rw [hF 97 _ rfl]; exact hnn 2 (by decide)
  · rw [hF 97 _ rfl]; exact hnn 3 (by decide)
  · rw [hF 97 _ rfl]; exact hnn 4 (by decide)
  · rw [hF 97 _ rfl]; exact hnn 5 (by decide)
  · rw [hF 114 _ rfl]; exact (hss (5 + j) (by (first | exact Nat.le_of_ble_eq_true rfl | exact (fun h => absurd h.1 (by decide)) | omega)) (by (first | exact Nat.le_of_ble_eq_true rfl | exact (fun h => absurd h.1 (by decide)) | omega))).1
  · rw [hF 115 _ rfl]; exact (hss (5 + j) (by (first | exact Nat.le_of_ble_eq_true rfl | exact (fun h => absurd h.1 (by decide)) | omega)) (by (first | exact Nat.le_of_ble_eq_true rfl | exact (fun h => absurd h.1 (by decide)) | omega))).2
  · rw [hF 97 _ rfl]; exact hnn 6 (by decide)
  · rw [hF 95 36 rfl, v36]; exact w32c_0
  · rw [hF 95 35 rfl, v35]; exact w32c_0
  · rw [hF 95 24 rfl, v24]; exact w32c_0
  · rw [hF 95 25 rfl, v25]; exact w32c_0
  · show (0 : Int) + ((l.length : Nat) : Int) ≤ 802
    (first | exact Nat.le_of_ble_eq_true rfl | exact (fun h => absurd h.1 (by decide)) | omega)
theorem rt67 (hE : yEok E) (hd : 686 ≤ d) {b : yMem} (hn8 : n ≤ 800) (hQ : ∀ r (m : yMem) l, sTl ch n l 0 → w32 r = tAn (pTx (l.length + 1) (.inr l) dD0 0).1 (pTx (l.length + 1) (.inr l) dD0 0).2.2 → (w32 (m 95 33), w32 (m 95 34)) = tFk (pTx (l.length + 1) (.inr l) dD0 0).1 → ((yOk (pTx (l.length + 1) (.inr l) dD0 0).1 → rDl m (pTx (l.length + 1) (.inr l) dD0 0).2.1) ∧ (¬ yOk (pTx (l.length + 1) (.inr l) dD0 0).1 → lwW b m)) → Q (some (0, r)) m) : ∀ (c : Nat) (k : Int) (m : yMem), (10 - w32 k).toNat = c → 5 ≤ w32 k → w32 k ≤ 10 → lwW b m → aGok m → w32 (m 95 26) = (n : Int) → w32 (m 95 27) = 0 → w32 (m 95 31) = 0 → w32 (m 95 32) = -1 → (∀ j, w32 (m 96 j) = ch j ∧ 0 ≤ ch j ∧ ch j ≤ 255) → (∀ j : Nat, (j : Int) < 7 → w32 (m 97 (7 + j)) = 0) → (∀ j : Nat, 5 ≤ j → (j : Int) < w32 k → w32 (m 114 j) = 0 ∧ w32 (m 115 j) = 0) → zG E (d + 1) xm_242 67 [some (1, 95), some (0, x), some (0, k)] [] m Q := by
  intro c
  induction c with
  | zero =>
    intro k m hc h5 h10 hLw hGm h26 h27 h31 h32 hch hn hs
    refine zgo_ok (n := 40) hE xmo_242 (cs := zc_242) ?_
    simp only [ynok_30, ynok_31, w32c_0, w32c_1, w32c_2, w32c_3, w32c_4, w32c_5, w32c_6, w32c_7, w32c_8, w32c_9, w32c_10, w32c_11, w32c_12, w32c_13, w32c_14, w32c_m1, w32c_m2, w32c_118, Int.reduceAdd, Int.reduceSub, Int.reduceMul, yput_s, yput_n, znl_n, znl_0, znl_1, znl_4, ysum_n, ysum_0, ysum_1, ysum_4, true_and, and_true, Nat.reduceAdd, Nat.reduceLeDiff, true_implies, eq_self, true_or, or_true, or_false, false_or, not_true_eq_false, not_false_eq_true, false_implies, implies_true, yset_s, yset_o, yset_d, ne_eq, Nat.reduceEqDiff, Int.reduceToNat, Int.reduceEq, Int.reduceLE, Int.reduceLT, Classical.not_not, Nat.reduceLT, ↓zvk_s, ↓zvk_n, ↓s_242_0, ↓s_242_1, ↓s_242_2, ↓s_242_5, ↓s_242_6, ↓s_242_9, ↓s_242_10, ↓s_242_11, ↓s_242_14, ↓s_242_17, ↓s_242_19, ↓s_242_20, ↓s_242_21, ↓s_242_22, ↓s_242_25, ↓s_242_26, ↓s_242_27, ↓s_242_30, ↓s_242_31, ↓s_242_32, ↓s_242_35, ↓s_242_36, ↓s_242_37, ↓s_242_40, ↓s_242_41, ↓s_242_42, ↓s_242_45, ↓s_242_46n, ↓s_242_46i, ↓s_242_46p, ↓g_242_47, ↓k_242_47, ↓s_242_48, ↓s_242_50, ↓s_242_53, ↓s_242_54, ↓s_242_55, ↓s_242_56, ↓s_242_59n, ↓s_242_59i, ↓s_242_59p, ↓s_242_62, ↓s_242_65, ↓s_242_66n, ↓s_242_66i, ↓s_242_66p, ↓g_242_67, ↓k_242_67, ↓s_242_68, ↓s_242_70, ↓s_242_73, ↓s_242_74, ↓s_242_77, ↓s_242_78, ↓s_242_79, ↓s_242_80, ↓s_242_81, ↓s_242_84, ↓s_242_85, ↓s_242_86, ↓s_242_87n, ↓s_242_87i, ↓s_242_87p, ↓s_242_90, ↓g_242_93, ↓k_242_93, ↓s_242_94, ↓s_242_95, ↓s_242_98, ↓s_242_99, ↓s_242_100, ↓s_242_103, ↓s_242_104, ↓s_242_105, ↓s_242_108, ↓s_242_109, ↓s_242_110, ↓s_242_113, ↓s_242_114, ↓g_242_117, ↓k_242_117, ↓s_242_118, ↓s_242_121, ↓s_242_124, ↓s_242_125, ↓s_242_128, ↓s_242_129, ↓s_242_132, ↓s_242_133, ↓s_242_136, ↓g_242_139, ↓k_242_139, ↓s_242_140, ↓s_242_141, ↓s_242_144, ↓s_242_147, ↓s_242_148, ↓s_242_149, ↓s_242_152, ↓s_242_155, ↓s_242_156, ↓s_242_159, ↓s_242_162, ↓s_242_163, ↓g_242_164, ↓k_242_164, ↓s_242_165, ↓s_242_168, ↓s_242_171, ↓s_242_172, ↓s_242_175, ↓s_242_178, ↓s_242_179, ↓s_242_182, ↓s_242_185, ↓s_242_186, ↓s_242_189, ↓s_242_192, ↓s_242_193, ↓s_242_196, ↓s_242_199, ↓s_242_200, ↓s_242_203, ↓s_242_206, ↓s_242_207, ↓s_242_210, ↓s_242_213, ↓s_242_214n, ↓s_242_214i, ↓s_242_214p, ↓g_242_215, ↓k_242_215, ↓s_242_216, ↓s_242_218, ↓s_242_221, ↓s_242_222, ↓s_242_225, ↓s_242_226, ↓s_242_227, ↓s_242_230, ↓s_242_232, ↓s_242_233, ↓s_242_234, ↓s_242_235, ↓s_242_236n, ↓s_242_236i, ↓s_242_236p, ↓s_242_239, ↓g_242_242, ↓k_242_242, ↓s_242_243, ↓s_242_246, ↓s_242_249, ↓s_242_250, ↓s_242_253, ↓s_242_256, ↓s_242_257, ↓s_242_260, ↓s_242_263, ↓s_242_264, ↓s_242_267, ↓s_242_270, ↓s_242_271, ↓s_242_274, ↓s_242_277, ↓s_242_278, ↓s_242_281, ↓s_242_284, ↓s_242_285, ↓s_242_288, ↓s_242_291, ↓s_242_292, ↓s_242_295, ↓s_242_298, ↓s_242_299, ↓s_242_302, ↓s_242_305, ↓s_242_306, ↓s_242_309, ↓s_242_312, ↓s_242_313, ↓s_242_316, ↓s_242_319, ↓s_242_320, ↓s_242_323, ↓s_242_326, ↓s_242_327, ↓s_242_330, ↓g_242_333, ↓k_242_333, ↓s_242_334, ↓s_242_335, ↓s_242_338, ↓s_242_339, ↓s_242_340, ↓s_242_343, ↓s_242_344, ↓s_242_345, ↓s_242_348, ↓s_242_349, ↓s_242_352, ↓s_242_353, ↓s_242_356, zio_95, zar_97, zia_97, zln_97, zit_97, zar_98, zia_98, zln_98, zit_98, zar_99, zia_99, zln_99, zit_99, zar_100, zia_100, zln_100, zit_100, zar_101, zia_101, zln_101, zit_101, zar_102, zia_102, zln_102, zit_102, zar_103, zia_103, zln_103, zit_103, zar_104, zia_104, zln_104, zit_104, zar_105, zia_105, zln_105, zit_105, zar_106, zia_106, zln_106, zit_106, zar_107, zia_107, zln_107, zit_107, zar_108, zia_108, zln_108, zit_108, zar_109, zia_109, zln_109, zit_109, zar_110, zia_110, zln_110, zit_110, zar_111, zia_111, zln_111, zit_111, zar_112, zia_112, zln_112, zit_112, zar_113, zia_113, zln_113, zit_113, zar_114, zia_114, zln_114, zit_114, zar_115, zia_115, zln_115, zit_115, zar_116, zia_116, zln_116, zit_116, zar_117, zia_117, zln_117, zit_117]
    exact ⟨fun _ => rt93 hE hd hLw hGm h26 hn8 h27 h31 h32 hch hn (fun j j1 j2 => hs j j1 (by (first | exact Nat.le_of_ble_eq_true rfl | exact (fun h => absurd h.1 (by decide)) | omega))) hQ, fun h => absurd (show 10 ≤ w32 k by (first | exact Nat.le_of_ble_eq_true rfl | exact (fun h => absurd h.1 (by decide)) | omega)) h⟩
  | succ c ih =>
    intro k m hc h5 h10 hLw hGm h26 h27 h31 h32 hch hn hs
    have hk1 : w32 (k + 1) = w32 k + 1 := by rw [w32_ad (by rw [w32c_1]; (first | exact Nat.le_of_ble_eq_true rfl | exact (fun h => absurd h.1 (by decide)) | omega)) (by rw [w32c_1]; (first | exact Nat.le_of_ble_eq_true rfl | exact (fun h => absurd h.1 (by decide)) | omega)), w32c_1]
    refine zgo_ok (n := 40) hE xmo_242 (cs := zc_242) ?_
    simp only [ynok_30, ynok_31, w32c_0, w32c_1, w32c_2, w32c_3, w32c_4, w32c_5, w32c_6, w32c_7, w32c_8, w32c_9, w32c_10, w32c_11, w32c_12, w32c_13, w32c_14, w32c_m1, w32c_m2, w32c_118, Int.reduceAdd, Int.reduceSub, Int.reduceMul, yput_s, yput_n, znl_n, znl_0, znl_1, znl_4, ysum_n, ysum_0, ysum_1, ysum_4, true_and, and_true, Nat.reduceAdd, Nat.reduceLeDiff, true_implies, eq_self, true_or, or_true, or_false, false_or, not_true_eq_false, not_false_eq_true, false_implies, implies_true, yset_s, yset_o, yset_d, ne_eq, Nat.reduceEqDiff, Int.reduceToNat, Int.reduceEq, Int.reduceLE, Int.reduceLT, Classical.not_not, Nat.reduceLT, ↓zvk_s, ↓zvk_n, ↓s_242_0, ↓s_242_1, ↓s_242_2, ↓s_242_5, ↓s_242_6, ↓s_242_9, ↓s_242_10, ↓s_242_11, ↓s_242_14, ↓s_242_17, ↓s_242_19, ↓s_242_20, ↓s_242_21, ↓s_242_22, ↓s_242_25, ↓s_242_26, ↓s_242_27, ↓s_242_30, ↓s_242_31, ↓s_242_32, ↓s_242_35, ↓s_242_36, ↓s_242_37, ↓s_242_40, ↓s_242_41, ↓s_242_42, ↓s_242_45, ↓s_242_46n, ↓s_242_46i, ↓s_242_46p, ↓g_242_47, ↓k_242_47, ↓s_242_48, ↓s_242_50, ↓s_242_53, ↓s_242_54, ↓s_242_55, ↓s_242_56, ↓s_242_59n, ↓s_242_59i, ↓s_242_59p, ↓s_242_62, ↓s_242_65, ↓s_242_66n, ↓s_242_66i, ↓s_242_66p, ↓g_242_67, ↓k_242_67, ↓s_242_68, ↓s_242_70, ↓s_242_73, ↓s_242_74, ↓s_242_77, ↓s_242_78, ↓s_242_79, ↓s_242_80, ↓s_242_81, ↓s_242_84, ↓s_242_85, ↓s_242_86, ↓s_242_87n, ↓s_242_87i, ↓s_242_87p, ↓s_242_90, ↓g_242_93, ↓k_242_93, ↓s_242_94, ↓s_242_95, ↓s_242_98, ↓s_242_99, ↓s_242_100, ↓s_242_103, ↓s_242_104, ↓s_242_105, ↓s_242_108, ↓s_242_109, ↓s_242_110, ↓s_242_113, ↓s_242_114, ↓g_242_117, ↓k_242_117, ↓s_242_118, ↓s_242_121, ↓s_242_124, ↓s_242_125, ↓s_242_128, ↓s_242_129, ↓s_242_132, ↓s_242_133, ↓s_242_136, ↓g_242_139, ↓k_242_139, ↓s_242_140, ↓s_242_141, ↓s_242_144, ↓s_242_147, ↓s_242_148, ↓s_242_149, ↓s_242_152, ↓s_242_155, ↓s_242_156, ↓s_242_159, ↓s_242_162, ↓s_242_163, ↓g_242_164, ↓k_242_164, ↓s_242_165, ↓s_242_168, ↓s_242_171, ↓s_242_172, ↓s_242_175, ↓s_242_178, ↓s_242_179, ↓s_242_182, ↓s_242_185, ↓s_242_186, ↓s_242_189, ↓s_242_192, ↓s_242_193, ↓s_242_196, ↓s_242_199, ↓s_242_200, ↓s_242_203, ↓s_242_206, ↓s_242_207, ↓s_242_210, ↓s_242_213, ↓s_242_214n, ↓s_242_214i, ↓s_242_214p, ↓g_242_215, ↓k_242_215, ↓s_242_216, ↓s_242_218, ↓s_242_221, ↓s_242_222, ↓s_242_225, ↓s_242_226, ↓s_242_227, ↓s_242_230, ↓s_242_232, ↓s_242_233, ↓s_242_234, ↓s_242_235, ↓s_242_236n, ↓s_242_236i, ↓s_242_236p, ↓s_242_239, ↓g_242_242, ↓k_242_242, ↓s_242_243, ↓s_242_246, ↓s_242_249, ↓s_242_250, ↓s_242_253, ↓s_242_256, ↓s_242_257, ↓s_242_260, ↓s_242_263, ↓s_242_264, ↓s_242_267, ↓s_242_270, ↓s_242_271, ↓s_242_274, ↓s_242_277, ↓s_242_278, ↓s_242_281, ↓s_242_284, ↓s_242_285, ↓s_242_288, ↓s_242_291, ↓s_242_292, ↓s_242_295, ↓s_242_298, ↓s_242_299, ↓s_242_302, ↓s_242_305, ↓s_242_306, ↓s_242_309, ↓s_242_312, ↓s_242_313, ↓s_242_316, ↓s_242_319, ↓s_242_320, ↓s_242_323, ↓s_242_326, ↓s_242_327, ↓s_242_330, ↓g_242_333, ↓k_242_333, ↓s_242_334, ↓s_242_335, ↓s_242_338, ↓s_242_339, ↓s_242_340, ↓s_242_343, ↓s_242_344, ↓s_242_345, ↓s_242_348, ↓s_242_349, ↓s_242_352, ↓s_242_353, ↓s_242_356, zio_95, zar_97, zia_97, zln_97, zit_97, zar_98, zia_98, zln_98, zit_98, zar_99, zia_99, zln_99, zit_99, zar_100, zia_100, zln_100, zit_100, zar_101, zia_101, zln_101, zit_101, zar_102, zia_102, zln_102, zit_102, zar_103, zia_103, zln_103, zit_103, zar_104, zia_104, zln_104, zit_104, zar_105, zia_105, zln_105, zit_105, zar_106, zia_106, zln_106, zit_106, zar_107, zia_107, zln_107, zit_107, zar_108, zia_108, zln_108, zit_108, zar_109, zia_109, zln_109, zit_109, zar_110, zia_110, zln_110, zit_110, zar_111, zia_111, zln_111, zit_111, zar_112, zia_112, zln_112, zit_112, zar_113, zia_113, zln_113, zit_113, zar_114, zia_114, zln_114, zit_114, zar_115, zia_115, zln_115, zit_115, zar_116, zia_116, zln_116, zit_116, zar_117, zia_117, zln_117, zit_117]
    have e9 : ∀ i j, i ≠ 114 → i ≠ 115 → yset (yset m 114 (w32 k).toNat 0) 115 (w32 k).toNat 0 i j = m i j := fun i j h1 h2 => by rw [yset_o h2, yset_o h1]
    refine ⟨fun h => absurd h (by (first | exact Nat.le_of_ble_eq_true rfl | exact (fun h => absurd h.1 (by decide)) | omega)), fun _ => ⟨⟨by (first | exact Nat.le_of_ble_eq_true rfl | exact (fun h => absurd h.1 (by decide)) | omega), by (first | exact Nat.le_of_ble_eq_true rfl | exact (fun h => absurd h.1 (by decide)) | omega)⟩, ⟨by (first | exact Nat.le_of_ble_eq_true rfl | exact (fun h => absurd h.1 (by decide)) | omega), by (first | exact Nat.le_of_ble_eq_true rfl | exact (fun h => absurd h.1 (by decide)) | omega)⟩, ih (k + 1) _ (by (first | exact Nat.le_of_ble_eq_true rfl | exact (fun h => absurd h.1 (by decide)) | omega)) (by (first | exact Nat.le_of_ble_eq_true rfl | exact (fun h => absurd h.1 (by decide)) | omega)) (by (first | exact Nat.le_of_ble_eq_true rfl | exact (fun h => absurd h.1 (by decide)) | omega)) (lwW_s (lwW_s hLw (show 5 ≤ _ by (first | exact Nat.le_of_ble_eq_true rfl | exact (fun h => absurd h.1 (by decide)) | omega))) (show 5 ≤ _ by (first | exact Nat.le_of_ble_eq_true rfl | exact (fun h => absurd h.1 (by decide)) | omega))) (aGok_set (aGok_set hGm (by rw [agam_A ae_114]; decide)) (by rw [agam_A ae_115]; decide)) (by rw [e9 95 26 (by decide) (by decide)]; exact h26) (by rw [e9 95 27 (by decide) (by decide)]; exact h27) (by rw [e9 95 31 (by decide) (by decide)]; exact h31) (by rw [e9 95 32 (by decide) (by decide)]; exact h32) (fun j => by rw [e9 96 j (by decide) (by decide)]; exact hch j) (fun j hj => by rw [e9 97 _ (by decide) (by decide)]; exact hn j hj) (fun j j1 j2 => ?_)⟩⟩
    by_cases hj : j = (w32 k).toNat
    · subst hj
      exact ⟨by rw [yset_o (by decide), yset_s]; decide, by rw [yset_s]; decide⟩
    · obtain ⟨z1, z2⟩ := hs j j1 (by (first | exact Nat.le_of_ble_eq_true rfl | exact (fun h => absurd h.1 (by decide)) | omega))
      exact ⟨by rw [yset_o (by decide), yset_d hj]; exact z1, by rw [yset_d hj, yset_o (by decide)]; exact z2⟩
theorem rt47 (hE : yEok E) (hd : 686 ≤ d) {b : yMem} (hn8 : n ≤ 800) (hQ : ∀ r (m : yMem) l, sTl ch n l 0 → w32 r = tAn (pTx (l.length + 1) (.inr l) dD0 0).1 (pTx (l.length + 1) (.inr l) dD0 0).2.2 → (w32 (m 95 33), w32 (m 95 34)) = tFk (pTx (l.length + 1) (.inr l) dD0 0).1 → ((yOk (pTx (l.length + 1) (.inr l) dD0 0).1 → rDl m (pTx (l.length + 1) (.inr l) dD0 0).2.1) ∧ (¬ yOk (pTx (l.length + 1) (.inr l) dD0 0).1 → lwW b m)) → Q (some (0, r)) m) : ∀ (c : Nat) (k : Int) (m : yMem), (7 - w32 k).toNat = c → 0 ≤ w32 k → w32 k ≤ 7 → lwW b m → aGok m → w32 (m 95 26) = (n : Int) → w32 (m 95 27) = 0 → w32 (m 95 31) = 0 → w32 (m 95 32) = -1 → (∀ j, w32 (m 96 j) = ch j ∧ 0 ≤ ch j ∧ ch j ≤ 255) → (∀ j : Nat, (j : Int) < w32 k → w32 (m 97 (7 + j)) = 0) → zG E (d + 1) xm_242 47 [some (1, 95), some (0, x), some (0, k)] [] m Q := by
  intro c
  induction c with
  | zero =>
    intro k m hc h5 h10 hLw hGm h26 h27 h31 h32 hch hn
    refine zgo_ok (n := 40) hE xmo_242 (cs := zc_242) ?_
    simp only [ynok_30, ynok_31, w32c_0, w32c_1, w32c_2, w32c_3, w32c_4, w32c_5, w32c_6, w32c_7, w32c_8, w32c_9, w32c_10, w32c_11, w32c_12, w32c_13, w32c_14, w32c_m1, w32c_m2, w32c_118, Int.reduceAdd, Int.reduceSub, Int.reduceMul, yput_s, yput_n, znl_n, znl_0, znl_1, znl_4, ysum_n, ysum_0, ysum_1, ysum_4, true_and, and_true, Nat.reduceAdd, Nat.reduceLeDiff, true_implies, eq_self, true_or, or_true, or_false, false_or, not_true_eq_false, not_false_eq_true, false_implies, implies_true, yset_s, yset_o, yset_d, ne_eq, Nat.reduceEqDiff, Int.reduceToNat, Int.reduceEq, Int.reduceLE, Int.reduceLT, Classical.not_not, Nat.reduceLT, ↓zvk_s, ↓zvk_n, ↓s_242_0, ↓s_242_1, ↓s_242_2, ↓s_242_5, ↓s_242_6, ↓s_242_9, ↓s_242_10, ↓s_242_11, ↓s_242_14, ↓s_242_17, ↓s_242_19, ↓s_242_20, ↓s_242_21, ↓s_242_22, ↓s_242_25, ↓s_242_26, ↓s_242_27, ↓s_242_30, ↓s_242_31, ↓s_242_32, ↓s_242_35, ↓s_242_36, ↓s_242_37, ↓s_242_40, ↓s_242_41, ↓s_242_42, ↓s_242_45, ↓s_242_46n, ↓s_242_46i, ↓s_242_46p, ↓g_242_47, ↓k_242_47, ↓s_242_48, ↓s_242_50, ↓s_242_53, ↓s_242_54, ↓s_242_55, ↓s_242_56, ↓s_242_59n, ↓s_242_59i, ↓s_242_59p, ↓s_242_62, ↓s_242_65, ↓s_242_66n, ↓s_242_66i, ↓s_242_66p, ↓g_242_67, ↓k_242_67, ↓s_242_68, ↓s_242_70, ↓s_242_73, ↓s_242_74, ↓s_242_77, ↓s_242_78, ↓s_242_79, ↓s_242_80, ↓s_242_81, ↓s_242_84, ↓s_242_85, ↓s_242_86, ↓s_242_87n, ↓s_242_87i, ↓s_242_87p, ↓s_242_90, ↓g_242_93, ↓k_242_93, ↓s_242_94, ↓s_242_95, ↓s_242_98, ↓s_242_99, ↓s_242_100, ↓s_242_103, ↓s_242_104, ↓s_242_105, ↓s_242_108, ↓s_242_109, ↓s_242_110, ↓s_242_113, ↓s_242_114, ↓g_242_117, ↓k_242_117, ↓s_242_118, ↓s_242_121, ↓s_242_124, ↓s_242_125, ↓s_242_128, ↓s_242_129, ↓s_242_132, ↓s_242_133, ↓s_242_136, ↓g_242_139, ↓k_242_139, ↓s_242_140, ↓s_242_141, ↓s_242_144, ↓s_242_147, ↓s_242_148, ↓s_242_149, ↓s_242_152, ↓s_242_155, ↓s_242_156, ↓s_242_159, ↓s_242_162, ↓s_242_163, ↓g_242_164, ↓k_242_164, ↓s_242_165, ↓s_242_168, ↓s_242_171, ↓s_242_172, ↓s_242_175, ↓s_242_178, ↓s_242_179, ↓s_242_182, ↓s_242_185, ↓s_242_186, ↓s_242_189, ↓s_242_192, ↓s_242_193, ↓s_242_196, ↓s_242_199, ↓s_242_200, ↓s_242_203, ↓s_242_206, ↓s_242_207, ↓s_242_210, ↓s_242_213, ↓s_242_214n, ↓s_242_214i, ↓s_242_214p, ↓g_242_215, ↓k_242_215, ↓s_242_216, ↓s_242_218, ↓s_242_221, ↓s_242_222, ↓s_242_225, ↓s_242_226, ↓s_242_227, ↓s_242_230, ↓s_242_232, ↓s_242_233, ↓s_242_234, ↓s_242_235, ↓s_242_236n, ↓s_242_236i, ↓s_242_236p, ↓s_242_239, ↓g_242_242, ↓k_242_242, ↓s_242_243, ↓s_242_246, ↓s_242_249, ↓s_242_250, ↓s_242_253, ↓s_242_256, ↓s_242_257, ↓s_242_260, ↓s_242_263, ↓s_242_264, ↓s_242_267, ↓s_242_270, ↓s_242_271, ↓s_242_274, ↓s_242_277, ↓s_242_278, ↓s_242_281, ↓s_242_284, ↓s_242_285, ↓s_242_288, ↓s_242_291, ↓s_242_292, ↓s_242_295, ↓s_242_298, ↓s_242_299, ↓s_242_302, ↓s_242_305, ↓s_242_306, ↓s_242_309, ↓s_242_312, ↓s_242_313, ↓s_242_316, ↓s_242_319, ↓s_242_320, ↓s_242_323, ↓s_242_326, ↓s_242_327, ↓s_242_330, ↓g_242_333, ↓k_242_333, ↓s_242_334, ↓s_242_335, ↓s_242_338, ↓s_242_339, ↓s_242_340, ↓s_242_343, ↓s_242_344, ↓s_242_345, ↓s_242_348, ↓s_242_349, ↓s_242_352, ↓s_242_353, ↓s_242_356, ↓s_221_0, ↓s_221_1, ↓s_221_4, ↓s_221_6, ↓s_221_7, ↓s_221_8, ↓s_221_9, ↓s_221_10, zio_95, zar_97, zia_97, zln_97, zit_97, zar_98, zia_98, zln_98, zit_98, zar_99, zia_99, zln_99, zit_99, zar_100, zia_100, zln_100, zit_100, zar_101, zia_101, zln_101, zit_101, zar_102, zia_102, zln_102, zit_102, zar_103, zia_103, zln_103, zit_103, zar_104, zia_104, zln_104, zit_104, zar_105, zia_105, zln_105, zit_105, zar_106, zia_106, zln_106, zit_106, zar_107, zia_107, zln_107, zit_107, zar_108, zia_108, zln_108, zit_108, zar_109, zia_109, zln_109, zit_109, zar_110, zia_110, zln_110, zit_110, zar_111, zia_111, zln_111, zit_111, zar_112, zia_112, zln_112, zit_112, zar_113, zia_113, zln_113, zit_113, zar_114, zia_114, zln_114, zit_114, zar_115, zia_115, zln_115, zit_115, zar_116, zia_116, zln_116, zit_116, zar_117, zia_117, zln_117, zit_117]
    exact ⟨fun _ => rt67 hE hd hn8 hQ _ _ m rfl (by decide) (by decide) hLw hGm h26 h27 h31 h32 hch (fun j hj => hn j (by (first | exact Nat.le_of_ble_eq_true rfl | exact (fun h => absurd h.1 (by decide)) | omega))) (fun j j1 j2 => absurd j2 (by rw [w32c_5]; (first | exact Nat.le_of_ble_eq_true rfl | exact (fun h => absurd h.1 (by decide)) | omega))), fun h => absurd (show 7 ≤ w32 k by (first | exact Nat.le_of_ble_eq_true rfl | exact (fun h => absurd h.1 (by decide)) | omega)) h⟩
  | succ c ih =>
    intro k m hc h5 h10 hLw hGm h26 h27 h31 h32 hch hn
    have hk1 : w32 (k + 1) = w32 k + 1 := by rw [w32_ad (by rw [w32c_1]; (first | exact Nat.le_of_ble_eq_true rfl | exact (fun h => absurd h.1 (by decide)) | omega)) (by rw [w32c_1]; (first | exact Nat.le_of_ble_eq_true rfl | exact (fun h => absurd h.1 (by decide)) | omega)), w32c_1]
    have h7k : w32 (7 + k) = 7 + w32 k := by rw [w32_ad (by rw [w32c_7]; (first | exact Nat.le_of_ble_eq_true rfl | exact (fun h => absurd h.1 (by decide)) | omega)) (by rw [w32c_7]; (first | exact Nat.le_of_ble_eq_true rfl | exact (fun h => absurd h.1 (by decide)) | omega)), w32c_7]
    refine zgo_ok (n := 40) hE xmo_242 (cs := zc_242) ?_
    simp only [ynok_30, ynok_31, w32c_0, w32c_1, w32c_2, w32c_3, w32c_4, w32c_5, w32c_6, w32c_7, w32c_8, w32c_9, w32c_10, w32c_11, w32c_12, w32c_13, w32c_14, w32c_m1, w32c_m2, w32c_118, Int.reduceAdd, Int.reduceSub, Int.reduceMul, yput_s, yput_n, znl_n, znl_0, znl_1, znl_4, ysum_n, ysum_0, ysum_1, ysum_4, true_and, and_true, Nat.reduceAdd, Nat.reduceLeDiff, true_implies, eq_self, true_or, or_true, or_false, false_or, not_true_eq_false, not_false_eq_true, false_implies, implies_true, yset_s, yset_o, yset_d, ne_eq, Nat.reduceEqDiff, Int.reduceToNat, Int.reduceEq, Int.reduceLE, Int.reduceLT, Classical.not_not, Nat.reduceLT, ↓zvk_s, ↓zvk_n, ↓s_242_0, ↓s_242_1, ↓s_242_2, ↓s_242_5, ↓s_242_6, ↓s_242_9, ↓s_242_10, ↓s_242_11, ↓s_242_14, ↓s_242_17, ↓s_242_19, ↓s_242_20, ↓s_242_21, ↓s_242_22, ↓s_242_25, ↓s_242_26, ↓s_242_27, ↓s_242_30, ↓s_242_31, ↓s_242_32, ↓s_242_35, ↓s_242_36, ↓s_242_37, ↓s_242_40, ↓s_242_41, ↓s_242_42, ↓s_242_45, ↓s_242_46n, ↓s_242_46i, ↓s_242_46p, ↓g_242_47, ↓k_242_47, ↓s_242_48, ↓s_242_50, ↓s_242_53, ↓s_242_54, ↓s_242_55, ↓s_242_56, ↓s_242_59n, ↓s_242_59i, ↓s_242_59p, ↓s_242_62, ↓s_242_65, ↓s_242_66n, ↓s_242_66i, ↓s_242_66p, ↓g_242_67, ↓k_242_67, ↓s_242_68, ↓s_242_70, ↓s_242_73, ↓s_242_74, ↓s_242_77, ↓s_242_78, ↓s_242_79, ↓s_242_80, ↓s_242_81, ↓s_242_84, ↓s_242_85, ↓s_242_86, ↓s_242_87n, ↓s_242_87i, ↓s_242_87p, ↓s_242_90, ↓g_242_93, ↓k_242_93, ↓s_242_94, ↓s_242_95, ↓s_242_98, ↓s_242_99, ↓s_242_100, ↓s_242_103, ↓s_242_104, ↓s_242_105, ↓s_242_108, ↓s_242_109, ↓s_242_110, ↓s_242_113, ↓s_242_114, ↓g_242_117, ↓k_242_117, ↓s_242_118, ↓s_242_121, ↓s_242_124, ↓s_242_125, ↓s_242_128, ↓s_242_129, ↓s_242_132, ↓s_242_133, ↓s_242_136, ↓g_242_139, ↓k_242_139, ↓s_242_140, ↓s_242_141, ↓s_242_144, ↓s_242_147, ↓s_242_148, ↓s_242_149, ↓s_242_152, ↓s_242_155, ↓s_242_156, ↓s_242_159, ↓s_242_162, ↓s_242_163, ↓g_242_164, ↓k_242_164, ↓s_242_165, ↓s_242_168, ↓s_242_171, ↓s_242_172, ↓s_242_175, ↓s_242_178, ↓s_242_179, ↓s_242_182, ↓s_242_185, ↓s_242_186, ↓s_242_189, ↓s_242_192, ↓s_242_193, ↓s_242_196, ↓s_242_199, ↓s_242_200, ↓s_242_203, ↓s_242_206, ↓s_242_207, ↓s_242_210, ↓s_242_213, ↓s_242_214n, ↓s_242_214i, ↓s_242_214p, ↓g_242_215, ↓k_242_215, ↓s_242_216, ↓s_242_218, ↓s_242_221, ↓s_242_222, ↓s_242_225, ↓s_242_226, ↓s_242_227, ↓s_242_230, ↓s_242_232, ↓s_242_233, ↓s_242_234, ↓s_242_235, ↓s_242_236n, ↓s_242_236i, ↓s_242_236p, ↓s_242_239, ↓g_242_242, ↓k_242_242, ↓s_242_243, ↓s_242_246, ↓s_242_249, ↓s_242_250, ↓s_242_253, ↓s_242_256, ↓s_242_257, ↓s_242_260, ↓s_242_263, ↓s_242_264, ↓s_242_267, ↓s_242_270, ↓s_242_271, ↓s_242_274, ↓s_242_277, ↓s_242_278, ↓s_242_281, ↓s_242_284, ↓s_242_285, ↓s_242_288, ↓s_242_291, ↓s_242_292, ↓s_242_295, ↓s_242_298, ↓s_242_299, ↓s_242_302, ↓s_242_305, ↓s_242_306, ↓s_242_309, ↓s_242_312, ↓s_242_313, ↓s_242_316, ↓s_242_319, ↓s_242_320, ↓s_242_323, ↓s_242_326, ↓s_242_327, ↓s_242_330, ↓g_242_333, ↓k_242_333, ↓s_242_334, ↓s_242_335, ↓s_242_338, ↓s_242_339, ↓s_242_340, ↓s_242_343, ↓s_242_344, ↓s_242_345, ↓s_242_348, ↓s_242_349, ↓s_242_352, ↓s_242_353, ↓s_242_356, ↓s_221_0, ↓s_221_1, ↓s_221_4, ↓s_221_6, ↓s_221_7, ↓s_221_8, ↓s_221_9, ↓s_221_10, zio_95, zar_97, zia_97, zln_97, zit_97, zar_98, zia_98, zln_98, zit_98, zar_99, zia_99, zln_99, zit_99, zar_100, zia_100, zln_100, zit_100, zar_101, zia_101, zln_101, zit_101, zar_102, zia_102, zln_102, zit_102, zar_103, zia_103, zln_103, zit_103, zar_104, zia_104, zln_104, zit_104, zar_105, zia_105, zln_105, zit_105, zar_106, zia_106, zln_106, zit_106, zar_107, zia_107, zln_107, zit_107, zar_108, zia_108, zln_108, zit_108, zar_109, zia_109, zln_109, zit_109, zar_110, zia_110, zln_110, zit_110, zar_111, zia_111, zln_111, zit_111, zar_112, zia_112, zln_112, zit_112, zar_113, zia_113, zln_113, zit_113, zar_114, zia_114, zln_114, zit_114, zar_115, zia_115, zln_115, zit_115, zar_116, zia_116, zln_116, zit_116, zar_117, zia_117, zln_117, zit_117]
    have g97 : (agam 97 (w32 (7 + k)).toNat).1 ≤ w32 0 ∧ w32 0 ≤ (agam 97 (w32 (7 + k)).toNat).2 := gam97_0 _ (by (first | exact Nat.le_of_ble_eq_true rfl | exact (fun h => absurd h.1 (by decide)) | omega))
    refine ⟨fun h => absurd h (by (first | exact Nat.le_of_ble_eq_true rfl | exact (fun h => absurd h.1 (by decide)) | omega)), fun _ => ⟨⟨by (first | exact Nat.le_of_ble_eq_true rfl | exact (fun h => absurd h.1 (by decide)) | omega), by (first | exact Nat.le_of_ble_eq_true rfl | exact (fun h => absurd h.1 (by decide)) | omega)⟩, ih (k + 1) _ (by (first | exact Nat.le_of_ble_eq_true rfl | exact (fun h => absurd h.1 (by decide)) | omega)) (by (first | exact Nat.le_of_ble_eq_true rfl | exact (fun h => absurd h.1 (by decide)) | omega)) (by (first | exact Nat.le_of_ble_eq_true rfl | exact (fun h => absurd h.1 (by decide)) | omega)) (lwW_s hLw (show 7 ≤ _ by (first | exact Nat.le_of_ble_eq_true rfl | exact (fun h => absurd h.1 (by decide)) | omega))) (aGok_set hGm g97) (by rw [yset_o (by decide)]; exact h26) (by rw [yset_o (by decide)]; exact h27) (by rw [yset_o (by decide)]; exact h31) (by rw [yset_o (by decide)]; exact h32) (fun j => by rw [yset_o (by decide)]; exact hch j) (fun j hj => ?_)⟩⟩
    by_cases hj2 : 7 + j = (w32 (7 + k)).toNat
    · rw [hj2, yset_s]; decide
    · rw [yset_d hj2]
      exact hn j (by (first | exact Nat.le_of_ble_eq_true rfl | exact (fun h => absurd h.1 (by decide)) | omega))
/-- what text answers, which FAULT it keeps (fo: the one before, fn: the one behind), what becomes of the document (P0: no such text, P: this one) -/
def tRs (ch : Nat → Int) (taped N r : Int) (fo fn : Int × Int) (P0 : Prop) (P : sY → dDc → Prop) : Prop := (¬ (0 ≤ N ∧ N ≤ taped) → r = -2 ∧ fn = fo ∧ P0) ∧ (0 ≤ N ∧ N ≤ taped → ∃ l, sTl ch N.toNat l 0 ∧ r = tAn (pTx (l.length + 1) (.inr l) dD0 0).1 (pTx (l.length + 1) (.inr l) dD0 0).2.2 ∧ fn = tFk (pTx (l.length + 1) (.inr l) dD0 0).1 ∧ P (pTx (l.length + 1) (.inr l) dD0 0).1 (pTx (l.length + 1) (.inr l) dD0 0).2.1)
theorem tRs_u {ch : Nat → Int} {taped N r r' : Int} {fo fn fn' : Int × Int} {P0 P0' : Prop} {P P' : sY → dDc → Prop} (h : tRs ch taped N r fo fn P0 P) (h' : tRs ch taped N r' fo fn' P0' P') : r = r' ∧ fn = fn' ∧ ((¬ (0 ≤ N ∧ N ≤ taped) ∧ P0 ∧ P0') ∨ ((0 ≤ N ∧ N ≤ taped) ∧ ∃ l : List sT, fn = tFk (pTx (l.length + 1) (.inr l) dD0 0).1 ∧ P (pTx (l.length + 1) (.inr l) dD0 0).1 (pTx (l.length + 1) (.inr l) dD0 0).2.1 ∧ P' (pTx (l.length + 1) (.inr l) dD0 0).1 (pTx (l.length + 1) (.inr l) dD0 0).2.1)) := by
  by_cases hN : 0 ≤ N ∧ N ≤ taped
  · obtain ⟨l, h1, h2, h3, h4⟩ := h.2 hN
    obtain ⟨l', h1', h2', h3', h4'⟩ := h'.2 hN
    have e := sTl_u h1 h1'
    subst e
    rw [h2, h2', h3, h3']
    exact ⟨rfl, rfl, Or.inr ⟨hN, _, rfl, h4, h4'⟩⟩
  · obtain ⟨a1, a2, a3⟩ := h.1 hN
    obtain ⟨b1, b2, b3⟩ := h'.1 hN
    rw [a1, b1, a2, b2]
    exact ⟨rfl, rfl, Or.inl ⟨hN, a3, b3⟩⟩
theorem rf_text (hE : yEok E) {D0 : Nat} (hD : 688 ≤ D0) {mem : yMem} (hG : aGok mem) (hch : ∀ j, w32 (mem 96 j) = ch j ∧ 0 ≤ ch j ∧ ch j ≤ 255) (hQ : ∀ r (m : yMem), tRs ch (w32 (mem 95 2)) (w32 x) (w32 r) (w32 (mem 95 33), w32 (mem 95 34)) (w32 (m 95 33), w32 (m 95 34)) (lwW mem m) (fun X D => (yOk X → rDl m D) ∧ (¬ yOk X → lwW mem m)) → Q (some (0, r)) m) : yCon E D0 xm_242 [(1, 95), (0, x)] mem Q := by
  obtain ⟨d, rfl⟩ := Nat.exists_eq_add_of_le' (show 2 ≤ D0 by (first | exact Nat.le_of_ble_eq_true rfl | exact (fun h => absurd h.1 (by decide)) | omega))
  refine e_242 ?_
  refine zvc_ok hE 60 zc_242 _ _ _ _ _ _ _ xmo_242 ?_
  have g2 := ag hG 95 2 ag_95_2
  have bad : ¬ (0 ≤ w32 x ∧ w32 x ≤ w32 (mem 95 2)) → Q (some (0, -2)) (yset mem 95 0 0) := fun h => hQ _ _ ⟨fun _ => ⟨by decide, by rw [yset_d (by decide), yset_d (by decide)], fun i j n _ h1 _ _ => by rw [yset_o (by (first | exact Nat.le_of_ble_eq_true rfl | exact (fun h => absurd h.1 (by decide)) | omega))]⟩, fun z => absurd z h⟩
  simp only [ynok_30, ynok_31, w32c_0, w32c_1, w32c_2, w32c_3, w32c_4, w32c_5, w32c_6, w32c_7, w32c_8, w32c_9, w32c_10, w32c_11, w32c_12, w32c_13, w32c_14, w32c_m1, w32c_m2, w32c_118, Int.reduceAdd, Int.reduceSub, Int.reduceMul, yput_s, yput_n, znl_n, znl_0, znl_1, znl_4, ysum_n, ysum_0, ysum_1, ysum_4, true_and, and_true, Nat.reduceAdd, Nat.reduceLeDiff, true_implies, eq_self, true_or, or_true, or_false, false_or, not_true_eq_false, not_false_eq_true, false_implies, implies_true, yset_s, yset_o, yset_d, ne_eq, Nat.reduceEqDiff, Int.reduceToNat, Int.reduceEq, Int.reduceLE, Int.reduceLT, Classical.not_not, Nat.reduceLT, ↓zvk_s, ↓zvk_n, ↓s_242_0, ↓s_242_1, ↓s_242_2, ↓s_242_5, ↓s_242_6, ↓s_242_9, ↓s_242_10, ↓s_242_11, ↓s_242_14, ↓s_242_17, ↓s_242_19, ↓s_242_20, ↓s_242_21, ↓s_242_22, ↓s_242_25, ↓s_242_26, ↓s_242_27, ↓s_242_30, ↓s_242_31, ↓s_242_32, ↓s_242_35, ↓s_242_36, ↓s_242_37, ↓s_242_40, ↓s_242_41, ↓s_242_42, ↓s_242_45, ↓s_242_46n, ↓s_242_46i, ↓s_242_46p, ↓g_242_47, ↓k_242_47, ↓s_242_48, ↓s_242_50, ↓s_242_53, ↓s_242_54, ↓s_242_55, ↓s_242_56, ↓s_242_59n, ↓s_242_59i, ↓s_242_59p, ↓s_242_62, ↓s_242_65, ↓s_242_66n, ↓s_242_66i, ↓s_242_66p, ↓g_242_67, ↓k_242_67, ↓s_242_68, ↓s_242_70, ↓s_242_73, ↓s_242_74, ↓s_242_77, ↓s_242_78, ↓s_242_79, ↓s_242_80, ↓s_242_81, ↓s_242_84, ↓s_242_85, ↓s_242_86, ↓s_242_87n, ↓s_242_87i, ↓s_242_87p, ↓s_242_90, ↓g_242_93, ↓k_242_93, ↓s_242_94, ↓s_242_95, ↓s_242_98, ↓s_242_99, ↓s_242_100, ↓s_242_103, ↓s_242_104, ↓s_242_105, ↓s_242_108, ↓s_242_109, ↓s_242_110, ↓s_242_113, ↓s_242_114, ↓g_242_117, ↓k_242_117, ↓s_242_118, ↓s_242_121, ↓s_242_124, ↓s_242_125, ↓s_242_128, ↓s_242_129, ↓s_242_132, ↓s_242_133, ↓s_242_136, ↓g_242_139, ↓k_242_139, ↓s_242_140, ↓s_242_141, ↓s_242_144, ↓s_242_147, ↓s_242_148, ↓s_242_149, ↓s_242_152, ↓s_242_155, ↓s_242_156, ↓s_242_159, ↓s_242_162, ↓s_242_163, ↓g_242_164, ↓k_242_164, ↓s_242_165, ↓s_242_168, ↓s_242_171, ↓s_242_172, ↓s_242_175, ↓s_242_178, ↓s_242_179, ↓s_242_182, ↓s_242_185, ↓s_242_186, ↓s_242_189, ↓s_242_192, ↓s_242_193, ↓s_242_196, ↓s_242_199, ↓s_242_200, ↓s_242_203, ↓s_242_206, ↓s_242_207, ↓s_242_210, ↓s_242_213, ↓s_242_214n, ↓s_242_214i, ↓s_242_214p, ↓g_242_215, ↓k_242_215, ↓s_242_216, ↓s_242_218, ↓s_242_221, ↓s_242_222, ↓s_242_225, ↓s_242_226, ↓s_242_227, ↓s_242_230, ↓s_242_232, ↓s_242_233, ↓s_242_234, ↓s_242_235, ↓s_242_236n, ↓s_242_236i, ↓s_242_236p, ↓s_242_239, ↓g_242_242, ↓k_242_242, ↓s_242_243, ↓s_242_246, ↓s_242_249, ↓s_242_250, ↓s_242_253, ↓s_242_256, ↓s_242_257, ↓s_242_260, ↓s_242_263, ↓s_242_264, ↓s_242_267, ↓s_242_270, ↓s_242_271, ↓s_242_274, ↓s_242_277, ↓s_242_278, ↓s_242_281, ↓s_242_284, ↓s_242_285, ↓s_242_288, ↓s_242_291, ↓s_242_292, ↓s_242_295, ↓s_242_298, ↓s_242_299, ↓s_242_302, ↓s_242_305, ↓s_242_306, ↓s_242_309, ↓s_242_312, ↓s_242_313, ↓s_242_316, ↓s_242_319, ↓s_242_320, ↓s_242_323, ↓s_242_326, ↓s_242_327, ↓s_242_330, ↓g_242_333, ↓k_242_333, ↓s_242_334, ↓s_242_335, ↓s_242_338, ↓s_242_339, ↓s_242_340, ↓s_242_343, ↓s_242_344, ↓s_242_345, ↓s_242_348, ↓s_242_349, ↓s_242_352, ↓s_242_353, ↓s_242_356, zio_95, zar_97, zia_97, zln_97, zit_97, zar_98, zia_98, zln_98, zit_98, zar_99, zia_99, zln_99, zit_99, zar_100, zia_100, zln_100, zit_100, zar_101, zia_101, zln_101, zit_101, zar_102, zia_102, zln_102, zit_102, zar_103, zia_103, zln_103, zit_103, zar_104, zia_104, zln_104, zit_104, zar_105, zia_105, zln_105, zit_105, zar_106, zia_106, zln_106, zit_106, zar_107, zia_107, zln_107, zit_107, zar_108, zia_108, zln_108, zit_108, zar_109, zia_109, zln_109, zit_109, zar_110, zia_110, zln_110, zit_110, zar_111, zia_111, zln_111, zit_111, zar_112, zia_112, zln_112, zit_112, zar_113, zia_113, zln_113, zit_113, zar_114, zia_114, zln_114, zit_114, zar_115, zia_115, zln_115, zit_115, zar_116, zia_116, zln_116, zit_116, zar_117, zia_117, zln_117, zit_117]
  refine ⟨fun h => bad (by (first | exact Nat.le_of_ble_eq_true rfl | exact (fun h => absurd h.1 (by decide)) | omega)), fun h0 => ⟨fun h1 => ?_, fun h1 => bad (by (first | exact Nat.le_of_ble_eq_true rfl | exact (fun h => absurd h.1 (by decide)) | omega))⟩⟩
  have g2b : w32 (mem 95 2) ≤ 800 := g2.2
  refine rt47 (n := (w32 x).toNat) (ch := ch) (b := mem) hE (by (first | exact Nat.le_of_ble_eq_true rfl | exact (fun h => absurd h.1 (by decide)) | omega)) (by (first | exact Nat.le_of_ble_eq_true rfl | exact (fun h => absurd h.1 (by decide)) | omega)) (fun r m l hl hr hf hd => hQ r m ⟨fun z => absurd ⟨by (first | exact Nat.le_of_ble_eq_true rfl | exact (fun h => absurd h.1 (by decide)) | omega), h1⟩ z, fun _ => ⟨l, hl, hr, hf, hd⟩⟩) _ _ _ rfl (by decide) (by decide) (fun i j n _ h1 _ _ => by rw [yset_o (by (first | exact Nat.le_of_ble_eq_true rfl | exact (fun h => absurd h.1 (by decide)) | omega)), yset_o (by (first | exact Nat.le_of_ble_eq_true rfl | exact (fun h => absurd h.1 (by decide)) | omega)), yset_o (by (first | exact Nat.le_of_ble_eq_true rfl | exact (fun h => absurd h.1 (by decide)) | omega)), yset_o (by (first | exact Nat.le_of_ble_eq_true rfl | exact (fun h => absurd h.1 (by decide)) | omega)), yset_o (by (first | exact Nat.le_of_ble_eq_true rfl | exact (fun h => absurd h.1 (by decide)) | omega)), yset_o (by (first | exact Nat.le_of_ble_eq_true rfl | exact (fun h => absurd h.1 (by decide)) | omega))]) (aGok_set (aGok_set (aGok_set (aGok_set (aGok_set (aGok_set hG (ag_32 ag_95_0)) (by rw [ag_95_26]; exact ⟨by dsimp only; (first | exact Nat.le_of_ble_eq_true rfl | exact (fun h => absurd h.1 (by decide)) | omega), by dsimp only; (first | exact Nat.le_of_ble_eq_true rfl | exact (fun h => absurd h.1 (by decide)) | omega)⟩)) (by rw [ag_95_2]; decide)) (by rw [ag_95_27]; decide)) (ag_32 ag_95_31)) (ag_32 ag_95_32)) ?_ ?_ ?_ ?_ (fun j => by rw [yset_o (by decide), yset_o (by decide), yset_o (by decide), yset_o (by decide), yset_o (by decide), yset_o (by decide)]; exact hch j) (fun j hj => absurd hj (by rw [w32c_0]; (first | exact Nat.le_of_ble_eq_true rfl | exact (fun h => absurd h.1 (by decide)) | omega)))
  · rw [yset_d (by decide), yset_d (by decide), yset_d (by decide), yset_d (by decide), yset_s]; (first | exact Nat.le_of_ble_eq_true rfl | exact (fun h => absurd h.1 (by decide)) | omega)
  · rw [yset_d (by decide), yset_d (by decide), yset_s]; decide
  · rw [yset_d (by decide), yset_s]; decide
  · rw [yset_s]; exact w32c_m1
end RR
end
section
/-! THE CLASS'S text: its answer -/
def TP (mem m : yMem) : Prop := (∀ j, m 1 j = mem 1 j) ∧ (∀ j, m 56 j = mem 56 j)
def tpw (w : List (Nat × Nat)) : Bool := w.all (fun q => !(Nat.beq q.1 1) && !(Nat.beq q.1 56))
theorem tpw_ok {w : List (Nat × Nat)} (h : tpw w = true) {i j : Nat} (hi : i = 1 ∨ i = 56) : amod w i j = false := by
  cases hm : amod w i j with
  | false => rfl
  | true =>
    obtain ⟨q, q1, q2, q3⟩ := amod_ex hm
    have h2 := List.all_eq_true.mp h q q1
    rw [q2] at h2
    rcases hi with rfl | rfl <;> cases h2
theorem TP_of {w : List (Nat × Nat)} {mem m : yMem} (h : aFrm w mem m) (hw : tpw w = true) : TP mem m := ⟨fun j => h 1 j (tpw_ok hw (Or.inl rfl)), fun j => h 56 j (tpw_ok hw (Or.inr rfl))⟩
theorem TP_tr {a b c : yMem} (h1 : TP a b) (h2 : TP b c) : TP a c := ⟨fun j => by rw [h2.1 j, h1.1 j], fun j => by rw [h2.2 j, h1.2 j]⟩
theorem TP_set {a b : yMem} {i j : Nat} {x : Int} (h : TP a b) (hi : i ≠ 1 ∧ i ≠ 56) : TP a (yset b i j x) := ⟨fun k => by rw [yset_o (fun e => hi.1 e.symm)]; exact h.1 k, fun k => by rw [yset_o (fun e => hi.2 e.symm)]; exact h.2 k⟩
theorem ydv_0 {E : yE} {y z : Int} (h : (some ((0 : Nat), y)).map (ydv E) = (some ((0 : Nat), z)).map (ydv E)) : w32 y = w32 z := w32_iI (Value.int.inj (Option.some.inj h))
theorem g_xtext {E : yE} (hE : yEok E) (hm : yman Om) {D : Nat} (hD : 16 ≤ D) {mem : yMem} {Q : Option yV → yMem → Prop} {x : Int} {ch : Nat → Int} (hG : aGok mem) (hO : Om mem) (hB : cBy mem ch) (hW : cWd mem) (hQ : ∀ r m, XTQ mem x m → TP mem m → tRs ch (w32 (mem 0 11)) (w32 x) (w32 r) (w32 (mem 0 12), w32 (mem 0 13)) (w32 (m 0 12), w32 (m 0 13)) (hyS mem m) (fun X D => (yOk X → cDh m D) ∧ (¬ yOk X → hyS mem m ∧ ¬ w32 (m 0 12) = 0)) → Q (some (0, r)) m) : yCon E D xm_41 [(1, 0), (0, x)] mem Q := by
  obtain ⟨d, rfl⟩ := Nat.exists_eq_add_of_le' hD
  refine e_41 ?_
  refine zvc_ok hE 90 zc_41 _ _ _ _ _ _ _ xmo_41 ?_
  have g11 := ag hG 0 11 ag_0_11
  have f12 : ¬ (0 ≤ w32 x ∧ w32 x ≤ w32 (mem 0 11)) → zG E (d + 15) xm_41 12 [some (1, 0), some (0, x), none] [] mem Q := fun hx => by
    refine zgo_ok (n := 60) hE xmo_41 (cs := zc_41) ?_
    simp only [ynok_30, ynok_31, w32c_0, w32c_1, w32c_2, w32c_3, w32c_4, w32c_5, w32c_6, w32c_7, w32c_8, w32c_9, w32c_10, w32c_11, w32c_12, w32c_13, w32c_14, w32c_m1, w32c_m2, w32c_118, Int.reduceAdd, Int.reduceSub, Int.reduceMul, yput_s, yput_n, znl_n, znl_0, znl_1, znl_4, ysum_n, ysum_0, ysum_1, ysum_4, true_and, and_true, Nat.reduceAdd, Nat.reduceLeDiff, true_implies, eq_self, true_or, or_true, or_false, false_or, not_true_eq_false, not_false_eq_true, false_implies, implies_true, yset_s, yset_o, yset_d, ne_eq, Nat.reduceEqDiff, Int.reduceToNat, Int.reduceEq, Int.reduceLE, Int.reduceLT, Classical.not_not, Nat.reduceLT, ↓zvk_s, ↓zvk_n, ↓s_41_0, ↓s_41_1, ↓s_41_4, ↓s_41_5, ↓s_41_6, ↓s_41_9, ↓g_41_12, ↓k_41_12, ↓s_41_14, ↓g_41_15, ↓k_41_15, ↓s_41_16, ↓s_41_19, ↓s_41_20, ↓s_41_23n, ↓s_41_23i, ↓s_41_23p, ↓s_41_24, ↓s_41_25, ↓s_41_26, ↓s_41_29, ↓s_41_30, ↓s_41_31, ↓s_41_34, ↓s_41_37, ↓s_41_40, ↓s_41_43, ↓s_41_44, ↓s_41_45, ↓s_41_48, ↓s_41_51, ↓s_41_54, ↓s_41_57, ↓s_41_58, ↓s_41_61, ↓s_41_64, ↓s_41_65, ↓s_41_66, ↓s_41_67, ↓s_41_70, ↓s_41_71, ↓s_41_74, ↓s_41_77, ↓s_41_78, ↓s_41_81, ↓s_41_82, ↓s_41_85, ↓s_41_88, ↓s_41_89, ↓s_41_92, ↓s_41_93, ↓s_41_96, ↓s_41_97, ↓s_41_98, ↓s_41_101, ↓s_41_102, ↓s_41_105, ↓s_41_106, ↓s_41_109, ↓s_41_110, zio_0, zio_64, zio_2, zio_71, zio_76, zio_54, zio_55, zio_57, zio_28]
    exact hQ _ _ ⟨hG, hO, fun _ _ _ => rfl, by rw [if_neg hx]⟩ ⟨fun _ => rfl, fun _ => rfl⟩ ⟨fun _ => ⟨by decide, rfl, fun _ _ _ => rfl⟩, fun z => absurd z hx⟩
  have f15 : 0 ≤ w32 x → w32 x ≤ w32 (mem 0 11) → zG E (d + 15) xm_41 15 [some (1, 0), some (0, x), none] [] mem Q := fun x0 x1 => by
    have g800 : w32 (mem 0 11) ≤ 800 := g11.2
    have C1 : yCon E (d + 15) xm_120 [(1, 54), (0, x)] mem (fun r m => (∃ y, r = some (0, y)) ∧ CQ mem m ∧ TP mem m ∧ ∀ c j, 2 ≤ c → c ≤ 26 → m c j = mem c j) := by
      refine as_153 yoc_Om hm E hE _ (show 8 ≤ _ by (first | exact Nat.le_of_ble_eq_true rfl | exact (fun h => absurd h.1 (by decide)) | omega)) _ rfl _ _ _ ⟨rfl, ⟨rfl, x0, by show w32 x ≤ 800; (first | exact Nat.le_of_ble_eq_true rfl | exact (fun h => absurd h.1 (by decide)) | omega)⟩, trivial⟩ hG hO (fun q hq => by cases hq) (fun r m1 he => ?_)
      have R1 := CQ_of he (by decide +kernel)
      have R2 := TP_of he.2.2.2.1 (by decide +kernel)
      have R3 : ∀ c j, 2 ≤ c → c ≤ 26 → m1 c j = mem c j := fun c j c1 c2 => he.2.2.2.1 c j (hyw_ok (by decide +kernel) c1 c2)
      obtain ⟨k1, -⟩ := he
      match r, k1 with
      | none, k1 => exact absurd (show (3 : Nat) = 99 from k1) (by decide)
      | some (t, y), k1 =>
        have ht : t = 0 := k1.1
        subst ht
        exact ⟨⟨y, rfl⟩, R1, R2, R3⟩
    have C2 : yCon E (d + 15) xm_120 [(1, 54), (0, x)] mem (fun r m => ∃ y l, r = some (0, y) ∧ sTl ch (w32 x).toNat l 0 ∧ cAt ch (w32 x).toNat m (pTx (l.length + 1) (.inr l) dD0 0).1 (pTx (l.length + 1) (.inr l) dD0 0).2.1 ∧ w32 y = (pTx (l.length + 1) (.inr l) dD0 0).2.2) := g_tell hE (by (first | exact Nat.le_of_ble_eq_true rfl | exact (fun h => absurd h.1 (by decide)) | omega)) hB hW (n := (w32 x).toNat) (by (first | exact Nat.le_of_ble_eq_true rfl | exact (fun h => absurd h.1 (by decide)) | omega)) (by (first | exact Nat.le_of_ble_eq_true rfl | exact (fun h => absurd h.1 (by decide)) | omega)) (fun m l r _ h1 h2 h3 => ⟨r, l, rfl, h1, h2, h3⟩)
    refine zgo_ok (n := 60) hE xmo_41 (cs := zc_41) ?_
    simp only [ynok_30, ynok_31, w32c_0, w32c_1, w32c_2, w32c_3, w32c_4, w32c_5, w32c_6, w32c_7, w32c_8, w32c_9, w32c_10, w32c_11, w32c_12, w32c_13, w32c_14, w32c_m1, w32c_m2, w32c_118, Int.reduceAdd, Int.reduceSub, Int.reduceMul, yput_s, yput_n, znl_n, znl_0, znl_1, znl_4, ysum_n, ysum_0, ysum_1, ysum_4, true_and, and_true, Nat.reduceAdd, Nat.reduceLeDiff, true_implies, eq_self, true_or, or_true, or_false, false_or, not_true_eq_false, not_false_eq_true, false_implies, implies_true, yset_s, yset_o, yset_d, ne_eq, Nat.reduceEqDiff, Int.reduceToNat, Int.reduceEq, Int.reduceLE, Int.reduceLT, Classical.not_not, Nat.reduceLT, ↓zvk_s, ↓zvk_n, ↓s_41_0, ↓s_41_1, ↓s_41_4, ↓s_41_5, ↓s_41_6, ↓s_41_9, ↓g_41_12, ↓k_41_12, ↓s_41_14, ↓g_41_15, ↓k_41_15, ↓s_41_16, ↓s_41_19, ↓s_41_20, ↓s_41_23n, ↓s_41_23i, ↓s_41_23p, ↓s_41_24, ↓s_41_25, ↓s_41_26, ↓s_41_29, ↓s_41_30, ↓s_41_31, ↓s_41_34, ↓s_41_37, ↓s_41_40, ↓s_41_43, ↓s_41_44, ↓s_41_45, ↓s_41_48, ↓s_41_51, ↓s_41_54, ↓s_41_57, ↓s_41_58, ↓s_41_61, ↓s_41_64, ↓s_41_65, ↓s_41_66, ↓s_41_67, ↓s_41_70, ↓s_41_71, ↓s_41_74, ↓s_41_77, ↓s_41_78, ↓s_41_81, ↓s_41_82, ↓s_41_85, ↓s_41_88, ↓s_41_89, ↓s_41_92, ↓s_41_93, ↓s_41_96, ↓s_41_97, ↓s_41_98, ↓s_41_101, ↓s_41_102, ↓s_41_105, ↓s_41_106, ↓s_41_109, ↓s_41_110, zio_0, zio_64, zio_2, zio_71, zio_76, zio_54, zio_55, zio_57, zio_28]
    refine yCon_mono (yCon_and C1 C2) (fun r m1 hm1 => ?_)
    obtain ⟨⟨⟨y, rfl⟩, R1, P1, Y1⟩, r', m2, ⟨y2, l, rfl, hl, hA, hy2⟩, al, er⟩ := hm1
    have ey : w32 y = w32 y2 := ydv_0 er
    have fin : ∀ r m, aGok m → Om m → (∀ i j, 95 ≤ i → m i j = mem i j) → w32 (m 0 11) = 0 → TP mem m → w32 r = tAn (pTx (l.length + 1) (.inr l) dD0 0).1 (pTx (l.length + 1) (.inr l) dD0 0).2.2 → (w32 (m 0 12), w32 (m 0 13)) = tFk (pTx (l.length + 1) (.inr l) dD0 0).1 → ((yOk (pTx (l.length + 1) (.inr l) dD0 0).1 → cDh m (pTx (l.length + 1) (.inr l) dD0 0).2.1) ∧ (¬ yOk (pTx (l.length + 1) (.inr l) dD0 0).1 → hyS mem m ∧ ¬ w32 (m 0 12) = 0)) → Q (some (0, r)) m := fun r m h1 h2 h3 h4 h5 h6 h7 h8 => hQ r m ⟨h1, h2, h3, by rw [if_pos ⟨x0, x1⟩]; exact h4⟩ h5 ⟨fun z => absurd ⟨x0, x1⟩ z, fun _ => ⟨l, hl, h6, h7, h8⟩⟩
    refine zgk_s hE xmo_41 60 zc_41 ?_
    simp only [ynok_30, ynok_31, w32c_0, w32c_1, w32c_2, w32c_3, w32c_4, w32c_5, w32c_6, w32c_7, w32c_8, w32c_9, w32c_10, w32c_11, w32c_12, w32c_13, w32c_14, w32c_m1, w32c_m2, w32c_118, Int.reduceAdd, Int.reduceSub, Int.reduceMul, yput_s, yput_n, znl_n, znl_0, znl_1, znl_4, ysum_n, ysum_0, ysum_1, ysum_4, true_and, and_true, Nat.reduceAdd, Nat.reduceLeDiff, true_implies, eq_self, true_or, or_true, or_false, false_or, not_true_eq_false, not_false_eq_true, false_implies, implies_true, yset_s, yset_o, yset_d, ne_eq, Nat.reduceEqDiff, Int.reduceToNat, Int.reduceEq, Int.reduceLE, Int.reduceLT, Classical.not_not, Nat.reduceLT, ↓zvk_s, ↓zvk_n, ↓s_41_0, ↓s_41_1, ↓s_41_4, ↓s_41_5, ↓s_41_6, ↓s_41_9, ↓g_41_12, ↓k_41_12, ↓s_41_14, ↓g_41_15, ↓k_41_15, ↓s_41_16, ↓s_41_19, ↓s_41_20, ↓s_41_23n, ↓s_41_23i, ↓s_41_23p, ↓s_41_24, ↓s_41_25, ↓s_41_26, ↓s_41_29, ↓s_41_30, ↓s_41_31, ↓s_41_34, ↓s_41_37, ↓s_41_40, ↓s_41_43, ↓s_41_44, ↓s_41_45, ↓s_41_48, ↓s_41_51, ↓s_41_54, ↓s_41_57, ↓s_41_58, ↓s_41_61, ↓s_41_64, ↓s_41_65, ↓s_41_66, ↓s_41_67, ↓s_41_70, ↓s_41_71, ↓s_41_74, ↓s_41_77, ↓s_41_78, ↓s_41_81, ↓s_41_82, ↓s_41_85, ↓s_41_88, ↓s_41_89, ↓s_41_92, ↓s_41_93, ↓s_41_96, ↓s_41_97, ↓s_41_98, ↓s_41_101, ↓s_41_102, ↓s_41_105, ↓s_41_106, ↓s_41_109, ↓s_41_110, zio_0, zio_64, zio_2, zio_71, zio_76, zio_54, zio_55, zio_57, zio_28]
    have a1 : aGok (yset m1 0 11 0) := aGok_set R1.1 (by rw [ag_0_11]; decide)
    have o1 : Om (yset m1 0 11 0) := yoc_Om m1 _ (fun i j hi => yset_o (fun e => by subst e; exact absurd hi (by decide))) R1.2.1
    have S1 := CQ_set a1 o1 (i := 0) (j := 12) (x := m1 55 7) (by decide) (by decide) (ag_32 ag_0_12)
    have S2 := CQ_tr S1 (CQ_set S1.1 S1.2.1 (i := 0) (j := 13) (x := m1 55 8) (by decide) (by decide) (ag_32 ag_0_13))
    have P2 : TP mem (yset (yset (yset m1 0 11 0) 0 12 (m1 55 7)) 0 13 (m1 55 8)) := TP_set (TP_set (TP_set P1 (by decide)) (by decide)) (by decide)
    have e11 : w32 (yset (yset (yset m1 0 11 0) 0 12 (m1 55 7)) 0 13 (m1 55 8) 0 11) = 0 := by rw [yset_d (by decide), yset_d (by decide), yset_s]; decide
    have eup : ∀ i j, 95 ≤ i → yset (yset (yset m1 0 11 0) 0 12 (m1 55 7)) 0 13 (m1 55 8) i j = mem i j := fun i j hi => by rw [S2.2.2.1 i j hi, yset_o (by (first | exact Nat.le_of_ble_eq_true rfl | exact (fun h => absurd h.1 (by decide)) | omega))]; exact R1.2.2.1 i j hi
    have e7 : w32 (m1 55 7) = w32 (m2 55 7) := al 55 7 rfl
    have e8 : w32 (m1 55 8) = w32 (m2 55 8) := al 55 8 rfl
    have v12 : yset (yset (yset m1 0 11 0) 0 12 (m1 55 7)) 0 13 (m1 55 8) 0 12 = m1 55 7 := by rw [yset_d (by decide), yset_s]
    have v13 : yset (yset (yset m1 0 11 0) 0 12 (m1 55 7)) 0 13 (m1 55 8) 0 13 = m1 55 8 := yset_s
    have hfk : (w32 (m1 55 7), w32 (m1 55 8)) = tFk (pTx (l.length + 1) (.inr l) dD0 0).1 := by
      rw [e7, e8]
      have hT := hA.1
      revert hT
      generalize (pTx (l.length + 1) (.inr l) dD0 0).1 = X
      intro hT
      cases X with
      | inl e => exact Prod.ext hT.2.2.2.2.1 hT.2.2.2.2.2.2.1
      | inr l' =>
        obtain ⟨_, _, _, _, g1, e, g2, _⟩ := hT
        exact Prod.ext g1 g2.2
    have sS : ∀ c j, 1 ≤ c → yset (yset (yset m1 0 11 0) 0 12 (m1 55 7)) 0 13 (m1 55 8) c j = m1 c j := fun c j hc => by rw [yset_o (by (first | exact Nat.le_of_ble_eq_true rfl | exact (fun h => absurd h.1 (by decide)) | omega)), yset_o (by (first | exact Nat.le_of_ble_eq_true rfl | exact (fun h => absurd h.1 (by decide)) | omega)), yset_o (by (first | exact Nat.le_of_ble_eq_true rfl | exact (fun h => absurd h.1 (by decide)) | omega))]
    have hox : w32 (m1 55 7) = 0 ↔ yOk (pTx (l.length + 1) (.inr l) dD0 0).1 := by
      rw [e7]
      have hT := hA.1
      revert hT
      generalize (pTx (l.length + 1) (.inr l) dD0 0).1 = X
      intro hT
      cases X with
      | inl e => exact ⟨fun z => absurd z (by have := hT.2.2.2.2.1; have := hT.2.2.2.2.2.1; (first | exact Nat.le_of_ble_eq_true rfl | exact (fun h => absurd h.1 (by decide)) | omega)), fun z => absurd z yOk_in⟩
      | inr l' => exact ⟨fun _ => ⟨l', rfl⟩, fun _ => hT.2.2.2.2.1⟩
    refine ⟨fun h7 => ?_, fun h7 => fin _ _ S2.1 S2.2.1 eup e11 P2 ?_ (by rw [v12, v13]; exact hfk) ⟨fun z => absurd (hox.mpr z) h7, fun _ => ⟨hyS_f (fun c j c1 c2 => by rw [sS c j (by (first | exact Nat.le_of_ble_eq_true rfl | exact (fun h => absurd h.1 (by decide)) | omega))]; exact Y1 c j c1 c2), by rw [v12]; exact h7⟩⟩⟩
    · have hok : tAn (pTx (l.length + 1) (.inr l) dD0 0).1 (pTx (l.length + 1) (.inr l) dD0 0).2.2 = (pTx (l.length + 1) (.inr l) dD0 0).2.2 := by
        have hT := hA.1
        revert hT
        generalize (pTx (l.length + 1) (.inr l) dD0 0).1 = X
        intro hT
        cases X with
        | inl e => exact absurd (show w32 (m2 55 7) = 0 by rw [← e7]; exact h7) (by have := hT.2.2.2.2.1; have := hT.2.2.2.2.2.1; (first | exact Nat.le_of_ble_eq_true rfl | exact (fun h => absurd h.1 (by decide)) | omega))
        | inr l' => rfl
      have C3 : yCon E (d + 15) xm_86 [(1, 2), (1, 28)] (yset (yset (yset m1 0 11 0) 0 12 (m1 55 7)) 0 13 (m1 55 8)) (fun r m3 => r = none ∧ CQ (yset (yset (yset m1 0 11 0) 0 12 (m1 55 7)) 0 13 (m1 55 8)) m3 ∧ TP mem m3 ∧ m3 0 12 = m1 55 7 ∧ m3 0 13 = m1 55 8) := by
        refine abs_take yoc_Om hm E hE _ (show 2 ≤ _ by (first | exact Nat.le_of_ble_eq_true rfl | exact (fun h => absurd h.1 (by decide)) | omega)) _ rfl _ _ _ ⟨rfl, rfl, trivial⟩ S2.1 S2.2.1 (fun q hq => by cases hq) (fun r m3 he => ?_)
        have R2 := CQ_of he (by decide +kernel)
        have P3 := TP_tr P2 (TP_of he.2.2.2.1 (by decide +kernel))
        have w12 := he.2.2.2.1 0 12 rfl
        have w13 := he.2.2.2.1 0 13 rfl
        rw [v12] at w12
        rw [v13] at w13
        obtain ⟨k1, -⟩ := he
        match r, k1 with
        | some y, k1 => exact absurd k1 (fun h => by cases h)
        | none, _ => exact ⟨rfl, R2, P3, w12, w13⟩
      have C4 : yCon E (d + 15) xm_86 [(1, 2), (1, 28)] (yset (yset (yset m1 0 11 0) 0 12 (m1 55 7)) 0 13 (m1 55 8)) (fun r m3 => ∀ c j, tkS c j → m3 c j = yset (yset (yset m1 0 11 0) 0 12 (m1 55 7)) 0 13 (m1 55 8) (c + 26) j) := g_take hE (by (first | exact Nat.le_of_ble_eq_true rfl | exact (fun h => absurd h.1 (by decide)) | omega)) (fun m' h1 _ => h1)
      refine yCon_mono (yCon_and C3 C4) (fun r m3 hm3 => ?_)
      obtain ⟨⟨rfl, R2, P3, w12, w13⟩, _, m3x, tk, al3, _⟩ := hm3
      have hcd : cDh m3 (pTx (l.length + 1) (.inr l) dD0 0).2.1 := by
        obtain ⟨lx, hlx⟩ := hox.mp h7
        exact cDh_tk (hA.2 lx hlx) (fun c j ht => by rw [al3 c j (yRl_t ht).1, tk c j ht, sS (c + 26) j (by (first | exact Nat.le_of_ble_eq_true rfl | exact (fun h => absurd h.1 (by decide)) | omega)), al (c + 26) j (yRl_t ht).2])
      refine zgk_n hE xmo_41 60 zc_41 ?_
      simp only [ynok_30, ynok_31, w32c_0, w32c_1, w32c_2, w32c_3, w32c_4, w32c_5, w32c_6, w32c_7, w32c_8, w32c_9, w32c_10, w32c_11, w32c_12, w32c_13, w32c_14, w32c_m1, w32c_m2, w32c_118, Int.reduceAdd, Int.reduceSub, Int.reduceMul, yput_s, yput_n, znl_n, znl_0, znl_1, znl_4, ysum_n, ysum_0, ysum_1, ysum_4, true_and, and_true, Nat.reduceAdd, Nat.reduceLeDiff, true_implies, eq_self, true_or, or_true, or_false, false_or, not_true_eq_false, not_false_eq_true, false_implies, implies_true, yset_s, yset_o, yset_d, ne_eq, Nat.reduceEqDiff, Int.reduceToNat, Int.reduceEq, Int.reduceLE, Int.reduceLT, Classical.not_not, Nat.reduceLT, ↓zvk_s, ↓zvk_n, ↓s_41_0, ↓s_41_1, ↓s_41_4, ↓s_41_5, ↓s_41_6, ↓s_41_9, ↓g_41_12, ↓k_41_12, ↓s_41_14, ↓g_41_15, ↓k_41_15, ↓s_41_16, ↓s_41_19, ↓s_41_20, ↓s_41_23n, ↓s_41_23i, ↓s_41_23p, ↓s_41_24, ↓s_41_25, ↓s_41_26, ↓s_41_29, ↓s_41_30, ↓s_41_31, ↓s_41_34, ↓s_41_37, ↓s_41_40, ↓s_41_43, ↓s_41_44, ↓s_41_45, ↓s_41_48, ↓s_41_51, ↓s_41_54, ↓s_41_57, ↓s_41_58, ↓s_41_61, ↓s_41_64, ↓s_41_65, ↓s_41_66, ↓s_41_67, ↓s_41_70, ↓s_41_71, ↓s_41_74, ↓s_41_77, ↓s_41_78, ↓s_41_81, ↓s_41_82, ↓s_41_85, ↓s_41_88, ↓s_41_89, ↓s_41_92, ↓s_41_93, ↓s_41_96, ↓s_41_97, ↓s_41_98, ↓s_41_101, ↓s_41_102, ↓s_41_105, ↓s_41_106, ↓s_41_109, ↓s_41_110, zio_0, zio_64, zio_2, zio_71, zio_76, zio_54, zio_55, zio_57, zio_28]
      refine abs_begin yoc_Om hm E hE _ (show 3 ≤ _ by (first | exact Nat.le_of_ble_eq_true rfl | exact (fun h => absurd h.1 (by decide)) | omega)) _ rfl _ _ _ ⟨rfl, rfl, trivial⟩ R2.1 R2.2.1 (fun q hq => by cases hq) (fun r m4 he => ?_)
      have R3 := CQ_tr R2 (CQ_of he (by decide +kernel))
      have P4 := TP_tr P3 (TP_of he.2.2.2.1 (by decide +kernel))
      have Y4 : ∀ c j, 2 ≤ c → c ≤ 26 → m4 c j = m3 c j := fun c j c1 c2 => he.2.2.2.1 c j (hyw_ok (by decide +kernel) c1 c2)
      have x12 := he.2.2.2.1 0 12 rfl
      have x13 := he.2.2.2.1 0 13 rfl
      rw [w12] at x12
      rw [w13] at x13
      obtain ⟨k1, -⟩ := he
      match r, k1 with
      | some y, k1 => exact absurd k1 (fun h => by cases h)
      | none, _ =>
        refine zgk_n hE xmo_41 60 zc_41 ?_
        simp only [ynok_30, ynok_31, w32c_0, w32c_1, w32c_2, w32c_3, w32c_4, w32c_5, w32c_6, w32c_7, w32c_8, w32c_9, w32c_10, w32c_11, w32c_12, w32c_13, w32c_14, w32c_m1, w32c_m2, w32c_118, Int.reduceAdd, Int.reduceSub, Int.reduceMul, yput_s, yput_n, znl_n, znl_0, znl_1, znl_4, ysum_n, ysum_0, ysum_1, ysum_4, true_and, and_true, Nat.reduceAdd, Nat.reduceLeDiff, true_implies, eq_self, true_or, or_true, or_false, false_or, not_true_eq_false, not_false_eq_true, false_implies, implies_true, yset_s, yset_o, yset_d, ne_eq, Nat.reduceEqDiff, Int.reduceToNat, Int.reduceEq, Int.reduceLE, Int.reduceLT, Classical.not_not, Nat.reduceLT, ↓zvk_s, ↓zvk_n, ↓s_41_0, ↓s_41_1, ↓s_41_4, ↓s_41_5, ↓s_41_6, ↓s_41_9, ↓g_41_12, ↓k_41_12, ↓s_41_14, ↓g_41_15, ↓k_41_15, ↓s_41_16, ↓s_41_19, ↓s_41_20, ↓s_41_23n, ↓s_41_23i, ↓s_41_23p, ↓s_41_24, ↓s_41_25, ↓s_41_26, ↓s_41_29, ↓s_41_30, ↓s_41_31, ↓s_41_34, ↓s_41_37, ↓s_41_40, ↓s_41_43, ↓s_41_44, ↓s_41_45, ↓s_41_48, ↓s_41_51, ↓s_41_54, ↓s_41_57, ↓s_41_58, ↓s_41_61, ↓s_41_64, ↓s_41_65, ↓s_41_66, ↓s_41_67, ↓s_41_70, ↓s_41_71, ↓s_41_74, ↓s_41_77, ↓s_41_78, ↓s_41_81, ↓s_41_82, ↓s_41_85, ↓s_41_88, ↓s_41_89, ↓s_41_92, ↓s_41_93, ↓s_41_96, ↓s_41_97, ↓s_41_98, ↓s_41_101, ↓s_41_102, ↓s_41_105, ↓s_41_106, ↓s_41_109, ↓s_41_110, zio_0, zio_64, zio_2, zio_71, zio_76, zio_54, zio_55, zio_57, zio_28]
        have T1 := CQ_tr R3 (CQ_set R3.1 R3.2.1 (i := 71) (j := 1) (x := 0) (by decide) (by decide) (by rw [ag_71_1]; decide))
        have T2 := CQ_tr T1 (CQ_set T1.1 T1.2.1 (i := 0) (j := 14) (x := 0) (by decide) (by decide) (by rw [ag_0_14]; decide))
        have T3 := CQ_tr T2 (CQ_set T2.1 T2.2.1 (i := 76) (j := 10) (x := 0) (by decide) (by decide) (by rw [ag_76_10]; decide))
        exact fin _ _ T3.1 T3.2.1 (fun i j hi => by rw [T3.2.2.1 i j hi]; exact eup i j hi) (by rw [T3.2.2.2]; exact e11) (TP_set (TP_set (TP_set P4 (by decide)) (by decide)) (by decide)) (by rw [hok, ey]; exact hy2) (by rw [yset_o (by decide), yset_d (by decide), yset_o (by decide), yset_o (by decide), yset_d (by decide), yset_o (by decide), x12, x13]; exact hfk) ⟨fun _ => cDh_w hcd (fun c j ht => by rw [yset_o (by have := tkS_c ht; (first | exact Nat.le_of_ble_eq_true rfl | exact (fun h => absurd h.1 (by decide)) | omega)), yset_o (by have := tkS_c ht; (first | exact Nat.le_of_ble_eq_true rfl | exact (fun h => absurd h.1 (by decide)) | omega)), yset_o (by have := tkS_c ht; (first | exact Nat.le_of_ble_eq_true rfl | exact (fun h => absurd h.1 (by decide)) | omega)), Y4 c j (tkS_c ht).1 (tkS_c ht).2]), fun z => absurd (hox.mp h7) z⟩
    · have hT := hA.1
      revert hT
      generalize (pTx (l.length + 1) (.inr l) dD0 0).1 = X
      intro hT
      cases X with
      | inl e => exact w32c_m1
      | inr l' => exact absurd (show w32 (m1 55 7) = 0 by rw [e7]; exact hT.2.2.2.2.1) h7
  simp only [ynok_30, ynok_31, w32c_0, w32c_1, w32c_2, w32c_3, w32c_4, w32c_5, w32c_6, w32c_7, w32c_8, w32c_9, w32c_10, w32c_11, w32c_12, w32c_13, w32c_14, w32c_m1, w32c_m2, w32c_118, Int.reduceAdd, Int.reduceSub, Int.reduceMul, yput_s, yput_n, znl_n, znl_0, znl_1, znl_4, ysum_n, ysum_0, ysum_1, ysum_4, true_and, and_true, Nat.reduceAdd, Nat.reduceLeDiff, true_implies, eq_self, true_or, or_true, or_false, false_or, not_true_eq_false, not_false_eq_true, false_implies, implies_true, yset_s, yset_o, yset_d, ne_eq, Nat.reduceEqDiff, Int.reduceToNat, Int.reduceEq, Int.reduceLE, Int.reduceLT, Classical.not_not, Nat.reduceLT, ↓zvk_s, ↓zvk_n, ↓s_41_0, ↓s_41_1, ↓s_41_4, ↓s_41_5, ↓s_41_6, ↓s_41_9, ↓g_41_12, ↓k_41_12, ↓s_41_14, ↓g_41_15, ↓k_41_15, ↓s_41_16, ↓s_41_19, ↓s_41_20, ↓s_41_23n, ↓s_41_23i, ↓s_41_23p, ↓s_41_24, ↓s_41_25, ↓s_41_26, ↓s_41_29, ↓s_41_30, ↓s_41_31, ↓s_41_34, ↓s_41_37, ↓s_41_40, ↓s_41_43, ↓s_41_44, ↓s_41_45, ↓s_41_48, ↓s_41_51, ↓s_41_54, ↓s_41_57, ↓s_41_58, ↓s_41_61, ↓s_41_64, ↓s_41_65, ↓s_41_66, ↓s_41_67, ↓s_41_70, ↓s_41_71, ↓s_41_74, ↓s_41_77, ↓s_41_78, ↓s_41_81, ↓s_41_82, ↓s_41_85, ↓s_41_88, ↓s_41_89, ↓s_41_92, ↓s_41_93, ↓s_41_96, ↓s_41_97, ↓s_41_98, ↓s_41_101, ↓s_41_102, ↓s_41_105, ↓s_41_106, ↓s_41_109, ↓s_41_110, zio_0, zio_64, zio_2, zio_71, zio_76, zio_54, zio_55, zio_57, zio_28]
  repeat' first | exact f12 (by (first | exact Nat.le_of_ble_eq_true rfl | exact (fun h => absurd h.1 (by decide)) | omega)) | exact f15 (by (first | exact Nat.le_of_ble_eq_true rfl | exact (fun h => absurd h.1 (by decide)) | omega)) (by (first | exact Nat.le_of_ble_eq_true rfl | exact (fun h => absurd h.1 (by decide)) | omega)) | (first | exact Nat.le_of_ble_eq_true rfl | exact (fun h => absurd h.1 (by decide)) | omega) | refine And.intro ?_ ?_ | intro _
end
section
/-! feed: the bytes, on both sides -/
theorem bm8 (a : Nat) (h : a < 4294967296) : ((a : Int).bmod (2^32)).bmod (2^8) = (if ((a % 256 : Nat) : Int) < 128 then ((a % 256 : Nat) : Int) else ((a % 256 : Nat) : Int) - 256) := by
  have e1 : (a : Int).bmod (2^32) = (a : Int) ∨ (a : Int).bmod (2^32) = (a : Int) - 4294967296 := by
    simp only [Int.bmod]
    split <;> (first | exact Nat.le_of_ble_eq_true rfl | exact (fun h => absurd h.1 (by decide)) | omega)
  have e2 : ∀ x : Int, x.bmod (2^8) = (if x % 256 < 128 then x % 256 else x % 256 - 256) := fun x => by
    simp only [Int.bmod]
    rfl
  rw [e2]
  rcases e1 with e | e <;> rw [e]
  · rw [show (a : Int) % 256 = ((a % 256 : Nat) : Int) by (first | exact Nat.le_of_ble_eq_true rfl | exact (fun h => absurd h.1 (by decide)) | omega)]
  · rw [show ((a : Int) - 4294967296) % 256 = ((a % 256 : Nat) : Int) by (first | exact Nat.le_of_ble_eq_true rfl | exact (fun h => absurd h.1 (by decide)) | omega)]
theorem i8_sBs (y : Int) : w32 ((iI y).toInt8.toInt32.toInt) = sBs (w32 (ybin 3 y 255)) := by
  have e : w32 ((iI y).toInt8.toInt32.toInt) = (iI y).toInt8.toInt := by
    show (Int32.ofInt ((iI y).toInt8.toInt32.toInt)).toInt = _
    rw [Int32.ofInt_toInt, Int8.toInt_toInt32]
  have hb : (iI y).toBitVec.toNat < 4294967296 := (iI y).toBitVec.isLt
  have e1 : iI y = nI ((iI y).toBitVec.toNat) := by
    apply Int32.toBitVec_inj.mp
    rw [nI_bv]
    simp
  have e3 : (iI y).toInt = ((iI y).toBitVec.toNat : Int).bmod (2^32) := BitVec.toInt_eq_toNat_bmod _
  have e4 : w32 (ybin 3 y 255) = (((iI y).toBitVec.toNat % 256 : Nat) : Int) := by
    show w32 (fbin 3 (iI y) (iI 255)).toInt = _
    have e5 : fbin 3 (iI y) (iI 255) = nI (Nat.land (iI y).toBitVec.toNat 255) := by
      rw [show iI 255 = nI 255 from iI_n 255]
      have : fbin 3 (nI (iI y).toBitVec.toNat) (nI 255) = nI (Nat.land (iI y).toBitVec.toNat 255) := xbin_ok (o := 3) rfl
      rw [← e1] at this
      exact this
    rw [e5, show Nat.land (iI y).toBitVec.toNat 255 = (iI y).toBitVec.toNat % 256 from Nat.and_two_pow_sub_one_eq_mod _ 8, w32_nI (by (first | exact Nat.le_of_ble_eq_true rfl | exact (fun h => absurd h.1 (by decide)) | omega))]
  rw [e, Int32.toInt_toInt8, e3, bm8 _ hb, e4]
  rfl
def fb (v : Int) (q : Nat) : Int := w32 (ybin 3 (ybin 7 v (24 - 8 * (q : Int))) 255)
theorem fb_of {v s : Int} {q : Nat} (hq : q < 4) (h : w32 s = 24 - 8 * (q : Int)) : w32 (ybin 3 (ybin 7 v s) 255) = fb v q := by
  unfold fb
  rw [ybin7_ext (y' := 24 - 8 * (q : Int)) (h.trans (w32_of (by (first | exact Nat.le_of_ble_eq_true rfl | exact (fun h => absurd h.1 (by decide)) | omega)) (by (first | exact Nat.le_of_ble_eq_true rfl | exact (fun h => absurd h.1 (by decide)) | omega))).symm)]
/-- so many bytes more, these -/
def FcX (mem : yMem) (k : Nat) (g : Nat → Int) (m : yMem) : Prop := TnQ mem (k : Int) m ∧ (∀ j, (j < (w32 (mem 0 11)).toNat ∨ (w32 (mem 0 11)).toNat + k ≤ j) → m 1 j = mem 1 j) ∧ (∀ q, q < k → w32 (m 1 ((w32 (mem 0 11)).toNat + q)) = sBs (g q))
theorem FcX_tr {mem m m' : yMem} {k : Nat} {g h : Nat → Int} (h0 : 0 ≤ w32 (mem 0 11)) (h1 : FcX mem k g m) (h2 : FcX m 4 h m') : FcX mem (k + 4) (fun q => if q < k then g q else h (q - k)) m' := by
  obtain ⟨a1, a2, a3⟩ := h1
  obtain ⟨b1, b2, b3⟩ := h2
  have e : (w32 (m 0 11)).toNat = (w32 (mem 0 11)).toNat + k := by rw [a1.2.2]; (first | exact Nat.le_of_ble_eq_true rfl | exact (fun h => absurd h.1 (by decide)) | omega)
  have T := TnQ_tr a1 b1
  refine ⟨⟨T.1, T.2.1, by rw [T.2.2]; push_cast; (first | exact Nat.le_of_ble_eq_true rfl | exact (fun h => absurd h.1 (by decide)) | omega)⟩, fun j hj => ?_, fun q hq => ?_⟩
  · rw [b2 j (by (first | exact Nat.le_of_ble_eq_true rfl | exact (fun h => absurd h.1 (by decide)) | omega)), a2 j (by (first | exact Nat.le_of_ble_eq_true rfl | exact (fun h => absurd h.1 (by decide)) | omega))]
  · dsimp only
    by_cases hqk : q < k
    · rw [if_pos hqk, b2 _ (by (first | exact Nat.le_of_ble_eq_true rfl | exact (fun h => absurd h.1 (by decide)) | omega))]
      exact a3 q hqk
    · rw [if_neg hqk]
      have := b3 (q - k) (by (first | exact Nat.le_of_ble_eq_true rfl | exact (fun h => absurd h.1 (by decide)) | omega))
      rw [e, show (w32 (mem 0 11)).toNat + k + (q - k) = (w32 (mem 0 11)).toNat + q by (first | exact Nat.le_of_ble_eq_true rfl | exact (fun h => absurd h.1 (by decide)) | omega)] at this
      exact this
theorem tnx_loop {E : yE} (hE : yEok E) {d : Nat} {mem : yMem} {Q : Option yV → yMem → Prop} {x : Int} (h0 : 0 ≤ w32 (mem 0 11)) (h7 : w32 (mem 0 11) ≤ 796) (hQ : ∀ m, FcX mem 4 (fb x) m → Q none m) : ∀ (n : Nat) (s : Int) (k : Nat) (m : yMem), k + n = 4 → w32 s = 8 * (n : Int) - 8 → FcX mem k (fb x) m → zG E d xm_39 3 [some (1, 0), some (0, x), some (0, s)] [] m Q := by
  intro n
  induction n with
  | zero =>
    intro s k m h4 hs hT
    refine zgo_ok (n := 60) hE xmo_39 (cs := zc_39) ?_
    simp only [ynok_30, ynok_31, w32c_0, w32c_1, w32c_2, w32c_3, w32c_4, w32c_5, w32c_6, w32c_7, w32c_8, w32c_9, w32c_10, w32c_11, w32c_12, w32c_13, w32c_14, w32c_m1, w32c_m2, w32c_118, Int.reduceAdd, Int.reduceSub, Int.reduceMul, yput_s, yput_n, znl_n, znl_0, znl_1, znl_4, ysum_n, ysum_0, ysum_1, ysum_4, true_and, and_true, Nat.reduceAdd, Nat.reduceLeDiff, true_implies, eq_self, true_or, or_true, or_false, false_or, not_true_eq_false, not_false_eq_true, false_implies, implies_true, yset_s, yset_o, yset_d, ne_eq, Nat.reduceEqDiff, Int.reduceToNat, Int.reduceEq, Int.reduceLE, Int.reduceLT, Classical.not_not, Nat.reduceLT, ↓zvk_s, ↓zvk_n, ↓s_39_0, ↓s_39_2n, ↓s_39_2i, ↓s_39_2p, ↓g_39_3, ↓k_39_3, ↓s_39_4, ↓s_39_7, ↓s_39_8, ↓s_39_11, ↓s_39_14, ↓s_39_17, ↓s_39_18, ↓s_39_21, ↓s_39_22, ↓s_39_25, ↓s_39_26, ↓s_39_27, ↓s_39_28, ↓s_39_29, ↓s_39_30, ↓s_39_31a, ↓s_39_31b, ↓s_39_32, ↓s_39_35, ↓s_39_36, ↓s_39_37, ↓s_39_40n, ↓s_39_40i, ↓s_39_40p, ↓s_39_43, ↓s_39_46, w32c_24, w32c_800, zio_0, zar_1, zia_1, zln_1, zit_1]
    have e4 : k = 4 := by (first | exact Nat.le_of_ble_eq_true rfl | exact (fun h => absurd h.1 (by decide)) | omega)
    subst e4
    repeat' first | exact hQ _ hT | (first | exact Nat.le_of_ble_eq_true rfl | exact (fun h => absurd h.1 (by decide)) | omega) | refine And.intro ?_ ?_ | intro _
  | succ n ih =>
    intro s k m h4 hs hT
    have e11 := hT.1.2.2
    have e8 : w32 (s + -8) = w32 s - 8 := by rw [w32_ad (by rw [w32_of (x := -8) (by decide) (by decide)]; (first | exact Nat.le_of_ble_eq_true rfl | exact (fun h => absurd h.1 (by decide)) | omega)) (by rw [w32_of (x := -8) (by decide) (by decide)]; (first | exact Nat.le_of_ble_eq_true rfl | exact (fun h => absurd h.1 (by decide)) | omega)), w32_of (x := -8) (by decide) (by decide)]; (first | exact Nat.le_of_ble_eq_true rfl | exact (fun h => absurd h.1 (by decide)) | omega)
    have e1 : w32 (m 0 11 + 1) = w32 (m 0 11) + 1 := by rw [w32_ad (by rw [w32c_1]; (first | exact Nat.le_of_ble_eq_true rfl | exact (fun h => absurd h.1 (by decide)) | omega)) (by rw [w32c_1]; (first | exact Nat.le_of_ble_eq_true rfl | exact (fun h => absurd h.1 (by decide)) | omega)), w32c_1]
    have hb := i8_b (ybin 7 x s)
    have hv : w32 ((iI (ybin 7 x s)).toInt8.toInt32.toInt) = sBs (fb x k) := by
      rw [i8_sBs, fb_of (q := k) (by (first | exact Nat.le_of_ble_eq_true rfl | exact (fun h => absurd h.1 (by decide)) | omega)) (by (first | exact Nat.le_of_ble_eq_true rfl | exact (fun h => absurd h.1 (by decide)) | omega))]
    have et : (w32 (m 0 11)).toNat = (w32 (mem 0 11)).toNat + k := by rw [e11]; (first | exact Nat.le_of_ble_eq_true rfl | exact (fun h => absurd h.1 (by decide)) | omega)
    have hT' : ∀ y, -128 ≤ w32 y → w32 y ≤ 127 → w32 y = sBs (fb x k) → FcX mem (k + 1) (fb x) (yset (yset m 1 (w32 (m 0 11)).toNat y) 0 11 (m 0 11 + 1)) := fun y y1 y2 y3 => by
      refine ⟨⟨aGok_set (aGok_set hT.1.1 (by rw [agam_A ae_1]; exact ⟨y1, y2⟩)) (by rw [ag_0_11, e1]; exact ⟨by dsimp only; (first | exact Nat.le_of_ble_eq_true rfl | exact (fun h => absurd h.1 (by decide)) | omega), by dsimp only; (first | exact Nat.le_of_ble_eq_true rfl | exact (fun h => absurd h.1 (by decide)) | omega)⟩), fun i j h h' => ?_, by rw [yset_s, e1]; push_cast; (first | exact Nat.le_of_ble_eq_true rfl | exact (fun h => absurd h.1 (by decide)) | omega)⟩, fun j hj => ?_, fun q hq => ?_⟩
      · rw [yset_a]
        split
        · next e =>
          subst e
          rw [if_neg (by (first | exact Nat.le_of_ble_eq_true rfl | exact (fun h => absurd h.1 (by decide)) | omega)), yset_o h]
          exact hT.1.2.1 0 j h h'
        · rw [yset_o h]
          exact hT.1.2.1 i j h h'
      · rw [yset_o (by decide), yset_d (by (first | exact Nat.le_of_ble_eq_true rfl | exact (fun h => absurd h.1 (by decide)) | omega))]
        exact hT.2.1 j (by (first | exact Nat.le_of_ble_eq_true rfl | exact (fun h => absurd h.1 (by decide)) | omega))
      · rw [yset_o (by decide), et]
        by_cases hqk : q = k
        · subst hqk
          rw [yset_s]
          exact y3
        · rw [yset_d (by (first | exact Nat.le_of_ble_eq_true rfl | exact (fun h => absurd h.1 (by decide)) | omega))]
          exact hT.2.2 q (by (first | exact Nat.le_of_ble_eq_true rfl | exact (fun h => absurd h.1 (by decide)) | omega))
    refine zgo_ok (n := 60) hE xmo_39 (cs := zc_39) ?_
    simp only [ynok_30, ynok_31, w32c_0, w32c_1, w32c_2, w32c_3, w32c_4, w32c_5, w32c_6, w32c_7, w32c_8, w32c_9, w32c_10, w32c_11, w32c_12, w32c_13, w32c_14, w32c_m1, w32c_m2, w32c_118, Int.reduceAdd, Int.reduceSub, Int.reduceMul, yput_s, yput_n, znl_n, znl_0, znl_1, znl_4, ysum_n, ysum_0, ysum_1, ysum_4, true_and, and_true, Nat.reduceAdd, Nat.reduceLeDiff, true_implies, eq_self, true_or, or_true, or_false, false_or, not_true_eq_false, not_false_eq_true, false_implies, implies_true, yset_s, yset_o, yset_d, ne_eq, Nat.reduceEqDiff, Int.reduceToNat, Int.reduceEq, Int.reduceLE, Int.reduceLT, Classical.not_not, Nat.reduceLT, ↓zvk_s, ↓zvk_n, ↓s_39_0, ↓s_39_2n, ↓s_39_2i, ↓s_39_2p, ↓g_39_3, ↓k_39_3, ↓s_39_4, ↓s_39_7, ↓s_39_8, ↓s_39_11, ↓s_39_14, ↓s_39_17, ↓s_39_18, ↓s_39_21, ↓s_39_22, ↓s_39_25, ↓s_39_26, ↓s_39_27, ↓s_39_28, ↓s_39_29, ↓s_39_30, ↓s_39_31a, ↓s_39_31b, ↓s_39_32, ↓s_39_35, ↓s_39_36, ↓s_39_37, ↓s_39_40n, ↓s_39_40i, ↓s_39_40p, ↓s_39_43, ↓s_39_46, w32c_24, w32c_800, zio_0, zar_1, zia_1, zln_1, zit_1]
    exact ⟨fun h => absurd h (by (first | exact Nat.le_of_ble_eq_true rfl | exact (fun h => absurd h.1 (by decide)) | omega)), fun _ => ⟨fun h => absurd h (by (first | exact Nat.le_of_ble_eq_true rfl | exact (fun h => absurd h.1 (by decide)) | omega)), fun _ => ⟨⟨by (first | exact Nat.le_of_ble_eq_true rfl | exact (fun h => absurd h.1 (by decide)) | omega), by (first | exact Nat.le_of_ble_eq_true rfl | exact (fun h => absurd h.1 (by decide)) | omega)⟩, hb, ih (s + -8) (k + 1) _ (by (first | exact Nat.le_of_ble_eq_true rfl | exact (fun h => absurd h.1 (by decide)) | omega)) (by (first | exact Nat.le_of_ble_eq_true rfl | exact (fun h => absurd h.1 (by decide)) | omega)) (hT' _ hb.1 hb.2 hv)⟩⟩⟩
theorem x_tapeNumber {E : yE} (hE : yEok E) {D : Nat} (hD : 1 ≤ D) {mem : yMem} {Q : Option yV → yMem → Prop} {x : Int} (hG : aGok mem) (h7 : w32 (mem 0 11) ≤ 796) (hQ : ∀ m, FcX mem 4 (fb x) m → Q none m) : yCon E D xm_39 [(1, 0), (0, x)] mem Q := by
  obtain ⟨d, rfl⟩ := Nat.exists_eq_add_of_le' hD
  refine e_39 ?_
  refine zvc_ok hE 90 zc_39 _ _ _ _ _ _ _ xmo_39 ?_
  have g11 := ag hG 0 11 ag_0_11
  simp only [ynok_30, ynok_31, w32c_0, w32c_1, w32c_2, w32c_3, w32c_4, w32c_5, w32c_6, w32c_7, w32c_8, w32c_9, w32c_10, w32c_11, w32c_12, w32c_13, w32c_14, w32c_m1, w32c_m2, w32c_118, Int.reduceAdd, Int.reduceSub, Int.reduceMul, yput_s, yput_n, znl_n, znl_0, znl_1, znl_4, ysum_n, ysum_0, ysum_1, ysum_4, true_and, and_true, Nat.reduceAdd, Nat.reduceLeDiff, true_implies, eq_self, true_or, or_true, or_false, false_or, not_true_eq_false, not_false_eq_true, false_implies, implies_true, yset_s, yset_o, yset_d, ne_eq, Nat.reduceEqDiff, Int.reduceToNat, Int.reduceEq, Int.reduceLE, Int.reduceLT, Classical.not_not, Nat.reduceLT, ↓zvk_s, ↓zvk_n, ↓s_39_0, ↓s_39_2n, ↓s_39_2i, ↓s_39_2p, ↓g_39_3, ↓k_39_3, ↓s_39_4, ↓s_39_7, ↓s_39_8, ↓s_39_11, ↓s_39_14, ↓s_39_17, ↓s_39_18, ↓s_39_21, ↓s_39_22, ↓s_39_25, ↓s_39_26, ↓s_39_27, ↓s_39_28, ↓s_39_29, ↓s_39_30, ↓s_39_31a, ↓s_39_31b, ↓s_39_32, ↓s_39_35, ↓s_39_36, ↓s_39_37, ↓s_39_40n, ↓s_39_40i, ↓s_39_40p, ↓s_39_43, ↓s_39_46, w32c_24, w32c_800, zio_0, zar_1, zia_1, zln_1, zit_1]
  exact tnx_loop hE g11.1 h7 hQ 4 _ 0 mem rfl (by decide) ⟨⟨hG, fun _ _ _ _ => rfl, by show w32 (mem 0 11) = w32 (mem 0 11) + 0; (first | exact Nat.le_of_ble_eq_true rfl | exact (fun h => absurd h.1 (by decide)) | omega)⟩, fun _ _ => rfl, fun q hq => absurd hq (Nat.not_lt_zero _)⟩
/-- the twenty bytes -/
def gx (a b c e f : Int) (q : Nat) : Int := if q < 16 then (if q < 12 then (if q < 8 then (if q < 4 then fb a q else fb b (q - 4)) else fb c (q - 8)) else fb e (q - 12)) else fb f (q - 16)
def FxX (mem : yMem) (g : Nat → Int) (r : Int) (m : yMem) : Prop := FxQ mem r m ∧ (∀ i j, i ≠ 1 → (i ≠ 0 ∨ j ≠ 11) → m i j = mem i j) ∧ (w32 (mem 0 11) ≤ 780 → (∀ j, (j < (w32 (mem 0 11)).toNat ∨ (w32 (mem 0 11)).toNat + 20 ≤ j) → m 1 j = mem 1 j) ∧ (∀ q, q < 20 → w32 (m 1 ((w32 (mem 0 11)).toNat + q)) = sBs (g q))) ∧ (¬ w32 (mem 0 11) ≤ 780 → ∀ j, m 1 j = mem 1 j)
theorem x_feed {E : yE} (hE : yEok E) {D : Nat} (hD : 2 ≤ D) {mem : yMem} {Q : Option yV → yMem → Prop} {a b c e f : Int} (hG : aGok mem) (hQ : ∀ r m, FxX mem (gx a b c e f) r m → Q (some (0, r)) m) : yCon E D xm_14 [(1, 0), (0, a), (0, b), (0, c), (0, e), (0, f)] mem Q := by
  obtain ⟨d, rfl⟩ := Nat.exists_eq_add_of_le' hD
  refine e_14 ?_
  refine zvc_ok hE 90 [] _ _ _ _ _ _ _ xmo_14 ?_
  have g11 := ag hG 0 11 ag_0_11
  have h0 : 0 ≤ w32 (mem 0 11) := g11.1
  have e20 : w32 (mem 0 11 + 20) = w32 (mem 0 11) + 20 := by rw [w32_ad (by rw [w32c_20]; (first | exact Nat.le_of_ble_eq_true rfl | exact (fun h => absurd h.1 (by decide)) | omega)) (by rw [w32c_20]; (first | exact Nat.le_of_ble_eq_true rfl | exact (fun h => absurd h.1 (by decide)) | omega)), w32c_20]
  simp only [ynok_30, ynok_31, w32c_0, w32c_1, w32c_2, w32c_3, w32c_4, w32c_5, w32c_6, w32c_7, w32c_8, w32c_9, w32c_10, w32c_11, w32c_12, w32c_13, w32c_14, w32c_m1, w32c_m2, w32c_118, Int.reduceAdd, Int.reduceSub, Int.reduceMul, yput_s, yput_n, znl_n, znl_0, znl_1, znl_4, ysum_n, ysum_0, ysum_1, ysum_4, true_and, and_true, Nat.reduceAdd, Nat.reduceLeDiff, true_implies, eq_self, true_or, or_true, or_false, false_or, not_true_eq_false, not_false_eq_true, false_implies, implies_true, yset_s, yset_o, yset_d, ne_eq, Nat.reduceEqDiff, Int.reduceToNat, Int.reduceEq, Int.reduceLE, Int.reduceLT, Classical.not_not, Nat.reduceLT, ↓zvk_s, ↓zvk_n, ↓s_14_0, ↓s_14_1, ↓s_14_4, ↓s_14_6, ↓s_14_7, ↓s_14_10, ↓s_14_13, ↓s_14_14, ↓s_14_15, ↓s_14_16, ↓s_14_17, ↓s_14_20, ↓s_14_21, ↓s_14_22, ↓s_14_25, ↓s_14_26, ↓s_14_27, ↓s_14_30, ↓s_14_31, ↓s_14_33, ↓s_14_36, ↓s_14_37, ↓s_14_39, ↓s_14_42, ↓s_14_43, ↓s_14_46, w32c_20, w32c_800, zio_0]
  refine ⟨fun h => ?_, fun h => hQ _ _ ⟨⟨hG, fun _ _ _ => rfl, by rw [if_neg (by (first | exact Nat.le_of_ble_eq_true rfl | exact (fun h => absurd h.1 (by decide)) | omega))]; exact ⟨by decide, rfl⟩⟩, fun _ _ _ _ => rfl, fun z => absurd z (by (first | exact Nat.le_of_ble_eq_true rfl | exact (fun h => absurd h.1 (by decide)) | omega)), fun _ _ => rfl⟩⟩
  refine x_tapeNumber hE (by (first | exact Nat.le_of_ble_eq_true rfl | exact (fun h => absurd h.1 (by decide)) | omega)) hG (by (first | exact Nat.le_of_ble_eq_true rfl | exact (fun h => absurd h.1 (by decide)) | omega)) (fun m1 T1 => ?_)
  refine zgk_n hE xmo_14 60 [] ?_
  simp only [ynok_30, ynok_31, w32c_0, w32c_1, w32c_2, w32c_3, w32c_4, w32c_5, w32c_6, w32c_7, w32c_8, w32c_9, w32c_10, w32c_11, w32c_12, w32c_13, w32c_14, w32c_m1, w32c_m2, w32c_118, Int.reduceAdd, Int.reduceSub, Int.reduceMul, yput_s, yput_n, znl_n, znl_0, znl_1, znl_4, ysum_n, ysum_0, ysum_1, ysum_4, true_and, and_true, Nat.reduceAdd, Nat.reduceLeDiff, true_implies, eq_self, true_or, or_true, or_false, false_or, not_true_eq_false, not_false_eq_true, false_implies, implies_true, yset_s, yset_o, yset_d, ne_eq, Nat.reduceEqDiff, Int.reduceToNat, Int.reduceEq, Int.reduceLE, Int.reduceLT, Classical.not_not, Nat.reduceLT, ↓zvk_s, ↓zvk_n, ↓s_14_0, ↓s_14_1, ↓s_14_4, ↓s_14_6, ↓s_14_7, ↓s_14_10, ↓s_14_13, ↓s_14_14, ↓s_14_15, ↓s_14_16, ↓s_14_17, ↓s_14_20, ↓s_14_21, ↓s_14_22, ↓s_14_25, ↓s_14_26, ↓s_14_27, ↓s_14_30, ↓s_14_31, ↓s_14_33, ↓s_14_36, ↓s_14_37, ↓s_14_39, ↓s_14_42, ↓s_14_43, ↓s_14_46, w32c_20, w32c_800, zio_0]
  refine x_tapeNumber hE (by (first | exact Nat.le_of_ble_eq_true rfl | exact (fun h => absurd h.1 (by decide)) | omega)) T1.1.1 (by have := T1.1.2.2; (first | exact Nat.le_of_ble_eq_true rfl | exact (fun h => absurd h.1 (by decide)) | omega)) (fun m2 T2 => ?_)
  have T2 := FcX_tr h0 T1 T2
  refine zgk_n hE xmo_14 60 [] ?_
  simp only [ynok_30, ynok_31, w32c_0, w32c_1, w32c_2, w32c_3, w32c_4, w32c_5, w32c_6, w32c_7, w32c_8, w32c_9, w32c_10, w32c_11, w32c_12, w32c_13, w32c_14, w32c_m1, w32c_m2, w32c_118, Int.reduceAdd, Int.reduceSub, Int.reduceMul, yput_s, yput_n, znl_n, znl_0, znl_1, znl_4, ysum_n, ysum_0, ysum_1, ysum_4, true_and, and_true, Nat.reduceAdd, Nat.reduceLeDiff, true_implies, eq_self, true_or, or_true, or_false, false_or, not_true_eq_false, not_false_eq_true, false_implies, implies_true, yset_s, yset_o, yset_d, ne_eq, Nat.reduceEqDiff, Int.reduceToNat, Int.reduceEq, Int.reduceLE, Int.reduceLT, Classical.not_not, Nat.reduceLT, ↓zvk_s, ↓zvk_n, ↓s_14_0, ↓s_14_1, ↓s_14_4, ↓s_14_6, ↓s_14_7, ↓s_14_10, ↓s_14_13, ↓s_14_14, ↓s_14_15, ↓s_14_16, ↓s_14_17, ↓s_14_20, ↓s_14_21, ↓s_14_22, ↓s_14_25, ↓s_14_26, ↓s_14_27, ↓s_14_30, ↓s_14_31, ↓s_14_33, ↓s_14_36, ↓s_14_37, ↓s_14_39, ↓s_14_42, ↓s_14_43, ↓s_14_46, w32c_20, w32c_800, zio_0]
  refine x_tapeNumber hE (by (first | exact Nat.le_of_ble_eq_true rfl | exact (fun h => absurd h.1 (by decide)) | omega)) T2.1.1 (by have := T2.1.2.2; (first | exact Nat.le_of_ble_eq_true rfl | exact (fun h => absurd h.1 (by decide)) | omega)) (fun m3 T3 => ?_)
  have T3 := FcX_tr h0 T2 T3
  refine zgk_n hE xmo_14 60 [] ?_
  simp only [ynok_30, ynok_31, w32c_0, w32c_1, w32c_2, w32c_3, w32c_4, w32c_5, w32c_6, w32c_7, w32c_8, w32c_9, w32c_10, w32c_11, w32c_12, w32c_13, w32c_14, w32c_m1, w32c_m2, w32c_118, Int.reduceAdd, Int.reduceSub, Int.reduceMul, yput_s, yput_n, znl_n, znl_0, znl_1, znl_4, ysum_n, ysum_0, ysum_1, ysum_4, true_and, and_true, Nat.reduceAdd, Nat.reduceLeDiff, true_implies, eq_self, true_or, or_true, or_false, false_or, not_true_eq_false, not_false_eq_true, false_implies, implies_true, yset_s, yset_o, yset_d, ne_eq, Nat.reduceEqDiff, Int.reduceToNat, Int.reduceEq, Int.reduceLE, Int.reduceLT, Classical.not_not, Nat.reduceLT, ↓zvk_s, ↓zvk_n, ↓s_14_0, ↓s_14_1, ↓s_14_4, ↓s_14_6, ↓s_14_7, ↓s_14_10, ↓s_14_13, ↓s_14_14, ↓s_14_15, ↓s_14_16, ↓s_14_17, ↓s_14_20, ↓s_14_21, ↓s_14_22, ↓s_14_25, ↓s_14_26, ↓s_14_27, ↓s_14_30, ↓s_14_31, ↓s_14_33, ↓s_14_36, ↓s_14_37, ↓s_14_39, ↓s_14_42, ↓s_14_43, ↓s_14_46, w32c_20, w32c_800, zio_0]
  refine x_tapeNumber hE (by (first | exact Nat.le_of_ble_eq_true rfl | exact (fun h => absurd h.1 (by decide)) | omega)) T3.1.1 (by have := T3.1.2.2; (first | exact Nat.le_of_ble_eq_true rfl | exact (fun h => absurd h.1 (by decide)) | omega)) (fun m4 T4 => ?_)
  have T4 := FcX_tr h0 T3 T4
  refine zgk_n hE xmo_14 60 [] ?_
  simp only [ynok_30, ynok_31, w32c_0, w32c_1, w32c_2, w32c_3, w32c_4, w32c_5, w32c_6, w32c_7, w32c_8, w32c_9, w32c_10, w32c_11, w32c_12, w32c_13, w32c_14, w32c_m1, w32c_m2, w32c_118, Int.reduceAdd, Int.reduceSub, Int.reduceMul, yput_s, yput_n, znl_n, znl_0, znl_1, znl_4, ysum_n, ysum_0, ysum_1, ysum_4, true_and, and_true, Nat.reduceAdd, Nat.reduceLeDiff, true_implies, eq_self, true_or, or_true, or_false, false_or, not_true_eq_false, not_false_eq_true, false_implies, implies_true, yset_s, yset_o, yset_d, ne_eq, Nat.reduceEqDiff, Int.reduceToNat, Int.reduceEq, Int.reduceLE, Int.reduceLT, Classical.not_not, Nat.reduceLT, ↓zvk_s, ↓zvk_n, ↓s_14_0, ↓s_14_1, ↓s_14_4, ↓s_14_6, ↓s_14_7, ↓s_14_10, ↓s_14_13, ↓s_14_14, ↓s_14_15, ↓s_14_16, ↓s_14_17, ↓s_14_20, ↓s_14_21, ↓s_14_22, ↓s_14_25, ↓s_14_26, ↓s_14_27, ↓s_14_30, ↓s_14_31, ↓s_14_33, ↓s_14_36, ↓s_14_37, ↓s_14_39, ↓s_14_42, ↓s_14_43, ↓s_14_46, w32c_20, w32c_800, zio_0]
  refine x_tapeNumber hE (by (first | exact Nat.le_of_ble_eq_true rfl | exact (fun h => absurd h.1 (by decide)) | omega)) T4.1.1 (by have := T4.1.2.2; (first | exact Nat.le_of_ble_eq_true rfl | exact (fun h => absurd h.1 (by decide)) | omega)) (fun m5 T5 => ?_)
  have T5 := FcX_tr h0 T4 T5
  refine zgk_n hE xmo_14 60 [] ?_
  simp only [ynok_30, ynok_31, w32c_0, w32c_1, w32c_2, w32c_3, w32c_4, w32c_5, w32c_6, w32c_7, w32c_8, w32c_9, w32c_10, w32c_11, w32c_12, w32c_13, w32c_14, w32c_m1, w32c_m2, w32c_118, Int.reduceAdd, Int.reduceSub, Int.reduceMul, yput_s, yput_n, znl_n, znl_0, znl_1, znl_4, ysum_n, ysum_0, ysum_1, ysum_4, true_and, and_true, Nat.reduceAdd, Nat.reduceLeDiff, true_implies, eq_self, true_or, or_true, or_false, false_or, not_true_eq_false, not_false_eq_true, false_implies, implies_true, yset_s, yset_o, yset_d, ne_eq, Nat.reduceEqDiff, Int.reduceToNat, Int.reduceEq, Int.reduceLE, Int.reduceLT, Classical.not_not, Nat.reduceLT, ↓zvk_s, ↓zvk_n, ↓s_14_0, ↓s_14_1, ↓s_14_4, ↓s_14_6, ↓s_14_7, ↓s_14_10, ↓s_14_13, ↓s_14_14, ↓s_14_15, ↓s_14_16, ↓s_14_17, ↓s_14_20, ↓s_14_21, ↓s_14_22, ↓s_14_25, ↓s_14_26, ↓s_14_27, ↓s_14_30, ↓s_14_31, ↓s_14_33, ↓s_14_36, ↓s_14_37, ↓s_14_39, ↓s_14_42, ↓s_14_43, ↓s_14_46, w32c_20, w32c_800, zio_0]
  have e5 := T5.1.2.2
  exact hQ _ _ ⟨⟨T5.1.1, fun i j hi => T5.1.2.1 i j (by (first | exact Nat.le_of_ble_eq_true rfl | exact (fun h => absurd h.1 (by decide)) | omega)) (Or.inl (by (first | exact Nat.le_of_ble_eq_true rfl | exact (fun h => absurd h.1 (by decide)) | omega))), by rw [if_pos (by (first | exact Nat.le_of_ble_eq_true rfl | exact (fun h => absurd h.1 (by decide)) | omega))]; (first | exact Nat.le_of_ble_eq_true rfl | exact (fun h => absurd h.1 (by decide)) | omega)⟩, T5.1.2.1, fun _ => ⟨T5.2.1, T5.2.2⟩, fun z => absurd (show w32 (mem 0 11) ≤ 780 by (first | exact Nat.le_of_ble_eq_true rfl | exact (fun h => absurd h.1 (by decide)) | omega)) z⟩
/-- feed of the reference, its bytes -/
def FrX (mem : yMem) (g : Nat → Int) (r : Int) (m : yMem) : Prop := FrQ mem r m ∧ (w32 (mem 95 2) ≤ 780 → (∀ j, (j < (w32 (mem 95 2)).toNat ∨ (w32 (mem 95 2)).toNat + 20 ≤ j) → m 96 j = mem 96 j) ∧ (∀ q, q < 20 → w32 (m 96 ((w32 (mem 95 2)).toNat + q)) = g q)) ∧ (¬ w32 (mem 95 2) ≤ 780 → ∀ j, m 96 j = mem 96 j) ∧ (∀ j, j ≠ 0 → j ≠ 2 → m 95 j = mem 95 j)
theorem fex_loop {E : yE} (hE : yEok E) {d : Nat} {mem : yMem} {Q : Option yV → yMem → Prop} {a b c e f : Int} (hG : aGok mem) (h7 : w32 (mem 95 2) ≤ 780) (hQ : ∀ r m, FrX mem (gx a b c e f) r m → Q (some (0, r)) m) : ∀ (n : Nat) (k : Int) (r7 : Option yV) (m : yMem), (20 - w32 k).toNat = n → 0 ≤ w32 k → w32 k ≤ 20 → aGok m → (∀ i j, i ≠ 96 → m i j = mem i j) → (∀ j, (j < (w32 (mem 95 2)).toNat ∨ (w32 (mem 95 2)).toNat + (w32 k).toNat ≤ j) → m 96 j = mem 96 j) → (∀ q, q < (w32 k).toNat → w32 (m 96 ((w32 (mem 95 2)).toNat + q)) = gx a b c e f q) → zG E d xm_167 20 [some (1, 95), some (0, a), some (0, b), some (0, c), some (0, e), some (0, f), some (0, k), r7] [] m Q := by
  have g2 := ag hG 95 2 ag_95_2
  have g20 : 0 ≤ w32 (mem 95 2) := g2.1
  intro n
  induction n with
  | zero =>
    intro k r7 m hn h0 h1 hGm hF hO hC
    have e2 : m 95 2 = mem 95 2 := hF 95 2 (by decide)
    have e20 : w32 (mem 95 2 + 20) = w32 (mem 95 2) + 20 := by rw [w32_ad (by rw [w32c_20]; (first | exact Nat.le_of_ble_eq_true rfl | exact (fun h => absurd h.1 (by decide)) | omega)) (by rw [w32c_20]; (first | exact Nat.le_of_ble_eq_true rfl | exact (fun h => absurd h.1 (by decide)) | omega)), w32c_20]
    have ek : (w32 k).toNat = 20 := by (first | exact Nat.le_of_ble_eq_true rfl | exact (fun h => absurd h.1 (by decide)) | omega)
    rw [ek] at hO hC
    refine zgo_ok (n := 60) hE xmo_167 (cs := zc_167) ?_
    simp only [ynok_30, ynok_31, w32c_0, w32c_1, w32c_2, w32c_3, w32c_4, w32c_5, w32c_6, w32c_7, w32c_8, w32c_9, w32c_10, w32c_11, w32c_12, w32c_13, w32c_14, w32c_m1, w32c_m2, w32c_118, Int.reduceAdd, Int.reduceSub, Int.reduceMul, yput_s, yput_n, znl_n, znl_0, znl_1, znl_4, ysum_n, ysum_0, ysum_1, ysum_4, true_and, and_true, Nat.reduceAdd, Nat.reduceLeDiff, true_implies, eq_self, true_or, or_true, or_false, false_or, not_true_eq_false, not_false_eq_true, false_implies, implies_true, yset_s, yset_o, yset_d, ne_eq, Nat.reduceEqDiff, Int.reduceToNat, Int.reduceEq, Int.reduceLE, Int.reduceLT, Classical.not_not, Nat.reduceLT, ↓zvk_s, ↓zvk_n, ↓s_167_0, ↓s_167_1, ↓s_167_2, ↓s_167_5, ↓s_167_6, ↓s_167_9, ↓s_167_12, ↓s_167_15, ↓s_167_16, ↓s_167_17, ↓s_167_18n, ↓s_167_18i, ↓s_167_18p, ↓g_167_20, ↓k_167_20, ↓s_167_22, ↓s_167_24, ↓s_167_27, ↓s_167_29, ↓s_167_30, ↓s_167_33, ↓s_167_34, ↓s_167_37, ↓s_167_39, ↓s_167_41, ↓s_167_44, ↓s_167_45, ↓s_167_48, ↓s_167_50, ↓s_167_52, ↓s_167_55, ↓s_167_56, ↓s_167_59, ↓s_167_61, ↓s_167_63, ↓s_167_66, ↓s_167_68, ↓s_167_71, ↓g_167_73n, ↓g_167_73i, ↓g_167_73p, ↓k_167_73, ↓s_167_75, ↓s_167_76, ↓s_167_79, ↓s_167_80, ↓s_167_83, ↓s_167_85, ↓s_167_86, ↓s_167_88, ↓s_167_90, ↓s_167_92, ↓s_167_94, ↓s_167_95, ↓s_167_96, ↓s_167_97, ↓s_167_98, ↓s_167_99, ↓s_167_102, ↓s_167_103, ↓s_167_104n, ↓s_167_104i, ↓s_167_104p, ↓s_167_107, ↓s_167_110, ↓s_167_111a, ↓s_167_111b, ↓s_167_112, ↓s_167_115, ↓s_167_117, ↓s_167_118, ↓s_167_121, ↓s_167_122, ↓s_167_125, w32c_780, w32c_20, w32c_16, w32c_24, w32c_255, zar_96, zia_96, zln_96, zit_96, zio_95]
    rw [e2]
    refine ⟨fun _ => hQ _ _ ⟨⟨aGok_set hGm (by rw [ag_95_2, e20]; exact ⟨by dsimp only; (first | exact Nat.le_of_ble_eq_true rfl | exact (fun h => absurd h.1 (by decide)) | omega), by dsimp only; (first | exact Nat.le_of_ble_eq_true rfl | exact (fun h => absurd h.1 (by decide)) | omega)⟩), fun i j i1 i2 => by rw [yset_o i1]; exact hF i j i2, by rw [if_pos h7]; exact ⟨e20, by rw [yset_s]; exact e20⟩⟩, fun _ => ⟨fun j hj => by rw [yset_o (by decide)]; exact hO j hj, fun q hq => by rw [yset_o (by decide)]; exact hC q hq⟩, fun z => absurd h7 z, fun j _ j2 => by rw [yset_d j2]; exact hF 95 j (by decide)⟩, fun h => absurd (show (20 : Int) ≤ w32 k by (first | exact Nat.le_of_ble_eq_true rfl | exact (fun h => absurd h.1 (by decide)) | omega)) h⟩
  | succ n ih =>
    intro k r7 m hn h0 h1 hGm hF hO hC
    have e2 : m 95 2 = mem 95 2 := hF 95 2 (by decide)
    have e1 : w32 (k + 1) = w32 k + 1 := by rw [w32_ad (by rw [w32c_1]; (first | exact Nat.le_of_ble_eq_true rfl | exact (fun h => absurd h.1 (by decide)) | omega)) (by rw [w32c_1]; (first | exact Nat.le_of_ble_eq_true rfl | exact (fun h => absurd h.1 (by decide)) | omega)), w32c_1]
    have e1n : (w32 (k + 1)).toNat = (w32 k).toNat + 1 := by rw [e1]; (first | exact Nat.le_of_ble_eq_true rfl | exact (fun h => absurd h.1 (by decide)) | omega)
    have ek : w32 (mem 95 2 + k) = w32 (mem 95 2) + w32 k := w32_ad (by (first | exact Nat.le_of_ble_eq_true rfl | exact (fun h => absurd h.1 (by decide)) | omega)) (by (first | exact Nat.le_of_ble_eq_true rfl | exact (fun h => absurd h.1 (by decide)) | omega))
    have ekn : (w32 (mem 95 2 + k)).toNat = (w32 (mem 95 2)).toNat + (w32 k).toNat := by rw [ek]; (first | exact Nat.le_of_ble_eq_true rfl | exact (fun h => absurd h.1 (by decide)) | omega)
    have e4 : w32 4 = 4 := by decide
    have er : w32 (ybin 10 k 4) = (((w32 k).toNat % 4 : Nat) : Int) := by
      have wt : w32 (ybin 10 k 4) = (fbin 10 (iI k) (iI 4)).toInt := by
        show (Int32.ofInt (fbin 10 (iI k) (iI 4)).toInt).toInt = _
        rw [Int32.ofInt_toInt]
      rw [wt, y_rem h0 (by rw [e4]; decide), e4]
      (first | exact Nat.le_of_ble_eq_true rfl | exact (fun h => absurd h.1 (by decide)) | omega)
    have e8r : w32 (8 * ybin 10 k 4) = 8 * (((w32 k).toNat % 4 : Nat) : Int) := by rw [w32_k (by decide) (by rw [er]; (first | exact Nat.le_of_ble_eq_true rfl | exact (fun h => absurd h.1 (by decide)) | omega)) (by rw [er]; (first | exact Nat.le_of_ble_eq_true rfl | exact (fun h => absurd h.1 (by decide)) | omega)), er]
    have es : w32 (24 - 8 * ybin 10 k 4) = 24 - 8 * (((w32 k).toNat % 4 : Nat) : Int) := by
      rw [w32_sb (by rw [show w32 24 = 24 by decide, e8r]; (first | exact Nat.le_of_ble_eq_true rfl | exact (fun h => absurd h.1 (by decide)) | omega)) (by rw [show w32 24 = 24 by decide, e8r]; (first | exact Nat.le_of_ble_eq_true rfl | exact (fun h => absurd h.1 (by decide)) | omega)), show w32 24 = 24 by decide, e8r]
    have f73 : ∀ (v : Int) (r7 : Option yV), fb v ((w32 k).toNat % 4) = gx a b c e f (w32 k).toNat → zG E d xm_167 73 [some (1, 95), some (0, a), some (0, b), some (0, c), some (0, e), some (0, f), some (0, k), r7] [(0, v)] m Q := fun v r7 hv => by
      refine zgo_ok (n := 60) hE xmo_167 (cs := zc_167) ?_
      simp only [ynok_30, ynok_31, w32c_0, w32c_1, w32c_2, w32c_3, w32c_4, w32c_5, w32c_6, w32c_7, w32c_8, w32c_9, w32c_10, w32c_11, w32c_12, w32c_13, w32c_14, w32c_m1, w32c_m2, w32c_118, Int.reduceAdd, Int.reduceSub, Int.reduceMul, yput_s, yput_n, znl_n, znl_0, znl_1, znl_4, ysum_n, ysum_0, ysum_1, ysum_4, true_and, and_true, Nat.reduceAdd, Nat.reduceLeDiff, true_implies, eq_self, true_or, or_true, or_false, false_or, not_true_eq_false, not_false_eq_true, false_implies, implies_true, yset_s, yset_o, yset_d, ne_eq, Nat.reduceEqDiff, Int.reduceToNat, Int.reduceEq, Int.reduceLE, Int.reduceLT, Classical.not_not, Nat.reduceLT, ↓zvk_s, ↓zvk_n, ↓s_167_0, ↓s_167_1, ↓s_167_2, ↓s_167_5, ↓s_167_6, ↓s_167_9, ↓s_167_12, ↓s_167_15, ↓s_167_16, ↓s_167_17, ↓s_167_18n, ↓s_167_18i, ↓s_167_18p, ↓s_167_18j, ↓g_167_20, ↓k_167_20, ↓s_167_22, ↓s_167_24, ↓s_167_27, ↓s_167_29, ↓s_167_30, ↓s_167_33, ↓s_167_34, ↓s_167_37, ↓s_167_39, ↓s_167_41, ↓s_167_44, ↓s_167_45, ↓s_167_48, ↓s_167_50, ↓s_167_52, ↓s_167_55, ↓s_167_56, ↓s_167_59, ↓s_167_61, ↓s_167_63, ↓s_167_66, ↓s_167_68, ↓s_167_71, ↓g_167_73n, ↓g_167_73i, ↓g_167_73p, ↓g_167_73j, ↓k_167_73, ↓s_167_75, ↓s_167_76, ↓s_167_79, ↓s_167_80, ↓s_167_83, ↓s_167_85, ↓s_167_86, ↓s_167_88, ↓s_167_90, ↓s_167_92, ↓s_167_94, ↓s_167_95, ↓s_167_96, ↓s_167_97, ↓s_167_98, ↓s_167_99, ↓s_167_102, ↓s_167_103, ↓s_167_104n, ↓s_167_104i, ↓s_167_104p, ↓s_167_104j, ↓s_167_107, ↓s_167_110, ↓s_167_111a, ↓s_167_111b, ↓s_167_112, ↓s_167_115, ↓s_167_117, ↓s_167_118, ↓s_167_121, ↓s_167_122, ↓s_167_125, w32c_780, w32c_20, w32c_16, w32c_24, w32c_255, zar_96, zia_96, zln_96, zit_96, zio_95]
      rw [e2]
      refine ⟨⟨by (first | exact Nat.le_of_ble_eq_true rfl | exact (fun h => absurd h.1 (by decide)) | omega), by (first | exact Nat.le_of_ble_eq_true rfl | exact (fun h => absurd h.1 (by decide)) | omega)⟩, ih (k + 1) _ _ (by (first | exact Nat.le_of_ble_eq_true rfl | exact (fun h => absurd h.1 (by decide)) | omega)) (by (first | exact Nat.le_of_ble_eq_true rfl | exact (fun h => absurd h.1 (by decide)) | omega)) (by (first | exact Nat.le_of_ble_eq_true rfl | exact (fun h => absurd h.1 (by decide)) | omega)) (aGok_set hGm (by rw [agam_A ae_96]; exact and255 _)) (fun i j hi => by rw [yset_o hi]; exact hF i j hi) (fun j hj => ?_) (fun q hq => ?_)⟩
      · rw [ekn, yset_d (by (first | exact Nat.le_of_ble_eq_true rfl | exact (fun h => absurd h.1 (by decide)) | omega))]
        exact hO j (by (first | exact Nat.le_of_ble_eq_true rfl | exact (fun h => absurd h.1 (by decide)) | omega))
      · rw [ekn]
        by_cases hqk : q = (w32 k).toNat
        · subst hqk
          rw [yset_s, fb_of (q := (w32 k).toNat % 4) (by (first | exact Nat.le_of_ble_eq_true rfl | exact (fun h => absurd h.1 (by decide)) | omega)) es]
          exact hv
        · rw [yset_d (by (first | exact Nat.le_of_ble_eq_true rfl | exact (fun h => absurd h.1 (by decide)) | omega))]
          exact hC q (by (first | exact Nat.le_of_ble_eq_true rfl | exact (fun h => absurd h.1 (by decide)) | omega))
    have g1 : w32 k < 4 → fb a ((w32 k).toNat % 4) = gx a b c e f (w32 k).toNat := fun z => by
      unfold gx
      rw [if_pos (by (first | exact Nat.le_of_ble_eq_true rfl | exact (fun h => absurd h.1 (by decide)) | omega)), if_pos (by (first | exact Nat.le_of_ble_eq_true rfl | exact (fun h => absurd h.1 (by decide)) | omega)), if_pos (by (first | exact Nat.le_of_ble_eq_true rfl | exact (fun h => absurd h.1 (by decide)) | omega)), if_pos (by (first | exact Nat.le_of_ble_eq_true rfl | exact (fun h => absurd h.1 (by decide)) | omega)), show (w32 k).toNat % 4 = (w32 k).toNat by (first | exact Nat.le_of_ble_eq_true rfl | exact (fun h => absurd h.1 (by decide)) | omega)]
    have g2' : 4 ≤ w32 k → w32 k < 8 → fb b ((w32 k).toNat % 4) = gx a b c e f (w32 k).toNat := fun z1 z2 => by
      unfold gx
      rw [if_pos (by (first | exact Nat.le_of_ble_eq_true rfl | exact (fun h => absurd h.1 (by decide)) | omega)), if_pos (by (first | exact Nat.le_of_ble_eq_true rfl | exact (fun h => absurd h.1 (by decide)) | omega)), if_pos (by (first | exact Nat.le_of_ble_eq_true rfl | exact (fun h => absurd h.1 (by decide)) | omega)), if_neg (by (first | exact Nat.le_of_ble_eq_true rfl | exact (fun h => absurd h.1 (by decide)) | omega)), show (w32 k).toNat % 4 = (w32 k).toNat - 4 by (first | exact Nat.le_of_ble_eq_true rfl | exact (fun h => absurd h.1 (by decide)) | omega)]
    have g3 : 8 ≤ w32 k → w32 k < 12 → fb c ((w32 k).toNat % 4) = gx a b c e f (w32 k).toNat := fun z1 z2 => by
      unfold gx
      rw [if_pos (by (first | exact Nat.le_of_ble_eq_true rfl | exact (fun h => absurd h.1 (by decide)) | omega)), if_pos (by (first | exact Nat.le_of_ble_eq_true rfl | exact (fun h => absurd h.1 (by decide)) | omega)), if_neg (by (first | exact Nat.le_of_ble_eq_true rfl | exact (fun h => absurd h.1 (by decide)) | omega)), show (w32 k).toNat % 4 = (w32 k).toNat - 8 by (first | exact Nat.le_of_ble_eq_true rfl | exact (fun h => absurd h.1 (by decide)) | omega)]
    have g4 : 12 ≤ w32 k → w32 k < 16 → fb e ((w32 k).toNat % 4) = gx a b c e f (w32 k).toNat := fun z1 z2 => by
      unfold gx
      rw [if_pos (by (first | exact Nat.le_of_ble_eq_true rfl | exact (fun h => absurd h.1 (by decide)) | omega)), if_neg (by (first | exact Nat.le_of_ble_eq_true rfl | exact (fun h => absurd h.1 (by decide)) | omega)), show (w32 k).toNat % 4 = (w32 k).toNat - 12 by (first | exact Nat.le_of_ble_eq_true rfl | exact (fun h => absurd h.1 (by decide)) | omega)]
    have g5 : 16 ≤ w32 k → fb f ((w32 k).toNat % 4) = gx a b c e f (w32 k).toNat := fun z1 => by
      unfold gx
      rw [if_neg (by (first | exact Nat.le_of_ble_eq_true rfl | exact (fun h => absurd h.1 (by decide)) | omega)), show (w32 k).toNat % 4 = (w32 k).toNat - 16 by (first | exact Nat.le_of_ble_eq_true rfl | exact (fun h => absurd h.1 (by decide)) | omega)]
    refine zgo_ok (n := 60) hE xmo_167 (cs := zc_167) ?_
    simp only [ynok_30, ynok_31, w32c_0, w32c_1, w32c_2, w32c_3, w32c_4, w32c_5, w32c_6, w32c_7, w32c_8, w32c_9, w32c_10, w32c_11, w32c_12, w32c_13, w32c_14, w32c_m1, w32c_m2, w32c_118, Int.reduceAdd, Int.reduceSub, Int.reduceMul, yput_s, yput_n, znl_n, znl_0, znl_1, znl_4, ysum_n, ysum_0, ysum_1, ysum_4, true_and, and_true, Nat.reduceAdd, Nat.reduceLeDiff, true_implies, eq_self, true_or, or_true, or_false, false_or, not_true_eq_false, not_false_eq_true, false_implies, implies_true, yset_s, yset_o, yset_d, ne_eq, Nat.reduceEqDiff, Int.reduceToNat, Int.reduceEq, Int.reduceLE, Int.reduceLT, Classical.not_not, Nat.reduceLT, ↓zvk_s, ↓zvk_n, ↓s_167_0, ↓s_167_1, ↓s_167_2, ↓s_167_5, ↓s_167_6, ↓s_167_9, ↓s_167_12, ↓s_167_15, ↓s_167_16, ↓s_167_17, ↓s_167_18n, ↓s_167_18i, ↓s_167_18p, ↓g_167_20, ↓k_167_20, ↓s_167_22, ↓s_167_24, ↓s_167_27, ↓s_167_29, ↓s_167_30, ↓s_167_33, ↓s_167_34, ↓s_167_37, ↓s_167_39, ↓s_167_41, ↓s_167_44, ↓s_167_45, ↓s_167_48, ↓s_167_50, ↓s_167_52, ↓s_167_55, ↓s_167_56, ↓s_167_59, ↓s_167_61, ↓s_167_63, ↓s_167_66, ↓s_167_68, ↓s_167_71, ↓g_167_73n, ↓g_167_73i, ↓g_167_73p, ↓k_167_73, ↓s_167_75, ↓s_167_76, ↓s_167_79, ↓s_167_80, ↓s_167_83, ↓s_167_85, ↓s_167_86, ↓s_167_88, ↓s_167_90, ↓s_167_92, ↓s_167_94, ↓s_167_95, ↓s_167_96, ↓s_167_97, ↓s_167_98, ↓s_167_99, ↓s_167_102, ↓s_167_103, ↓s_167_104n, ↓s_167_104i, ↓s_167_104p, ↓s_167_107, ↓s_167_110, ↓s_167_111a, ↓s_167_111b, ↓s_167_112, ↓s_167_115, ↓s_167_117, ↓s_167_118, ↓s_167_121, ↓s_167_122, ↓s_167_125, w32c_780, w32c_20, w32c_16, w32c_24, w32c_255, zar_96, zia_96, zln_96, zit_96, zio_95]
    repeat' first | exact f73 a _ (g1 (by (first | exact Nat.le_of_ble_eq_true rfl | exact (fun h => absurd h.1 (by decide)) | omega))) | exact f73 b _ (g2' (by (first | exact Nat.le_of_ble_eq_true rfl | exact (fun h => absurd h.1 (by decide)) | omega)) (by (first | exact Nat.le_of_ble_eq_true rfl | exact (fun h => absurd h.1 (by decide)) | omega))) | exact f73 c _ (g3 (by (first | exact Nat.le_of_ble_eq_true rfl | exact (fun h => absurd h.1 (by decide)) | omega)) (by (first | exact Nat.le_of_ble_eq_true rfl | exact (fun h => absurd h.1 (by decide)) | omega))) | exact f73 e _ (g4 (by (first | exact Nat.le_of_ble_eq_true rfl | exact (fun h => absurd h.1 (by decide)) | omega)) (by (first | exact Nat.le_of_ble_eq_true rfl | exact (fun h => absurd h.1 (by decide)) | omega))) | exact f73 f _ (g5 (by (first | exact Nat.le_of_ble_eq_true rfl | exact (fun h => absurd h.1 (by decide)) | omega))) | (first | exact Nat.le_of_ble_eq_true rfl | exact (fun h => absurd h.1 (by decide)) | omega) | refine And.intro ?_ ?_ | intro _
theorem rx_feed {E : yE} (hE : yEok E) {D : Nat} (hD : 1 ≤ D) {mem : yMem} {Q : Option yV → yMem → Prop} {a b c e f : Int} (hG : aGok mem) (hQ : ∀ r m, FrX mem (gx a b c e f) r m → Q (some (0, r)) m) : yCon E D xm_167 [(1, 95), (0, a), (0, b), (0, c), (0, e), (0, f)] mem Q := by
  obtain ⟨d, rfl⟩ := Nat.exists_eq_add_of_le' hD
  refine e_167 ?_
  refine zvc_ok hE 90 zc_167 _ _ _ _ _ _ _ xmo_167 ?_
  have hG0 : aGok (yset mem 95 0 0) := aGok_set hG (ag_32 ag_95_0)
  have e2 : yset mem 95 0 0 95 2 = mem 95 2 := yset_d (by decide)
  have e6 : ∀ j, yset mem 95 0 0 96 j = mem 96 j := fun j => yset_o (by decide)
  simp only [ynok_30, ynok_31, w32c_0, w32c_1, w32c_2, w32c_3, w32c_4, w32c_5, w32c_6, w32c_7, w32c_8, w32c_9, w32c_10, w32c_11, w32c_12, w32c_13, w32c_14, w32c_m1, w32c_m2, w32c_118, Int.reduceAdd, Int.reduceSub, Int.reduceMul, yput_s, yput_n, znl_n, znl_0, znl_1, znl_4, ysum_n, ysum_0, ysum_1, ysum_4, true_and, and_true, Nat.reduceAdd, Nat.reduceLeDiff, true_implies, eq_self, true_or, or_true, or_false, false_or, not_true_eq_false, not_false_eq_true, false_implies, implies_true, yset_s, yset_o, yset_d, ne_eq, Nat.reduceEqDiff, Int.reduceToNat, Int.reduceEq, Int.reduceLE, Int.reduceLT, Classical.not_not, Nat.reduceLT, ↓zvk_s, ↓zvk_n, ↓s_167_0, ↓s_167_1, ↓s_167_2, ↓s_167_5, ↓s_167_6, ↓s_167_9, ↓s_167_12, ↓s_167_15, ↓s_167_16, ↓s_167_17, ↓s_167_18n, ↓s_167_18i, ↓s_167_18p, ↓g_167_20, ↓k_167_20, ↓s_167_22, ↓s_167_24, ↓s_167_27, ↓s_167_29, ↓s_167_30, ↓s_167_33, ↓s_167_34, ↓s_167_37, ↓s_167_39, ↓s_167_41, ↓s_167_44, ↓s_167_45, ↓s_167_48, ↓s_167_50, ↓s_167_52, ↓s_167_55, ↓s_167_56, ↓s_167_59, ↓s_167_61, ↓s_167_63, ↓s_167_66, ↓s_167_68, ↓s_167_71, ↓g_167_73n, ↓g_167_73i, ↓g_167_73p, ↓k_167_73, ↓s_167_75, ↓s_167_76, ↓s_167_79, ↓s_167_80, ↓s_167_83, ↓s_167_85, ↓s_167_86, ↓s_167_88, ↓s_167_90, ↓s_167_92, ↓s_167_94, ↓s_167_95, ↓s_167_96, ↓s_167_97, ↓s_167_98, ↓s_167_99, ↓s_167_102, ↓s_167_103, ↓s_167_104n, ↓s_167_104i, ↓s_167_104p, ↓s_167_107, ↓s_167_110, ↓s_167_111a, ↓s_167_111b, ↓s_167_112, ↓s_167_115, ↓s_167_117, ↓s_167_118, ↓s_167_121, ↓s_167_122, ↓s_167_125, w32c_780, w32c_20, w32c_16, w32c_24, w32c_255, zar_96, zia_96, zln_96, zit_96, zio_95]
  refine ⟨fun h => fex_loop hE hG0 (by rw [e2]; exact h) (fun r m hf => ?_) _ _ _ _ rfl (by decide) (by decide) hG0 (fun _ _ _ => rfl) (fun _ _ => rfl) (fun q hq => absurd hq (by rw [w32c_0]; exact Nat.not_lt_zero _)), fun h => hQ _ _ ⟨⟨hG0, fun i j i1 _ => yset_o i1, by rw [if_neg h]; exact ⟨by decide, by rw [e2]⟩⟩, fun z => absurd z h, fun _ j => e6 j, fun j j0 _ => yset_d j0⟩⟩
  obtain ⟨hq, h1, h2, h3⟩ := hf
  rw [e2] at h1 h2
  exact hQ r m ⟨⟨hq.1, fun i j i1 i2 => by rw [hq.2.1 i j i1 i2, yset_o i1], by have := hq.2.2; rw [e2] at this; exact this⟩, fun z => ⟨fun j hj => by rw [(h1 z).1 j hj]; exact e6 j, (h1 z).2⟩, fun z => absurd h z, fun j j0 j2 => by rw [h3 j j0 j2]; exact yset_d j0⟩
end
section
/-! THE WORLD: what changes from call to call, of both objects: tills, claims, purses of the bakers, singers, slots, paid; redeemed, week, purse, paid out, cracked, random -/
abbrev dU : Type := ((Nat → Int) × (Nat → Int) × (Nat → Int) × (Nat → Int) × (Nat → Int) × (Nat → Int)) × Int × Int × Int × Int × Int × Int
abbrev uT (W : dU) : Nat → Int := W.1.1
abbrev uC (W : dU) : Nat → Int := W.1.2.1
abbrev uB (W : dU) : Nat → Int := W.1.2.2.1
abbrev uS (W : dU) : Nat → Int := W.1.2.2.2.1
abbrev uL (W : dU) : Nat → Int := W.1.2.2.2.2.1
abbrev uP (W : dU) : Nat → Int := W.1.2.2.2.2.2
abbrev uR (W : dU) : Int := W.2.1
abbrev uK (W : dU) : Int := W.2.2.1
abbrev uM (W : dU) : Int := W.2.2.2.1
abbrev uO (W : dU) : Int := W.2.2.2.2.1
abbrev uX (W : dU) : Int := W.2.2.2.2.2.1
abbrev uD (W : dU) : Int := W.2.2.2.2.2.2
/-- the class's world at cell c -/
def cW (m : yMem) (c : Nat) (W : dU) : Prop := (∀ j, j < 3 → w32 (m (c + 1) j) = uT W j) ∧ (∀ j, j < 6 → w32 (m (c + 2) j) = uC W j) ∧ (∀ j, j < 3 → w32 (m (c + 3) j) = uB W j) ∧ (∀ j, j < 12 → w32 (m (c + 4) j) = uS W j) ∧ (∀ j, j < 12 → w32 (m (c + 5) j) = uL W j) ∧ (∀ j, j < 12 → w32 (m (c + 6) j) = uP W j) ∧ w32 (m c 6) = uR W ∧ w32 (m c 7) = uK W ∧ w32 (m c 8) = uM W ∧ w32 (m c 9) = uO W ∧ w32 (m c 10) = uX W ∧ w32 (m c 12) = uD W
/-- the reference's, now (0) or in the image (1) -/
def rW (m : yMem) (h : Nat) (W : dU) : Prop := (∀ j, j < 3 → w32 (m 123 (3 * h + j)) = uT W j) ∧ (∀ j, j < 6 → w32 (m 125 (6 * h + j)) = uC W j) ∧ (∀ j, j < 3 → w32 (m 124 (3 * h + j)) = uB W j) ∧ (∀ j, j < 12 → w32 (m 126 (12 * h + j)) = uS W j) ∧ (∀ j, j < 12 → w32 (m 128 (12 * h + j)) = uL W j) ∧ (∀ j, j < 12 → w32 (m 129 (12 * h + j)) = uP W j) ∧ w32 (m 127 h) = uR W ∧ w32 (m 118 h) = uK W ∧ w32 (m 119 h) = uM W ∧ w32 (m 121 h) = uO W ∧ w32 (m 122 h) = uX W ∧ w32 (m 120 h) = uD W
section WU
variable {b m : yMem} {W : dU}
theorem cW_w {c : Nat} (h : cW b c W) (h1 : ∀ i j, c < i → i ≤ c + 6 → j < (if i = c + 2 then 6 else if i = c + 1 ∨ i = c + 3 then 3 else 12) → w32 (m i j) = w32 (b i j)) (h2 : ∀ j, 6 ≤ j → j ≤ 12 → j ≠ 11 → w32 (m c j) = w32 (b c j)) : cW m c W := by
  obtain ⟨a1, a2, a3, a4, a5, a6, a7, a8, a9, a10, a11, a12⟩ := h
  refine ⟨fun j hj => ?_, fun j hj => ?_, fun j hj => ?_, fun j hj => ?_, fun j hj => ?_, fun j hj => ?_, ?_, ?_, ?_, ?_, ?_, ?_⟩
  · rw [h1 (c + 1) j (by (first | exact Nat.le_of_ble_eq_true rfl | exact (fun h => absurd h.1 (by decide)) | omega)) (by (first | exact Nat.le_of_ble_eq_true rfl | exact (fun h => absurd h.1 (by decide)) | omega)) (by rw [if_neg (by (first | exact Nat.le_of_ble_eq_true rfl | exact (fun h => absurd h.1 (by decide)) | omega)), if_pos (by (first | exact Nat.le_of_ble_eq_true rfl | exact (fun h => absurd h.1 (by decide)) | omega))]; exact hj)]; exact a1 j hj
  · rw [h1 (c + 2) j (by (first | exact Nat.le_of_ble_eq_true rfl | exact (fun h => absurd h.1 (by decide)) | omega)) (by (first | exact Nat.le_of_ble_eq_true rfl | exact (fun h => absurd h.1 (by decide)) | omega)) (by rw [if_pos rfl]; exact hj)]; exact a2 j hj
  · rw [h1 (c + 3) j (by (first | exact Nat.le_of_ble_eq_true rfl | exact (fun h => absurd h.1 (by decide)) | omega)) (by (first | exact Nat.le_of_ble_eq_true rfl | exact (fun h => absurd h.1 (by decide)) | omega)) (by rw [if_neg (by (first | exact Nat.le_of_ble_eq_true rfl | exact (fun h => absurd h.1 (by decide)) | omega)), if_pos (by (first | exact Nat.le_of_ble_eq_true rfl | exact (fun h => absurd h.1 (by decide)) | omega))]; exact hj)]; exact a3 j hj
  · rw [h1 (c + 4) j (by (first | exact Nat.le_of_ble_eq_true rfl | exact (fun h => absurd h.1 (by decide)) | omega)) (by (first | exact Nat.le_of_ble_eq_true rfl | exact (fun h => absurd h.1 (by decide)) | omega)) (by rw [if_neg (by (first | exact Nat.le_of_ble_eq_true rfl | exact (fun h => absurd h.1 (by decide)) | omega)), if_neg (by (first | exact Nat.le_of_ble_eq_true rfl | exact (fun h => absurd h.1 (by decide)) | omega))]; exact hj)]; exact a4 j hj
  · rw [h1 (c + 5) j (by (first | exact Nat.le_of_ble_eq_true rfl | exact (fun h => absurd h.1 (by decide)) | omega)) (by (first | exact Nat.le_of_ble_eq_true rfl | exact (fun h => absurd h.1 (by decide)) | omega)) (by rw [if_neg (by (first | exact Nat.le_of_ble_eq_true rfl | exact (fun h => absurd h.1 (by decide)) | omega)), if_neg (by (first | exact Nat.le_of_ble_eq_true rfl | exact (fun h => absurd h.1 (by decide)) | omega))]; exact hj)]; exact a5 j hj
  · rw [h1 (c + 6) j (by (first | exact Nat.le_of_ble_eq_true rfl | exact (fun h => absurd h.1 (by decide)) | omega)) (by (first | exact Nat.le_of_ble_eq_true rfl | exact (fun h => absurd h.1 (by decide)) | omega)) (by rw [if_neg (by (first | exact Nat.le_of_ble_eq_true rfl | exact (fun h => absurd h.1 (by decide)) | omega)), if_neg (by (first | exact Nat.le_of_ble_eq_true rfl | exact (fun h => absurd h.1 (by decide)) | omega))]; exact hj)]; exact a6 j hj
  · rw [h2 6 (by decide) (by decide) (by decide)]; exact a7
  · rw [h2 7 (by decide) (by decide) (by decide)]; exact a8
  · rw [h2 8 (by decide) (by decide) (by decide)]; exact a9
  · rw [h2 9 (by decide) (by decide) (by decide)]; exact a10
  · rw [h2 10 (by decide) (by decide) (by decide)]; exact a11
  · rw [h2 12 (by decide) (by decide) (by decide)]; exact a12
theorem cW_f {c : Nat} (h : cW b c W) (h1 : ∀ i j, c < i → i ≤ c + 6 → m i j = b i j) (h2 : ∀ j, 6 ≤ j → j ≤ 12 → j ≠ 11 → m c j = b c j) : cW m c W := cW_w h (fun i j a1 a2 _ => by rw [h1 i j a1 a2]) (fun j a1 a2 a3 => by rw [h2 j a1 a2 a3])
theorem wsl57 : ∀ i j, 57 < i → i ≤ 57 + 6 → j < (if i = 57 + 2 then 6 else if i = 57 + 1 ∨ i = 57 + 3 then 3 else 12) → yRl i j = true := by
  intro i j h1 h2 hj
  have hi : i = 58 ∨ i = 59 ∨ i = 60 ∨ i = 61 ∨ i = 62 ∨ i = 63 := by (first | exact Nat.le_of_ble_eq_true rfl | exact (fun h => absurd h.1 (by decide)) | omega)
  rcases hi with rfl | rfl | rfl | rfl | rfl | rfl
  · exact (by decide : ∀ j, j < 3 → yRl 58 j = true) j hj
  · exact (by decide : ∀ j, j < 6 → yRl 59 j = true) j hj
  · exact (by decide : ∀ j, j < 3 → yRl 60 j = true) j hj
  · exact (by decide : ∀ j, j < 12 → yRl 61 j = true) j hj
  · exact (by decide : ∀ j, j < 12 → yRl 62 j = true) j hj
  · exact (by decide : ∀ j, j < 12 → yRl 63 j = true) j hj
theorem wsl57s : ∀ j, 6 ≤ j → j ≤ 12 → j ≠ 11 → yRl 57 j = true := by
  intro j h1 h2 _
  have hj : j = 6 ∨ j = 7 ∨ j = 8 ∨ j = 9 ∨ j = 10 ∨ j = 11 ∨ j = 12 := by (first | exact Nat.le_of_ble_eq_true rfl | exact (fun h => absurd h.1 (by decide)) | omega)
  rcases hj with rfl | rfl | rfl | rfl | rfl | rfl | rfl <;> rfl
theorem cW_al (h : cW b 57 W) (al : yAl m b) : cW m 57 W := cW_w h (fun i j a1 a2 a3 => al i j (wsl57 i j a1 a2 a3)) (fun j a1 a2 a3 => al 57 j (wsl57s j a1 a2 a3))
theorem wsl64 : ∀ i j, 64 < i → i ≤ 64 + 6 → j < (if i = 64 + 2 then 6 else if i = 64 + 1 ∨ i = 64 + 3 then 3 else 12) → yRl i j = true := by
  intro i j h1 h2 hj
  have hi : i = 65 ∨ i = 66 ∨ i = 67 ∨ i = 68 ∨ i = 69 ∨ i = 70 := by (first | exact Nat.le_of_ble_eq_true rfl | exact (fun h => absurd h.1 (by decide)) | omega)
  rcases hi with rfl | rfl | rfl | rfl | rfl | rfl
  · exact (by decide : ∀ j, j < 3 → yRl 65 j = true) j hj
  · exact (by decide : ∀ j, j < 6 → yRl 66 j = true) j hj
  · exact (by decide : ∀ j, j < 3 → yRl 67 j = true) j hj
  · exact (by decide : ∀ j, j < 12 → yRl 68 j = true) j hj
  · exact (by decide : ∀ j, j < 12 → yRl 69 j = true) j hj
  · exact (by decide : ∀ j, j < 12 → yRl 70 j = true) j hj
theorem wsl64s : ∀ j, 6 ≤ j → j ≤ 12 → j ≠ 11 → yRl 64 j = true := by
  intro j h1 h2 _
  have hj : j = 6 ∨ j = 7 ∨ j = 8 ∨ j = 9 ∨ j = 10 ∨ j = 11 ∨ j = 12 := by (first | exact Nat.le_of_ble_eq_true rfl | exact (fun h => absurd h.1 (by decide)) | omega)
  rcases hj with rfl | rfl | rfl | rfl | rfl | rfl | rfl <;> rfl
theorem cW_al1 (h : cW b 64 W) (al : yAl m b) : cW m 64 W := cW_w h (fun i j a1 a2 a3 => al i j (wsl64 i j a1 a2 a3)) (fun j a1 a2 a3 => al 64 j (wsl64s j a1 a2 a3))
theorem rW_w {h : Nat} (hh : h < 2) (H : rW b h W) (h1 : ∀ i j, 118 ≤ i → i ≤ 129 → j < wln i → w32 (m i j) = w32 (b i j)) : rW m h W := by
  obtain ⟨a1, a2, a3, a4, a5, a6, a7, a8, a9, a10, a11, a12⟩ := H
  refine ⟨fun j hj => ?_, fun j hj => ?_, fun j hj => ?_, fun j hj => ?_, fun j hj => ?_, fun j hj => ?_, ?_, ?_, ?_, ?_, ?_, ?_⟩
  · rw [h1 123 _ (by decide) (by decide) (show 3 * h + j < 6 by (first | exact Nat.le_of_ble_eq_true rfl | exact (fun h => absurd h.1 (by decide)) | omega))]; exact a1 j hj
  · rw [h1 125 _ (by decide) (by decide) (show 6 * h + j < 12 by (first | exact Nat.le_of_ble_eq_true rfl | exact (fun h => absurd h.1 (by decide)) | omega))]; exact a2 j hj
  · rw [h1 124 _ (by decide) (by decide) (show 3 * h + j < 6 by (first | exact Nat.le_of_ble_eq_true rfl | exact (fun h => absurd h.1 (by decide)) | omega))]; exact a3 j hj
  · rw [h1 126 _ (by decide) (by decide) (show 12 * h + j < 24 by (first | exact Nat.le_of_ble_eq_true rfl | exact (fun h => absurd h.1 (by decide)) | omega))]; exact a4 j hj
  · rw [h1 128 _ (by decide) (by decide) (show 12 * h + j < 24 by (first | exact Nat.le_of_ble_eq_true rfl | exact (fun h => absurd h.1 (by decide)) | omega))]; exact a5 j hj
  · rw [h1 129 _ (by decide) (by decide) (show 12 * h + j < 24 by (first | exact Nat.le_of_ble_eq_true rfl | exact (fun h => absurd h.1 (by decide)) | omega))]; exact a6 j hj
  · rw [h1 127 h (by decide) (by decide) (show h < 2 by (first | exact Nat.le_of_ble_eq_true rfl | exact (fun h => absurd h.1 (by decide)) | omega))]; exact a7
  · rw [h1 118 h (by decide) (by decide) (show h < 2 by (first | exact Nat.le_of_ble_eq_true rfl | exact (fun h => absurd h.1 (by decide)) | omega))]; exact a8
  · rw [h1 119 h (by decide) (by decide) (show h < 2 by (first | exact Nat.le_of_ble_eq_true rfl | exact (fun h => absurd h.1 (by decide)) | omega))]; exact a9
  · rw [h1 121 h (by decide) (by decide) (show h < 2 by (first | exact Nat.le_of_ble_eq_true rfl | exact (fun h => absurd h.1 (by decide)) | omega))]; exact a10
  · rw [h1 122 h (by decide) (by decide) (show h < 2 by (first | exact Nat.le_of_ble_eq_true rfl | exact (fun h => absurd h.1 (by decide)) | omega))]; exact a11
  · rw [h1 120 h (by decide) (by decide) (show h < 2 by (first | exact Nat.le_of_ble_eq_true rfl | exact (fun h => absurd h.1 (by decide)) | omega))]; exact a12
theorem rW_f {h : Nat} (hh : h < 2) (H : rW b h W) (h1 : ∀ i j, 118 ≤ i → i ≤ 129 → m i j = b i j) : rW m h W := rW_w hh H (fun i j a1 a2 _ => by rw [h1 i j a1 a2])
theorem rW_al {h : Nat} (hh : h < 2) (H : rW b h W) (al : yAl m b) : rW m h W := rW_w hh H (fun i j a1 a2 a3 => al i j (wsl118 i j a1 a2 a3))
/-- the reference's world now -/
theorem rW0 (H : rW m 0 W) : (∀ j, j < 3 → w32 (m 123 j) = uT W j) ∧ (∀ j, j < 6 → w32 (m 125 j) = uC W j) ∧ (∀ j, j < 3 → w32 (m 124 j) = uB W j) ∧ (∀ j, j < 12 → w32 (m 126 j) = uS W j) ∧ (∀ j, j < 12 → w32 (m 128 j) = uL W j) ∧ (∀ j, j < 12 → w32 (m 129 j) = uP W j) ∧ w32 (m 127 0) = uR W ∧ w32 (m 118 0) = uK W ∧ w32 (m 119 0) = uM W ∧ w32 (m 121 0) = uO W ∧ w32 (m 122 0) = uX W ∧ w32 (m 120 0) = uD W := by
  obtain ⟨a1, a2, a3, a4, a5, a6, a7⟩ := H
  refine ⟨fun j hj => ?_, fun j hj => ?_, fun j hj => ?_, fun j hj => ?_, fun j hj => ?_, fun j hj => ?_, a7⟩
  · have := a1 j hj; rw [show 3 * 0 + j = j by (first | exact Nat.le_of_ble_eq_true rfl | exact (fun h => absurd h.1 (by decide)) | omega)] at this; exact this
  · have := a2 j hj; rw [show 6 * 0 + j = j by (first | exact Nat.le_of_ble_eq_true rfl | exact (fun h => absurd h.1 (by decide)) | omega)] at this; exact this
  · have := a3 j hj; rw [show 3 * 0 + j = j by (first | exact Nat.le_of_ble_eq_true rfl | exact (fun h => absurd h.1 (by decide)) | omega)] at this; exact this
  · have := a4 j hj; rw [show 12 * 0 + j = j by (first | exact Nat.le_of_ble_eq_true rfl | exact (fun h => absurd h.1 (by decide)) | omega)] at this; exact this
  · have := a5 j hj; rw [show 12 * 0 + j = j by (first | exact Nat.le_of_ble_eq_true rfl | exact (fun h => absurd h.1 (by decide)) | omega)] at this; exact this
  · have := a6 j hj; rw [show 12 * 0 + j = j by (first | exact Nat.le_of_ble_eq_true rfl | exact (fun h => absurd h.1 (by decide)) | omega)] at this; exact this
theorem rW0_of (H : (∀ j, j < 3 → w32 (m 123 j) = uT W j) ∧ (∀ j, j < 6 → w32 (m 125 j) = uC W j) ∧ (∀ j, j < 3 → w32 (m 124 j) = uB W j) ∧ (∀ j, j < 12 → w32 (m 126 j) = uS W j) ∧ (∀ j, j < 12 → w32 (m 128 j) = uL W j) ∧ (∀ j, j < 12 → w32 (m 129 j) = uP W j) ∧ w32 (m 127 0) = uR W ∧ w32 (m 118 0) = uK W ∧ w32 (m 119 0) = uM W ∧ w32 (m 121 0) = uO W ∧ w32 (m 122 0) = uX W ∧ w32 (m 120 0) = uD W) : rW m 0 W := by
  obtain ⟨a1, a2, a3, a4, a5, a6, a7⟩ := H
  refine ⟨fun j hj => ?_, fun j hj => ?_, fun j hj => ?_, fun j hj => ?_, fun j hj => ?_, fun j hj => ?_, a7⟩
  · rw [show 3 * 0 + j = j by (first | exact Nat.le_of_ble_eq_true rfl | exact (fun h => absurd h.1 (by decide)) | omega)]; exact a1 j hj
  · rw [show 6 * 0 + j = j by (first | exact Nat.le_of_ble_eq_true rfl | exact (fun h => absurd h.1 (by decide)) | omega)]; exact a2 j hj
  · rw [show 3 * 0 + j = j by (first | exact Nat.le_of_ble_eq_true rfl | exact (fun h => absurd h.1 (by decide)) | omega)]; exact a3 j hj
  · rw [show 12 * 0 + j = j by (first | exact Nat.le_of_ble_eq_true rfl | exact (fun h => absurd h.1 (by decide)) | omega)]; exact a4 j hj
  · rw [show 12 * 0 + j = j by (first | exact Nat.le_of_ble_eq_true rfl | exact (fun h => absurd h.1 (by decide)) | omega)]; exact a5 j hj
  · rw [show 12 * 0 + j = j by (first | exact Nat.le_of_ble_eq_true rfl | exact (fun h => absurd h.1 (by decide)) | omega)]; exact a6 j hj
end WU
/-- the PARTS of a VERSE, the bars of a PART -/
def dPt (ve : dVe) (v : Nat) : List (List Int) := (ve.getD v (0, [])).2
def dBr (ve : dVe) (v p : Nat) : List Int := (dPt ve v).getD p []
/-- a PART that there is, by its slot -/
def uPv (D : dDc) (p : Nat) : Prop := p / 3 < D.2.2.1.length ∧ p % 3 < (dPt D.2.2.1 (p / 3)).length
/-- a world that k calls may have come to -/
def uOk (D : dDc) (k : Nat) (W : dU) : Prop := (0 ≤ uR W ∧ uR W ≤ 12) ∧ (∀ p, p < 12 → uS W p = -1 ∨ (0 ≤ uS W p ∧ uS W p < (D.2.1.length : Int) ∧ uPv D p)) ∧ (∀ i : Nat, (i : Int) < uR W → 0 ≤ uL W i ∧ uL W i < 12 ∧ ¬ uS W (uL W i).toNat = -1) ∧ (∀ i j : Nat, i < j → (j : Int) < uR W → ¬ uL W i = uL W j) ∧ (∀ p, p < 12 → ¬ uS W p = -1 → ∃ i : Nat, (i : Int) < uR W ∧ uL W i = (p : Int)) ∧ (∀ j, j < 3 → 0 ≤ uT W j ∧ uT W j ≤ 10000 + 1000 * (k : Int)) ∧ (∀ j, j < 6 → 0 ≤ uC W j ∧ uC W j ≤ 100 * (k : Int)) ∧ (∀ j, j < 12 → 0 ≤ uP W j ∧ uP W j ≤ 999) ∧ (0 ≤ uX W ∧ uX W < 64 ∧ uX W < ((2 ^ D.2.1.length : Nat) : Int))
theorem uOk_le {D : dDc} {k l : Nat} {W : dU} (h : uOk D k W) (hk : k ≤ l) : uOk D l W := by
  obtain ⟨a1, a2, a3, a4, a5, a6, a7, a8, a9⟩ := h
  exact ⟨a1, a2, a3, a4, a5, fun j hj => ⟨(a6 j hj).1, by have := (a6 j hj).2; (first | exact Nat.le_of_ble_eq_true rfl | exact (fun h => absurd h.1 (by decide)) | omega)⟩, fun j hj => ⟨(a7 j hj).1, by have := (a7 j hj).2; (first | exact Nat.le_of_ble_eq_true rfl | exact (fun h => absurd h.1 (by decide)) | omega)⟩, a8, a9⟩
/-- a TEXT's world -/
def uBg (D : dDc) (W : dU) : dU := ((fun j => if j < D.1.length then (D.1.getD j (0, 0, 0)).2.2 else 0, fun _ => 0, fun j => if j < D.2.2.2.1.length then (D.2.2.2.1.getD j (0, 0)).2 else 0, fun _ => -1, uL W, uP W), 0, 0, D.2.2.2.2.1.2, 0, 0, D.2.2.2.2.2.1.2)
theorem uBg_ok {D : dDc} {k : Nat} {W : dU} (hD : dOk D) (hP : ∀ j, j < 12 → 0 ≤ uP W j ∧ uP W j ≤ 999) : uOk D k (uBg D W) := by
  refine ⟨⟨Int.le_refl _, show (0 : Int) ≤ 12 by decide⟩, fun p _ => Or.inl rfl, fun i hi => absurd (show (i : Int) < 0 from hi) (by (first | exact Nat.le_of_ble_eq_true rfl | exact (fun h => absurd h.1 (by decide)) | omega)), fun i j _ hj => absurd (show (j : Int) < 0 from hj) (by (first | exact Nat.le_of_ble_eq_true rfl | exact (fun h => absurd h.1 (by decide)) | omega)), fun p _ h => absurd rfl h, fun j _ => ?_, fun j _ => ⟨Int.le_refl _, by show (0 : Int) ≤ _; (first | exact Nat.le_of_ble_eq_true rfl | exact (fun h => absurd h.1 (by decide)) | omega)⟩, hP, ⟨Int.le_refl _, show (0 : Int) < 64 by decide, show (0 : Int) < ((2 ^ D.2.1.length : Nat) : Int) from Int.natCast_pos.mpr (Nat.two_pow_pos _)⟩⟩
  show 0 ≤ (if j < D.1.length then (D.1.getD j (0, 0, 0)).2.2 else 0) ∧ (if j < D.1.length then (D.1.getD j (0, 0, 0)).2.2 else 0) ≤ _
  split
  · next h =>
    have hm : D.1.getD j (0, 0, 0) ∈ D.1 := by
      rw [List.getD_eq_getElem?_getD, List.getElem?_eq_getElem h]
      exact List.getElem_mem h
    have := hD.1 _ hm
    unfold dTk at this
    (first | exact Nat.le_of_ble_eq_true rfl | exact (fun h => absurd h.1 (by decide)) | omega)
  · (first | exact Nat.le_of_ble_eq_true rfl | exact (fun h => absurd h.1 (by decide)) | omega)
/-- both hold the same document, the same world, the same image -/
def LIw (k : Nat) (m : yMem) : Prop := ∃ (D : dDc) (W V : dU), (cDh m D ∧ rDl m D ∧ dOk D) ∧ (cW m 57 W ∧ rW m 0 W ∧ uOk D k W) ∧ (cW m 64 V ∧ rW m 1 V ∧ (¬ w32 (m 0 14) = 0 → uOk D k V)) ∧ w32 (m 0 14) = w32 (m 95 49) ∧ w32 (m 71 1) = w32 (m 95 61)
/-- the slots that are told of -/
def tpP (i j : Nat) : Prop := i = 1 ∨ i = 56 ∨ (2 ≤ i ∧ i ≤ 26) ∨ (58 ≤ i ∧ i ≤ 71) ∨ (96 ≤ i ∧ i ≤ 129) ∨ (i = 57 ∧ j ≠ 11) ∨ (i = 0 ∧ (j = 11 ∨ j = 12 ∨ j = 13 ∨ j = 14)) ∨ (i = 95 ∧ (j = 2 ∨ j = 33 ∨ j = 34 ∨ j = 49 ∨ j = 61))
def tpW (i j : Nat) : Prop := (2 ≤ i ∧ i ≤ 26) ∨ (58 ≤ i ∧ i ≤ 71) ∨ (97 ≤ i ∧ i ≤ 129) ∨ (i = 57 ∧ j ≠ 11) ∨ (i = 0 ∧ j = 14) ∨ (i = 95 ∧ (j = 49 ∨ j = 61))
theorem tpW_P {i j : Nat} (h : tpW i j) : tpP i j := by
  unfold tpW at h
  unfold tpP
  (first | exact Nat.le_of_ble_eq_true rfl | exact (fun h => absurd h.1 (by decide)) | omega)
theorem LIw_fr {k l : Nat} {b m : yMem} (hk : k ≤ l) (h : LIw k b) (hf : ∀ i j, tpW i j → m i j = b i j) : LIw l m := by
  obtain ⟨D, W, V, ⟨h1, h2, h3⟩, ⟨h4, h5, h6⟩, ⟨h7, h8, h9⟩, h11, h12⟩ := h
  refine ⟨D, W, V, ⟨cDh_w h1 (fun c j ht => ?_), rDl_w h2 (fun i j n _ i1 i2 _ => ?_), h3⟩, ⟨cW_f h4 (fun i j i1 i2 => ?_) (fun j j1 j2 j3 => ?_), rW_f (by decide) h5 (fun i j i1 i2 => ?_), uOk_le h6 hk⟩, ⟨cW_f h7 (fun i j i1 i2 => ?_) (fun j j1 j2 j3 => ?_), rW_f (by decide) h8 (fun i j i1 i2 => ?_), fun z => uOk_le (h9 ?_) hk⟩, ?_, ?_⟩
  · have := tkS_c ht
    rw [hf c j (by unfold tpW; (first | exact Nat.le_of_ble_eq_true rfl | exact (fun h => absurd h.1 (by decide)) | omega))]
  · rw [hf i j (by unfold tpW; (first | exact Nat.le_of_ble_eq_true rfl | exact (fun h => absurd h.1 (by decide)) | omega))]
  · exact hf i j (by unfold tpW; (first | exact Nat.le_of_ble_eq_true rfl | exact (fun h => absurd h.1 (by decide)) | omega))
  · exact hf 57 j (by unfold tpW; (first | exact Nat.le_of_ble_eq_true rfl | exact (fun h => absurd h.1 (by decide)) | omega))
  · exact hf i j (by unfold tpW; (first | exact Nat.le_of_ble_eq_true rfl | exact (fun h => absurd h.1 (by decide)) | omega))
  · exact hf i j (by unfold tpW; (first | exact Nat.le_of_ble_eq_true rfl | exact (fun h => absurd h.1 (by decide)) | omega))
  · exact hf 64 j (by unfold tpW; (first | exact Nat.le_of_ble_eq_true rfl | exact (fun h => absurd h.1 (by decide)) | omega))
  · exact hf i j (by unfold tpW; (first | exact Nat.le_of_ble_eq_true rfl | exact (fun h => absurd h.1 (by decide)) | omega))
  · rw [hf 0 14 (by unfold tpW; (first | exact Nat.le_of_ble_eq_true rfl | exact (fun h => absurd h.1 (by decide)) | omega))] at z
    exact z
  · rw [hf 0 14 (by unfold tpW; (first | exact Nat.le_of_ble_eq_true rfl | exact (fun h => absurd h.1 (by decide)) | omega)), hf 95 49 (by unfold tpW; (first | exact Nat.le_of_ble_eq_true rfl | exact (fun h => absurd h.1 (by decide)) | omega))]
    exact h11
  · rw [hf 71 1 (by unfold tpW; (first | exact Nat.le_of_ble_eq_true rfl | exact (fun h => absurd h.1 (by decide)) | omega)), hf 95 61 (by unfold tpW; (first | exact Nat.le_of_ble_eq_true rfl | exact (fun h => absurd h.1 (by decide)) | omega))]
    exact h12
/-- what a run over intervals may write -/
def tpq (q : Nat × Nat) : Bool := !(Nat.beq q.1 1) && (!(Nat.beq q.1 56) && (!(Nat.ble 2 q.1 && Nat.ble q.1 26) && (!(Nat.ble 58 q.1 && Nat.ble q.1 71) && (!(Nat.ble 96 q.1 && Nat.ble q.1 129) && ((!(Nat.beq q.1 57) || Nat.beq q.2 12) && ((!(Nat.beq q.1 0) || !(zis [0, 12, 13, 14, 15] q.2)) && (!(Nat.beq q.1 95) || !(zis [0, 3, 34, 35, 50, 62] q.2))))))))
def tp3 (w : List (Nat × Nat)) : Bool := w.all tpq
theorem tp3_ok {w : List (Nat × Nat)} (h : tp3 w = true) {i j : Nat} (hi : tpP i j) : amod w i j = false := by
  cases hm : amod w i j with
  | false => rfl
  | true =>
    obtain ⟨q, q1, q2, q3⟩ := amod_ex hm
    have h2 := List.all_eq_true.mp h q q1
    unfold tpq at h2
    rw [q2] at h2
    simp only [Bool.and_eq_true] at h2
    obtain ⟨k1, k2, k3, k4, k5, k6, k7, k8⟩ := h2
    rcases hi with rfl | rfl | ⟨a, b⟩ | ⟨a, b⟩ | ⟨a, b⟩ | ⟨rfl, a⟩ | ⟨rfl, a⟩ | ⟨rfl, a⟩
    · exact absurd k1 (by decide)
    · exact absurd k2 (by decide)
    · rw [Nat.ble_eq_true_of_le a, Nat.ble_eq_true_of_le b] at k3
      cases k3
    · rw [Nat.ble_eq_true_of_le a, Nat.ble_eq_true_of_le b] at k4
      cases k4
    · rw [Nat.ble_eq_true_of_le a, Nat.ble_eq_true_of_le b] at k5
      cases k5
    · have k6 : Nat.beq q.2 12 = true := k6
      rw [Nat.beq_eq] at k6
      (first | exact Nat.le_of_ble_eq_true rfl | exact (fun h => absurd h.1 (by decide)) | omega)
    · have k7 : (!(zis [0, 12, 13, 14, 15] q.2)) = true := k7
      rcases q3 with e | e <;> rcases a with rfl | rfl | rfl | rfl <;> rw [e] at k7 <;> cases k7
    · have k8 : (!(zis [0, 3, 34, 35, 50, 62] q.2)) = true := k8
      rcases q3 with e | e <;> rcases a with rfl | rfl | rfl | rfl | rfl <;> rw [e] at k8 <;> cases k8
end
section
theorem s_135_0 {E : yE} {n d : Nat} {mem : yMem} {Post : Option yV → yMem → Prop} {st : List yV} {r1 : Option yV} {x : Int} : zvc E (n + 1) [] d xm_135 0 [some (1, x), r1] (st) mem Post = (zvc E n [] d xm_135 1 [some (1, x), r1] ((1, x) :: st) mem Post) := zrf rfl
theorem s_135_1_57 {E : yE} {n d : Nat} {mem : yMem} {Post : Option yV → yMem → Prop} {st : List yV} {r0 r1 : Option yV} : zvc E (n + 1) [] d xm_135 1 [r0, r1] ((1, 57) :: st) mem Post = (zvc E n [] d xm_135 4 [r0, r1] ((1, 58) :: st) mem Post) := zrf rfl
theorem s_135_1_64 {E : yE} {n d : Nat} {mem : yMem} {Post : Option yV → yMem → Prop} {st : List yV} {r0 r1 : Option yV} : zvc E (n + 1) [] d xm_135 1 [r0, r1] ((1, 64) :: st) mem Post = (zvc E n [] d xm_135 4 [r0, r1] ((1, 65) :: st) mem Post) := zrf rfl
theorem s_135_4 {E : yE} {n d : Nat} {mem : yMem} {Post : Option yV → yMem → Prop} {st : List yV} {r0 r1 : Option yV} : zvc E (n + 1) [] d xm_135 4 [r0, r1] (st) mem Post = (zvc E n [] d xm_135 5 [r0, r1] ((0, 0) :: st) mem Post) := zrf rfl
theorem s_135_5 {E : yE} {n d : Nat} {mem : yMem} {Post : Option yV → yMem → Prop} {st : List yV} {r0 r1 : Option yV} {a0 a1 : Int} : zvc E (n + 1) [] d xm_135 5 [r0, r1] ((0, a1) :: (1, a0) :: st) mem Post = (True ∧ ysum st ≤ 8 ∧ yCon E d xm_263 [(1, a0), (0, a1)] mem (fun v mem' => zgk E d xm_135 8 [r0, r1] st v mem' Post)) := zrf rfl
theorem s_135_8 {E : yE} {n d : Nat} {mem : yMem} {Post : Option yV → yMem → Prop} {st : List yV} {r1 : Option yV} {x : Int} : zvc E (n + 1) [] d xm_135 8 [some (1, x), r1] (st) mem Post = (zvc E n [] d xm_135 9 [some (1, x), r1] ((1, x) :: st) mem Post) := zrf rfl
theorem s_135_9_57 {E : yE} {n d : Nat} {mem : yMem} {Post : Option yV → yMem → Prop} {st : List yV} {r0 r1 : Option yV} : zvc E (n + 1) [] d xm_135 9 [r0, r1] ((1, 57) :: st) mem Post = (zvc E n [] d xm_135 12 [r0, r1] ((1, 60) :: st) mem Post) := zrf rfl
theorem s_135_9_64 {E : yE} {n d : Nat} {mem : yMem} {Post : Option yV → yMem → Prop} {st : List yV} {r0 r1 : Option yV} : zvc E (n + 1) [] d xm_135 9 [r0, r1] ((1, 64) :: st) mem Post = (zvc E n [] d xm_135 12 [r0, r1] ((1, 67) :: st) mem Post) := zrf rfl
theorem s_135_12 {E : yE} {n d : Nat} {mem : yMem} {Post : Option yV → yMem → Prop} {st : List yV} {r0 r1 : Option yV} : zvc E (n + 1) [] d xm_135 12 [r0, r1] (st) mem Post = (zvc E n [] d xm_135 13 [r0, r1] ((0, 0) :: st) mem Post) := zrf rfl
theorem s_135_13 {E : yE} {n d : Nat} {mem : yMem} {Post : Option yV → yMem → Prop} {st : List yV} {r0 r1 : Option yV} {a0 a1 : Int} : zvc E (n + 1) [] d xm_135 13 [r0, r1] ((0, a1) :: (1, a0) :: st) mem Post = (True ∧ ysum st ≤ 8 ∧ yCon E d xm_263 [(1, a0), (0, a1)] mem (fun v mem' => zgk E d xm_135 16 [r0, r1] st v mem' Post)) := zrf rfl
theorem s_135_16 {E : yE} {n d : Nat} {mem : yMem} {Post : Option yV → yMem → Prop} {st : List yV} {r1 : Option yV} {x : Int} : zvc E (n + 1) [] d xm_135 16 [some (1, x), r1] (st) mem Post = (zvc E n [] d xm_135 17 [some (1, x), r1] ((1, x) :: st) mem Post) := zrf rfl
theorem s_135_17_57 {E : yE} {n d : Nat} {mem : yMem} {Post : Option yV → yMem → Prop} {st : List yV} {r0 r1 : Option yV} : zvc E (n + 1) [] d xm_135 17 [r0, r1] ((1, 57) :: st) mem Post = (zvc E n [] d xm_135 20 [r0, r1] ((1, 59) :: st) mem Post) := zrf rfl
theorem s_135_17_64 {E : yE} {n d : Nat} {mem : yMem} {Post : Option yV → yMem → Prop} {st : List yV} {r0 r1 : Option yV} : zvc E (n + 1) [] d xm_135 17 [r0, r1] ((1, 64) :: st) mem Post = (zvc E n [] d xm_135 20 [r0, r1] ((1, 66) :: st) mem Post) := zrf rfl
theorem s_135_20 {E : yE} {n d : Nat} {mem : yMem} {Post : Option yV → yMem → Prop} {st : List yV} {r0 r1 : Option yV} : zvc E (n + 1) [] d xm_135 20 [r0, r1] (st) mem Post = (zvc E n [] d xm_135 21 [r0, r1] ((0, 0) :: st) mem Post) := zrf rfl
theorem s_135_21 {E : yE} {n d : Nat} {mem : yMem} {Post : Option yV → yMem → Prop} {st : List yV} {r0 r1 : Option yV} {a0 a1 : Int} : zvc E (n + 1) [] d xm_135 21 [r0, r1] ((0, a1) :: (1, a0) :: st) mem Post = (True ∧ ysum st ≤ 8 ∧ yCon E d xm_263 [(1, a0), (0, a1)] mem (fun v mem' => zgk E d xm_135 24 [r0, r1] st v mem' Post)) := zrf rfl
theorem s_135_24 {E : yE} {n d : Nat} {mem : yMem} {Post : Option yV → yMem → Prop} {st : List yV} {r0 : Option yV} {x : Int} : zvc E (n + 1) [] d xm_135 24 [r0, some (1, x)] (st) mem Post = (zvc E n [] d xm_135 25 [r0, some (1, x)] ((1, x) :: st) mem Post) := zrf rfl
theorem s_135_25_2 {E : yE} {n d : Nat} {mem : yMem} {Post : Option yV → yMem → Prop} {st : List yV} {r0 r1 : Option yV} : zvc E (n + 1) [] d xm_135 25 [r0, r1] ((1, 2) :: st) mem Post = (zvc E n [] d xm_135 28 [r0, r1] ((1, 12) :: st) mem Post) := zrf rfl
theorem s_135_25_28 {E : yE} {n d : Nat} {mem : yMem} {Post : Option yV → yMem → Prop} {st : List yV} {r0 r1 : Option yV} : zvc E (n + 1) [] d xm_135 25 [r0, r1] ((1, 28) :: st) mem Post = (zvc E n [] d xm_135 28 [r0, r1] ((1, 38) :: st) mem Post) := zrf rfl
theorem s_135_28 {E : yE} {n d : Nat} {mem : yMem} {Post : Option yV → yMem → Prop} {st : List yV} {r0 r1 : Option yV} : zvc E (n + 1) [] d xm_135 28 [r0, r1] (st) mem Post = (zvc E n [] d xm_135 29 [r0, r1] ((0, 0) :: st) mem Post) := zrf rfl
theorem s_135_29 {E : yE} {n d : Nat} {mem : yMem} {Post : Option yV → yMem → Prop} {st : List yV} {r1 : Option yV} {x : Int} : zvc E (n + 1) [] d xm_135 29 [some (1, x), r1] (st) mem Post = (zvc E n [] d xm_135 30 [some (1, x), r1] ((1, x) :: st) mem Post) := zrf rfl
theorem s_135_30_57 {E : yE} {n d : Nat} {mem : yMem} {Post : Option yV → yMem → Prop} {st : List yV} {r0 r1 : Option yV} : zvc E (n + 1) [] d xm_135 30 [r0, r1] ((1, 57) :: st) mem Post = (zvc E n [] d xm_135 33 [r0, r1] ((1, 58) :: st) mem Post) := zrf rfl
theorem s_135_30_64 {E : yE} {n d : Nat} {mem : yMem} {Post : Option yV → yMem → Prop} {st : List yV} {r0 r1 : Option yV} : zvc E (n + 1) [] d xm_135 30 [r0, r1] ((1, 64) :: st) mem Post = (zvc E n [] d xm_135 33 [r0, r1] ((1, 65) :: st) mem Post) := zrf rfl
theorem s_135_33 {E : yE} {n d : Nat} {mem : yMem} {Post : Option yV → yMem → Prop} {st : List yV} {r0 r1 : Option yV} : zvc E (n + 1) [] d xm_135 33 [r0, r1] (st) mem Post = (zvc E n [] d xm_135 34 [r0, r1] ((0, 0) :: st) mem Post) := zrf rfl
theorem s_135_34 {E : yE} {n d : Nat} {mem : yMem} {Post : Option yV → yMem → Prop} {st : List yV} {r0 : Option yV} {x : Int} : zvc E (n + 1) [] d xm_135 34 [r0, some (1, x)] (st) mem Post = (zvc E n [] d xm_135 35 [r0, some (1, x)] ((1, x) :: st) mem Post) := zrf rfl
theorem s_135_35_2 {E : yE} {n d : Nat} {mem : yMem} {Post : Option yV → yMem → Prop} {st : List yV} {r0 r1 : Option yV} : zvc E (n + 1) [] d xm_135 35 [r0, r1] ((1, 2) :: st) mem Post = (zvc E n [] d xm_135 38 [r0, r1] ((1, 3) :: st) mem Post) := zrf rfl
theorem s_135_35_28 {E : yE} {n d : Nat} {mem : yMem} {Post : Option yV → yMem → Prop} {st : List yV} {r0 r1 : Option yV} : zvc E (n + 1) [] d xm_135 35 [r0, r1] ((1, 28) :: st) mem Post = (zvc E n [] d xm_135 38 [r0, r1] ((1, 29) :: st) mem Post) := zrf rfl
theorem s_135_38_3 {E : yE} {n d : Nat} {mem : yMem} {Post : Option yV → yMem → Prop} {st : List yV} {r0 r1 : Option yV} : zvc E (n + 1) [] d xm_135 38 [r0, r1] ((1, 3) :: st) mem Post = (zvc E n [] d xm_135 41 [r0, r1] ((0, mem 3 1) :: st) mem Post) := zrf rfl
theorem s_135_38_5 {E : yE} {n d : Nat} {mem : yMem} {Post : Option yV → yMem → Prop} {st : List yV} {r0 r1 : Option yV} : zvc E (n + 1) [] d xm_135 38 [r0, r1] ((1, 5) :: st) mem Post = (zvc E n [] d xm_135 41 [r0, r1] ((0, mem 5 1) :: st) mem Post) := zrf rfl
theorem s_135_38_7 {E : yE} {n d : Nat} {mem : yMem} {Post : Option yV → yMem → Prop} {st : List yV} {r0 r1 : Option yV} : zvc E (n + 1) [] d xm_135 38 [r0, r1] ((1, 7) :: st) mem Post = (zvc E n [] d xm_135 41 [r0, r1] ((0, mem 7 1) :: st) mem Post) := zrf rfl
theorem s_135_38_9 {E : yE} {n d : Nat} {mem : yMem} {Post : Option yV → yMem → Prop} {st : List yV} {r0 r1 : Option yV} : zvc E (n + 1) [] d xm_135 38 [r0, r1] ((1, 9) :: st) mem Post = (zvc E n [] d xm_135 41 [r0, r1] ((0, mem 9 1) :: st) mem Post) := zrf rfl
theorem s_135_38_29 {E : yE} {n d : Nat} {mem : yMem} {Post : Option yV → yMem → Prop} {st : List yV} {r0 r1 : Option yV} : zvc E (n + 1) [] d xm_135 38 [r0, r1] ((1, 29) :: st) mem Post = (zvc E n [] d xm_135 41 [r0, r1] ((0, mem 29 1) :: st) mem Post) := zrf rfl
theorem s_135_38_31 {E : yE} {n d : Nat} {mem : yMem} {Post : Option yV → yMem → Prop} {st : List yV} {r0 r1 : Option yV} : zvc E (n + 1) [] d xm_135 38 [r0, r1] ((1, 31) :: st) mem Post = (zvc E n [] d xm_135 41 [r0, r1] ((0, mem 31 1) :: st) mem Post) := zrf rfl
theorem s_135_38_33 {E : yE} {n d : Nat} {mem : yMem} {Post : Option yV → yMem → Prop} {st : List yV} {r0 r1 : Option yV} : zvc E (n + 1) [] d xm_135 38 [r0, r1] ((1, 33) :: st) mem Post = (zvc E n [] d xm_135 41 [r0, r1] ((0, mem 33 1) :: st) mem Post) := zrf rfl
theorem s_135_38_35 {E : yE} {n d : Nat} {mem : yMem} {Post : Option yV → yMem → Prop} {st : List yV} {r0 r1 : Option yV} : zvc E (n + 1) [] d xm_135 38 [r0, r1] ((1, 35) :: st) mem Post = (zvc E n [] d xm_135 41 [r0, r1] ((0, mem 35 1) :: st) mem Post) := zrf rfl
theorem s_135_41 {E : yE} {n d : Nat} {mem : yMem} {Post : Option yV → yMem → Prop} {st : List yV} {r0 r1 : Option yV} {m dp dd sp ss : Int} : zvc E (n + 1) [] d xm_135 41 [r0, r1] ((0, m) :: (0, dp) :: (1, dd) :: (0, sp) :: (1, ss) :: st) mem Post = (ysum st ≤ 8 ∧ zit ss 0 = true ∧ zit dd 0 = true ∧ 0 ≤ w32 m ∧ 0 ≤ w32 sp ∧ 0 ≤ w32 dp ∧ w32 sp + w32 m ≤ ((zar ss 0 : Nat) : Int) ∧ w32 dp + w32 m ≤ ((zar dd 0 : Nat) : Int) ∧ zvc E n [] d xm_135 44 [r0, r1] (st) (ycpy mem ss.toNat (w32 sp).toNat dd.toNat (w32 dp).toNat (w32 m).toNat) Post) := zrf rfl
theorem s_135_44 {E : yE} {n d : Nat} {mem : yMem} {Post : Option yV → yMem → Prop} {st : List yV} {r0 : Option yV} {x : Int} : zvc E (n + 1) [] d xm_135 44 [r0, some (1, x)] (st) mem Post = (zvc E n [] d xm_135 45 [r0, some (1, x)] ((1, x) :: st) mem Post) := zrf rfl
theorem s_135_45_2 {E : yE} {n d : Nat} {mem : yMem} {Post : Option yV → yMem → Prop} {st : List yV} {r0 r1 : Option yV} : zvc E (n + 1) [] d xm_135 45 [r0, r1] ((1, 2) :: st) mem Post = (zvc E n [] d xm_135 48 [r0, r1] ((1, 21) :: st) mem Post) := zrf rfl
theorem s_135_45_28 {E : yE} {n d : Nat} {mem : yMem} {Post : Option yV → yMem → Prop} {st : List yV} {r0 r1 : Option yV} : zvc E (n + 1) [] d xm_135 45 [r0, r1] ((1, 28) :: st) mem Post = (zvc E n [] d xm_135 48 [r0, r1] ((1, 47) :: st) mem Post) := zrf rfl
theorem s_135_48 {E : yE} {n d : Nat} {mem : yMem} {Post : Option yV → yMem → Prop} {st : List yV} {r0 r1 : Option yV} : zvc E (n + 1) [] d xm_135 48 [r0, r1] (st) mem Post = (zvc E n [] d xm_135 49 [r0, r1] ((0, 0) :: st) mem Post) := zrf rfl
theorem s_135_49 {E : yE} {n d : Nat} {mem : yMem} {Post : Option yV → yMem → Prop} {st : List yV} {r1 : Option yV} {x : Int} : zvc E (n + 1) [] d xm_135 49 [some (1, x), r1] (st) mem Post = (zvc E n [] d xm_135 50 [some (1, x), r1] ((1, x) :: st) mem Post) := zrf rfl
theorem s_135_50_57 {E : yE} {n d : Nat} {mem : yMem} {Post : Option yV → yMem → Prop} {st : List yV} {r0 r1 : Option yV} : zvc E (n + 1) [] d xm_135 50 [r0, r1] ((1, 57) :: st) mem Post = (zvc E n [] d xm_135 53 [r0, r1] ((1, 60) :: st) mem Post) := zrf rfl
theorem s_135_50_64 {E : yE} {n d : Nat} {mem : yMem} {Post : Option yV → yMem → Prop} {st : List yV} {r0 r1 : Option yV} : zvc E (n + 1) [] d xm_135 50 [r0, r1] ((1, 64) :: st) mem Post = (zvc E n [] d xm_135 53 [r0, r1] ((1, 67) :: st) mem Post) := zrf rfl
theorem s_135_53 {E : yE} {n d : Nat} {mem : yMem} {Post : Option yV → yMem → Prop} {st : List yV} {r0 r1 : Option yV} : zvc E (n + 1) [] d xm_135 53 [r0, r1] (st) mem Post = (zvc E n [] d xm_135 54 [r0, r1] ((0, 0) :: st) mem Post) := zrf rfl
theorem s_135_54 {E : yE} {n d : Nat} {mem : yMem} {Post : Option yV → yMem → Prop} {st : List yV} {r0 : Option yV} {x : Int} : zvc E (n + 1) [] d xm_135 54 [r0, some (1, x)] (st) mem Post = (zvc E n [] d xm_135 55 [r0, some (1, x)] ((1, x) :: st) mem Post) := zrf rfl
theorem s_135_55_2 {E : yE} {n d : Nat} {mem : yMem} {Post : Option yV → yMem → Prop} {st : List yV} {r0 r1 : Option yV} : zvc E (n + 1) [] d xm_135 55 [r0, r1] ((1, 2) :: st) mem Post = (zvc E n [] d xm_135 58 [r0, r1] ((1, 9) :: st) mem Post) := zrf rfl
theorem s_135_55_28 {E : yE} {n d : Nat} {mem : yMem} {Post : Option yV → yMem → Prop} {st : List yV} {r0 r1 : Option yV} : zvc E (n + 1) [] d xm_135 55 [r0, r1] ((1, 28) :: st) mem Post = (zvc E n [] d xm_135 58 [r0, r1] ((1, 35) :: st) mem Post) := zrf rfl
theorem s_135_58_3 {E : yE} {n d : Nat} {mem : yMem} {Post : Option yV → yMem → Prop} {st : List yV} {r0 r1 : Option yV} : zvc E (n + 1) [] d xm_135 58 [r0, r1] ((1, 3) :: st) mem Post = (zvc E n [] d xm_135 61 [r0, r1] ((0, mem 3 1) :: st) mem Post) := zrf rfl
theorem s_135_58_5 {E : yE} {n d : Nat} {mem : yMem} {Post : Option yV → yMem → Prop} {st : List yV} {r0 r1 : Option yV} : zvc E (n + 1) [] d xm_135 58 [r0, r1] ((1, 5) :: st) mem Post = (zvc E n [] d xm_135 61 [r0, r1] ((0, mem 5 1) :: st) mem Post) := zrf rfl
theorem s_135_58_7 {E : yE} {n d : Nat} {mem : yMem} {Post : Option yV → yMem → Prop} {st : List yV} {r0 r1 : Option yV} : zvc E (n + 1) [] d xm_135 58 [r0, r1] ((1, 7) :: st) mem Post = (zvc E n [] d xm_135 61 [r0, r1] ((0, mem 7 1) :: st) mem Post) := zrf rfl
theorem s_135_58_9 {E : yE} {n d : Nat} {mem : yMem} {Post : Option yV → yMem → Prop} {st : List yV} {r0 r1 : Option yV} : zvc E (n + 1) [] d xm_135 58 [r0, r1] ((1, 9) :: st) mem Post = (zvc E n [] d xm_135 61 [r0, r1] ((0, mem 9 1) :: st) mem Post) := zrf rfl
theorem s_135_58_29 {E : yE} {n d : Nat} {mem : yMem} {Post : Option yV → yMem → Prop} {st : List yV} {r0 r1 : Option yV} : zvc E (n + 1) [] d xm_135 58 [r0, r1] ((1, 29) :: st) mem Post = (zvc E n [] d xm_135 61 [r0, r1] ((0, mem 29 1) :: st) mem Post) := zrf rfl
theorem s_135_58_31 {E : yE} {n d : Nat} {mem : yMem} {Post : Option yV → yMem → Prop} {st : List yV} {r0 r1 : Option yV} : zvc E (n + 1) [] d xm_135 58 [r0, r1] ((1, 31) :: st) mem Post = (zvc E n [] d xm_135 61 [r0, r1] ((0, mem 31 1) :: st) mem Post) := zrf rfl
theorem s_135_58_33 {E : yE} {n d : Nat} {mem : yMem} {Post : Option yV → yMem → Prop} {st : List yV} {r0 r1 : Option yV} : zvc E (n + 1) [] d xm_135 58 [r0, r1] ((1, 33) :: st) mem Post = (zvc E n [] d xm_135 61 [r0, r1] ((0, mem 33 1) :: st) mem Post) := zrf rfl
theorem s_135_58_35 {E : yE} {n d : Nat} {mem : yMem} {Post : Option yV → yMem → Prop} {st : List yV} {r0 r1 : Option yV} : zvc E (n + 1) [] d xm_135 58 [r0, r1] ((1, 35) :: st) mem Post = (zvc E n [] d xm_135 61 [r0, r1] ((0, mem 35 1) :: st) mem Post) := zrf rfl
theorem s_135_61 {E : yE} {n d : Nat} {mem : yMem} {Post : Option yV → yMem → Prop} {st : List yV} {r0 r1 : Option yV} {m dp dd sp ss : Int} : zvc E (n + 1) [] d xm_135 61 [r0, r1] ((0, m) :: (0, dp) :: (1, dd) :: (0, sp) :: (1, ss) :: st) mem Post = (ysum st ≤ 8 ∧ zit ss 0 = true ∧ zit dd 0 = true ∧ 0 ≤ w32 m ∧ 0 ≤ w32 sp ∧ 0 ≤ w32 dp ∧ w32 sp + w32 m ≤ ((zar ss 0 : Nat) : Int) ∧ w32 dp + w32 m ≤ ((zar dd 0 : Nat) : Int) ∧ zvc E n [] d xm_135 64 [r0, r1] (st) (ycpy mem ss.toNat (w32 sp).toNat dd.toNat (w32 dp).toNat (w32 m).toNat) Post) := zrf rfl
theorem s_135_64 {E : yE} {n d : Nat} {mem : yMem} {Post : Option yV → yMem → Prop} {st : List yV} {r1 : Option yV} {x : Int} : zvc E (n + 1) [] d xm_135 64 [some (1, x), r1] (st) mem Post = (zvc E n [] d xm_135 65 [some (1, x), r1] ((1, x) :: st) mem Post) := zrf rfl
theorem s_135_65 {E : yE} {n d : Nat} {mem : yMem} {Post : Option yV → yMem → Prop} {st : List yV} {r0 r1 : Option yV} {z : Int} : zvc E (n + 1) [] d xm_135 65 [r0, r1] ((1, z) :: st) mem Post = (zio z 10 = true ∧ ysum st ≤ 8 ∧ yCon E d xm_137 [(1, z)] mem (fun v mem' => zgk E d xm_135 68 [r0, r1] st v mem' Post)) := zrf rfl
theorem s_135_68 {E : yE} {n d : Nat} {mem : yMem} {Post : Option yV → yMem → Prop} {st : List yV} {r1 : Option yV} {x : Int} : zvc E (n + 1) [] d xm_135 68 [some (1, x), r1] (st) mem Post = (zvc E n [] d xm_135 69 [some (1, x), r1] ((1, x) :: st) mem Post) := zrf rfl
theorem s_135_69 {E : yE} {n d : Nat} {mem : yMem} {Post : Option yV → yMem → Prop} {st : List yV} {r0 r1 : Option yV} : zvc E (n + 1) [] d xm_135 69 [r0, r1] (st) mem Post = (zvc E n [] d xm_135 70 [r0, r1] ((0, 0) :: st) mem Post) := zrf rfl
theorem s_135_70_57 {E : yE} {n d : Nat} {mem : yMem} {Post : Option yV → yMem → Prop} {st : List yV} {r0 r1 : Option yV} {x : Int} : zvc E (n + 1) [] d xm_135 70 [r0, r1] ((0, x) :: (1, 57) :: st) mem Post = (zvc E n [] d xm_135 73 [r0, r1] (st) (yset mem 57 7 x) Post) := zrf rfl
theorem s_135_70_64 {E : yE} {n d : Nat} {mem : yMem} {Post : Option yV → yMem → Prop} {st : List yV} {r0 r1 : Option yV} {x : Int} : zvc E (n + 1) [] d xm_135 70 [r0, r1] ((0, x) :: (1, 64) :: st) mem Post = (zvc E n [] d xm_135 73 [r0, r1] (st) (yset mem 64 7 x) Post) := zrf rfl
theorem s_135_73 {E : yE} {n d : Nat} {mem : yMem} {Post : Option yV → yMem → Prop} {st : List yV} {r1 : Option yV} {x : Int} : zvc E (n + 1) [] d xm_135 73 [some (1, x), r1] (st) mem Post = (zvc E n [] d xm_135 74 [some (1, x), r1] ((1, x) :: st) mem Post) := zrf rfl
theorem s_135_74 {E : yE} {n d : Nat} {mem : yMem} {Post : Option yV → yMem → Prop} {st : List yV} {r0 : Option yV} {x : Int} : zvc E (n + 1) [] d xm_135 74 [r0, some (1, x)] (st) mem Post = (zvc E n [] d xm_135 75 [r0, some (1, x)] ((1, x) :: st) mem Post) := zrf rfl
theorem s_135_75_2 {E : yE} {n d : Nat} {mem : yMem} {Post : Option yV → yMem → Prop} {st : List yV} {r0 r1 : Option yV} : zvc E (n + 1) [] d xm_135 75 [r0, r1] ((1, 2) :: st) mem Post = (zvc E n [] d xm_135 78 [r0, r1] ((0, mem 2 17) :: st) mem Post) := zrf rfl
theorem s_135_75_28 {E : yE} {n d : Nat} {mem : yMem} {Post : Option yV → yMem → Prop} {st : List yV} {r0 r1 : Option yV} : zvc E (n + 1) [] d xm_135 75 [r0, r1] ((1, 28) :: st) mem Post = (zvc E n [] d xm_135 78 [r0, r1] ((0, mem 28 17) :: st) mem Post) := zrf rfl
theorem s_135_78_57 {E : yE} {n d : Nat} {mem : yMem} {Post : Option yV → yMem → Prop} {st : List yV} {r0 r1 : Option yV} {x : Int} : zvc E (n + 1) [] d xm_135 78 [r0, r1] ((0, x) :: (1, 57) :: st) mem Post = (zvc E n [] d xm_135 81 [r0, r1] (st) (yset mem 57 8 x) Post) := zrf rfl
theorem s_135_78_64 {E : yE} {n d : Nat} {mem : yMem} {Post : Option yV → yMem → Prop} {st : List yV} {r0 r1 : Option yV} {x : Int} : zvc E (n + 1) [] d xm_135 78 [r0, r1] ((0, x) :: (1, 64) :: st) mem Post = (zvc E n [] d xm_135 81 [r0, r1] (st) (yset mem 64 8 x) Post) := zrf rfl
theorem s_135_81 {E : yE} {n d : Nat} {mem : yMem} {Post : Option yV → yMem → Prop} {st : List yV} {r1 : Option yV} {x : Int} : zvc E (n + 1) [] d xm_135 81 [some (1, x), r1] (st) mem Post = (zvc E n [] d xm_135 82 [some (1, x), r1] ((1, x) :: st) mem Post) := zrf rfl
theorem s_135_82 {E : yE} {n d : Nat} {mem : yMem} {Post : Option yV → yMem → Prop} {st : List yV} {r0 r1 : Option yV} : zvc E (n + 1) [] d xm_135 82 [r0, r1] (st) mem Post = (zvc E n [] d xm_135 83 [r0, r1] ((0, 0) :: st) mem Post) := zrf rfl
theorem s_135_83_57 {E : yE} {n d : Nat} {mem : yMem} {Post : Option yV → yMem → Prop} {st : List yV} {r0 r1 : Option yV} {x : Int} : zvc E (n + 1) [] d xm_135 83 [r0, r1] ((0, x) :: (1, 57) :: st) mem Post = (zvc E n [] d xm_135 86 [r0, r1] (st) (yset mem 57 9 x) Post) := zrf rfl
theorem s_135_83_64 {E : yE} {n d : Nat} {mem : yMem} {Post : Option yV → yMem → Prop} {st : List yV} {r0 r1 : Option yV} {x : Int} : zvc E (n + 1) [] d xm_135 83 [r0, r1] ((0, x) :: (1, 64) :: st) mem Post = (zvc E n [] d xm_135 86 [r0, r1] (st) (yset mem 64 9 x) Post) := zrf rfl
theorem s_135_86 {E : yE} {n d : Nat} {mem : yMem} {Post : Option yV → yMem → Prop} {st : List yV} {r1 : Option yV} {x : Int} : zvc E (n + 1) [] d xm_135 86 [some (1, x), r1] (st) mem Post = (zvc E n [] d xm_135 87 [some (1, x), r1] ((1, x) :: st) mem Post) := zrf rfl
theorem s_135_87 {E : yE} {n d : Nat} {mem : yMem} {Post : Option yV → yMem → Prop} {st : List yV} {r0 r1 : Option yV} : zvc E (n + 1) [] d xm_135 87 [r0, r1] (st) mem Post = (zvc E n [] d xm_135 88 [r0, r1] ((0, 0) :: st) mem Post) := zrf rfl
theorem s_135_88_57 {E : yE} {n d : Nat} {mem : yMem} {Post : Option yV → yMem → Prop} {st : List yV} {r0 r1 : Option yV} {x : Int} : zvc E (n + 1) [] d xm_135 88 [r0, r1] ((0, x) :: (1, 57) :: st) mem Post = (zvc E n [] d xm_135 91 [r0, r1] (st) (yset mem 57 10 x) Post) := zrf rfl
theorem s_135_88_64 {E : yE} {n d : Nat} {mem : yMem} {Post : Option yV → yMem → Prop} {st : List yV} {r0 r1 : Option yV} {x : Int} : zvc E (n + 1) [] d xm_135 88 [r0, r1] ((0, x) :: (1, 64) :: st) mem Post = (zvc E n [] d xm_135 91 [r0, r1] (st) (yset mem 64 10 x) Post) := zrf rfl
theorem s_135_91 {E : yE} {n d : Nat} {mem : yMem} {Post : Option yV → yMem → Prop} {st : List yV} {r1 : Option yV} {x : Int} : zvc E (n + 1) [] d xm_135 91 [some (1, x), r1] (st) mem Post = (zvc E n [] d xm_135 92 [some (1, x), r1] ((1, x) :: st) mem Post) := zrf rfl
theorem s_135_92 {E : yE} {n d : Nat} {mem : yMem} {Post : Option yV → yMem → Prop} {st : List yV} {r0 r1 : Option yV} : zvc E (n + 1) [] d xm_135 92 [r0, r1] (st) mem Post = (zvc E n [] d xm_135 93 [r0, r1] ((0, (-1)) :: st) mem Post) := zrf rfl
theorem s_135_93_57 {E : yE} {n d : Nat} {mem : yMem} {Post : Option yV → yMem → Prop} {st : List yV} {r0 r1 : Option yV} {x : Int} : zvc E (n + 1) [] d xm_135 93 [r0, r1] ((0, x) :: (1, 57) :: st) mem Post = (zvc E n [] d xm_135 96 [r0, r1] (st) (yset mem 57 11 x) Post) := zrf rfl
theorem s_135_93_64 {E : yE} {n d : Nat} {mem : yMem} {Post : Option yV → yMem → Prop} {st : List yV} {r0 r1 : Option yV} {x : Int} : zvc E (n + 1) [] d xm_135 93 [r0, r1] ((0, x) :: (1, 64) :: st) mem Post = (zvc E n [] d xm_135 96 [r0, r1] (st) (yset mem 64 11 x) Post) := zrf rfl
theorem s_135_96 {E : yE} {n d : Nat} {mem : yMem} {Post : Option yV → yMem → Prop} {st : List yV} {r1 : Option yV} {x : Int} : zvc E (n + 1) [] d xm_135 96 [some (1, x), r1] (st) mem Post = (zvc E n [] d xm_135 97 [some (1, x), r1] ((1, x) :: st) mem Post) := zrf rfl
theorem s_135_97 {E : yE} {n d : Nat} {mem : yMem} {Post : Option yV → yMem → Prop} {st : List yV} {r0 : Option yV} {x : Int} : zvc E (n + 1) [] d xm_135 97 [r0, some (1, x)] (st) mem Post = (zvc E n [] d xm_135 98 [r0, some (1, x)] ((1, x) :: st) mem Post) := zrf rfl
theorem s_135_98_2 {E : yE} {n d : Nat} {mem : yMem} {Post : Option yV → yMem → Prop} {st : List yV} {r0 r1 : Option yV} : zvc E (n + 1) [] d xm_135 98 [r0, r1] ((1, 2) :: st) mem Post = (zvc E n [] d xm_135 101 [r0, r1] ((0, mem 2 18) :: st) mem Post) := zrf rfl
theorem s_135_98_28 {E : yE} {n d : Nat} {mem : yMem} {Post : Option yV → yMem → Prop} {st : List yV} {r0 r1 : Option yV} : zvc E (n + 1) [] d xm_135 98 [r0, r1] ((1, 28) :: st) mem Post = (zvc E n [] d xm_135 101 [r0, r1] ((0, mem 28 18) :: st) mem Post) := zrf rfl
theorem s_135_101_57 {E : yE} {n d : Nat} {mem : yMem} {Post : Option yV → yMem → Prop} {st : List yV} {r0 r1 : Option yV} {x : Int} : zvc E (n + 1) [] d xm_135 101 [r0, r1] ((0, x) :: (1, 57) :: st) mem Post = (zvc E n [] d xm_135 104 [r0, r1] (st) (yset mem 57 12 x) Post) := zrf rfl
theorem s_135_101_64 {E : yE} {n d : Nat} {mem : yMem} {Post : Option yV → yMem → Prop} {st : List yV} {r0 r1 : Option yV} {x : Int} : zvc E (n + 1) [] d xm_135 101 [r0, r1] ((0, x) :: (1, 64) :: st) mem Post = (zvc E n [] d xm_135 104 [r0, r1] (st) (yset mem 64 12 x) Post) := zrf rfl
theorem s_135_104 {E : yE} {n d : Nat} {mem : yMem} {Post : Option yV → yMem → Prop} {r0 r1 : Option yV} : zvc E (n + 1) [] d xm_135 104 [r0, r1] ([]) mem Post = (Post none mem) := zrf rfl
theorem s_137_0 {E : yE} {n d : Nat} {mem : yMem} {Post : Option yV → yMem → Prop} {st : List yV} {x : Int} : zvc E (n + 1) [] d xm_137 0 [some (1, x)] (st) mem Post = (zvc E n [] d xm_137 1 [some (1, x)] ((1, x) :: st) mem Post) := zrf rfl
theorem s_137_1 {E : yE} {n d : Nat} {mem : yMem} {Post : Option yV → yMem → Prop} {st : List yV} {r0 : Option yV} : zvc E (n + 1) [] d xm_137 1 [r0] (st) mem Post = (zvc E n [] d xm_137 2 [r0] ((0, 0) :: st) mem Post) := zrf rfl
theorem s_137_2_57 {E : yE} {n d : Nat} {mem : yMem} {Post : Option yV → yMem → Prop} {st : List yV} {r0 : Option yV} {x : Int} : zvc E (n + 1) [] d xm_137 2 [r0] ((0, x) :: (1, 57) :: st) mem Post = (zvc E n [] d xm_137 5 [r0] (st) (yset mem 57 6 x) Post) := zrf rfl
theorem s_137_2_64 {E : yE} {n d : Nat} {mem : yMem} {Post : Option yV → yMem → Prop} {st : List yV} {r0 : Option yV} {x : Int} : zvc E (n + 1) [] d xm_137 2 [r0] ((0, x) :: (1, 64) :: st) mem Post = (zvc E n [] d xm_137 5 [r0] (st) (yset mem 64 6 x) Post) := zrf rfl
theorem s_137_5 {E : yE} {n d : Nat} {mem : yMem} {Post : Option yV → yMem → Prop} {st : List yV} {x : Int} : zvc E (n + 1) [] d xm_137 5 [some (1, x)] (st) mem Post = (zvc E n [] d xm_137 6 [some (1, x)] ((1, x) :: st) mem Post) := zrf rfl
theorem s_137_6_57 {E : yE} {n d : Nat} {mem : yMem} {Post : Option yV → yMem → Prop} {st : List yV} {r0 : Option yV} : zvc E (n + 1) [] d xm_137 6 [r0] ((1, 57) :: st) mem Post = (zvc E n [] d xm_137 9 [r0] ((1, 61) :: st) mem Post) := zrf rfl
theorem s_137_6_64 {E : yE} {n d : Nat} {mem : yMem} {Post : Option yV → yMem → Prop} {st : List yV} {r0 : Option yV} : zvc E (n + 1) [] d xm_137 6 [r0] ((1, 64) :: st) mem Post = (zvc E n [] d xm_137 9 [r0] ((1, 68) :: st) mem Post) := zrf rfl
theorem s_137_9 {E : yE} {n d : Nat} {mem : yMem} {Post : Option yV → yMem → Prop} {st : List yV} {r0 : Option yV} : zvc E (n + 1) [] d xm_137 9 [r0] (st) mem Post = (zvc E n [] d xm_137 10 [r0] ((0, (-1)) :: st) mem Post) := zrf rfl
theorem s_137_10 {E : yE} {n d : Nat} {mem : yMem} {Post : Option yV → yMem → Prop} {st : List yV} {r0 : Option yV} {a0 a1 : Int} : zvc E (n + 1) [] d xm_137 10 [r0] ((0, a1) :: (1, a0) :: st) mem Post = (True ∧ ysum st ≤ 8 ∧ yCon E d xm_263 [(1, a0), (0, a1)] mem (fun v mem' => zgk E d xm_137 13 [r0] st v mem' Post)) := zrf rfl
theorem s_137_13 {E : yE} {n d : Nat} {mem : yMem} {Post : Option yV → yMem → Prop} {r0 : Option yV} : zvc E (n + 1) [] d xm_137 13 [r0] ([]) mem Post = (Post none mem) := zrf rfl
theorem e_135 {E : yE} {d : Nat} {mem : yMem} {Q : Option yV → yMem → Prop} {z a0 : Int} (h : zG E d xm_135 0 [some (1, z), some (1, a0)] [] mem Q) : yCon E (d + 1) xm_135 [(1, z), (1, a0)] mem Q := zcon_of xmo_135 (Nat.le_of_ble_eq_true rfl) h
theorem e_137 {E : yE} {d : Nat} {mem : yMem} {Q : Option yV → yMem → Prop} {z : Int} (h : zG E d xm_137 0 [some (1, z)] [] mem Q) : yCon E (d + 1) xm_137 [(1, z)] mem Q := zcon_of xmo_137 (Nat.le_of_ble_eq_true rfl) h

/-! WHAT BECOMES OF THE WORLD behind a TEXT -/
/-- a TEXT's world, told by the class's own memory -/
def cBg (m : yMem) : Prop := (w32 (m 57 6) = 0 ∧ w32 (m 57 7) = 0 ∧ w32 (m 57 8) = w32 (m 2 17) ∧ w32 (m 57 9) = 0 ∧ w32 (m 57 10) = 0 ∧ w32 (m 57 12) = w32 (m 2 18)) ∧ (∀ j : Nat, j < 3 → w32 (m 58 j) = if (j : Int) < w32 (m 3 1) then w32 (m 12 j) else 0) ∧ (∀ j : Nat, j < 6 → w32 (m 59 j) = 0) ∧ (∀ j : Nat, j < 3 → w32 (m 60 j) = if (j : Int) < w32 (m 9 1) then w32 (m 21 j) else 0) ∧ ∀ j : Nat, j < 12 → w32 (m 61 j) = -1
theorem cBg_q {m n : yMem} (h : cBg n) (q : ∀ i j, (2 ≤ i ∧ i ≤ 26) ∨ (57 ≤ i ∧ i ≤ 61) → yRl i j = true → w32 (m i j) = w32 (n i j)) : cBg m := by
  obtain ⟨⟨a1, a2, a3, a4, a5, a6⟩, a7, a8, a9, a10⟩ := h
  refine ⟨⟨?_, ?_, ?_, ?_, ?_, ?_⟩, fun j hj => ?_, fun j hj => ?_, fun j hj => ?_, fun j hj => ?_⟩
  · rw [q 57 6 (by decide) rfl]; exact a1
  · rw [q 57 7 (by decide) rfl]; exact a2
  · rw [q 57 8 (by decide) rfl, q 2 17 (by decide) rfl]; exact a3
  · rw [q 57 9 (by decide) rfl]; exact a4
  · rw [q 57 10 (by decide) rfl]; exact a5
  · rw [q 57 12 (by decide) rfl, q 2 18 (by decide) rfl]; exact a6
  · rw [q 58 j (by decide) ((by decide : ∀ j, j < 3 → yRl 58 j = true) j hj), q 3 1 (by decide) rfl, q 12 j (by decide) ((by decide : ∀ j, j < 3 → yRl 12 j = true) j hj)]; exact a7 j hj
  · rw [q 59 j (by decide) ((by decide : ∀ j, j < 6 → yRl 59 j = true) j hj)]; exact a8 j hj
  · rw [q 60 j (by decide) ((by decide : ∀ j, j < 3 → yRl 60 j = true) j hj), q 9 1 (by decide) rfl, q 21 j (by decide) ((by decide : ∀ j, j < 3 → yRl 21 j = true) j hj)]; exact a9 j hj
  · rw [q 61 j (by decide) ((by decide : ∀ j, j < 12 → yRl 61 j = true) j hj)]; exact a10 j hj
theorem getD_at {α : Type} {l : List α} {j : Nat} (d : α) (h : j < l.length) : l[j]? = some (l.getD j d) := by
  rw [List.getD_eq_getElem?_getD, List.getElem?_eq_getElem h]
  rfl
theorem cBg_W {m : yMem} {D : dDc} {W : dU} (h : cBg m) (hD : cDh m D) (h62 : ∀ j, j < 12 → w32 (m 62 j) = uL W j) (h63 : ∀ j, j < 12 → w32 (m 63 j) = uP W j) : cW m 57 (uBg D W) := by
  obtain ⟨⟨a1, a2, a3, a4, a5, a6⟩, a7, a8, a9, a10⟩ := h
  obtain ⟨⟨t1, t2⟩, -, -, ⟨b1, b2⟩, ⟨p1, p2⟩, -⟩ := hD
  have e3 := t1.1
  have e9 := b1.1
  rw [List.length_map] at e3 e9
  refine ⟨fun j hj => ?_, fun j hj => a8 j hj, fun j hj => ?_, fun j hj => a10 j hj, fun j hj => h62 j hj, fun j hj => h63 j hj, a1, a2, ?_, a4, a5, ?_⟩
  · show w32 (m 58 j) = if j < D.1.length then (D.1.getD j (0, 0, 0)).2.2 else 0
    rw [a7 j hj, e3]
    by_cases hl : j < D.1.length
    · rw [if_pos (by (first | exact Nat.le_of_ble_eq_true rfl | exact (fun h => absurd h.1 (by decide)) | omega)), if_pos hl]
      exact (t2 j _ (getD_at (0, 0, 0) hl)).2
    · rw [if_neg (by (first | exact Nat.le_of_ble_eq_true rfl | exact (fun h => absurd h.1 (by decide)) | omega)), if_neg hl]
  · show w32 (m 60 j) = if j < D.2.2.2.1.length then (D.2.2.2.1.getD j (0, 0)).2 else 0
    rw [a9 j hj, e9]
    by_cases hl : j < D.2.2.2.1.length
    · rw [if_pos (by (first | exact Nat.le_of_ble_eq_true rfl | exact (fun h => absurd h.1 (by decide)) | omega)), if_pos hl]
      exact b2 j _ (getD_at (0, 0) hl)
    · rw [if_neg (by (first | exact Nat.le_of_ble_eq_true rfl | exact (fun h => absurd h.1 (by decide)) | omega)), if_neg hl]
  · rw [a3]; exact p1
  · rw [a6]; exact p2
theorem rBw_W {b b0 m : yMem} {D : dDc} {W : dU} (h : rBw b m) (hD : rDl m D) (hb : ∀ i j, 118 ≤ i → i ≤ 129 → b i j = b0 i j) (hW : rW b0 0 W) : rW m 0 (uBg D W) := by
  obtain ⟨⟨a1, a2, a3, a4, a5, a6⟩, a7, a8, a9, a10, a11⟩ := h
  obtain ⟨⟨t1, t2⟩, -, -, ⟨b1, b2⟩, ⟨p1, p2⟩, -⟩ := hD
  have e3 := t1.1
  have e9 := b1.1
  rw [List.length_map] at e3 e9
  obtain ⟨-, -, -, -, w5, w6, -⟩ := rW0 hW
  refine rW0_of ⟨fun j hj => ?_, fun j hj => a9 j hj, fun j hj => ?_, fun j hj => a10 j hj, fun j hj => ?_, fun j hj => ?_, a6, a1, ?_, a4, a5, ?_⟩
  · show w32 (m 123 j) = if j < D.1.length then (D.1.getD j (0, 0, 0)).2.2 else 0
    rw [a7 j hj, e3]
    by_cases hl : j < D.1.length
    · rw [if_pos (by (first | exact Nat.le_of_ble_eq_true rfl | exact (fun h => absurd h.1 (by decide)) | omega)), if_pos hl]
      exact (t2 j _ (getD_at (0, 0, 0) hl)).2
    · rw [if_neg (by (first | exact Nat.le_of_ble_eq_true rfl | exact (fun h => absurd h.1 (by decide)) | omega)), if_neg hl]
  · show w32 (m 124 j) = if j < D.2.2.2.1.length then (D.2.2.2.1.getD j (0, 0)).2 else 0
    rw [a8 j hj, e9]
    by_cases hl : j < D.2.2.2.1.length
    · rw [if_pos (by (first | exact Nat.le_of_ble_eq_true rfl | exact (fun h => absurd h.1 (by decide)) | omega)), if_pos hl]
      exact b2 j _ (getD_at (0, 0) hl)
    · rw [if_neg (by (first | exact Nat.le_of_ble_eq_true rfl | exact (fun h => absurd h.1 (by decide)) | omega)), if_neg hl]
  · rw [a11 128 j (by (first | exact Nat.le_of_ble_eq_true rfl | exact (fun h => absurd h.1 (by decide)) | omega)) (show j < 24 by (first | exact Nat.le_of_ble_eq_true rfl | exact (fun h => absurd h.1 (by decide)) | omega)), hb 128 j (by decide) (by decide)]; exact w5 j hj
  · rw [a11 129 j (by (first | exact Nat.le_of_ble_eq_true rfl | exact (fun h => absurd h.1 (by decide)) | omega)) (show j < 24 by (first | exact Nat.le_of_ble_eq_true rfl | exact (fun h => absurd h.1 (by decide)) | omega)), hb 129 j (by decide) (by decide)]; exact w6 j hj
  · rw [a2]; exact p1
  · rw [a3]; exact p2
theorem rBw_V {b b0 m : yMem} {V : dU} (h : rBw b m) (hb : ∀ i j, 118 ≤ i → i ≤ 129 → b i j = b0 i j) (hV : rW b0 1 V) : rW m 1 V := by
  have a11 := h.2.2.2.2.2
  obtain ⟨v1, v2, v3, v4, v5, v6, v7, v8, v9, v10, v11, v12⟩ := hV
  have u : ∀ i j : Nat, (118 ≤ i ∧ i ≤ 122 ∧ j ≠ 0) ∨ (i = 123 ∧ 3 ≤ j) ∨ (i = 124 ∧ 3 ≤ j) ∨ (i = 125 ∧ 6 ≤ j) ∨ (i = 126 ∧ 12 ≤ j) ∨ (i = 127 ∧ j ≠ 0) ∨ i = 128 ∨ i = 129 → j < wln i → w32 (m i j) = w32 (b0 i j) := fun i j h1 h2 => by rw [a11 i j h1 h2, hb i j (by (first | exact Nat.le_of_ble_eq_true rfl | exact (fun h => absurd h.1 (by decide)) | omega)) (by (first | exact Nat.le_of_ble_eq_true rfl | exact (fun h => absurd h.1 (by decide)) | omega))]
  refine ⟨fun j hj => ?_, fun j hj => ?_, fun j hj => ?_, fun j hj => ?_, fun j hj => ?_, fun j hj => ?_, ?_, ?_, ?_, ?_, ?_, ?_⟩
  · rw [u 123 _ (by (first | exact Nat.le_of_ble_eq_true rfl | exact (fun h => absurd h.1 (by decide)) | omega)) (show 3 * 1 + j < 6 by (first | exact Nat.le_of_ble_eq_true rfl | exact (fun h => absurd h.1 (by decide)) | omega))]; exact v1 j hj
  · rw [u 125 _ (by (first | exact Nat.le_of_ble_eq_true rfl | exact (fun h => absurd h.1 (by decide)) | omega)) (show 6 * 1 + j < 12 by (first | exact Nat.le_of_ble_eq_true rfl | exact (fun h => absurd h.1 (by decide)) | omega))]; exact v2 j hj
  · rw [u 124 _ (by (first | exact Nat.le_of_ble_eq_true rfl | exact (fun h => absurd h.1 (by decide)) | omega)) (show 3 * 1 + j < 6 by (first | exact Nat.le_of_ble_eq_true rfl | exact (fun h => absurd h.1 (by decide)) | omega))]; exact v3 j hj
  · rw [u 126 _ (by (first | exact Nat.le_of_ble_eq_true rfl | exact (fun h => absurd h.1 (by decide)) | omega)) (show 12 * 1 + j < 24 by (first | exact Nat.le_of_ble_eq_true rfl | exact (fun h => absurd h.1 (by decide)) | omega))]; exact v4 j hj
  · rw [u 128 _ (by (first | exact Nat.le_of_ble_eq_true rfl | exact (fun h => absurd h.1 (by decide)) | omega)) (show 12 * 1 + j < 24 by (first | exact Nat.le_of_ble_eq_true rfl | exact (fun h => absurd h.1 (by decide)) | omega))]; exact v5 j hj
  · rw [u 129 _ (by (first | exact Nat.le_of_ble_eq_true rfl | exact (fun h => absurd h.1 (by decide)) | omega)) (show 12 * 1 + j < 24 by (first | exact Nat.le_of_ble_eq_true rfl | exact (fun h => absurd h.1 (by decide)) | omega))]; exact v6 j hj
  · rw [u 127 1 (by (first | exact Nat.le_of_ble_eq_true rfl | exact (fun h => absurd h.1 (by decide)) | omega)) (by decide)]; exact v7
  · rw [u 118 1 (by (first | exact Nat.le_of_ble_eq_true rfl | exact (fun h => absurd h.1 (by decide)) | omega)) (by decide)]; exact v8
  · rw [u 119 1 (by (first | exact Nat.le_of_ble_eq_true rfl | exact (fun h => absurd h.1 (by decide)) | omega)) (by decide)]; exact v9
  · rw [u 121 1 (by (first | exact Nat.le_of_ble_eq_true rfl | exact (fun h => absurd h.1 (by decide)) | omega)) (by decide)]; exact v10
  · rw [u 122 1 (by (first | exact Nat.le_of_ble_eq_true rfl | exact (fun h => absurd h.1 (by decide)) | omega)) (by decide)]; exact v11
  · rw [u 120 1 (by (first | exact Nat.le_of_ble_eq_true rfl | exact (fun h => absurd h.1 (by decide)) | omega)) (by decide)]; exact v12
section XW
variable {E : yE} {mem : yMem} {Q : Option yV → yMem → Prop}
theorem ycp_o {m : yMem} {ss sp dd dp n c j : Nat} (h : c ≠ dd) : ycpy m ss sp dd dp n c j = m c j := if_neg h
theorem ycp_s {m : yMem} {ss sp dd dp n j : Nat} : ycpy m ss sp dd dp n dd j = if dp ≤ j ∧ j < dp + n then m ss (sp + (j - dp)) else m dd j := if_pos rfl
theorem gx_dall (hE : yEok E) {D : Nat} (hD : 2 ≤ D) (hQ : ∀ m', (∀ i j, i ≠ 61 → m' i j = yset mem 57 6 0 i j) → (∀ j, j < 12 → m' 61 j = -1) → Q none m') : yCon E D xm_137 [(1, 57)] mem Q := by
  obtain ⟨d, rfl⟩ := Nat.exists_eq_add_of_le' hD
  refine e_137 ?_
  refine zvc_ok hE 60 [] _ _ _ _ _ _ _ xmo_137 ?_
  simp only [ynok_30, ynok_31, w32c_0, w32c_1, w32c_2, w32c_3, w32c_4, w32c_5, w32c_6, w32c_7, w32c_8, w32c_9, w32c_10, w32c_11, w32c_12, w32c_13, w32c_14, w32c_m1, w32c_m2, w32c_118, Int.reduceAdd, Int.reduceSub, Int.reduceMul, yput_s, yput_n, znl_n, znl_0, znl_1, znl_4, ysum_n, ysum_0, ysum_1, ysum_4, true_and, and_true, Nat.reduceAdd, Nat.reduceLeDiff, true_implies, eq_self, true_or, or_true, or_false, false_or, not_true_eq_false, not_false_eq_true, false_implies, implies_true, yset_s, yset_o, yset_d, ne_eq, Nat.reduceEqDiff, Int.reduceToNat, Int.reduceEq, Int.reduceLE, Int.reduceLT, Classical.not_not, Nat.reduceLT, ↓zvk_s, ↓zvk_n, ↓s_137_0, ↓s_137_1, ↓s_137_2_57, ↓s_137_2_64, ↓s_137_5, ↓s_137_6_57, ↓s_137_6_64, ↓s_137_9, ↓s_137_10, ↓s_137_13, zio_64, zar_68, zia_68, zln_68, zit_68, zio_57, zar_61, zia_61, zln_61, zit_61]
  refine g_fill hE (by (first | exact Nat.le_of_ble_eq_true rfl | exact (fun h => absurd h.1 (by decide)) | omega)) (z := 61) (L := 12) (by decide) (by decide) (by decide) (by decide) (fun m1 F1 V1 => ?_)
  refine zgk_n hE xmo_137 60 [] ?_
  simp only [ynok_30, ynok_31, w32c_0, w32c_1, w32c_2, w32c_3, w32c_4, w32c_5, w32c_6, w32c_7, w32c_8, w32c_9, w32c_10, w32c_11, w32c_12, w32c_13, w32c_14, w32c_m1, w32c_m2, w32c_118, Int.reduceAdd, Int.reduceSub, Int.reduceMul, yput_s, yput_n, znl_n, znl_0, znl_1, znl_4, ysum_n, ysum_0, ysum_1, ysum_4, true_and, and_true, Nat.reduceAdd, Nat.reduceLeDiff, true_implies, eq_self, true_or, or_true, or_false, false_or, not_true_eq_false, not_false_eq_true, false_implies, implies_true, yset_s, yset_o, yset_d, ne_eq, Nat.reduceEqDiff, Int.reduceToNat, Int.reduceEq, Int.reduceLE, Int.reduceLT, Classical.not_not, Nat.reduceLT, ↓zvk_s, ↓zvk_n, ↓s_137_0, ↓s_137_1, ↓s_137_2_57, ↓s_137_2_64, ↓s_137_5, ↓s_137_6_57, ↓s_137_6_64, ↓s_137_9, ↓s_137_10, ↓s_137_13, zio_64, zar_68, zia_68, zln_68, zit_68, zio_57, zar_61, zia_61, zln_61, zit_61]
  exact hQ m1 F1 V1
theorem gx_begin (hE : yEok E) {D : Nat} (hD : 3 ≤ D) (h3 : 0 ≤ w32 (mem 3 1) ∧ w32 (mem 3 1) ≤ 3) (h9 : 0 ≤ w32 (mem 9 1) ∧ w32 (mem 9 1) ≤ 3) (hQ : ∀ m, (∀ i j, i < 57 ∨ 61 < i → m i j = mem i j) → cBg m → Q none m) : yCon E D xm_135 [(1, 57), (1, 2)] mem Q := by
  obtain ⟨d, rfl⟩ := Nat.exists_eq_add_of_le' hD
  refine e_135 ?_
  refine zvc_ok hE 90 [] _ _ _ _ _ _ _ xmo_135 ?_
  simp only [ynok_30, ynok_31, w32c_0, w32c_1, w32c_2, w32c_3, w32c_4, w32c_5, w32c_6, w32c_7, w32c_8, w32c_9, w32c_10, w32c_11, w32c_12, w32c_13, w32c_14, w32c_m1, w32c_m2, w32c_118, Int.reduceAdd, Int.reduceSub, Int.reduceMul, yput_s, yput_n, znl_n, znl_0, znl_1, znl_4, ysum_n, ysum_0, ysum_1, ysum_4, true_and, and_true, Nat.reduceAdd, Nat.reduceLeDiff, true_implies, eq_self, true_or, or_true, or_false, false_or, not_true_eq_false, not_false_eq_true, false_implies, implies_true, yset_s, yset_o, yset_d, ne_eq, Nat.reduceEqDiff, Int.reduceToNat, Int.reduceEq, Int.reduceLE, Int.reduceLT, Classical.not_not, Nat.reduceLT, ↓zvk_s, ↓zvk_n, ↓s_135_0, ↓s_135_1_57, ↓s_135_1_64, ↓s_135_4, ↓s_135_5, ↓s_135_8, ↓s_135_9_57, ↓s_135_9_64, ↓s_135_12, ↓s_135_13, ↓s_135_16, ↓s_135_17_57, ↓s_135_17_64, ↓s_135_20, ↓s_135_21, ↓s_135_24, ↓s_135_25_2, ↓s_135_25_28, ↓s_135_28, ↓s_135_29, ↓s_135_30_57, ↓s_135_30_64, ↓s_135_33, ↓s_135_34, ↓s_135_35_2, ↓s_135_35_28, ↓s_135_38_3, ↓s_135_38_5, ↓s_135_38_7, ↓s_135_38_9, ↓s_135_38_29, ↓s_135_38_31, ↓s_135_38_33, ↓s_135_38_35, ↓s_135_41, ↓s_135_44, ↓s_135_45_2, ↓s_135_45_28, ↓s_135_48, ↓s_135_49, ↓s_135_50_57, ↓s_135_50_64, ↓s_135_53, ↓s_135_54, ↓s_135_55_2, ↓s_135_55_28, ↓s_135_58_3, ↓s_135_58_5, ↓s_135_58_7, ↓s_135_58_9, ↓s_135_58_29, ↓s_135_58_31, ↓s_135_58_33, ↓s_135_58_35, ↓s_135_61, ↓s_135_64, ↓s_135_65, ↓s_135_68, ↓s_135_69, ↓s_135_70_57, ↓s_135_70_64, ↓s_135_73, ↓s_135_74, ↓s_135_75_2, ↓s_135_75_28, ↓s_135_78_57, ↓s_135_78_64, ↓s_135_81, ↓s_135_82, ↓s_135_83_57, ↓s_135_83_64, ↓s_135_86, ↓s_135_87, ↓s_135_88_57, ↓s_135_88_64, ↓s_135_91, ↓s_135_92, ↓s_135_93_57, ↓s_135_93_64, ↓s_135_96, ↓s_135_97, ↓s_135_98_2, ↓s_135_98_28, ↓s_135_101_57, ↓s_135_101_64, ↓s_135_104, zio_64, zar_65, zia_65, zln_65, zit_65, zar_66, zia_66, zln_66, zit_66, zar_67, zia_67, zln_67, zit_67, zio_2, zio_3, zio_5, zio_7, zio_9, zar_12, zia_12, zln_12, zit_12, zar_21, zia_21, zln_21, zit_21, zio_28, zio_29, zio_31, zio_33, zio_35, zar_38, zia_38, zln_38, zit_38, zar_47, zia_47, zln_47, zit_47, zio_57, zar_58, zia_58, zln_58, zit_58, zar_59, zia_59, zln_59, zit_59, zar_60, zia_60, zln_60, zit_60]
  refine g_fill hE (by (first | exact Nat.le_of_ble_eq_true rfl | exact (fun h => absurd h.1 (by decide)) | omega)) (z := 58) (L := 3) (by decide) (by decide) (by decide) (by decide) (fun m1 F1 V1 => ?_)
  refine zgk_n hE xmo_135 90 [] ?_
  simp only [ynok_30, ynok_31, w32c_0, w32c_1, w32c_2, w32c_3, w32c_4, w32c_5, w32c_6, w32c_7, w32c_8, w32c_9, w32c_10, w32c_11, w32c_12, w32c_13, w32c_14, w32c_m1, w32c_m2, w32c_118, Int.reduceAdd, Int.reduceSub, Int.reduceMul, yput_s, yput_n, znl_n, znl_0, znl_1, znl_4, ysum_n, ysum_0, ysum_1, ysum_4, true_and, and_true, Nat.reduceAdd, Nat.reduceLeDiff, true_implies, eq_self, true_or, or_true, or_false, false_or, not_true_eq_false, not_false_eq_true, false_implies, implies_true, yset_s, yset_o, yset_d, ne_eq, Nat.reduceEqDiff, Int.reduceToNat, Int.reduceEq, Int.reduceLE, Int.reduceLT, Classical.not_not, Nat.reduceLT, ↓zvk_s, ↓zvk_n, ↓s_135_0, ↓s_135_1_57, ↓s_135_1_64, ↓s_135_4, ↓s_135_5, ↓s_135_8, ↓s_135_9_57, ↓s_135_9_64, ↓s_135_12, ↓s_135_13, ↓s_135_16, ↓s_135_17_57, ↓s_135_17_64, ↓s_135_20, ↓s_135_21, ↓s_135_24, ↓s_135_25_2, ↓s_135_25_28, ↓s_135_28, ↓s_135_29, ↓s_135_30_57, ↓s_135_30_64, ↓s_135_33, ↓s_135_34, ↓s_135_35_2, ↓s_135_35_28, ↓s_135_38_3, ↓s_135_38_5, ↓s_135_38_7, ↓s_135_38_9, ↓s_135_38_29, ↓s_135_38_31, ↓s_135_38_33, ↓s_135_38_35, ↓s_135_41, ↓s_135_44, ↓s_135_45_2, ↓s_135_45_28, ↓s_135_48, ↓s_135_49, ↓s_135_50_57, ↓s_135_50_64, ↓s_135_53, ↓s_135_54, ↓s_135_55_2, ↓s_135_55_28, ↓s_135_58_3, ↓s_135_58_5, ↓s_135_58_7, ↓s_135_58_9, ↓s_135_58_29, ↓s_135_58_31, ↓s_135_58_33, ↓s_135_58_35, ↓s_135_61, ↓s_135_64, ↓s_135_65, ↓s_135_68, ↓s_135_69, ↓s_135_70_57, ↓s_135_70_64, ↓s_135_73, ↓s_135_74, ↓s_135_75_2, ↓s_135_75_28, ↓s_135_78_57, ↓s_135_78_64, ↓s_135_81, ↓s_135_82, ↓s_135_83_57, ↓s_135_83_64, ↓s_135_86, ↓s_135_87, ↓s_135_88_57, ↓s_135_88_64, ↓s_135_91, ↓s_135_92, ↓s_135_93_57, ↓s_135_93_64, ↓s_135_96, ↓s_135_97, ↓s_135_98_2, ↓s_135_98_28, ↓s_135_101_57, ↓s_135_101_64, ↓s_135_104, zio_64, zar_65, zia_65, zln_65, zit_65, zar_66, zia_66, zln_66, zit_66, zar_67, zia_67, zln_67, zit_67, zio_2, zio_3, zio_5, zio_7, zio_9, zar_12, zia_12, zln_12, zit_12, zar_21, zia_21, zln_21, zit_21, zio_28, zio_29, zio_31, zio_33, zio_35, zar_38, zia_38, zln_38, zit_38, zar_47, zia_47, zln_47, zit_47, zio_57, zar_58, zia_58, zln_58, zit_58, zar_59, zia_59, zln_59, zit_59, zar_60, zia_60, zln_60, zit_60]
  refine g_fill hE (by (first | exact Nat.le_of_ble_eq_true rfl | exact (fun h => absurd h.1 (by decide)) | omega)) (z := 60) (L := 3) (by decide) (by decide) (by decide) (by decide) (fun m2 F2 V2 => ?_)
  refine zgk_n hE xmo_135 90 [] ?_
  simp only [ynok_30, ynok_31, w32c_0, w32c_1, w32c_2, w32c_3, w32c_4, w32c_5, w32c_6, w32c_7, w32c_8, w32c_9, w32c_10, w32c_11, w32c_12, w32c_13, w32c_14, w32c_m1, w32c_m2, w32c_118, Int.reduceAdd, Int.reduceSub, Int.reduceMul, yput_s, yput_n, znl_n, znl_0, znl_1, znl_4, ysum_n, ysum_0, ysum_1, ysum_4, true_and, and_true, Nat.reduceAdd, Nat.reduceLeDiff, true_implies, eq_self, true_or, or_true, or_false, false_or, not_true_eq_false, not_false_eq_true, false_implies, implies_true, yset_s, yset_o, yset_d, ne_eq, Nat.reduceEqDiff, Int.reduceToNat, Int.reduceEq, Int.reduceLE, Int.reduceLT, Classical.not_not, Nat.reduceLT, ↓zvk_s, ↓zvk_n, ↓s_135_0, ↓s_135_1_57, ↓s_135_1_64, ↓s_135_4, ↓s_135_5, ↓s_135_8, ↓s_135_9_57, ↓s_135_9_64, ↓s_135_12, ↓s_135_13, ↓s_135_16, ↓s_135_17_57, ↓s_135_17_64, ↓s_135_20, ↓s_135_21, ↓s_135_24, ↓s_135_25_2, ↓s_135_25_28, ↓s_135_28, ↓s_135_29, ↓s_135_30_57, ↓s_135_30_64, ↓s_135_33, ↓s_135_34, ↓s_135_35_2, ↓s_135_35_28, ↓s_135_38_3, ↓s_135_38_5, ↓s_135_38_7, ↓s_135_38_9, ↓s_135_38_29, ↓s_135_38_31, ↓s_135_38_33, ↓s_135_38_35, ↓s_135_41, ↓s_135_44, ↓s_135_45_2, ↓s_135_45_28, ↓s_135_48, ↓s_135_49, ↓s_135_50_57, ↓s_135_50_64, ↓s_135_53, ↓s_135_54, ↓s_135_55_2, ↓s_135_55_28, ↓s_135_58_3, ↓s_135_58_5, ↓s_135_58_7, ↓s_135_58_9, ↓s_135_58_29, ↓s_135_58_31, ↓s_135_58_33, ↓s_135_58_35, ↓s_135_61, ↓s_135_64, ↓s_135_65, ↓s_135_68, ↓s_135_69, ↓s_135_70_57, ↓s_135_70_64, ↓s_135_73, ↓s_135_74, ↓s_135_75_2, ↓s_135_75_28, ↓s_135_78_57, ↓s_135_78_64, ↓s_135_81, ↓s_135_82, ↓s_135_83_57, ↓s_135_83_64, ↓s_135_86, ↓s_135_87, ↓s_135_88_57, ↓s_135_88_64, ↓s_135_91, ↓s_135_92, ↓s_135_93_57, ↓s_135_93_64, ↓s_135_96, ↓s_135_97, ↓s_135_98_2, ↓s_135_98_28, ↓s_135_101_57, ↓s_135_101_64, ↓s_135_104, zio_64, zar_65, zia_65, zln_65, zit_65, zar_66, zia_66, zln_66, zit_66, zar_67, zia_67, zln_67, zit_67, zio_2, zio_3, zio_5, zio_7, zio_9, zar_12, zia_12, zln_12, zit_12, zar_21, zia_21, zln_21, zit_21, zio_28, zio_29, zio_31, zio_33, zio_35, zar_38, zia_38, zln_38, zit_38, zar_47, zia_47, zln_47, zit_47, zio_57, zar_58, zia_58, zln_58, zit_58, zar_59, zia_59, zln_59, zit_59, zar_60, zia_60, zln_60, zit_60]
  refine g_fill hE (by (first | exact Nat.le_of_ble_eq_true rfl | exact (fun h => absurd h.1 (by decide)) | omega)) (z := 59) (L := 6) (by decide) (by decide) (by decide) (by decide) (fun m3 F3 V3 => ?_)
  refine zgk_n hE xmo_135 90 [] ?_
  simp only [ynok_30, ynok_31, w32c_0, w32c_1, w32c_2, w32c_3, w32c_4, w32c_5, w32c_6, w32c_7, w32c_8, w32c_9, w32c_10, w32c_11, w32c_12, w32c_13, w32c_14, w32c_m1, w32c_m2, w32c_118, Int.reduceAdd, Int.reduceSub, Int.reduceMul, yput_s, yput_n, znl_n, znl_0, znl_1, znl_4, ysum_n, ysum_0, ysum_1, ysum_4, true_and, and_true, Nat.reduceAdd, Nat.reduceLeDiff, true_implies, eq_self, true_or, or_true, or_false, false_or, not_true_eq_false, not_false_eq_true, false_implies, implies_true, yset_s, yset_o, yset_d, ne_eq, Nat.reduceEqDiff, Int.reduceToNat, Int.reduceEq, Int.reduceLE, Int.reduceLT, Classical.not_not, Nat.reduceLT, ↓zvk_s, ↓zvk_n, ↓s_135_0, ↓s_135_1_57, ↓s_135_1_64, ↓s_135_4, ↓s_135_5, ↓s_135_8, ↓s_135_9_57, ↓s_135_9_64, ↓s_135_12, ↓s_135_13, ↓s_135_16, ↓s_135_17_57, ↓s_135_17_64, ↓s_135_20, ↓s_135_21, ↓s_135_24, ↓s_135_25_2, ↓s_135_25_28, ↓s_135_28, ↓s_135_29, ↓s_135_30_57, ↓s_135_30_64, ↓s_135_33, ↓s_135_34, ↓s_135_35_2, ↓s_135_35_28, ↓s_135_38_3, ↓s_135_38_5, ↓s_135_38_7, ↓s_135_38_9, ↓s_135_38_29, ↓s_135_38_31, ↓s_135_38_33, ↓s_135_38_35, ↓s_135_41, ↓s_135_44, ↓s_135_45_2, ↓s_135_45_28, ↓s_135_48, ↓s_135_49, ↓s_135_50_57, ↓s_135_50_64, ↓s_135_53, ↓s_135_54, ↓s_135_55_2, ↓s_135_55_28, ↓s_135_58_3, ↓s_135_58_5, ↓s_135_58_7, ↓s_135_58_9, ↓s_135_58_29, ↓s_135_58_31, ↓s_135_58_33, ↓s_135_58_35, ↓s_135_61, ↓s_135_64, ↓s_135_65, ↓s_135_68, ↓s_135_69, ↓s_135_70_57, ↓s_135_70_64, ↓s_135_73, ↓s_135_74, ↓s_135_75_2, ↓s_135_75_28, ↓s_135_78_57, ↓s_135_78_64, ↓s_135_81, ↓s_135_82, ↓s_135_83_57, ↓s_135_83_64, ↓s_135_86, ↓s_135_87, ↓s_135_88_57, ↓s_135_88_64, ↓s_135_91, ↓s_135_92, ↓s_135_93_57, ↓s_135_93_64, ↓s_135_96, ↓s_135_97, ↓s_135_98_2, ↓s_135_98_28, ↓s_135_101_57, ↓s_135_101_64, ↓s_135_104, zio_64, zar_65, zia_65, zln_65, zit_65, zar_66, zia_66, zln_66, zit_66, zar_67, zia_67, zln_67, zit_67, zio_2, zio_3, zio_5, zio_7, zio_9, zar_12, zia_12, zln_12, zit_12, zar_21, zia_21, zln_21, zit_21, zio_28, zio_29, zio_31, zio_33, zio_35, zar_38, zia_38, zln_38, zit_38, zar_47, zia_47, zln_47, zit_47, zio_57, zar_58, zia_58, zln_58, zit_58, zar_59, zia_59, zln_59, zit_59, zar_60, zia_60, zln_60, zit_60]
  have F1 : ∀ i j, i ≠ 58 → m1 i j = mem i j := F1
  have F2 : ∀ i j, i ≠ 60 → m2 i j = m1 i j := F2
  have F3 : ∀ i j, i ≠ 59 → m3 i j = m2 i j := F3
  have V1 : ∀ j, j < 3 → m1 58 j = 0 := V1
  have V2 : ∀ j, j < 3 → m2 60 j = 0 := V2
  have V3 : ∀ j, j < 6 → m3 59 j = 0 := V3
  have up3 : ∀ i j, i ≠ 58 → i ≠ 59 → i ≠ 60 → m3 i j = mem i j := fun i j a b c => by rw [F3 i j b, F2 i j c, F1 i j a]
  have e3 : m3 3 1 = mem 3 1 := up3 3 1 (by decide) (by decide) (by decide)
  have c0 : ∀ i j, i ≠ 58 → ycpy m3 12 0 58 0 (w32 (m3 3 1)).toNat i j = m3 i j := fun i j h => ycp_o h
  have e9 : ycpy m3 12 0 58 0 (w32 (m3 3 1)).toNat 9 1 = mem 9 1 := by rw [c0 9 1 (by decide), up3 9 1 (by decide) (by decide) (by decide)]
  rw [e9, e3]
  rw [e3] at c0
  refine ⟨h3.1, by (first | exact Nat.le_of_ble_eq_true rfl | exact (fun h => absurd h.1 (by decide)) | omega), by (first | exact Nat.le_of_ble_eq_true rfl | exact (fun h => absurd h.1 (by decide)) | omega), h9.1, by (first | exact Nat.le_of_ble_eq_true rfl | exact (fun h => absurd h.1 (by decide)) | omega), by (first | exact Nat.le_of_ble_eq_true rfl | exact (fun h => absurd h.1 (by decide)) | omega), gx_dall hE (by (first | exact Nat.le_of_ble_eq_true rfl | exact (fun h => absurd h.1 (by decide)) | omega)) (fun m4 F4 V4 => ?_)⟩
  have c1 : ∀ i j, i ≠ 58 → i ≠ 60 → ycpy (ycpy m3 12 0 58 0 (w32 (mem 3 1)).toNat) 21 0 60 0 (w32 (mem 9 1)).toNat i j = m3 i j := fun i j a b => by
    rw [ycp_o b, c0 i j a]
  have t58 : ∀ j, j < 3 → ycpy (ycpy m3 12 0 58 0 (w32 (mem 3 1)).toNat) 21 0 60 0 (w32 (mem 9 1)).toNat 58 j = if (j : Int) < w32 (mem 3 1) then mem 12 j else 0 := fun j hj => by
    rw [ycp_o (by decide), ycp_s]
    by_cases h : (j : Int) < w32 (mem 3 1)
    · rw [if_pos ⟨Nat.zero_le _, by (first | exact Nat.le_of_ble_eq_true rfl | exact (fun h => absurd h.1 (by decide)) | omega)⟩, if_pos h, up3 12 _ (by decide) (by decide) (by decide), show 0 + (j - 0) = j by (first | exact Nat.le_of_ble_eq_true rfl | exact (fun h => absurd h.1 (by decide)) | omega)]
    · rw [if_neg (by (first | exact Nat.le_of_ble_eq_true rfl | exact (fun h => absurd h.1 (by decide)) | omega)), if_neg h, F3 58 j (by decide), F2 58 j (by decide)]
      exact V1 j hj
  have t60 : ∀ j, j < 3 → ycpy (ycpy m3 12 0 58 0 (w32 (mem 3 1)).toNat) 21 0 60 0 (w32 (mem 9 1)).toNat 60 j = if (j : Int) < w32 (mem 9 1) then mem 21 j else 0 := fun j hj => by
    rw [ycp_s]
    by_cases h : (j : Int) < w32 (mem 9 1)
    · rw [if_pos ⟨Nat.zero_le _, by (first | exact Nat.le_of_ble_eq_true rfl | exact (fun h => absurd h.1 (by decide)) | omega)⟩, if_pos h, c0 21 _ (by decide), up3 21 _ (by decide) (by decide) (by decide), show 0 + (j - 0) = j by (first | exact Nat.le_of_ble_eq_true rfl | exact (fun h => absurd h.1 (by decide)) | omega)]
    · rw [if_neg (by (first | exact Nat.le_of_ble_eq_true rfl | exact (fun h => absurd h.1 (by decide)) | omega)), if_neg h, c0 60 j (by decide), F3 60 j (by decide)]
      exact V2 j hj
  revert c1 t58 t60 F4
  generalize ycpy (ycpy m3 12 0 58 0 (w32 (mem 3 1)).toNat) 21 0 60 0 (w32 (mem 9 1)).toNat = B
  intro F4 c1 t58 t60
  refine zgk_n hE xmo_135 90 [] ?_
  simp only [ynok_30, ynok_31, w32c_0, w32c_1, w32c_2, w32c_3, w32c_4, w32c_5, w32c_6, w32c_7, w32c_8, w32c_9, w32c_10, w32c_11, w32c_12, w32c_13, w32c_14, w32c_m1, w32c_m2, w32c_118, Int.reduceAdd, Int.reduceSub, Int.reduceMul, yput_s, yput_n, znl_n, znl_0, znl_1, znl_4, ysum_n, ysum_0, ysum_1, ysum_4, true_and, and_true, Nat.reduceAdd, Nat.reduceLeDiff, true_implies, eq_self, true_or, or_true, or_false, false_or, not_true_eq_false, not_false_eq_true, false_implies, implies_true, yset_s, yset_o, yset_d, ne_eq, Nat.reduceEqDiff, Int.reduceToNat, Int.reduceEq, Int.reduceLE, Int.reduceLT, Classical.not_not, Nat.reduceLT, ↓zvk_s, ↓zvk_n, ↓s_135_0, ↓s_135_1_57, ↓s_135_1_64, ↓s_135_4, ↓s_135_5, ↓s_135_8, ↓s_135_9_57, ↓s_135_9_64, ↓s_135_12, ↓s_135_13, ↓s_135_16, ↓s_135_17_57, ↓s_135_17_64, ↓s_135_20, ↓s_135_21, ↓s_135_24, ↓s_135_25_2, ↓s_135_25_28, ↓s_135_28, ↓s_135_29, ↓s_135_30_57, ↓s_135_30_64, ↓s_135_33, ↓s_135_34, ↓s_135_35_2, ↓s_135_35_28, ↓s_135_38_3, ↓s_135_38_5, ↓s_135_38_7, ↓s_135_38_9, ↓s_135_38_29, ↓s_135_38_31, ↓s_135_38_33, ↓s_135_38_35, ↓s_135_41, ↓s_135_44, ↓s_135_45_2, ↓s_135_45_28, ↓s_135_48, ↓s_135_49, ↓s_135_50_57, ↓s_135_50_64, ↓s_135_53, ↓s_135_54, ↓s_135_55_2, ↓s_135_55_28, ↓s_135_58_3, ↓s_135_58_5, ↓s_135_58_7, ↓s_135_58_9, ↓s_135_58_29, ↓s_135_58_31, ↓s_135_58_33, ↓s_135_58_35, ↓s_135_61, ↓s_135_64, ↓s_135_65, ↓s_135_68, ↓s_135_69, ↓s_135_70_57, ↓s_135_70_64, ↓s_135_73, ↓s_135_74, ↓s_135_75_2, ↓s_135_75_28, ↓s_135_78_57, ↓s_135_78_64, ↓s_135_81, ↓s_135_82, ↓s_135_83_57, ↓s_135_83_64, ↓s_135_86, ↓s_135_87, ↓s_135_88_57, ↓s_135_88_64, ↓s_135_91, ↓s_135_92, ↓s_135_93_57, ↓s_135_93_64, ↓s_135_96, ↓s_135_97, ↓s_135_98_2, ↓s_135_98_28, ↓s_135_101_57, ↓s_135_101_64, ↓s_135_104, zio_64, zar_65, zia_65, zln_65, zit_65, zar_66, zia_66, zln_66, zit_66, zar_67, zia_67, zln_67, zit_67, zio_2, zio_3, zio_5, zio_7, zio_9, zar_12, zia_12, zln_12, zit_12, zar_21, zia_21, zln_21, zit_21, zio_28, zio_29, zio_31, zio_33, zio_35, zar_38, zia_38, zln_38, zit_38, zar_47, zia_47, zln_47, zit_47, zio_57, zar_58, zia_58, zln_58, zit_58, zar_59, zia_59, zln_59, zit_59, zar_60, zia_60, zln_60, zit_60]
  have o4 : ∀ i j, i ≠ 61 → i ≠ 57 → m4 i j = B i j := fun i j a b => by rw [F4 i j a, yset_o b]
  have o5 : ∀ i j, i < 57 ∨ 61 < i → m4 i j = mem i j := fun i j h => by rw [o4 i j (by (first | exact Nat.le_of_ble_eq_true rfl | exact (fun h => absurd h.1 (by decide)) | omega)) (by (first | exact Nat.le_of_ble_eq_true rfl | exact (fun h => absurd h.1 (by decide)) | omega)), c1 i j (by (first | exact Nat.le_of_ble_eq_true rfl | exact (fun h => absurd h.1 (by decide)) | omega)) (by (first | exact Nat.le_of_ble_eq_true rfl | exact (fun h => absurd h.1 (by decide)) | omega)), up3 i j (by (first | exact Nat.le_of_ble_eq_true rfl | exact (fun h => absurd h.1 (by decide)) | omega)) (by (first | exact Nat.le_of_ble_eq_true rfl | exact (fun h => absurd h.1 (by decide)) | omega)) (by (first | exact Nat.le_of_ble_eq_true rfl | exact (fun h => absurd h.1 (by decide)) | omega))]
  have w6 : ∀ x, w32 (yset (yset (yset (yset (yset (yset m4 57 7 0) 57 8 (m4 2 17)) 57 9 0) 57 10 0) 57 11 (-1)) 57 12 x 57 6) = 0 := fun x => by
    rw [yset_d (by decide), yset_d (by decide), yset_d (by decide), yset_d (by decide), yset_d (by decide), yset_d (by decide), F4 57 6 (by decide), yset_s]
    exact w32c_0
  have oo : ∀ x i j, i ≠ 57 → yset (yset (yset (yset (yset (yset m4 57 7 0) 57 8 (m4 2 17)) 57 9 0) 57 10 0) 57 11 (-1)) 57 12 x i j = m4 i j := fun x i j h => by rw [yset_o h, yset_o h, yset_o h, yset_o h, yset_o h, yset_o h]
  refine hQ _ (fun i j hi => by rw [oo _ i j (by (first | exact Nat.le_of_ble_eq_true rfl | exact (fun h => absurd h.1 (by decide)) | omega)), o5 i j hi]) ⟨⟨w6 _, ?_, ?_, ?_, ?_, ?_⟩, fun j hj => ?_, fun j hj => ?_, fun j hj => ?_, fun j hj => ?_⟩
  · rw [yset_d (by decide), yset_d (by decide), yset_d (by decide), yset_d (by decide), yset_d (by decide), yset_s]; exact w32c_0
  · rw [yset_d (by decide), yset_d (by decide), yset_d (by decide), yset_d (by decide), yset_s, oo _ 2 17 (by decide)]
  · rw [yset_d (by decide), yset_d (by decide), yset_d (by decide), yset_s]; exact w32c_0
  · rw [yset_d (by decide), yset_d (by decide), yset_s]; exact w32c_0
  · rw [yset_s, oo _ 2 18 (by decide)]
  · rw [oo _ 58 j (by decide), o4 58 j (by decide) (by decide), t58 j hj, oo _ 3 1 (by decide), o5 3 1 (by decide), oo _ 12 j (by decide), o5 12 j (by decide)]
    split
    · rfl
    · exact w32c_0
  · rw [oo _ 59 j (by decide), o4 59 j (by decide) (by decide), c1 59 j (by decide) (by decide), V3 j hj]; exact w32c_0
  · rw [oo _ 60 j (by decide), o4 60 j (by decide) (by decide), t60 j hj, oo _ 9 1 (by decide), o5 9 1 (by decide), oo _ 21 j (by decide), o5 21 j (by decide)]
    split
    · rfl
    · exact w32c_0
  · rw [oo _ 61 j (by decide), V4 j hj]; exact w32c_m1
def XWQ (mem : yMem) (x : Int) (m : yMem) : Prop := ((¬ (0 ≤ w32 x ∧ w32 x ≤ w32 (mem 0 11)) ∨ ¬ w32 (m 0 12) = 0) → ∀ i j, (57 ≤ i ∧ i ≤ 71) ∨ (i = 0 ∧ j = 14) → m i j = mem i j) ∧ ((0 ≤ w32 x ∧ w32 x ≤ w32 (mem 0 11)) → w32 (m 0 12) = 0 → cBg m ∧ (∀ i j, 62 ≤ i → i ≤ 70 → m i j = mem i j) ∧ w32 (m 0 14) = 0 ∧ w32 (m 71 1) = 0)
theorem wno {w : List (Nat × Nat)} (h : w.all (fun q => Nat.ble 2 q.1 && Nat.ble q.1 26) = true) {i j : Nat} (hi : i < 2 ∨ 26 < i) : amod w i j = false := by
  cases hm : amod w i j with
  | false => rfl
  | true =>
    obtain ⟨q, q1, q2, q3⟩ := amod_ex hm
    have h2 := List.all_eq_true.mp h q q1
    rw [q2] at h2
    simp only [Bool.and_eq_true, Nat.ble_eq] at h2
    (first | exact Nat.le_of_ble_eq_true rfl | exact (fun h => absurd h.1 (by decide)) | omega)
theorem x_wtext (hE : yEok E) (hm : yman Om) {D : Nat} (hD : 10 ≤ D) {x : Int} (hG : aGok mem) (hO : Om mem) (hQ : ∀ r m, XWQ mem x m → Q (some (0, r)) m) : yCon E D xm_41 [(1, 0), (0, x)] mem Q := by
  obtain ⟨d, rfl⟩ := Nat.exists_eq_add_of_le' hD
  refine e_41 ?_
  refine zvc_ok hE 90 zc_41 _ _ _ _ _ _ _ xmo_41 ?_
  have g11 := ag hG 0 11 ag_0_11
  have f12 : ¬ (0 ≤ w32 x ∧ w32 x ≤ w32 (mem 0 11)) → zG E (d + 9) xm_41 12 [some (1, 0), some (0, x), none] [] mem Q := fun hx => by
    refine zgo_ok (n := 60) hE xmo_41 (cs := zc_41) ?_
    simp only [ynok_30, ynok_31, w32c_0, w32c_1, w32c_2, w32c_3, w32c_4, w32c_5, w32c_6, w32c_7, w32c_8, w32c_9, w32c_10, w32c_11, w32c_12, w32c_13, w32c_14, w32c_m1, w32c_m2, w32c_118, Int.reduceAdd, Int.reduceSub, Int.reduceMul, yput_s, yput_n, znl_n, znl_0, znl_1, znl_4, ysum_n, ysum_0, ysum_1, ysum_4, true_and, and_true, Nat.reduceAdd, Nat.reduceLeDiff, true_implies, eq_self, true_or, or_true, or_false, false_or, not_true_eq_false, not_false_eq_true, false_implies, implies_true, yset_s, yset_o, yset_d, ne_eq, Nat.reduceEqDiff, Int.reduceToNat, Int.reduceEq, Int.reduceLE, Int.reduceLT, Classical.not_not, Nat.reduceLT, ↓zvk_s, ↓zvk_n, ↓s_41_0, ↓s_41_1, ↓s_41_4, ↓s_41_5, ↓s_41_6, ↓s_41_9, ↓g_41_12, ↓k_41_12, ↓s_41_14, ↓g_41_15, ↓k_41_15, ↓s_41_16, ↓s_41_19, ↓s_41_20, ↓s_41_23n, ↓s_41_23i, ↓s_41_23p, ↓s_41_24, ↓s_41_25, ↓s_41_26, ↓s_41_29, ↓s_41_30, ↓s_41_31, ↓s_41_34, ↓s_41_37, ↓s_41_40, ↓s_41_43, ↓s_41_44, ↓s_41_45, ↓s_41_48, ↓s_41_51, ↓s_41_54, ↓s_41_57, ↓s_41_58, ↓s_41_61, ↓s_41_64, ↓s_41_65, ↓s_41_66, ↓s_41_67, ↓s_41_70, ↓s_41_71, ↓s_41_74, ↓s_41_77, ↓s_41_78, ↓s_41_81, ↓s_41_82, ↓s_41_85, ↓s_41_88, ↓s_41_89, ↓s_41_92, ↓s_41_93, ↓s_41_96, ↓s_41_97, ↓s_41_98, ↓s_41_101, ↓s_41_102, ↓s_41_105, ↓s_41_106, ↓s_41_109, ↓s_41_110, zio_0, zio_64, zio_2, zio_71, zio_76, zio_54, zio_55, zio_57, zio_28]
    exact hQ _ _ ⟨fun _ _ _ _ => rfl, fun z => absurd z hx⟩
  have f15 : 0 ≤ w32 x → w32 x ≤ w32 (mem 0 11) → zG E (d + 9) xm_41 15 [some (1, 0), some (0, x), none] [] mem Q := fun x0 x1 => by
    refine zgo_ok (n := 60) hE xmo_41 (cs := zc_41) ?_
    simp only [ynok_30, ynok_31, w32c_0, w32c_1, w32c_2, w32c_3, w32c_4, w32c_5, w32c_6, w32c_7, w32c_8, w32c_9, w32c_10, w32c_11, w32c_12, w32c_13, w32c_14, w32c_m1, w32c_m2, w32c_118, Int.reduceAdd, Int.reduceSub, Int.reduceMul, yput_s, yput_n, znl_n, znl_0, znl_1, znl_4, ysum_n, ysum_0, ysum_1, ysum_4, true_and, and_true, Nat.reduceAdd, Nat.reduceLeDiff, true_implies, eq_self, true_or, or_true, or_false, false_or, not_true_eq_false, not_false_eq_true, false_implies, implies_true, yset_s, yset_o, yset_d, ne_eq, Nat.reduceEqDiff, Int.reduceToNat, Int.reduceEq, Int.reduceLE, Int.reduceLT, Classical.not_not, Nat.reduceLT, ↓zvk_s, ↓zvk_n, ↓s_41_0, ↓s_41_1, ↓s_41_4, ↓s_41_5, ↓s_41_6, ↓s_41_9, ↓g_41_12, ↓k_41_12, ↓s_41_14, ↓g_41_15, ↓k_41_15, ↓s_41_16, ↓s_41_19, ↓s_41_20, ↓s_41_23n, ↓s_41_23i, ↓s_41_23p, ↓s_41_24, ↓s_41_25, ↓s_41_26, ↓s_41_29, ↓s_41_30, ↓s_41_31, ↓s_41_34, ↓s_41_37, ↓s_41_40, ↓s_41_43, ↓s_41_44, ↓s_41_45, ↓s_41_48, ↓s_41_51, ↓s_41_54, ↓s_41_57, ↓s_41_58, ↓s_41_61, ↓s_41_64, ↓s_41_65, ↓s_41_66, ↓s_41_67, ↓s_41_70, ↓s_41_71, ↓s_41_74, ↓s_41_77, ↓s_41_78, ↓s_41_81, ↓s_41_82, ↓s_41_85, ↓s_41_88, ↓s_41_89, ↓s_41_92, ↓s_41_93, ↓s_41_96, ↓s_41_97, ↓s_41_98, ↓s_41_101, ↓s_41_102, ↓s_41_105, ↓s_41_106, ↓s_41_109, ↓s_41_110, zio_0, zio_64, zio_2, zio_71, zio_76, zio_54, zio_55, zio_57, zio_28]
    refine as_153 yoc_Om hm E hE _ (show 8 ≤ _ by (first | exact Nat.le_of_ble_eq_true rfl | exact (fun h => absurd h.1 (by decide)) | omega)) _ rfl _ _ _ ⟨rfl, ⟨rfl, x0, by show w32 x ≤ 800; (first | exact Nat.le_of_ble_eq_true rfl | exact (fun h => absurd h.1 (by decide)) | omega)⟩, trivial⟩ hG hO (fun q hq => by cases hq) (fun r m1 he => ?_)
    have R1 := CQ_of he (by decide +kernel)
    have fr1 : ∀ i j, (57 ≤ i ∧ i ≤ 71) ∨ (i = 0 ∧ j = 14) → m1 i j = mem i j := fun i j h => by
      by_cases e : i = 57 ∧ j = 11
      · obtain ⟨rfl, rfl⟩ := e
        exact he.2.2.2.1 57 11 rfl
      · exact he.2.2.2.1 i j (tp3_ok (by decide +kernel) (by unfold tpP; (first | exact Nat.le_of_ble_eq_true rfl | exact (fun h => absurd h.1 (by decide)) | omega)))
    obtain ⟨k1, -⟩ := he
    match r, k1 with
    | none, k1 => exact absurd (show (3 : Nat) = 99 from k1) (by decide)
    | some (t, y), k1 =>
      have ht : t = 0 := k1.1
      subst ht
      refine zgk_s hE xmo_41 60 zc_41 ?_
      simp only [ynok_30, ynok_31, w32c_0, w32c_1, w32c_2, w32c_3, w32c_4, w32c_5, w32c_6, w32c_7, w32c_8, w32c_9, w32c_10, w32c_11, w32c_12, w32c_13, w32c_14, w32c_m1, w32c_m2, w32c_118, Int.reduceAdd, Int.reduceSub, Int.reduceMul, yput_s, yput_n, znl_n, znl_0, znl_1, znl_4, ysum_n, ysum_0, ysum_1, ysum_4, true_and, and_true, Nat.reduceAdd, Nat.reduceLeDiff, true_implies, eq_self, true_or, or_true, or_false, false_or, not_true_eq_false, not_false_eq_true, false_implies, implies_true, yset_s, yset_o, yset_d, ne_eq, Nat.reduceEqDiff, Int.reduceToNat, Int.reduceEq, Int.reduceLE, Int.reduceLT, Classical.not_not, Nat.reduceLT, ↓zvk_s, ↓zvk_n, ↓s_41_0, ↓s_41_1, ↓s_41_4, ↓s_41_5, ↓s_41_6, ↓s_41_9, ↓g_41_12, ↓k_41_12, ↓s_41_14, ↓g_41_15, ↓k_41_15, ↓s_41_16, ↓s_41_19, ↓s_41_20, ↓s_41_23n, ↓s_41_23i, ↓s_41_23p, ↓s_41_24, ↓s_41_25, ↓s_41_26, ↓s_41_29, ↓s_41_30, ↓s_41_31, ↓s_41_34, ↓s_41_37, ↓s_41_40, ↓s_41_43, ↓s_41_44, ↓s_41_45, ↓s_41_48, ↓s_41_51, ↓s_41_54, ↓s_41_57, ↓s_41_58, ↓s_41_61, ↓s_41_64, ↓s_41_65, ↓s_41_66, ↓s_41_67, ↓s_41_70, ↓s_41_71, ↓s_41_74, ↓s_41_77, ↓s_41_78, ↓s_41_81, ↓s_41_82, ↓s_41_85, ↓s_41_88, ↓s_41_89, ↓s_41_92, ↓s_41_93, ↓s_41_96, ↓s_41_97, ↓s_41_98, ↓s_41_101, ↓s_41_102, ↓s_41_105, ↓s_41_106, ↓s_41_109, ↓s_41_110, zio_0, zio_64, zio_2, zio_71, zio_76, zio_54, zio_55, zio_57, zio_28]
      have a1 : aGok (yset m1 0 11 0) := aGok_set R1.1 (by rw [ag_0_11]; decide)
      have o1 : Om (yset m1 0 11 0) := yoc_Om m1 _ (fun i j hi => yset_o (fun e => by subst e; exact absurd hi (by decide))) R1.2.1
      have S1 := CQ_set a1 o1 (i := 0) (j := 12) (x := m1 55 7) (by decide) (by decide) (ag_32 ag_0_12)
      have S2 := CQ_tr S1 (CQ_set S1.1 S1.2.1 (i := 0) (j := 13) (x := m1 55 8) (by decide) (by decide) (ag_32 ag_0_13))
      have fr2 : ∀ i j, (57 ≤ i ∧ i ≤ 71) ∨ (i = 0 ∧ j = 14) → yset (yset (yset m1 0 11 0) 0 12 (m1 55 7)) 0 13 (m1 55 8) i j = mem i j := fun i j h => by
        rcases h with h | ⟨rfl, rfl⟩
        · rw [yset_o (by (first | exact Nat.le_of_ble_eq_true rfl | exact (fun h => absurd h.1 (by decide)) | omega)), yset_o (by (first | exact Nat.le_of_ble_eq_true rfl | exact (fun h => absurd h.1 (by decide)) | omega)), yset_o (by (first | exact Nat.le_of_ble_eq_true rfl | exact (fun h => absurd h.1 (by decide)) | omega))]
          exact fr1 i j (Or.inl h)
        · rw [yset_d (by decide), yset_d (by decide), yset_d (by decide)]
          exact fr1 0 14 (Or.inr ⟨rfl, rfl⟩)
      have v12 : yset (yset (yset m1 0 11 0) 0 12 (m1 55 7)) 0 13 (m1 55 8) 0 12 = m1 55 7 := by rw [yset_d (by decide), yset_s]
      refine ⟨fun h7 => ?_, fun h7 => hQ _ _ ⟨fun _ => fr2, fun _ z => absurd (by rw [v12] at z; exact z) h7⟩⟩
      refine abs_take yoc_Om hm E hE _ (show 2 ≤ _ by (first | exact Nat.le_of_ble_eq_true rfl | exact (fun h => absurd h.1 (by decide)) | omega)) _ rfl _ _ _ ⟨rfl, rfl, trivial⟩ S2.1 S2.2.1 (fun q hq => by cases hq) (fun r m2 he => ?_)
      have R2 := CQ_of he (by decide +kernel)
      have fr3 : ∀ i j, i < 2 ∨ 26 < i → m2 i j = yset (yset (yset m1 0 11 0) 0 12 (m1 55 7)) 0 13 (m1 55 8) i j := fun i j h => he.2.2.2.1 i j (wno (by decide +kernel) h)
      obtain ⟨k1, -⟩ := he
      match r, k1 with
      | some y, k1 => exact absurd k1 (fun h => by cases h)
      | none, _ =>
        refine zgk_n hE xmo_41 60 zc_41 ?_
        simp only [ynok_30, ynok_31, w32c_0, w32c_1, w32c_2, w32c_3, w32c_4, w32c_5, w32c_6, w32c_7, w32c_8, w32c_9, w32c_10, w32c_11, w32c_12, w32c_13, w32c_14, w32c_m1, w32c_m2, w32c_118, Int.reduceAdd, Int.reduceSub, Int.reduceMul, yput_s, yput_n, znl_n, znl_0, znl_1, znl_4, ysum_n, ysum_0, ysum_1, ysum_4, true_and, and_true, Nat.reduceAdd, Nat.reduceLeDiff, true_implies, eq_self, true_or, or_true, or_false, false_or, not_true_eq_false, not_false_eq_true, false_implies, implies_true, yset_s, yset_o, yset_d, ne_eq, Nat.reduceEqDiff, Int.reduceToNat, Int.reduceEq, Int.reduceLE, Int.reduceLT, Classical.not_not, Nat.reduceLT, ↓zvk_s, ↓zvk_n, ↓s_41_0, ↓s_41_1, ↓s_41_4, ↓s_41_5, ↓s_41_6, ↓s_41_9, ↓g_41_12, ↓k_41_12, ↓s_41_14, ↓g_41_15, ↓k_41_15, ↓s_41_16, ↓s_41_19, ↓s_41_20, ↓s_41_23n, ↓s_41_23i, ↓s_41_23p, ↓s_41_24, ↓s_41_25, ↓s_41_26, ↓s_41_29, ↓s_41_30, ↓s_41_31, ↓s_41_34, ↓s_41_37, ↓s_41_40, ↓s_41_43, ↓s_41_44, ↓s_41_45, ↓s_41_48, ↓s_41_51, ↓s_41_54, ↓s_41_57, ↓s_41_58, ↓s_41_61, ↓s_41_64, ↓s_41_65, ↓s_41_66, ↓s_41_67, ↓s_41_70, ↓s_41_71, ↓s_41_74, ↓s_41_77, ↓s_41_78, ↓s_41_81, ↓s_41_82, ↓s_41_85, ↓s_41_88, ↓s_41_89, ↓s_41_92, ↓s_41_93, ↓s_41_96, ↓s_41_97, ↓s_41_98, ↓s_41_101, ↓s_41_102, ↓s_41_105, ↓s_41_106, ↓s_41_109, ↓s_41_110, zio_0, zio_64, zio_2, zio_71, zio_76, zio_54, zio_55, zio_57, zio_28]
        refine gx_begin hE (by (first | exact Nat.le_of_ble_eq_true rfl | exact (fun h => absurd h.1 (by decide)) | omega)) (ag R2.1 3 1 ag_3_1) (ag R2.1 9 1 ag_9_1) (fun m3 F3 B3 => ?_)
        refine zgk_n hE xmo_41 60 zc_41 ?_
        simp only [ynok_30, ynok_31, w32c_0, w32c_1, w32c_2, w32c_3, w32c_4, w32c_5, w32c_6, w32c_7, w32c_8, w32c_9, w32c_10, w32c_11, w32c_12, w32c_13, w32c_14, w32c_m1, w32c_m2, w32c_118, Int.reduceAdd, Int.reduceSub, Int.reduceMul, yput_s, yput_n, znl_n, znl_0, znl_1, znl_4, ysum_n, ysum_0, ysum_1, ysum_4, true_and, and_true, Nat.reduceAdd, Nat.reduceLeDiff, true_implies, eq_self, true_or, or_true, or_false, false_or, not_true_eq_false, not_false_eq_true, false_implies, implies_true, yset_s, yset_o, yset_d, ne_eq, Nat.reduceEqDiff, Int.reduceToNat, Int.reduceEq, Int.reduceLE, Int.reduceLT, Classical.not_not, Nat.reduceLT, ↓zvk_s, ↓zvk_n, ↓s_41_0, ↓s_41_1, ↓s_41_4, ↓s_41_5, ↓s_41_6, ↓s_41_9, ↓g_41_12, ↓k_41_12, ↓s_41_14, ↓g_41_15, ↓k_41_15, ↓s_41_16, ↓s_41_19, ↓s_41_20, ↓s_41_23n, ↓s_41_23i, ↓s_41_23p, ↓s_41_24, ↓s_41_25, ↓s_41_26, ↓s_41_29, ↓s_41_30, ↓s_41_31, ↓s_41_34, ↓s_41_37, ↓s_41_40, ↓s_41_43, ↓s_41_44, ↓s_41_45, ↓s_41_48, ↓s_41_51, ↓s_41_54, ↓s_41_57, ↓s_41_58, ↓s_41_61, ↓s_41_64, ↓s_41_65, ↓s_41_66, ↓s_41_67, ↓s_41_70, ↓s_41_71, ↓s_41_74, ↓s_41_77, ↓s_41_78, ↓s_41_81, ↓s_41_82, ↓s_41_85, ↓s_41_88, ↓s_41_89, ↓s_41_92, ↓s_41_93, ↓s_41_96, ↓s_41_97, ↓s_41_98, ↓s_41_101, ↓s_41_102, ↓s_41_105, ↓s_41_106, ↓s_41_109, ↓s_41_110, zio_0, zio_64, zio_2, zio_71, zio_76, zio_54, zio_55, zio_57, zio_28]
        have up : ∀ i j, ¬ (i = 71 ∧ j = 1) → ¬ (i = 0 ∧ j = 14) → ¬ (i = 76 ∧ j = 10) → yset (yset (yset m3 71 1 0) 0 14 0) 76 10 0 i j = m3 i j := fun i j h1 h2 h3 => by
          simp only [yset_a]
          repeat' split
          all_goals first | rfl | (first | exact Nat.le_of_ble_eq_true rfl | exact (fun h => absurd h.1 (by decide)) | omega)
        have e12 : w32 (yset (yset (yset m3 71 1 0) 0 14 0) 76 10 0 0 12) = 0 := by rw [up 0 12 (by (first | exact Nat.le_of_ble_eq_true rfl | exact (fun h => absurd h.1 (by decide)) | omega)) (by (first | exact Nat.le_of_ble_eq_true rfl | exact (fun h => absurd h.1 (by decide)) | omega)) (by (first | exact Nat.le_of_ble_eq_true rfl | exact (fun h => absurd h.1 (by decide)) | omega)), F3 0 12 (by (first | exact Nat.le_of_ble_eq_true rfl | exact (fun h => absurd h.1 (by decide)) | omega)), fr3 0 12 (by (first | exact Nat.le_of_ble_eq_true rfl | exact (fun h => absurd h.1 (by decide)) | omega)), v12]; exact h7
        refine hQ _ _ ⟨fun z => z.elim (fun z => absurd ⟨x0, x1⟩ z) (fun z => absurd e12 z), fun _ _ => ⟨cBg_q B3 (fun i j hi hr => ?_), fun i j i1 i2 => ?_, ?_, ?_⟩⟩
        · rw [up i j (by (first | exact Nat.le_of_ble_eq_true rfl | exact (fun h => absurd h.1 (by decide)) | omega)) (by (first | exact Nat.le_of_ble_eq_true rfl | exact (fun h => absurd h.1 (by decide)) | omega)) (by (first | exact Nat.le_of_ble_eq_true rfl | exact (fun h => absurd h.1 (by decide)) | omega))]
        · rw [up i j (by (first | exact Nat.le_of_ble_eq_true rfl | exact (fun h => absurd h.1 (by decide)) | omega)) (by (first | exact Nat.le_of_ble_eq_true rfl | exact (fun h => absurd h.1 (by decide)) | omega)) (by (first | exact Nat.le_of_ble_eq_true rfl | exact (fun h => absurd h.1 (by decide)) | omega)), F3 i j (by (first | exact Nat.le_of_ble_eq_true rfl | exact (fun h => absurd h.1 (by decide)) | omega)), fr3 i j (by (first | exact Nat.le_of_ble_eq_true rfl | exact (fun h => absurd h.1 (by decide)) | omega))]
          exact fr2 i j (by (first | exact Nat.le_of_ble_eq_true rfl | exact (fun h => absurd h.1 (by decide)) | omega))
        · rw [yset_o (by decide), yset_s]; exact w32c_0
        · rw [yset_o (by decide), yset_o (by decide), yset_s]; exact w32c_0
  simp only [ynok_30, ynok_31, w32c_0, w32c_1, w32c_2, w32c_3, w32c_4, w32c_5, w32c_6, w32c_7, w32c_8, w32c_9, w32c_10, w32c_11, w32c_12, w32c_13, w32c_14, w32c_m1, w32c_m2, w32c_118, Int.reduceAdd, Int.reduceSub, Int.reduceMul, yput_s, yput_n, znl_n, znl_0, znl_1, znl_4, ysum_n, ysum_0, ysum_1, ysum_4, true_and, and_true, Nat.reduceAdd, Nat.reduceLeDiff, true_implies, eq_self, true_or, or_true, or_false, false_or, not_true_eq_false, not_false_eq_true, false_implies, implies_true, yset_s, yset_o, yset_d, ne_eq, Nat.reduceEqDiff, Int.reduceToNat, Int.reduceEq, Int.reduceLE, Int.reduceLT, Classical.not_not, Nat.reduceLT, ↓zvk_s, ↓zvk_n, ↓s_41_0, ↓s_41_1, ↓s_41_4, ↓s_41_5, ↓s_41_6, ↓s_41_9, ↓g_41_12, ↓k_41_12, ↓s_41_14, ↓g_41_15, ↓k_41_15, ↓s_41_16, ↓s_41_19, ↓s_41_20, ↓s_41_23n, ↓s_41_23i, ↓s_41_23p, ↓s_41_24, ↓s_41_25, ↓s_41_26, ↓s_41_29, ↓s_41_30, ↓s_41_31, ↓s_41_34, ↓s_41_37, ↓s_41_40, ↓s_41_43, ↓s_41_44, ↓s_41_45, ↓s_41_48, ↓s_41_51, ↓s_41_54, ↓s_41_57, ↓s_41_58, ↓s_41_61, ↓s_41_64, ↓s_41_65, ↓s_41_66, ↓s_41_67, ↓s_41_70, ↓s_41_71, ↓s_41_74, ↓s_41_77, ↓s_41_78, ↓s_41_81, ↓s_41_82, ↓s_41_85, ↓s_41_88, ↓s_41_89, ↓s_41_92, ↓s_41_93, ↓s_41_96, ↓s_41_97, ↓s_41_98, ↓s_41_101, ↓s_41_102, ↓s_41_105, ↓s_41_106, ↓s_41_109, ↓s_41_110, zio_0, zio_64, zio_2, zio_71, zio_76, zio_54, zio_55, zio_57, zio_28]
  repeat' first | exact f12 (by (first | exact Nat.le_of_ble_eq_true rfl | exact (fun h => absurd h.1 (by decide)) | omega)) | exact f15 (by (first | exact Nat.le_of_ble_eq_true rfl | exact (fun h => absurd h.1 (by decide)) | omega)) (by (first | exact Nat.le_of_ble_eq_true rfl | exact (fun h => absurd h.1 (by decide)) | omega)) | (first | exact Nat.le_of_ble_eq_true rfl | exact (fun h => absurd h.1 (by decide)) | omega) | refine And.intro ?_ ?_ | intro _
end XW
end
section
/-! WHAT STANDS BETWEEN CALLS: both objects, alike -/
/-- both keep the same FAULT -/
def LIf (mem : yMem) : Prop := w32 (mem 0 12) = w32 (mem 95 33) ∧ w32 (mem 0 13) = w32 (mem 95 34)
def LI (k : Nat) (mem : yMem) : Prop := aGok mem ∧ Om mem ∧ w32 (mem 0 11) = w32 (mem 95 2) ∧ (∀ j, w32 (mem 1 j) = sBs (w32 (mem 96 j))) ∧ cWd mem ∧ LIf mem ∧ LIw k mem
/-- a call that touches none of it -/
theorem LI_fr {k l : Nat} {mem m : yMem} (hk : k ≤ l) (hI : LI k mem) (hG : aGok m) (hO : Om m) (hf : ∀ i j, tpP i j → m i j = mem i j) : LI l m := by
  obtain ⟨_, _, a3, a4, a5, ⟨a6, a7⟩, a8⟩ := hI
  exact ⟨hG, hO, by rw [hf 0 11 (by unfold tpP; (first | exact Nat.le_of_ble_eq_true rfl | exact (fun h => absurd h.1 (by decide)) | omega)), hf 95 2 (by unfold tpP; (first | exact Nat.le_of_ble_eq_true rfl | exact (fun h => absurd h.1 (by decide)) | omega))]; exact a3, fun j => by rw [hf 1 j (Or.inl rfl), hf 96 j (by unfold tpP; (first | exact Nat.le_of_ble_eq_true rfl | exact (fun h => absurd h.1 (by decide)) | omega))]; exact a4 j, fun i hi => by rw [hf 56 i (Or.inr (Or.inl rfl))]; exact a5 i hi, ⟨by rw [hf 0 12 (by unfold tpP; (first | exact Nat.le_of_ble_eq_true rfl | exact (fun h => absurd h.1 (by decide)) | omega)), hf 95 33 (by unfold tpP; (first | exact Nat.le_of_ble_eq_true rfl | exact (fun h => absurd h.1 (by decide)) | omega))]; exact a6, by rw [hf 0 13 (by unfold tpP; (first | exact Nat.le_of_ble_eq_true rfl | exact (fun h => absurd h.1 (by decide)) | omega)), hf 95 34 (by unfold tpP; (first | exact Nat.le_of_ble_eq_true rfl | exact (fun h => absurd h.1 (by decide)) | omega))]; exact a7⟩, LIw_fr hk a8 (fun i j h => hf i j (tpW_P h))⟩
theorem LI_le {k l : Nat} {mem : yMem} (hk : k ≤ l) (hI : LI k mem) : LI l mem := LI_fr hk hI hI.1 hI.2.1 (fun _ _ _ => rfl)
theorem LI_R {k l : Nat} {mem m : yMem} (hk : k ≤ l) (hI : LI k mem) (h : RQn mem m) : LI l m := LI_fr hk hI h.1 h.2.1 (fun i j hij => by
  by_cases e : i = 95
  · subst e
    exact h.2.2.2 j (by unfold tpP at hij; (first | exact Nat.le_of_ble_eq_true rfl | exact (fun h => absurd h.1 (by decide)) | omega))
  · exact h.2.2.1 i j (by unfold tpP at hij; (first | exact Nat.le_of_ble_eq_true rfl | exact (fun h => absurd h.1 (by decide)) | omega)))
theorem LI_a {k l : Nat} {w : List (Nat × Nat)} {mem m : yMem} (hk : k ≤ l) (hI : LI k mem) (hG : aGok m) (hO : Om m) (hF : aFrm w mem m) (hw : tp3 w = true) : LI l m := LI_fr hk hI hG hO (fun i j hij => hF i j (tp3_ok hw hij))
def lav (X : Nat → Int) : Nat → Nat → List yV
  | 0, _ => []
  | n + 1, k => (0, X k) :: lav X n (k + 1)
/-- a call of both: alike answers, LI stays -/
def LX (E : yE) (n : Nat) (M1 M2 : xM) (t : Nat) : Prop := ∀ (X : Nat → Int) (k : Nat) (mem : yMem), k ≤ 3100 → LI k mem → yCon E 1000 M1 ((1, ((0 : Nat) : Int)) :: lav X n 1) mem (fun r mem1 => ∃ x, r = some (t, x) ∧ yCon E 1000 M2 ((1, ((95 : Nat) : Int)) :: lav X n 1) mem1 (fun r2 mem2 => ∃ y, r2 = some (t, y) ∧ (t = 0 → w32 x = w32 y) ∧ (t = 4 → w64 x = w64 y) ∧ LI (k + 6) mem2))
theorem lx_e0 {x y : Int} {P : Prop} (h : w32 x = w32 y) (hp : P) : ((0 : Nat) = 0 → w32 x = w32 y) ∧ ((0 : Nat) = 4 → w64 x = w64 y) ∧ P := ⟨fun _ => h, fun z => absurd z (by decide), hp⟩
/-- feed: both tapes stay alike -/
theorem LI_feed {k l : Nat} (hk : k ≤ l) {mem m1 m2 : yMem} {g : Nat → Int} {r1 r2 : Int} (hI : LI k mem) (F1 : FxX mem g r1 m1) (F2 : FrX m1 g r2 m2) : LI l m2 ∧ w32 r1 = w32 r2 := by
  obtain ⟨hG, hO, hT, hB, hW, ⟨hf1, hf2⟩, hId⟩ := hI
  obtain ⟨⟨a1, a2, a3⟩, a4, a5, a6⟩ := F1
  obtain ⟨⟨b1, b2, b3⟩, b5, b6, b7⟩ := F2
  have e95 : m1 95 2 = mem 95 2 := a2 95 2 (by decide)
  have e0 : m2 0 11 = m1 0 11 := b2 0 11 (by decide) (by decide)
  have e96 : ∀ j, m1 96 j = mem 96 j := fun j => a2 96 j (by decide)
  have e1 : ∀ j, m2 1 j = m1 1 j := fun j => b2 1 j (by decide) (by decide)
  have g0 : 0 ≤ w32 (mem 0 11) := (ag hG 0 11 ag_0_11).1
  rw [e95, ← hT] at b3 b5 b6
  have key : w32 r1 = w32 r2 ∧ w32 (m1 0 11) = w32 (m2 95 2) := by
    by_cases h7 : w32 (mem 0 11) ≤ 780
    · rw [if_pos h7] at a3 b3
      (first | exact Nat.le_of_ble_eq_true rfl | exact (fun h => absurd h.1 (by decide)) | omega)
    · rw [if_neg h7] at a3 b3
      (first | exact Nat.le_of_ble_eq_true rfl | exact (fun h => absurd h.1 (by decide)) | omega)
  have fr : ∀ i j, tpW i j → m2 i j = mem i j := fun i j h => by
    by_cases e : i = 95
    · subst e
      rw [b7 j (by unfold tpW at h; (first | exact Nat.le_of_ble_eq_true rfl | exact (fun h => absurd h.1 (by decide)) | omega)) (by unfold tpW at h; (first | exact Nat.le_of_ble_eq_true rfl | exact (fun h => absurd h.1 (by decide)) | omega)), a2 95 j (by decide)]
    · rw [b2 i j e (by unfold tpW at h; (first | exact Nat.le_of_ble_eq_true rfl | exact (fun h => absurd h.1 (by decide)) | omega))]
      by_cases e2 : 95 ≤ i
      · rw [a2 i j e2]
      · exact a4 i j (by unfold tpW at h; (first | exact Nat.le_of_ble_eq_true rfl | exact (fun h => absurd h.1 (by decide)) | omega)) (by unfold tpW at h; (first | exact Nat.le_of_ble_eq_true rfl | exact (fun h => absurd h.1 (by decide)) | omega))
  refine ⟨⟨b1, yoc_Om mem m2 (fun i j hi => ?_) hO, by rw [e0]; exact key.2, fun j => ?_, fun i hi => ?_, ⟨?_, ?_⟩, LIw_fr hk hId fr⟩, key.1⟩
  · have hy : ∀ k ∈ yoc, 97 ≤ k := by decide
    have := hy i hi
    rw [b2 i j (by (first | exact Nat.le_of_ble_eq_true rfl | exact (fun h => absurd h.1 (by decide)) | omega)) (by (first | exact Nat.le_of_ble_eq_true rfl | exact (fun h => absurd h.1 (by decide)) | omega)), a2 i j (by (first | exact Nat.le_of_ble_eq_true rfl | exact (fun h => absurd h.1 (by decide)) | omega))]
  · rw [e1]
    by_cases h7 : w32 (mem 0 11) ≤ 780
    · obtain ⟨p1, p2⟩ := a5 h7
      obtain ⟨q1, q2⟩ := b5 h7
      by_cases hj : j < (w32 (mem 0 11)).toNat ∨ (w32 (mem 0 11)).toNat + 20 ≤ j
      · rw [p1 j hj, q1 j hj, e96]
        exact hB j
      · have ej : j = (w32 (mem 0 11)).toNat + (j - (w32 (mem 0 11)).toNat) := by (first | exact Nat.le_of_ble_eq_true rfl | exact (fun h => absurd h.1 (by decide)) | omega)
        rw [ej, p2 _ (by (first | exact Nat.le_of_ble_eq_true rfl | exact (fun h => absurd h.1 (by decide)) | omega)), q2 _ (by (first | exact Nat.le_of_ble_eq_true rfl | exact (fun h => absurd h.1 (by decide)) | omega))]
    · rw [a6 h7, b6 h7, e96]
      exact hB j
  · rw [b2 56 i (by decide) (by decide), a4 56 i (by decide) (Or.inl (by decide))]
    exact hW i hi
  · rw [b2 0 12 (by decide) (by decide), a4 0 12 (by decide) (Or.inr (by decide)), b7 33 (by decide) (by decide), a2 95 33 (by decide)]
    exact hf1
  · rw [b2 0 13 (by decide) (by decide), a4 0 13 (by decide) (Or.inr (by decide)), b7 34 (by decide) (by decide), a2 95 34 (by decide)]
    exact hf2
theorem lx_feed {E : yE} (hE : yEok E) : LX E 5 xm_14 xm_167 0 := fun X k mem _ hI => x_feed hE (by decide) hI.1 (fun r m1 F1 => ⟨r, rfl, rx_feed hE (by decide) F1.1.1 (fun r2 m2 F2 => ⟨r2, rfl, lx_e0 (LI_feed (Nat.le_add_right k 6) hI F1 F2).2 (LI_feed (Nat.le_add_right k 6) hI F1 F2).1⟩)⟩)
theorem zhf_L : ∀ i, i < 118 → 97 ≤ i → zhf.getD (i - 97) 0 ≤ [800, 14, 6, 6, 6, 12, 12, 12, 12, 12, 12, 12, 8, 8, 24, 192, 6, 6, 10, 10, 128, 128].getD (i - 96) 0 := by decide +kernel
/-- text -/
theorem lx_text {E : yE} (hE : yEok E) (hm : yman Om) : LX E 1 xm_41 xm_242 0 := fun X k mem _ hI => by
  obtain ⟨hG, hO, hT, hB, hW, ⟨hf1, hf2⟩, Dd, W, V, ⟨d1, d2, d3⟩, ⟨w1, w2, w3⟩, ⟨v1, v2, v3⟩, hkp, hhm⟩ := hI
  have g96 : ∀ j, 0 ≤ w32 (mem 96 j) ∧ w32 (mem 96 j) ≤ 255 := fun j => agA hG 96 j ae_96
  have X1 : yCon E 1000 xm_41 [(1, 0), (0, X 1)] mem (fun r m => ∃ y, r = some (0, y) ∧ XTQ mem (X 1) m ∧ TP mem m ∧ tRs (fun j => w32 (mem 96 j)) (w32 (mem 0 11)) (w32 (X 1)) (w32 y) (w32 (mem 0 12), w32 (mem 0 13)) (w32 (m 0 12), w32 (m 0 13)) (hyS mem m) (fun X D => (yOk X → cDh m D) ∧ (¬ yOk X → hyS mem m ∧ ¬ w32 (m 0 12) = 0))) := g_xtext hE hm (by decide) (ch := fun j => w32 (mem 96 j)) hG hO (fun j => ⟨hB j, g96 j⟩) hW (fun r1 m1 T1 P1 A1 => ⟨r1, rfl, T1, P1, A1⟩)
  have X2 : yCon E 1000 xm_41 [(1, 0), (0, X 1)] mem (fun r m => XWQ mem (X 1) m) := x_wtext hE hm (by decide) hG hO (fun r m h => h)
  refine yCon_mono (yCon_and X1 X2) (fun r1 m1 hm1 => ?_)
  obtain ⟨⟨y1, rfl, T1, P1, A1⟩, r1', n1, XW, al1, _⟩ := hm1
  refine ⟨y1, rfl, ?_⟩
  have e96 : ∀ j, m1 96 j = mem 96 j := fun j => T1.2.2.1 96 j (by decide)
  have e95 : ∀ j, m1 95 j = mem 95 j := fun j => T1.2.2.1 95 j (by decide)
  have C1 : yCon E 1000 xm_242 [(1, 95), (0, X 1)] m1 (fun r m => (∃ y, r = some (0, y)) ∧ TxQ m1 (X 1) m) := c_text hE (by decide) T1.1 T1.2.1 (fun r m h => ⟨⟨r, rfl⟩, h⟩)
  have C2 : yCon E 1000 xm_242 [(1, 95), (0, X 1)] m1 (fun r m => ∃ y, r = some (0, y) ∧ tRs (fun j => w32 (mem 96 j)) (w32 (m1 95 2)) (w32 (X 1)) (w32 y) (w32 (m1 95 33), w32 (m1 95 34)) (w32 (m 95 33), w32 (m 95 34)) (lwW m1 m) (fun X D => (yOk X → rDl m D) ∧ (¬ yOk X → lwW m1 m))) := rf_text hE (by decide) T1.1 (fun j => by rw [e96]; exact ⟨rfl, g96 j⟩) (fun r m h => ⟨r, rfl, h⟩)
  refine yCon_mono (yCon_and C1 C2) (fun r m2 hm2 => ?_)
  obtain ⟨⟨⟨y, rfl⟩, T2⟩, r', m3, ⟨y2, rfl, A2⟩, al, er⟩ := hm2
  have ey : w32 y = w32 y2 := ydv_0 er
  rw [e95, e95, e95, ← hT, ← hf1, ← hf2] at A2
  obtain ⟨u1, u2, u3⟩ := tRs_u A1 A2
  have s2 : ∀ c j, tkS c j → w32 (m2 c j) = w32 (m1 c j) := fun c j ht => by rw [T2.2.2.1 c j (Or.inl (by have := tkS_c ht; (first | exact Nat.le_of_ble_eq_true rfl | exact (fun h => absurd h.1 (by decide)) | omega)))]
  have l2 : lwW m3 m2 := fun i j n hn i1 i2 hj => al i j (yRl_a (by (first | exact Nat.le_of_ble_eq_true rfl | exact (fun h => absurd h.1 (by decide)) | omega)) (by (first | exact Nat.le_of_ble_eq_true rfl | exact (fun h => absurd h.1 (by decide)) | omega)) (Nat.lt_of_lt_of_le hj (by rw [← hn]; exact zhf_L i (by (first | exact Nat.le_of_ble_eq_true rfl | exact (fun h => absurd h.1 (by decide)) | omega)) i1)))
  have l1 : lwW mem m1 := fun i j n _ i1 _ _ => by rw [T1.2.2.1 i j (by (first | exact Nat.le_of_ble_eq_true rfl | exact (fun h => absurd h.1 (by decide)) | omega))]
  have lo : ∀ i j, i < 95 → m2 i j = m1 i j := fun i j hi => T2.2.2.1 i j (Or.inl hi)
  have v12m : w32 (m1 0 12) = w32 (m2 95 33) := by
    rw [al 95 33 rfl]
    exact congrArg Prod.fst u2
  have v12 : w32 (m2 0 12) = w32 (m2 95 33) := by
    rw [lo 0 12 (by decide)]
    exact v12m
  have v13 : w32 (m2 0 13) = w32 (m2 95 34) := by
    rw [lo 0 13 (by decide), al 95 34 rfl]
    exact congrArg Prod.snd u2
  have n12 : w32 (n1 0 12) = w32 (m2 95 33) := by
    rw [← v12m]
    exact (al1 0 12 rfl).symm
  have tp : w32 (m1 95 2) = w32 (mem 0 11) := by rw [e95, hT]
  obtain ⟨XW1, XW2⟩ := XW
  obtain ⟨TW1, TW2⟩ := T2.2.2.2.2
  rw [tp] at TW1 TW2
  have same : (¬ (0 ≤ w32 (X 1) ∧ w32 (X 1) ≤ w32 (mem 0 11)) ∨ ¬ w32 (m2 95 33) = 0) → hyS mem m1 → lwW m1 m3 → LIw (k + 6) m2 := fun hz p p' => by
    have c1 := XW1 (by rw [n12]; exact hz)
    obtain ⟨t1, t2, t3⟩ := TW1 hz
    have q : ∀ i j, 57 ≤ i → i ≤ 71 → yRl i j = true → w32 (m2 i j) = w32 (mem i j) := fun i j i1 i2 hr => by rw [lo i j (by (first | exact Nat.le_of_ble_eq_true rfl | exact (fun h => absurd h.1 (by decide)) | omega)), al1 i j hr, c1 i j (Or.inl ⟨i1, i2⟩)]
    have q14 : w32 (m2 0 14) = w32 (mem 0 14) := by rw [lo 0 14 (by decide), al1 0 14 rfl, c1 0 14 (Or.inr ⟨rfl, rfl⟩)]
    refine ⟨Dd, W, V, ⟨cDh_w d1 (fun c j ht => by rw [s2 c j ht, p c j ht]), rDl_w d2 (lwW_tr (lwW_tr l1 p') l2), d3⟩, ⟨cW_w w1 (fun i j i1 i2 i3 => q i j (by (first | exact Nat.le_of_ble_eq_true rfl | exact (fun h => absurd h.1 (by decide)) | omega)) (by (first | exact Nat.le_of_ble_eq_true rfl | exact (fun h => absurd h.1 (by decide)) | omega)) (wsl57 i j i1 i2 i3)) (fun j j1 j2 j3 => q 57 j (by decide) (by decide) (wsl57s j j1 j2 j3)), rW_f (by decide) w2 (fun i j i1 i2 => by rw [t1 i j i1 i2, T1.2.2.1 i j (by (first | exact Nat.le_of_ble_eq_true rfl | exact (fun h => absurd h.1 (by decide)) | omega))]), uOk_le w3 (Nat.le_add_right k 6)⟩, ⟨cW_w v1 (fun i j i1 i2 i3 => q i j (by (first | exact Nat.le_of_ble_eq_true rfl | exact (fun h => absurd h.1 (by decide)) | omega)) (by (first | exact Nat.le_of_ble_eq_true rfl | exact (fun h => absurd h.1 (by decide)) | omega)) (wsl64 i j i1 i2 i3)) (fun j j1 j2 j3 => q 64 j (by decide) (by decide) (wsl64s j j1 j2 j3)), rW_f (by decide) v2 (fun i j i1 i2 => by rw [t1 i j i1 i2, T1.2.2.1 i j (by (first | exact Nat.le_of_ble_eq_true rfl | exact (fun h => absurd h.1 (by decide)) | omega))]), fun z => uOk_le (v3 (by rw [q14] at z; exact z)) (Nat.le_add_right k 6)⟩, by rw [q14, t2, e95]; exact hkp, by rw [q 71 1 (by decide) (by decide) rfl, t3, e95]; exact hhm⟩
  have hId2 : LIw (k + 6) m2 := by
    rcases u3 with ⟨hN, p, p'⟩ | ⟨hN, l, hfk, p, p'⟩
    · exact same (Or.inl hN) p p'
    · by_cases hY : yOk (pTx (l.length + 1) (.inr l) dD0 0).1
      · have h33 : w32 (m2 95 33) = 0 := by
          have := congrArg Prod.fst hfk
          obtain ⟨l', hl'⟩ := hY
          rw [hl'] at this
          rw [← v12m]
          exact this
        obtain ⟨b1, b2, b3, b4⟩ := XW2 hN (by rw [n12]; exact h33)
        obtain ⟨t1, t2, t3⟩ := TW2 hN h33
        have hc := p.1 hY
        have hr := p'.1 hY
        have hdok := pTx_ok (l.length + 1) (.inr l) dD0 0 dOk_0 hY
        revert hc hr hdok
        generalize (pTx (l.length + 1) (.inr l) dD0 0).2.1 = D
        intro hc hr hdok
        have hc2 : cDh m2 D := cDh_w hc s2
        have hr2 : rDl m2 D := rDl_w hr l2
        have q : ∀ i j, i < 95 → yRl i j = true → w32 (m2 i j) = w32 (n1 i j) := fun i j hi hrl => by rw [lo i j hi, al1 i j hrl]
        refine ⟨D, uBg D W, V, ⟨hc2, hr2, hdok⟩, ⟨cBg_W (cBg_q b1 (fun i j hi hr => q i j (by (first | exact Nat.le_of_ble_eq_true rfl | exact (fun h => absurd h.1 (by decide)) | omega)) hr)) hc2 (fun j hj => by rw [q 62 j (by decide) ((by decide : ∀ j, j < 12 → yRl 62 j = true) j hj), b2 62 j (by decide) (by decide)]; exact w1.2.2.2.2.1 j hj) (fun j hj => by rw [q 63 j (by decide) ((by decide : ∀ j, j < 12 → yRl 63 j = true) j hj), b2 63 j (by decide) (by decide)]; exact w1.2.2.2.2.2.1 j hj), rBw_W t1 hr2 (fun i j i1 i2 => T1.2.2.1 i j (by (first | exact Nat.le_of_ble_eq_true rfl | exact (fun h => absurd h.1 (by decide)) | omega))) w2, uBg_ok hdok w3.2.2.2.2.2.2.2.1⟩, ⟨cW_w v1 (fun i j i1 i2 i3 => by rw [q i j (by (first | exact Nat.le_of_ble_eq_true rfl | exact (fun h => absurd h.1 (by decide)) | omega)) (wsl64 i j i1 i2 i3), b2 i j (by (first | exact Nat.le_of_ble_eq_true rfl | exact (fun h => absurd h.1 (by decide)) | omega)) (by (first | exact Nat.le_of_ble_eq_true rfl | exact (fun h => absurd h.1 (by decide)) | omega))]) (fun j j1 j2 j3 => by rw [q 64 j (by decide) (wsl64s j j1 j2 j3), b2 64 j (by decide) (by decide)]), rBw_V t1 (fun i j i1 i2 => T1.2.2.1 i j (by (first | exact Nat.le_of_ble_eq_true rfl | exact (fun h => absurd h.1 (by decide)) | omega))) v2, fun z => absurd (show w32 (m2 0 14) = 0 by rw [q 0 14 (by decide) rfl]; exact b3) z⟩, ?_, ?_⟩
        · rw [q 0 14 (by decide) rfl, b3, t2]
        · rw [q 71 1 (by decide) rfl, b4, t3]
      · exact same (Or.inr (by rw [← v12m]; exact (p.2 hY).2)) (p.2 hY).1 (p'.2 hY)
  refine ⟨y, rfl, lx_e0 (by rw [ey]; exact u1) ⟨T2.1, T2.2.1, ?_, fun j => ?_, fun i hi => ?_, ⟨v12, v13⟩, hId2⟩⟩
  · rw [lo 0 11 (by decide), T2.2.2.2.1, T1.2.2.2, e95, hT]
  · rw [lo 1 j (by decide), T2.2.2.1 96 j (by decide), P1.1, e96]
    exact hB j
  · rw [lo 56 i (by decide), P1.2]
    exact hW i hi
end
section
theorem s_78_0 {E : yE} {n d : Nat} {mem : yMem} {Post : Option yV → yMem → Prop} {st : List yV} {r1 r2 : Option yV} {x : Int} : zvc E (n + 1) [] d xm_78 0 [some (1, x), r1, r2] (st) mem Post = (zvc E n [] d xm_78 1 [some (1, x), r1, r2] ((1, x) :: st) mem Post) := zrf rfl
theorem s_78_1_2 {E : yE} {n d : Nat} {mem : yMem} {Post : Option yV → yMem → Prop} {st : List yV} {r0 r1 r2 : Option yV} : zvc E (n + 1) [] d xm_78 1 [r0, r1, r2] ((1, 2) :: st) mem Post = (zvc E n [] d xm_78 4 [r0, r1, r2] ((1, 7) :: st) mem Post) := zrf rfl
theorem s_78_1_28 {E : yE} {n d : Nat} {mem : yMem} {Post : Option yV → yMem → Prop} {st : List yV} {r0 r1 r2 : Option yV} : zvc E (n + 1) [] d xm_78 1 [r0, r1, r2] ((1, 28) :: st) mem Post = (zvc E n [] d xm_78 4 [r0, r1, r2] ((1, 33) :: st) mem Post) := zrf rfl
theorem s_78_4 {E : yE} {n d : Nat} {mem : yMem} {Post : Option yV → yMem → Prop} {st : List yV} {r0 r2 : Option yV} {x : Int} : zvc E (n + 1) [] d xm_78 4 [r0, some (0, x), r2] (st) mem Post = (zvc E n [] d xm_78 5 [r0, some (0, x), r2] ((0, x) :: st) mem Post) := zrf rfl
theorem s_78_5 {E : yE} {n d : Nat} {mem : yMem} {Post : Option yV → yMem → Prop} {st : List yV} {r0 r1 r2 : Option yV} {z a0 : Int} : zvc E (n + 1) [] (d + 1) xm_78 5 [r0, r1, r2] ((0, a0) :: (1, z) :: st) mem Post = (zio z 6 = true ∧ ysum st ≤ 8 ∧ zvc E n [] d xm_103 0 [some (1, z), some (0, a0)] [] mem (fun v mem' => zvk E n [] (d + 1) xm_78 8 [r0, r1, r2] st v mem' Post)) := zrf rfl
theorem s_78_8 {E : yE} {n d : Nat} {mem : yMem} {Post : Option yV → yMem → Prop} {st : List yV} {r0 r1 r2 : Option yV} {x : Int} : zvc E (n + 1) [] d xm_78 8 [r0, r1, r2] ((0, x) :: st) mem Post = ((w32 x = w32 0 → zvc E n [] d xm_78 29 [r0, r1, r2] (st) mem Post) ∧ (¬ (w32 x = w32 0) → zvc E n [] d xm_78 11 [r0, r1, r2] (st) mem Post)) := zrf rfl
theorem s_78_11 {E : yE} {n d : Nat} {mem : yMem} {Post : Option yV → yMem → Prop} {st : List yV} {r0 r1 : Option yV} {x : Int} : zvc E (n + 1) [] d xm_78 11 [r0, r1, some (0, x)] (st) mem Post = (zvc E n [] d xm_78 12 [r0, r1, some (0, x)] ((0, x) :: st) mem Post) := zrf rfl
theorem s_78_12 {E : yE} {n d : Nat} {mem : yMem} {Post : Option yV → yMem → Prop} {st : List yV} {r0 r1 r2 : Option yV} {x : Int} : zvc E (n + 1) [] d xm_78 12 [r0, r1, r2] ((0, x) :: st) mem Post = ((w32 x < w32 0 → zvc E n [] d xm_78 29 [r0, r1, r2] (st) mem Post) ∧ (¬ (w32 x < w32 0) → zvc E n [] d xm_78 15 [r0, r1, r2] (st) mem Post)) := zrf rfl
theorem s_78_15 {E : yE} {n d : Nat} {mem : yMem} {Post : Option yV → yMem → Prop} {st : List yV} {r0 r1 : Option yV} {x : Int} : zvc E (n + 1) [] d xm_78 15 [r0, r1, some (0, x)] (st) mem Post = (zvc E n [] d xm_78 16 [r0, r1, some (0, x)] ((0, x) :: st) mem Post) := zrf rfl
theorem s_78_16 {E : yE} {n d : Nat} {mem : yMem} {Post : Option yV → yMem → Prop} {st : List yV} {r1 r2 : Option yV} {x : Int} : zvc E (n + 1) [] d xm_78 16 [some (1, x), r1, r2] (st) mem Post = (zvc E n [] d xm_78 17 [some (1, x), r1, r2] ((1, x) :: st) mem Post) := zrf rfl
theorem s_78_17_2 {E : yE} {n d : Nat} {mem : yMem} {Post : Option yV → yMem → Prop} {st : List yV} {r0 r1 r2 : Option yV} : zvc E (n + 1) [] d xm_78 17 [r0, r1, r2] ((1, 2) :: st) mem Post = (zvc E n [] d xm_78 20 [r0, r1, r2] ((1, 18) :: st) mem Post) := zrf rfl
theorem s_78_17_28 {E : yE} {n d : Nat} {mem : yMem} {Post : Option yV → yMem → Prop} {st : List yV} {r0 r1 r2 : Option yV} : zvc E (n + 1) [] d xm_78 17 [r0, r1, r2] ((1, 28) :: st) mem Post = (zvc E n [] d xm_78 20 [r0, r1, r2] ((1, 44) :: st) mem Post) := zrf rfl
theorem s_78_20 {E : yE} {n d : Nat} {mem : yMem} {Post : Option yV → yMem → Prop} {st : List yV} {r0 r2 : Option yV} {x : Int} : zvc E (n + 1) [] d xm_78 20 [r0, some (0, x), r2] (st) mem Post = (zvc E n [] d xm_78 21 [r0, some (0, x), r2] ((0, x) :: st) mem Post) := zrf rfl
theorem s_78_21 {E : yE} {n d : Nat} {mem : yMem} {Post : Option yV → yMem → Prop} {st : List yV} {r0 r1 r2 : Option yV} {z j : Int} : zvc E (n + 1) [] d xm_78 21 [r0, r1, r2] ((0, j) :: (1, z) :: st) mem Post = ((0 ≤ w32 j ∧ w32 j < ((zar z 0 : Nat) : Int)) ∧ zvc E n [] d xm_78 22 [r0, r1, r2] ((0, mem z.toNat (w32 j).toNat) :: st) mem Post) := zrf rfl
theorem s_78_22 {E : yE} {n d : Nat} {mem : yMem} {Post : Option yV → yMem → Prop} {st : List yV} {r0 r1 r2 : Option yV} {x y : Int} : zvc E (n + 1) [] d xm_78 22 [r0, r1, r2] ((0, y) :: (0, x) :: st) mem Post = ((w32 y ≤ w32 x → zvc E n [] d xm_78 29 [r0, r1, r2] (st) mem Post) ∧ (¬ (w32 y ≤ w32 x) → zvc E n [] d xm_78 25 [r0, r1, r2] (st) mem Post)) := zrf rfl
theorem s_78_25 {E : yE} {n d : Nat} {mem : yMem} {Post : Option yV → yMem → Prop} {st : List yV} {r0 r1 r2 : Option yV} : zvc E (n + 1) [] d xm_78 25 [r0, r1, r2] (st) mem Post = (zvc E n [] d xm_78 26 [r0, r1, r2] ((0, 1) :: st) mem Post) := zrf rfl
theorem s_78_26 {E : yE} {n d : Nat} {mem : yMem} {Post : Option yV → yMem → Prop} {st : List yV} {r0 r1 r2 : Option yV} : zvc E (n + 1) [] d xm_78 26 [r0, r1, r2] (st) mem Post = (zvc E n [] d xm_78 30 [r0, r1, r2] (st) mem Post) := zrf rfl
theorem s_78_29 {E : yE} {n d : Nat} {mem : yMem} {Post : Option yV → yMem → Prop} {st : List yV} {r0 r1 r2 : Option yV} : zvc E (n + 1) [] d xm_78 29 [r0, r1, r2] (st) mem Post = (zvc E n [] d xm_78 30 [r0, r1, r2] ((0, 0) :: st) mem Post) := zrf rfl
theorem s_78_30 {E : yE} {n d : Nat} {mem : yMem} {Post : Option yV → yMem → Prop} {r0 r1 r2 : Option yV} {x : Int} : zvc E (n + 1) [] d xm_78 30 [r0, r1, r2] ([(0, x)]) mem Post = ((w32 x = 0 ∨ w32 x = 1) ∧ Post (some (0, x)) mem) := zrf rfl
theorem s_82_0 {E : yE} {n d : Nat} {mem : yMem} {Post : Option yV → yMem → Prop} {st : List yV} {r1 r2 : Option yV} {x : Int} : zvc E (n + 1) [] d xm_82 0 [some (1, x), r1, r2] (st) mem Post = (zvc E n [] d xm_82 1 [some (1, x), r1, r2] ((1, x) :: st) mem Post) := zrf rfl
theorem s_82_1_2 {E : yE} {n d : Nat} {mem : yMem} {Post : Option yV → yMem → Prop} {st : List yV} {r0 r1 r2 : Option yV} : zvc E (n + 1) [] d xm_82 1 [r0, r1, r2] ((1, 2) :: st) mem Post = (zvc E n [] d xm_82 4 [r0, r1, r2] ((1, 20) :: st) mem Post) := zrf rfl
theorem s_82_1_28 {E : yE} {n d : Nat} {mem : yMem} {Post : Option yV → yMem → Prop} {st : List yV} {r0 r1 r2 : Option yV} : zvc E (n + 1) [] d xm_82 1 [r0, r1, r2] ((1, 28) :: st) mem Post = (zvc E n [] d xm_82 4 [r0, r1, r2] ((1, 46) :: st) mem Post) := zrf rfl
theorem s_82_4 {E : yE} {n d : Nat} {mem : yMem} {Post : Option yV → yMem → Prop} {st : List yV} {r0 r2 : Option yV} {x : Int} : zvc E (n + 1) [] d xm_82 4 [r0, some (0, x), r2] (st) mem Post = (zvc E n [] d xm_82 5 [r0, some (0, x), r2] ((0, x) :: st) mem Post) := zrf rfl
theorem s_82_5 {E : yE} {n d : Nat} {mem : yMem} {Post : Option yV → yMem → Prop} {st : List yV} {r0 r1 r2 : Option yV} : zvc E (n + 1) [] d xm_82 5 [r0, r1, r2] (st) mem Post = (zvc E n [] d xm_82 7 [r0, r1, r2] ((0, 8) :: st) mem Post) := zrf rfl
theorem s_82_7 {E : yE} {n d : Nat} {mem : yMem} {Post : Option yV → yMem → Prop} {st : List yV} {r0 r1 r2 : Option yV} {x y : Int} : zvc E (n + 1) [] d xm_82 7 [r0, r1, r2] ((0, y) :: (0, x) :: st) mem Post = (zvc E n [] d xm_82 8 [r0, r1, r2] ((0, x * y) :: st) mem Post) := zrf rfl
theorem s_82_8 {E : yE} {n d : Nat} {mem : yMem} {Post : Option yV → yMem → Prop} {st : List yV} {r0 r1 : Option yV} {x : Int} : zvc E (n + 1) [] d xm_82 8 [r0, r1, some (0, x)] (st) mem Post = (zvc E n [] d xm_82 9 [r0, r1, some (0, x)] ((0, x) :: st) mem Post) := zrf rfl
theorem s_82_9 {E : yE} {n d : Nat} {mem : yMem} {Post : Option yV → yMem → Prop} {st : List yV} {r0 r1 r2 : Option yV} {x y : Int} : zvc E (n + 1) [] d xm_82 9 [r0, r1, r2] ((0, y) :: (0, x) :: st) mem Post = (zvc E n [] d xm_82 10 [r0, r1, r2] ((0, x + y) :: st) mem Post) := zrf rfl
theorem s_82_10 {E : yE} {n d : Nat} {mem : yMem} {Post : Option yV → yMem → Prop} {st : List yV} {r0 r1 r2 : Option yV} {z j : Int} : zvc E (n + 1) [] d xm_82 10 [r0, r1, r2] ((0, j) :: (1, z) :: st) mem Post = ((0 ≤ w32 j ∧ w32 j < ((zar z 0 : Nat) : Int)) ∧ zvc E n [] d xm_82 11 [r0, r1, r2] ((0, mem z.toNat (w32 j).toNat) :: st) mem Post) := zrf rfl
theorem s_82_11 {E : yE} {n d : Nat} {mem : yMem} {Post : Option yV → yMem → Prop} {r0 r1 r2 : Option yV} {x : Int} : zvc E (n + 1) [] d xm_82 11 [r0, r1, r2] ([(0, x)]) mem Post = (Post (some (0, x)) mem) := zrf rfl
/-! verse and pitch, on both sides -/
/-- tables that hold the VERSES -/
def eOk (ve : dVe) (n : Int) (f g h : Nat → Int) : Prop := (n = (ve.length : Int) ∧ ve.length ≤ 4) ∧ ∀ v, v < ve.length → (f v = ((dPt ve v).length : Int) ∧ (dPt ve v).length ≤ 3) ∧ ∀ p, p < (dPt ve v).length → (g (v * 3 + p) = ((dBr ve v p).length : Int) ∧ (dBr ve v p).length ≤ 8) ∧ ∀ j, j < (dBr ve v p).length → h ((v * 3 + p) * 8 + j) = (dBr ve v p).getD j 0
theorem getD_some {α : Type} {l : List α} {j : Nat} (d : α) (h : j < l.length) : l[j]? = some (l.getD j d) := by
  rw [List.getD_eq_getElem?_getD, List.getElem?_eq_getElem h]
  rfl
theorem eOk_of {ve : dVe} {n : Int} {f g h : Nat → Int} (hn : n = (ve.length : Int) ∧ ve.length ≤ 4) (hv : ∀ j t, ve[j]? = some t → t.2.length ≤ 3 ∧ f j = (t.2.length : Int) ∧ ∀ p q, t.2[p]? = some q → q.length ≤ 8 ∧ g (j * 3 + p) = (q.length : Int) ∧ ∀ i w, q[i]? = some w → h ((j * 3 + p) * 8 + i) = w) : eOk ve n f g h := by
  refine ⟨hn, fun v hlt => ?_⟩
  obtain ⟨a1, a2, a3⟩ := hv v _ (getD_some (0, []) hlt)
  refine ⟨⟨a2, a1⟩, fun p hp => ?_⟩
  obtain ⟨b1, b2, b3⟩ := a3 p _ (getD_some [] hp)
  exact ⟨⟨b2, b1⟩, fun j hj => b3 j _ (getD_some 0 hj)⟩
theorem cEh_ok {m : yMem} {D : dDc} (h : cDh m D) : eOk D.2.2.1 (w32 (m 7 1)) (fun j => w32 (m 18 j)) (fun j => w32 (m 19 j)) (fun j => w32 (m 20 j)) := by
  obtain ⟨-, -, ⟨c1, c2⟩, -⟩ := h
  have e1 := c1.1
  have e2 := c1.2.1
  rw [List.length_map] at e1 e2
  exact eOk_of ⟨e1, e2⟩ (fun j t hj => ⟨(c2 j t hj).1, (c2 j t hj).2.1, fun p q hq => (c2 j t hj).2.2 p q hq⟩)
theorem rEl_ok {m : yMem} {D : dDc} (h : rDl m D) : eOk D.2.2.1 (w32 (m 97 2)) (fun j => w32 (m 109 j)) (fun j => w32 (m 110 j)) (fun j => w32 (m 111 j)) := by
  obtain ⟨-, -, ⟨c1, c2⟩, -⟩ := h
  have e1 := c1.1
  have e2 := c1.2.1
  rw [List.length_map] at e1 e2
  exact eOk_of ⟨e1, e2⟩ (fun j t hj => ⟨(c2 j t hj).1, (c2 j t hj).2.1, fun p q hq => (c2 j t hj).2.2 p q hq⟩)
theorem ix_c {c v p : Int} (hc : w32 c = c) (h0 : 0 ≤ c * w32 v) (h1 : c * w32 v < 1000) (p0 : 0 ≤ w32 p) (p1 : w32 p < 1000) : w32 (c * v + p) = c * w32 v + w32 p := by
  have e : w32 (c * v) = c * w32 v := w32_k hc (by (first | exact Nat.le_of_ble_eq_true rfl | exact (fun h => absurd h.1 (by decide)) | omega)) (by (first | exact Nat.le_of_ble_eq_true rfl | exact (fun h => absurd h.1 (by decide)) | omega))
  rw [w32_ad (by rw [e]; (first | exact Nat.le_of_ble_eq_true rfl | exact (fun h => absurd h.1 (by decide)) | omega)) (by rw [e]; (first | exact Nat.le_of_ble_eq_true rfl | exact (fun h => absurd h.1 (by decide)) | omega)), e]
section VP
variable {E : yE} {mem : yMem} {Q : Option yV → yMem → Prop}
end VP
end
section
/-! BITS AND COUNTS: pure -/
def nBt (f : Nat → Bool) : Nat → Nat
  | 0 => 0
  | n + 1 => nBt f n + (if f n then 2 ^ n else 0)
def nCt (f : Nat → Bool) : Nat → Nat
  | 0 => 0
  | n + 1 => nCt f n + (if f n then 1 else 0)
def nMx (g : Nat → Int) : Nat → Int
  | 0 => 0
  | n + 1 => max (nMx g n) (g n)
def nSm (g : Nat → Int) : Nat → Int
  | 0 => 0
  | n + 1 => nSm g n + g n
theorem nBt_lt (f : Nat → Bool) : ∀ n, nBt f n < 2 ^ n
  | 0 => by
    show (0 : Nat) < 1
    decide
  | n + 1 => by
    have h := nBt_lt f n
    simp only [nBt]
    rw [Nat.pow_succ]
    revert h
    generalize 2 ^ n = z
    intro h
    split <;> (first | exact Nat.le_of_ble_eq_true rfl | exact (fun h => absurd h.1 (by decide)) | omega)
theorem nCt_le (f : Nat → Bool) : ∀ n, nCt f n ≤ n
  | 0 => Nat.le_refl _
  | n + 1 => by
    have h := nCt_le f n
    simp only [nCt]
    split <;> (first | exact Nat.le_of_ble_eq_true rfl | exact (fun h => absurd h.1 (by decide)) | omega)
theorem nSm_ext {f g : Nat → Int} : ∀ n, (∀ j, j < n → f j = g j) → nSm f n = nSm g n
  | 0, _ => rfl
  | n + 1, h => by
    simp only [nSm]
    rw [nSm_ext n (fun j hj => h j (by (first | exact Nat.le_of_ble_eq_true rfl | exact (fun h => absurd h.1 (by decide)) | omega))), h n (Nat.lt_succ_self n)]
theorem zpc_0 : ∀ m, zpc m 0 = 0
  | 0 => rfl
  | m + 1 => by
    show 0 % 2 + zpc m (0 / 2) = 0
    rw [show (0 : Nat) / 2 = 0 from rfl, zpc_0 m]
theorem zpc_add : ∀ (n m a : Nat), n < m → a < 2 ^ n → zpc m (a + 2 ^ n) = zpc m a + 1
  | n, 0, a, h, _ => absurd h (Nat.not_lt_zero _)
  | 0, m + 1, a, _, ha => by
    have e : a = 0 := by rw [Nat.pow_zero] at ha; (first | exact Nat.le_of_ble_eq_true rfl | exact (fun h => absurd h.1 (by decide)) | omega)
    subst e
    show 1 + zpc m 0 = 0 + zpc m 0 + 1
    (first | exact Nat.le_of_ble_eq_true rfl | exact (fun h => absurd h.1 (by decide)) | omega)
  | n + 1, m + 1, a, h, ha => by
    have e1 : (a + 2 ^ (n + 1)) % 2 = a % 2 := by
      rw [Nat.pow_succ]
      generalize 2 ^ n = z
      (first | exact Nat.le_of_ble_eq_true rfl | exact (fun h => absurd h.1 (by decide)) | omega)
    have e2 : (a + 2 ^ (n + 1)) / 2 = a / 2 + 2 ^ n := by
      rw [Nat.pow_succ]
      generalize 2 ^ n = z
      (first | exact Nat.le_of_ble_eq_true rfl | exact (fun h => absurd h.1 (by decide)) | omega)
    have e3 : a / 2 < 2 ^ n := by
      rw [Nat.pow_succ] at ha
      revert ha
      generalize 2 ^ n = z
      (first | exact Nat.le_of_ble_eq_true rfl | exact (fun h => absurd h.1 (by decide)) | omega)
    show (a + 2 ^ (n + 1)) % 2 + zpc m ((a + 2 ^ (n + 1)) / 2) = a % 2 + zpc m (a / 2) + 1
    rw [e1, e2, zpc_add n m (a / 2) (by (first | exact Nat.le_of_ble_eq_true rfl | exact (fun h => absurd h.1 (by decide)) | omega)) e3]
    (first | exact Nat.le_of_ble_eq_true rfl | exact (fun h => absurd h.1 (by decide)) | omega)
theorem zpc_bt {f : Nat → Bool} {m : Nat} : ∀ {n : Nat}, n ≤ m → zpc m (nBt f n) = nCt f n
  | 0, _ => zpc_0 m
  | n + 1, h => by
    have ih := zpc_bt (f := f) (m := m) (n := n) (by (first | exact Nat.le_of_ble_eq_true rfl | exact (fun h => absurd h.1 (by decide)) | omega))
    simp only [nBt, nCt]
    cases f n with
    | true => rw [if_pos rfl, if_pos rfl, zpc_add n m _ (by (first | exact Nat.le_of_ble_eq_true rfl | exact (fun h => absurd h.1 (by decide)) | omega)) (nBt_lt f n), ih]
    | false => rw [if_neg (by decide), if_neg (by decide), Nat.add_zero, Nat.add_zero, ih]
/-- zeros and ones, the least first -/
def bnat : List Int → Nat
  | [] => 0
  | b :: r => b.toNat + 2 * bnat r
theorem bnat_i : ∀ {l : List Int}, (∀ b ∈ l, b = 0 ∨ b = 1) → bsum l = ((bnat l : Nat) : Int)
  | [], _ => rfl
  | b :: r, h => by
    have ih := bnat_i (l := r) (fun c hc => h c (List.mem_cons_of_mem _ hc))
    have hb := h b List.mem_cons_self
    show b + 2 * bsum r = ((b.toNat + 2 * bnat r : Nat) : Int)
    (first | exact Nat.le_of_ble_eq_true rfl | exact (fun h => absurd h.1 (by decide)) | omega)
theorem bnat_b : ∀ {l : List Int} {v : Nat}, (∀ b ∈ l, b = 0 ∨ b = 1) → bnat l / 2 ^ v % 2 = (l.getD v 0).toNat
  | [], v, _ => by
    show 0 / 2 ^ v % 2 = 0
    rw [Nat.zero_div]
  | b :: r, 0, h => by
    have hb := h b List.mem_cons_self
    show (b.toNat + 2 * bnat r) / 2 ^ 0 % 2 = b.toNat
    rw [Nat.pow_zero, Nat.div_one]
    (first | exact Nat.le_of_ble_eq_true rfl | exact (fun h => absurd h.1 (by decide)) | omega)
  | b :: r, v + 1, h => by
    have hb := h b List.mem_cons_self
    show (b.toNat + 2 * bnat r) / 2 ^ (v + 1) % 2 = (r.getD v 0).toNat
    rw [← bnat_b (l := r) (v := v) (fun c hc => h c (List.mem_cons_of_mem _ hc)), show 2 ^ (v + 1) = 2 * 2 ^ v by rw [Nat.pow_succ, Nat.mul_comm], ← Nat.div_div_eq_div_mul, show (b.toNat + 2 * bnat r) / 2 = bnat r by (first | exact Nat.le_of_ble_eq_true rfl | exact (fun h => absurd h.1 (by decide)) | omega)]
theorem bnat_lt : ∀ {l : List Int}, (∀ b ∈ l, b = 0 ∨ b = 1) → bnat l < 2 ^ l.length
  | [], _ => by decide
  | b :: r, h => by
    have ih := bnat_lt (l := r) (fun c hc => h c (List.mem_cons_of_mem _ hc))
    have hb := h b List.mem_cons_self
    show b.toNat + 2 * bnat r < 2 ^ (r.length + 1)
    rw [Nat.pow_succ]
    (first | exact Nat.le_of_ble_eq_true rfl | exact (fun h => absurd h.1 (by decide)) | omega)
/-- a bit more -/
theorem yb_bt {x r : Int} {f : Nat → Bool} {n : Nat} (hn : n < 9) (hx : w32 x = ((nBt f n : Nat) : Int)) (hr : w32 r = (n : Int)) : w32 (ybin 4 x (ybin 6 1 r)) = ((nBt f n + 2 ^ n : Nat) : Int) := by
  have h2 : 2 ^ n ≤ 256 := (by decide : ∀ l : Nat, l < 9 → 2 ^ l ≤ 256) n hn
  have hl := nBt_lt f n
  have e := yb_orr (x := x) (y := ybin 6 1 r) (a := 1) (b := nBt f n) (k := n) hx (by rw [yb_shl (a := 1) (s := n) w32c_1 hr (by (first | exact Nat.le_of_ble_eq_true rfl | exact (fun h => absurd h.1 (by decide)) | omega)) (by (first | exact Nat.le_of_ble_eq_true rfl | exact (fun h => absurd h.1 (by decide)) | omega)), Nat.mul_comm]) hl (by (first | exact Nat.le_of_ble_eq_true rfl | exact (fun h => absurd h.1 (by decide)) | omega))
  rw [e, Nat.mul_one, Nat.add_comm]
/-- is a bit set -/
theorem yb_tst {x r : Int} {a b : Nat} (hx : w32 x = (a : Int)) (ha : a < 2147483648) (hr : w32 r = (b : Int)) (hb : b < 32) : w32 (ybin 3 (ybin 7 x r) 1) = ((a / 2 ^ b % 2 : Nat) : Int) := yb_and1 (yb_shr hx hr hb ha) (Nat.lt_of_le_of_lt (Nat.div_le_self _ _) ha)
theorem w32_mx {x y : Int} : w32 (zmxi x y) = max (w32 x) (w32 y) := by
  unfold zmxi
  split <;> (first | exact Nat.le_of_ble_eq_true rfl | exact (fun h => absurd h.1 (by decide)) | omega)
theorem w32_mn {x y : Int} : w32 (zmni x y) = min (w32 x) (w32 y) := by
  unfold zmni
  split <;> (first | exact Nat.le_of_ble_eq_true rfl | exact (fun h => absurd h.1 (by decide)) | omega)
end
section
/-! WHAT THE TABLES HOLD -/
abbrev vAt (D : dDc) (v : Nat) : tVo := D.2.1.getD v (0, 0, 0, 0, 0, 0, 0)
abbrev vLo (D : dDc) (v : Nat) : Int := (vAt D v).2.1
abbrev vHi (D : dDc) (v : Nat) : Int := (vAt D v).2.2.1
abbrev vBo (D : dDc) (v : Nat) : Int := (vAt D v).2.2.2.1
abbrev vHo (D : dDc) (v : Nat) : Int := (vAt D v).2.2.2.2.1
abbrev vDe (D : dDc) (v : Nat) : Int := (vAt D v).2.2.2.2.2.1
abbrev tAt (D : dDc) (t : Nat) : Int × Int × Int := D.1.getD t (0, 0, 0)
/-- the bars of a PART, by its slot; the PARTS of a VERSE -/
abbrev sBr (D : dDc) (p : Nat) : List Int := dBr D.2.2.1 (p / 3) (p % 3)
abbrev sPs (D : dDc) (v : Nat) : Nat := (dPt D.2.2.1 v).length
section TT
variable {m : yMem} {D : dDc} {v p : Nat}
theorem cTb_n (h : cDh m D) : (w32 (m 3 1) = (D.1.length : Int) ∧ D.1.length ≤ 3) ∧ (w32 (m 5 1) = (D.2.1.length : Int) ∧ D.2.1.length ≤ 6) ∧ (w32 (m 7 1) = (D.2.2.1.length : Int) ∧ D.2.2.1.length ≤ 4) ∧ (w32 (m 9 1) = (D.2.2.2.1.length : Int) ∧ D.2.2.2.1.length ≤ 3) := by
  obtain ⟨a, b, c, e, -⟩ := h
  have a1 := a.1.1
  have a2 := a.1.2.1
  have b1 := b.1.1
  have b2 := b.1.2.1
  have c1 := c.1.1
  have c2 := c.1.2.1
  have e1 := e.1.1
  have e2 := e.1.2.1
  rw [List.length_map] at a1 a2 b1 b2 c1 c2 e1 e2
  exact ⟨⟨a1, a2⟩, ⟨b1, b2⟩, ⟨c1, c2⟩, e1, e2⟩
theorem rTb_n (h : rDl m D) : (w32 (m 97 0) = (D.1.length : Int) ∧ D.1.length ≤ 3) ∧ (w32 (m 97 1) = (D.2.1.length : Int) ∧ D.2.1.length ≤ 6) ∧ (w32 (m 97 2) = (D.2.2.1.length : Int) ∧ D.2.2.1.length ≤ 4) ∧ (w32 (m 97 3) = (D.2.2.2.1.length : Int) ∧ D.2.2.2.1.length ≤ 3) := by
  obtain ⟨a, b, c, e, -⟩ := h
  have a1 := a.1.1
  have a2 := a.1.2.1
  have b1 := b.1.1
  have b2 := b.1.2.1
  have c1 := c.1.1
  have c2 := c.1.2.1
  have e1 := e.1.1
  have e2 := e.1.2.1
  rw [List.length_map] at a1 a2 b1 b2 c1 c2 e1 e2
  exact ⟨⟨a1, a2⟩, ⟨b1, b2⟩, ⟨c1, c2⟩, e1, e2⟩
theorem cTb_v (h : cDh m D) (hv : v < D.2.1.length) : w32 (m 13 v) = vLo D v ∧ w32 (m 14 v) = vHi D v ∧ w32 (m 15 v) = vHo D v ∧ w32 (m 16 v) = vDe D v := by
  obtain ⟨a1, a2, a3, a4, _⟩ := h.2.1.2.2.2 v _ (getD_at (0, 0, 0, 0, 0, 0, 0) hv)
  exact ⟨a1, a2, a3, a4⟩
theorem cTb_b (h : cDh m D) (hv : v < D.2.1.length) : ∃ K : Nat, w32 (m 2 16) = (K : Int) ∧ K < 64 ∧ K / 2 ^ v % 2 = (vBo D v).toNat ∧ (vBo D v = 0 ∨ vBo D v = 1) := by
  have h1 := h.2.1.2.1
  have h2 := h.2.1.2.2.1
  have h3 : ∀ b ∈ D.2.1.map (fun t => t.2.2.2.1), b = 0 ∨ b = 1 := fun b hb => by
    obtain ⟨t, ht, rfl⟩ := List.mem_map.mp hb
    exact h2 t ht
  have hn := (cTb_n h).2.1.2
  refine ⟨bnat (D.2.1.map (fun t => t.2.2.2.1)), by rw [h1, bnat_i h3], ?_, ?_, ?_⟩
  · have := bnat_lt h3
    rw [List.length_map] at this
    have h6 : 2 ^ D.2.1.length ≤ 2 ^ 6 := Nat.pow_le_pow_right (by decide) hn
    exact Nat.lt_of_lt_of_le this h6
  · rw [bnat_b h3]
    congr 1
    rw [List.getD_eq_getElem?_getD, List.getElem?_map, getD_at (0, 0, 0, 0, 0, 0, 0) hv]
    rfl
  · have hm : vAt D v ∈ D.2.1 := by
      show D.2.1.getD v _ ∈ D.2.1
      rw [List.getD_eq_getElem?_getD, List.getElem?_eq_getElem hv]
      exact List.getElem_mem hv
    exact h2 _ hm
theorem rTb_v (h : rDl m D) (hv : v < D.2.1.length) : w32 (m 102 v) = vLo D v ∧ w32 (m 103 v) = vHi D v ∧ w32 (m 104 v) = vBo D v ∧ w32 (m 105 v) = vHo D v ∧ w32 (m 106 v) = vDe D v := by
  obtain ⟨-, a2, a3, a4, a5, a6, _⟩ := h.2.1.2 v _ (getD_at (0, 0, 0, 0, 0, 0, 0) hv)
  exact ⟨a2, a3, a4, a5, a6⟩
theorem dOk_v (h : dOk D) (hv : v < D.2.1.length) : dVk D.1.length (vAt D v) := by
  refine h.2.1 _ ?_
  show D.2.1.getD v _ ∈ D.2.1
  rw [List.getD_eq_getElem?_getD, List.getElem?_eq_getElem hv]
  exact List.getElem_mem hv
theorem cTb_t (h : cDh m D) {t : Nat} (ht : t < D.1.length) : w32 (m 11 t) = (tAt D t).2.1 := (h.1.2 t _ (getD_at (0, 0, 0) ht)).1
theorem rTb_t (h : rDl m D) {t : Nat} (ht : t < D.1.length) : w32 (m 99 t) = (tAt D t).2.1 := (h.1.2 t _ (getD_at (0, 0, 0) ht)).1
theorem uPv_lt (h : cDh m D) (hp : uPv D p) : p < 12 ∧ p / 3 < 4 := by
  have := (cTb_n h).2.2.1.2
  have := hp.1
  (first | exact Nat.le_of_ble_eq_true rfl | exact (fun h => absurd h.1 (by decide)) | omega)
theorem uPv_ltr (h : rDl m D) (hp : uPv D p) : p < 12 ∧ p / 3 < 4 := by
  have := (rTb_n h).2.2.1.2
  have := hp.1
  (first | exact Nat.le_of_ble_eq_true rfl | exact (fun h => absurd h.1 (by decide)) | omega)
theorem cTb_e (h : cDh m D) {e : Nat} (he : e < D.2.2.1.length) : w32 (m 18 e) = (sPs D e : Int) ∧ sPs D e ≤ 3 := ((cEh_ok h).2 e he).1
theorem rTb_e (h : rDl m D) {e : Nat} (he : e < D.2.2.1.length) : w32 (m 109 e) = (sPs D e : Int) ∧ sPs D e ≤ 3 := ((rEl_ok h).2 e he).1
theorem cTb_p (h : cDh m D) (hp : uPv D p) : (w32 (m 19 p) = ((sBr D p).length : Int) ∧ (sBr D p).length ≤ 8) ∧ ∀ j, j < (sBr D p).length → w32 (m 20 (p * 8 + j)) = (sBr D p).getD j 0 := by
  have a := ((cEh_ok h).2 (p / 3) hp.1).2 (p % 3) hp.2
  rw [show p / 3 * 3 + p % 3 = p by (first | exact Nat.le_of_ble_eq_true rfl | exact (fun h => absurd h.1 (by decide)) | omega)] at a
  exact a
theorem rTb_p (h : rDl m D) (hp : uPv D p) : (w32 (m 110 p) = ((sBr D p).length : Int) ∧ (sBr D p).length ≤ 8) ∧ ∀ j, j < (sBr D p).length → w32 (m 111 (p * 8 + j)) = (sBr D p).getD j 0 := by
  have a := ((rEl_ok h).2 (p / 3) hp.1).2 (p % 3) hp.2
  rw [show p / 3 * 3 + p % 3 = p by (first | exact Nat.le_of_ble_eq_true rfl | exact (fun h => absurd h.1 (by decide)) | omega)] at a
  exact a
/-- a PART by VERSE and number -/
theorem uPv_of {e q : Nat} (he : e < D.2.2.1.length) (hq : q < sPs D e) (hn : sPs D e ≤ 3) : uPv D (3 * e + q) := by
  unfold uPv
  rw [show (3 * e + q) / 3 = e by (first | exact Nat.le_of_ble_eq_true rfl | exact (fun h => absurd h.1 (by decide)) | omega), show (3 * e + q) % 3 = q by (first | exact Nat.le_of_ble_eq_true rfl | exact (fun h => absurd h.1 (by decide)) | omega)]
  exact ⟨he, hq⟩
end TT
/-- a note that SOUNDS: within low and high -/
def fSo (l : List Int) (lo hi : Int) (j : Nat) : Bool := decide (lo ≤ l.getD j 0 ∧ l.getD j 0 ≤ hi)
def fRe (l : List Int) (j : Nat) : Bool := decide (l.getD j 0 = 0)
/-- is a VOICE CRACKED -/
abbrev uCk (X : Int) (v : Nat) : Prop := X.toNat / 2 ^ v % 2 = 1
/-- which bars of a PART a VOICE SOUNDS -/
def sSo (D : dDc) (p v : Nat) : Nat → Bool := fSo (sBr D p) (vLo D v) (vHi D v)
def sBits (D : dDc) (p v : Nat) : Nat := nBt (sSo D p v) (sBr D p).length
def sCnt (D : dDc) (p v : Nat) : Nat := nCt (sSo D p v) (sBr D p).length
def sRes (D : dDc) (p : Nat) : Nat := nCt (fRe (sBr D p)) (sBr D p).length
def sHig (D : dDc) (p : Nat) : Int := nMx (fun j => (sBr D p).getD j 0) (sBr D p).length
def sNo (D : dDc) (X : Int) (p v : Nat) : Nat := if uCk X v then 0 else sCnt D p v
/-- the names of an E -/
def nm7 (a b c d e f g : Int) : Nat → Int := fun i => [a, b, c, d, e, f, g].getD i 0
end
