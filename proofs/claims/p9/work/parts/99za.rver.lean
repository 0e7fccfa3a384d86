/-! THE REFERENCE: a part, a verse -/
theorem yset_n2 {m : yMem} {c k i j : Nat} {z : Int} (h : ¬ (i = c ∧ j = k)) : yset m c k z i j = m i j := by
  rw [yset_a]
  split
  · next e1 => rw [if_neg (fun e2 => h ⟨e1, e2⟩)]
  · rfl
theorem rTk_f {ch : Nat → Int} {n : Nat} {m : yMem} {e : Nat × Nat} (h : rTk ch n m (.inl e)) : ¬ w32 (m 95 31) = 0 := by
  have := h.2.2.2.1
  have := h.2.2.2.2.1
  omega
theorem rTk_0 {ch : Nat → Int} {n : Nat} {m : yMem} {l : List sT} (h : rTk ch n m (.inr l)) : w32 (m 95 31) = 0 := h.2.2.2.1
theorem pBars_nm {x : sY} {e : Nat × Nat} (h : (yNm 0 40 x).2 = .inl e) : ∀ c, (pBars (c + 1) x).2 = .inl e
  | 0 => by
    show (if yKd (yNm 0 40 x).2 = 2 then yFl 2 (yNm 0 40 x).2 else (yNm 0 40 x).2) = _
    rw [h, if_neg (show ¬ yKd (.inl e) = 2 from (by decide : ¬ (0 : Nat) = 2))]
  | c + 1 => by
    show (if yKd (yNm 0 40 x).2 = 2 then ((yNm 0 40 x).1 :: (pBars (c + 1) (yNm 0 40 x).2).1, (pBars (c + 1) (yNm 0 40 x).2).2) else ([(yNm 0 40 x).1], (yNm 0 40 x).2)).2 = _
    rw [h, if_neg (show ¬ yKd (.inl e) = 2 from (by decide : ¬ (0 : Nat) = 2))]
theorem pBars_in {e : Nat × Nat} (c : Nat) : (pBars (c + 1) (.inl e)).2 = .inl e := pBars_nm (by rw [yNm_in]) c
theorem pPt_no {x : sY} (h : ¬ yKd x = 27) : (pPt x).2 = yFl 1 x := by
  unfold pPt
  rw [if_neg h]
  obtain ⟨e, he⟩ := yFl_inl 1 x
  rw [he]
  exact pBars_in 7
theorem pPts_no {x : sY} (h : ¬ yKd x = 27) : ∀ c, (pPts (c + 1) x).2 = yFl 1 x
  | 0 => by
    show (if yKd (pPt x).2 = 27 then yFl 2 (pPt x).2 else (pPt x).2) = _
    obtain ⟨e, he⟩ := yFl_inl 1 x
    rw [pPt_no h, he, if_neg (show ¬ yKd (.inl e) = 27 from (by decide : ¬ (0 : Nat) = 27))]
  | c + 1 => by
    show (if yKd (pPt x).2 = 27 then ((pPt x).1 :: (pPts (c + 1) (pPt x).2).1, (pPts (c + 1) (pPt x).2).2) else ([(pPt x).1], (pPt x).2)).2 = _
    obtain ⟨e, he⟩ := yFl_inl 1 x
    rw [pPt_no h, he, if_neg (show ¬ yKd (.inl e) = 27 from (by decide : ¬ (0 : Nat) = 27))]
def rpF (s i j : Nat) : Prop := (i = 111 ∧ (12 + s) * 8 ≤ j ∧ j < (12 + s) * 8 + 8) ∨ (i = 110 ∧ j = 12 + s) ∨ (i = 95 ∧ 27 ≤ j ∧ j ≤ 32)
def RpS (b m : yMem) (s : Nat) (y : sY) (l : List Int) : Prop := (∀ i j, ¬ rpF s i j → m i j = b i j) ∧ (yOk y → w32 (m 110 (12 + s)) = (l.length : Int) ∧ ∀ j v, l[j]? = some v → w32 (m 111 ((12 + s) * 8 + j)) = v)
theorem rpF_fr {b m : yMem} {s i j : Nat} {x : Int} (h : ∀ i j, ¬ rpF s i j → m i j = b i j) (hv : rpF s i j) : ∀ i' j', ¬ rpF s i' j' → yset m i j x i' j' = b i' j' := fun i' j' h' => by
  rw [yset_a]
  split
  · next e1 =>
    rw [if_neg (fun e2 => h' (by rw [e1, e2]; exact hv))]
    exact h i' j' h'
  · exact h i' j' h'
theorem rpF_tk {b m m' : yMem} {s : Nat} (h : ∀ i j, ¬ rpF s i j → m i j = b i j) (hF : aFrm rnF m m') : ∀ i j, ¬ rpF s i j → m' i j = b i j := fun i j hv => by
  rw [hF i j (amod_r (fun z => hv (Or.inr (Or.inr z))))]
  exact h i j hv
section RF
variable {E : yE} {mem b : yMem} {Q : Option yV → yMem → Prop} {ch : Nat → Int} {n : Nat} {x : sY} {d s : Nat} {p : Int}
theorem rb8 (hE : yEok E) (hd : 7 ≤ d) (hs : s < 12) (hp : w32 p = ((12 + s : Nat) : Int)) {m : yMem} {l1 : List sT} {z : Option yV} (h : rTk ch n m (.inr l1)) (hk : (sHd l1).1 = 2) (h8 : w32 (m 110 (12 + s)) = 8) (hF : ∀ i j, ¬ rpF s i j → m i j = b i j) (fin : ∀ m', (∀ i j, ¬ rpF s i j → m' i j = b i j) → rTk ch n m' (yFl 2 (.inr l1)) → Q none m') : zG E (d + 1) xm_214 7 [some (1, 95), some (0, p), z] [] m Q := by
  have hpt : (w32 p).toNat = 12 + s := by rw [hp]; exact Int.toNat_natCast _
  have q1 := rTk_0 h
  have q2 : w32 (m 95 29) = 2 := (sRk_2 (rTk_rk h)).mpr hk
  refine zgo_ok (n := 60) hE xmo_214 (cs := zc_214) ?_
  simp only [ynok_30, ynok_31, w32c_0, w32c_1, w32c_2, w32c_3, w32c_4, w32c_5, w32c_6, w32c_7, w32c_8, w32c_9, w32c_10, w32c_11, w32c_12, w32c_13, w32c_14, w32c_m1, w32c_m2, w32c_118, Int.reduceAdd, Int.reduceSub, Int.reduceMul, yput_s, yput_n, znl_n, znl_0, znl_1, znl_4, ysum_n, ysum_0, ysum_1, ysum_4, true_and, and_true, Nat.reduceAdd, Nat.reduceLeDiff, true_implies, eq_self, true_or, or_true, or_false, false_or, not_true_eq_false, not_false_eq_true, false_implies, implies_true, yset_s, yset_o, yset_d, ne_eq, Nat.reduceEqDiff, Int.reduceToNat, Int.reduceEq, Int.reduceLE, Int.reduceLT, Classical.not_not, Nat.reduceLT, ↓zvk_s, ↓zvk_n, ↓s_214_0, ↓s_214_1, ↓s_214_4, ↓s_214_5, ↓s_214_6, ↓g_214_7, ↓k_214_7, ↓s_214_8, ↓s_214_11, ↓s_214_14, ↓s_214_15, ↓s_214_18, ↓s_214_19, ↓s_214_22, ↓s_214_23, ↓s_214_26, ↓s_214_27, ↓s_214_28, ↓s_214_30, ↓s_214_33, ↓s_214_34, ↓s_214_35, ↓s_214_38, ↓s_214_39, ↓s_214_40, ↓s_214_42, ↓s_214_45n, ↓s_214_45i, ↓s_214_45p, ↓s_214_46, ↓s_214_47, ↓s_214_50, ↓s_214_53, ↓s_214_54, ↓s_214_55, ↓s_214_58, ↓s_214_60, ↓s_214_61, ↓s_214_62, ↓s_214_63, ↓s_214_66, ↓s_214_67, ↓s_214_68, ↓s_214_69, ↓s_214_70, ↓s_214_71, ↓s_214_72, ↓s_214_75, ↓s_214_76, ↓s_214_77, ↓s_214_78, ↓s_214_79, ↓s_214_80, ↓s_214_81, ↓s_214_82, ↓s_214_85, ↓s_214_86, ↓s_214_89, w32c_40, ↓s_254_0, ↓s_254_1, ↓s_254_4, ↓s_254_7, ↓s_254_8, ↓s_254_9, ↓s_254_10, ↓s_254_13, ↓s_254_14, ↓s_254_15, ↓s_254_18, ↓s_254_21, zar_111, zia_111, zln_111, zit_111, zar_110, zia_110, zln_110, zit_110, zio_95, q1, q2]
  rw [hpt]
  refine ⟨⟨by omega, by omega⟩, fun q => absurd h8 q, fun _ => ?_⟩
  obtain ⟨G1, G2⟩ := rf_wr (f := 2) (F := 2) h (by decide) (by decide)
  refine rf_numeral hE (by omega) G2 (by decide) (by decide) (fun r m2 F2 e2 T2 => ?_)
  have T2 : rTk ch n m2 (yNm (w32 0) (w32 40) (.inl (2, (sHd l1).2.1))).2 := T2
  rw [yNm_in] at T2
  refine zgk_s hE xmo_214 60 zc_214 ?_
  have hf2 := rTk_f T2
  simp only [ynok_30, ynok_31, w32c_0, w32c_1, w32c_2, w32c_3, w32c_4, w32c_5, w32c_6, w32c_7, w32c_8, w32c_9, w32c_10, w32c_11, w32c_12, w32c_13, w32c_14, w32c_m1, w32c_m2, w32c_118, Int.reduceAdd, Int.reduceSub, Int.reduceMul, yput_s, yput_n, znl_n, znl_0, znl_1, znl_4, ysum_n, ysum_0, ysum_1, ysum_4, true_and, and_true, Nat.reduceAdd, Nat.reduceLeDiff, true_implies, eq_self, true_or, or_true, or_false, false_or, not_true_eq_false, not_false_eq_true, false_implies, implies_true, yset_s, yset_o, yset_d, ne_eq, Nat.reduceEqDiff, Int.reduceToNat, Int.reduceEq, Int.reduceLE, Int.reduceLT, Classical.not_not, Nat.reduceLT, ↓zvk_s, ↓zvk_n, ↓s_214_0, ↓s_214_1, ↓s_214_4, ↓s_214_5, ↓s_214_6, ↓g_214_7, ↓k_214_7, ↓s_214_8, ↓s_214_11, ↓s_214_14, ↓s_214_15, ↓s_214_18, ↓s_214_19, ↓s_214_22, ↓s_214_23, ↓s_214_26, ↓s_214_27, ↓s_214_28, ↓s_214_30, ↓s_214_33, ↓s_214_34, ↓s_214_35, ↓s_214_38, ↓s_214_39, ↓s_214_40, ↓s_214_42, ↓s_214_45n, ↓s_214_45i, ↓s_214_45p, ↓s_214_46, ↓s_214_47, ↓s_214_50, ↓s_214_53, ↓s_214_54, ↓s_214_55, ↓s_214_58, ↓s_214_60, ↓s_214_61, ↓s_214_62, ↓s_214_63, ↓s_214_66, ↓s_214_67, ↓s_214_68, ↓s_214_69, ↓s_214_70, ↓s_214_71, ↓s_214_72, ↓s_214_75, ↓s_214_76, ↓s_214_77, ↓s_214_78, ↓s_214_79, ↓s_214_80, ↓s_214_81, ↓s_214_82, ↓s_214_85, ↓s_214_86, ↓s_214_89, w32c_40, ↓s_254_0, ↓s_254_1, ↓s_254_4, ↓s_254_7, ↓s_254_8, ↓s_254_9, ↓s_254_10, ↓s_254_13, ↓s_254_14, ↓s_254_15, ↓s_254_18, ↓s_254_21, zar_111, zia_111, zln_111, zit_111, zar_110, zia_110, zln_110, zit_110, zio_95, hf2]
  exact fin m2 (rpF_tk (rpF_tk hF G1) F2) T2
theorem rbS (hE : yEok E) (hd : 7 ≤ d) (hs : s < 12) (hp : w32 p = ((12 + s : Nat) : Int)) {y : sY} {m : yMem} {l : List Int} {z : Option yV} (hc : l.length ≤ 7) (h : rTk ch n m y) (hS : RpS b m s y l) (f0 : ∀ m' e, (yNm 0 40 y).2 = .inl e → (∀ i j, ¬ rpF s i j → m' i j = b i j) → rTk ch n m' (.inl e) → Q none m') (f1 : ∀ m' l1 z', (yNm 0 40 y).2 = .inr l1 → rTk ch n m' (.inr l1) → RpS b m' s (.inr l1) (l ++ [(yNm 0 40 y).1]) → (sHd l1).1 = 2 → zG E (d + 1) xm_214 7 [some (1, 95), some (0, p), z'] [] m' Q) (f2 : ∀ m' l1, (yNm 0 40 y).2 = .inr l1 → rTk ch n m' (.inr l1) → RpS b m' s (.inr l1) (l ++ [(yNm 0 40 y).1]) → (sHd l1).1 ≠ 2 → Q none m') : zG E (d + 1) xm_214 7 [some (1, 95), some (0, p), z] [] m Q := by
  have hpt : (w32 p).toNat = 12 + s := by rw [hp]; exact Int.toNat_natCast _
  have num : yCon E (d + 1) xm_212 [(1, 95), (0, 0), (0, 40)] m (fun v mem' => zgk E (d + 1) xm_214 45 [some (1, 95), some (0, p), z] [] v mem' Q) := by
    refine rf_numeral hE (by omega) h (by decide) (by decide) (fun r m1 F1 e1 T1 => ?_)
    rw [w32c_0, show w32 40 = 40 by decide] at e1 T1
    refine zgk_s hE xmo_214 60 zc_214 ?_
    have FR := rpF_tk hS.1 F1
    cases hy : (yNm 0 40 y).2 with
    | inl e =>
      rw [hy] at T1
      have hf1 := rTk_f T1
      simp only [ynok_30, ynok_31, w32c_0, w32c_1, w32c_2, w32c_3, w32c_4, w32c_5, w32c_6, w32c_7, w32c_8, w32c_9, w32c_10, w32c_11, w32c_12, w32c_13, w32c_14, w32c_m1, w32c_m2, w32c_118, Int.reduceAdd, Int.reduceSub, Int.reduceMul, yput_s, yput_n, znl_n, znl_0, znl_1, znl_4, ysum_n, ysum_0, ysum_1, ysum_4, true_and, and_true, Nat.reduceAdd, Nat.reduceLeDiff, true_implies, eq_self, true_or, or_true, or_false, false_or, not_true_eq_false, not_false_eq_true, false_implies, implies_true, yset_s, yset_o, yset_d, ne_eq, Nat.reduceEqDiff, Int.reduceToNat, Int.reduceEq, Int.reduceLE, Int.reduceLT, Classical.not_not, Nat.reduceLT, ↓zvk_s, ↓zvk_n, ↓s_214_0, ↓s_214_1, ↓s_214_4, ↓s_214_5, ↓s_214_6, ↓g_214_7, ↓k_214_7, ↓s_214_8, ↓s_214_11, ↓s_214_14, ↓s_214_15, ↓s_214_18, ↓s_214_19, ↓s_214_22, ↓s_214_23, ↓s_214_26, ↓s_214_27, ↓s_214_28, ↓s_214_30, ↓s_214_33, ↓s_214_34, ↓s_214_35, ↓s_214_38, ↓s_214_39, ↓s_214_40, ↓s_214_42, ↓s_214_45n, ↓s_214_45i, ↓s_214_45p, ↓s_214_46, ↓s_214_47, ↓s_214_50, ↓s_214_53, ↓s_214_54, ↓s_214_55, ↓s_214_58, ↓s_214_60, ↓s_214_61, ↓s_214_62, ↓s_214_63, ↓s_214_66, ↓s_214_67, ↓s_214_68, ↓s_214_69, ↓s_214_70, ↓s_214_71, ↓s_214_72, ↓s_214_75, ↓s_214_76, ↓s_214_77, ↓s_214_78, ↓s_214_79, ↓s_214_80, ↓s_214_81, ↓s_214_82, ↓s_214_85, ↓s_214_86, ↓s_214_89, w32c_40, ↓s_254_0, ↓s_254_1, ↓s_254_4, ↓s_254_7, ↓s_254_8, ↓s_254_9, ↓s_254_10, ↓s_254_13, ↓s_254_14, ↓s_254_15, ↓s_254_18, ↓s_254_21, zar_111, zia_111, zln_111, zit_111, zar_110, zia_110, zln_110, zit_110, zio_95, hf1]
      exact f0 m1 e hy FR T1
    | inr l1 =>
      obtain ⟨c1, c2⟩ := hS.2 (yOk_nm ⟨l1, hy⟩)
      rw [hy] at T1
      have hf1 := rTk_0 T1
      have k2 := sRk_2 (rTk_rk T1)
      simp only [ynok_30, ynok_31, w32c_0, w32c_1, w32c_2, w32c_3, w32c_4, w32c_5, w32c_6, w32c_7, w32c_8, w32c_9, w32c_10, w32c_11, w32c_12, w32c_13, w32c_14, w32c_m1, w32c_m2, w32c_118, Int.reduceAdd, Int.reduceSub, Int.reduceMul, yput_s, yput_n, znl_n, znl_0, znl_1, znl_4, ysum_n, ysum_0, ysum_1, ysum_4, true_and, and_true, Nat.reduceAdd, Nat.reduceLeDiff, true_implies, eq_self, true_or, or_true, or_false, false_or, not_true_eq_false, not_false_eq_true, false_implies, implies_true, yset_s, yset_o, yset_d, ne_eq, Nat.reduceEqDiff, Int.reduceToNat, Int.reduceEq, Int.reduceLE, Int.reduceLT, Classical.not_not, Nat.reduceLT, ↓zvk_s, ↓zvk_n, ↓s_214_0, ↓s_214_1, ↓s_214_4, ↓s_214_5, ↓s_214_6, ↓g_214_7, ↓k_214_7, ↓s_214_8, ↓s_214_11, ↓s_214_14, ↓s_214_15, ↓s_214_18, ↓s_214_19, ↓s_214_22, ↓s_214_23, ↓s_214_26, ↓s_214_27, ↓s_214_28, ↓s_214_30, ↓s_214_33, ↓s_214_34, ↓s_214_35, ↓s_214_38, ↓s_214_39, ↓s_214_40, ↓s_214_42, ↓s_214_45n, ↓s_214_45i, ↓s_214_45p, ↓s_214_46, ↓s_214_47, ↓s_214_50, ↓s_214_53, ↓s_214_54, ↓s_214_55, ↓s_214_58, ↓s_214_60, ↓s_214_61, ↓s_214_62, ↓s_214_63, ↓s_214_66, ↓s_214_67, ↓s_214_68, ↓s_214_69, ↓s_214_70, ↓s_214_71, ↓s_214_72, ↓s_214_75, ↓s_214_76, ↓s_214_77, ↓s_214_78, ↓s_214_79, ↓s_214_80, ↓s_214_81, ↓s_214_82, ↓s_214_85, ↓s_214_86, ↓s_214_89, w32c_40, ↓s_254_0, ↓s_254_1, ↓s_254_4, ↓s_254_7, ↓s_254_8, ↓s_254_9, ↓s_254_10, ↓s_254_13, ↓s_254_14, ↓s_254_15, ↓s_254_18, ↓s_254_21, zar_111, zia_111, zln_111, zit_111, zar_110, zia_110, zln_110, zit_110, zio_95, hf1]
      have c110 : w32 (m1 110 (12 + s)) = (l.length : Int) := by rw [F1 110 (12 + s) (amod_r5 (by decide))]; exact c1
      rw [hpt]
      have e8 : w32 (8 * p) = 8 * w32 p := w32_k (by decide) (by omega) (by omega)
      have ei : w32 (8 * p + m1 110 (12 + s)) = (((12 + s) * 8 + l.length : Nat) : Int) := by rw [w32_ad (by rw [e8]; omega) (by rw [e8]; omega), e8]; omega
      have ej : (w32 (8 * p + m1 110 (12 + s))).toNat = (12 + s) * 8 + l.length := by rw [ei]; exact Int.toNat_natCast _
      have ek : w32 (m1 110 (12 + s) + 1) = ((l.length + 1 : Nat) : Int) := by rw [w32_ad (by rw [w32c_1]; omega) (by rw [w32c_1]; omega), w32c_1]; omega
      rw [ej, ei]
      have T2 : rTk ch n (yset (yset m1 111 ((12 + s) * 8 + l.length) r) 110 (12 + s) (m1 110 (12 + s) + 1)) (.inr l1) := rTk_s (rTk_s T1 (by decide)) (by decide)
      have S2 : RpS b (yset (yset m1 111 ((12 + s) * 8 + l.length) r) 110 (12 + s) (m1 110 (12 + s) + 1)) s (.inr l1) (l ++ [(yNm 0 40 y).1]) := by
        refine ⟨rpF_fr (rpF_fr FR (Or.inl ⟨rfl, by omega, by omega⟩)) (Or.inr (Or.inl ⟨rfl, rfl⟩)), fun _ => ⟨?_, fun j v hv => ?_⟩⟩
        · rw [yset_s, ek, List.length_append]
          rfl
        · rw [yset_o (by decide)]
          rcases app_get hv with hv | ⟨rfl, rfl⟩
          · have hj := get_lt hv
            rw [yset_d (by omega), F1 111 _ (amod_r5 (by decide))]
            exact c2 j v hv
          · rw [yset_s]
            exact e1
      exact ⟨⟨by omega, by omega⟩, ⟨by omega, by omega⟩, ⟨by omega, by omega⟩, ⟨by omega, by omega⟩, fun q => f1 _ l1 _ hy T2 S2 (k2.mp q), fun q => f2 _ l1 hy T2 S2 (fun z => q (k2.mpr z))⟩
  refine zgo_ok (n := 60) hE xmo_214 (cs := zc_214) ?_
  by_cases hf : w32 (m 95 31) = 0
  · simp only [ynok_30, ynok_31, w32c_0, w32c_1, w32c_2, w32c_3, w32c_4, w32c_5, w32c_6, w32c_7, w32c_8, w32c_9, w32c_10, w32c_11, w32c_12, w32c_13, w32c_14, w32c_m1, w32c_m2, w32c_118, Int.reduceAdd, Int.reduceSub, Int.reduceMul, yput_s, yput_n, znl_n, znl_0, znl_1, znl_4, ysum_n, ysum_0, ysum_1, ysum_4, true_and, and_true, Nat.reduceAdd, Nat.reduceLeDiff, true_implies, eq_self, true_or, or_true, or_false, false_or, not_true_eq_false, not_false_eq_true, false_implies, implies_true, yset_s, yset_o, yset_d, ne_eq, Nat.reduceEqDiff, Int.reduceToNat, Int.reduceEq, Int.reduceLE, Int.reduceLT, Classical.not_not, Nat.reduceLT, ↓zvk_s, ↓zvk_n, ↓s_214_0, ↓s_214_1, ↓s_214_4, ↓s_214_5, ↓s_214_6, ↓g_214_7, ↓k_214_7, ↓s_214_8, ↓s_214_11, ↓s_214_14, ↓s_214_15, ↓s_214_18, ↓s_214_19, ↓s_214_22, ↓s_214_23, ↓s_214_26, ↓s_214_27, ↓s_214_28, ↓s_214_30, ↓s_214_33, ↓s_214_34, ↓s_214_35, ↓s_214_38, ↓s_214_39, ↓s_214_40, ↓s_214_42, ↓s_214_45n, ↓s_214_45i, ↓s_214_45p, ↓s_214_46, ↓s_214_47, ↓s_214_50, ↓s_214_53, ↓s_214_54, ↓s_214_55, ↓s_214_58, ↓s_214_60, ↓s_214_61, ↓s_214_62, ↓s_214_63, ↓s_214_66, ↓s_214_67, ↓s_214_68, ↓s_214_69, ↓s_214_70, ↓s_214_71, ↓s_214_72, ↓s_214_75, ↓s_214_76, ↓s_214_77, ↓s_214_78, ↓s_214_79, ↓s_214_80, ↓s_214_81, ↓s_214_82, ↓s_214_85, ↓s_214_86, ↓s_214_89, w32c_40, ↓s_254_0, ↓s_254_1, ↓s_254_4, ↓s_254_7, ↓s_254_8, ↓s_254_9, ↓s_254_10, ↓s_254_13, ↓s_254_14, ↓s_254_15, ↓s_254_18, ↓s_254_21, zar_111, zia_111, zln_111, zit_111, zar_110, zia_110, zln_110, zit_110, zio_95, hf]
    refine ⟨fun _ => num, fun _ => ⟨⟨by omega, by omega⟩, fun _ => num, fun h8 => ?_⟩⟩
    exfalso
    rw [hpt] at h8
    cases y with
    | inl e => exact rTk_f h hf
    | inr l0 =>
      have := (hS.2 ⟨l0, rfl⟩).1
      omega
  · simp only [ynok_30, ynok_31, w32c_0, w32c_1, w32c_2, w32c_3, w32c_4, w32c_5, w32c_6, w32c_7, w32c_8, w32c_9, w32c_10, w32c_11, w32c_12, w32c_13, w32c_14, w32c_m1, w32c_m2, w32c_118, Int.reduceAdd, Int.reduceSub, Int.reduceMul, yput_s, yput_n, znl_n, znl_0, znl_1, znl_4, ysum_n, ysum_0, ysum_1, ysum_4, true_and, and_true, Nat.reduceAdd, Nat.reduceLeDiff, true_implies, eq_self, true_or, or_true, or_false, false_or, not_true_eq_false, not_false_eq_true, false_implies, implies_true, yset_s, yset_o, yset_d, ne_eq, Nat.reduceEqDiff, Int.reduceToNat, Int.reduceEq, Int.reduceLE, Int.reduceLT, Classical.not_not, Nat.reduceLT, ↓zvk_s, ↓zvk_n, ↓s_214_0, ↓s_214_1, ↓s_214_4, ↓s_214_5, ↓s_214_6, ↓g_214_7, ↓k_214_7, ↓s_214_8, ↓s_214_11, ↓s_214_14, ↓s_214_15, ↓s_214_18, ↓s_214_19, ↓s_214_22, ↓s_214_23, ↓s_214_26, ↓s_214_27, ↓s_214_28, ↓s_214_30, ↓s_214_33, ↓s_214_34, ↓s_214_35, ↓s_214_38, ↓s_214_39, ↓s_214_40, ↓s_214_42, ↓s_214_45n, ↓s_214_45i, ↓s_214_45p, ↓s_214_46, ↓s_214_47, ↓s_214_50, ↓s_214_53, ↓s_214_54, ↓s_214_55, ↓s_214_58, ↓s_214_60, ↓s_214_61, ↓s_214_62, ↓s_214_63, ↓s_214_66, ↓s_214_67, ↓s_214_68, ↓s_214_69, ↓s_214_70, ↓s_214_71, ↓s_214_72, ↓s_214_75, ↓s_214_76, ↓s_214_77, ↓s_214_78, ↓s_214_79, ↓s_214_80, ↓s_214_81, ↓s_214_82, ↓s_214_85, ↓s_214_86, ↓s_214_89, w32c_40, ↓s_254_0, ↓s_254_1, ↓s_254_4, ↓s_254_7, ↓s_254_8, ↓s_254_9, ↓s_254_10, ↓s_254_13, ↓s_254_14, ↓s_254_15, ↓s_254_18, ↓s_254_21, zar_111, zia_111, zln_111, zit_111, zar_110, zia_110, zln_110, zit_110, zio_95, hf]
    exact num
theorem rb7 (hE : yEok E) (hd : 7 ≤ d) (hs : s < 12) (hp : w32 p = ((12 + s : Nat) : Int)) : ∀ c (y : sY) (m : yMem) (l : List Int) (z : Option yV), c + 1 + l.length = 8 → rTk ch n m y → RpS b m s y l → (∀ m', rTk ch n m' (pBars (c + 1) y).2 → RpS b m' s (pBars (c + 1) y).2 (l ++ (pBars (c + 1) y).1) → Q none m') → zG E (d + 1) xm_214 7 [some (1, 95), some (0, p), z] [] m Q := by
  intro c
  induction c with
  | zero =>
    intro y m l z hc h hS fin
    have e1 : pBars 1 y = ([(yNm 0 40 y).1], if yKd (yNm 0 40 y).2 = 2 then yFl 2 (yNm 0 40 y).2 else (yNm 0 40 y).2) := rfl
    refine rbS hE hd hs hp (by omega) h hS (fun m' e he g1 g2 => ?_) (fun m' l1 z' he g1 g2 g3 => ?_) (fun m' l1 he g1 g2 g3 => ?_)
    · have e2 := pBars_nm he 0
      exact fin m' (by rw [e2]; exact g2) ⟨g1, fun z => by rw [e2] at z; exact absurd z yOk_in⟩
    · have e2 : (pBars (0 + 1) y).2 = yFl 2 (.inr l1) := by
        show (pBars 1 y).2 = _
        rw [e1, he]
        exact if_pos g3
      refine rb8 hE hd hs hp g1 g3 (by rw [(g2.2 ⟨l1, rfl⟩).1, List.length_append]; show ((l.length + 1 : Nat) : Int) = 8; omega) g2.1 (fun m2 k1 k2 => fin m2 (by rw [e2]; exact k2) ⟨k1, fun z => by rw [e2] at z; exact absurd z yOk_fl⟩)
    · have e2 : pBars (0 + 1) y = ([(yNm 0 40 y).1], .inr l1) := by
        show pBars 1 y = _
        rw [e1, he]
        rw [if_neg (show ¬ yKd (.inr l1) = 2 from g3)]
      exact fin m' (by rw [e2]; exact g1) (by rw [e2]; exact g2)
  | succ c ih =>
    intro y m l z hc h hS fin
    have e1 : pBars (c + 2) y = if yKd (yNm 0 40 y).2 = 2 then ((yNm 0 40 y).1 :: (pBars (c + 1) (yNm 0 40 y).2).1, (pBars (c + 1) (yNm 0 40 y).2).2) else ([(yNm 0 40 y).1], (yNm 0 40 y).2) := rfl
    refine rbS hE hd hs hp (by omega) h hS (fun m' e he g1 g2 => ?_) (fun m' l1 z' he g1 g2 g3 => ?_) (fun m' l1 he g1 g2 g3 => ?_)
    · have e2 := pBars_nm he (c + 1)
      exact fin m' (by rw [e2]; exact g2) ⟨g1, fun z => by rw [e2] at z; exact absurd z yOk_in⟩
    · have e2 : pBars (c + 1 + 1) y = ((yNm 0 40 y).1 :: (pBars (c + 1) (.inr l1)).1, (pBars (c + 1) (.inr l1)).2) := by
        show pBars (c + 2) y = _
        rw [e1, he]
        exact if_pos g3
      refine ih (.inr l1) m' (l ++ [(yNm 0 40 y).1]) z' (by rw [List.length_append]; show c + 1 + (l.length + 1) = 8; omega) g1 g2 (fun m2 k1 k2 => ?_)
      rw [List.append_assoc] at k2
      exact fin m2 (by rw [e2]; exact k1) (by rw [e2]; exact k2)
    · have e2 : pBars (c + 1 + 1) y = ([(yNm 0 40 y).1], .inr l1) := by
        show pBars (c + 2) y = _
        rw [e1, he]
        exact if_neg g3
      exact fin m' (by rw [e2]; exact g1) (by rw [e2]; exact g2)
theorem rf_partLine (hE : yEok E) {D : Nat} (hD : 9 ≤ D) (hs : s < 12) (hp : w32 p = ((12 + s : Nat) : Int)) (h : rTk ch n mem x) (hQ : ∀ m, rTk ch n m (pBars 8 x).2 → RpS mem m s (pBars 8 x).2 (pBars 8 x).1 → Q none m) : yCon E D xm_214 [(1, 95), (0, p)] mem Q := by
  obtain ⟨d, rfl⟩ := Nat.exists_eq_add_of_le' hD
  have hpt : (w32 p).toNat = 12 + s := by rw [hp]; exact Int.toNat_natCast _
  refine e_214 ?_
  refine zvc_ok hE 60 zc_214 _ _ _ _ _ _ _ xmo_214 ?_
  simp only [ynok_30, ynok_31, w32c_0, w32c_1, w32c_2, w32c_3, w32c_4, w32c_5, w32c_6, w32c_7, w32c_8, w32c_9, w32c_10, w32c_11, w32c_12, w32c_13, w32c_14, w32c_m1, w32c_m2, w32c_118, Int.reduceAdd, Int.reduceSub, Int.reduceMul, yput_s, yput_n, znl_n, znl_0, znl_1, znl_4, ysum_n, ysum_0, ysum_1, ysum_4, true_and, and_true, Nat.reduceAdd, Nat.reduceLeDiff, true_implies, eq_self, true_or, or_true, or_false, false_or, not_true_eq_false, not_false_eq_true, false_implies, implies_true, yset_s, yset_o, yset_d, ne_eq, Nat.reduceEqDiff, Int.reduceToNat, Int.reduceEq, Int.reduceLE, Int.reduceLT, Classical.not_not, Nat.reduceLT, ↓zvk_s, ↓zvk_n, ↓s_214_0, ↓s_214_1, ↓s_214_4, ↓s_214_5, ↓s_214_6, ↓g_214_7, ↓k_214_7, ↓s_214_8, ↓s_214_11, ↓s_214_14, ↓s_214_15, ↓s_214_18, ↓s_214_19, ↓s_214_22, ↓s_214_23, ↓s_214_26, ↓s_214_27, ↓s_214_28, ↓s_214_30, ↓s_214_33, ↓s_214_34, ↓s_214_35, ↓s_214_38, ↓s_214_39, ↓s_214_40, ↓s_214_42, ↓s_214_45n, ↓s_214_45i, ↓s_214_45p, ↓s_214_46, ↓s_214_47, ↓s_214_50, ↓s_214_53, ↓s_214_54, ↓s_214_55, ↓s_214_58, ↓s_214_60, ↓s_214_61, ↓s_214_62, ↓s_214_63, ↓s_214_66, ↓s_214_67, ↓s_214_68, ↓s_214_69, ↓s_214_70, ↓s_214_71, ↓s_214_72, ↓s_214_75, ↓s_214_76, ↓s_214_77, ↓s_214_78, ↓s_214_79, ↓s_214_80, ↓s_214_81, ↓s_214_82, ↓s_214_85, ↓s_214_86, ↓s_214_89, w32c_40, zar_111, zia_111, zln_111, zit_111, zar_110, zia_110, zln_110, zit_110, zio_95]
  refine ⟨⟨by omega, by omega⟩, ?_⟩
  rw [hpt]
  exact rb7 (b := mem) hE (by omega) hs hp 7 x _ [] _ rfl (rTk_s h (by decide)) ⟨rpF_fr (fun _ _ _ => rfl) (Or.inr (Or.inl ⟨rfl, rfl⟩)), fun _ => ⟨by rw [yset_s]; exact w32c_0, fun j v hv => by cases hv⟩⟩ hQ
end RF
/-! a verse -/
def rwF (v i j : Nat) : Prop := (i = 111 ∧ (4 + v) * 24 ≤ j ∧ j < (4 + v) * 24 + 24) ∨ (i = 110 ∧ (4 + v) * 3 ≤ j ∧ j < (4 + v) * 3 + 3) ∨ (i = 109 ∧ j = 4 + v) ∨ (i = 97 ∧ j = 9) ∨ (i = 95 ∧ 27 ≤ j ∧ j ≤ 32)
def rPs (m : yMem) (v : Nat) (l : List (List Int)) : Prop := ∀ p q, l[p]? = some q → q.length ≤ 8 ∧ w32 (m 110 (12 + (v * 3 + p))) = (q.length : Int) ∧ ∀ j w, q[j]? = some w → w32 (m 111 ((12 + (v * 3 + p)) * 8 + j)) = w
def RwS (b m : yMem) (v : Nat) (y : sY) (l : List (List Int)) : Prop := (∀ i j, ¬ rwF v i j → m i j = b i j) ∧ m 97 9 = b 97 9 ∧ (yOk y → w32 (m 109 (4 + v)) = (l.length : Int) ∧ rPs m v l)
theorem rwF_fr {b m : yMem} {s i j : Nat} {x : Int} (h : ∀ i j, ¬ rwF s i j → m i j = b i j) (hv : rwF s i j) : ∀ i' j', ¬ rwF s i' j' → yset m i j x i' j' = b i' j' := fun i' j' h' => by
  rw [yset_a]
  split
  · next e1 =>
    rw [if_neg (fun e2 => h' (by rw [e1, e2]; exact hv))]
    exact h i' j' h'
  · exact h i' j' h'
theorem rPs_eq {m m' : yMem} {v : Nat} {l : List (List Int)} (h : rPs m v l) (h5 : ∀ j, m' 110 j = m 110 j) (h6 : ∀ j, m' 111 j = m 111 j) : rPs m' v l := fun p q hq => by
  obtain ⟨h1, h2, h3⟩ := h p q hq
  exact ⟨h1, by rw [h5]; exact h2, fun j w hw => by rw [h6]; exact h3 j w hw⟩
section RG
variable {E : yE} {mem b m : yMem} {Q : Option yV → yMem → Prop} {ch : Nat → Int} {n : Nat} {x y : sY} {d v : Nat} {r : Int} {l : List (List Int)}
/-- no part more -/
theorem vx48 (hE : yEok E) (hb : w32 (b 97 9) = (v : Int)) (hv : v < 4) (hk : ¬ yKd y = 27) (h : rTk ch n m y) (hS : RwS b m v y l) (fin : ∀ m', (∀ i j, ¬ rwF v i j → m' i j = b i j) → rTk ch n m' y → (yOk y → w32 (m' 97 9) = ((v + 1 : Nat) : Int) ∧ w32 (m' 109 (4 + v)) = (l.length : Int) ∧ rPs m' v l) → Q none m') : zG E (d + 1) xm_248 48 [some (1, 95), some (0, r)] [] m Q := by
  refine zgo_ok (n := 60) hE xmo_248 (cs := zc_248) ?_
  have h9 : w32 (m 97 9) = (v : Int) := by rw [hS.2.1]; exact hb
  have e1 : w32 (m 97 9 + 1) = ((v + 1 : Nat) : Int) := by rw [w32_ad (by rw [w32c_1, h9]; omega) (by rw [w32c_1, h9]; omega), w32c_1, h9]; omega
  have f0 : Q none (yset m 97 9 (m 97 9 + 1)) := fin _ (rwF_fr hS.1 (Or.inr (Or.inr (Or.inr (Or.inl ⟨rfl, rfl⟩))))) (rTk_s h (by decide)) (fun z => ⟨by rw [yset_s]; exact e1, by rw [yset_o (by decide)]; exact (hS.2.2 z).1, rPs_eq (hS.2.2 z).2 (fun j => yset_o (by decide)) (fun j => yset_o (by decide))⟩)
  by_cases q1 : w32 (m 95 31) = 0
  · by_cases q2 : w32 (m 95 29) = 0
    · have q3 : ¬ w32 (m 95 30) = 7 := fun z => hk ((rf_isw h (k0 := 27) (by decide) (by decide)).mp ⟨q1, q2, z⟩)
      simp only [ynok_30, ynok_31, w32c_0, w32c_1, w32c_2, w32c_3, w32c_4, w32c_5, w32c_6, w32c_7, w32c_8, w32c_9, w32c_10, w32c_11, w32c_12, w32c_13, w32c_14, w32c_m1, w32c_m2, w32c_118, Int.reduceAdd, Int.reduceSub, Int.reduceMul, yput_s, yput_n, znl_n, znl_0, znl_1, znl_4, ysum_n, ysum_0, ysum_1, ysum_4, true_and, and_true, Nat.reduceAdd, Nat.reduceLeDiff, true_implies, eq_self, true_or, or_true, or_false, false_or, not_true_eq_false, not_false_eq_true, false_implies, implies_true, yset_s, yset_o, yset_d, ne_eq, Nat.reduceEqDiff, Int.reduceToNat, Int.reduceEq, Int.reduceLE, Int.reduceLT, Classical.not_not, Nat.reduceLT, ↓zvk_s, ↓zvk_n, ↓s_248_0, ↓s_248_1, ↓s_248_4, ↓s_248_5, ↓s_248_6, ↓s_248_7, ↓s_248_10, ↓s_248_11, ↓s_248_12, ↓s_248_13, ↓s_248_16, ↓s_248_19, ↓s_248_20, ↓s_248_21, ↓s_248_24, ↓s_248_25, ↓s_248_26, ↓s_248_27, ↓s_248_28, ↓s_248_31, ↓s_248_34, ↓s_248_35, ↓s_248_37, ↓s_248_40, ↓s_248_43, ↓s_248_44, ↓s_248_45, ↓g_248_48, ↓k_248_48, ↓s_248_49, ↓s_248_51, ↓s_248_54, ↓s_248_57, ↓s_248_58, ↓s_248_61, ↓s_248_62, ↓s_248_63, ↓s_248_64, ↓s_248_67, ↓s_248_68, ↓s_248_69, ↓s_248_72, ↓s_248_73, ↓s_248_76, ↓s_248_79, ↓s_248_80, ↓s_248_81, ↓s_248_84, ↓s_248_85, ↓s_248_86, ↓s_248_87, ↓s_248_88, ↓s_248_89, ↓s_248_92, ↓s_248_93, ↓s_248_94, ↓s_248_95, ↓s_248_98, ↓s_248_99, ↓s_248_102, ↓s_248_103, ↓s_248_104, ↓s_248_105, ↓s_248_106, ↓s_248_107, ↓s_248_108, ↓s_248_111, ↓s_248_112, ↓s_248_113, ↓s_248_114, ↓s_248_115, ↓s_248_118, ↓s_248_119, ↓s_248_120, ↓s_248_123, ↓s_254_0, ↓s_254_1, ↓s_254_4, ↓s_254_7, ↓s_254_8, ↓s_254_9, ↓s_254_10, ↓s_254_13, ↓s_254_14, ↓s_254_15, ↓s_254_18, ↓s_254_21, ↓s_198_0, ↓s_198_1, ↓s_198_4, ↓s_198_7, ↓s_198_8, ↓s_198_11, ↓s_198_14, ↓s_198_15, ↓s_198_18, ↓s_198_19, ↓s_198_22, ↓s_198_23, ↓s_198_26, ↓s_198_27, ↓s_173_0, ↓s_173_1, ↓s_173_4, ↓s_173_7, ↓s_173_8, ↓s_173_11, ↓s_170_0, ↓s_170_1, ↓s_170_4, ↓s_170_6, ↓s_170_7, ↓s_170_8, ↓s_170_9, ↓s_221_0, ↓s_221_1, ↓s_221_4, ↓s_221_6, ↓s_221_7, ↓s_221_8, ↓s_221_9, ↓s_221_10, zar_97, zia_97, zln_97, zit_97, zar_108, zia_108, zln_108, zit_108, zar_109, zia_109, zln_109, zit_109, zio_95, q1, q2, q3]
      exact ⟨by omega, by omega, f0⟩
    · simp only [ynok_30, ynok_31, w32c_0, w32c_1, w32c_2, w32c_3, w32c_4, w32c_5, w32c_6, w32c_7, w32c_8, w32c_9, w32c_10, w32c_11, w32c_12, w32c_13, w32c_14, w32c_m1, w32c_m2, w32c_118, Int.reduceAdd, Int.reduceSub, Int.reduceMul, yput_s, yput_n, znl_n, znl_0, znl_1, znl_4, ysum_n, ysum_0, ysum_1, ysum_4, true_and, and_true, Nat.reduceAdd, Nat.reduceLeDiff, true_implies, eq_self, true_or, or_true, or_false, false_or, not_true_eq_false, not_false_eq_true, false_implies, implies_true, yset_s, yset_o, yset_d, ne_eq, Nat.reduceEqDiff, Int.reduceToNat, Int.reduceEq, Int.reduceLE, Int.reduceLT, Classical.not_not, Nat.reduceLT, ↓zvk_s, ↓zvk_n, ↓s_248_0, ↓s_248_1, ↓s_248_4, ↓s_248_5, ↓s_248_6, ↓s_248_7, ↓s_248_10, ↓s_248_11, ↓s_248_12, ↓s_248_13, ↓s_248_16, ↓s_248_19, ↓s_248_20, ↓s_248_21, ↓s_248_24, ↓s_248_25, ↓s_248_26, ↓s_248_27, ↓s_248_28, ↓s_248_31, ↓s_248_34, ↓s_248_35, ↓s_248_37, ↓s_248_40, ↓s_248_43, ↓s_248_44, ↓s_248_45, ↓g_248_48, ↓k_248_48, ↓s_248_49, ↓s_248_51, ↓s_248_54, ↓s_248_57, ↓s_248_58, ↓s_248_61, ↓s_248_62, ↓s_248_63, ↓s_248_64, ↓s_248_67, ↓s_248_68, ↓s_248_69, ↓s_248_72, ↓s_248_73, ↓s_248_76, ↓s_248_79, ↓s_248_80, ↓s_248_81, ↓s_248_84, ↓s_248_85, ↓s_248_86, ↓s_248_87, ↓s_248_88, ↓s_248_89, ↓s_248_92, ↓s_248_93, ↓s_248_94, ↓s_248_95, ↓s_248_98, ↓s_248_99, ↓s_248_102, ↓s_248_103, ↓s_248_104, ↓s_248_105, ↓s_248_106, ↓s_248_107, ↓s_248_108, ↓s_248_111, ↓s_248_112, ↓s_248_113, ↓s_248_114, ↓s_248_115, ↓s_248_118, ↓s_248_119, ↓s_248_120, ↓s_248_123, ↓s_254_0, ↓s_254_1, ↓s_254_4, ↓s_254_7, ↓s_254_8, ↓s_254_9, ↓s_254_10, ↓s_254_13, ↓s_254_14, ↓s_254_15, ↓s_254_18, ↓s_254_21, ↓s_198_0, ↓s_198_1, ↓s_198_4, ↓s_198_7, ↓s_198_8, ↓s_198_11, ↓s_198_14, ↓s_198_15, ↓s_198_18, ↓s_198_19, ↓s_198_22, ↓s_198_23, ↓s_198_26, ↓s_198_27, ↓s_173_0, ↓s_173_1, ↓s_173_4, ↓s_173_7, ↓s_173_8, ↓s_173_11, ↓s_170_0, ↓s_170_1, ↓s_170_4, ↓s_170_6, ↓s_170_7, ↓s_170_8, ↓s_170_9, ↓s_221_0, ↓s_221_1, ↓s_221_4, ↓s_221_6, ↓s_221_7, ↓s_221_8, ↓s_221_9, ↓s_221_10, zar_97, zia_97, zln_97, zit_97, zar_108, zia_108, zln_108, zit_108, zar_109, zia_109, zln_109, zit_109, zio_95, q1, q2]
      exact ⟨by omega, by omega, f0⟩
  · simp only [ynok_30, ynok_31, w32c_0, w32c_1, w32c_2, w32c_3, w32c_4, w32c_5, w32c_6, w32c_7, w32c_8, w32c_9, w32c_10, w32c_11, w32c_12, w32c_13, w32c_14, w32c_m1, w32c_m2, w32c_118, Int.reduceAdd, Int.reduceSub, Int.reduceMul, yput_s, yput_n, znl_n, znl_0, znl_1, znl_4, ysum_n, ysum_0, ysum_1, ysum_4, true_and, and_true, Nat.reduceAdd, Nat.reduceLeDiff, true_implies, eq_self, true_or, or_true, or_false, false_or, not_true_eq_false, not_false_eq_true, false_implies, implies_true, yset_s, yset_o, yset_d, ne_eq, Nat.reduceEqDiff, Int.reduceToNat, Int.reduceEq, Int.reduceLE, Int.reduceLT, Classical.not_not, Nat.reduceLT, ↓zvk_s, ↓zvk_n, ↓s_248_0, ↓s_248_1, ↓s_248_4, ↓s_248_5, ↓s_248_6, ↓s_248_7, ↓s_248_10, ↓s_248_11, ↓s_248_12, ↓s_248_13, ↓s_248_16, ↓s_248_19, ↓s_248_20, ↓s_248_21, ↓s_248_24, ↓s_248_25, ↓s_248_26, ↓s_248_27, ↓s_248_28, ↓s_248_31, ↓s_248_34, ↓s_248_35, ↓s_248_37, ↓s_248_40, ↓s_248_43, ↓s_248_44, ↓s_248_45, ↓g_248_48, ↓k_248_48, ↓s_248_49, ↓s_248_51, ↓s_248_54, ↓s_248_57, ↓s_248_58, ↓s_248_61, ↓s_248_62, ↓s_248_63, ↓s_248_64, ↓s_248_67, ↓s_248_68, ↓s_248_69, ↓s_248_72, ↓s_248_73, ↓s_248_76, ↓s_248_79, ↓s_248_80, ↓s_248_81, ↓s_248_84, ↓s_248_85, ↓s_248_86, ↓s_248_87, ↓s_248_88, ↓s_248_89, ↓s_248_92, ↓s_248_93, ↓s_248_94, ↓s_248_95, ↓s_248_98, ↓s_248_99, ↓s_248_102, ↓s_248_103, ↓s_248_104, ↓s_248_105, ↓s_248_106, ↓s_248_107, ↓s_248_108, ↓s_248_111, ↓s_248_112, ↓s_248_113, ↓s_248_114, ↓s_248_115, ↓s_248_118, ↓s_248_119, ↓s_248_120, ↓s_248_123, ↓s_254_0, ↓s_254_1, ↓s_254_4, ↓s_254_7, ↓s_254_8, ↓s_254_9, ↓s_254_10, ↓s_254_13, ↓s_254_14, ↓s_254_15, ↓s_254_18, ↓s_254_21, ↓s_198_0, ↓s_198_1, ↓s_198_4, ↓s_198_7, ↓s_198_8, ↓s_198_11, ↓s_198_14, ↓s_198_15, ↓s_198_18, ↓s_198_19, ↓s_198_22, ↓s_198_23, ↓s_198_26, ↓s_198_27, ↓s_173_0, ↓s_173_1, ↓s_173_4, ↓s_173_7, ↓s_173_8, ↓s_173_11, ↓s_170_0, ↓s_170_1, ↓s_170_4, ↓s_170_6, ↓s_170_7, ↓s_170_8, ↓s_170_9, ↓s_221_0, ↓s_221_1, ↓s_221_4, ↓s_221_6, ↓s_221_7, ↓s_221_8, ↓s_221_9, ↓s_221_10, zar_97, zia_97, zln_97, zit_97, zar_108, zia_108, zln_108, zit_108, zar_109, zia_109, zln_109, zit_109, zio_95, q1]
    exact ⟨by omega, by omega, f0⟩
/-- a fourth part -/
theorem vl3 (hE : yEok E) (hv : v < 4) (hr : w32 r = ((4 + v : Nat) : Int)) (hk : yKd y = 27) (h : rTk ch n m y) (h3 : w32 (m 109 (4 + v)) = 3) (hF : ∀ i j, ¬ rwF v i j → m i j = b i j) (fin : ∀ m', (∀ i j, ¬ rwF v i j → m' i j = b i j) → rTk ch n m' (yFl 2 y) → Q none m') : zG E (d + 1) xm_248 48 [some (1, 95), some (0, r)] [] m Q := by
  have hrt : (w32 r).toNat = 4 + v := by rw [hr]; exact Int.toNat_natCast _
  refine zgo_ok (n := 60) hE xmo_248 (cs := zc_248) ?_
  obtain ⟨q1, q2, q3⟩ := (rf_isw h (k0 := 27) (by decide) (by decide)).mpr hk
  have q3 : w32 (m 95 30) = 7 := q3
  simp only [ynok_30, ynok_31, w32c_0, w32c_1, w32c_2, w32c_3, w32c_4, w32c_5, w32c_6, w32c_7, w32c_8, w32c_9, w32c_10, w32c_11, w32c_12, w32c_13, w32c_14, w32c_m1, w32c_m2, w32c_118, Int.reduceAdd, Int.reduceSub, Int.reduceMul, yput_s, yput_n, znl_n, znl_0, znl_1, znl_4, ysum_n, ysum_0, ysum_1, ysum_4, true_and, and_true, Nat.reduceAdd, Nat.reduceLeDiff, true_implies, eq_self, true_or, or_true, or_false, false_or, not_true_eq_false, not_false_eq_true, false_implies, implies_true, yset_s, yset_o, yset_d, ne_eq, Nat.reduceEqDiff, Int.reduceToNat, Int.reduceEq, Int.reduceLE, Int.reduceLT, Classical.not_not, Nat.reduceLT, ↓zvk_s, ↓zvk_n, ↓s_248_0, ↓s_248_1, ↓s_248_4, ↓s_248_5, ↓s_248_6, ↓s_248_7, ↓s_248_10, ↓s_248_11, ↓s_248_12, ↓s_248_13, ↓s_248_16, ↓s_248_19, ↓s_248_20, ↓s_248_21, ↓s_248_24, ↓s_248_25, ↓s_248_26, ↓s_248_27, ↓s_248_28, ↓s_248_31, ↓s_248_34, ↓s_248_35, ↓s_248_37, ↓s_248_40, ↓s_248_43, ↓s_248_44, ↓s_248_45, ↓g_248_48, ↓k_248_48, ↓s_248_49, ↓s_248_51, ↓s_248_54, ↓s_248_57, ↓s_248_58, ↓s_248_61, ↓s_248_62, ↓s_248_63, ↓s_248_64, ↓s_248_67, ↓s_248_68, ↓s_248_69, ↓s_248_72, ↓s_248_73, ↓s_248_76, ↓s_248_79, ↓s_248_80, ↓s_248_81, ↓s_248_84, ↓s_248_85, ↓s_248_86, ↓s_248_87, ↓s_248_88, ↓s_248_89, ↓s_248_92, ↓s_248_93, ↓s_248_94, ↓s_248_95, ↓s_248_98, ↓s_248_99, ↓s_248_102, ↓s_248_103, ↓s_248_104, ↓s_248_105, ↓s_248_106, ↓s_248_107, ↓s_248_108, ↓s_248_111, ↓s_248_112, ↓s_248_113, ↓s_248_114, ↓s_248_115, ↓s_248_118, ↓s_248_119, ↓s_248_120, ↓s_248_123, ↓s_254_0, ↓s_254_1, ↓s_254_4, ↓s_254_7, ↓s_254_8, ↓s_254_9, ↓s_254_10, ↓s_254_13, ↓s_254_14, ↓s_254_15, ↓s_254_18, ↓s_254_21, ↓s_198_0, ↓s_198_1, ↓s_198_4, ↓s_198_7, ↓s_198_8, ↓s_198_11, ↓s_198_14, ↓s_198_15, ↓s_198_18, ↓s_198_19, ↓s_198_22, ↓s_198_23, ↓s_198_26, ↓s_198_27, ↓s_173_0, ↓s_173_1, ↓s_173_4, ↓s_173_7, ↓s_173_8, ↓s_173_11, ↓s_170_0, ↓s_170_1, ↓s_170_4, ↓s_170_6, ↓s_170_7, ↓s_170_8, ↓s_170_9, ↓s_221_0, ↓s_221_1, ↓s_221_4, ↓s_221_6, ↓s_221_7, ↓s_221_8, ↓s_221_9, ↓s_221_10, zar_97, zia_97, zln_97, zit_97, zar_108, zia_108, zln_108, zit_108, zar_109, zia_109, zln_109, zit_109, zio_95, q1, q2, q3]
  rw [hrt]
  refine ⟨⟨by omega, by omega⟩, fun z => absurd h3 z, fun _ => ?_⟩
  obtain ⟨l, rfl⟩ := yOk_kd (x := y) (by omega)
  obtain ⟨G1, G2⟩ := rf_wr (f := 2) (F := 2) h (by decide) (by decide)
  exact fin _ (fun i j hv => by rw [G1 i j (amod_r (fun z => hv (Or.inr (Or.inr (Or.inr (Or.inr z))))))]; exact hF i j hv) G2
/-- one part more -/
theorem vlS (hE : yEok E) (hd : 8 ≤ d) (hv : v < 4) (hr : w32 r = ((4 + v : Nat) : Int)) (hl : l.length ≤ 2) (hk : yKd y = 27) (h : rTk ch n m y) (hS : RwS b m v y l) (f : ∀ m', rTk ch n m' (pPt y).2 → RwS b m' v (pPt y).2 (l ++ [(pPt y).1]) → zG E (d + 1) xm_248 48 [some (1, 95), some (0, r)] [] m' Q) : zG E (d + 1) xm_248 48 [some (1, 95), some (0, r)] [] m Q := by
  have hrt : (w32 r).toNat = 4 + v := by rw [hr]; exact Int.toNat_natCast _
  have hy := yOk_kd (x := y) (by omega)
  obtain ⟨c1, c2⟩ := hS.2.2 hy
  refine zgo_ok (n := 60) hE xmo_248 (cs := zc_248) ?_
  obtain ⟨q1, q2, q3⟩ := (rf_isw h (k0 := 27) (by decide) (by decide)).mpr hk
  have q3 : w32 (m 95 30) = 7 := q3
  simp only [ynok_30, ynok_31, w32c_0, w32c_1, w32c_2, w32c_3, w32c_4, w32c_5, w32c_6, w32c_7, w32c_8, w32c_9, w32c_10, w32c_11, w32c_12, w32c_13, w32c_14, w32c_m1, w32c_m2, w32c_118, Int.reduceAdd, Int.reduceSub, Int.reduceMul, yput_s, yput_n, znl_n, znl_0, znl_1, znl_4, ysum_n, ysum_0, ysum_1, ysum_4, true_and, and_true, Nat.reduceAdd, Nat.reduceLeDiff, true_implies, eq_self, true_or, or_true, or_false, false_or, not_true_eq_false, not_false_eq_true, false_implies, implies_true, yset_s, yset_o, yset_d, ne_eq, Nat.reduceEqDiff, Int.reduceToNat, Int.reduceEq, Int.reduceLE, Int.reduceLT, Classical.not_not, Nat.reduceLT, ↓zvk_s, ↓zvk_n, ↓s_248_0, ↓s_248_1, ↓s_248_4, ↓s_248_5, ↓s_248_6, ↓s_248_7, ↓s_248_10, ↓s_248_11, ↓s_248_12, ↓s_248_13, ↓s_248_16, ↓s_248_19, ↓s_248_20, ↓s_248_21, ↓s_248_24, ↓s_248_25, ↓s_248_26, ↓s_248_27, ↓s_248_28, ↓s_248_31, ↓s_248_34, ↓s_248_35, ↓s_248_37, ↓s_248_40, ↓s_248_43, ↓s_248_44, ↓s_248_45, ↓g_248_48, ↓k_248_48, ↓s_248_49, ↓s_248_51, ↓s_248_54, ↓s_248_57, ↓s_248_58, ↓s_248_61, ↓s_248_62, ↓s_248_63, ↓s_248_64, ↓s_248_67, ↓s_248_68, ↓s_248_69, ↓s_248_72, ↓s_248_73, ↓s_248_76, ↓s_248_79, ↓s_248_80, ↓s_248_81, ↓s_248_84, ↓s_248_85, ↓s_248_86, ↓s_248_87, ↓s_248_88, ↓s_248_89, ↓s_248_92, ↓s_248_93, ↓s_248_94, ↓s_248_95, ↓s_248_98, ↓s_248_99, ↓s_248_102, ↓s_248_103, ↓s_248_104, ↓s_248_105, ↓s_248_106, ↓s_248_107, ↓s_248_108, ↓s_248_111, ↓s_248_112, ↓s_248_113, ↓s_248_114, ↓s_248_115, ↓s_248_118, ↓s_248_119, ↓s_248_120, ↓s_248_123, ↓s_254_0, ↓s_254_1, ↓s_254_4, ↓s_254_7, ↓s_254_8, ↓s_254_9, ↓s_254_10, ↓s_254_13, ↓s_254_14, ↓s_254_15, ↓s_254_18, ↓s_254_21, ↓s_198_0, ↓s_198_1, ↓s_198_4, ↓s_198_7, ↓s_198_8, ↓s_198_11, ↓s_198_14, ↓s_198_15, ↓s_198_18, ↓s_198_19, ↓s_198_22, ↓s_198_23, ↓s_198_26, ↓s_198_27, ↓s_173_0, ↓s_173_1, ↓s_173_4, ↓s_173_7, ↓s_173_8, ↓s_173_11, ↓s_170_0, ↓s_170_1, ↓s_170_4, ↓s_170_6, ↓s_170_7, ↓s_170_8, ↓s_170_9, ↓s_221_0, ↓s_221_1, ↓s_221_4, ↓s_221_6, ↓s_221_7, ↓s_221_8, ↓s_221_9, ↓s_221_10, zar_97, zia_97, zln_97, zit_97, zar_108, zia_108, zln_108, zit_108, zar_109, zia_109, zln_109, zit_109, zio_95, q1, q2, q3]
  rw [hrt]
  refine ⟨⟨by omega, by omega⟩, fun _ => ?_, fun z => absurd z (by omega)⟩
  have ept : pPt y = pBars 8 (yNx y) := by unfold pPt; rw [if_pos hk]
  obtain ⟨l0, rfl⟩ := hy
  refine rf_token hE (by omega) h (fun m1 F1 T1 => ?_)
  refine zgk_n hE xmo_173 60 [] ?_
  have b109 : m1 109 (4 + v) = m 109 (4 + v) := F1 109 _ (amod_sub (w := tkF) (w' := rnF) (by decide) (amod_r5 (by decide)))
  have e3 : w32 (3 * r) = 3 * w32 r := w32_k (by decide) (by omega) (by omega)
  have ep : w32 (3 * r + m 109 (4 + v)) = ((12 + (v * 3 + l.length) : Nat) : Int) := by rw [w32_ad (by rw [e3]; omega) (by rw [e3]; omega), e3]; omega
  have ei : w32 (m 109 (4 + v) + 1) = ((l.length + 1 : Nat) : Int) := by rw [w32_ad (by rw [w32c_1]; omega) (by rw [w32c_1]; omega), w32c_1]; omega
  simp only [ynok_30, ynok_31, w32c_0, w32c_1, w32c_2, w32c_3, w32c_4, w32c_5, w32c_6, w32c_7, w32c_8, w32c_9, w32c_10, w32c_11, w32c_12, w32c_13, w32c_14, w32c_m1, w32c_m2, w32c_118, Int.reduceAdd, Int.reduceSub, Int.reduceMul, yput_s, yput_n, znl_n, znl_0, znl_1, znl_4, ysum_n, ysum_0, ysum_1, ysum_4, true_and, and_true, Nat.reduceAdd, Nat.reduceLeDiff, true_implies, eq_self, true_or, or_true, or_false, false_or, not_true_eq_false, not_false_eq_true, false_implies, implies_true, yset_s, yset_o, yset_d, ne_eq, Nat.reduceEqDiff, Int.reduceToNat, Int.reduceEq, Int.reduceLE, Int.reduceLT, Classical.not_not, Nat.reduceLT, ↓zvk_s, ↓zvk_n, ↓s_248_0, ↓s_248_1, ↓s_248_4, ↓s_248_5, ↓s_248_6, ↓s_248_7, ↓s_248_10, ↓s_248_11, ↓s_248_12, ↓s_248_13, ↓s_248_16, ↓s_248_19, ↓s_248_20, ↓s_248_21, ↓s_248_24, ↓s_248_25, ↓s_248_26, ↓s_248_27, ↓s_248_28, ↓s_248_31, ↓s_248_34, ↓s_248_35, ↓s_248_37, ↓s_248_40, ↓s_248_43, ↓s_248_44, ↓s_248_45, ↓g_248_48, ↓k_248_48, ↓s_248_49, ↓s_248_51, ↓s_248_54, ↓s_248_57, ↓s_248_58, ↓s_248_61, ↓s_248_62, ↓s_248_63, ↓s_248_64, ↓s_248_67, ↓s_248_68, ↓s_248_69, ↓s_248_72, ↓s_248_73, ↓s_248_76, ↓s_248_79, ↓s_248_80, ↓s_248_81, ↓s_248_84, ↓s_248_85, ↓s_248_86, ↓s_248_87, ↓s_248_88, ↓s_248_89, ↓s_248_92, ↓s_248_93, ↓s_248_94, ↓s_248_95, ↓s_248_98, ↓s_248_99, ↓s_248_102, ↓s_248_103, ↓s_248_104, ↓s_248_105, ↓s_248_106, ↓s_248_107, ↓s_248_108, ↓s_248_111, ↓s_248_112, ↓s_248_113, ↓s_248_114, ↓s_248_115, ↓s_248_118, ↓s_248_119, ↓s_248_120, ↓s_248_123, ↓s_173_0, ↓s_173_1, ↓s_173_4, ↓s_173_7, ↓s_173_8, ↓s_173_11, zar_108, zia_108, zln_108, zit_108, zar_109, zia_109, zln_109, zit_109, zio_95]
  rw [hrt, b109]
  refine ⟨⟨by omega, by omega⟩, ?_⟩
  refine rf_partLine hE (by omega) (s := v * 3 + l.length) (by omega) ep (x := yNx (.inr l0)) T1 (fun m2 T2 P2 => ?_)
  rw [← ept] at T2 P2
  refine zgk_n hE xmo_248 60 zc_248 ?_
  simp only [ynok_30, ynok_31, w32c_0, w32c_1, w32c_2, w32c_3, w32c_4, w32c_5, w32c_6, w32c_7, w32c_8, w32c_9, w32c_10, w32c_11, w32c_12, w32c_13, w32c_14, w32c_m1, w32c_m2, w32c_118, Int.reduceAdd, Int.reduceSub, Int.reduceMul, yput_s, yput_n, znl_n, znl_0, znl_1, znl_4, ysum_n, ysum_0, ysum_1, ysum_4, true_and, and_true, Nat.reduceAdd, Nat.reduceLeDiff, true_implies, eq_self, true_or, or_true, or_false, false_or, not_true_eq_false, not_false_eq_true, false_implies, implies_true, yset_s, yset_o, yset_d, ne_eq, Nat.reduceEqDiff, Int.reduceToNat, Int.reduceEq, Int.reduceLE, Int.reduceLT, Classical.not_not, Nat.reduceLT, ↓zvk_s, ↓zvk_n, ↓s_248_0, ↓s_248_1, ↓s_248_4, ↓s_248_5, ↓s_248_6, ↓s_248_7, ↓s_248_10, ↓s_248_11, ↓s_248_12, ↓s_248_13, ↓s_248_16, ↓s_248_19, ↓s_248_20, ↓s_248_21, ↓s_248_24, ↓s_248_25, ↓s_248_26, ↓s_248_27, ↓s_248_28, ↓s_248_31, ↓s_248_34, ↓s_248_35, ↓s_248_37, ↓s_248_40, ↓s_248_43, ↓s_248_44, ↓s_248_45, ↓g_248_48, ↓k_248_48, ↓s_248_49, ↓s_248_51, ↓s_248_54, ↓s_248_57, ↓s_248_58, ↓s_248_61, ↓s_248_62, ↓s_248_63, ↓s_248_64, ↓s_248_67, ↓s_248_68, ↓s_248_69, ↓s_248_72, ↓s_248_73, ↓s_248_76, ↓s_248_79, ↓s_248_80, ↓s_248_81, ↓s_248_84, ↓s_248_85, ↓s_248_86, ↓s_248_87, ↓s_248_88, ↓s_248_89, ↓s_248_92, ↓s_248_93, ↓s_248_94, ↓s_248_95, ↓s_248_98, ↓s_248_99, ↓s_248_102, ↓s_248_103, ↓s_248_104, ↓s_248_105, ↓s_248_106, ↓s_248_107, ↓s_248_108, ↓s_248_111, ↓s_248_112, ↓s_248_113, ↓s_248_114, ↓s_248_115, ↓s_248_118, ↓s_248_119, ↓s_248_120, ↓s_248_123, zar_108, zia_108, zln_108, zit_108, zar_109, zia_109, zln_109, zit_109, zio_95]
  have c109 : m2 109 (4 + v) = m 109 (4 + v) := by rw [P2.1 109 _ (by unfold rpF; omega)]; exact b109
  rw [hrt, c109]
  refine ⟨⟨by omega, by omega⟩, ⟨by omega, by omega⟩, f _ (rTk_s T2 (by decide)) ⟨fun i j hw => ?_, ?_, fun z => ⟨?_, fun p q hq => ?_⟩⟩⟩
  · have k1 : yset m2 109 (4 + v) (m 109 (4 + v) + 1) i j = m2 i j := by
      rw [yset_a]
      split
      · next e1 => rw [if_neg (fun e2 => hw (Or.inr (Or.inr (Or.inl ⟨e1, e2⟩))))]
      · rfl
    rw [k1, P2.1 i j (fun hp => hw (by unfold rpF at hp; unfold rwF; omega)), F1 i j (amod_sub (w := tkF) (w' := rnF) (by decide) (amod_r (fun z => hw (Or.inr (Or.inr (Or.inr (Or.inr z)))))))]
    exact hS.1 i j hw
  · rw [yset_o (by decide), P2.1 97 9 (by unfold rpF; omega), F1 97 9 rfl]
    exact hS.2.1
  · rw [yset_s, ei, List.length_append]
    rfl
  · rcases app_get hq with hq | ⟨rfl, rfl⟩
    · have hp := get_lt hq
      obtain ⟨h1, h2, h3⟩ := c2 p q hq
      refine ⟨h1, by rw [yset_o (by decide), P2.1 110 _ (by unfold rpF; omega), F1 110 _ (amod_sub (w := tkF) (w' := rnF) (by decide) (amod_r5 (by decide)))]; exact h2, fun j w hw => ?_⟩
      have hj := get_lt hw
      rw [yset_o (by decide), P2.1 111 _ (by unfold rpF; omega), F1 111 _ (amod_sub (w := tkF) (w' := rnF) (by decide) (amod_r5 (by decide)))]
      exact h3 j w hw
    · obtain ⟨g1, g2⟩ := P2.2 z
      exact ⟨pPt_len _, by rw [yset_o (by decide)]; exact g1, fun j w hw => by rw [yset_o (by decide)]; exact g2 j w hw⟩
theorem vl48 (hE : yEok E) (hd : 8 ≤ d) (hb : w32 (b 97 9) = (v : Int)) (hv : v < 4) (hr : w32 r = ((4 + v : Nat) : Int)) : ∀ c (y : sY) (m : yMem) (l : List (List Int)), c + 1 + l.length = 3 → yKd y = 27 → rTk ch n m y → RwS b m v y l → (∀ m', (∀ i j, ¬ rwF v i j → m' i j = b i j) → rTk ch n m' (pPts (c + 1) y).2 → (yOk (pPts (c + 1) y).2 → w32 (m' 97 9) = ((v + 1 : Nat) : Int) ∧ w32 (m' 109 (4 + v)) = ((l ++ (pPts (c + 1) y).1).length : Int) ∧ rPs m' v (l ++ (pPts (c + 1) y).1)) → Q none m') → zG E (d + 1) xm_248 48 [some (1, 95), some (0, r)] [] m Q := by
  intro c
  induction c with
  | zero =>
    intro y m l hc hk h hS fin
    have e1 : pPts (0 + 1) y = ([(pPt y).1], if yKd (pPt y).2 = 27 then yFl 2 (pPt y).2 else (pPt y).2) := rfl
    rw [e1] at fin
    refine vlS hE hd hv hr (by omega) hk h hS (fun m' g1 g2 => ?_)
    by_cases hk' : yKd (pPt y).2 = 27
    · rw [if_pos hk'] at fin
      exact vl3 hE hv hr hk' g1 (by rw [(g2.2.2 (yOk_kd (by omega))).1, List.length_append]; show ((l.length + 1 : Nat) : Int) = 3; omega) g2.1 (fun m2 k1 k2 => fin m2 k1 k2 (fun z => absurd z yOk_fl))
    · rw [if_neg hk'] at fin
      exact vx48 hE hb hv hk' g1 g2 fin
  | succ c ih =>
    intro y m l hc hk h hS fin
    have e1 : pPts (c + 1 + 1) y = if yKd (pPt y).2 = 27 then ((pPt y).1 :: (pPts (c + 1) (pPt y).2).1, (pPts (c + 1) (pPt y).2).2) else ([(pPt y).1], (pPt y).2) := rfl
    rw [e1] at fin
    refine vlS hE hd hv hr (by omega) hk h hS (fun m' g1 g2 => ?_)
    by_cases hk' : yKd (pPt y).2 = 27
    · rw [if_pos hk'] at fin
      refine ih (pPt y).2 m' (l ++ [(pPt y).1]) (by rw [List.length_append]; show c + 1 + (l.length + 1) = 3; omega) hk' g1 g2 (fun m2 k1 k2 k3 => ?_)
      rw [List.append_assoc] at k3
      exact fin m2 k1 k2 k3
    · rw [if_neg hk'] at fin
      exact vx48 hE hb hv hk' g1 g2 fin
/-- THE REFERENCE'S verseLine -/
theorem rf_verseLine (hE : yEok E) {D : Nat} (hD : 11 ≤ D) {nm : List Int} (hl : nm.length < 4) (hr : w32 r = ((4 + nm.length : Nat) : Int)) (hV : rNm mem 108 2 4 nm) (h : rTk ch n mem x) (hQ : ∀ m, (∀ i j, ¬ (rwF nm.length i j ∨ (i = 108 ∧ j = 4 + nm.length)) → m i j = mem i j) → rTk ch n m (pPts 3 (yFr nm x)).2 → (yOk (pPts 3 (yFr nm x)).2 → w32 (m 97 9) = ((nm.length + 1 : Nat) : Int) ∧ w32 (m 108 (4 + nm.length)) = yVl x ∧ w32 (m 109 (4 + nm.length)) = ((pPts 3 (yFr nm x)).1.length : Int) ∧ rPs m nm.length (pPts 3 (yFr nm x)).1) → Q none m) : yCon E D xm_248 [(1, 95), (0, r)] mem Q := by
  obtain ⟨d, rfl⟩ := Nat.exists_eq_add_of_le' hD
  have hrt : (w32 r).toNat = 4 + nm.length := by rw [hr]; exact Int.toNat_natCast _
  refine e_248 ?_
  refine zvc_ok hE 60 zc_248 _ _ _ _ _ _ _ xmo_248 ?_
  simp only [ynok_30, ynok_31, w32c_0, w32c_1, w32c_2, w32c_3, w32c_4, w32c_5, w32c_6, w32c_7, w32c_8, w32c_9, w32c_10, w32c_11, w32c_12, w32c_13, w32c_14, w32c_m1, w32c_m2, w32c_118, Int.reduceAdd, Int.reduceSub, Int.reduceMul, yput_s, yput_n, znl_n, znl_0, znl_1, znl_4, ysum_n, ysum_0, ysum_1, ysum_4, true_and, and_true, Nat.reduceAdd, Nat.reduceLeDiff, true_implies, eq_self, true_or, or_true, or_false, false_or, not_true_eq_false, not_false_eq_true, false_implies, implies_true, yset_s, yset_o, yset_d, ne_eq, Nat.reduceEqDiff, Int.reduceToNat, Int.reduceEq, Int.reduceLE, Int.reduceLT, Classical.not_not, Nat.reduceLT, ↓zvk_s, ↓zvk_n, ↓s_248_0, ↓s_248_1, ↓s_248_4, ↓s_248_5, ↓s_248_6, ↓s_248_7, ↓s_248_10, ↓s_248_11, ↓s_248_12, ↓s_248_13, ↓s_248_16, ↓s_248_19, ↓s_248_20, ↓s_248_21, ↓s_248_24, ↓s_248_25, ↓s_248_26, ↓s_248_27, ↓s_248_28, ↓s_248_31, ↓s_248_34, ↓s_248_35, ↓s_248_37, ↓s_248_40, ↓s_248_43, ↓s_248_44, ↓s_248_45, ↓g_248_48, ↓k_248_48, ↓s_248_49, ↓s_248_51, ↓s_248_54, ↓s_248_57, ↓s_248_58, ↓s_248_61, ↓s_248_62, ↓s_248_63, ↓s_248_64, ↓s_248_67, ↓s_248_68, ↓s_248_69, ↓s_248_72, ↓s_248_73, ↓s_248_76, ↓s_248_79, ↓s_248_80, ↓s_248_81, ↓s_248_84, ↓s_248_85, ↓s_248_86, ↓s_248_87, ↓s_248_88, ↓s_248_89, ↓s_248_92, ↓s_248_93, ↓s_248_94, ↓s_248_95, ↓s_248_98, ↓s_248_99, ↓s_248_102, ↓s_248_103, ↓s_248_104, ↓s_248_105, ↓s_248_106, ↓s_248_107, ↓s_248_108, ↓s_248_111, ↓s_248_112, ↓s_248_113, ↓s_248_114, ↓s_248_115, ↓s_248_118, ↓s_248_119, ↓s_248_120, ↓s_248_123, ↓s_170_0, ↓s_170_1, ↓s_170_4, ↓s_170_6, ↓s_170_7, ↓s_170_8, ↓s_170_9, zar_97, zia_97, zln_97, zit_97, zar_108, zia_108, zln_108, zit_108, zar_109, zia_109, zln_109, zit_109, zio_95]
  refine ⟨by omega, ?_⟩
  refine rf_fresh hE (by omega) (z := 108) (L := 8) (q := 2) (off := 4) zar_108 w32c_4 hV.1 (by decide) (by decide) hV h (fun r1 m1 F1 T1 e1 => ?_)
  refine zgk_s hE xmo_248 60 zc_248 ?_
  have b9 : w32 (yset (yset m1 108 (4 + nm.length) r1) 109 (4 + nm.length) 0 97 9) = (nm.length : Int) := by rw [yset_o (by decide), yset_o (by decide), F1 97 9 rfl]; exact hV.1
  have e28 : yset (yset m1 108 (4 + nm.length) r1) 109 (4 + nm.length) 0 95 28 = m1 95 28 := by rw [yset_o (by decide), yset_o (by decide)]
  have T2 : rTk ch n (yset (yset m1 108 (4 + nm.length) r1) 109 (4 + nm.length) 0) (yFr nm x) := rTk_s (rTk_s T1 (by decide)) (by decide)
  have fr : ∀ m : yMem, (∀ i j, ¬ rwF nm.length i j → m i j = yset (yset m1 108 (4 + nm.length) r1) 109 (4 + nm.length) 0 i j) → ∀ i j, ¬ (rwF nm.length i j ∨ (i = 108 ∧ j = 4 + nm.length)) → m i j = mem i j := fun m hm i j hij => by
    rw [hm i j (fun z => hij (Or.inl z))]
    have q1 : ¬ (i = 109 ∧ j = 4 + nm.length) := fun z => hij (Or.inl (Or.inr (Or.inr (Or.inl z))))
    have q2 : ¬ (i = 108 ∧ j = 4 + nm.length) := fun z => hij (Or.inr z)
    have q3 : ¬ (i = 95 ∧ 27 ≤ j ∧ j ≤ 32) := fun z => hij (Or.inl (Or.inr (Or.inr (Or.inr (Or.inr z)))))
    rw [yset_n2 q1, yset_n2 q2]
    exact F1 i j (amod_r q3)
  have nam : ∀ m : yMem, yOk (yFr nm x) → (∀ i j, ¬ rwF nm.length i j → m i j = yset (yset m1 108 (4 + nm.length) r1) 109 (4 + nm.length) 0 i j) → w32 (m 108 (4 + nm.length)) = yVl x := fun m hy hm => by
    rw [hm 108 _ (by unfold rwF; omega), yset_o (by decide), yset_s]
    obtain ⟨l, hl⟩ := hy
    exact e1 l hl
  have S2 : ∀ m : yMem, (∀ i j, ¬ (i = 95 ∧ 27 ≤ j ∧ j ≤ 32) → m i j = yset (yset m1 108 (4 + nm.length) r1) 109 (4 + nm.length) 0 i j) → ∀ y, RwS (yset (yset m1 108 (4 + nm.length) r1) 109 (4 + nm.length) 0) m nm.length y [] := fun m hm y => ⟨fun i j hw => hm i j (fun z => hw (Or.inr (Or.inr (Or.inr (Or.inr z))))), hm 97 9 (by omega), fun _ => ⟨by rw [hm 109 _ (by omega), yset_s]; exact w32c_0, fun p q hq => by cases hq⟩⟩
  revert T1 T2 hQ nam
  generalize yFr nm x = y
  intro hQ T1 T2 nam
  by_cases hk : yKd y = 27
  · obtain ⟨q1, q2, q3⟩ := (rf_isw T1 (k0 := 27) (by decide) (by decide)).mpr hk
    have q3 : w32 (m1 95 30) = 7 := q3
    simp only [ynok_30, ynok_31, w32c_0, w32c_1, w32c_2, w32c_3, w32c_4, w32c_5, w32c_6, w32c_7, w32c_8, w32c_9, w32c_10, w32c_11, w32c_12, w32c_13, w32c_14, w32c_m1, w32c_m2, w32c_118, Int.reduceAdd, Int.reduceSub, Int.reduceMul, yput_s, yput_n, znl_n, znl_0, znl_1, znl_4, ysum_n, ysum_0, ysum_1, ysum_4, true_and, and_true, Nat.reduceAdd, Nat.reduceLeDiff, true_implies, eq_self, true_or, or_true, or_false, false_or, not_true_eq_false, not_false_eq_true, false_implies, implies_true, yset_s, yset_o, yset_d, ne_eq, Nat.reduceEqDiff, Int.reduceToNat, Int.reduceEq, Int.reduceLE, Int.reduceLT, Classical.not_not, Nat.reduceLT, ↓zvk_s, ↓zvk_n, ↓s_248_0, ↓s_248_1, ↓s_248_4, ↓s_248_5, ↓s_248_6, ↓s_248_7, ↓s_248_10, ↓s_248_11, ↓s_248_12, ↓s_248_13, ↓s_248_16, ↓s_248_19, ↓s_248_20, ↓s_248_21, ↓s_248_24, ↓s_248_25, ↓s_248_26, ↓s_248_27, ↓s_248_28, ↓s_248_31, ↓s_248_34, ↓s_248_35, ↓s_248_37, ↓s_248_40, ↓s_248_43, ↓s_248_44, ↓s_248_45, ↓g_248_48, ↓k_248_48, ↓s_248_49, ↓s_248_51, ↓s_248_54, ↓s_248_57, ↓s_248_58, ↓s_248_61, ↓s_248_62, ↓s_248_63, ↓s_248_64, ↓s_248_67, ↓s_248_68, ↓s_248_69, ↓s_248_72, ↓s_248_73, ↓s_248_76, ↓s_248_79, ↓s_248_80, ↓s_248_81, ↓s_248_84, ↓s_248_85, ↓s_248_86, ↓s_248_87, ↓s_248_88, ↓s_248_89, ↓s_248_92, ↓s_248_93, ↓s_248_94, ↓s_248_95, ↓s_248_98, ↓s_248_99, ↓s_248_102, ↓s_248_103, ↓s_248_104, ↓s_248_105, ↓s_248_106, ↓s_248_107, ↓s_248_108, ↓s_248_111, ↓s_248_112, ↓s_248_113, ↓s_248_114, ↓s_248_115, ↓s_248_118, ↓s_248_119, ↓s_248_120, ↓s_248_123, ↓s_254_0, ↓s_254_1, ↓s_254_4, ↓s_254_7, ↓s_254_8, ↓s_254_9, ↓s_254_10, ↓s_254_13, ↓s_254_14, ↓s_254_15, ↓s_254_18, ↓s_254_21, ↓s_198_0, ↓s_198_1, ↓s_198_4, ↓s_198_7, ↓s_198_8, ↓s_198_11, ↓s_198_14, ↓s_198_15, ↓s_198_18, ↓s_198_19, ↓s_198_22, ↓s_198_23, ↓s_198_26, ↓s_198_27, zar_108, zia_108, zln_108, zit_108, zar_109, zia_109, zln_109, zit_109, zio_95, q1, q2, q3]
    rw [hrt]
    refine ⟨⟨by omega, by omega⟩, ⟨by omega, by omega⟩, ?_⟩
    exact vl48 hE (by omega) b9 hl hr 2 y _ [] rfl hk T2 (S2 _ (fun _ _ _ => rfl) y) (fun m' g1 g2 g3 => hQ m' (fr m' g1) g2 (fun z => ⟨(g3 z).1, nam m' (yOk_kd (by omega)) g1, (g3 z).2⟩))
  · have epp := pPts_no hk 2
    have hno : ¬ yOk (pPts 3 y).2 := by
      show ¬ yOk (pPts (2 + 1) y).2
      rw [epp]
      exact yOk_fl
    cases y with
    | inl e =>
      have hf := rTk_f T1
      simp only [ynok_30, ynok_31, w32c_0, w32c_1, w32c_2, w32c_3, w32c_4, w32c_5, w32c_6, w32c_7, w32c_8, w32c_9, w32c_10, w32c_11, w32c_12, w32c_13, w32c_14, w32c_m1, w32c_m2, w32c_118, Int.reduceAdd, Int.reduceSub, Int.reduceMul, yput_s, yput_n, znl_n, znl_0, znl_1, znl_4, ysum_n, ysum_0, ysum_1, ysum_4, true_and, and_true, Nat.reduceAdd, Nat.reduceLeDiff, true_implies, eq_self, true_or, or_true, or_false, false_or, not_true_eq_false, not_false_eq_true, false_implies, implies_true, yset_s, yset_o, yset_d, ne_eq, Nat.reduceEqDiff, Int.reduceToNat, Int.reduceEq, Int.reduceLE, Int.reduceLT, Classical.not_not, Nat.reduceLT, ↓zvk_s, ↓zvk_n, ↓s_248_0, ↓s_248_1, ↓s_248_4, ↓s_248_5, ↓s_248_6, ↓s_248_7, ↓s_248_10, ↓s_248_11, ↓s_248_12, ↓s_248_13, ↓s_248_16, ↓s_248_19, ↓s_248_20, ↓s_248_21, ↓s_248_24, ↓s_248_25, ↓s_248_26, ↓s_248_27, ↓s_248_28, ↓s_248_31, ↓s_248_34, ↓s_248_35, ↓s_248_37, ↓s_248_40, ↓s_248_43, ↓s_248_44, ↓s_248_45, ↓g_248_48, ↓k_248_48, ↓s_248_49, ↓s_248_51, ↓s_248_54, ↓s_248_57, ↓s_248_58, ↓s_248_61, ↓s_248_62, ↓s_248_63, ↓s_248_64, ↓s_248_67, ↓s_248_68, ↓s_248_69, ↓s_248_72, ↓s_248_73, ↓s_248_76, ↓s_248_79, ↓s_248_80, ↓s_248_81, ↓s_248_84, ↓s_248_85, ↓s_248_86, ↓s_248_87, ↓s_248_88, ↓s_248_89, ↓s_248_92, ↓s_248_93, ↓s_248_94, ↓s_248_95, ↓s_248_98, ↓s_248_99, ↓s_248_102, ↓s_248_103, ↓s_248_104, ↓s_248_105, ↓s_248_106, ↓s_248_107, ↓s_248_108, ↓s_248_111, ↓s_248_112, ↓s_248_113, ↓s_248_114, ↓s_248_115, ↓s_248_118, ↓s_248_119, ↓s_248_120, ↓s_248_123, ↓s_254_0, ↓s_254_1, ↓s_254_4, ↓s_254_7, ↓s_254_8, ↓s_254_9, ↓s_254_10, ↓s_254_13, ↓s_254_14, ↓s_254_15, ↓s_254_18, ↓s_254_21, ↓s_198_0, ↓s_198_1, ↓s_198_4, ↓s_198_7, ↓s_198_8, ↓s_198_11, ↓s_198_14, ↓s_198_15, ↓s_198_18, ↓s_198_19, ↓s_198_22, ↓s_198_23, ↓s_198_26, ↓s_198_27, zar_108, zia_108, zln_108, zit_108, zar_109, zia_109, zln_109, zit_109, zio_95, hf]
      rw [hrt]
      refine ⟨⟨by omega, by omega⟩, ⟨by omega, by omega⟩, ?_⟩
      exact vx48 hE b9 hl hk T2 (S2 _ (fun _ _ _ => rfl) _) (fun m' g1 g2 g3 => hQ m' (fr m' g1) (by show rTk ch n m' (pPts (2 + 1) (.inl e)).2; rw [epp]; exact g2) (fun z => absurd z hno))
    | inr l1 =>
      have q1 := rTk_0 T1
      have gw : zG E (d + 10) xm_248 48 [some (1, 95), some (0, r)] [] (yset (yset (yset (yset m1 108 (4 + nm.length) r1) 109 (4 + nm.length) 0) 95 31 1) 95 32 (m1 95 28)) Q := by
        rw [← e28]
        obtain ⟨G1, G2⟩ := rf_wr (f := 1) (F := 1) T2 (by decide) (by decide)
        exact vx48 hE b9 hl (y := yFl 1 (.inr l1)) (show ¬ yKd (yFl 1 (.inr l1)) = 27 from (by decide : ¬ (0 : Nat) = 27)) G2 (S2 _ (fun i j z => G1 i j (amod_r z)) _) (fun m' g1 g2 g3 => hQ m' (fr m' g1) (by show rTk ch n m' (pPts (2 + 1) (.inr l1)).2; rw [epp]; exact g2) (fun z => absurd z hno))
      by_cases q2 : w32 (m1 95 29) = 0
      · have q3 : ¬ w32 (m1 95 30) = 7 := fun z => hk ((rf_isw T1 (k0 := 27) (by decide) (by decide)).mp ⟨q1, q2, z⟩)
        simp only [ynok_30, ynok_31, w32c_0, w32c_1, w32c_2, w32c_3, w32c_4, w32c_5, w32c_6, w32c_7, w32c_8, w32c_9, w32c_10, w32c_11, w32c_12, w32c_13, w32c_14, w32c_m1, w32c_m2, w32c_118, Int.reduceAdd, Int.reduceSub, Int.reduceMul, yput_s, yput_n, znl_n, znl_0, znl_1, znl_4, ysum_n, ysum_0, ysum_1, ysum_4, true_and, and_true, Nat.reduceAdd, Nat.reduceLeDiff, true_implies, eq_self, true_or, or_true, or_false, false_or, not_true_eq_false, not_false_eq_true, false_implies, implies_true, yset_s, yset_o, yset_d, ne_eq, Nat.reduceEqDiff, Int.reduceToNat, Int.reduceEq, Int.reduceLE, Int.reduceLT, Classical.not_not, Nat.reduceLT, ↓zvk_s, ↓zvk_n, ↓s_248_0, ↓s_248_1, ↓s_248_4, ↓s_248_5, ↓s_248_6, ↓s_248_7, ↓s_248_10, ↓s_248_11, ↓s_248_12, ↓s_248_13, ↓s_248_16, ↓s_248_19, ↓s_248_20, ↓s_248_21, ↓s_248_24, ↓s_248_25, ↓s_248_26, ↓s_248_27, ↓s_248_28, ↓s_248_31, ↓s_248_34, ↓s_248_35, ↓s_248_37, ↓s_248_40, ↓s_248_43, ↓s_248_44, ↓s_248_45, ↓g_248_48, ↓k_248_48, ↓s_248_49, ↓s_248_51, ↓s_248_54, ↓s_248_57, ↓s_248_58, ↓s_248_61, ↓s_248_62, ↓s_248_63, ↓s_248_64, ↓s_248_67, ↓s_248_68, ↓s_248_69, ↓s_248_72, ↓s_248_73, ↓s_248_76, ↓s_248_79, ↓s_248_80, ↓s_248_81, ↓s_248_84, ↓s_248_85, ↓s_248_86, ↓s_248_87, ↓s_248_88, ↓s_248_89, ↓s_248_92, ↓s_248_93, ↓s_248_94, ↓s_248_95, ↓s_248_98, ↓s_248_99, ↓s_248_102, ↓s_248_103, ↓s_248_104, ↓s_248_105, ↓s_248_106, ↓s_248_107, ↓s_248_108, ↓s_248_111, ↓s_248_112, ↓s_248_113, ↓s_248_114, ↓s_248_115, ↓s_248_118, ↓s_248_119, ↓s_248_120, ↓s_248_123, ↓s_254_0, ↓s_254_1, ↓s_254_4, ↓s_254_7, ↓s_254_8, ↓s_254_9, ↓s_254_10, ↓s_254_13, ↓s_254_14, ↓s_254_15, ↓s_254_18, ↓s_254_21, ↓s_198_0, ↓s_198_1, ↓s_198_4, ↓s_198_7, ↓s_198_8, ↓s_198_11, ↓s_198_14, ↓s_198_15, ↓s_198_18, ↓s_198_19, ↓s_198_22, ↓s_198_23, ↓s_198_26, ↓s_198_27, zar_108, zia_108, zln_108, zit_108, zar_109, zia_109, zln_109, zit_109, zio_95, q1, q2, q3]
        rw [hrt]
        exact ⟨⟨by omega, by omega⟩, ⟨by omega, by omega⟩, gw⟩
      · simp only [ynok_30, ynok_31, w32c_0, w32c_1, w32c_2, w32c_3, w32c_4, w32c_5, w32c_6, w32c_7, w32c_8, w32c_9, w32c_10, w32c_11, w32c_12, w32c_13, w32c_14, w32c_m1, w32c_m2, w32c_118, Int.reduceAdd, Int.reduceSub, Int.reduceMul, yput_s, yput_n, znl_n, znl_0, znl_1, znl_4, ysum_n, ysum_0, ysum_1, ysum_4, true_and, and_true, Nat.reduceAdd, Nat.reduceLeDiff, true_implies, eq_self, true_or, or_true, or_false, false_or, not_true_eq_false, not_false_eq_true, false_implies, implies_true, yset_s, yset_o, yset_d, ne_eq, Nat.reduceEqDiff, Int.reduceToNat, Int.reduceEq, Int.reduceLE, Int.reduceLT, Classical.not_not, Nat.reduceLT, ↓zvk_s, ↓zvk_n, ↓s_248_0, ↓s_248_1, ↓s_248_4, ↓s_248_5, ↓s_248_6, ↓s_248_7, ↓s_248_10, ↓s_248_11, ↓s_248_12, ↓s_248_13, ↓s_248_16, ↓s_248_19, ↓s_248_20, ↓s_248_21, ↓s_248_24, ↓s_248_25, ↓s_248_26, ↓s_248_27, ↓s_248_28, ↓s_248_31, ↓s_248_34, ↓s_248_35, ↓s_248_37, ↓s_248_40, ↓s_248_43, ↓s_248_44, ↓s_248_45, ↓g_248_48, ↓k_248_48, ↓s_248_49, ↓s_248_51, ↓s_248_54, ↓s_248_57, ↓s_248_58, ↓s_248_61, ↓s_248_62, ↓s_248_63, ↓s_248_64, ↓s_248_67, ↓s_248_68, ↓s_248_69, ↓s_248_72, ↓s_248_73, ↓s_248_76, ↓s_248_79, ↓s_248_80, ↓s_248_81, ↓s_248_84, ↓s_248_85, ↓s_248_86, ↓s_248_87, ↓s_248_88, ↓s_248_89, ↓s_248_92, ↓s_248_93, ↓s_248_94, ↓s_248_95, ↓s_248_98, ↓s_248_99, ↓s_248_102, ↓s_248_103, ↓s_248_104, ↓s_248_105, ↓s_248_106, ↓s_248_107, ↓s_248_108, ↓s_248_111, ↓s_248_112, ↓s_248_113, ↓s_248_114, ↓s_248_115, ↓s_248_118, ↓s_248_119, ↓s_248_120, ↓s_248_123, ↓s_254_0, ↓s_254_1, ↓s_254_4, ↓s_254_7, ↓s_254_8, ↓s_254_9, ↓s_254_10, ↓s_254_13, ↓s_254_14, ↓s_254_15, ↓s_254_18, ↓s_254_21, ↓s_198_0, ↓s_198_1, ↓s_198_4, ↓s_198_7, ↓s_198_8, ↓s_198_11, ↓s_198_14, ↓s_198_15, ↓s_198_18, ↓s_198_19, ↓s_198_22, ↓s_198_23, ↓s_198_26, ↓s_198_27, zar_108, zia_108, zln_108, zit_108, zar_109, zia_109, zln_109, zit_109, zio_95, q1, q2]
        rw [hrt]
        exact ⟨⟨by omega, by omega⟩, ⟨by omega, by omega⟩, gw⟩
end RG
