section
/-! THE REFERENCE: what goes through a FAULT -/
def yOk (x : sY) : Prop := ∃ l, x = .inr l
theorem yOk_in {e : Nat × Nat} : ¬ yOk (.inl e) := fun ⟨_, h⟩ => by cases h
theorem yOk_kd {x : sY} (h : yKd x ≠ 0) : yOk x := by
  cases x with
  | inl e => exact absurd rfl h
  | inr l => exact ⟨l, rfl⟩
theorem yOk_nx {x : sY} (h : yOk (yNx x)) : yOk x := by
  cases x with
  | inl e => exact absurd h yOk_in
  | inr l => exact ⟨l, rfl⟩
theorem yOk_fl {f : Nat} {x : sY} : ¬ yOk (yFl f x) := by
  obtain ⟨e, he⟩ := yFl_inl f x
  rw [he]
  exact yOk_in
theorem yNm_in {a b : Int} {e : Nat × Nat} : yNm a b (.inl e) = (a, .inl e) := by
  unfold yNm
  rw [if_neg (show ¬ yKd (.inl e) = 2 from (by decide : ¬ (0 : Nat) = 2))]
  rfl
theorem yTt_in {nm : List Int} {e : Nat × Nat} : yTt nm (.inl e) = (-1, .inl e) := by
  unfold yTt
  rw [if_neg (show ¬ yKd (.inl e) = 3 from (by decide : ¬ (0 : Nat) = 3))]
  rfl
theorem yFr_in {nm : List Int} {e : Nat × Nat} : yFr nm (.inl e) = .inl e := by
  unfold yFr
  rw [if_pos (show ¬ yKd (.inl e) = 3 from (by decide : ¬ (0 : Nat) = 3))]
  rfl
theorem yOk_nm {a b : Int} {x : sY} (h : yOk (yNm a b x).2) : yOk x := by
  cases x with
  | inl e => rw [yNm_in] at h; exact absurd h yOk_in
  | inr l => exact ⟨l, rfl⟩
theorem yOk_tt {nm : List Int} {x : sY} (h : yOk (yTt nm x).2) : yOk x := by
  cases x with
  | inl e => rw [yTt_in] at h; exact absurd h yOk_in
  | inr l => exact ⟨l, rfl⟩
theorem yOk_fr {nm : List Int} {x : sY} (h : yOk (yFr nm x)) : yOk x := by
  cases x with
  | inl e => rw [yFr_in] at h; exact absurd h yOk_in
  | inr l => exact ⟨l, rfl⟩
theorem amod_r {i j : Nat} (h : ¬ (i = 95 ∧ 27 ≤ j ∧ j ≤ 32)) : amod rnF i j = false := by
  cases hm : amod rnF i j with
  | false => rfl
  | true =>
    obtain ⟨q, q1, q2, q3⟩ := amod_ex hm
    have z : ∀ q ∈ rnF, q.1 = 95 ∧ 28 ≤ q.2 ∧ q.2 ≤ 33 := by decide
    obtain ⟨z1, z2, z3⟩ := z q q1
    exact (h ⟨by omega, by omega, by omega⟩).elim
theorem amod_r5 {i j : Nat} (h : i ≠ 95) : amod rnF i j = false := amod_r (fun z => h z.1)
theorem rNm_fr {b m : yMem} {z q off : Nat} {nm : List Int} (h : rNm b z q off nm) (h7 : m 97 (7 + q) = b 97 (7 + q)) (hz : ∀ j, m z j = b z j) : rNm m z q off nm := ⟨by rw [h7]; exact h.1, h.2.1, fun j hj => by rw [hz]; exact h.2.2 j hj⟩
/-! a voice -/
def rvF (len i j : Nat) : Prop := (101 ≤ i ∧ i ≤ 107 ∧ j = 6 + len) ∨ (i = 97 ∧ j = 8) ∨ (i = 95 ∧ 27 ≤ j ∧ j ≤ 32)
def rVs (m : yMem) (k : Nat) (t : tVo) : Prop := w32 (m 101 k) = t.1 ∧ w32 (m 102 k) = t.2.1 ∧ w32 (m 103 k) = t.2.2.1 ∧ w32 (m 104 k) = t.2.2.2.1 ∧ w32 (m 105 k) = t.2.2.2.2.1 ∧ w32 (m 106 k) = t.2.2.2.2.2.1 ∧ w32 (m 107 k) = t.2.2.2.2.2.2
def RvS (b m : yMem) (len : Nat) (y : sY) (t : tVo) : Prop := (∀ i j, ¬ rvF len i j → m i j = b i j) ∧ m 97 8 = b 97 8 ∧ (yOk y → rVs m (6 + len) t)
theorem rvF_fr {b m : yMem} {s i j : Nat} {x : Int} (h : ∀ i j, ¬ rvF s i j → m i j = b i j) (hv : rvF s i j) : ∀ i' j', ¬ rvF s i' j' → yset m i j x i' j' = b i' j' := fun i' j' h' => by
  rw [yset_a]
  split
  · next e1 =>
    rw [if_neg (fun e2 => h' (by rw [e1, e2]; exact hv))]
    exact h i' j' h'
  · exact h i' j' h'
theorem RvS_tk {b m m' : yMem} {len : Nat} {y y' : sY} {t : tVo} (h : RvS b m len y t) (hF : aFrm rnF m m') (hy : yOk y' → yOk y) : RvS b m' len y' t := by
  have k : ∀ i j, i ≠ 95 → m' i j = m i j := fun i j q => hF i j (amod_r5 q)
  obtain ⟨h0, h1, h2⟩ := h
  refine ⟨fun i j hv => ?_, by rw [k 97 8 (by decide)]; exact h1, fun z => ?_⟩
  · rw [hF i j (amod_r (fun z => hv (Or.inr (Or.inr z))))]; exact h0 i j hv
  · obtain ⟨c1, c2, c3, c4, c5, c6, c7⟩ := h2 (hy z)
    exact ⟨by rw [k 101 _ (by decide)]; exact c1, by rw [k 102 _ (by decide)]; exact c2, by rw [k 103 _ (by decide)]; exact c3, by rw [k 104 _ (by decide)]; exact c4, by rw [k 105 _ (by decide)]; exact c5, by rw [k 106 _ (by decide)]; exact c6, by rw [k 107 _ (by decide)]; exact c7⟩
theorem RvS_set {b m : yMem} {len c : Nat} {y : sY} {t t' : tVo} {z : Int} (h : RvS b m len y t) (hc : 101 ≤ c ∧ c ≤ 107) (ht : yOk y → rVs (yset m c (6 + len) z) (6 + len) t') : RvS b (yset m c (6 + len) z) len y t' := ⟨rvF_fr h.1 (Or.inl ⟨hc.1, hc.2, rfl⟩), by rw [yset_o (by omega)]; exact h.2.1, ht⟩
theorem rTk_s {ch : Nat → Int} {n : Nat} {m : yMem} {x : sY} {c k : Nat} {z : Int} (h : rTk ch n m x) (hc : c ≠ 95 ∧ c ≠ 96) : rTk ch n (yset m c k z) x := rTk_of h (fun j _ _ => yset_o (fun e => hc.1 e.symm)) (fun j => yset_o (fun e => hc.2 e.symm))
section RE
variable {E : yE} {mem b m : yMem} {Q : Option yV → yMem → Prop} {ch : Nat → Int} {n : Nat} {x y : sY} {d len : Nat} {v : Int} {t : tVo} {a1 a2 a3 a4 a5 a6 a7 : Int}
theorem rw160 (hE : yEok E) (hl : len < 6) (hb : w32 (b 97 8) = (len : Int)) (h : rTk ch n m y) (hS : RvS b m len y t) (fin : ∀ m', (∀ i j, ¬ rvF len i j → m' i j = b i j) → rTk ch n m' y → w32 (m' 97 8) = ((len + 1 : Nat) : Int) → (yOk y → rVs m' (6 + len) t) → Q none m') : zG E (d + 1) xm_249 160 [some (1, 95), some (0, v)] [] m Q := by
  refine zgo_ok (n := 60) hE xmo_249 (cs := zc_249) ?_
  simp only [ynok_30, ynok_31, w32c_0, w32c_1, w32c_2, w32c_3, w32c_4, w32c_5, w32c_6, w32c_7, w32c_8, w32c_9, w32c_10, w32c_11, w32c_12, w32c_13, w32c_14, w32c_m1, w32c_m2, w32c_118, Int.reduceAdd, Int.reduceSub, Int.reduceMul, yput_s, yput_n, znl_n, znl_0, znl_1, znl_4, ysum_n, ysum_0, ysum_1, ysum_4, true_and, and_true, Nat.reduceAdd, Nat.reduceLeDiff, true_implies, eq_self, true_or, or_true, or_false, false_or, not_true_eq_false, not_false_eq_true, false_implies, implies_true, yset_s, yset_o, yset_d, ne_eq, Nat.reduceEqDiff, Int.reduceToNat, Int.reduceEq, Int.reduceLE, Int.reduceLT, Classical.not_not, Nat.reduceLT, ↓zvk_s, ↓zvk_n, ↓s_249_0, ↓s_249_1, ↓s_249_4, ↓s_249_5, ↓s_249_6, ↓s_249_7, ↓s_249_10, ↓s_249_12, ↓s_249_13, ↓s_249_14, ↓s_249_17, ↓s_249_20, ↓s_249_21, ↓s_249_22, ↓s_249_25, ↓s_249_26, ↓s_249_27, ↓s_249_28, ↓s_249_30, ↓s_249_33, ↓s_249_34, ↓s_249_35, ↓s_249_38, ↓s_249_39, ↓s_249_40, ↓s_249_41, ↓s_249_44, ↓s_249_45, ↓s_249_46, ↓s_249_48, ↓s_249_51, ↓s_249_52, ↓s_249_53, ↓s_249_56, ↓s_249_57, ↓s_249_58, ↓s_249_60, ↓s_249_63, ↓g_249_64, ↓k_249_64, ↓s_249_65, ↓s_249_68, ↓s_249_69, ↓s_249_70, ↓s_249_73, ↓s_249_74, ↓g_249_77, ↓k_249_77, ↓s_249_78, ↓s_249_81, ↓s_249_82, ↓s_249_83, ↓s_249_84, ↓s_249_85, ↓s_249_88, ↓s_249_89, ↓s_249_90, ↓s_249_91, ↓s_249_92, ↓s_249_95, ↓s_249_96, ↓s_249_97, ↓g_249_98, ↓k_249_98, ↓s_249_99, ↓s_249_101, ↓s_249_104, ↓s_249_107, ↓s_249_108, ↓s_249_111, ↓s_249_112, ↓s_249_115, ↓s_249_116, ↓s_249_117, ↓s_249_120, ↓s_249_121, ↓s_249_122, ↓s_249_125, ↓s_249_126, ↓s_249_127, ↓s_249_128, ↓s_249_130, ↓s_249_133, ↓g_249_134, ↓k_249_134, ↓s_249_135, ↓s_249_137, ↓s_249_140, ↓s_249_143, ↓s_249_144, ↓s_249_147, ↓s_249_148, ↓s_249_151, ↓s_249_152, ↓s_249_153, ↓s_249_154, ↓s_249_156, ↓s_249_159, ↓g_249_160, ↓k_249_160, ↓s_249_161, ↓s_249_162, ↓s_249_163, ↓s_249_164, ↓s_249_167, ↓s_249_168, ↓s_249_169, ↓s_249_172, w32c_40, w32c_99, ↓s_170_0, ↓s_170_1, ↓s_170_4, ↓s_170_6, ↓s_170_7, ↓s_170_8, ↓s_170_9, ↓s_221_0, ↓s_221_1, ↓s_221_4, ↓s_221_6, ↓s_221_7, ↓s_221_8, ↓s_221_9, ↓s_221_10, zar_97, zia_97, zln_97, zit_97, zar_101, zia_101, zln_101, zit_101, zar_102, zia_102, zln_102, zit_102, zar_103, zia_103, zln_103, zit_103, zar_104, zia_104, zln_104, zit_104, zar_105, zia_105, zln_105, zit_105, zar_106, zia_106, zln_106, zit_106, zar_107, zia_107, zln_107, zit_107, zio_95]
  have h8 : w32 (m 97 8) = (len : Int) := by rw [hS.2.1]; exact hb
  have e1 : w32 (m 97 8 + 1) = ((len + 1 : Nat) : Int) := by rw [w32_ad (by rw [w32c_1, h8]; omega) (by rw [w32c_1, h8]; omega), w32c_1, h8]; omega
  refine ⟨by omega, by omega, fin _ (rvF_fr hS.1 (Or.inr (Or.inl ⟨rfl, rfl⟩))) (rTk_s h (by decide)) (by rw [yset_s]; exact e1) (fun z => ?_)⟩
  obtain ⟨c1, c2, c3, c4, c5, c6, c7⟩ := hS.2.2 z
  exact ⟨by rw [yset_o (by decide)]; exact c1, by rw [yset_o (by decide)]; exact c2, by rw [yset_o (by decide)]; exact c3, by rw [yset_o (by decide)]; exact c4, by rw [yset_o (by decide)]; exact c5, by rw [yset_o (by decide)]; exact c6, by rw [yset_o (by decide)]; exact c7⟩
theorem rw134 (hE : yEok E) (hd : 8 ≤ d) (hl : len < 6) (hv : w32 v = ((6 + len : Nat) : Int)) (hb : w32 (b 97 8) = (len : Int)) (h : rTk ch n m y) (hS : RvS b m len y (a1, a2, a3, a4, a5, a6, 1)) (fin : ∀ m', (∀ i j, ¬ rvF len i j → m' i j = b i j) → rTk ch n m' (pV3 y).1 → w32 (m' 97 8) = ((len + 1 : Nat) : Int) → (yOk (pV3 y).1 → rVs m' (6 + len) (a1, a2, a3, a4, a5, a6, (pV3 y).2)) → Q none m') : zG E (d + 1) xm_249 134 [some (1, 95), some (0, v)] [] m Q := by
  have hvt : (w32 v).toNat = 6 + len := by rw [hv]; exact Int.toNat_natCast _
  refine zgo_ok (n := 60) hE xmo_249 (cs := zc_249) ?_
  by_cases hk : yKd y = 26
  · obtain ⟨q1, q2, q3⟩ := (rf_isw h (k0 := 26) (by decide) (by decide)).mpr hk
    have q3 : w32 (m 95 30) = 10 := q3
    simp only [ynok_30, ynok_31, w32c_0, w32c_1, w32c_2, w32c_3, w32c_4, w32c_5, w32c_6, w32c_7, w32c_8, w32c_9, w32c_10, w32c_11, w32c_12, w32c_13, w32c_14, w32c_m1, w32c_m2, w32c_118, Int.reduceAdd, Int.reduceSub, Int.reduceMul, yput_s, yput_n, znl_n, znl_0, znl_1, znl_4, ysum_n, ysum_0, ysum_1, ysum_4, true_and, and_true, Nat.reduceAdd, Nat.reduceLeDiff, true_implies, eq_self, true_or, or_true, or_false, false_or, not_true_eq_false, not_false_eq_true, false_implies, implies_true, yset_s, yset_o, yset_d, ne_eq, Nat.reduceEqDiff, Int.reduceToNat, Int.reduceEq, Int.reduceLE, Int.reduceLT, Classical.not_not, Nat.reduceLT, ↓zvk_s, ↓zvk_n, ↓s_249_0, ↓s_249_1, ↓s_249_4, ↓s_249_5, ↓s_249_6, ↓s_249_7, ↓s_249_10, ↓s_249_12, ↓s_249_13, ↓s_249_14, ↓s_249_17, ↓s_249_20, ↓s_249_21, ↓s_249_22, ↓s_249_25, ↓s_249_26, ↓s_249_27, ↓s_249_28, ↓s_249_30, ↓s_249_33, ↓s_249_34, ↓s_249_35, ↓s_249_38, ↓s_249_39, ↓s_249_40, ↓s_249_41, ↓s_249_44, ↓s_249_45, ↓s_249_46, ↓s_249_48, ↓s_249_51, ↓s_249_52, ↓s_249_53, ↓s_249_56, ↓s_249_57, ↓s_249_58, ↓s_249_60, ↓s_249_63, ↓g_249_64, ↓k_249_64, ↓s_249_65, ↓s_249_68, ↓s_249_69, ↓s_249_70, ↓s_249_73, ↓s_249_74, ↓g_249_77, ↓k_249_77, ↓s_249_78, ↓s_249_81, ↓s_249_82, ↓s_249_83, ↓s_249_84, ↓s_249_85, ↓s_249_88, ↓s_249_89, ↓s_249_90, ↓s_249_91, ↓s_249_92, ↓s_249_95, ↓s_249_96, ↓s_249_97, ↓g_249_98, ↓k_249_98, ↓s_249_99, ↓s_249_101, ↓s_249_104, ↓s_249_107, ↓s_249_108, ↓s_249_111, ↓s_249_112, ↓s_249_115, ↓s_249_116, ↓s_249_117, ↓s_249_120, ↓s_249_121, ↓s_249_122, ↓s_249_125, ↓s_249_126, ↓s_249_127, ↓s_249_128, ↓s_249_130, ↓s_249_133, ↓g_249_134, ↓k_249_134, ↓s_249_135, ↓s_249_137, ↓s_249_140, ↓s_249_143, ↓s_249_144, ↓s_249_147, ↓s_249_148, ↓s_249_151, ↓s_249_152, ↓s_249_153, ↓s_249_154, ↓s_249_156, ↓s_249_159, ↓g_249_160, ↓k_249_160, ↓s_249_161, ↓s_249_162, ↓s_249_163, ↓s_249_164, ↓s_249_167, ↓s_249_168, ↓s_249_169, ↓s_249_172, w32c_40, w32c_99, ↓s_198_0, ↓s_198_1, ↓s_198_4, ↓s_198_7, ↓s_198_8, ↓s_198_11, ↓s_198_14, ↓s_198_15, ↓s_198_18, ↓s_198_19, ↓s_198_22, ↓s_198_23, ↓s_198_26, ↓s_198_27, zar_101, zia_101, zln_101, zit_101, zar_102, zia_102, zln_102, zit_102, zar_103, zia_103, zln_103, zit_103, zar_104, zia_104, zln_104, zit_104, zar_105, zia_105, zln_105, zit_105, zar_106, zia_106, zln_106, zit_106, zar_107, zia_107, zln_107, zit_107, zio_95, q1, q2, q3]
    have ep : pV3 y = ((yNm 1 99 (yNx y)).2, (yNm 1 99 (yNx y)).1) := by unfold pV3; rw [if_pos hk]
    rw [ep] at fin
    obtain ⟨l, rfl⟩ := yOk_kd (x := y) (by omega)
    refine rf_token hE (by omega) h (fun m1 F1 T1 => ?_)
    refine zgk_n hE xmo_249 60 zc_249 ?_
    simp only [ynok_30, ynok_31, w32c_0, w32c_1, w32c_2, w32c_3, w32c_4, w32c_5, w32c_6, w32c_7, w32c_8, w32c_9, w32c_10, w32c_11, w32c_12, w32c_13, w32c_14, w32c_m1, w32c_m2, w32c_118, Int.reduceAdd, Int.reduceSub, Int.reduceMul, yput_s, yput_n, znl_n, znl_0, znl_1, znl_4, ysum_n, ysum_0, ysum_1, ysum_4, true_and, and_true, Nat.reduceAdd, Nat.reduceLeDiff, true_implies, eq_self, true_or, or_true, or_false, false_or, not_true_eq_false, not_false_eq_true, false_implies, implies_true, yset_s, yset_o, yset_d, ne_eq, Nat.reduceEqDiff, Int.reduceToNat, Int.reduceEq, Int.reduceLE, Int.reduceLT, Classical.not_not, Nat.reduceLT, ↓zvk_s, ↓zvk_n, ↓s_249_0, ↓s_249_1, ↓s_249_4, ↓s_249_5, ↓s_249_6, ↓s_249_7, ↓s_249_10, ↓s_249_12, ↓s_249_13, ↓s_249_14, ↓s_249_17, ↓s_249_20, ↓s_249_21, ↓s_249_22, ↓s_249_25, ↓s_249_26, ↓s_249_27, ↓s_249_28, ↓s_249_30, ↓s_249_33, ↓s_249_34, ↓s_249_35, ↓s_249_38, ↓s_249_39, ↓s_249_40, ↓s_249_41, ↓s_249_44, ↓s_249_45, ↓s_249_46, ↓s_249_48, ↓s_249_51, ↓s_249_52, ↓s_249_53, ↓s_249_56, ↓s_249_57, ↓s_249_58, ↓s_249_60, ↓s_249_63, ↓g_249_64, ↓k_249_64, ↓s_249_65, ↓s_249_68, ↓s_249_69, ↓s_249_70, ↓s_249_73, ↓s_249_74, ↓g_249_77, ↓k_249_77, ↓s_249_78, ↓s_249_81, ↓s_249_82, ↓s_249_83, ↓s_249_84, ↓s_249_85, ↓s_249_88, ↓s_249_89, ↓s_249_90, ↓s_249_91, ↓s_249_92, ↓s_249_95, ↓s_249_96, ↓s_249_97, ↓g_249_98, ↓k_249_98, ↓s_249_99, ↓s_249_101, ↓s_249_104, ↓s_249_107, ↓s_249_108, ↓s_249_111, ↓s_249_112, ↓s_249_115, ↓s_249_116, ↓s_249_117, ↓s_249_120, ↓s_249_121, ↓s_249_122, ↓s_249_125, ↓s_249_126, ↓s_249_127, ↓s_249_128, ↓s_249_130, ↓s_249_133, ↓g_249_134, ↓k_249_134, ↓s_249_135, ↓s_249_137, ↓s_249_140, ↓s_249_143, ↓s_249_144, ↓s_249_147, ↓s_249_148, ↓s_249_151, ↓s_249_152, ↓s_249_153, ↓s_249_154, ↓s_249_156, ↓s_249_159, ↓g_249_160, ↓k_249_160, ↓s_249_161, ↓s_249_162, ↓s_249_163, ↓s_249_164, ↓s_249_167, ↓s_249_168, ↓s_249_169, ↓s_249_172, w32c_40, w32c_99, zar_101, zia_101, zln_101, zit_101, zar_102, zia_102, zln_102, zit_102, zar_103, zia_103, zln_103, zit_103, zar_104, zia_104, zln_104, zit_104, zar_105, zia_105, zln_105, zit_105, zar_106, zia_106, zln_106, zit_106, zar_107, zia_107, zln_107, zit_107, zio_95]
    refine rf_numeral hE (by omega) (x := yNx (.inr l)) T1 (by decide) (by decide) (fun r m2 F2 e2 T2 => ?_)
    rw [w32c_1, w32c_99] at e2 T2
    refine zgk_s hE xmo_249 60 zc_249 ?_
    simp only [ynok_30, ynok_31, w32c_0, w32c_1, w32c_2, w32c_3, w32c_4, w32c_5, w32c_6, w32c_7, w32c_8, w32c_9, w32c_10, w32c_11, w32c_12, w32c_13, w32c_14, w32c_m1, w32c_m2, w32c_118, Int.reduceAdd, Int.reduceSub, Int.reduceMul, yput_s, yput_n, znl_n, znl_0, znl_1, znl_4, ysum_n, ysum_0, ysum_1, ysum_4, true_and, and_true, Nat.reduceAdd, Nat.reduceLeDiff, true_implies, eq_self, true_or, or_true, or_false, false_or, not_true_eq_false, not_false_eq_true, false_implies, implies_true, yset_s, yset_o, yset_d, ne_eq, Nat.reduceEqDiff, Int.reduceToNat, Int.reduceEq, Int.reduceLE, Int.reduceLT, Classical.not_not, Nat.reduceLT, ↓zvk_s, ↓zvk_n, ↓s_249_0, ↓s_249_1, ↓s_249_4, ↓s_249_5, ↓s_249_6, ↓s_249_7, ↓s_249_10, ↓s_249_12, ↓s_249_13, ↓s_249_14, ↓s_249_17, ↓s_249_20, ↓s_249_21, ↓s_249_22, ↓s_249_25, ↓s_249_26, ↓s_249_27, ↓s_249_28, ↓s_249_30, ↓s_249_33, ↓s_249_34, ↓s_249_35, ↓s_249_38, ↓s_249_39, ↓s_249_40, ↓s_249_41, ↓s_249_44, ↓s_249_45, ↓s_249_46, ↓s_249_48, ↓s_249_51, ↓s_249_52, ↓s_249_53, ↓s_249_56, ↓s_249_57, ↓s_249_58, ↓s_249_60, ↓s_249_63, ↓g_249_64, ↓k_249_64, ↓s_249_65, ↓s_249_68, ↓s_249_69, ↓s_249_70, ↓s_249_73, ↓s_249_74, ↓g_249_77, ↓k_249_77, ↓s_249_78, ↓s_249_81, ↓s_249_82, ↓s_249_83, ↓s_249_84, ↓s_249_85, ↓s_249_88, ↓s_249_89, ↓s_249_90, ↓s_249_91, ↓s_249_92, ↓s_249_95, ↓s_249_96, ↓s_249_97, ↓g_249_98, ↓k_249_98, ↓s_249_99, ↓s_249_101, ↓s_249_104, ↓s_249_107, ↓s_249_108, ↓s_249_111, ↓s_249_112, ↓s_249_115, ↓s_249_116, ↓s_249_117, ↓s_249_120, ↓s_249_121, ↓s_249_122, ↓s_249_125, ↓s_249_126, ↓s_249_127, ↓s_249_128, ↓s_249_130, ↓s_249_133, ↓g_249_134, ↓k_249_134, ↓s_249_135, ↓s_249_137, ↓s_249_140, ↓s_249_143, ↓s_249_144, ↓s_249_147, ↓s_249_148, ↓s_249_151, ↓s_249_152, ↓s_249_153, ↓s_249_154, ↓s_249_156, ↓s_249_159, ↓g_249_160, ↓k_249_160, ↓s_249_161, ↓s_249_162, ↓s_249_163, ↓s_249_164, ↓s_249_167, ↓s_249_168, ↓s_249_169, ↓s_249_172, w32c_40, w32c_99, zar_101, zia_101, zln_101, zit_101, zar_102, zia_102, zln_102, zit_102, zar_103, zia_103, zln_103, zit_103, zar_104, zia_104, zln_104, zit_104, zar_105, zia_105, zln_105, zit_105, zar_106, zia_106, zln_106, zit_106, zar_107, zia_107, zln_107, zit_107, zio_95]
    refine ⟨⟨by omega, by omega⟩, ?_⟩
    rw [hvt]
    have S2 := RvS_tk (y' := (yNm 1 99 (yNx (.inr l))).2) (RvS_tk (y' := yNx (.inr l)) hS (aFrm_w F1 (by decide)) yOk_nx) F2 yOk_nm
    refine rw160 hE hl hb (rTk_s T2 (by decide)) (RvS_set S2 (by decide) (fun z => ?_)) fin
    obtain ⟨c1, c2, c3, c4, c5, c6, c7⟩ := S2.2.2 z
    exact ⟨by rw [yset_o (by decide)]; exact c1, by rw [yset_o (by decide)]; exact c2, by rw [yset_o (by decide)]; exact c3, by rw [yset_o (by decide)]; exact c4, by rw [yset_o (by decide)]; exact c5, by rw [yset_o (by decide)]; exact c6, by rw [yset_s]; exact e2⟩
  · have ep : pV3 y = (y, 1) := by unfold pV3; rw [if_neg hk]
    rw [ep] at fin
    have f0 := rw160 (d := d) (v := v) hE hl hb h hS fin
    by_cases q1 : w32 (m 95 31) = 0
    · by_cases q2 : w32 (m 95 29) = 0
      · have q3 : ¬ w32 (m 95 30) = 10 := fun z => hk ((rf_isw h (k0 := 26) (by decide) (by decide)).mp ⟨q1, q2, z⟩)
        simp only [ynok_30, ynok_31, w32c_0, w32c_1, w32c_2, w32c_3, w32c_4, w32c_5, w32c_6, w32c_7, w32c_8, w32c_9, w32c_10, w32c_11, w32c_12, w32c_13, w32c_14, w32c_m1, w32c_m2, w32c_118, Int.reduceAdd, Int.reduceSub, Int.reduceMul, yput_s, yput_n, znl_n, znl_0, znl_1, znl_4, ysum_n, ysum_0, ysum_1, ysum_4, true_and, and_true, Nat.reduceAdd, Nat.reduceLeDiff, true_implies, eq_self, true_or, or_true, or_false, false_or, not_true_eq_false, not_false_eq_true, false_implies, implies_true, yset_s, yset_o, yset_d, ne_eq, Nat.reduceEqDiff, Int.reduceToNat, Int.reduceEq, Int.reduceLE, Int.reduceLT, Classical.not_not, Nat.reduceLT, ↓zvk_s, ↓zvk_n, ↓s_249_0, ↓s_249_1, ↓s_249_4, ↓s_249_5, ↓s_249_6, ↓s_249_7, ↓s_249_10, ↓s_249_12, ↓s_249_13, ↓s_249_14, ↓s_249_17, ↓s_249_20, ↓s_249_21, ↓s_249_22, ↓s_249_25, ↓s_249_26, ↓s_249_27, ↓s_249_28, ↓s_249_30, ↓s_249_33, ↓s_249_34, ↓s_249_35, ↓s_249_38, ↓s_249_39, ↓s_249_40, ↓s_249_41, ↓s_249_44, ↓s_249_45, ↓s_249_46, ↓s_249_48, ↓s_249_51, ↓s_249_52, ↓s_249_53, ↓s_249_56, ↓s_249_57, ↓s_249_58, ↓s_249_60, ↓s_249_63, ↓g_249_64, ↓k_249_64, ↓s_249_65, ↓s_249_68, ↓s_249_69, ↓s_249_70, ↓s_249_73, ↓s_249_74, ↓g_249_77, ↓k_249_77, ↓s_249_78, ↓s_249_81, ↓s_249_82, ↓s_249_83, ↓s_249_84, ↓s_249_85, ↓s_249_88, ↓s_249_89, ↓s_249_90, ↓s_249_91, ↓s_249_92, ↓s_249_95, ↓s_249_96, ↓s_249_97, ↓g_249_98, ↓k_249_98, ↓s_249_99, ↓s_249_101, ↓s_249_104, ↓s_249_107, ↓s_249_108, ↓s_249_111, ↓s_249_112, ↓s_249_115, ↓s_249_116, ↓s_249_117, ↓s_249_120, ↓s_249_121, ↓s_249_122, ↓s_249_125, ↓s_249_126, ↓s_249_127, ↓s_249_128, ↓s_249_130, ↓s_249_133, ↓g_249_134, ↓k_249_134, ↓s_249_135, ↓s_249_137, ↓s_249_140, ↓s_249_143, ↓s_249_144, ↓s_249_147, ↓s_249_148, ↓s_249_151, ↓s_249_152, ↓s_249_153, ↓s_249_154, ↓s_249_156, ↓s_249_159, ↓g_249_160, ↓k_249_160, ↓s_249_161, ↓s_249_162, ↓s_249_163, ↓s_249_164, ↓s_249_167, ↓s_249_168, ↓s_249_169, ↓s_249_172, w32c_40, w32c_99, ↓s_198_0, ↓s_198_1, ↓s_198_4, ↓s_198_7, ↓s_198_8, ↓s_198_11, ↓s_198_14, ↓s_198_15, ↓s_198_18, ↓s_198_19, ↓s_198_22, ↓s_198_23, ↓s_198_26, ↓s_198_27, zar_101, zia_101, zln_101, zit_101, zar_102, zia_102, zln_102, zit_102, zar_103, zia_103, zln_103, zit_103, zar_104, zia_104, zln_104, zit_104, zar_105, zia_105, zln_105, zit_105, zar_106, zia_106, zln_106, zit_106, zar_107, zia_107, zln_107, zit_107, zio_95, q1, q2, q3]
        exact f0
      · simp only [ynok_30, ynok_31, w32c_0, w32c_1, w32c_2, w32c_3, w32c_4, w32c_5, w32c_6, w32c_7, w32c_8, w32c_9, w32c_10, w32c_11, w32c_12, w32c_13, w32c_14, w32c_m1, w32c_m2, w32c_118, Int.reduceAdd, Int.reduceSub, Int.reduceMul, yput_s, yput_n, znl_n, znl_0, znl_1, znl_4, ysum_n, ysum_0, ysum_1, ysum_4, true_and, and_true, Nat.reduceAdd, Nat.reduceLeDiff, true_implies, eq_self, true_or, or_true, or_false, false_or, not_true_eq_false, not_false_eq_true, false_implies, implies_true, yset_s, yset_o, yset_d, ne_eq, Nat.reduceEqDiff, Int.reduceToNat, Int.reduceEq, Int.reduceLE, Int.reduceLT, Classical.not_not, Nat.reduceLT, ↓zvk_s, ↓zvk_n, ↓s_249_0, ↓s_249_1, ↓s_249_4, ↓s_249_5, ↓s_249_6, ↓s_249_7, ↓s_249_10, ↓s_249_12, ↓s_249_13, ↓s_249_14, ↓s_249_17, ↓s_249_20, ↓s_249_21, ↓s_249_22, ↓s_249_25, ↓s_249_26, ↓s_249_27, ↓s_249_28, ↓s_249_30, ↓s_249_33, ↓s_249_34, ↓s_249_35, ↓s_249_38, ↓s_249_39, ↓s_249_40, ↓s_249_41, ↓s_249_44, ↓s_249_45, ↓s_249_46, ↓s_249_48, ↓s_249_51, ↓s_249_52, ↓s_249_53, ↓s_249_56, ↓s_249_57, ↓s_249_58, ↓s_249_60, ↓s_249_63, ↓g_249_64, ↓k_249_64, ↓s_249_65, ↓s_249_68, ↓s_249_69, ↓s_249_70, ↓s_249_73, ↓s_249_74, ↓g_249_77, ↓k_249_77, ↓s_249_78, ↓s_249_81, ↓s_249_82, ↓s_249_83, ↓s_249_84, ↓s_249_85, ↓s_249_88, ↓s_249_89, ↓s_249_90, ↓s_249_91, ↓s_249_92, ↓s_249_95, ↓s_249_96, ↓s_249_97, ↓g_249_98, ↓k_249_98, ↓s_249_99, ↓s_249_101, ↓s_249_104, ↓s_249_107, ↓s_249_108, ↓s_249_111, ↓s_249_112, ↓s_249_115, ↓s_249_116, ↓s_249_117, ↓s_249_120, ↓s_249_121, ↓s_249_122, ↓s_249_125, ↓s_249_126, ↓s_249_127, ↓s_249_128, ↓s_249_130, ↓s_249_133, ↓g_249_134, ↓k_249_134, ↓s_249_135, ↓s_249_137, ↓s_249_140, ↓s_249_143, ↓s_249_144, ↓s_249_147, ↓s_249_148, ↓s_249_151, ↓s_249_152, ↓s_249_153, ↓s_249_154, ↓s_249_156, ↓s_249_159, ↓g_249_160, ↓k_249_160, ↓s_249_161, ↓s_249_162, ↓s_249_163, ↓s_249_164, ↓s_249_167, ↓s_249_168, ↓s_249_169, ↓s_249_172, w32c_40, w32c_99, ↓s_198_0, ↓s_198_1, ↓s_198_4, ↓s_198_7, ↓s_198_8, ↓s_198_11, ↓s_198_14, ↓s_198_15, ↓s_198_18, ↓s_198_19, ↓s_198_22, ↓s_198_23, ↓s_198_26, ↓s_198_27, zar_101, zia_101, zln_101, zit_101, zar_102, zia_102, zln_102, zit_102, zar_103, zia_103, zln_103, zit_103, zar_104, zia_104, zln_104, zit_104, zar_105, zia_105, zln_105, zit_105, zar_106, zia_106, zln_106, zit_106, zar_107, zia_107, zln_107, zit_107, zio_95, q1, q2]
        exact f0
    · simp only [ynok_30, ynok_31, w32c_0, w32c_1, w32c_2, w32c_3, w32c_4, w32c_5, w32c_6, w32c_7, w32c_8, w32c_9, w32c_10, w32c_11, w32c_12, w32c_13, w32c_14, w32c_m1, w32c_m2, w32c_118, Int.reduceAdd, Int.reduceSub, Int.reduceMul, yput_s, yput_n, znl_n, znl_0, znl_1, znl_4, ysum_n, ysum_0, ysum_1, ysum_4, true_and, and_true, Nat.reduceAdd, Nat.reduceLeDiff, true_implies, eq_self, true_or, or_true, or_false, false_or, not_true_eq_false, not_false_eq_true, false_implies, implies_true, yset_s, yset_o, yset_d, ne_eq, Nat.reduceEqDiff, Int.reduceToNat, Int.reduceEq, Int.reduceLE, Int.reduceLT, Classical.not_not, Nat.reduceLT, ↓zvk_s, ↓zvk_n, ↓s_249_0, ↓s_249_1, ↓s_249_4, ↓s_249_5, ↓s_249_6, ↓s_249_7, ↓s_249_10, ↓s_249_12, ↓s_249_13, ↓s_249_14, ↓s_249_17, ↓s_249_20, ↓s_249_21, ↓s_249_22, ↓s_249_25, ↓s_249_26, ↓s_249_27, ↓s_249_28, ↓s_249_30, ↓s_249_33, ↓s_249_34, ↓s_249_35, ↓s_249_38, ↓s_249_39, ↓s_249_40, ↓s_249_41, ↓s_249_44, ↓s_249_45, ↓s_249_46, ↓s_249_48, ↓s_249_51, ↓s_249_52, ↓s_249_53, ↓s_249_56, ↓s_249_57, ↓s_249_58, ↓s_249_60, ↓s_249_63, ↓g_249_64, ↓k_249_64, ↓s_249_65, ↓s_249_68, ↓s_249_69, ↓s_249_70, ↓s_249_73, ↓s_249_74, ↓g_249_77, ↓k_249_77, ↓s_249_78, ↓s_249_81, ↓s_249_82, ↓s_249_83, ↓s_249_84, ↓s_249_85, ↓s_249_88, ↓s_249_89, ↓s_249_90, ↓s_249_91, ↓s_249_92, ↓s_249_95, ↓s_249_96, ↓s_249_97, ↓g_249_98, ↓k_249_98, ↓s_249_99, ↓s_249_101, ↓s_249_104, ↓s_249_107, ↓s_249_108, ↓s_249_111, ↓s_249_112, ↓s_249_115, ↓s_249_116, ↓s_249_117, ↓s_249_120, ↓s_249_121, ↓s_249_122, ↓s_249_125, ↓s_249_126, ↓s_249_127, ↓s_249_128, ↓s_249_130, ↓s_249_133, ↓g_249_134, ↓k_249_134, ↓s_249_135, ↓s_249_137, ↓s_249_140, ↓s_249_143, ↓s_249_144, ↓s_249_147, ↓s_249_148, ↓s_249_151, ↓s_249_152, ↓s_249_153, ↓s_249_154, ↓s_249_156, ↓s_249_159, ↓g_249_160, ↓k_249_160, ↓s_249_161, ↓s_249_162, ↓s_249_163, ↓s_249_164, ↓s_249_167, ↓s_249_168, ↓s_249_169, ↓s_249_172, w32c_40, w32c_99, ↓s_198_0, ↓s_198_1, ↓s_198_4, ↓s_198_7, ↓s_198_8, ↓s_198_11, ↓s_198_14, ↓s_198_15, ↓s_198_18, ↓s_198_19, ↓s_198_22, ↓s_198_23, ↓s_198_26, ↓s_198_27, zar_101, zia_101, zln_101, zit_101, zar_102, zia_102, zln_102, zit_102, zar_103, zia_103, zln_103, zit_103, zar_104, zia_104, zln_104, zit_104, zar_105, zia_105, zln_105, zit_105, zar_106, zia_106, zln_106, zit_106, zar_107, zia_107, zln_107, zit_107, zio_95, q1]
      exact f0
theorem rw98 (hE : yEok E) (hd : 8 ≤ d) (hl : len < 6) (hv : w32 v = ((6 + len : Nat) : Int)) (hb : w32 (b 97 8) = (len : Int)) {nm : List Int} (hN : rNm b 98 0 3 nm) (h : rTk ch n m y) (hS : RvS b m len y (a1, a2, a3, a4, -1, 0, 1)) (fin : ∀ m', (∀ i j, ¬ rvF len i j → m' i j = b i j) → rTk ch n m' (pV3 (pV2 nm y).1).1 → w32 (m' 97 8) = ((len + 1 : Nat) : Int) → (yOk (pV3 (pV2 nm y).1).1 → rVs m' (6 + len) (a1, a2, a3, a4, (pV2 nm y).2.1, (pV2 nm y).2.2, (pV3 (pV2 nm y).1).2)) → Q none m') : zG E (d + 1) xm_249 98 [some (1, 95), some (0, v)] [] m Q := by
  have hvt : (w32 v).toNat = 6 + len := by rw [hv]; exact Int.toNat_natCast _
  refine zgo_ok (n := 60) hE xmo_249 (cs := zc_249) ?_
  by_cases hk : yKd y = 25
  · obtain ⟨q1, q2, q3⟩ := (rf_isw h (k0 := 25) (by decide) (by decide)).mpr hk
    have q3 : w32 (m 95 30) = 9 := q3
    simp only [ynok_30, ynok_31, w32c_0, w32c_1, w32c_2, w32c_3, w32c_4, w32c_5, w32c_6, w32c_7, w32c_8, w32c_9, w32c_10, w32c_11, w32c_12, w32c_13, w32c_14, w32c_m1, w32c_m2, w32c_118, Int.reduceAdd, Int.reduceSub, Int.reduceMul, yput_s, yput_n, znl_n, znl_0, znl_1, znl_4, ysum_n, ysum_0, ysum_1, ysum_4, true_and, and_true, Nat.reduceAdd, Nat.reduceLeDiff, true_implies, eq_self, true_or, or_true, or_false, false_or, not_true_eq_false, not_false_eq_true, false_implies, implies_true, yset_s, yset_o, yset_d, ne_eq, Nat.reduceEqDiff, Int.reduceToNat, Int.reduceEq, Int.reduceLE, Int.reduceLT, Classical.not_not, Nat.reduceLT, ↓zvk_s, ↓zvk_n, ↓s_249_0, ↓s_249_1, ↓s_249_4, ↓s_249_5, ↓s_249_6, ↓s_249_7, ↓s_249_10, ↓s_249_12, ↓s_249_13, ↓s_249_14, ↓s_249_17, ↓s_249_20, ↓s_249_21, ↓s_249_22, ↓s_249_25, ↓s_249_26, ↓s_249_27, ↓s_249_28, ↓s_249_30, ↓s_249_33, ↓s_249_34, ↓s_249_35, ↓s_249_38, ↓s_249_39, ↓s_249_40, ↓s_249_41, ↓s_249_44, ↓s_249_45, ↓s_249_46, ↓s_249_48, ↓s_249_51, ↓s_249_52, ↓s_249_53, ↓s_249_56, ↓s_249_57, ↓s_249_58, ↓s_249_60, ↓s_249_63, ↓g_249_64, ↓k_249_64, ↓s_249_65, ↓s_249_68, ↓s_249_69, ↓s_249_70, ↓s_249_73, ↓s_249_74, ↓g_249_77, ↓k_249_77, ↓s_249_78, ↓s_249_81, ↓s_249_82, ↓s_249_83, ↓s_249_84, ↓s_249_85, ↓s_249_88, ↓s_249_89, ↓s_249_90, ↓s_249_91, ↓s_249_92, ↓s_249_95, ↓s_249_96, ↓s_249_97, ↓g_249_98, ↓k_249_98, ↓s_249_99, ↓s_249_101, ↓s_249_104, ↓s_249_107, ↓s_249_108, ↓s_249_111, ↓s_249_112, ↓s_249_115, ↓s_249_116, ↓s_249_117, ↓s_249_120, ↓s_249_121, ↓s_249_122, ↓s_249_125, ↓s_249_126, ↓s_249_127, ↓s_249_128, ↓s_249_130, ↓s_249_133, ↓g_249_134, ↓k_249_134, ↓s_249_135, ↓s_249_137, ↓s_249_140, ↓s_249_143, ↓s_249_144, ↓s_249_147, ↓s_249_148, ↓s_249_151, ↓s_249_152, ↓s_249_153, ↓s_249_154, ↓s_249_156, ↓s_249_159, ↓g_249_160, ↓k_249_160, ↓s_249_161, ↓s_249_162, ↓s_249_163, ↓s_249_164, ↓s_249_167, ↓s_249_168, ↓s_249_169, ↓s_249_172, w32c_40, w32c_99, ↓s_198_0, ↓s_198_1, ↓s_198_4, ↓s_198_7, ↓s_198_8, ↓s_198_11, ↓s_198_14, ↓s_198_15, ↓s_198_18, ↓s_198_19, ↓s_198_22, ↓s_198_23, ↓s_198_26, ↓s_198_27, zar_101, zia_101, zln_101, zit_101, zar_102, zia_102, zln_102, zit_102, zar_103, zia_103, zln_103, zit_103, zar_104, zia_104, zln_104, zit_104, zar_105, zia_105, zln_105, zit_105, zar_106, zia_106, zln_106, zit_106, zar_107, zia_107, zln_107, zit_107, zio_95, q1, q2, q3]
    have ep : pV2 nm y = ((yNm 0 99 (yTt nm (yNx y)).2).2, (yTt nm (yNx y)).1, (yNm 0 99 (yTt nm (yNx y)).2).1) := by unfold pV2; rw [if_pos hk]
    rw [ep] at fin
    obtain ⟨l, rfl⟩ := yOk_kd (x := y) (by omega)
    refine rf_token hE (by omega) h (fun m1 F1 T1 => ?_)
    refine zgk_n hE xmo_249 60 zc_249 ?_
    simp only [ynok_30, ynok_31, w32c_0, w32c_1, w32c_2, w32c_3, w32c_4, w32c_5, w32c_6, w32c_7, w32c_8, w32c_9, w32c_10, w32c_11, w32c_12, w32c_13, w32c_14, w32c_m1, w32c_m2, w32c_118, Int.reduceAdd, Int.reduceSub, Int.reduceMul, yput_s, yput_n, znl_n, znl_0, znl_1, znl_4, ysum_n, ysum_0, ysum_1, ysum_4, true_and, and_true, Nat.reduceAdd, Nat.reduceLeDiff, true_implies, eq_self, true_or, or_true, or_false, false_or, not_true_eq_false, not_false_eq_true, false_implies, implies_true, yset_s, yset_o, yset_d, ne_eq, Nat.reduceEqDiff, Int.reduceToNat, Int.reduceEq, Int.reduceLE, Int.reduceLT, Classical.not_not, Nat.reduceLT, ↓zvk_s, ↓zvk_n, ↓s_249_0, ↓s_249_1, ↓s_249_4, ↓s_249_5, ↓s_249_6, ↓s_249_7, ↓s_249_10, ↓s_249_12, ↓s_249_13, ↓s_249_14, ↓s_249_17, ↓s_249_20, ↓s_249_21, ↓s_249_22, ↓s_249_25, ↓s_249_26, ↓s_249_27, ↓s_249_28, ↓s_249_30, ↓s_249_33, ↓s_249_34, ↓s_249_35, ↓s_249_38, ↓s_249_39, ↓s_249_40, ↓s_249_41, ↓s_249_44, ↓s_249_45, ↓s_249_46, ↓s_249_48, ↓s_249_51, ↓s_249_52, ↓s_249_53, ↓s_249_56, ↓s_249_57, ↓s_249_58, ↓s_249_60, ↓s_249_63, ↓g_249_64, ↓k_249_64, ↓s_249_65, ↓s_249_68, ↓s_249_69, ↓s_249_70, ↓s_249_73, ↓s_249_74, ↓g_249_77, ↓k_249_77, ↓s_249_78, ↓s_249_81, ↓s_249_82, ↓s_249_83, ↓s_249_84, ↓s_249_85, ↓s_249_88, ↓s_249_89, ↓s_249_90, ↓s_249_91, ↓s_249_92, ↓s_249_95, ↓s_249_96, ↓s_249_97, ↓g_249_98, ↓k_249_98, ↓s_249_99, ↓s_249_101, ↓s_249_104, ↓s_249_107, ↓s_249_108, ↓s_249_111, ↓s_249_112, ↓s_249_115, ↓s_249_116, ↓s_249_117, ↓s_249_120, ↓s_249_121, ↓s_249_122, ↓s_249_125, ↓s_249_126, ↓s_249_127, ↓s_249_128, ↓s_249_130, ↓s_249_133, ↓g_249_134, ↓k_249_134, ↓s_249_135, ↓s_249_137, ↓s_249_140, ↓s_249_143, ↓s_249_144, ↓s_249_147, ↓s_249_148, ↓s_249_151, ↓s_249_152, ↓s_249_153, ↓s_249_154, ↓s_249_156, ↓s_249_159, ↓g_249_160, ↓k_249_160, ↓s_249_161, ↓s_249_162, ↓s_249_163, ↓s_249_164, ↓s_249_167, ↓s_249_168, ↓s_249_169, ↓s_249_172, w32c_40, w32c_99, zar_101, zia_101, zln_101, zit_101, zar_102, zia_102, zln_102, zit_102, zar_103, zia_103, zln_103, zit_103, zar_104, zia_104, zln_104, zit_104, zar_105, zia_105, zln_105, zit_105, zar_106, zia_106, zln_106, zit_106, zar_107, zia_107, zln_107, zit_107, zio_95]
    have S1 := RvS_tk (y' := yNx (.inr l)) hS (aFrm_w F1 (by decide)) yOk_nx
    refine rf_tavern hE (by omega) (x := yNx (.inr l)) (rNm_fr hN (S1.1 97 7 (by unfold rvF; omega)) (fun j => S1.1 98 j (by unfold rvF; omega))) T1 (fun r1 m2 F2 T2 e2 => ?_)
    refine zgk_s hE xmo_249 60 zc_249 ?_
    simp only [ynok_30, ynok_31, w32c_0, w32c_1, w32c_2, w32c_3, w32c_4, w32c_5, w32c_6, w32c_7, w32c_8, w32c_9, w32c_10, w32c_11, w32c_12, w32c_13, w32c_14, w32c_m1, w32c_m2, w32c_118, Int.reduceAdd, Int.reduceSub, Int.reduceMul, yput_s, yput_n, znl_n, znl_0, znl_1, znl_4, ysum_n, ysum_0, ysum_1, ysum_4, true_and, and_true, Nat.reduceAdd, Nat.reduceLeDiff, true_implies, eq_self, true_or, or_true, or_false, false_or, not_true_eq_false, not_false_eq_true, false_implies, implies_true, yset_s, yset_o, yset_d, ne_eq, Nat.reduceEqDiff, Int.reduceToNat, Int.reduceEq, Int.reduceLE, Int.reduceLT, Classical.not_not, Nat.reduceLT, ↓zvk_s, ↓zvk_n, ↓s_249_0, ↓s_249_1, ↓s_249_4, ↓s_249_5, ↓s_249_6, ↓s_249_7, ↓s_249_10, ↓s_249_12, ↓s_249_13, ↓s_249_14, ↓s_249_17, ↓s_249_20, ↓s_249_21, ↓s_249_22, ↓s_249_25, ↓s_249_26, ↓s_249_27, ↓s_249_28, ↓s_249_30, ↓s_249_33, ↓s_249_34, ↓s_249_35, ↓s_249_38, ↓s_249_39, ↓s_249_40, ↓s_249_41, ↓s_249_44, ↓s_249_45, ↓s_249_46, ↓s_249_48, ↓s_249_51, ↓s_249_52, ↓s_249_53, ↓s_249_56, ↓s_249_57, ↓s_249_58, ↓s_249_60, ↓s_249_63, ↓g_249_64, ↓k_249_64, ↓s_249_65, ↓s_249_68, ↓s_249_69, ↓s_249_70, ↓s_249_73, ↓s_249_74, ↓g_249_77, ↓k_249_77, ↓s_249_78, ↓s_249_81, ↓s_249_82, ↓s_249_83, ↓s_249_84, ↓s_249_85, ↓s_249_88, ↓s_249_89, ↓s_249_90, ↓s_249_91, ↓s_249_92, ↓s_249_95, ↓s_249_96, ↓s_249_97, ↓g_249_98, ↓k_249_98, ↓s_249_99, ↓s_249_101, ↓s_249_104, ↓s_249_107, ↓s_249_108, ↓s_249_111, ↓s_249_112, ↓s_249_115, ↓s_249_116, ↓s_249_117, ↓s_249_120, ↓s_249_121, ↓s_249_122, ↓s_249_125, ↓s_249_126, ↓s_249_127, ↓s_249_128, ↓s_249_130, ↓s_249_133, ↓g_249_134, ↓k_249_134, ↓s_249_135, ↓s_249_137, ↓s_249_140, ↓s_249_143, ↓s_249_144, ↓s_249_147, ↓s_249_148, ↓s_249_151, ↓s_249_152, ↓s_249_153, ↓s_249_154, ↓s_249_156, ↓s_249_159, ↓g_249_160, ↓k_249_160, ↓s_249_161, ↓s_249_162, ↓s_249_163, ↓s_249_164, ↓s_249_167, ↓s_249_168, ↓s_249_169, ↓s_249_172, w32c_40, w32c_99, zar_101, zia_101, zln_101, zit_101, zar_102, zia_102, zln_102, zit_102, zar_103, zia_103, zln_103, zit_103, zar_104, zia_104, zln_104, zit_104, zar_105, zia_105, zln_105, zit_105, zar_106, zia_106, zln_106, zit_106, zar_107, zia_107, zln_107, zit_107, zio_95]
    refine ⟨⟨by omega, by omega⟩, ?_⟩
    rw [hvt]
    have S2 := RvS_tk (y' := (yTt nm (yNx (.inr l))).2) S1 F2 yOk_tt
    have S3 : RvS b (yset m2 105 (6 + len) r1) len (yTt nm (yNx (.inr l))).2 (a1, a2, a3, a4, (yTt nm (yNx (.inr l))).1, 0, 1) := RvS_set S2 (by decide) (fun z => by
      obtain ⟨c1, c2, c3, c4, c5, c6, c7⟩ := S2.2.2 z
      obtain ⟨l', hl'⟩ := z
      exact ⟨by rw [yset_o (by decide)]; exact c1, by rw [yset_o (by decide)]; exact c2, by rw [yset_o (by decide)]; exact c3, by rw [yset_o (by decide)]; exact c4, by rw [yset_s]; exact e2 l' hl', by rw [yset_o (by decide)]; exact c6, by rw [yset_o (by decide)]; exact c7⟩)
    refine rf_numeral hE (by omega) (rTk_s T2 (by decide)) (by decide) (by decide) (fun r2 m3 F3 e3 T3 => ?_)
    rw [w32c_0, w32c_99] at e3 T3
    refine zgk_s hE xmo_249 60 zc_249 ?_
    simp only [ynok_30, ynok_31, w32c_0, w32c_1, w32c_2, w32c_3, w32c_4, w32c_5, w32c_6, w32c_7, w32c_8, w32c_9, w32c_10, w32c_11, w32c_12, w32c_13, w32c_14, w32c_m1, w32c_m2, w32c_118, Int.reduceAdd, Int.reduceSub, Int.reduceMul, yput_s, yput_n, znl_n, znl_0, znl_1, znl_4, ysum_n, ysum_0, ysum_1, ysum_4, true_and, and_true, Nat.reduceAdd, Nat.reduceLeDiff, true_implies, eq_self, true_or, or_true, or_false, false_or, not_true_eq_false, not_false_eq_true, false_implies, implies_true, yset_s, yset_o, yset_d, ne_eq, Nat.reduceEqDiff, Int.reduceToNat, Int.reduceEq, Int.reduceLE, Int.reduceLT, Classical.not_not, Nat.reduceLT, ↓zvk_s, ↓zvk_n, ↓s_249_0, ↓s_249_1, ↓s_249_4, ↓s_249_5, ↓s_249_6, ↓s_249_7, ↓s_249_10, ↓s_249_12, ↓s_249_13, ↓s_249_14, ↓s_249_17, ↓s_249_20, ↓s_249_21, ↓s_249_22, ↓s_249_25, ↓s_249_26, ↓s_249_27, ↓s_249_28, ↓s_249_30, ↓s_249_33, ↓s_249_34, ↓s_249_35, ↓s_249_38, ↓s_249_39, ↓s_249_40, ↓s_249_41, ↓s_249_44, ↓s_249_45, ↓s_249_46, ↓s_249_48, ↓s_249_51, ↓s_249_52, ↓s_249_53, ↓s_249_56, ↓s_249_57, ↓s_249_58, ↓s_249_60, ↓s_249_63, ↓g_249_64, ↓k_249_64, ↓s_249_65, ↓s_249_68, ↓s_249_69, ↓s_249_70, ↓s_249_73, ↓s_249_74, ↓g_249_77, ↓k_249_77, ↓s_249_78, ↓s_249_81, ↓s_249_82, ↓s_249_83, ↓s_249_84, ↓s_249_85, ↓s_249_88, ↓s_249_89, ↓s_249_90, ↓s_249_91, ↓s_249_92, ↓s_249_95, ↓s_249_96, ↓s_249_97, ↓g_249_98, ↓k_249_98, ↓s_249_99, ↓s_249_101, ↓s_249_104, ↓s_249_107, ↓s_249_108, ↓s_249_111, ↓s_249_112, ↓s_249_115, ↓s_249_116, ↓s_249_117, ↓s_249_120, ↓s_249_121, ↓s_249_122, ↓s_249_125, ↓s_249_126, ↓s_249_127, ↓s_249_128, ↓s_249_130, ↓s_249_133, ↓g_249_134, ↓k_249_134, ↓s_249_135, ↓s_249_137, ↓s_249_140, ↓s_249_143, ↓s_249_144, ↓s_249_147, ↓s_249_148, ↓s_249_151, ↓s_249_152, ↓s_249_153, ↓s_249_154, ↓s_249_156, ↓s_249_159, ↓g_249_160, ↓k_249_160, ↓s_249_161, ↓s_249_162, ↓s_249_163, ↓s_249_164, ↓s_249_167, ↓s_249_168, ↓s_249_169, ↓s_249_172, w32c_40, w32c_99, zar_101, zia_101, zln_101, zit_101, zar_102, zia_102, zln_102, zit_102, zar_103, zia_103, zln_103, zit_103, zar_104, zia_104, zln_104, zit_104, zar_105, zia_105, zln_105, zit_105, zar_106, zia_106, zln_106, zit_106, zar_107, zia_107, zln_107, zit_107, zio_95]
    refine ⟨⟨by omega, by omega⟩, ?_⟩
    rw [hvt]
    have S4 := RvS_tk (y' := (yNm 0 99 (yTt nm (yNx (.inr l))).2).2) S3 F3 yOk_nm
    have S5 : RvS b (yset m3 106 (6 + len) r2) len (yNm 0 99 (yTt nm (yNx (.inr l))).2).2 (a1, a2, a3, a4, (yTt nm (yNx (.inr l))).1, (yNm 0 99 (yTt nm (yNx (.inr l))).2).1, 1) := RvS_set S4 (by decide) (fun z => by
      obtain ⟨c1, c2, c3, c4, c5, c6, c7⟩ := S4.2.2 z
      exact ⟨by rw [yset_o (by decide)]; exact c1, by rw [yset_o (by decide)]; exact c2, by rw [yset_o (by decide)]; exact c3, by rw [yset_o (by decide)]; exact c4, by rw [yset_o (by decide)]; exact c5, by rw [yset_s]; exact e3, by rw [yset_o (by decide)]; exact c7⟩)
    exact rw134 hE hd hl hv hb (rTk_s T3 (by decide)) S5 fin
  · have ep : pV2 nm y = (y, -1, 0) := by unfold pV2; rw [if_neg hk]
    rw [ep] at fin
    have f0 := rw134 hE hd hl hv hb h hS fin
    by_cases q1 : w32 (m 95 31) = 0
    · by_cases q2 : w32 (m 95 29) = 0
      · have q3 : ¬ w32 (m 95 30) = 9 := fun z => hk ((rf_isw h (k0 := 25) (by decide) (by decide)).mp ⟨q1, q2, z⟩)
        simp only [ynok_30, ynok_31, w32c_0, w32c_1, w32c_2, w32c_3, w32c_4, w32c_5, w32c_6, w32c_7, w32c_8, w32c_9, w32c_10, w32c_11, w32c_12, w32c_13, w32c_14, w32c_m1, w32c_m2, w32c_118, Int.reduceAdd, Int.reduceSub, Int.reduceMul, yput_s, yput_n, znl_n, znl_0, znl_1, znl_4, ysum_n, ysum_0, ysum_1, ysum_4, true_and, and_true, Nat.reduceAdd, Nat.reduceLeDiff, true_implies, eq_self, true_or, or_true, or_false, false_or, not_true_eq_false, not_false_eq_true, false_implies, implies_true, yset_s, yset_o, yset_d, ne_eq, Nat.reduceEqDiff, Int.reduceToNat, Int.reduceEq, Int.reduceLE, Int.reduceLT, Classical.not_not, Nat.reduceLT, ↓zvk_s, ↓zvk_n, ↓s_249_0, ↓s_249_1, ↓s_249_4, ↓s_249_5, ↓s_249_6, ↓s_249_7, ↓s_249_10, ↓s_249_12, ↓s_249_13, ↓s_249_14, ↓s_249_17, ↓s_249_20, ↓s_249_21, ↓s_249_22, ↓s_249_25, ↓s_249_26, ↓s_249_27, ↓s_249_28, ↓s_249_30, ↓s_249_33, ↓s_249_34, ↓s_249_35, ↓s_249_38, ↓s_249_39, ↓s_249_40, ↓s_249_41, ↓s_249_44, ↓s_249_45, ↓s_249_46, ↓s_249_48, ↓s_249_51, ↓s_249_52, ↓s_249_53, ↓s_249_56, ↓s_249_57, ↓s_249_58, ↓s_249_60, ↓s_249_63, ↓g_249_64, ↓k_249_64, ↓s_249_65, ↓s_249_68, ↓s_249_69, ↓s_249_70, ↓s_249_73, ↓s_249_74, ↓g_249_77, ↓k_249_77, ↓s_249_78, ↓s_249_81, ↓s_249_82, ↓s_249_83, ↓s_249_84, ↓s_249_85, ↓s_249_88, ↓s_249_89, ↓s_249_90, ↓s_249_91, ↓s_249_92, ↓s_249_95, ↓s_249_96, ↓s_249_97, ↓g_249_98, ↓k_249_98, ↓s_249_99, ↓s_249_101, ↓s_249_104, ↓s_249_107, ↓s_249_108, ↓s_249_111, ↓s_249_112, ↓s_249_115, ↓s_249_116, ↓s_249_117, ↓s_249_120, ↓s_249_121, ↓s_249_122, ↓s_249_125, ↓s_249_126, ↓s_249_127, ↓s_249_128, ↓s_249_130, ↓s_249_133, ↓g_249_134, ↓k_249_134, ↓s_249_135, ↓s_249_137, ↓s_249_140, ↓s_249_143, ↓s_249_144, ↓s_249_147, ↓s_249_148, ↓s_249_151, ↓s_249_152, ↓s_249_153, ↓s_249_154, ↓s_249_156, ↓s_249_159, ↓g_249_160, ↓k_249_160, ↓s_249_161, ↓s_249_162, ↓s_249_163, ↓s_249_164, ↓s_249_167, ↓s_249_168, ↓s_249_169, ↓s_249_172, w32c_40, w32c_99, ↓s_198_0, ↓s_198_1, ↓s_198_4, ↓s_198_7, ↓s_198_8, ↓s_198_11, ↓s_198_14, ↓s_198_15, ↓s_198_18, ↓s_198_19, ↓s_198_22, ↓s_198_23, ↓s_198_26, ↓s_198_27, zar_101, zia_101, zln_101, zit_101, zar_102, zia_102, zln_102, zit_102, zar_103, zia_103, zln_103, zit_103, zar_104, zia_104, zln_104, zit_104, zar_105, zia_105, zln_105, zit_105, zar_106, zia_106, zln_106, zit_106, zar_107, zia_107, zln_107, zit_107, zio_95, q1, q2, q3]
        exact f0
      · simp only [ynok_30, ynok_31, w32c_0, w32c_1, w32c_2, w32c_3, w32c_4, w32c_5, w32c_6, w32c_7, w32c_8, w32c_9, w32c_10, w32c_11, w32c_12, w32c_13, w32c_14, w32c_m1, w32c_m2, w32c_118, Int.reduceAdd, Int.reduceSub, Int.reduceMul, yput_s, yput_n, znl_n, znl_0, znl_1, znl_4, ysum_n, ysum_0, ysum_1, ysum_4, true_and, and_true, Nat.reduceAdd, Nat.reduceLeDiff, true_implies, eq_self, true_or, or_true, or_false, false_or, not_true_eq_false, not_false_eq_true, false_implies, implies_true, yset_s, yset_o, yset_d, ne_eq, Nat.reduceEqDiff, Int.reduceToNat, Int.reduceEq, Int.reduceLE, Int.reduceLT, Classical.not_not, Nat.reduceLT, ↓zvk_s, ↓zvk_n, ↓s_249_0, ↓s_249_1, ↓s_249_4, ↓s_249_5, ↓s_249_6, ↓s_249_7, ↓s_249_10, ↓s_249_12, ↓s_249_13, ↓s_249_14, ↓s_249_17, ↓s_249_20, ↓s_249_21, ↓s_249_22, ↓s_249_25, ↓s_249_26, ↓s_249_27, ↓s_249_28, ↓s_249_30, ↓s_249_33, ↓s_249_34, ↓s_249_35, ↓s_249_38, ↓s_249_39, ↓s_249_40, ↓s_249_41, ↓s_249_44, ↓s_249_45, ↓s_249_46, ↓s_249_48, ↓s_249_51, ↓s_249_52, ↓s_249_53, ↓s_249_56, ↓s_249_57, ↓s_249_58, ↓s_249_60, ↓s_249_63, ↓g_249_64, ↓k_249_64, ↓s_249_65, ↓s_249_68, ↓s_249_69, ↓s_249_70, ↓s_249_73, ↓s_249_74, ↓g_249_77, ↓k_249_77, ↓s_249_78, ↓s_249_81, ↓s_249_82, ↓s_249_83, ↓s_249_84, ↓s_249_85, ↓s_249_88, ↓s_249_89, ↓s_249_90, ↓s_249_91, ↓s_249_92, ↓s_249_95, ↓s_249_96, ↓s_249_97, ↓g_249_98, ↓k_249_98, ↓s_249_99, ↓s_249_101, ↓s_249_104, ↓s_249_107, ↓s_249_108, ↓s_249_111, ↓s_249_112, ↓s_249_115, ↓s_249_116, ↓s_249_117, ↓s_249_120, ↓s_249_121, ↓s_249_122, ↓s_249_125, ↓s_249_126, ↓s_249_127, ↓s_249_128, ↓s_249_130, ↓s_249_133, ↓g_249_134, ↓k_249_134, ↓s_249_135, ↓s_249_137, ↓s_249_140, ↓s_249_143, ↓s_249_144, ↓s_249_147, ↓s_249_148, ↓s_249_151, ↓s_249_152, ↓s_249_153, ↓s_249_154, ↓s_249_156, ↓s_249_159, ↓g_249_160, ↓k_249_160, ↓s_249_161, ↓s_249_162, ↓s_249_163, ↓s_249_164, ↓s_249_167, ↓s_249_168, ↓s_249_169, ↓s_249_172, w32c_40, w32c_99, ↓s_198_0, ↓s_198_1, ↓s_198_4, ↓s_198_7, ↓s_198_8, ↓s_198_11, ↓s_198_14, ↓s_198_15, ↓s_198_18, ↓s_198_19, ↓s_198_22, ↓s_198_23, ↓s_198_26, ↓s_198_27, zar_101, zia_101, zln_101, zit_101, zar_102, zia_102, zln_102, zit_102, zar_103, zia_103, zln_103, zit_103, zar_104, zia_104, zln_104, zit_104, zar_105, zia_105, zln_105, zit_105, zar_106, zia_106, zln_106, zit_106, zar_107, zia_107, zln_107, zit_107, zio_95, q1, q2]
        exact f0
    · simp only [ynok_30, ynok_31, w32c_0, w32c_1, w32c_2, w32c_3, w32c_4, w32c_5, w32c_6, w32c_7, w32c_8, w32c_9, w32c_10, w32c_11, w32c_12, w32c_13, w32c_14, w32c_m1, w32c_m2, w32c_118, Int.reduceAdd, Int.reduceSub, Int.reduceMul, yput_s, yput_n, znl_n, znl_0, znl_1, znl_4, ysum_n, ysum_0, ysum_1, ysum_4, true_and, and_true, Nat.reduceAdd, Nat.reduceLeDiff, true_implies, eq_self, true_or, or_true, or_false, false_or, not_true_eq_false, not_false_eq_true, false_implies, implies_true, yset_s, yset_o, yset_d, ne_eq, Nat.reduceEqDiff, Int.reduceToNat, Int.reduceEq, Int.reduceLE, Int.reduceLT, Classical.not_not, Nat.reduceLT, ↓zvk_s, ↓zvk_n, ↓s_249_0, ↓s_249_1, ↓s_249_4, ↓s_249_5, ↓s_249_6, ↓s_249_7, ↓s_249_10, ↓s_249_12, ↓s_249_13, ↓s_249_14, ↓s_249_17, ↓s_249_20, ↓s_249_21, ↓s_249_22, ↓s_249_25, ↓s_249_26, ↓s_249_27, ↓s_249_28, ↓s_249_30, ↓s_249_33, ↓s_249_34, ↓s_249_35, ↓s_249_38, ↓s_249_39, ↓s_249_40, ↓s_249_41, ↓s_249_44, ↓s_249_45, ↓s_249_46, ↓s_249_48, ↓s_249_51, ↓s_249_52, ↓s_249_53, ↓s_249_56, ↓s_249_57, ↓s_249_58, ↓s_249_60, ↓s_249_63, ↓g_249_64, ↓k_249_64, ↓s_249_65, ↓s_249_68, ↓s_249_69, ↓s_249_70, ↓s_249_73, ↓s_249_74, ↓g_249_77, ↓k_249_77, ↓s_249_78, ↓s_249_81, ↓s_249_82, ↓s_249_83, ↓s_249_84, ↓s_249_85, ↓s_249_88, ↓s_249_89, ↓s_249_90, ↓s_249_91, ↓s_249_92, ↓s_249_95, ↓s_249_96, ↓s_249_97, ↓g_249_98, ↓k_249_98, ↓s_249_99, ↓s_249_101, ↓s_249_104, ↓s_249_107, ↓s_249_108, ↓s_249_111, ↓s_249_112, ↓s_249_115, ↓s_249_116, ↓s_249_117, ↓s_249_120, ↓s_249_121, ↓s_249_122, ↓s_249_125, ↓s_249_126, ↓s_249_127, ↓s_249_128, ↓s_249_130, ↓s_249_133, ↓g_249_134, ↓k_249_134, ↓s_249_135, ↓s_249_137, ↓s_249_140, ↓s_249_143, ↓s_249_144, ↓s_249_147, ↓s_249_148, ↓s_249_151, ↓s_249_152, ↓s_249_153, ↓s_249_154, ↓s_249_156, ↓s_249_159, ↓g_249_160, ↓k_249_160, ↓s_249_161, ↓s_249_162, ↓s_249_163, ↓s_249_164, ↓s_249_167, ↓s_249_168, ↓s_249_169, ↓s_249_172, w32c_40, w32c_99, ↓s_198_0, ↓s_198_1, ↓s_198_4, ↓s_198_7, ↓s_198_8, ↓s_198_11, ↓s_198_14, ↓s_198_15, ↓s_198_18, ↓s_198_19, ↓s_198_22, ↓s_198_23, ↓s_198_26, ↓s_198_27, zar_101, zia_101, zln_101, zit_101, zar_102, zia_102, zln_102, zit_102, zar_103, zia_103, zln_103, zit_103, zar_104, zia_104, zln_104, zit_104, zar_105, zia_105, zln_105, zit_105, zar_106, zia_106, zln_106, zit_106, zar_107, zia_107, zln_107, zit_107, zio_95, q1]
      exact f0
theorem rw77 (hE : yEok E) (hd : 8 ≤ d) (hl : len < 6) (hv : w32 v = ((6 + len : Nat) : Int)) (hb : w32 (b 97 8) = (len : Int)) {nm : List Int} (hN : rNm b 98 0 3 nm) (h : rTk ch n m y) (hS : RvS b m len y (a1, a2, a3, a4, a5, a6, a7)) (fin : ∀ m', (∀ i j, ¬ rvF len i j → m' i j = b i j) → rTk ch n m' (pV3 (pV2 nm y).1).1 → w32 (m' 97 8) = ((len + 1 : Nat) : Int) → (yOk (pV3 (pV2 nm y).1).1 → rVs m' (6 + len) (a1, a2, a3, a4, (pV2 nm y).2.1, (pV2 nm y).2.2, (pV3 (pV2 nm y).1).2)) → Q none m') : zG E (d + 1) xm_249 77 [some (1, 95), some (0, v)] [] m Q := by
  have hvt : (w32 v).toNat = 6 + len := by rw [hv]; exact Int.toNat_natCast _
  refine zgo_ok (n := 60) hE xmo_249 (cs := zc_249) ?_
  simp only [ynok_30, ynok_31, w32c_0, w32c_1, w32c_2, w32c_3, w32c_4, w32c_5, w32c_6, w32c_7, w32c_8, w32c_9, w32c_10, w32c_11, w32c_12, w32c_13, w32c_14, w32c_m1, w32c_m2, w32c_118, Int.reduceAdd, Int.reduceSub, Int.reduceMul, yput_s, yput_n, znl_n, znl_0, znl_1, znl_4, ysum_n, ysum_0, ysum_1, ysum_4, true_and, and_true, Nat.reduceAdd, Nat.reduceLeDiff, true_implies, eq_self, true_or, or_true, or_false, false_or, not_true_eq_false, not_false_eq_true, false_implies, implies_true, yset_s, yset_o, yset_d, ne_eq, Nat.reduceEqDiff, Int.reduceToNat, Int.reduceEq, Int.reduceLE, Int.reduceLT, Classical.not_not, Nat.reduceLT, ↓zvk_s, ↓zvk_n, ↓s_249_0, ↓s_249_1, ↓s_249_4, ↓s_249_5, ↓s_249_6, ↓s_249_7, ↓s_249_10, ↓s_249_12, ↓s_249_13, ↓s_249_14, ↓s_249_17, ↓s_249_20, ↓s_249_21, ↓s_249_22, ↓s_249_25, ↓s_249_26, ↓s_249_27, ↓s_249_28, ↓s_249_30, ↓s_249_33, ↓s_249_34, ↓s_249_35, ↓s_249_38, ↓s_249_39, ↓s_249_40, ↓s_249_41, ↓s_249_44, ↓s_249_45, ↓s_249_46, ↓s_249_48, ↓s_249_51, ↓s_249_52, ↓s_249_53, ↓s_249_56, ↓s_249_57, ↓s_249_58, ↓s_249_60, ↓s_249_63, ↓g_249_64, ↓k_249_64, ↓s_249_65, ↓s_249_68, ↓s_249_69, ↓s_249_70, ↓s_249_73, ↓s_249_74, ↓g_249_77, ↓k_249_77, ↓s_249_78, ↓s_249_81, ↓s_249_82, ↓s_249_83, ↓s_249_84, ↓s_249_85, ↓s_249_88, ↓s_249_89, ↓s_249_90, ↓s_249_91, ↓s_249_92, ↓s_249_95, ↓s_249_96, ↓s_249_97, ↓g_249_98, ↓k_249_98, ↓s_249_99, ↓s_249_101, ↓s_249_104, ↓s_249_107, ↓s_249_108, ↓s_249_111, ↓s_249_112, ↓s_249_115, ↓s_249_116, ↓s_249_117, ↓s_249_120, ↓s_249_121, ↓s_249_122, ↓s_249_125, ↓s_249_126, ↓s_249_127, ↓s_249_128, ↓s_249_130, ↓s_249_133, ↓g_249_134, ↓k_249_134, ↓s_249_135, ↓s_249_137, ↓s_249_140, ↓s_249_143, ↓s_249_144, ↓s_249_147, ↓s_249_148, ↓s_249_151, ↓s_249_152, ↓s_249_153, ↓s_249_154, ↓s_249_156, ↓s_249_159, ↓g_249_160, ↓k_249_160, ↓s_249_161, ↓s_249_162, ↓s_249_163, ↓s_249_164, ↓s_249_167, ↓s_249_168, ↓s_249_169, ↓s_249_172, w32c_40, w32c_99, zar_101, zia_101, zln_101, zit_101, zar_102, zia_102, zln_102, zit_102, zar_103, zia_103, zln_103, zit_103, zar_104, zia_104, zln_104, zit_104, zar_105, zia_105, zln_105, zit_105, zar_106, zia_106, zln_106, zit_106, zar_107, zia_107, zln_107, zit_107, zio_95]
  refine ⟨⟨by omega, by omega⟩, ⟨by omega, by omega⟩, ⟨by omega, by omega⟩, ?_⟩
  rw [hvt]
  have S1 : RvS b (yset m 105 (6 + len) (-1)) len y (a1, a2, a3, a4, -1, a6, a7) := RvS_set hS (by decide) (fun z => by
    obtain ⟨c1, c2, c3, c4, c5, c6, c7⟩ := hS.2.2 z
    exact ⟨by rw [yset_o (by decide)]; exact c1, by rw [yset_o (by decide)]; exact c2, by rw [yset_o (by decide)]; exact c3, by rw [yset_o (by decide)]; exact c4, by rw [yset_s]; exact w32c_m1, by rw [yset_o (by decide)]; exact c6, by rw [yset_o (by decide)]; exact c7⟩)
  have S2 : RvS b (yset (yset m 105 (6 + len) (-1)) 106 (6 + len) 0) len y (a1, a2, a3, a4, -1, 0, a7) := RvS_set S1 (by decide) (fun z => by
    obtain ⟨c1, c2, c3, c4, c5, c6, c7⟩ := S1.2.2 z
    exact ⟨by rw [yset_o (by decide)]; exact c1, by rw [yset_o (by decide)]; exact c2, by rw [yset_o (by decide)]; exact c3, by rw [yset_o (by decide)]; exact c4, by rw [yset_o (by decide)]; exact c5, by rw [yset_s]; exact w32c_0, by rw [yset_o (by decide)]; exact c7⟩)
  have S3 : RvS b (yset (yset (yset m 105 (6 + len) (-1)) 106 (6 + len) 0) 107 (6 + len) 1) len y (a1, a2, a3, a4, -1, 0, 1) := RvS_set S2 (by decide) (fun z => by
    obtain ⟨c1, c2, c3, c4, c5, c6, c7⟩ := S2.2.2 z
    exact ⟨by rw [yset_o (by decide)]; exact c1, by rw [yset_o (by decide)]; exact c2, by rw [yset_o (by decide)]; exact c3, by rw [yset_o (by decide)]; exact c4, by rw [yset_o (by decide)]; exact c5, by rw [yset_o (by decide)]; exact c6, by rw [yset_s]; exact w32c_1⟩)
  exact rw98 hE hd hl hv hb hN (rTk_s (rTk_s (rTk_s h (by decide)) (by decide)) (by decide)) S3 fin
theorem rw64 (hE : yEok E) (hd : 8 ≤ d) (hl : len < 6) (hv : w32 v = ((6 + len : Nat) : Int)) (hb : w32 (b 97 8) = (len : Int)) {nm : List Int} (hN : rNm b 98 0 3 nm) (h : rTk ch n m y) (hbo : w32 (m 104 (6 + len)) = (pV1 y).2) (hS : RvS b m len y (a1, a2, a3, (pV1 y).2, a5, a6, a7)) (fin : ∀ m', (∀ i j, ¬ rvF len i j → m' i j = b i j) → rTk ch n m' (pV3 (pV2 nm (pV1 y).1).1).1 → w32 (m' 97 8) = ((len + 1 : Nat) : Int) → (yOk (pV3 (pV2 nm (pV1 y).1).1).1 → rVs m' (6 + len) (a1, a2, a3, (pV1 y).2, (pV2 nm (pV1 y).1).2.1, (pV2 nm (pV1 y).1).2.2, (pV3 (pV2 nm (pV1 y).1).1).2)) → Q none m') : zG E (d + 1) xm_249 64 [some (1, 95), some (0, v)] [] m Q := by
  have hvt : (w32 v).toNat = 6 + len := by rw [hv]; exact Int.toNat_natCast _
  refine zgo_ok (n := 60) hE xmo_249 (cs := zc_249) ?_
  simp only [ynok_30, ynok_31, w32c_0, w32c_1, w32c_2, w32c_3, w32c_4, w32c_5, w32c_6, w32c_7, w32c_8, w32c_9, w32c_10, w32c_11, w32c_12, w32c_13, w32c_14, w32c_m1, w32c_m2, w32c_118, Int.reduceAdd, Int.reduceSub, Int.reduceMul, yput_s, yput_n, znl_n, znl_0, znl_1, znl_4, ysum_n, ysum_0, ysum_1, ysum_4, true_and, and_true, Nat.reduceAdd, Nat.reduceLeDiff, true_implies, eq_self, true_or, or_true, or_false, false_or, not_true_eq_false, not_false_eq_true, false_implies, implies_true, yset_s, yset_o, yset_d, ne_eq, Nat.reduceEqDiff, Int.reduceToNat, Int.reduceEq, Int.reduceLE, Int.reduceLT, Classical.not_not, Nat.reduceLT, ↓zvk_s, ↓zvk_n, ↓s_249_0, ↓s_249_1, ↓s_249_4, ↓s_249_5, ↓s_249_6, ↓s_249_7, ↓s_249_10, ↓s_249_12, ↓s_249_13, ↓s_249_14, ↓s_249_17, ↓s_249_20, ↓s_249_21, ↓s_249_22, ↓s_249_25, ↓s_249_26, ↓s_249_27, ↓s_249_28, ↓s_249_30, ↓s_249_33, ↓s_249_34, ↓s_249_35, ↓s_249_38, ↓s_249_39, ↓s_249_40, ↓s_249_41, ↓s_249_44, ↓s_249_45, ↓s_249_46, ↓s_249_48, ↓s_249_51, ↓s_249_52, ↓s_249_53, ↓s_249_56, ↓s_249_57, ↓s_249_58, ↓s_249_60, ↓s_249_63, ↓g_249_64, ↓k_249_64, ↓s_249_65, ↓s_249_68, ↓s_249_69, ↓s_249_70, ↓s_249_73, ↓s_249_74, ↓g_249_77, ↓k_249_77, ↓s_249_78, ↓s_249_81, ↓s_249_82, ↓s_249_83, ↓s_249_84, ↓s_249_85, ↓s_249_88, ↓s_249_89, ↓s_249_90, ↓s_249_91, ↓s_249_92, ↓s_249_95, ↓s_249_96, ↓s_249_97, ↓g_249_98, ↓k_249_98, ↓s_249_99, ↓s_249_101, ↓s_249_104, ↓s_249_107, ↓s_249_108, ↓s_249_111, ↓s_249_112, ↓s_249_115, ↓s_249_116, ↓s_249_117, ↓s_249_120, ↓s_249_121, ↓s_249_122, ↓s_249_125, ↓s_249_126, ↓s_249_127, ↓s_249_128, ↓s_249_130, ↓s_249_133, ↓g_249_134, ↓k_249_134, ↓s_249_135, ↓s_249_137, ↓s_249_140, ↓s_249_143, ↓s_249_144, ↓s_249_147, ↓s_249_148, ↓s_249_151, ↓s_249_152, ↓s_249_153, ↓s_249_154, ↓s_249_156, ↓s_249_159, ↓g_249_160, ↓k_249_160, ↓s_249_161, ↓s_249_162, ↓s_249_163, ↓s_249_164, ↓s_249_167, ↓s_249_168, ↓s_249_169, ↓s_249_172, w32c_40, w32c_99, zar_101, zia_101, zln_101, zit_101, zar_102, zia_102, zln_102, zit_102, zar_103, zia_103, zln_103, zit_103, zar_104, zia_104, zln_104, zit_104, zar_105, zia_105, zln_105, zit_105, zar_106, zia_106, zln_106, zit_106, zar_107, zia_107, zln_107, zit_107, zio_95]
  refine ⟨⟨by omega, by omega⟩, ?_⟩
  rw [hvt, hbo]
  by_cases hk : yKd y = 24
  · have ep : pV1 y = (yNx y, 1) := by unfold pV1; rw [if_pos hk]
    rw [ep] at hS fin ⊢
    refine ⟨fun z => absurd z (show ¬ (1 : Int) = 0 by decide), fun _ => ?_⟩
    obtain ⟨l, rfl⟩ := yOk_kd (x := y) (by omega)
    refine rf_token hE (by omega) h (fun m1 F1 T1 => ?_)
    refine zgk_n hE xmo_249 60 zc_249 ?_
    simp only [ynok_30, ynok_31, w32c_0, w32c_1, w32c_2, w32c_3, w32c_4, w32c_5, w32c_6, w32c_7, w32c_8, w32c_9, w32c_10, w32c_11, w32c_12, w32c_13, w32c_14, w32c_m1, w32c_m2, w32c_118, Int.reduceAdd, Int.reduceSub, Int.reduceMul, yput_s, yput_n, znl_n, znl_0, znl_1, znl_4, ysum_n, ysum_0, ysum_1, ysum_4, true_and, and_true, Nat.reduceAdd, Nat.reduceLeDiff, true_implies, eq_self, true_or, or_true, or_false, false_or, not_true_eq_false, not_false_eq_true, false_implies, implies_true, yset_s, yset_o, yset_d, ne_eq, Nat.reduceEqDiff, Int.reduceToNat, Int.reduceEq, Int.reduceLE, Int.reduceLT, Classical.not_not, Nat.reduceLT, ↓zvk_s, ↓zvk_n, ↓s_249_0, ↓s_249_1, ↓s_249_4, ↓s_249_5, ↓s_249_6, ↓s_249_7, ↓s_249_10, ↓s_249_12, ↓s_249_13, ↓s_249_14, ↓s_249_17, ↓s_249_20, ↓s_249_21, ↓s_249_22, ↓s_249_25, ↓s_249_26, ↓s_249_27, ↓s_249_28, ↓s_249_30, ↓s_249_33, ↓s_249_34, ↓s_249_35, ↓s_249_38, ↓s_249_39, ↓s_249_40, ↓s_249_41, ↓s_249_44, ↓s_249_45, ↓s_249_46, ↓s_249_48, ↓s_249_51, ↓s_249_52, ↓s_249_53, ↓s_249_56, ↓s_249_57, ↓s_249_58, ↓s_249_60, ↓s_249_63, ↓g_249_64, ↓k_249_64, ↓s_249_65, ↓s_249_68, ↓s_249_69, ↓s_249_70, ↓s_249_73, ↓s_249_74, ↓g_249_77, ↓k_249_77, ↓s_249_78, ↓s_249_81, ↓s_249_82, ↓s_249_83, ↓s_249_84, ↓s_249_85, ↓s_249_88, ↓s_249_89, ↓s_249_90, ↓s_249_91, ↓s_249_92, ↓s_249_95, ↓s_249_96, ↓s_249_97, ↓g_249_98, ↓k_249_98, ↓s_249_99, ↓s_249_101, ↓s_249_104, ↓s_249_107, ↓s_249_108, ↓s_249_111, ↓s_249_112, ↓s_249_115, ↓s_249_116, ↓s_249_117, ↓s_249_120, ↓s_249_121, ↓s_249_122, ↓s_249_125, ↓s_249_126, ↓s_249_127, ↓s_249_128, ↓s_249_130, ↓s_249_133, ↓g_249_134, ↓k_249_134, ↓s_249_135, ↓s_249_137, ↓s_249_140, ↓s_249_143, ↓s_249_144, ↓s_249_147, ↓s_249_148, ↓s_249_151, ↓s_249_152, ↓s_249_153, ↓s_249_154, ↓s_249_156, ↓s_249_159, ↓g_249_160, ↓k_249_160, ↓s_249_161, ↓s_249_162, ↓s_249_163, ↓s_249_164, ↓s_249_167, ↓s_249_168, ↓s_249_169, ↓s_249_172, w32c_40, w32c_99, zar_101, zia_101, zln_101, zit_101, zar_102, zia_102, zln_102, zit_102, zar_103, zia_103, zln_103, zit_103, zar_104, zia_104, zln_104, zit_104, zar_105, zia_105, zln_105, zit_105, zar_106, zia_106, zln_106, zit_106, zar_107, zia_107, zln_107, zit_107, zio_95]
    exact rw77 (y := yNx (.inr l)) hE hd hl hv hb hN T1 (RvS_tk hS (aFrm_w F1 (by decide)) yOk_nx) fin
  · have ep : pV1 y = (y, 0) := by unfold pV1; rw [if_neg hk]
    rw [ep] at hS fin ⊢
    exact ⟨fun _ => rw77 hE hd hl hv hb hN h hS fin, fun z => absurd rfl z⟩
/-- THE REFERENCE'S voiceLine -/
theorem rf_voiceLine (hE : yEok E) {D : Nat} (hD : 10 ≤ D) {tn nv : List Int} (hl : nv.length < 6) (hv : w32 v = ((6 + nv.length : Nat) : Int)) (h : rTk ch n mem x) (hN : rNm mem 98 0 3 tn) (hV : rNm mem 101 1 6 nv) (hQ : ∀ m, (∀ i j, ¬ rvF nv.length i j → m i j = mem i j) → rTk ch n m (pVn tn (yVl x) (yFr nv x)).1 → w32 (m 97 8) = ((nv.length + 1 : Nat) : Int) → (yOk (pVn tn (yVl x) (yFr nv x)).1 → rVs m (6 + nv.length) (pVn tn (yVl x) (yFr nv x)).2) → Q none m) : yCon E D xm_249 [(1, 95), (0, v)] mem Q := by
  obtain ⟨d, rfl⟩ := Nat.exists_eq_add_of_le' hD
  have hvt : (w32 v).toNat = 6 + nv.length := by rw [hv]; exact Int.toNat_natCast _
  refine e_249 ?_
  refine zvc_ok hE 60 zc_249 _ _ _ _ _ _ _ xmo_249 ?_
  simp only [ynok_30, ynok_31, w32c_0, w32c_1, w32c_2, w32c_3, w32c_4, w32c_5, w32c_6, w32c_7, w32c_8, w32c_9, w32c_10, w32c_11, w32c_12, w32c_13, w32c_14, w32c_m1, w32c_m2, w32c_118, Int.reduceAdd, Int.reduceSub, Int.reduceMul, yput_s, yput_n, znl_n, znl_0, znl_1, znl_4, ysum_n, ysum_0, ysum_1, ysum_4, true_and, and_true, Nat.reduceAdd, Nat.reduceLeDiff, true_implies, eq_self, true_or, or_true, or_false, false_or, not_true_eq_false, not_false_eq_true, false_implies, implies_true, yset_s, yset_o, yset_d, ne_eq, Nat.reduceEqDiff, Int.reduceToNat, Int.reduceEq, Int.reduceLE, Int.reduceLT, Classical.not_not, Nat.reduceLT, ↓zvk_s, ↓zvk_n, ↓s_249_0, ↓s_249_1, ↓s_249_4, ↓s_249_5, ↓s_249_6, ↓s_249_7, ↓s_249_10, ↓s_249_12, ↓s_249_13, ↓s_249_14, ↓s_249_17, ↓s_249_20, ↓s_249_21, ↓s_249_22, ↓s_249_25, ↓s_249_26, ↓s_249_27, ↓s_249_28, ↓s_249_30, ↓s_249_33, ↓s_249_34, ↓s_249_35, ↓s_249_38, ↓s_249_39, ↓s_249_40, ↓s_249_41, ↓s_249_44, ↓s_249_45, ↓s_249_46, ↓s_249_48, ↓s_249_51, ↓s_249_52, ↓s_249_53, ↓s_249_56, ↓s_249_57, ↓s_249_58, ↓s_249_60, ↓s_249_63, ↓g_249_64, ↓k_249_64, ↓s_249_65, ↓s_249_68, ↓s_249_69, ↓s_249_70, ↓s_249_73, ↓s_249_74, ↓g_249_77, ↓k_249_77, ↓s_249_78, ↓s_249_81, ↓s_249_82, ↓s_249_83, ↓s_249_84, ↓s_249_85, ↓s_249_88, ↓s_249_89, ↓s_249_90, ↓s_249_91, ↓s_249_92, ↓s_249_95, ↓s_249_96, ↓s_249_97, ↓g_249_98, ↓k_249_98, ↓s_249_99, ↓s_249_101, ↓s_249_104, ↓s_249_107, ↓s_249_108, ↓s_249_111, ↓s_249_112, ↓s_249_115, ↓s_249_116, ↓s_249_117, ↓s_249_120, ↓s_249_121, ↓s_249_122, ↓s_249_125, ↓s_249_126, ↓s_249_127, ↓s_249_128, ↓s_249_130, ↓s_249_133, ↓g_249_134, ↓k_249_134, ↓s_249_135, ↓s_249_137, ↓s_249_140, ↓s_249_143, ↓s_249_144, ↓s_249_147, ↓s_249_148, ↓s_249_151, ↓s_249_152, ↓s_249_153, ↓s_249_154, ↓s_249_156, ↓s_249_159, ↓g_249_160, ↓k_249_160, ↓s_249_161, ↓s_249_162, ↓s_249_163, ↓s_249_164, ↓s_249_167, ↓s_249_168, ↓s_249_169, ↓s_249_172, w32c_40, w32c_99, ↓s_170_0, ↓s_170_1, ↓s_170_4, ↓s_170_6, ↓s_170_7, ↓s_170_8, ↓s_170_9, zar_97, zia_97, zln_97, zit_97, zar_101, zia_101, zln_101, zit_101, zar_102, zia_102, zln_102, zit_102, zar_103, zia_103, zln_103, zit_103, zar_104, zia_104, zln_104, zit_104, zar_105, zia_105, zln_105, zit_105, zar_106, zia_106, zln_106, zit_106, zar_107, zia_107, zln_107, zit_107, zio_95]
  refine ⟨by omega, ?_⟩
  refine rf_fresh hE (by omega) (z := 101) (L := 12) (q := 1) (off := 6) zar_101 w32c_6 hV.1 (by decide) (by decide) hV h (fun r m1 F1 T1 e1 => ?_)
  refine zgk_s hE xmo_249 60 zc_249 ?_
  simp only [ynok_30, ynok_31, w32c_0, w32c_1, w32c_2, w32c_3, w32c_4, w32c_5, w32c_6, w32c_7, w32c_8, w32c_9, w32c_10, w32c_11, w32c_12, w32c_13, w32c_14, w32c_m1, w32c_m2, w32c_118, Int.reduceAdd, Int.reduceSub, Int.reduceMul, yput_s, yput_n, znl_n, znl_0, znl_1, znl_4, ysum_n, ysum_0, ysum_1, ysum_4, true_and, and_true, Nat.reduceAdd, Nat.reduceLeDiff, true_implies, eq_self, true_or, or_true, or_false, false_or, not_true_eq_false, not_false_eq_true, false_implies, implies_true, yset_s, yset_o, yset_d, ne_eq, Nat.reduceEqDiff, Int.reduceToNat, Int.reduceEq, Int.reduceLE, Int.reduceLT, Classical.not_not, Nat.reduceLT, ↓zvk_s, ↓zvk_n, ↓s_249_0, ↓s_249_1, ↓s_249_4, ↓s_249_5, ↓s_249_6, ↓s_249_7, ↓s_249_10, ↓s_249_12, ↓s_249_13, ↓s_249_14, ↓s_249_17, ↓s_249_20, ↓s_249_21, ↓s_249_22, ↓s_249_25, ↓s_249_26, ↓s_249_27, ↓s_249_28, ↓s_249_30, ↓s_249_33, ↓s_249_34, ↓s_249_35, ↓s_249_38, ↓s_249_39, ↓s_249_40, ↓s_249_41, ↓s_249_44, ↓s_249_45, ↓s_249_46, ↓s_249_48, ↓s_249_51, ↓s_249_52, ↓s_249_53, ↓s_249_56, ↓s_249_57, ↓s_249_58, ↓s_249_60, ↓s_249_63, ↓g_249_64, ↓k_249_64, ↓s_249_65, ↓s_249_68, ↓s_249_69, ↓s_249_70, ↓s_249_73, ↓s_249_74, ↓g_249_77, ↓k_249_77, ↓s_249_78, ↓s_249_81, ↓s_249_82, ↓s_249_83, ↓s_249_84, ↓s_249_85, ↓s_249_88, ↓s_249_89, ↓s_249_90, ↓s_249_91, ↓s_249_92, ↓s_249_95, ↓s_249_96, ↓s_249_97, ↓g_249_98, ↓k_249_98, ↓s_249_99, ↓s_249_101, ↓s_249_104, ↓s_249_107, ↓s_249_108, ↓s_249_111, ↓s_249_112, ↓s_249_115, ↓s_249_116, ↓s_249_117, ↓s_249_120, ↓s_249_121, ↓s_249_122, ↓s_249_125, ↓s_249_126, ↓s_249_127, ↓s_249_128, ↓s_249_130, ↓s_249_133, ↓g_249_134, ↓k_249_134, ↓s_249_135, ↓s_249_137, ↓s_249_140, ↓s_249_143, ↓s_249_144, ↓s_249_147, ↓s_249_148, ↓s_249_151, ↓s_249_152, ↓s_249_153, ↓s_249_154, ↓s_249_156, ↓s_249_159, ↓g_249_160, ↓k_249_160, ↓s_249_161, ↓s_249_162, ↓s_249_163, ↓s_249_164, ↓s_249_167, ↓s_249_168, ↓s_249_169, ↓s_249_172, w32c_40, w32c_99, ↓s_170_0, ↓s_170_1, ↓s_170_4, ↓s_170_6, ↓s_170_7, ↓s_170_8, ↓s_170_9, zar_97, zia_97, zln_97, zit_97, zar_101, zia_101, zln_101, zit_101, zar_102, zia_102, zln_102, zit_102, zar_103, zia_103, zln_103, zit_103, zar_104, zia_104, zln_104, zit_104, zar_105, zia_105, zln_105, zit_105, zar_106, zia_106, zln_106, zit_106, zar_107, zia_107, zln_107, zit_107, zio_95]
  refine ⟨⟨by omega, by omega⟩, ?_⟩
  rw [hvt]
  have S1 : RvS mem (yset m1 101 (6 + nv.length) r) nv.length (yFr nv x) (yVl x, w32 (m1 102 (6 + nv.length)), w32 (m1 103 (6 + nv.length)), w32 (m1 104 (6 + nv.length)), w32 (m1 105 (6 + nv.length)), w32 (m1 106 (6 + nv.length)), w32 (m1 107 (6 + nv.length))) := by
    refine ⟨rvF_fr (fun i j hv => F1 i j (amod_r (fun z => hv (Or.inr (Or.inr z))))) (Or.inl ⟨by decide, by decide, rfl⟩), by rw [yset_o (by decide)]; exact F1 97 8 rfl, fun z => ?_⟩
    obtain ⟨l, hl⟩ := z
    exact ⟨by rw [yset_s]; exact e1 l hl, by rw [yset_o (by decide)], by rw [yset_o (by decide)], by rw [yset_o (by decide)], by rw [yset_o (by decide)], by rw [yset_o (by decide)], by rw [yset_o (by decide)]⟩
  have T1' := rTk_s (c := 101) (k := 6 + nv.length) (z := r) T1 (by decide)
  revert S1 T1' hQ
  generalize yFr nv x = y
  generalize yset m1 101 (6 + nv.length) r = m2
  generalize yVl x = a1
  generalize w32 (m1 102 (6 + nv.length)) = a2
  generalize w32 (m1 103 (6 + nv.length)) = a3
  generalize w32 (m1 104 (6 + nv.length)) = a4
  generalize w32 (m1 105 (6 + nv.length)) = a5
  generalize w32 (m1 106 (6 + nv.length)) = a6
  generalize w32 (m1 107 (6 + nv.length)) = a7
  intro hQ S1 T1'
  have bd := yNm_bd 1 40 y (by decide)
  refine rf_numeral hE (by omega) T1' (by decide) (by decide) (fun r2 m3 F3 e3 T3 => ?_)
  rw [w32c_1, show w32 40 = 40 by decide] at e3 T3
  refine zgk_s hE xmo_249 60 zc_249 ?_
  simp only [ynok_30, ynok_31, w32c_0, w32c_1, w32c_2, w32c_3, w32c_4, w32c_5, w32c_6, w32c_7, w32c_8, w32c_9, w32c_10, w32c_11, w32c_12, w32c_13, w32c_14, w32c_m1, w32c_m2, w32c_118, Int.reduceAdd, Int.reduceSub, Int.reduceMul, yput_s, yput_n, znl_n, znl_0, znl_1, znl_4, ysum_n, ysum_0, ysum_1, ysum_4, true_and, and_true, Nat.reduceAdd, Nat.reduceLeDiff, true_implies, eq_self, true_or, or_true, or_false, false_or, not_true_eq_false, not_false_eq_true, false_implies, implies_true, yset_s, yset_o, yset_d, ne_eq, Nat.reduceEqDiff, Int.reduceToNat, Int.reduceEq, Int.reduceLE, Int.reduceLT, Classical.not_not, Nat.reduceLT, ↓zvk_s, ↓zvk_n, ↓s_249_0, ↓s_249_1, ↓s_249_4, ↓s_249_5, ↓s_249_6, ↓s_249_7, ↓s_249_10, ↓s_249_12, ↓s_249_13, ↓s_249_14, ↓s_249_17, ↓s_249_20, ↓s_249_21, ↓s_249_22, ↓s_249_25, ↓s_249_26, ↓s_249_27, ↓s_249_28, ↓s_249_30, ↓s_249_33, ↓s_249_34, ↓s_249_35, ↓s_249_38, ↓s_249_39, ↓s_249_40, ↓s_249_41, ↓s_249_44, ↓s_249_45, ↓s_249_46, ↓s_249_48, ↓s_249_51, ↓s_249_52, ↓s_249_53, ↓s_249_56, ↓s_249_57, ↓s_249_58, ↓s_249_60, ↓s_249_63, ↓g_249_64, ↓k_249_64, ↓s_249_65, ↓s_249_68, ↓s_249_69, ↓s_249_70, ↓s_249_73, ↓s_249_74, ↓g_249_77, ↓k_249_77, ↓s_249_78, ↓s_249_81, ↓s_249_82, ↓s_249_83, ↓s_249_84, ↓s_249_85, ↓s_249_88, ↓s_249_89, ↓s_249_90, ↓s_249_91, ↓s_249_92, ↓s_249_95, ↓s_249_96, ↓s_249_97, ↓g_249_98, ↓k_249_98, ↓s_249_99, ↓s_249_101, ↓s_249_104, ↓s_249_107, ↓s_249_108, ↓s_249_111, ↓s_249_112, ↓s_249_115, ↓s_249_116, ↓s_249_117, ↓s_249_120, ↓s_249_121, ↓s_249_122, ↓s_249_125, ↓s_249_126, ↓s_249_127, ↓s_249_128, ↓s_249_130, ↓s_249_133, ↓g_249_134, ↓k_249_134, ↓s_249_135, ↓s_249_137, ↓s_249_140, ↓s_249_143, ↓s_249_144, ↓s_249_147, ↓s_249_148, ↓s_249_151, ↓s_249_152, ↓s_249_153, ↓s_249_154, ↓s_249_156, ↓s_249_159, ↓g_249_160, ↓k_249_160, ↓s_249_161, ↓s_249_162, ↓s_249_163, ↓s_249_164, ↓s_249_167, ↓s_249_168, ↓s_249_169, ↓s_249_172, w32c_40, w32c_99, ↓s_170_0, ↓s_170_1, ↓s_170_4, ↓s_170_6, ↓s_170_7, ↓s_170_8, ↓s_170_9, zar_97, zia_97, zln_97, zit_97, zar_101, zia_101, zln_101, zit_101, zar_102, zia_102, zln_102, zit_102, zar_103, zia_103, zln_103, zit_103, zar_104, zia_104, zln_104, zit_104, zar_105, zia_105, zln_105, zit_105, zar_106, zia_106, zln_106, zit_106, zar_107, zia_107, zln_107, zit_107, zio_95]
  refine ⟨⟨by omega, by omega⟩, ⟨by omega, by omega⟩, ?_⟩
  rw [hvt]
  have S3 := RvS_tk (y' := (yNm 1 40 y).2) S1 F3 yOk_nm
  have S4 : RvS mem (yset m3 102 (6 + nv.length) r2) nv.length (yNm 1 40 y).2 (a1, (yNm 1 40 y).1, a3, a4, a5, a6, a7) := RvS_set S3 (by decide) (fun z => by
    obtain ⟨c1, c2, c3, c4, c5, c6, c7⟩ := S3.2.2 z
    exact ⟨by rw [yset_o (by decide)]; exact c1, by rw [yset_s]; exact e3, by rw [yset_o (by decide)]; exact c3, by rw [yset_o (by decide)]; exact c4, by rw [yset_o (by decide)]; exact c5, by rw [yset_o (by decide)]; exact c6, by rw [yset_o (by decide)]; exact c7⟩)
  refine rf_numeral hE (by omega) (rTk_s T3 (by decide)) (by omega) (by decide) (fun r3 m4 F4 e4 T4 => ?_)
  rw [e3, show w32 40 = 40 by decide] at e4 T4
  have S5 := RvS_tk (y' := (yNm (yNm 1 40 y).1 40 (yNm 1 40 y).2).2) S4 F4 yOk_nm
  have S6 : RvS mem (yset m4 103 (6 + nv.length) r3) nv.length (yNm (yNm 1 40 y).1 40 (yNm 1 40 y).2).2 (a1, (yNm 1 40 y).1, (yNm (yNm 1 40 y).1 40 (yNm 1 40 y).2).1, a4, a5, a6, a7) := RvS_set S5 (by decide) (fun z => by
    obtain ⟨c1, c2, c3, c4, c5, c6, c7⟩ := S5.2.2 z
    exact ⟨by rw [yset_o (by decide)]; exact c1, by rw [yset_o (by decide)]; exact c2, by rw [yset_s]; exact e4, by rw [yset_o (by decide)]; exact c4, by rw [yset_o (by decide)]; exact c5, by rw [yset_o (by decide)]; exact c6, by rw [yset_o (by decide)]; exact c7⟩)
  refine zgk_s hE xmo_249 60 zc_249 ?_
  have T6 : rTk ch n (yset m4 103 (6 + nv.length) r3) (yNm (yNm 1 40 y).1 40 (yNm 1 40 y).2).2 := rTk_s T4 (by decide)
  unfold pVn at hQ
  revert S6 T6 hQ T4
  generalize (yNm (yNm 1 40 y).1 40 (yNm 1 40 y).2).2 = y3
  intro hQ T4 S6 T6
  have bst : ∀ z : Int, w32 z = (pV1 y3).2 → zG E (d + 9) xm_249 64 [some (1, 95), some (0, v)] [] (yset (yset m4 103 (w32 v).toNat r3) 104 (w32 v).toNat z) Q := fun z hz => by
    rw [hvt]
    refine rw64 (b := mem) hE (by omega) hl hv (by rw [hV.1]) hN (rTk_s T6 (by decide)) (by rw [yset_s]; exact hz) (a1 := a1) (a2 := (yNm 1 40 y).1) (a3 := (yNm (yNm 1 40 y).1 40 (yNm 1 40 y).2).1) (a5 := a5) (a6 := a6) (a7 := a7) (RvS_set S6 (by decide) (fun w => ?_)) hQ
    obtain ⟨c1, c2, c3, c4, c5, c6, c7⟩ := S6.2.2 w
    exact ⟨by rw [yset_o (by decide)]; exact c1, by rw [yset_o (by decide)]; exact c2, by rw [yset_o (by decide)]; exact c3, by rw [yset_s]; exact hz, by rw [yset_o (by decide)]; exact c5, by rw [yset_o (by decide)]; exact c6, by rw [yset_o (by decide)]; exact c7⟩
  by_cases hk : yKd y3 = 24
  · obtain ⟨q1, q2, q3⟩ := (rf_isw T4 (k0 := 24) (by decide) (by decide)).mpr hk
    have q3 : w32 (m4 95 30) = 8 := q3
    have b1 := bst 1 (by unfold pV1; rw [if_pos hk]; exact w32c_1)
    simp only [ynok_30, ynok_31, w32c_0, w32c_1, w32c_2, w32c_3, w32c_4, w32c_5, w32c_6, w32c_7, w32c_8, w32c_9, w32c_10, w32c_11, w32c_12, w32c_13, w32c_14, w32c_m1, w32c_m2, w32c_118, Int.reduceAdd, Int.reduceSub, Int.reduceMul, yput_s, yput_n, znl_n, znl_0, znl_1, znl_4, ysum_n, ysum_0, ysum_1, ysum_4, true_and, and_true, Nat.reduceAdd, Nat.reduceLeDiff, true_implies, eq_self, true_or, or_true, or_false, false_or, not_true_eq_false, not_false_eq_true, false_implies, implies_true, yset_s, yset_o, yset_d, ne_eq, Nat.reduceEqDiff, Int.reduceToNat, Int.reduceEq, Int.reduceLE, Int.reduceLT, Classical.not_not, Nat.reduceLT, ↓zvk_s, ↓zvk_n, ↓s_249_0, ↓s_249_1, ↓s_249_4, ↓s_249_5, ↓s_249_6, ↓s_249_7, ↓s_249_10, ↓s_249_12, ↓s_249_13, ↓s_249_14, ↓s_249_17, ↓s_249_20, ↓s_249_21, ↓s_249_22, ↓s_249_25, ↓s_249_26, ↓s_249_27, ↓s_249_28, ↓s_249_30, ↓s_249_33, ↓s_249_34, ↓s_249_35, ↓s_249_38, ↓s_249_39, ↓s_249_40, ↓s_249_41, ↓s_249_44, ↓s_249_45, ↓s_249_46, ↓s_249_48, ↓s_249_51, ↓s_249_52, ↓s_249_53, ↓s_249_56, ↓s_249_57, ↓s_249_58, ↓s_249_60, ↓s_249_63, ↓g_249_64, ↓k_249_64, ↓s_249_65, ↓s_249_68, ↓s_249_69, ↓s_249_70, ↓s_249_73, ↓s_249_74, ↓g_249_77, ↓k_249_77, ↓s_249_78, ↓s_249_81, ↓s_249_82, ↓s_249_83, ↓s_249_84, ↓s_249_85, ↓s_249_88, ↓s_249_89, ↓s_249_90, ↓s_249_91, ↓s_249_92, ↓s_249_95, ↓s_249_96, ↓s_249_97, ↓g_249_98, ↓k_249_98, ↓s_249_99, ↓s_249_101, ↓s_249_104, ↓s_249_107, ↓s_249_108, ↓s_249_111, ↓s_249_112, ↓s_249_115, ↓s_249_116, ↓s_249_117, ↓s_249_120, ↓s_249_121, ↓s_249_122, ↓s_249_125, ↓s_249_126, ↓s_249_127, ↓s_249_128, ↓s_249_130, ↓s_249_133, ↓g_249_134, ↓k_249_134, ↓s_249_135, ↓s_249_137, ↓s_249_140, ↓s_249_143, ↓s_249_144, ↓s_249_147, ↓s_249_148, ↓s_249_151, ↓s_249_152, ↓s_249_153, ↓s_249_154, ↓s_249_156, ↓s_249_159, ↓g_249_160, ↓k_249_160, ↓s_249_161, ↓s_249_162, ↓s_249_163, ↓s_249_164, ↓s_249_167, ↓s_249_168, ↓s_249_169, ↓s_249_172, w32c_40, w32c_99, ↓s_198_0, ↓s_198_1, ↓s_198_4, ↓s_198_7, ↓s_198_8, ↓s_198_11, ↓s_198_14, ↓s_198_15, ↓s_198_18, ↓s_198_19, ↓s_198_22, ↓s_198_23, ↓s_198_26, ↓s_198_27, zar_101, zia_101, zln_101, zit_101, zar_102, zia_102, zln_102, zit_102, zar_103, zia_103, zln_103, zit_103, zar_104, zia_104, zln_104, zit_104, zar_105, zia_105, zln_105, zit_105, zar_106, zia_106, zln_106, zit_106, zar_107, zia_107, zln_107, zit_107, zio_95, q1, q2, q3]
    exact ⟨⟨by omega, by omega⟩, ⟨by omega, by omega⟩, b1⟩
  · have b0 := bst 0 (by unfold pV1; rw [if_neg hk]; exact w32c_0)
    by_cases q1 : w32 (m4 95 31) = 0
    · by_cases q2 : w32 (m4 95 29) = 0
      · have q3 : ¬ w32 (m4 95 30) = 8 := fun z => hk ((rf_isw T4 (k0 := 24) (by decide) (by decide)).mp ⟨q1, q2, z⟩)
        simp only [ynok_30, ynok_31, w32c_0, w32c_1, w32c_2, w32c_3, w32c_4, w32c_5, w32c_6, w32c_7, w32c_8, w32c_9, w32c_10, w32c_11, w32c_12, w32c_13, w32c_14, w32c_m1, w32c_m2, w32c_118, Int.reduceAdd, Int.reduceSub, Int.reduceMul, yput_s, yput_n, znl_n, znl_0, znl_1, znl_4, ysum_n, ysum_0, ysum_1, ysum_4, true_and, and_true, Nat.reduceAdd, Nat.reduceLeDiff, true_implies, eq_self, true_or, or_true, or_false, false_or, not_true_eq_false, not_false_eq_true, false_implies, implies_true, yset_s, yset_o, yset_d, ne_eq, Nat.reduceEqDiff, Int.reduceToNat, Int.reduceEq, Int.reduceLE, Int.reduceLT, Classical.not_not, Nat.reduceLT, ↓zvk_s, ↓zvk_n, ↓s_249_0, ↓s_249_1, ↓s_249_4, ↓s_249_5, ↓s_249_6, ↓s_249_7, ↓s_249_10, ↓s_249_12, ↓s_249_13, ↓s_249_14, ↓s_249_17, ↓s_249_20, ↓s_249_21, ↓s_249_22, ↓s_249_25, ↓s_249_26, ↓s_249_27, ↓s_249_28, ↓s_249_30, ↓s_249_33, ↓s_249_34, ↓s_249_35, ↓s_249_38, ↓s_249_39, ↓s_249_40, ↓s_249_41, ↓s_249_44, ↓s_249_45, ↓s_249_46, ↓s_249_48, ↓s_249_51, ↓s_249_52, ↓s_249_53, ↓s_249_56, ↓s_249_57, ↓s_249_58, ↓s_249_60, ↓s_249_63, ↓g_249_64, ↓k_249_64, ↓s_249_65, ↓s_249_68, ↓s_249_69, ↓s_249_70, ↓s_249_73, ↓s_249_74, ↓g_249_77, ↓k_249_77, ↓s_249_78, ↓s_249_81, ↓s_249_82, ↓s_249_83, ↓s_249_84, ↓s_249_85, ↓s_249_88, ↓s_249_89, ↓s_249_90, ↓s_249_91, ↓s_249_92, ↓s_249_95, ↓s_249_96, ↓s_249_97, ↓g_249_98, ↓k_249_98, ↓s_249_99, ↓s_249_101, ↓s_249_104, ↓s_249_107, ↓s_249_108, ↓s_249_111, ↓s_249_112, ↓s_249_115, ↓s_249_116, ↓s_249_117, ↓s_249_120, ↓s_249_121, ↓s_249_122, ↓s_249_125, ↓s_249_126, ↓s_249_127, ↓s_249_128, ↓s_249_130, ↓s_249_133, ↓g_249_134, ↓k_249_134, ↓s_249_135, ↓s_249_137, ↓s_249_140, ↓s_249_143, ↓s_249_144, ↓s_249_147, ↓s_249_148, ↓s_249_151, ↓s_249_152, ↓s_249_153, ↓s_249_154, ↓s_249_156, ↓s_249_159, ↓g_249_160, ↓k_249_160, ↓s_249_161, ↓s_249_162, ↓s_249_163, ↓s_249_164, ↓s_249_167, ↓s_249_168, ↓s_249_169, ↓s_249_172, w32c_40, w32c_99, ↓s_198_0, ↓s_198_1, ↓s_198_4, ↓s_198_7, ↓s_198_8, ↓s_198_11, ↓s_198_14, ↓s_198_15, ↓s_198_18, ↓s_198_19, ↓s_198_22, ↓s_198_23, ↓s_198_26, ↓s_198_27, zar_101, zia_101, zln_101, zit_101, zar_102, zia_102, zln_102, zit_102, zar_103, zia_103, zln_103, zit_103, zar_104, zia_104, zln_104, zit_104, zar_105, zia_105, zln_105, zit_105, zar_106, zia_106, zln_106, zit_106, zar_107, zia_107, zln_107, zit_107, zio_95, q1, q2, q3]
        exact ⟨⟨by omega, by omega⟩, ⟨by omega, by omega⟩, b0⟩
      · simp only [ynok_30, ynok_31, w32c_0, w32c_1, w32c_2, w32c_3, w32c_4, w32c_5, w32c_6, w32c_7, w32c_8, w32c_9, w32c_10, w32c_11, w32c_12, w32c_13, w32c_14, w32c_m1, w32c_m2, w32c_118, Int.reduceAdd, Int.reduceSub, Int.reduceMul, yput_s, yput_n, znl_n, znl_0, znl_1, znl_4, ysum_n, ysum_0, ysum_1, ysum_4, true_and, and_true, Nat.reduceAdd, Nat.reduceLeDiff, true_implies, eq_self, true_or, or_true, or_false, false_or, not_true_eq_false, not_false_eq_true, false_implies, implies_true, yset_s, yset_o, yset_d, ne_eq, Nat.reduceEqDiff, Int.reduceToNat, Int.reduceEq, Int.reduceLE, Int.reduceLT, Classical.not_not, Nat.reduceLT, ↓zvk_s, ↓zvk_n, ↓s_249_0, ↓s_249_1, ↓s_249_4, ↓s_249_5, ↓s_249_6, ↓s_249_7, ↓s_249_10, ↓s_249_12, ↓s_249_13, ↓s_249_14, ↓s_249_17, ↓s_249_20, ↓s_249_21, ↓s_249_22, ↓s_249_25, ↓s_249_26, ↓s_249_27, ↓s_249_28, ↓s_249_30, ↓s_249_33, ↓s_249_34, ↓s_249_35, ↓s_249_38, ↓s_249_39, ↓s_249_40, ↓s_249_41, ↓s_249_44, ↓s_249_45, ↓s_249_46, ↓s_249_48, ↓s_249_51, ↓s_249_52, ↓s_249_53, ↓s_249_56, ↓s_249_57, ↓s_249_58, ↓s_249_60, ↓s_249_63, ↓g_249_64, ↓k_249_64, ↓s_249_65, ↓s_249_68, ↓s_249_69, ↓s_249_70, ↓s_249_73, ↓s_249_74, ↓g_249_77, ↓k_249_77, ↓s_249_78, ↓s_249_81, ↓s_249_82, ↓s_249_83, ↓s_249_84, ↓s_249_85, ↓s_249_88, ↓s_249_89, ↓s_249_90, ↓s_249_91, ↓s_249_92, ↓s_249_95, ↓s_249_96, ↓s_249_97, ↓g_249_98, ↓k_249_98, ↓s_249_99, ↓s_249_101, ↓s_249_104, ↓s_249_107, ↓s_249_108, ↓s_249_111, ↓s_249_112, ↓s_249_115, ↓s_249_116, ↓s_249_117, ↓s_249_120, ↓s_249_121, ↓s_249_122, ↓s_249_125, ↓s_249_126, ↓s_249_127, ↓s_249_128, ↓s_249_130, ↓s_249_133, ↓g_249_134, ↓k_249_134, ↓s_249_135, ↓s_249_137, ↓s_249_140, ↓s_249_143, ↓s_249_144, ↓s_249_147, ↓s_249_148, ↓s_249_151, ↓s_249_152, ↓s_249_153, ↓s_249_154, ↓s_249_156, ↓s_249_159, ↓g_249_160, ↓k_249_160, ↓s_249_161, ↓s_249_162, ↓s_249_163, ↓s_249_164, ↓s_249_167, ↓s_249_168, ↓s_249_169, ↓s_249_172, w32c_40, w32c_99, ↓s_198_0, ↓s_198_1, ↓s_198_4, ↓s_198_7, ↓s_198_8, ↓s_198_11, ↓s_198_14, ↓s_198_15, ↓s_198_18, ↓s_198_19, ↓s_198_22, ↓s_198_23, ↓s_198_26, ↓s_198_27, zar_101, zia_101, zln_101, zit_101, zar_102, zia_102, zln_102, zit_102, zar_103, zia_103, zln_103, zit_103, zar_104, zia_104, zln_104, zit_104, zar_105, zia_105, zln_105, zit_105, zar_106, zia_106, zln_106, zit_106, zar_107, zia_107, zln_107, zit_107, zio_95, q1, q2]
        exact ⟨⟨by omega, by omega⟩, ⟨by omega, by omega⟩, b0⟩
    · simp only [ynok_30, ynok_31, w32c_0, w32c_1, w32c_2, w32c_3, w32c_4, w32c_5, w32c_6, w32c_7, w32c_8, w32c_9, w32c_10, w32c_11, w32c_12, w32c_13, w32c_14, w32c_m1, w32c_m2, w32c_118, Int.reduceAdd, Int.reduceSub, Int.reduceMul, yput_s, yput_n, znl_n, znl_0, znl_1, znl_4, ysum_n, ysum_0, ysum_1, ysum_4, true_and, and_true, Nat.reduceAdd, Nat.reduceLeDiff, true_implies, eq_self, true_or, or_true, or_false, false_or, not_true_eq_false, not_false_eq_true, false_implies, implies_true, yset_s, yset_o, yset_d, ne_eq, Nat.reduceEqDiff, Int.reduceToNat, Int.reduceEq, Int.reduceLE, Int.reduceLT, Classical.not_not, Nat.reduceLT, ↓zvk_s, ↓zvk_n, ↓s_249_0, ↓s_249_1, ↓s_249_4, ↓s_249_5, ↓s_249_6, ↓s_249_7, ↓s_249_10, ↓s_249_12, ↓s_249_13, ↓s_249_14, ↓s_249_17, ↓s_249_20, ↓s_249_21, ↓s_249_22, ↓s_249_25, ↓s_249_26, ↓s_249_27, ↓s_249_28, ↓s_249_30, ↓s_249_33, ↓s_249_34, ↓s_249_35, ↓s_249_38, ↓s_249_39, ↓s_249_40, ↓s_249_41, ↓s_249_44, ↓s_249_45, ↓s_249_46, ↓s_249_48, ↓s_249_51, ↓s_249_52, ↓s_249_53, ↓s_249_56, ↓s_249_57, ↓s_249_58, ↓s_249_60, ↓s_249_63, ↓g_249_64, ↓k_249_64, ↓s_249_65, ↓s_249_68, ↓s_249_69, ↓s_249_70, ↓s_249_73, ↓s_249_74, ↓g_249_77, ↓k_249_77, ↓s_249_78, ↓s_249_81, ↓s_249_82, ↓s_249_83, ↓s_249_84, ↓s_249_85, ↓s_249_88, ↓s_249_89, ↓s_249_90, ↓s_249_91, ↓s_249_92, ↓s_249_95, ↓s_249_96, ↓s_249_97, ↓g_249_98, ↓k_249_98, ↓s_249_99, ↓s_249_101, ↓s_249_104, ↓s_249_107, ↓s_249_108, ↓s_249_111, ↓s_249_112, ↓s_249_115, ↓s_249_116, ↓s_249_117, ↓s_249_120, ↓s_249_121, ↓s_249_122, ↓s_249_125, ↓s_249_126, ↓s_249_127, ↓s_249_128, ↓s_249_130, ↓s_249_133, ↓g_249_134, ↓k_249_134, ↓s_249_135, ↓s_249_137, ↓s_249_140, ↓s_249_143, ↓s_249_144, ↓s_249_147, ↓s_249_148, ↓s_249_151, ↓s_249_152, ↓s_249_153, ↓s_249_154, ↓s_249_156, ↓s_249_159, ↓g_249_160, ↓k_249_160, ↓s_249_161, ↓s_249_162, ↓s_249_163, ↓s_249_164, ↓s_249_167, ↓s_249_168, ↓s_249_169, ↓s_249_172, w32c_40, w32c_99, ↓s_198_0, ↓s_198_1, ↓s_198_4, ↓s_198_7, ↓s_198_8, ↓s_198_11, ↓s_198_14, ↓s_198_15, ↓s_198_18, ↓s_198_19, ↓s_198_22, ↓s_198_23, ↓s_198_26, ↓s_198_27, zar_101, zia_101, zln_101, zit_101, zar_102, zia_102, zln_102, zit_102, zar_103, zia_103, zln_103, zit_103, zar_104, zia_104, zln_104, zit_104, zar_105, zia_105, zln_105, zit_105, zar_106, zia_106, zln_106, zit_106, zar_107, zia_107, zln_107, zit_107, zio_95, q1]
      exact ⟨⟨by omega, by omega⟩, ⟨by omega, by omega⟩, b0⟩
end RE
end
section
/-! THE REFERENCE: a part, a verse -/
theorem yset_n2 {m : yMem} {c k i j : Nat} {z : Int} (h : ¬ (i = c ∧ j = k)) : yset m c k z i j = m i j := by
  rw [yset_a]
  split
  · next e1 => rw [if_neg (fun e2 => h ⟨e1, e2⟩)]
  · rfl
theorem rTk_f {ch : Nat → Int} {n : Nat} {m : yMem} {e : Nat × Nat} (h : rTk ch n m (.inl e)) : ¬ w32 (m 95 31) = 0 := by
  have := h.2.2.2.1
  have := h.2.2.2.2.1
  omega
theorem rTk_0 {ch : Nat → Int} {n : Nat} {m : yMem} {l : List sT} (h : rTk ch n m (.inr l)) : w32 (m 95 31) = 0 := h.2.2.2.1
theorem pBars_nm {x : sY} {e : Nat × Nat} (h : (yNm 0 40 x).2 = .inl e) : ∀ c, (pBars (c + 1) x).2 = .inl e
  | 0 => by
    show (if yKd (yNm 0 40 x).2 = 2 then yFl 2 (yNm 0 40 x).2 else (yNm 0 40 x).2) = _
    rw [h, if_neg (show ¬ yKd (.inl e) = 2 from (by decide : ¬ (0 : Nat) = 2))]
  | c + 1 => by
    show (if yKd (yNm 0 40 x).2 = 2 then ((yNm 0 40 x).1 :: (pBars (c + 1) (yNm 0 40 x).2).1, (pBars (c + 1) (yNm 0 40 x).2).2) else ([(yNm 0 40 x).1], (yNm 0 40 x).2)).2 = _
    rw [h, if_neg (show ¬ yKd (.inl e) = 2 from (by decide : ¬ (0 : Nat) = 2))]
theorem pBars_in {e : Nat × Nat} (c : Nat) : (pBars (c + 1) (.inl e)).2 = .inl e := pBars_nm (by rw [yNm_in]) c
theorem pPt_no {x : sY} (h : ¬ yKd x = 27) : (pPt x).2 = yFl 1 x := by
  unfold pPt
  rw [if_neg h]
  obtain ⟨e, he⟩ := yFl_inl 1 x
  rw [he]
  exact pBars_in 7
theorem pPts_no {x : sY} (h : ¬ yKd x = 27) : ∀ c, (pPts (c + 1) x).2 = yFl 1 x
  | 0 => by
    show (if yKd (pPt x).2 = 27 then yFl 2 (pPt x).2 else (pPt x).2) = _
    obtain ⟨e, he⟩ := yFl_inl 1 x
    rw [pPt_no h, he, if_neg (show ¬ yKd (.inl e) = 27 from (by decide : ¬ (0 : Nat) = 27))]
  | c + 1 => by
    show (if yKd (pPt x).2 = 27 then ((pPt x).1 :: (pPts (c + 1) (pPt x).2).1, (pPts (c + 1) (pPt x).2).2) else ([(pPt x).1], (pPt x).2)).2 = _
    obtain ⟨e, he⟩ := yFl_inl 1 x
    rw [pPt_no h, he, if_neg (show ¬ yKd (.inl e) = 27 from (by decide : ¬ (0 : Nat) = 27))]
def rpF (s i j : Nat) : Prop := (i = 111 ∧ (12 + s) * 8 ≤ j ∧ j < (12 + s) * 8 + 8) ∨ (i = 110 ∧ j = 12 + s) ∨ (i = 95 ∧ 27 ≤ j ∧ j ≤ 32)
def RpS (b m : yMem) (s : Nat) (y : sY) (l : List Int) : Prop := (∀ i j, ¬ rpF s i j → m i j = b i j) ∧ (yOk y → w32 (m 110 (12 + s)) = (l.length : Int) ∧ ∀ j v, l[j]? = some v → w32 (m 111 ((12 + s) * 8 + j)) = v)
theorem rpF_fr {b m : yMem} {s i j : Nat} {x : Int} (h : ∀ i j, ¬ rpF s i j → m i j = b i j) (hv : rpF s i j) : ∀ i' j', ¬ rpF s i' j' → yset m i j x i' j' = b i' j' := fun i' j' h' => by
  rw [yset_a]
  split
  · next e1 =>
    rw [if_neg (fun e2 => h' (by rw [e1, e2]; exact hv))]
    exact h i' j' h'
  · exact h i' j' h'
theorem rpF_tk {b m m' : yMem} {s : Nat} (h : ∀ i j, ¬ rpF s i j → m i j = b i j) (hF : aFrm rnF m m') : ∀ i j, ¬ rpF s i j → m' i j = b i j := fun i j hv => by
  rw [hF i j (amod_r (fun z => hv (Or.inr (Or.inr z))))]
  exact h i j hv
section RF
variable {E : yE} {mem b : yMem} {Q : Option yV → yMem → Prop} {ch : Nat → Int} {n : Nat} {x : sY} {d s : Nat} {p : Int}
theorem rb8 (hE : yEok E) (hd : 7 ≤ d) (hs : s < 12) (hp : w32 p = ((12 + s : Nat) : Int)) {m : yMem} {l1 : List sT} {z : Option yV} (h : rTk ch n m (.inr l1)) (hk : (sHd l1).1 = 2) (h8 : w32 (m 110 (12 + s)) = 8) (hF : ∀ i j, ¬ rpF s i j → m i j = b i j) (fin : ∀ m', (∀ i j, ¬ rpF s i j → m' i j = b i j) → rTk ch n m' (yFl 2 (.inr l1)) → Q none m') : zG E (d + 1) xm_214 7 [some (1, 95), some (0, p), z] [] m Q := by
  have hpt : (w32 p).toNat = 12 + s := by rw [hp]; exact Int.toNat_natCast _
  have q1 := rTk_0 h
  have q2 : w32 (m 95 29) = 2 := (sRk_2 (rTk_rk h)).mpr hk
  refine zgo_ok (n := 60) hE xmo_214 (cs := zc_214) ?_
  simp only [ynok_30, ynok_31, w32c_0, w32c_1, w32c_2, w32c_3, w32c_4, w32c_5, w32c_6, w32c_7, w32c_8, w32c_9, w32c_10, w32c_11, w32c_12, w32c_13, w32c_14, w32c_m1, w32c_m2, w32c_118, Int.reduceAdd, Int.reduceSub, Int.reduceMul, yput_s, yput_n, znl_n, znl_0, znl_1, znl_4, ysum_n, ysum_0, ysum_1, ysum_4, true_and, and_true, Nat.reduceAdd, Nat.reduceLeDiff, true_implies, eq_self, true_or, or_true, or_false, false_or, not_true_eq_false, not_false_eq_true, false_implies, implies_true, yset_s, yset_o, yset_d, ne_eq, Nat.reduceEqDiff, Int.reduceToNat, Int.reduceEq, Int.reduceLE, Int.reduceLT, Classical.not_not, Nat.reduceLT, ↓zvk_s, ↓zvk_n, ↓s_214_0, ↓s_214_1, ↓s_214_4, ↓s_214_5, ↓s_214_6, ↓g_214_7, ↓k_214_7, ↓s_214_8, ↓s_214_11, ↓s_214_14, ↓s_214_15, ↓s_214_18, ↓s_214_19, ↓s_214_22, ↓s_214_23, ↓s_214_26, ↓s_214_27, ↓s_214_28, ↓s_214_30, ↓s_214_33, ↓s_214_34, ↓s_214_35, ↓s_214_38, ↓s_214_39, ↓s_214_40, ↓s_214_42, ↓s_214_45n, ↓s_214_45i, ↓s_214_45p, ↓s_214_46, ↓s_214_47, ↓s_214_50, ↓s_214_53, ↓s_214_54, ↓s_214_55, ↓s_214_58, ↓s_214_60, ↓s_214_61, ↓s_214_62, ↓s_214_63, ↓s_214_66, ↓s_214_67, ↓s_214_68, ↓s_214_69, ↓s_214_70, ↓s_214_71, ↓s_214_72, ↓s_214_75, ↓s_214_76, ↓s_214_77, ↓s_214_78, ↓s_214_79, ↓s_214_80, ↓s_214_81, ↓s_214_82, ↓s_214_85, ↓s_214_86, ↓s_214_89, w32c_40, ↓s_254_0, ↓s_254_1, ↓s_254_4, ↓s_254_7, ↓s_254_8, ↓s_254_9, ↓s_254_10, ↓s_254_13, ↓s_254_14, ↓s_254_15, ↓s_254_18, ↓s_254_21, zar_111, zia_111, zln_111, zit_111, zar_110, zia_110, zln_110, zit_110, zio_95, q1, q2]
  rw [hpt]
  refine ⟨⟨by omega, by omega⟩, fun q => absurd h8 q, fun _ => ?_⟩
  obtain ⟨G1, G2⟩ := rf_wr (f := 2) (F := 2) h (by decide) (by decide)
  refine rf_numeral hE (by omega) G2 (by decide) (by decide) (fun r m2 F2 e2 T2 => ?_)
  have T2 : rTk ch n m2 (yNm (w32 0) (w32 40) (.inl (2, (sHd l1).2.1))).2 := T2
  rw [yNm_in] at T2
  refine zgk_s hE xmo_214 60 zc_214 ?_
  have hf2 := rTk_f T2
  simp only [ynok_30, ynok_31, w32c_0, w32c_1, w32c_2, w32c_3, w32c_4, w32c_5, w32c_6, w32c_7, w32c_8, w32c_9, w32c_10, w32c_11, w32c_12, w32c_13, w32c_14, w32c_m1, w32c_m2, w32c_118, Int.reduceAdd, Int.reduceSub, Int.reduceMul, yput_s, yput_n, znl_n, znl_0, znl_1, znl_4, ysum_n, ysum_0, ysum_1, ysum_4, true_and, and_true, Nat.reduceAdd, Nat.reduceLeDiff, true_implies, eq_self, true_or, or_true, or_false, false_or, not_true_eq_false, not_false_eq_true, false_implies, implies_true, yset_s, yset_o, yset_d, ne_eq, Nat.reduceEqDiff, Int.reduceToNat, Int.reduceEq, Int.reduceLE, Int.reduceLT, Classical.not_not, Nat.reduceLT, ↓zvk_s, ↓zvk_n, ↓s_214_0, ↓s_214_1, ↓s_214_4, ↓s_214_5, ↓s_214_6, ↓g_214_7, ↓k_214_7, ↓s_214_8, ↓s_214_11, ↓s_214_14, ↓s_214_15, ↓s_214_18, ↓s_214_19, ↓s_214_22, ↓s_214_23, ↓s_214_26, ↓s_214_27, ↓s_214_28, ↓s_214_30, ↓s_214_33, ↓s_214_34, ↓s_214_35, ↓s_214_38, ↓s_214_39, ↓s_214_40, ↓s_214_42, ↓s_214_45n, ↓s_214_45i, ↓s_214_45p, ↓s_214_46, ↓s_214_47, ↓s_214_50, ↓s_214_53, ↓s_214_54, ↓s_214_55, ↓s_214_58, ↓s_214_60, ↓s_214_61, ↓s_214_62, ↓s_214_63, ↓s_214_66, ↓s_214_67, ↓s_214_68, ↓s_214_69, ↓s_214_70, ↓s_214_71, ↓s_214_72, ↓s_214_75, ↓s_214_76, ↓s_214_77, ↓s_214_78, ↓s_214_79, ↓s_214_80, ↓s_214_81, ↓s_214_82, ↓s_214_85, ↓s_214_86, ↓s_214_89, w32c_40, ↓s_254_0, ↓s_254_1, ↓s_254_4, ↓s_254_7, ↓s_254_8, ↓s_254_9, ↓s_254_10, ↓s_254_13, ↓s_254_14, ↓s_254_15, ↓s_254_18, ↓s_254_21, zar_111, zia_111, zln_111, zit_111, zar_110, zia_110, zln_110, zit_110, zio_95, hf2]
  exact fin m2 (rpF_tk (rpF_tk hF G1) F2) T2
theorem rbS (hE : yEok E) (hd : 7 ≤ d) (hs : s < 12) (hp : w32 p = ((12 + s : Nat) : Int)) {y : sY} {m : yMem} {l : List Int} {z : Option yV} (hc : l.length ≤ 7) (h : rTk ch n m y) (hS : RpS b m s y l) (f0 : ∀ m' e, (yNm 0 40 y).2 = .inl e → (∀ i j, ¬ rpF s i j → m' i j = b i j) → rTk ch n m' (.inl e) → Q none m') (f1 : ∀ m' l1 z', (yNm 0 40 y).2 = .inr l1 → rTk ch n m' (.inr l1) → RpS b m' s (.inr l1) (l ++ [(yNm 0 40 y).1]) → (sHd l1).1 = 2 → zG E (d + 1) xm_214 7 [some (1, 95), some (0, p), z'] [] m' Q) (f2 : ∀ m' l1, (yNm 0 40 y).2 = .inr l1 → rTk ch n m' (.inr l1) → RpS b m' s (.inr l1) (l ++ [(yNm 0 40 y).1]) → (sHd l1).1 ≠ 2 → Q none m') : zG E (d + 1) xm_214 7 [some (1, 95), some (0, p), z] [] m Q := by
  have hpt : (w32 p).toNat = 12 + s := by rw [hp]; exact Int.toNat_natCast _
  have num : yCon E (d + 1) xm_212 [(1, 95), (0, 0), (0, 40)] m (fun v mem' => zgk E (d + 1) xm_214 45 [some (1, 95), some (0, p), z] [] v mem' Q) := by
    refine rf_numeral hE (by omega) h (by decide) (by decide) (fun r m1 F1 e1 T1 => ?_)
    rw [w32c_0, show w32 40 = 40 by decide] at e1 T1
    refine zgk_s hE xmo_214 60 zc_214 ?_
    have FR := rpF_tk hS.1 F1
    cases hy : (yNm 0 40 y).2 with
    | inl e =>
      rw [hy] at T1
      have hf1 := rTk_f T1
      simp only [ynok_30, ynok_31, w32c_0, w32c_1, w32c_2, w32c_3, w32c_4, w32c_5, w32c_6, w32c_7, w32c_8, w32c_9, w32c_10, w32c_11, w32c_12, w32c_13, w32c_14, w32c_m1, w32c_m2, w32c_118, Int.reduceAdd, Int.reduceSub, Int.reduceMul, yput_s, yput_n, znl_n, znl_0, znl_1, znl_4, ysum_n, ysum_0, ysum_1, ysum_4, true_and, and_true, Nat.reduceAdd, Nat.reduceLeDiff, true_implies, eq_self, true_or, or_true, or_false, false_or, not_true_eq_false, not_false_eq_true, false_implies, implies_true, yset_s, yset_o, yset_d, ne_eq, Nat.reduceEqDiff, Int.reduceToNat, Int.reduceEq, Int.reduceLE, Int.reduceLT, Classical.not_not, Nat.reduceLT, ↓zvk_s, ↓zvk_n, ↓s_214_0, ↓s_214_1, ↓s_214_4, ↓s_214_5, ↓s_214_6, ↓g_214_7, ↓k_214_7, ↓s_214_8, ↓s_214_11, ↓s_214_14, ↓s_214_15, ↓s_214_18, ↓s_214_19, ↓s_214_22, ↓s_214_23, ↓s_214_26, ↓s_214_27, ↓s_214_28, ↓s_214_30, ↓s_214_33, ↓s_214_34, ↓s_214_35, ↓s_214_38, ↓s_214_39, ↓s_214_40, ↓s_214_42, ↓s_214_45n, ↓s_214_45i, ↓s_214_45p, ↓s_214_46, ↓s_214_47, ↓s_214_50, ↓s_214_53, ↓s_214_54, ↓s_214_55, ↓s_214_58, ↓s_214_60, ↓s_214_61, ↓s_214_62, ↓s_214_63, ↓s_214_66, ↓s_214_67, ↓s_214_68, ↓s_214_69, ↓s_214_70, ↓s_214_71, ↓s_214_72, ↓s_214_75, ↓s_214_76, ↓s_214_77, ↓s_214_78, ↓s_214_79, ↓s_214_80, ↓s_214_81, ↓s_214_82, ↓s_214_85, ↓s_214_86, ↓s_214_89, w32c_40, ↓s_254_0, ↓s_254_1, ↓s_254_4, ↓s_254_7, ↓s_254_8, ↓s_254_9, ↓s_254_10, ↓s_254_13, ↓s_254_14, ↓s_254_15, ↓s_254_18, ↓s_254_21, zar_111, zia_111, zln_111, zit_111, zar_110, zia_110, zln_110, zit_110, zio_95, hf1]
      exact f0 m1 e hy FR T1
    | inr l1 =>
      obtain ⟨c1, c2⟩ := hS.2 (yOk_nm ⟨l1, hy⟩)
      rw [hy] at T1
      have hf1 := rTk_0 T1
      have k2 := sRk_2 (rTk_rk T1)
      simp only [ynok_30, ynok_31, w32c_0, w32c_1, w32c_2, w32c_3, w32c_4, w32c_5, w32c_6, w32c_7, w32c_8, w32c_9, w32c_10, w32c_11, w32c_12, w32c_13, w32c_14, w32c_m1, w32c_m2, w32c_118, Int.reduceAdd, Int.reduceSub, Int.reduceMul, yput_s, yput_n, znl_n, znl_0, znl_1, znl_4, ysum_n, ysum_0, ysum_1, ysum_4, true_and, and_true, Nat.reduceAdd, Nat.reduceLeDiff, true_implies, eq_self, true_or, or_true, or_false, false_or, not_true_eq_false, not_false_eq_true, false_implies, implies_true, yset_s, yset_o, yset_d, ne_eq, Nat.reduceEqDiff, Int.reduceToNat, Int.reduceEq, Int.reduceLE, Int.reduceLT, Classical.not_not, Nat.reduceLT, ↓zvk_s, ↓zvk_n, ↓s_214_0, ↓s_214_1, ↓s_214_4, ↓s_214_5, ↓s_214_6, ↓g_214_7, ↓k_214_7, ↓s_214_8, ↓s_214_11, ↓s_214_14, ↓s_214_15, ↓s_214_18, ↓s_214_19, ↓s_214_22, ↓s_214_23, ↓s_214_26, ↓s_214_27, ↓s_214_28, ↓s_214_30, ↓s_214_33, ↓s_214_34, ↓s_214_35, ↓s_214_38, ↓s_214_39, ↓s_214_40, ↓s_214_42, ↓s_214_45n, ↓s_214_45i, ↓s_214_45p, ↓s_214_46, ↓s_214_47, ↓s_214_50, ↓s_214_53, ↓s_214_54, ↓s_214_55, ↓s_214_58, ↓s_214_60, ↓s_214_61, ↓s_214_62, ↓s_214_63, ↓s_214_66, ↓s_214_67, ↓s_214_68, ↓s_214_69, ↓s_214_70, ↓s_214_71, ↓s_214_72, ↓s_214_75, ↓s_214_76, ↓s_214_77, ↓s_214_78, ↓s_214_79, ↓s_214_80, ↓s_214_81, ↓s_214_82, ↓s_214_85, ↓s_214_86, ↓s_214_89, w32c_40, ↓s_254_0, ↓s_254_1, ↓s_254_4, ↓s_254_7, ↓s_254_8, ↓s_254_9, ↓s_254_10, ↓s_254_13, ↓s_254_14, ↓s_254_15, ↓s_254_18, ↓s_254_21, zar_111, zia_111, zln_111, zit_111, zar_110, zia_110, zln_110, zit_110, zio_95, hf1]
      have c110 : w32 (m1 110 (12 + s)) = (l.length : Int) := by rw [F1 110 (12 + s) (amod_r5 (by decide))]; exact c1
      rw [hpt]
      have e8 : w32 (8 * p) = 8 * w32 p := w32_k (by decide) (by omega) (by omega)
      have ei : w32 (8 * p + m1 110 (12 + s)) = (((12 + s) * 8 + l.length : Nat) : Int) := by rw [w32_ad (by rw [e8]; omega) (by rw [e8]; omega), e8]; omega
      have ej : (w32 (8 * p + m1 110 (12 + s))).toNat = (12 + s) * 8 + l.length := by rw [ei]; exact Int.toNat_natCast _
      have ek : w32 (m1 110 (12 + s) + 1) = ((l.length + 1 : Nat) : Int) := by rw [w32_ad (by rw [w32c_1]; omega) (by rw [w32c_1]; omega), w32c_1]; omega
      rw [ej, ei]
      have T2 : rTk ch n (yset (yset m1 111 ((12 + s) * 8 + l.length) r) 110 (12 + s) (m1 110 (12 + s) + 1)) (.inr l1) := rTk_s (rTk_s T1 (by decide)) (by decide)
      have S2 : RpS b (yset (yset m1 111 ((12 + s) * 8 + l.length) r) 110 (12 + s) (m1 110 (12 + s) + 1)) s (.inr l1) (l ++ [(yNm 0 40 y).1]) := by
        refine ⟨rpF_fr (rpF_fr FR (Or.inl ⟨rfl, by omega, by omega⟩)) (Or.inr (Or.inl ⟨rfl, rfl⟩)), fun _ => ⟨?_, fun j v hv => ?_⟩⟩
        · rw [yset_s, ek, List.length_append]
          rfl
        · rw [yset_o (by decide)]
          rcases app_get hv with hv | ⟨rfl, rfl⟩
          · have hj := get_lt hv
            rw [yset_d (by omega), F1 111 _ (amod_r5 (by decide))]
            exact c2 j v hv
          · rw [yset_s]
            exact e1
      exact ⟨⟨by omega, by omega⟩, ⟨by omega, by omega⟩, ⟨by omega, by omega⟩, ⟨by omega, by omega⟩, fun q => f1 _ l1 _ hy T2 S2 (k2.mp q), fun q => f2 _ l1 hy T2 S2 (fun z => q (k2.mpr z))⟩
  refine zgo_ok (n := 60) hE xmo_214 (cs := zc_214) ?_
  by_cases hf : w32 (m 95 31) = 0
  · simp only [ynok_30, ynok_31, w32c_0, w32c_1, w32c_2, w32c_3, w32c_4, w32c_5, w32c_6, w32c_7, w32c_8, w32c_9, w32c_10, w32c_11, w32c_12, w32c_13, w32c_14, w32c_m1, w32c_m2, w32c_118, Int.reduceAdd, Int.reduceSub, Int.reduceMul, yput_s, yput_n, znl_n, znl_0, znl_1, znl_4, ysum_n, ysum_0, ysum_1, ysum_4, true_and, and_true, Nat.reduceAdd, Nat.reduceLeDiff, true_implies, eq_self, true_or, or_true, or_false, false_or, not_true_eq_false, not_false_eq_true, false_implies, implies_true, yset_s, yset_o, yset_d, ne_eq, Nat.reduceEqDiff, Int.reduceToNat, Int.reduceEq, Int.reduceLE, Int.reduceLT, Classical.not_not, Nat.reduceLT, ↓zvk_s, ↓zvk_n, ↓s_214_0, ↓s_214_1, ↓s_214_4, ↓s_214_5, ↓s_214_6, ↓g_214_7, ↓k_214_7, ↓s_214_8, ↓s_214_11, ↓s_214_14, ↓s_214_15, ↓s_214_18, ↓s_214_19, ↓s_214_22, ↓s_214_23, ↓s_214_26, ↓s_214_27, ↓s_214_28, ↓s_214_30, ↓s_214_33, ↓s_214_34, ↓s_214_35, ↓s_214_38, ↓s_214_39, ↓s_214_40, ↓s_214_42, ↓s_214_45n, ↓s_214_45i, ↓s_214_45p, ↓s_214_46, ↓s_214_47, ↓s_214_50, ↓s_214_53, ↓s_214_54, ↓s_214_55, ↓s_214_58, ↓s_214_60, ↓s_214_61, ↓s_214_62, ↓s_214_63, ↓s_214_66, ↓s_214_67, ↓s_214_68, ↓s_214_69, ↓s_214_70, ↓s_214_71, ↓s_214_72, ↓s_214_75, ↓s_214_76, ↓s_214_77, ↓s_214_78, ↓s_214_79, ↓s_214_80, ↓s_214_81, ↓s_214_82, ↓s_214_85, ↓s_214_86, ↓s_214_89, w32c_40, ↓s_254_0, ↓s_254_1, ↓s_254_4, ↓s_254_7, ↓s_254_8, ↓s_254_9, ↓s_254_10, ↓s_254_13, ↓s_254_14, ↓s_254_15, ↓s_254_18, ↓s_254_21, zar_111, zia_111, zln_111, zit_111, zar_110, zia_110, zln_110, zit_110, zio_95, hf]
    refine ⟨fun _ => num, fun _ => ⟨⟨by omega, by omega⟩, fun _ => num, fun h8 => ?_⟩⟩
    exfalso
    rw [hpt] at h8
    cases y with
    | inl e => exact rTk_f h hf
    | inr l0 =>
      have := (hS.2 ⟨l0, rfl⟩).1
      omega
  · simp only [ynok_30, ynok_31, w32c_0, w32c_1, w32c_2, w32c_3, w32c_4, w32c_5, w32c_6, w32c_7, w32c_8, w32c_9, w32c_10, w32c_11, w32c_12, w32c_13, w32c_14, w32c_m1, w32c_m2, w32c_118, Int.reduceAdd, Int.reduceSub, Int.reduceMul, yput_s, yput_n, znl_n, znl_0, znl_1, znl_4, ysum_n, ysum_0, ysum_1, ysum_4, true_and, and_true, Nat.reduceAdd, Nat.reduceLeDiff, true_implies, eq_self, true_or, or_true, or_false, false_or, not_true_eq_false, not_false_eq_true, false_implies, implies_true, yset_s, yset_o, yset_d, ne_eq, Nat.reduceEqDiff, Int.reduceToNat, Int.reduceEq, Int.reduceLE, Int.reduceLT, Classical.not_not, Nat.reduceLT, ↓zvk_s, ↓zvk_n, ↓s_214_0, ↓s_214_1, ↓s_214_4, ↓s_214_5, ↓s_214_6, ↓g_214_7, ↓k_214_7, ↓s_214_8, ↓s_214_11, ↓s_214_14, ↓s_214_15, ↓s_214_18, ↓s_214_19, ↓s_214_22, ↓s_214_23, ↓s_214_26, ↓s_214_27, ↓s_214_28, ↓s_214_30, ↓s_214_33, ↓s_214_34, ↓s_214_35, ↓s_214_38, ↓s_214_39, ↓s_214_40, ↓s_214_42, ↓s_214_45n, ↓s_214_45i, ↓s_214_45p, ↓s_214_46, ↓s_214_47, ↓s_214_50, ↓s_214_53, ↓s_214_54, ↓s_214_55, ↓s_214_58, ↓s_214_60, ↓s_214_61, ↓s_214_62, ↓s_214_63, ↓s_214_66, ↓s_214_67, ↓s_214_68, ↓s_214_69, ↓s_214_70, ↓s_214_71, ↓s_214_72, ↓s_214_75, ↓s_214_76, ↓s_214_77, ↓s_214_78, ↓s_214_79, ↓s_214_80, ↓s_214_81, ↓s_214_82, ↓s_214_85, ↓s_214_86, ↓s_214_89, w32c_40, ↓s_254_0, ↓s_254_1, ↓s_254_4, ↓s_254_7, ↓s_254_8, ↓s_254_9, ↓s_254_10, ↓s_254_13, ↓s_254_14, ↓s_254_15, ↓s_254_18, ↓s_254_21, zar_111, zia_111, zln_111, zit_111, zar_110, zia_110, zln_110, zit_110, zio_95, hf]
    exact num
theorem rb7 (hE : yEok E) (hd : 7 ≤ d) (hs : s < 12) (hp : w32 p = ((12 + s : Nat) : Int)) : ∀ c (y : sY) (m : yMem) (l : List Int) (z : Option yV), c + 1 + l.length = 8 → rTk ch n m y → RpS b m s y l → (∀ m', rTk ch n m' (pBars (c + 1) y).2 → RpS b m' s (pBars (c + 1) y).2 (l ++ (pBars (c + 1) y).1) → Q none m') → zG E (d + 1) xm_214 7 [some (1, 95), some (0, p), z] [] m Q := by
  intro c
  induction c with
  | zero =>
    intro y m l z hc h hS fin
    have e1 : pBars 1 y = ([(yNm 0 40 y).1], if yKd (yNm 0 40 y).2 = 2 then yFl 2 (yNm 0 40 y).2 else (yNm 0 40 y).2) := rfl
    refine rbS hE hd hs hp (by omega) h hS (fun m' e he g1 g2 => ?_) (fun m' l1 z' he g1 g2 g3 => ?_) (fun m' l1 he g1 g2 g3 => ?_)
    · have e2 := pBars_nm he 0
      exact fin m' (by rw [e2]; exact g2) ⟨g1, fun z => by rw [e2] at z; exact absurd z yOk_in⟩
    · have e2 : (pBars (0 + 1) y).2 = yFl 2 (.inr l1) := by
        show (pBars 1 y).2 = _
        rw [e1, he]
        exact if_pos g3
      refine rb8 hE hd hs hp g1 g3 (by rw [(g2.2 ⟨l1, rfl⟩).1, List.length_append]; show ((l.length + 1 : Nat) : Int) = 8; omega) g2.1 (fun m2 k1 k2 => fin m2 (by rw [e2]; exact k2) ⟨k1, fun z => by rw [e2] at z; exact absurd z yOk_fl⟩)
    · have e2 : pBars (0 + 1) y = ([(yNm 0 40 y).1], .inr l1) := by
        show pBars 1 y = _
        rw [e1, he]
        rw [if_neg (show ¬ yKd (.inr l1) = 2 from g3)]
      exact fin m' (by rw [e2]; exact g1) (by rw [e2]; exact g2)
  | succ c ih =>
    intro y m l z hc h hS fin
    have e1 : pBars (c + 2) y = if yKd (yNm 0 40 y).2 = 2 then ((yNm 0 40 y).1 :: (pBars (c + 1) (yNm 0 40 y).2).1, (pBars (c + 1) (yNm 0 40 y).2).2) else ([(yNm 0 40 y).1], (yNm 0 40 y).2) := rfl
    refine rbS hE hd hs hp (by omega) h hS (fun m' e he g1 g2 => ?_) (fun m' l1 z' he g1 g2 g3 => ?_) (fun m' l1 he g1 g2 g3 => ?_)
    · have e2 := pBars_nm he (c + 1)
      exact fin m' (by rw [e2]; exact g2) ⟨g1, fun z => by rw [e2] at z; exact absurd z yOk_in⟩
    · have e2 : pBars (c + 1 + 1) y = ((yNm 0 40 y).1 :: (pBars (c + 1) (.inr l1)).1, (pBars (c + 1) (.inr l1)).2) := by
        show pBars (c + 2) y = _
        rw [e1, he]
        exact if_pos g3
      refine ih (.inr l1) m' (l ++ [(yNm 0 40 y).1]) z' (by rw [List.length_append]; show c + 1 + (l.length + 1) = 8; omega) g1 g2 (fun m2 k1 k2 => ?_)
      rw [List.append_assoc] at k2
      exact fin m2 (by rw [e2]; exact k1) (by rw [e2]; exact k2)
    · have e2 : pBars (c + 1 + 1) y = ([(yNm 0 40 y).1], .inr l1) := by
        show pBars (c + 2) y = _
        rw [e1, he]
        exact if_neg g3
      exact fin m' (by rw [e2]; exact g1) (by rw [e2]; exact g2)
theorem rf_partLine (hE : yEok E) {D : Nat} (hD : 9 ≤ D) (hs : s < 12) (hp : w32 p = ((12 + s : Nat) : Int)) (h : rTk ch n mem x) (hQ : ∀ m, rTk ch n m (pBars 8 x).2 → RpS mem m s (pBars 8 x).2 (pBars 8 x).1 → Q none m) : yCon E D xm_214 [(1, 95), (0, p)] mem Q := by
  obtain ⟨d, rfl⟩ := Nat.exists_eq_add_of_le' hD
  have hpt : (w32 p).toNat = 12 + s := by rw [hp]; exact Int.toNat_natCast _
  refine e_214 ?_
  refine zvc_ok hE 60 zc_214 _ _ _ _ _ _ _ xmo_214 ?_
  simp only [ynok_30, ynok_31, w32c_0, w32c_1, w32c_2, w32c_3, w32c_4, w32c_5, w32c_6, w32c_7, w32c_8, w32c_9, w32c_10, w32c_11, w32c_12, w32c_13, w32c_14, w32c_m1, w32c_m2, w32c_118, Int.reduceAdd, Int.reduceSub, Int.reduceMul, yput_s, yput_n, znl_n, znl_0, znl_1, znl_4, ysum_n, ysum_0, ysum_1, ysum_4, true_and, and_true, Nat.reduceAdd, Nat.reduceLeDiff, true_implies, eq_self, true_or, or_true, or_false, false_or, not_true_eq_false, not_false_eq_true, false_implies, implies_true, yset_s, yset_o, yset_d, ne_eq, Nat.reduceEqDiff, Int.reduceToNat, Int.reduceEq, Int.reduceLE, Int.reduceLT, Classical.not_not, Nat.reduceLT, ↓zvk_s, ↓zvk_n, ↓s_214_0, ↓s_214_1, ↓s_214_4, ↓s_214_5, ↓s_214_6, ↓g_214_7, ↓k_214_7, ↓s_214_8, ↓s_214_11, ↓s_214_14, ↓s_214_15, ↓s_214_18, ↓s_214_19, ↓s_214_22, ↓s_214_23, ↓s_214_26, ↓s_214_27, ↓s_214_28, ↓s_214_30, ↓s_214_33, ↓s_214_34, ↓s_214_35, ↓s_214_38, ↓s_214_39, ↓s_214_40, ↓s_214_42, ↓s_214_45n, ↓s_214_45i, ↓s_214_45p, ↓s_214_46, ↓s_214_47, ↓s_214_50, ↓s_214_53, ↓s_214_54, ↓s_214_55, ↓s_214_58, ↓s_214_60, ↓s_214_61, ↓s_214_62, ↓s_214_63, ↓s_214_66, ↓s_214_67, ↓s_214_68, ↓s_214_69, ↓s_214_70, ↓s_214_71, ↓s_214_72, ↓s_214_75, ↓s_214_76, ↓s_214_77, ↓s_214_78, ↓s_214_79, ↓s_214_80, ↓s_214_81, ↓s_214_82, ↓s_214_85, ↓s_214_86, ↓s_214_89, w32c_40, zar_111, zia_111, zln_111, zit_111, zar_110, zia_110, zln_110, zit_110, zio_95]
  refine ⟨⟨by omega, by omega⟩, ?_⟩
  rw [hpt]
  exact rb7 (b := mem) hE (by omega) hs hp 7 x _ [] _ rfl (rTk_s h (by decide)) ⟨rpF_fr (fun _ _ _ => rfl) (Or.inr (Or.inl ⟨rfl, rfl⟩)), fun _ => ⟨by rw [yset_s]; exact w32c_0, fun j v hv => by cases hv⟩⟩ hQ
end RF
/-! a verse -/
def rwF (v i j : Nat) : Prop := (i = 111 ∧ (4 + v) * 24 ≤ j ∧ j < (4 + v) * 24 + 24) ∨ (i = 110 ∧ (4 + v) * 3 ≤ j ∧ j < (4 + v) * 3 + 3) ∨ (i = 109 ∧ j = 4 + v) ∨ (i = 97 ∧ j = 9) ∨ (i = 95 ∧ 27 ≤ j ∧ j ≤ 32)
def rPs (m : yMem) (v : Nat) (l : List (List Int)) : Prop := ∀ p q, l[p]? = some q → q.length ≤ 8 ∧ w32 (m 110 (12 + (v * 3 + p))) = (q.length : Int) ∧ ∀ j w, q[j]? = some w → w32 (m 111 ((12 + (v * 3 + p)) * 8 + j)) = w
def RwS (b m : yMem) (v : Nat) (y : sY) (l : List (List Int)) : Prop := (∀ i j, ¬ rwF v i j → m i j = b i j) ∧ m 97 9 = b 97 9 ∧ (yOk y → w32 (m 109 (4 + v)) = (l.length : Int) ∧ rPs m v l)
theorem rwF_fr {b m : yMem} {s i j : Nat} {x : Int} (h : ∀ i j, ¬ rwF s i j → m i j = b i j) (hv : rwF s i j) : ∀ i' j', ¬ rwF s i' j' → yset m i j x i' j' = b i' j' := fun i' j' h' => by
  rw [yset_a]
  split
  · next e1 =>
    rw [if_neg (fun e2 => h' (by rw [e1, e2]; exact hv))]
    exact h i' j' h'
  · exact h i' j' h'
theorem rPs_eq {m m' : yMem} {v : Nat} {l : List (List Int)} (h : rPs m v l) (h5 : ∀ j, m' 110 j = m 110 j) (h6 : ∀ j, m' 111 j = m 111 j) : rPs m' v l := fun p q hq => by
  obtain ⟨h1, h2, h3⟩ := h p q hq
  exact ⟨h1, by rw [h5]; exact h2, fun j w hw => by rw [h6]; exact h3 j w hw⟩
section RG
variable {E : yE} {mem b m : yMem} {Q : Option yV → yMem → Prop} {ch : Nat → Int} {n : Nat} {x y : sY} {d v : Nat} {r : Int} {l : List (List Int)}
/-- no part more -/
theorem vx48 (hE : yEok E) (hb : w32 (b 97 9) = (v : Int)) (hv : v < 4) (hk : ¬ yKd y = 27) (h : rTk ch n m y) (hS : RwS b m v y l) (fin : ∀ m', (∀ i j, ¬ rwF v i j → m' i j = b i j) → rTk ch n m' y → (yOk y → w32 (m' 97 9) = ((v + 1 : Nat) : Int) ∧ w32 (m' 109 (4 + v)) = (l.length : Int) ∧ rPs m' v l) → Q none m') : zG E (d + 1) xm_248 48 [some (1, 95), some (0, r)] [] m Q := by
  refine zgo_ok (n := 60) hE xmo_248 (cs := zc_248) ?_
  have h9 : w32 (m 97 9) = (v : Int) := by rw [hS.2.1]; exact hb
  have e1 : w32 (m 97 9 + 1) = ((v + 1 : Nat) : Int) := by rw [w32_ad (by rw [w32c_1, h9]; omega) (by rw [w32c_1, h9]; omega), w32c_1, h9]; omega
  have f0 : Q none (yset m 97 9 (m 97 9 + 1)) := fin _ (rwF_fr hS.1 (Or.inr (Or.inr (Or.inr (Or.inl ⟨rfl, rfl⟩))))) (rTk_s h (by decide)) (fun z => ⟨by rw [yset_s]; exact e1, by rw [yset_o (by decide)]; exact (hS.2.2 z).1, rPs_eq (hS.2.2 z).2 (fun j => yset_o (by decide)) (fun j => yset_o (by decide))⟩)
  by_cases q1 : w32 (m 95 31) = 0
  · by_cases q2 : w32 (m 95 29) = 0
    · have q3 : ¬ w32 (m 95 30) = 7 := fun z => hk ((rf_isw h (k0 := 27) (by decide) (by decide)).mp ⟨q1, q2, z⟩)
      simp only [ynok_30, ynok_31, w32c_0, w32c_1, w32c_2, w32c_3, w32c_4, w32c_5, w32c_6, w32c_7, w32c_8, w32c_9, w32c_10, w32c_11, w32c_12, w32c_13, w32c_14, w32c_m1, w32c_m2, w32c_118, Int.reduceAdd, Int.reduceSub, Int.reduceMul, yput_s, yput_n, znl_n, znl_0, znl_1, znl_4, ysum_n, ysum_0, ysum_1, ysum_4, true_and, and_true, Nat.reduceAdd, Nat.reduceLeDiff, true_implies, eq_self, true_or, or_true, or_false, false_or, not_true_eq_false, not_false_eq_true, false_implies, implies_true, yset_s, yset_o, yset_d, ne_eq, Nat.reduceEqDiff, Int.reduceToNat, Int.reduceEq, Int.reduceLE, Int.reduceLT, Classical.not_not, Nat.reduceLT, ↓zvk_s, ↓zvk_n, ↓s_248_0, ↓s_248_1, ↓s_248_4, ↓s_248_5, ↓s_248_6, ↓s_248_7, ↓s_248_10, ↓s_248_11, ↓s_248_12, ↓s_248_13, ↓s_248_16, ↓s_248_19, ↓s_248_20, ↓s_248_21, ↓s_248_24, ↓s_248_25, ↓s_248_26, ↓s_248_27, ↓s_248_28, ↓s_248_31, ↓s_248_34, ↓s_248_35, ↓s_248_37, ↓s_248_40, ↓s_248_43, ↓s_248_44, ↓s_248_45, ↓g_248_48, ↓k_248_48, ↓s_248_49, ↓s_248_51, ↓s_248_54, ↓s_248_57, ↓s_248_58, ↓s_248_61, ↓s_248_62, ↓s_248_63, ↓s_248_64, ↓s_248_67, ↓s_248_68, ↓s_248_69, ↓s_248_72, ↓s_248_73, ↓s_248_76, ↓s_248_79, ↓s_248_80, ↓s_248_81, ↓s_248_84, ↓s_248_85, ↓s_248_86, ↓s_248_87, ↓s_248_88, ↓s_248_89, ↓s_248_92, ↓s_248_93, ↓s_248_94, ↓s_248_95, ↓s_248_98, ↓s_248_99, ↓s_248_102, ↓s_248_103, ↓s_248_104, ↓s_248_105, ↓s_248_106, ↓s_248_107, ↓s_248_108, ↓s_248_111, ↓s_248_112, ↓s_248_113, ↓s_248_114, ↓s_248_115, ↓s_248_118, ↓s_248_119, ↓s_248_120, ↓s_248_123, ↓s_254_0, ↓s_254_1, ↓s_254_4, ↓s_254_7, ↓s_254_8, ↓s_254_9, ↓s_254_10, ↓s_254_13, ↓s_254_14, ↓s_254_15, ↓s_254_18, ↓s_254_21, ↓s_198_0, ↓s_198_1, ↓s_198_4, ↓s_198_7, ↓s_198_8, ↓s_198_11, ↓s_198_14, ↓s_198_15, ↓s_198_18, ↓s_198_19, ↓s_198_22, ↓s_198_23, ↓s_198_26, ↓s_198_27, ↓s_173_0, ↓s_173_1, ↓s_173_4, ↓s_173_7, ↓s_173_8, ↓s_173_11, ↓s_170_0, ↓s_170_1, ↓s_170_4, ↓s_170_6, ↓s_170_7, ↓s_170_8, ↓s_170_9, ↓s_221_0, ↓s_221_1, ↓s_221_4, ↓s_221_6, ↓s_221_7, ↓s_221_8, ↓s_221_9, ↓s_221_10, zar_97, zia_97, zln_97, zit_97, zar_108, zia_108, zln_108, zit_108, zar_109, zia_109, zln_109, zit_109, zio_95, q1, q2, q3]
      exact ⟨by omega, by omega, f0⟩
    · simp only [ynok_30, ynok_31, w32c_0, w32c_1, w32c_2, w32c_3, w32c_4, w32c_5, w32c_6, w32c_7, w32c_8, w32c_9, w32c_10, w32c_11, w32c_12, w32c_13, w32c_14, w32c_m1, w32c_m2, w32c_118, Int.reduceAdd, Int.reduceSub, Int.reduceMul, yput_s, yput_n, znl_n, znl_0, znl_1, znl_4, ysum_n, ysum_0, ysum_1, ysum_4, true_and, and_true, Nat.reduceAdd, Nat.reduceLeDiff, true_implies, eq_self, true_or, or_true, or_false, false_or, not_true_eq_false, not_false_eq_true, false_implies, implies_true, yset_s, yset_o, yset_d, ne_eq, Nat.reduceEqDiff, Int.reduceToNat, Int.reduceEq, Int.reduceLE, Int.reduceLT, Classical.not_not, Nat.reduceLT, ↓zvk_s, ↓zvk_n, ↓s_248_0, ↓s_248_1, ↓s_248_4, ↓s_248_5, ↓s_248_6, ↓s_248_7, ↓s_248_10, ↓s_248_11, ↓s_248_12, ↓s_248_13, ↓s_248_16, ↓s_248_19, ↓s_248_20, ↓s_248_21, ↓s_248_24, ↓s_248_25, ↓s_248_26, ↓s_248_27, ↓s_248_28, ↓s_248_31, ↓s_248_34, ↓s_248_35, ↓s_248_37, ↓s_248_40, ↓s_248_43, ↓s_248_44, ↓s_248_45, ↓g_248_48, ↓k_248_48, ↓s_248_49, ↓s_248_51, ↓s_248_54, ↓s_248_57, ↓s_248_58, ↓s_248_61, ↓s_248_62, ↓s_248_63, ↓s_248_64, ↓s_248_67, ↓s_248_68, ↓s_248_69, ↓s_248_72, ↓s_248_73, ↓s_248_76, ↓s_248_79, ↓s_248_80, ↓s_248_81, ↓s_248_84, ↓s_248_85, ↓s_248_86, ↓s_248_87, ↓s_248_88, ↓s_248_89, ↓s_248_92, ↓s_248_93, ↓s_248_94, ↓s_248_95, ↓s_248_98, ↓s_248_99, ↓s_248_102, ↓s_248_103, ↓s_248_104, ↓s_248_105, ↓s_248_106, ↓s_248_107, ↓s_248_108, ↓s_248_111, ↓s_248_112, ↓s_248_113, ↓s_248_114, ↓s_248_115, ↓s_248_118, ↓s_248_119, ↓s_248_120, ↓s_248_123, ↓s_254_0, ↓s_254_1, ↓s_254_4, ↓s_254_7, ↓s_254_8, ↓s_254_9, ↓s_254_10, ↓s_254_13, ↓s_254_14, ↓s_254_15, ↓s_254_18, ↓s_254_21, ↓s_198_0, ↓s_198_1, ↓s_198_4, ↓s_198_7, ↓s_198_8, ↓s_198_11, ↓s_198_14, ↓s_198_15, ↓s_198_18, ↓s_198_19, ↓s_198_22, ↓s_198_23, ↓s_198_26, ↓s_198_27, ↓s_173_0, ↓s_173_1, ↓s_173_4, ↓s_173_7, ↓s_173_8, ↓s_173_11, ↓s_170_0, ↓s_170_1, ↓s_170_4, ↓s_170_6, ↓s_170_7, ↓s_170_8, ↓s_170_9, ↓s_221_0, ↓s_221_1, ↓s_221_4, ↓s_221_6, ↓s_221_7, ↓s_221_8, ↓s_221_9, ↓s_221_10, zar_97, zia_97, zln_97, zit_97, zar_108, zia_108, zln_108, zit_108, zar_109, zia_109, zln_109, zit_109, zio_95, q1, q2]
      exact ⟨by omega, by omega, f0⟩
  · simp only [ynok_30, ynok_31, w32c_0, w32c_1, w32c_2, w32c_3, w32c_4, w32c_5, w32c_6, w32c_7, w32c_8, w32c_9, w32c_10, w32c_11, w32c_12, w32c_13, w32c_14, w32c_m1, w32c_m2, w32c_118, Int.reduceAdd, Int.reduceSub, Int.reduceMul, yput_s, yput_n, znl_n, znl_0, znl_1, znl_4, ysum_n, ysum_0, ysum_1, ysum_4, true_and, and_true, Nat.reduceAdd, Nat.reduceLeDiff, true_implies, eq_self, true_or, or_true, or_false, false_or, not_true_eq_false, not_false_eq_true, false_implies, implies_true, yset_s, yset_o, yset_d, ne_eq, Nat.reduceEqDiff, Int.reduceToNat, Int.reduceEq, Int.reduceLE, Int.reduceLT, Classical.not_not, Nat.reduceLT, ↓zvk_s, ↓zvk_n, ↓s_248_0, ↓s_248_1, ↓s_248_4, ↓s_248_5, ↓s_248_6, ↓s_248_7, ↓s_248_10, ↓s_248_11, ↓s_248_12, ↓s_248_13, ↓s_248_16, ↓s_248_19, ↓s_248_20, ↓s_248_21, ↓s_248_24, ↓s_248_25, ↓s_248_26, ↓s_248_27, ↓s_248_28, ↓s_248_31, ↓s_248_34, ↓s_248_35, ↓s_248_37, ↓s_248_40, ↓s_248_43, ↓s_248_44, ↓s_248_45, ↓g_248_48, ↓k_248_48, ↓s_248_49, ↓s_248_51, ↓s_248_54, ↓s_248_57, ↓s_248_58, ↓s_248_61, ↓s_248_62, ↓s_248_63, ↓s_248_64, ↓s_248_67, ↓s_248_68, ↓s_248_69, ↓s_248_72, ↓s_248_73, ↓s_248_76, ↓s_248_79, ↓s_248_80, ↓s_248_81, ↓s_248_84, ↓s_248_85, ↓s_248_86, ↓s_248_87, ↓s_248_88, ↓s_248_89, ↓s_248_92, ↓s_248_93, ↓s_248_94, ↓s_248_95, ↓s_248_98, ↓s_248_99, ↓s_248_102, ↓s_248_103, ↓s_248_104, ↓s_248_105, ↓s_248_106, ↓s_248_107, ↓s_248_108, ↓s_248_111, ↓s_248_112, ↓s_248_113, ↓s_248_114, ↓s_248_115, ↓s_248_118, ↓s_248_119, ↓s_248_120, ↓s_248_123, ↓s_254_0, ↓s_254_1, ↓s_254_4, ↓s_254_7, ↓s_254_8, ↓s_254_9, ↓s_254_10, ↓s_254_13, ↓s_254_14, ↓s_254_15, ↓s_254_18, ↓s_254_21, ↓s_198_0, ↓s_198_1, ↓s_198_4, ↓s_198_7, ↓s_198_8, ↓s_198_11, ↓s_198_14, ↓s_198_15, ↓s_198_18, ↓s_198_19, ↓s_198_22, ↓s_198_23, ↓s_198_26, ↓s_198_27, ↓s_173_0, ↓s_173_1, ↓s_173_4, ↓s_173_7, ↓s_173_8, ↓s_173_11, ↓s_170_0, ↓s_170_1, ↓s_170_4, ↓s_170_6, ↓s_170_7, ↓s_170_8, ↓s_170_9, ↓s_221_0, ↓s_221_1, ↓s_221_4, ↓s_221_6, ↓s_221_7, ↓s_221_8, ↓s_221_9, ↓s_221_10, zar_97, zia_97, zln_97, zit_97, zar_108, zia_108, zln_108, zit_108, zar_109, zia_109, zln_109, zit_109, zio_95, q1]
    exact ⟨by omega, by omega, f0⟩
/-- a fourth part -/
theorem vl3 (hE : yEok E) (hv : v < 4) (hr : w32 r = ((4 + v : Nat) : Int)) (hk : yKd y = 27) (h : rTk ch n m y) (h3 : w32 (m 109 (4 + v)) = 3) (hF : ∀ i j, ¬ rwF v i j → m i j = b i j) (fin : ∀ m', (∀ i j, ¬ rwF v i j → m' i j = b i j) → rTk ch n m' (yFl 2 y) → Q none m') : zG E (d + 1) xm_248 48 [some (1, 95), some (0, r)] [] m Q := by
  have hrt : (w32 r).toNat = 4 + v := by rw [hr]; exact Int.toNat_natCast _
  refine zgo_ok (n := 60) hE xmo_248 (cs := zc_248) ?_
  obtain ⟨q1, q2, q3⟩ := (rf_isw h (k0 := 27) (by decide) (by decide)).mpr hk
  have q3 : w32 (m 95 30) = 7 := q3
  simp only [ynok_30, ynok_31, w32c_0, w32c_1, w32c_2, w32c_3, w32c_4, w32c_5, w32c_6, w32c_7, w32c_8, w32c_9, w32c_10, w32c_11, w32c_12, w32c_13, w32c_14, w32c_m1, w32c_m2, w32c_118, Int.reduceAdd, Int.reduceSub, Int.reduceMul, yput_s, yput_n, znl_n, znl_0, znl_1, znl_4, ysum_n, ysum_0, ysum_1, ysum_4, true_and, and_true, Nat.reduceAdd, Nat.reduceLeDiff, true_implies, eq_self, true_or, or_true, or_false, false_or, not_true_eq_false, not_false_eq_true, false_implies, implies_true, yset_s, yset_o, yset_d, ne_eq, Nat.reduceEqDiff, Int.reduceToNat, Int.reduceEq, Int.reduceLE, Int.reduceLT, Classical.not_not, Nat.reduceLT, ↓zvk_s, ↓zvk_n, ↓s_248_0, ↓s_248_1, ↓s_248_4, ↓s_248_5, ↓s_248_6, ↓s_248_7, ↓s_248_10, ↓s_248_11, ↓s_248_12, ↓s_248_13, ↓s_248_16, ↓s_248_19, ↓s_248_20, ↓s_248_21, ↓s_248_24, ↓s_248_25, ↓s_248_26, ↓s_248_27, ↓s_248_28, ↓s_248_31, ↓s_248_34, ↓s_248_35, ↓s_248_37, ↓s_248_40, ↓s_248_43, ↓s_248_44, ↓s_248_45, ↓g_248_48, ↓k_248_48, ↓s_248_49, ↓s_248_51, ↓s_248_54, ↓s_248_57, ↓s_248_58, ↓s_248_61, ↓s_248_62, ↓s_248_63, ↓s_248_64, ↓s_248_67, ↓s_248_68, ↓s_248_69, ↓s_248_72, ↓s_248_73, ↓s_248_76, ↓s_248_79, ↓s_248_80, ↓s_248_81, ↓s_248_84, ↓s_248_85, ↓s_248_86, ↓s_248_87, ↓s_248_88, ↓s_248_89, ↓s_248_92, ↓s_248_93, ↓s_248_94, ↓s_248_95, ↓s_248_98, ↓s_248_99, ↓s_248_102, ↓s_248_103, ↓s_248_104, ↓s_248_105, ↓s_248_106, ↓s_248_107, ↓s_248_108, ↓s_248_111, ↓s_248_112, ↓s_248_113, ↓s_248_114, ↓s_248_115, ↓s_248_118, ↓s_248_119, ↓s_248_120, ↓s_248_123, ↓s_254_0, ↓s_254_1, ↓s_254_4, ↓s_254_7, ↓s_254_8, ↓s_254_9, ↓s_254_10, ↓s_254_13, ↓s_254_14, ↓s_254_15, ↓s_254_18, ↓s_254_21, ↓s_198_0, ↓s_198_1, ↓s_198_4, ↓s_198_7, ↓s_198_8, ↓s_198_11, ↓s_198_14, ↓s_198_15, ↓s_198_18, ↓s_198_19, ↓s_198_22, ↓s_198_23, ↓s_198_26, ↓s_198_27, ↓s_173_0, ↓s_173_1, ↓s_173_4, ↓s_173_7, ↓s_173_8, ↓s_173_11, ↓s_170_0, ↓s_170_1, ↓s_170_4, ↓s_170_6, ↓s_170_7, ↓s_170_8, ↓s_170_9, ↓s_221_0, ↓s_221_1, ↓s_221_4, ↓s_221_6, ↓s_221_7, ↓s_221_8, ↓s_221_9, ↓s_221_10, zar_97, zia_97, zln_97, zit_97, zar_108, zia_108, zln_108, zit_108, zar_109, zia_109, zln_109, zit_109, zio_95, q1, q2, q3]
  rw [hrt]
  refine ⟨⟨by omega, by omega⟩, fun z => absurd h3 z, fun _ => ?_⟩
  obtain ⟨l, rfl⟩ := yOk_kd (x := y) (by omega)
  obtain ⟨G1, G2⟩ := rf_wr (f := 2) (F := 2) h (by decide) (by decide)
  exact fin _ (fun i j hv => by rw [G1 i j (amod_r (fun z => hv (Or.inr (Or.inr (Or.inr (Or.inr z))))))]; exact hF i j hv) G2
/-- one part more -/
theorem vlS (hE : yEok E) (hd : 8 ≤ d) (hv : v < 4) (hr : w32 r = ((4 + v : Nat) : Int)) (hl : l.length ≤ 2) (hk : yKd y = 27) (h : rTk ch n m y) (hS : RwS b m v y l) (f : ∀ m', rTk ch n m' (pPt y).2 → RwS b m' v (pPt y).2 (l ++ [(pPt y).1]) → zG E (d + 1) xm_248 48 [some (1, 95), some (0, r)] [] m' Q) : zG E (d + 1) xm_248 48 [some (1, 95), some (0, r)] [] m Q := by
  have hrt : (w32 r).toNat = 4 + v := by rw [hr]; exact Int.toNat_natCast _
  have hy := yOk_kd (x := y) (by omega)
  obtain ⟨c1, c2⟩ := hS.2.2 hy
  refine zgo_ok (n := 60) hE xmo_248 (cs := zc_248) ?_
  obtain ⟨q1, q2, q3⟩ := (rf_isw h (k0 := 27) (by decide) (by decide)).mpr hk
  have q3 : w32 (m 95 30) = 7 := q3
  simp only [ynok_30, ynok_31, w32c_0, w32c_1, w32c_2, w32c_3, w32c_4, w32c_5, w32c_6, w32c_7, w32c_8, w32c_9, w32c_10, w32c_11, w32c_12, w32c_13, w32c_14, w32c_m1, w32c_m2, w32c_118, Int.reduceAdd, Int.reduceSub, Int.reduceMul, yput_s, yput_n, znl_n, znl_0, znl_1, znl_4, ysum_n, ysum_0, ysum_1, ysum_4, true_and, and_true, Nat.reduceAdd, Nat.reduceLeDiff, true_implies, eq_self, true_or, or_true, or_false, false_or, not_true_eq_false, not_false_eq_true, false_implies, implies_true, yset_s, yset_o, yset_d, ne_eq, Nat.reduceEqDiff, Int.reduceToNat, Int.reduceEq, Int.reduceLE, Int.reduceLT, Classical.not_not, Nat.reduceLT, ↓zvk_s, ↓zvk_n, ↓s_248_0, ↓s_248_1, ↓s_248_4, ↓s_248_5, ↓s_248_6, ↓s_248_7, ↓s_248_10, ↓s_248_11, ↓s_248_12, ↓s_248_13, ↓s_248_16, ↓s_248_19, ↓s_248_20, ↓s_248_21, ↓s_248_24, ↓s_248_25, ↓s_248_26, ↓s_248_27, ↓s_248_28, ↓s_248_31, ↓s_248_34, ↓s_248_35, ↓s_248_37, ↓s_248_40, ↓s_248_43, ↓s_248_44, ↓s_248_45, ↓g_248_48, ↓k_248_48, ↓s_248_49, ↓s_248_51, ↓s_248_54, ↓s_248_57, ↓s_248_58, ↓s_248_61, ↓s_248_62, ↓s_248_63, ↓s_248_64, ↓s_248_67, ↓s_248_68, ↓s_248_69, ↓s_248_72, ↓s_248_73, ↓s_248_76, ↓s_248_79, ↓s_248_80, ↓s_248_81, ↓s_248_84, ↓s_248_85, ↓s_248_86, ↓s_248_87, ↓s_248_88, ↓s_248_89, ↓s_248_92, ↓s_248_93, ↓s_248_94, ↓s_248_95, ↓s_248_98, ↓s_248_99, ↓s_248_102, ↓s_248_103, ↓s_248_104, ↓s_248_105, ↓s_248_106, ↓s_248_107, ↓s_248_108, ↓s_248_111, ↓s_248_112, ↓s_248_113, ↓s_248_114, ↓s_248_115, ↓s_248_118, ↓s_248_119, ↓s_248_120, ↓s_248_123, ↓s_254_0, ↓s_254_1, ↓s_254_4, ↓s_254_7, ↓s_254_8, ↓s_254_9, ↓s_254_10, ↓s_254_13, ↓s_254_14, ↓s_254_15, ↓s_254_18, ↓s_254_21, ↓s_198_0, ↓s_198_1, ↓s_198_4, ↓s_198_7, ↓s_198_8, ↓s_198_11, ↓s_198_14, ↓s_198_15, ↓s_198_18, ↓s_198_19, ↓s_198_22, ↓s_198_23, ↓s_198_26, ↓s_198_27, ↓s_173_0, ↓s_173_1, ↓s_173_4, ↓s_173_7, ↓s_173_8, ↓s_173_11, ↓s_170_0, ↓s_170_1, ↓s_170_4, ↓s_170_6, ↓s_170_7, ↓s_170_8, ↓s_170_9, ↓s_221_0, ↓s_221_1, ↓s_221_4, ↓s_221_6, ↓s_221_7, ↓s_221_8, ↓s_221_9, ↓s_221_10, zar_97, zia_97, zln_97, zit_97, zar_108, zia_108, zln_108, zit_108, zar_109, zia_109, zln_109, zit_109, zio_95, q1, q2, q3]
  rw [hrt]
  refine ⟨⟨by omega, by omega⟩, fun _ => ?_, fun z => absurd z (by omega)⟩
  have ept : pPt y = pBars 8 (yNx y) := by unfold pPt; rw [if_pos hk]
  obtain ⟨l0, rfl⟩ := hy
  refine rf_token hE (by omega) h (fun m1 F1 T1 => ?_)
  refine zgk_n hE xmo_173 60 [] ?_
  have b109 : m1 109 (4 + v) = m 109 (4 + v) := F1 109 _ (amod_sub (w := tkF) (w' := rnF) (by decide) (amod_r5 (by decide)))
  have e3 : w32 (3 * r) = 3 * w32 r := w32_k (by decide) (by omega) (by omega)
  have ep : w32 (3 * r + m 109 (4 + v)) = ((12 + (v * 3 + l.length) : Nat) : Int) := by rw [w32_ad (by rw [e3]; omega) (by rw [e3]; omega), e3]; omega
  have ei : w32 (m 109 (4 + v) + 1) = ((l.length + 1 : Nat) : Int) := by rw [w32_ad (by rw [w32c_1]; omega) (by rw [w32c_1]; omega), w32c_1]; omega
  simp only [ynok_30, ynok_31, w32c_0, w32c_1, w32c_2, w32c_3, w32c_4, w32c_5, w32c_6, w32c_7, w32c_8, w32c_9, w32c_10, w32c_11, w32c_12, w32c_13, w32c_14, w32c_m1, w32c_m2, w32c_118, Int.reduceAdd, Int.reduceSub, Int.reduceMul, yput_s, yput_n, znl_n, znl_0, znl_1, znl_4, ysum_n, ysum_0, ysum_1, ysum_4, true_and, and_true, Nat.reduceAdd, Nat.reduceLeDiff, true_implies, eq_self, true_or, or_true, or_false, false_or, not_true_eq_false, not_false_eq_true, false_implies, implies_true, yset_s, yset_o, yset_d, ne_eq, Nat.reduceEqDiff, Int.reduceToNat, Int.reduceEq, Int.reduceLE, Int.reduceLT, Classical.not_not, Nat.reduceLT, ↓zvk_s, ↓zvk_n, ↓s_248_0, ↓s_248_1, ↓s_248_4, ↓s_248_5, ↓s_248_6, ↓s_248_7, ↓s_248_10, ↓s_248_11, ↓s_248_12, ↓s_248_13, ↓s_248_16, ↓s_248_19, ↓s_248_20, ↓s_248_21, ↓s_248_24, ↓s_248_25, ↓s_248_26, ↓s_248_27, ↓s_248_28, ↓s_248_31, ↓s_248_34, ↓s_248_35, ↓s_248_37, ↓s_248_40, ↓s_248_43, ↓s_248_44, ↓s_248_45, ↓g_248_48, ↓k_248_48, ↓s_248_49, ↓s_248_51, ↓s_248_54, ↓s_248_57, ↓s_248_58, ↓s_248_61, ↓s_248_62, ↓s_248_63, ↓s_248_64, ↓s_248_67, ↓s_248_68, ↓s_248_69, ↓s_248_72, ↓s_248_73, ↓s_248_76, ↓s_248_79, ↓s_248_80, ↓s_248_81, ↓s_248_84, ↓s_248_85, ↓s_248_86, ↓s_248_87, ↓s_248_88, ↓s_248_89, ↓s_248_92, ↓s_248_93, ↓s_248_94, ↓s_248_95, ↓s_248_98, ↓s_248_99, ↓s_248_102, ↓s_248_103, ↓s_248_104, ↓s_248_105, ↓s_248_106, ↓s_248_107, ↓s_248_108, ↓s_248_111, ↓s_248_112, ↓s_248_113, ↓s_248_114, ↓s_248_115, ↓s_248_118, ↓s_248_119, ↓s_248_120, ↓s_248_123, ↓s_173_0, ↓s_173_1, ↓s_173_4, ↓s_173_7, ↓s_173_8, ↓s_173_11, zar_108, zia_108, zln_108, zit_108, zar_109, zia_109, zln_109, zit_109, zio_95]
  rw [hrt, b109]
  refine ⟨⟨by omega, by omega⟩, ?_⟩
  refine rf_partLine hE (by omega) (s := v * 3 + l.length) (by omega) ep (x := yNx (.inr l0)) T1 (fun m2 T2 P2 => ?_)
  rw [← ept] at T2 P2
  refine zgk_n hE xmo_248 60 zc_248 ?_
  simp only [ynok_30, ynok_31, w32c_0, w32c_1, w32c_2, w32c_3, w32c_4, w32c_5, w32c_6, w32c_7, w32c_8, w32c_9, w32c_10, w32c_11, w32c_12, w32c_13, w32c_14, w32c_m1, w32c_m2, w32c_118, Int.reduceAdd, Int.reduceSub, Int.reduceMul, yput_s, yput_n, znl_n, znl_0, znl_1, znl_4, ysum_n, ysum_0, ysum_1, ysum_4, true_and, and_true, Nat.reduceAdd, Nat.reduceLeDiff, true_implies, eq_self, true_or, or_true, or_false, false_or, not_true_eq_false, not_false_eq_true, false_implies, implies_true, yset_s, yset_o, yset_d, ne_eq, Nat.reduceEqDiff, Int.reduceToNat, Int.reduceEq, Int.reduceLE, Int.reduceLT, Classical.not_not, Nat.reduceLT, ↓zvk_s, ↓zvk_n, ↓s_248_0, ↓s_248_1, ↓s_248_4, ↓s_248_5, ↓s_248_6, ↓s_248_7, ↓s_248_10, ↓s_248_11, ↓s_248_12, ↓s_248_13, ↓s_248_16, ↓s_248_19, ↓s_248_20, ↓s_248_21, ↓s_248_24, ↓s_248_25, ↓s_248_26, ↓s_248_27, ↓s_248_28, ↓s_248_31, ↓s_248_34, ↓s_248_35, ↓s_248_37, ↓s_248_40, ↓s_248_43, ↓s_248_44, ↓s_248_45, ↓g_248_48, ↓k_248_48, ↓s_248_49, ↓s_248_51, ↓s_248_54, ↓s_248_57, ↓s_248_58, ↓s_248_61, ↓s_248_62, ↓s_248_63, ↓s_248_64, ↓s_248_67, ↓s_248_68, ↓s_248_69, ↓s_248_72, ↓s_248_73, ↓s_248_76, ↓s_248_79, ↓s_248_80, ↓s_248_81, ↓s_248_84, ↓s_248_85, ↓s_248_86, ↓s_248_87, ↓s_248_88, ↓s_248_89, ↓s_248_92, ↓s_248_93, ↓s_248_94, ↓s_248_95, ↓s_248_98, ↓s_248_99, ↓s_248_102, ↓s_248_103, ↓s_248_104, ↓s_248_105, ↓s_248_106, ↓s_248_107, ↓s_248_108, ↓s_248_111, ↓s_248_112, ↓s_248_113, ↓s_248_114, ↓s_248_115, ↓s_248_118, ↓s_248_119, ↓s_248_120, ↓s_248_123, zar_108, zia_108, zln_108, zit_108, zar_109, zia_109, zln_109, zit_109, zio_95]
  have c109 : m2 109 (4 + v) = m 109 (4 + v) := by rw [P2.1 109 _ (by unfold rpF; omega)]; exact b109
  rw [hrt, c109]
  refine ⟨⟨by omega, by omega⟩, ⟨by omega, by omega⟩, f _ (rTk_s T2 (by decide)) ⟨fun i j hw => ?_, ?_, fun z => ⟨?_, fun p q hq => ?_⟩⟩⟩
  · have k1 : yset m2 109 (4 + v) (m 109 (4 + v) + 1) i j = m2 i j := by
      rw [yset_a]
      split
      · next e1 => rw [if_neg (fun e2 => hw (Or.inr (Or.inr (Or.inl ⟨e1, e2⟩))))]
      · rfl
    rw [k1, P2.1 i j (fun hp => hw (by unfold rpF at hp; unfold rwF; omega)), F1 i j (amod_sub (w := tkF) (w' := rnF) (by decide) (amod_r (fun z => hw (Or.inr (Or.inr (Or.inr (Or.inr z)))))))]
    exact hS.1 i j hw
  · rw [yset_o (by decide), P2.1 97 9 (by unfold rpF; omega), F1 97 9 rfl]
    exact hS.2.1
  · rw [yset_s, ei, List.length_append]
    rfl
  · rcases app_get hq with hq | ⟨rfl, rfl⟩
    · have hp := get_lt hq
      obtain ⟨h1, h2, h3⟩ := c2 p q hq
      refine ⟨h1, by rw [yset_o (by decide), P2.1 110 _ (by unfold rpF; omega), F1 110 _ (amod_sub (w := tkF) (w' := rnF) (by decide) (amod_r5 (by decide)))]; exact h2, fun j w hw => ?_⟩
      have hj := get_lt hw
      rw [yset_o (by decide), P2.1 111 _ (by unfold rpF; omega), F1 111 _ (amod_sub (w := tkF) (w' := rnF) (by decide) (amod_r5 (by decide)))]
      exact h3 j w hw
    · obtain ⟨g1, g2⟩ := P2.2 z
      exact ⟨pPt_len _, by rw [yset_o (by decide)]; exact g1, fun j w hw => by rw [yset_o (by decide)]; exact g2 j w hw⟩
theorem vl48 (hE : yEok E) (hd : 8 ≤ d) (hb : w32 (b 97 9) = (v : Int)) (hv : v < 4) (hr : w32 r = ((4 + v : Nat) : Int)) : ∀ c (y : sY) (m : yMem) (l : List (List Int)), c + 1 + l.length = 3 → yKd y = 27 → rTk ch n m y → RwS b m v y l → (∀ m', (∀ i j, ¬ rwF v i j → m' i j = b i j) → rTk ch n m' (pPts (c + 1) y).2 → (yOk (pPts (c + 1) y).2 → w32 (m' 97 9) = ((v + 1 : Nat) : Int) ∧ w32 (m' 109 (4 + v)) = ((l ++ (pPts (c + 1) y).1).length : Int) ∧ rPs m' v (l ++ (pPts (c + 1) y).1)) → Q none m') → zG E (d + 1) xm_248 48 [some (1, 95), some (0, r)] [] m Q := by
  intro c
  induction c with
  | zero =>
    intro y m l hc hk h hS fin
    have e1 : pPts (0 + 1) y = ([(pPt y).1], if yKd (pPt y).2 = 27 then yFl 2 (pPt y).2 else (pPt y).2) := rfl
    rw [e1] at fin
    refine vlS hE hd hv hr (by omega) hk h hS (fun m' g1 g2 => ?_)
    by_cases hk' : yKd (pPt y).2 = 27
    · rw [if_pos hk'] at fin
      exact vl3 hE hv hr hk' g1 (by rw [(g2.2.2 (yOk_kd (by omega))).1, List.length_append]; show ((l.length + 1 : Nat) : Int) = 3; omega) g2.1 (fun m2 k1 k2 => fin m2 k1 k2 (fun z => absurd z yOk_fl))
    · rw [if_neg hk'] at fin
      exact vx48 hE hb hv hk' g1 g2 fin
  | succ c ih =>
    intro y m l hc hk h hS fin
    have e1 : pPts (c + 1 + 1) y = if yKd (pPt y).2 = 27 then ((pPt y).1 :: (pPts (c + 1) (pPt y).2).1, (pPts (c + 1) (pPt y).2).2) else ([(pPt y).1], (pPt y).2) := rfl
    rw [e1] at fin
    refine vlS hE hd hv hr (by omega) hk h hS (fun m' g1 g2 => ?_)
    by_cases hk' : yKd (pPt y).2 = 27
    · rw [if_pos hk'] at fin
      refine ih (pPt y).2 m' (l ++ [(pPt y).1]) (by rw [List.length_append]; show c + 1 + (l.length + 1) = 3; omega) hk' g1 g2 (fun m2 k1 k2 k3 => ?_)
      rw [List.append_assoc] at k3
      exact fin m2 k1 k2 k3
    · rw [if_neg hk'] at fin
      exact vx48 hE hb hv hk' g1 g2 fin
/-- THE REFERENCE'S verseLine -/
theorem rf_verseLine (hE : yEok E) {D : Nat} (hD : 11 ≤ D) {nm : List Int} (hl : nm.length < 4) (hr : w32 r = ((4 + nm.length : Nat) : Int)) (hV : rNm mem 108 2 4 nm) (h : rTk ch n mem x) (hQ : ∀ m, (∀ i j, ¬ (rwF nm.length i j ∨ (i = 108 ∧ j = 4 + nm.length)) → m i j = mem i j) → rTk ch n m (pPts 3 (yFr nm x)).2 → (yOk (pPts 3 (yFr nm x)).2 → w32 (m 97 9) = ((nm.length + 1 : Nat) : Int) ∧ w32 (m 108 (4 + nm.length)) = yVl x ∧ w32 (m 109 (4 + nm.length)) = ((pPts 3 (yFr nm x)).1.length : Int) ∧ rPs m nm.length (pPts 3 (yFr nm x)).1) → Q none m) : yCon E D xm_248 [(1, 95), (0, r)] mem Q := by
  obtain ⟨d, rfl⟩ := Nat.exists_eq_add_of_le' hD
  have hrt : (w32 r).toNat = 4 + nm.length := by rw [hr]; exact Int.toNat_natCast _
  refine e_248 ?_
  refine zvc_ok hE 60 zc_248 _ _ _ _ _ _ _ xmo_248 ?_
  simp only [ynok_30, ynok_31, w32c_0, w32c_1, w32c_2, w32c_3, w32c_4, w32c_5, w32c_6, w32c_7, w32c_8, w32c_9, w32c_10, w32c_11, w32c_12, w32c_13, w32c_14, w32c_m1, w32c_m2, w32c_118, Int.reduceAdd, Int.reduceSub, Int.reduceMul, yput_s, yput_n, znl_n, znl_0, znl_1, znl_4, ysum_n, ysum_0, ysum_1, ysum_4, true_and, and_true, Nat.reduceAdd, Nat.reduceLeDiff, true_implies, eq_self, true_or, or_true, or_false, false_or, not_true_eq_false, not_false_eq_true, false_implies, implies_true, yset_s, yset_o, yset_d, ne_eq, Nat.reduceEqDiff, Int.reduceToNat, Int.reduceEq, Int.reduceLE, Int.reduceLT, Classical.not_not, Nat.reduceLT, ↓zvk_s, ↓zvk_n, ↓s_248_0, ↓s_248_1, ↓s_248_4, ↓s_248_5, ↓s_248_6, ↓s_248_7, ↓s_248_10, ↓s_248_11, ↓s_248_12, ↓s_248_13, ↓s_248_16, ↓s_248_19, ↓s_248_20, ↓s_248_21, ↓s_248_24, ↓s_248_25, ↓s_248_26, ↓s_248_27, ↓s_248_28, ↓s_248_31, ↓s_248_34, ↓s_248_35, ↓s_248_37, ↓s_248_40, ↓s_248_43, ↓s_248_44, ↓s_248_45, ↓g_248_48, ↓k_248_48, ↓s_248_49, ↓s_248_51, ↓s_248_54, ↓s_248_57, ↓s_248_58, ↓s_248_61, ↓s_248_62, ↓s_248_63, ↓s_248_64, ↓s_248_67, ↓s_248_68, ↓s_248_69, ↓s_248_72, ↓s_248_73, ↓s_248_76, ↓s_248_79, ↓s_248_80, ↓s_248_81, ↓s_248_84, ↓s_248_85, ↓s_248_86, ↓s_248_87, ↓s_248_88, ↓s_248_89, ↓s_248_92, ↓s_248_93, ↓s_248_94, ↓s_248_95, ↓s_248_98, ↓s_248_99, ↓s_248_102, ↓s_248_103, ↓s_248_104, ↓s_248_105, ↓s_248_106, ↓s_248_107, ↓s_248_108, ↓s_248_111, ↓s_248_112, ↓s_248_113, ↓s_248_114, ↓s_248_115, ↓s_248_118, ↓s_248_119, ↓s_248_120, ↓s_248_123, ↓s_170_0, ↓s_170_1, ↓s_170_4, ↓s_170_6, ↓s_170_7, ↓s_170_8, ↓s_170_9, zar_97, zia_97, zln_97, zit_97, zar_108, zia_108, zln_108, zit_108, zar_109, zia_109, zln_109, zit_109, zio_95]
  refine ⟨by omega, ?_⟩
  refine rf_fresh hE (by omega) (z := 108) (L := 8) (q := 2) (off := 4) zar_108 w32c_4 hV.1 (by decide) (by decide) hV h (fun r1 m1 F1 T1 e1 => ?_)
  refine zgk_s hE xmo_248 60 zc_248 ?_
  have b9 : w32 (yset (yset m1 108 (4 + nm.length) r1) 109 (4 + nm.length) 0 97 9) = (nm.length : Int) := by rw [yset_o (by decide), yset_o (by decide), F1 97 9 rfl]; exact hV.1
  have e28 : yset (yset m1 108 (4 + nm.length) r1) 109 (4 + nm.length) 0 95 28 = m1 95 28 := by rw [yset_o (by decide), yset_o (by decide)]
  have T2 : rTk ch n (yset (yset m1 108 (4 + nm.length) r1) 109 (4 + nm.length) 0) (yFr nm x) := rTk_s (rTk_s T1 (by decide)) (by decide)
  have fr : ∀ m : yMem, (∀ i j, ¬ rwF nm.length i j → m i j = yset (yset m1 108 (4 + nm.length) r1) 109 (4 + nm.length) 0 i j) → ∀ i j, ¬ (rwF nm.length i j ∨ (i = 108 ∧ j = 4 + nm.length)) → m i j = mem i j := fun m hm i j hij => by
    rw [hm i j (fun z => hij (Or.inl z))]
    have q1 : ¬ (i = 109 ∧ j = 4 + nm.length) := fun z => hij (Or.inl (Or.inr (Or.inr (Or.inl z))))
    have q2 : ¬ (i = 108 ∧ j = 4 + nm.length) := fun z => hij (Or.inr z)
    have q3 : ¬ (i = 95 ∧ 27 ≤ j ∧ j ≤ 32) := fun z => hij (Or.inl (Or.inr (Or.inr (Or.inr (Or.inr z)))))
    rw [yset_n2 q1, yset_n2 q2]
    exact F1 i j (amod_r q3)
  have nam : ∀ m : yMem, yOk (yFr nm x) → (∀ i j, ¬ rwF nm.length i j → m i j = yset (yset m1 108 (4 + nm.length) r1) 109 (4 + nm.length) 0 i j) → w32 (m 108 (4 + nm.length)) = yVl x := fun m hy hm => by
    rw [hm 108 _ (by unfold rwF; omega), yset_o (by decide), yset_s]
    obtain ⟨l, hl⟩ := hy
    exact e1 l hl
  have S2 : ∀ m : yMem, (∀ i j, ¬ (i = 95 ∧ 27 ≤ j ∧ j ≤ 32) → m i j = yset (yset m1 108 (4 + nm.length) r1) 109 (4 + nm.length) 0 i j) → ∀ y, RwS (yset (yset m1 108 (4 + nm.length) r1) 109 (4 + nm.length) 0) m nm.length y [] := fun m hm y => ⟨fun i j hw => hm i j (fun z => hw (Or.inr (Or.inr (Or.inr (Or.inr z))))), hm 97 9 (by omega), fun _ => ⟨by rw [hm 109 _ (by omega), yset_s]; exact w32c_0, fun p q hq => by cases hq⟩⟩
  revert T1 T2 hQ nam
  generalize yFr nm x = y
  intro hQ T1 T2 nam
  by_cases hk : yKd y = 27
  · obtain ⟨q1, q2, q3⟩ := (rf_isw T1 (k0 := 27) (by decide) (by decide)).mpr hk
    have q3 : w32 (m1 95 30) = 7 := q3
    simp only [ynok_30, ynok_31, w32c_0, w32c_1, w32c_2, w32c_3, w32c_4, w32c_5, w32c_6, w32c_7, w32c_8, w32c_9, w32c_10, w32c_11, w32c_12, w32c_13, w32c_14, w32c_m1, w32c_m2, w32c_118, Int.reduceAdd, Int.reduceSub, Int.reduceMul, yput_s, yput_n, znl_n, znl_0, znl_1, znl_4, ysum_n, ysum_0, ysum_1, ysum_4, true_and, and_true, Nat.reduceAdd, Nat.reduceLeDiff, true_implies, eq_self, true_or, or_true, or_false, false_or, not_true_eq_false, not_false_eq_true, false_implies, implies_true, yset_s, yset_o, yset_d, ne_eq, Nat.reduceEqDiff, Int.reduceToNat, Int.reduceEq, Int.reduceLE, Int.reduceLT, Classical.not_not, Nat.reduceLT, ↓zvk_s, ↓zvk_n, ↓s_248_0, ↓s_248_1, ↓s_248_4, ↓s_248_5, ↓s_248_6, ↓s_248_7, ↓s_248_10, ↓s_248_11, ↓s_248_12, ↓s_248_13, ↓s_248_16, ↓s_248_19, ↓s_248_20, ↓s_248_21, ↓s_248_24, ↓s_248_25, ↓s_248_26, ↓s_248_27, ↓s_248_28, ↓s_248_31, ↓s_248_34, ↓s_248_35, ↓s_248_37, ↓s_248_40, ↓s_248_43, ↓s_248_44, ↓s_248_45, ↓g_248_48, ↓k_248_48, ↓s_248_49, ↓s_248_51, ↓s_248_54, ↓s_248_57, ↓s_248_58, ↓s_248_61, ↓s_248_62, ↓s_248_63, ↓s_248_64, ↓s_248_67, ↓s_248_68, ↓s_248_69, ↓s_248_72, ↓s_248_73, ↓s_248_76, ↓s_248_79, ↓s_248_80, ↓s_248_81, ↓s_248_84, ↓s_248_85, ↓s_248_86, ↓s_248_87, ↓s_248_88, ↓s_248_89, ↓s_248_92, ↓s_248_93, ↓s_248_94, ↓s_248_95, ↓s_248_98, ↓s_248_99, ↓s_248_102, ↓s_248_103, ↓s_248_104, ↓s_248_105, ↓s_248_106, ↓s_248_107, ↓s_248_108, ↓s_248_111, ↓s_248_112, ↓s_248_113, ↓s_248_114, ↓s_248_115, ↓s_248_118, ↓s_248_119, ↓s_248_120, ↓s_248_123, ↓s_254_0, ↓s_254_1, ↓s_254_4, ↓s_254_7, ↓s_254_8, ↓s_254_9, ↓s_254_10, ↓s_254_13, ↓s_254_14, ↓s_254_15, ↓s_254_18, ↓s_254_21, ↓s_198_0, ↓s_198_1, ↓s_198_4, ↓s_198_7, ↓s_198_8, ↓s_198_11, ↓s_198_14, ↓s_198_15, ↓s_198_18, ↓s_198_19, ↓s_198_22, ↓s_198_23, ↓s_198_26, ↓s_198_27, zar_108, zia_108, zln_108, zit_108, zar_109, zia_109, zln_109, zit_109, zio_95, q1, q2, q3]
    rw [hrt]
    refine ⟨⟨by omega, by omega⟩, ⟨by omega, by omega⟩, ?_⟩
    exact vl48 hE (by omega) b9 hl hr 2 y _ [] rfl hk T2 (S2 _ (fun _ _ _ => rfl) y) (fun m' g1 g2 g3 => hQ m' (fr m' g1) g2 (fun z => ⟨(g3 z).1, nam m' (yOk_kd (by omega)) g1, (g3 z).2⟩))
  · have epp := pPts_no hk 2
    have hno : ¬ yOk (pPts 3 y).2 := by
      show ¬ yOk (pPts (2 + 1) y).2
      rw [epp]
      exact yOk_fl
    cases y with
    | inl e =>
      have hf := rTk_f T1
      simp only [ynok_30, ynok_31, w32c_0, w32c_1, w32c_2, w32c_3, w32c_4, w32c_5, w32c_6, w32c_7, w32c_8, w32c_9, w32c_10, w32c_11, w32c_12, w32c_13, w32c_14, w32c_m1, w32c_m2, w32c_118, Int.reduceAdd, Int.reduceSub, Int.reduceMul, yput_s, yput_n, znl_n, znl_0, znl_1, znl_4, ysum_n, ysum_0, ysum_1, ysum_4, true_and, and_true, Nat.reduceAdd, Nat.reduceLeDiff, true_implies, eq_self, true_or, or_true, or_false, false_or, not_true_eq_false, not_false_eq_true, false_implies, implies_true, yset_s, yset_o, yset_d, ne_eq, Nat.reduceEqDiff, Int.reduceToNat, Int.reduceEq, Int.reduceLE, Int.reduceLT, Classical.not_not, Nat.reduceLT, ↓zvk_s, ↓zvk_n, ↓s_248_0, ↓s_248_1, ↓s_248_4, ↓s_248_5, ↓s_248_6, ↓s_248_7, ↓s_248_10, ↓s_248_11, ↓s_248_12, ↓s_248_13, ↓s_248_16, ↓s_248_19, ↓s_248_20, ↓s_248_21, ↓s_248_24, ↓s_248_25, ↓s_248_26, ↓s_248_27, ↓s_248_28, ↓s_248_31, ↓s_248_34, ↓s_248_35, ↓s_248_37, ↓s_248_40, ↓s_248_43, ↓s_248_44, ↓s_248_45, ↓g_248_48, ↓k_248_48, ↓s_248_49, ↓s_248_51, ↓s_248_54, ↓s_248_57, ↓s_248_58, ↓s_248_61, ↓s_248_62, ↓s_248_63, ↓s_248_64, ↓s_248_67, ↓s_248_68, ↓s_248_69, ↓s_248_72, ↓s_248_73, ↓s_248_76, ↓s_248_79, ↓s_248_80, ↓s_248_81, ↓s_248_84, ↓s_248_85, ↓s_248_86, ↓s_248_87, ↓s_248_88, ↓s_248_89, ↓s_248_92, ↓s_248_93, ↓s_248_94, ↓s_248_95, ↓s_248_98, ↓s_248_99, ↓s_248_102, ↓s_248_103, ↓s_248_104, ↓s_248_105, ↓s_248_106, ↓s_248_107, ↓s_248_108, ↓s_248_111, ↓s_248_112, ↓s_248_113, ↓s_248_114, ↓s_248_115, ↓s_248_118, ↓s_248_119, ↓s_248_120, ↓s_248_123, ↓s_254_0, ↓s_254_1, ↓s_254_4, ↓s_254_7, ↓s_254_8, ↓s_254_9, ↓s_254_10, ↓s_254_13, ↓s_254_14, ↓s_254_15, ↓s_254_18, ↓s_254_21, ↓s_198_0, ↓s_198_1, ↓s_198_4, ↓s_198_7, ↓s_198_8, ↓s_198_11, ↓s_198_14, ↓s_198_15, ↓s_198_18, ↓s_198_19, ↓s_198_22, ↓s_198_23, ↓s_198_26, ↓s_198_27, zar_108, zia_108, zln_108, zit_108, zar_109, zia_109, zln_109, zit_109, zio_95, hf]
      rw [hrt]
      refine ⟨⟨by omega, by omega⟩, ⟨by omega, by omega⟩, ?_⟩
      exact vx48 hE b9 hl hk T2 (S2 _ (fun _ _ _ => rfl) _) (fun m' g1 g2 g3 => hQ m' (fr m' g1) (by show rTk ch n m' (pPts (2 + 1) (.inl e)).2; rw [epp]; exact g2) (fun z => absurd z hno))
    | inr l1 =>
      have q1 := rTk_0 T1
      have gw : zG E (d + 10) xm_248 48 [some (1, 95), some (0, r)] [] (yset (yset (yset (yset m1 108 (4 + nm.length) r1) 109 (4 + nm.length) 0) 95 31 1) 95 32 (m1 95 28)) Q := by
        rw [← e28]
        obtain ⟨G1, G2⟩ := rf_wr (f := 1) (F := 1) T2 (by decide) (by decide)
        exact vx48 hE b9 hl (y := yFl 1 (.inr l1)) (show ¬ yKd (yFl 1 (.inr l1)) = 27 from (by decide : ¬ (0 : Nat) = 27)) G2 (S2 _ (fun i j z => G1 i j (amod_r z)) _) (fun m' g1 g2 g3 => hQ m' (fr m' g1) (by show rTk ch n m' (pPts (2 + 1) (.inr l1)).2; rw [epp]; exact g2) (fun z => absurd z hno))
      by_cases q2 : w32 (m1 95 29) = 0
      · have q3 : ¬ w32 (m1 95 30) = 7 := fun z => hk ((rf_isw T1 (k0 := 27) (by decide) (by decide)).mp ⟨q1, q2, z⟩)
        simp only [ynok_30, ynok_31, w32c_0, w32c_1, w32c_2, w32c_3, w32c_4, w32c_5, w32c_6, w32c_7, w32c_8, w32c_9, w32c_10, w32c_11, w32c_12, w32c_13, w32c_14, w32c_m1, w32c_m2, w32c_118, Int.reduceAdd, Int.reduceSub, Int.reduceMul, yput_s, yput_n, znl_n, znl_0, znl_1, znl_4, ysum_n, ysum_0, ysum_1, ysum_4, true_and, and_true, Nat.reduceAdd, Nat.reduceLeDiff, true_implies, eq_self, true_or, or_true, or_false, false_or, not_true_eq_false, not_false_eq_true, false_implies, implies_true, yset_s, yset_o, yset_d, ne_eq, Nat.reduceEqDiff, Int.reduceToNat, Int.reduceEq, Int.reduceLE, Int.reduceLT, Classical.not_not, Nat.reduceLT, ↓zvk_s, ↓zvk_n, ↓s_248_0, ↓s_248_1, ↓s_248_4, ↓s_248_5, ↓s_248_6, ↓s_248_7, ↓s_248_10, ↓s_248_11, ↓s_248_12, ↓s_248_13, ↓s_248_16, ↓s_248_19, ↓s_248_20, ↓s_248_21, ↓s_248_24, ↓s_248_25, ↓s_248_26, ↓s_248_27, ↓s_248_28, ↓s_248_31, ↓s_248_34, ↓s_248_35, ↓s_248_37, ↓s_248_40, ↓s_248_43, ↓s_248_44, ↓s_248_45, ↓g_248_48, ↓k_248_48, ↓s_248_49, ↓s_248_51, ↓s_248_54, ↓s_248_57, ↓s_248_58, ↓s_248_61, ↓s_248_62, ↓s_248_63, ↓s_248_64, ↓s_248_67, ↓s_248_68, ↓s_248_69, ↓s_248_72, ↓s_248_73, ↓s_248_76, ↓s_248_79, ↓s_248_80, ↓s_248_81, ↓s_248_84, ↓s_248_85, ↓s_248_86, ↓s_248_87, ↓s_248_88, ↓s_248_89, ↓s_248_92, ↓s_248_93, ↓s_248_94, ↓s_248_95, ↓s_248_98, ↓s_248_99, ↓s_248_102, ↓s_248_103, ↓s_248_104, ↓s_248_105, ↓s_248_106, ↓s_248_107, ↓s_248_108, ↓s_248_111, ↓s_248_112, ↓s_248_113, ↓s_248_114, ↓s_248_115, ↓s_248_118, ↓s_248_119, ↓s_248_120, ↓s_248_123, ↓s_254_0, ↓s_254_1, ↓s_254_4, ↓s_254_7, ↓s_254_8, ↓s_254_9, ↓s_254_10, ↓s_254_13, ↓s_254_14, ↓s_254_15, ↓s_254_18, ↓s_254_21, ↓s_198_0, ↓s_198_1, ↓s_198_4, ↓s_198_7, ↓s_198_8, ↓s_198_11, ↓s_198_14, ↓s_198_15, ↓s_198_18, ↓s_198_19, ↓s_198_22, ↓s_198_23, ↓s_198_26, ↓s_198_27, zar_108, zia_108, zln_108, zit_108, zar_109, zia_109, zln_109, zit_109, zio_95, q1, q2, q3]
        rw [hrt]
        exact ⟨⟨by omega, by omega⟩, ⟨by omega, by omega⟩, gw⟩
      · simp only [ynok_30, ynok_31, w32c_0, w32c_1, w32c_2, w32c_3, w32c_4, w32c_5, w32c_6, w32c_7, w32c_8, w32c_9, w32c_10, w32c_11, w32c_12, w32c_13, w32c_14, w32c_m1, w32c_m2, w32c_118, Int.reduceAdd, Int.reduceSub, Int.reduceMul, yput_s, yput_n, znl_n, znl_0, znl_1, znl_4, ysum_n, ysum_0, ysum_1, ysum_4, true_and, and_true, Nat.reduceAdd, Nat.reduceLeDiff, true_implies, eq_self, true_or, or_true, or_false, false_or, not_true_eq_false, not_false_eq_true, false_implies, implies_true, yset_s, yset_o, yset_d, ne_eq, Nat.reduceEqDiff, Int.reduceToNat, Int.reduceEq, Int.reduceLE, Int.reduceLT, Classical.not_not, Nat.reduceLT, ↓zvk_s, ↓zvk_n, ↓s_248_0, ↓s_248_1, ↓s_248_4, ↓s_248_5, ↓s_248_6, ↓s_248_7, ↓s_248_10, ↓s_248_11, ↓s_248_12, ↓s_248_13, ↓s_248_16, ↓s_248_19, ↓s_248_20, ↓s_248_21, ↓s_248_24, ↓s_248_25, ↓s_248_26, ↓s_248_27, ↓s_248_28, ↓s_248_31, ↓s_248_34, ↓s_248_35, ↓s_248_37, ↓s_248_40, ↓s_248_43, ↓s_248_44, ↓s_248_45, ↓g_248_48, ↓k_248_48, ↓s_248_49, ↓s_248_51, ↓s_248_54, ↓s_248_57, ↓s_248_58, ↓s_248_61, ↓s_248_62, ↓s_248_63, ↓s_248_64, ↓s_248_67, ↓s_248_68, ↓s_248_69, ↓s_248_72, ↓s_248_73, ↓s_248_76, ↓s_248_79, ↓s_248_80, ↓s_248_81, ↓s_248_84, ↓s_248_85, ↓s_248_86, ↓s_248_87, ↓s_248_88, ↓s_248_89, ↓s_248_92, ↓s_248_93, ↓s_248_94, ↓s_248_95, ↓s_248_98, ↓s_248_99, ↓s_248_102, ↓s_248_103, ↓s_248_104, ↓s_248_105, ↓s_248_106, ↓s_248_107, ↓s_248_108, ↓s_248_111, ↓s_248_112, ↓s_248_113, ↓s_248_114, ↓s_248_115, ↓s_248_118, ↓s_248_119, ↓s_248_120, ↓s_248_123, ↓s_254_0, ↓s_254_1, ↓s_254_4, ↓s_254_7, ↓s_254_8, ↓s_254_9, ↓s_254_10, ↓s_254_13, ↓s_254_14, ↓s_254_15, ↓s_254_18, ↓s_254_21, ↓s_198_0, ↓s_198_1, ↓s_198_4, ↓s_198_7, ↓s_198_8, ↓s_198_11, ↓s_198_14, ↓s_198_15, ↓s_198_18, ↓s_198_19, ↓s_198_22, ↓s_198_23, ↓s_198_26, ↓s_198_27, zar_108, zia_108, zln_108, zit_108, zar_109, zia_109, zln_109, zit_109, zio_95, q1, q2]
        rw [hrt]
        exact ⟨⟨by omega, by omega⟩, ⟨by omega, by omega⟩, gw⟩
end RG
end
section
/-! rd, as a relation: some fuel is enough -/
def rGd (x : sX) : Prop := ∀ e, x = .inl e → e.1 ≠ 0
theorem rGd_r {u : sU} : rGd (.inr u) := fun e h => by cases h
theorem rGd_l {e : Nat × Nat} (h : e.1 ≠ 0) : rGd (.inl e) := fun e' h' => by cases h'; exact h
theorem sBd_m {a a' : sX} {g g' : sU → sX} {x : sX} (hx : rGd x) (h1 : ∀ y, rGd y → a = y → a' = y) (h2 : ∀ u, g u = x → g' u = x) (h : sBd a g = x) : sBd a' g' = x := by
  cases a with
  | inl e =>
    have e1 : (.inl e : sX) = x := h
    rw [h1 (.inl e) (by rw [e1]; exact hx) rfl]
    exact e1
  | inr u =>
    rw [h1 (.inr u) rGd_r rfl]
    exact h2 u h
theorem sBd_r {a : sX} {g : sU → sX} {z : sU} (h : sBd a g = .inr z) : ∃ y, a = .inr y ∧ g y = .inr z := by
  cases a with
  | inl e => cases h
  | inr y => exact ⟨y, rfl, h⟩
theorem sKn_r {p : Nat} {u : sU} {g : sU → sX} {z : sU} (h : sKn p u g = .inr z) : u.2.1 ≠ 64 ∧ g (u.1, u.2.1 + 1, u.2.2) = .inr z := by
  unfold sKn at h
  by_cases hc : u.2.1 = 64
  · rw [if_pos hc] at h; cases h
  · rw [if_neg hc] at h; exact ⟨hc, h⟩
abbrev rSq (k k1 k2 : Nat) : Prop := ∀ f u, rd (f + 1) k u = sBd (rd f k1 u) (rd f k2)
abbrev rLp (k k1 b : Nat) : Prop := ∀ f u, rd (f + 1) k u = if sLv (sHd u.1).1 = b then sKn (sHd u.1).2.1 u (fun v => sBd (rd f k1 (v.1.tail, v.2)) (fun z => rd f k (z.1, z.2.1, z.2.2.1, ((sHd u.1).1, 0) :: z.2.2.2))) else .inr u
theorem rSq_1 : rSq 1 0 2 := fun f u => by simp only [rd]
theorem rSq_3 : rSq 3 1 4 := fun f u => by simp only [rd]
theorem rSq_6 : rSq 6 5 7 := fun f u => by simp only [rd]
theorem rSq_8 : rSq 8 6 9 := fun f u => by simp only [rd]
theorem rLp_2 : rLp 2 0 6 := fun f u => by simp only [rd]
theorem rLp_4 : rLp 4 1 5 := fun f u => by simp only [rd]
theorem rLp_7 : rLp 7 5 2 := fun f u => by simp only [rd]
theorem rLp_9 : rLp 9 6 1 := fun f u => by simp only [rd]
theorem rd_e0 (f : Nat) (l : List sT) (cn op : Nat) (o : sK) : rd (f + 1) 0 (l, cn, op, o) = (if (sHd l).1 = 5 then (if op = 8 then .inl (2, (sHd l).2.1) else sBd (rd f 8 (l.tail, cn, op + 1, o)) (fun u => if (sHd u.1).1 = 6 then .inr (u.1.tail, u.2.1, u.2.2.1 - 1, u.2.2.2) else .inl (1, (sHd u.1).2.1)))
    else if ¬ ((sHd l).1 = 2 ∨ (33 ≤ (sHd l).1 ∧ (sHd l).1 ≤ 39)) then .inl (1, (sHd l).2.1)
    else if (sHd l).1 = 2 ∧ 9999 < (sHd l).2.2 then .inl (2, (sHd l).2.1)
    else sKn (sHd l).2.1 (l, cn, op, o) (fun u => .inr (u.1.tail, u.2.1, u.2.2.1, ((sHd l).1, if (sHd l).1 = 2 then (sHd l).2.2 else 0) :: u.2.2.2))) := by simp only [rd]
theorem rd_e5 (f : Nat) (u : sU) : rd (f + 1) 5 u = (if (sHd u.1).1 = 32 then sKn (sHd u.1).2.1 u (fun v => sBd (rd f 5 (v.1.tail, v.2)) (fun z => .inr (z.1, z.2.1, z.2.2.1, (32, 0) :: z.2.2.2)))
    else sBd (rd f 3 u) (fun y => if sLv (sHd y.1).1 = 4 then sKn (sHd y.1).2.1 y (fun v => sBd (rd f 3 (v.1.tail, v.2)) (fun z => .inr (z.1, z.2.1, z.2.2.1, ((sHd y.1).1, 0) :: z.2.2.2))) else .inr y)) := by simp only [rd]
theorem rd_z (k : Nat) (u : sU) : rd 0 k u = .inl (0, 0) := by simp only [rd]
theorem rd_mono : ∀ (f k : Nat), k ≤ 9 → ∀ (u : sU) (x : sX), rGd x → rd f k u = x → rd (f + 1) k u = x := by
  intro f
  induction f with
  | zero =>
    intro k _ u x hx h
    rw [rd_z] at h
    exact absurd rfl (hx (0, 0) h.symm)
  | succ f ih =>
    intro k hk u x hx h
    have hlp : ∀ k k1 b, rLp k k1 b → k ≤ 9 → k1 ≤ 9 → rd (f + 1) k u = x → rd (f + 1 + 1) k u = x := fun k k1 b hL q1 q2 h => by
      rw [hL] at h ⊢
      by_cases hl : sLv (sHd u.1).1 = b
      · rw [if_pos hl] at h ⊢
        exact sKn_m (fun v hv => sBd_m hx (fun y hy e => ih k1 q2 _ y hy e) (fun z e => ih k q1 _ x hx e) hv) h
      · rw [if_neg hl] at h ⊢
        exact h
    have hsq : ∀ k k1 k2, rSq k k1 k2 → k1 ≤ 9 → k2 ≤ 9 → rd (f + 1) k u = x → rd (f + 1 + 1) k u = x := fun k k1 k2 hL q1 q2 h => by
      rw [hL] at h ⊢
      exact sBd_m hx (fun y hy e => ih k1 q1 _ y hy e) (fun z e => ih k2 q2 _ x hx e) h
    match k, hk, h with
    | 0, _, h =>
      obtain ⟨l, cn, op, o⟩ := u
      rw [rd_e0] at h ⊢
      by_cases h5 : (sHd l).1 = 5
      · rw [if_pos h5] at h ⊢
        by_cases h8 : op = 8
        · rw [if_pos h8] at h ⊢; exact h
        · rw [if_neg h8] at h ⊢
          exact sBd_m hx (fun y hy e => ih 8 (by decide) _ y hy e) (fun z e => e) h
      · rw [if_neg h5] at h ⊢
        exact h
    | 1, _, h => exact hsq 1 0 2 rSq_1 (by decide) (by decide) h
    | 2, _, h => exact hlp 2 0 6 rLp_2 (by decide) (by decide) h
    | 3, _, h => exact hsq 3 1 4 rSq_3 (by decide) (by decide) h
    | 4, _, h => exact hlp 4 1 5 rLp_4 (by decide) (by decide) h
    | 5, _, h =>
      rw [rd_e5] at h ⊢
      by_cases h3 : (sHd u.1).1 = 32
      · rw [if_pos h3] at h ⊢
        exact sKn_m (fun v hv => sBd_m hx (fun y hy e => ih 5 (by decide) _ y hy e) (fun z e => e) hv) h
      · rw [if_neg h3] at h ⊢
        refine sBd_m hx (fun y hy e => ih 3 (by decide) _ y hy e) (fun y e => ?_) h
        by_cases h4 : sLv (sHd y.1).1 = 4
        · rw [if_pos h4] at e ⊢
          exact sKn_m (fun v hv => sBd_m hx (fun y hy e => ih 3 (by decide) _ y hy e) (fun z e => e) hv) e
        · rw [if_neg h4] at e ⊢
          exact e
    | 6, _, h => exact hsq 6 5 7 rSq_6 (by decide) (by decide) h
    | 7, _, h => exact hlp 7 5 2 rLp_7 (by decide) (by decide) h
    | 8, _, h => exact hsq 8 6 9 rSq_8 (by decide) (by decide) h
    | 9, _, h => exact hlp 9 6 1 rLp_9 (by decide) (by decide) h
    | k + 10, hk, _ => exact absurd hk (by omega)
theorem rd_add {k : Nat} (hk : k ≤ 9) {u : sU} {x : sX} (hx : rGd x) {f : Nat} (h : rd f k u = x) : ∀ c, rd (f + c) k u = x
  | 0 => h
  | c + 1 => rd_mono (f + c) k hk u x hx (rd_add hk hx h c)
def rX (k : Nat) (u : sU) (x : sX) : Prop := (∃ f, rd f k u = x) ∧ rGd x
theorem rX_sq {k k1 k2 : Nat} (hL : rSq k k1 k2) (q1 : k1 ≤ 9) (q2 : k2 ≤ 9) {u : sU} : (∀ e, rX k1 u (.inl e) → rX k u (.inl e)) ∧ (∀ z x, rX k1 u (.inr z) → rX k2 z x → rX k u x) := by
  refine ⟨fun e h => ?_, fun z x h1 h2 => ?_⟩
  · obtain ⟨⟨f, h⟩, hx⟩ := h
    exact ⟨⟨f + 1, by rw [hL, h]; rfl⟩, hx⟩
  · obtain ⟨⟨f, h1⟩, _⟩ := h1
    obtain ⟨⟨g, h2⟩, hx⟩ := h2
    refine ⟨⟨f + g + 1, ?_⟩, hx⟩
    rw [hL, rd_add q1 rGd_r h1 g]
    show rd (f + g) k2 z = x
    rw [Nat.add_comm f g]
    exact rd_add q2 hx h2 f
theorem rX_lp {k k1 b : Nat} (hL : rLp k k1 b) (q1 : k1 ≤ 9) (q2 : k ≤ 9) {u : sU} : (¬ sLv (sHd u.1).1 = b → rX k u (.inr u)) ∧ (sLv (sHd u.1).1 = b → u.2.1 = 64 → rX k u (.inl (2, (sHd u.1).2.1))) ∧ (sLv (sHd u.1).1 = b → ¬ u.2.1 = 64 → (∀ e, rX k1 (u.1.tail, u.2.1 + 1, u.2.2) (.inl e) → rX k u (.inl e)) ∧ (∀ z x, rX k1 (u.1.tail, u.2.1 + 1, u.2.2) (.inr z) → rX k (z.1, z.2.1, z.2.2.1, ((sHd u.1).1, 0) :: z.2.2.2) x → rX k u x)) := by
  refine ⟨fun h => ⟨⟨1, by rw [hL, if_neg h]⟩, rGd_r⟩, fun h h6 => ⟨⟨1, by rw [hL, if_pos h]; unfold sKn; rw [if_pos h6]⟩, rGd_l (show (2 : Nat) ≠ 0 by decide)⟩, fun hl h6 => ⟨fun e h => ?_, fun z x h1 h2 => ?_⟩⟩
  · obtain ⟨⟨f, h⟩, hx⟩ := h
    refine ⟨⟨f + 1, ?_⟩, hx⟩
    rw [hL, if_pos hl]
    unfold sKn
    rw [if_neg h6]
    show sBd (rd f k1 (u.1.tail, u.2.1 + 1, u.2.2)) _ = _
    rw [h]
    rfl
  · obtain ⟨⟨f, h1⟩, _⟩ := h1
    obtain ⟨⟨g, h2⟩, hx⟩ := h2
    refine ⟨⟨f + g + 1, ?_⟩, hx⟩
    rw [hL, if_pos hl]
    unfold sKn
    rw [if_neg h6]
    show sBd (rd (f + g) k1 (u.1.tail, u.2.1 + 1, u.2.2)) _ = _
    rw [rd_add q1 rGd_r h1 g]
    show rd (f + g) k (z.1, z.2.1, z.2.2.1, ((sHd u.1).1, 0) :: z.2.2.2) = x
    rw [Nat.add_comm f g]
    exact rd_add q2 hx h2 f
/-! what stays: the open ones, as many knots put as counted -/
def rI (w : Nat) (u z : sU) : Prop := z.2.2.1 = u.2.2.1 ∧ z.2.1 + u.2.2.2.length = u.2.1 + z.2.2.2.length ∧ u.2.2.2.length + w ≤ z.2.2.2.length ∧ (u.2.1 ≤ 64 → z.2.1 ≤ 64)
def rWt (k : Nat) : Nat := if k = 2 ∨ k = 4 ∨ k = 7 ∨ k = 9 then 0 else 1
theorem rI_tr {a b w : Nat} {u y z : sU} (h1 : rI a u y) (h2 : rI b y z) (hw : w ≤ a + b) : rI w u z := by
  obtain ⟨c1, c2, c3, c4⟩ := h1
  obtain ⟨d1, d2, d3, d4⟩ := h2
  exact ⟨by omega, by omega, by omega, fun h => d4 (c4 h)⟩
theorem rI_kn {k : Nat} {v : Int} {l1 : List sT} {u y : sU} (hc : u.2.1 ≠ 64) (h : rI 1 (l1, u.2.1 + 1, u.2.2) y) : rI 1 u (y.1, y.2.1, y.2.2.1, (k, v) :: y.2.2.2) := by
  obtain ⟨c1, c2, c3, c4⟩ := h
  dsimp only at c1 c2 c3 c4
  refine ⟨c1, ?_, ?_, fun h => c4 (by omega)⟩
  · show y.2.1 + u.2.2.2.length = u.2.1 + (y.2.2.2.length + 1)
    omega
  · show u.2.2.2.length + 1 ≤ y.2.2.2.length + 1
    omega
theorem rd_inv : ∀ (f k : Nat), k ≤ 9 → ∀ (u z : sU), rd f k u = .inr z → rI (rWt k) u z := by
  intro f
  induction f with
  | zero =>
    intro k _ u z h
    rw [rd_z] at h
    cases h
  | succ f ih =>
    intro k hk u z h
    have hlp : ∀ k k1 b, rLp k k1 b → k ≤ 9 → k1 ≤ 9 → rWt k = 0 → rWt k1 = 1 → rd (f + 1) k u = .inr z → rI (rWt k) u z := fun k k1 b hL q1 q2 w1 w2 h => by
      rw [hL] at h
      by_cases hl : sLv (sHd u.1).1 = b
      · rw [if_pos hl] at h
        obtain ⟨hc, h⟩ := sKn_r h
        obtain ⟨y, g1, g2⟩ := sBd_r h
        have i1 := ih k1 q2 _ _ g1
        have i2 := ih k q1 _ _ g2
        rw [w2] at i1
        exact rI_tr (rI_kn hc i1) i2 (by omega)
      · rw [if_neg hl] at h
        cases h
        exact ⟨rfl, Nat.add_comm _ _ ▸ rfl, by omega, fun h => h⟩
    have hsq : ∀ k k1 k2, rSq k k1 k2 → k1 ≤ 9 → k2 ≤ 9 → rWt k ≤ rWt k1 + rWt k2 → rd (f + 1) k u = .inr z → rI (rWt k) u z := fun k k1 k2 hL q1 q2 hw h => by
      rw [hL] at h
      obtain ⟨y, g1, g2⟩ := sBd_r h
      exact rI_tr (ih k1 q1 _ _ g1) (ih k2 q2 _ _ g2) hw
    match k, hk, h with
    | 0, _, h =>
      obtain ⟨l, cn, op, o⟩ := u
      rw [rd_e0] at h
      by_cases h5 : (sHd l).1 = 5
      · rw [if_pos h5] at h
        by_cases h8 : op = 8
        · rw [if_pos h8] at h; cases h
        · rw [if_neg h8] at h
          obtain ⟨y, g1, g2⟩ := sBd_r h
          obtain ⟨c1, c2, c3, c4⟩ := ih 8 (by decide) _ _ g1
          dsimp only at c1 c2 c3 c4 g2
          by_cases h6 : (sHd y.1).1 = 6
          · rw [if_pos h6] at g2
            cases g2
            exact ⟨by show y.2.2.1 - 1 = op; omega, c2, c3, c4⟩
          · rw [if_neg h6] at g2
            cases g2
      · rw [if_neg h5] at h
        by_cases h2 : ¬ ((sHd l).1 = 2 ∨ (33 ≤ (sHd l).1 ∧ (sHd l).1 ≤ 39))
        · rw [if_pos h2] at h; cases h
        · rw [if_neg h2] at h
          by_cases h9 : (sHd l).1 = 2 ∧ 9999 < (sHd l).2.2
          · rw [if_pos h9] at h; cases h
          · rw [if_neg h9] at h
            obtain ⟨hc, h⟩ := sKn_r h
            dsimp only at hc h
            cases h
            refine ⟨rfl, ?_, ?_, fun h => ?_⟩
            · show cn + 1 + o.length = cn + (o.length + 1)
              omega
            · show o.length + 1 ≤ o.length + 1
              omega
            · show cn + 1 ≤ 64
              have h : cn ≤ 64 := h
              omega
    | 1, _, h => exact hsq 1 0 2 rSq_1 (by decide) (by decide) (by decide) h
    | 2, _, h => exact hlp 2 0 6 rLp_2 (by decide) (by decide) (by decide) (by decide) h
    | 3, _, h => exact hsq 3 1 4 rSq_3 (by decide) (by decide) (by decide) h
    | 4, _, h => exact hlp 4 1 5 rLp_4 (by decide) (by decide) (by decide) (by decide) h
    | 5, _, h =>
      rw [rd_e5] at h
      by_cases h3 : (sHd u.1).1 = 32
      · rw [if_pos h3] at h
        obtain ⟨hc, h⟩ := sKn_r h
        obtain ⟨y, g1, g2⟩ := sBd_r h
        cases g2
        exact rI_kn hc (ih 5 (by decide) _ _ g1)
      · rw [if_neg h3] at h
        obtain ⟨y, g1, g2⟩ := sBd_r h
        have i1 := ih 3 (by decide) _ _ g1
        by_cases h4 : sLv (sHd y.1).1 = 4
        · rw [if_pos h4] at g2
          obtain ⟨hc, g2⟩ := sKn_r g2
          obtain ⟨t, g3, g4⟩ := sBd_r g2
          cases g4
          exact rI_tr i1 (rI_kn hc (ih 3 (by decide) _ _ g3)) (by decide)
        · rw [if_neg h4] at g2
          cases g2
          exact i1
    | 6, _, h => exact hsq 6 5 7 rSq_6 (by decide) (by decide) (by decide) h
    | 7, _, h => exact hlp 7 5 2 rLp_7 (by decide) (by decide) (by decide) (by decide) h
    | 8, _, h => exact hsq 8 6 9 rSq_8 (by decide) (by decide) (by decide) h
    | 9, _, h => exact hlp 9 6 1 rLp_9 (by decide) (by decide) (by decide) (by decide) h
    | k + 10, hk, _ => exact absurd hk (by omega)
theorem rX_inv {k : Nat} (hk : k ≤ 9) {u z : sU} (h : rX k u (.inr z)) : rI (rWt k) u z := by
  obtain ⟨⟨f, h⟩, _⟩ := h
  exact rd_inv f k hk u z h
end
section
/-! THE REFERENCE: an E -/
def rKt (k : Nat) : Int := if k = 2 then 0 else if 33 ≤ k then 1 else 2
def rKv (k : Nat) (v : Int) : Int := if k = 2 then v else if 33 ≤ k then (k : Int) - 33 else if k = 30 then 262 else if k = 31 then 261 else if k = 32 then 260 else sSc k
def rKs (m : yMem) : sK → Prop
  | [] => True
  | q :: o => (w32 (m 116 (64 + o.length)) = rKt q.1 ∧ w32 (m 117 (64 + o.length)) = rKv q.1 q.2) ∧ rKs m o
theorem rKs_fr {b m : yMem} : ∀ {o : sK}, rKs b o → (∀ j, j < 64 + o.length → m 116 j = b 116 j ∧ m 117 j = b 117 j) → rKs m o
  | [], _, _ => trivial
  | q :: o, h, hm => by
    have e := hm (64 + o.length) (by rw [List.length_cons]; omega)
    exact ⟨by rw [e.1, e.2]; exact h.1, rKs_fr h.2 (fun j hj => hm j (by rw [List.length_cons]; omega))⟩
def rEx (ch : Nat → Int) (n : Nat) (m : yMem) (u : sU) : Prop := rTk ch n m (.inr u.1) ∧ (w32 (m 95 36) = (u.2.1 : Int) ∧ u.2.1 ≤ 64) ∧ (w32 (m 95 35) = (u.2.2.1 : Int) ∧ u.2.2.1 ≤ 8) ∧ (w32 (m 97 13) = (u.2.2.2.length : Int) ∧ u.2.2.2.length ≤ u.2.1) ∧ rKs m u.2.2.2
def rEr (ch : Nat → Int) (n : Nat) (m : yMem) (x : sX) : Prop := match x with
  | .inl e => rTk ch n m (.inl e)
  | .inr u => rEx ch n m u
section RH
variable {ch : Nat → Int} {n : Nat} {m m' : yMem} {u z : sU}
theorem rEx_kn (h : rEx ch n m u) (hc : ¬ u.2.1 = 64) : rEx ch n (yset m 95 36 (m 95 36 + 1)) (u.1, u.2.1 + 1, u.2.2) := by
  obtain ⟨h1, ⟨h2, h3⟩, ⟨h4, h5⟩, ⟨h6, h7⟩, h8⟩ := h
  have e1 : w32 (m 95 36 + 1) = ((u.2.1 + 1 : Nat) : Int) := by rw [w32_ad (by rw [w32c_1]; omega) (by rw [w32c_1]; omega), w32c_1]; omega
  exact ⟨rTk_of h1 (fun j _ j2 => yset_d (by omega)) (fun j => yset_o (by decide)), ⟨by rw [yset_s]; exact e1, by show u.2.1 + 1 ≤ 64; omega⟩, ⟨by rw [yset_d (by decide)]; exact h4, h5⟩, ⟨by rw [yset_o (by decide)]; exact h6, by show u.2.2.2.length ≤ u.2.1 + 1; omega⟩, rKs_fr h8 (fun j _ => ⟨yset_o (by decide), yset_o (by decide)⟩)⟩
theorem rEx_op (h : rEx ch n m u) {V : Int} {k : Nat} (hV : w32 V = (k : Int)) (hk : k ≤ 8) : rEx ch n (yset m 95 35 V) (u.1, u.2.1, k, u.2.2.2) := by
  obtain ⟨h1, ⟨h2, h3⟩, ⟨h4, h5⟩, ⟨h6, h7⟩, h8⟩ := h
  exact ⟨rTk_of h1 (fun j _ j2 => yset_d (by omega)) (fun j => yset_o (by decide)), ⟨by rw [yset_d (by decide)]; exact h2, h3⟩, ⟨by rw [yset_s]; exact hV, hk⟩, ⟨by rw [yset_o (by decide)]; exact h6, h7⟩, rKs_fr h8 (fun j _ => ⟨yset_o (by decide), yset_o (by decide)⟩)⟩
theorem rEx_tk (h : rEx ch n m u) (F : aFrm tkF m m') (t : rTk ch n m' (.inr (sNx u.1))) : rEx ch n m' (sNx u.1, u.2) := by
  obtain ⟨h1, ⟨h2, h3⟩, ⟨h4, h5⟩, ⟨h6, h7⟩, h8⟩ := h
  exact ⟨t, ⟨by rw [F 95 36 rfl]; exact h2, h3⟩, ⟨by rw [F 95 35 rfl]; exact h4, h5⟩, ⟨by rw [F 97 13 rfl]; exact h6, h7⟩, rKs_fr h8 (fun j _ => ⟨F 116 j rfl, F 117 j rfl⟩)⟩
theorem sNx_t {l : List sT} (h : (sHd l).1 ≠ 0) : sNx l = l.tail := by
  unfold sNx
  rw [if_neg h]
theorem rEx_pt (h : rEx ch n m z) (hl : z.2.2.2.length < z.2.1) {k : Nat} {v K V : Int} (hK : w32 K = rKt k) (hV : w32 V = rKv k v) : rEx ch n (zput m K V) (z.1, z.2.1, z.2.2.1, (k, v) :: z.2.2.2) ∧ w32 (64 + m 97 13) = 64 + (z.2.2.2.length : Int) ∧ aFrm zpW m (zput m K V) := by
  obtain ⟨h1, ⟨h2, h3⟩, ⟨h4, h5⟩, ⟨h6, h7⟩, h8⟩ := h
  have e64 : w32 64 = 64 := by decide
  have e2 : w32 (64 + m 97 13) = 64 + (z.2.2.2.length : Int) := by rw [w32_ad (by rw [e64]; omega) (by rw [e64]; omega), e64]; omega
  have ei : (w32 (64 + m 97 13)).toNat = 64 + z.2.2.2.length := by omega
  have e1 : w32 (m 97 13 + 1) = ((z.2.2.2.length + 1 : Nat) : Int) := by rw [w32_ad (by rw [w32c_1]; omega) (by rw [w32c_1]; omega), w32c_1]; omega
  have hh := zpW_hi (64 + z.2.2.2.length) (by omega) (by omega)
  refine ⟨?_, e2, ?_⟩
  · unfold zput
    rw [ei]
    refine ⟨rTk_s (rTk_s (rTk_s h1 (by decide)) (by decide)) (by decide), ⟨by rw [yset_o (by decide), yset_o (by decide), yset_o (by decide)]; exact h2, h3⟩, ⟨by rw [yset_o (by decide), yset_o (by decide), yset_o (by decide)]; exact h4, h5⟩, ⟨by rw [yset_s]; exact e1, by show z.2.2.2.length + 1 ≤ z.2.1; omega⟩, ⟨⟨?_, ?_⟩, rKs_fr h8 (fun j hj => ⟨?_, ?_⟩)⟩⟩
    · rw [yset_o (by decide), yset_o (by decide), yset_s]; exact hK
    · rw [yset_o (by decide), yset_s]; exact hV
    · rw [yset_o (by decide), yset_o (by decide), yset_d (by omega)]
    · rw [yset_o (by decide), yset_d (by omega), yset_o (by decide)]
  · unfold zput
    rw [ei]
    exact aFrm_set (aFrm_set (aFrm_set aFrm_rf hh.1) hh.2) rfl
end RH
/-- a piece of an E, at op open ones, with D0 frames: on a FAULT nothing -/
def CRd (ch : Nat → Int) (n : Nat) (E : yE) (M : xM) (k op D0 : Nat) : Prop := ∀ D, D0 ≤ D → ∀ (mem : yMem) (Q : Option yV → yMem → Prop), (¬ w32 (mem 95 31) = 0 → Q none mem → yCon E D M [(1, 95)] mem Q) ∧ (∀ u, rEx ch n mem u → u.2.2.1 = op → (∀ m x, rX k u x → aFrm exW mem m → rEr ch n m x → Q none m) → yCon E D M [(1, 95)] mem Q)
theorem sLv_ne {k b : Nat} (h : sLv k = b) (hb : b ≠ 0) : k ≠ 0 := fun e => by
  rw [e] at h
  exact hb (h.symm.trans (by decide))
theorem sLv_k6 {k : Nat} : sLv k = 6 ↔ k = 15 ∨ k = 16 := by
  unfold sLv
  repeat' split
  all_goals omega
theorem sLv_k5 {k : Nat} : sLv k = 5 ↔ k = 13 ∨ k = 14 := by
  unfold sLv
  repeat' split
  all_goals omega
theorem sLv_k4 {k : Nat} : sLv k = 4 ↔ 7 ≤ k ∧ k ≤ 12 := by
  unfold sLv
  repeat' split
  all_goals omega
theorem sLv_k2 {k : Nat} : sLv k = 2 ↔ k = 31 := by
  unfold sLv
  repeat' split
  all_goals omega
theorem sLv_k1 {k : Nat} : sLv k = 1 ↔ k = 30 := by
  unfold sLv
  repeat' split
  all_goals omega
theorem rK_sg {k : Nat} (h1 : 4 ≤ k) (h2 : k ≤ 16) : rKt k = 2 ∧ rKv k 0 = sSc k := by
  unfold rKt rKv
  rw [if_neg (by omega), if_neg (by omega), if_neg (by omega), if_neg (by omega), if_neg (by omega), if_neg (by omega), if_neg (by omega)]
  exact ⟨rfl, rfl⟩
/-- the sign that stands -/
theorem rf_sg {ch : Nat → Int} {n : Nat} {m : yMem} {l : List sT} (h : rTk ch n m (.inr l)) (h1 : 4 ≤ (sHd l).1) (h2 : (sHd l).1 ≤ 16) : w32 (m 95 29) = 3 ∧ w32 (m 95 30) = sSc (sHd l).1 := by
  have := rTk_rk h
  unfold sRk at this
  omega
theorem ex_w2 {b : yMem} : aFrm exW b (yset (yset b 95 31 2) 95 32 (b 95 28)) := aFrm_set (aFrm_set aFrm_rf rfl) rfl
theorem tk_ex {a b : yMem} (h : aFrm tkF a b) : aFrm exW a b := aFrm_w h rfl
end
