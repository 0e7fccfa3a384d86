/-! VOICES -/
abbrev tVo : Type := Int × Int × Int × Int × Int × Int × Int
abbrev dVo : Type := List tVo
def bsum : List Int → Int
  | [] => 0
  | b :: r => b + 2 * bsum r
theorem bsum_app (b : Int) : ∀ l : List Int, bsum (l ++ [b]) = bsum l + b * 2 ^ l.length
  | [] => by show b + 2 * 0 = 0 + b * 2 ^ 0; omega
  | c :: r => by
    show c + 2 * bsum (r ++ [b]) = c + 2 * bsum r + b * 2 ^ (r.length + 1)
    rw [bsum_app b r, Int.pow_succ, ← Int.mul_assoc]
    generalize b * 2 ^ r.length = z
    omega
theorem bsum_bd : ∀ {l : List Int}, (∀ b ∈ l, b = 0 ∨ b = 1) → 0 ≤ bsum l ∧ bsum l < 2 ^ l.length
  | [], _ => by show (0 : Int) ≤ 0 ∧ (0 : Int) < 2 ^ 0; omega
  | c :: r, h => by
    obtain ⟨i1, i2⟩ := bsum_bd (l := r) (fun b hb => h b (List.mem_cons_of_mem _ hb))
    have hc := h c List.mem_cons_self
    show 0 ≤ c + 2 * bsum r ∧ c + 2 * bsum r < 2 ^ (r.length + 1)
    rw [Int.pow_succ]
    revert i2
    generalize (2 : Int) ^ r.length = z
    intro i2
    omega
def cVo (mem : yMem) (vo : dVo) : Prop := cNm mem 31 6 (vo.map (fun t => t.1)) ∧ w32 (mem 28 16) = bsum (vo.map (fun t => t.2.2.2.1)) ∧ (∀ t ∈ vo, t.2.2.2.1 = 0 ∨ t.2.2.2.1 = 1) ∧ ∀ j t, vo[j]? = some t → w32 (mem 39 j) = t.2.1 ∧ w32 (mem 40 j) = t.2.2.1 ∧ w32 (mem 41 j) = t.2.2.2.2.1 ∧ w32 (mem 42 j) = t.2.2.2.2.2.1 ∧ w32 (mem 43 j) = t.2.2.2.2.2.2
theorem yNm_bd (lo hi : Int) (x : sY) (h : lo ≤ hi) : lo ≤ (yNm lo hi x).1 ∧ (yNm lo hi x).1 ≤ hi := by
  unfold yNm
  by_cases h1 : yKd x = 2
  · rw [if_pos h1]
    by_cases h2 : yVl x < lo ∨ hi < yVl x
    · rw [if_pos h2]; exact ⟨Int.le_refl _, h⟩
    · rw [if_neg h2]; exact ⟨by show lo ≤ yVl x; omega, by show yVl x ≤ hi; omega⟩
  · rw [if_neg h1]; exact ⟨Int.le_refl _, h⟩
/-- a voice from its numbers on -/
def pVn (tn : List Int) (nm : Int) (x : sY) : sY × tVo := ((pV3 (pV2 tn (pV1 (yNm (yNm 1 40 x).1 40 (yNm 1 40 x).2).2).1).1).1, (nm, (yNm 1 40 x).1, (yNm (yNm 1 40 x).1 40 (yNm 1 40 x).2).1, (pV1 (yNm (yNm 1 40 x).1 40 (yNm 1 40 x).2).2).2, (pV2 tn (pV1 (yNm (yNm 1 40 x).1 40 (yNm 1 40 x).2).2).1).2.1, (pV2 tn (pV1 (yNm (yNm 1 40 x).1 40 (yNm 1 40 x).2).2).1).2.2, (pV3 (pV2 tn (pV1 (yNm (yNm 1 40 x).1 40 (yNm 1 40 x).2).2).1).1).2))
def pVo (tn : List Int) (vo : dVo) (x : sY) : sY × tVo := if (yBg (vo.map (fun t => t.1)) 6 x).1 = -1 then ((yBg (vo.map (fun t => t.1)) 6 x).2, (0, 0, 0, 0, 0, 0, 0)) else pVn tn (yVl (yNx x)) (yBg (vo.map (fun t => t.1)) 6 x).2
theorem pV1_01 (x : sY) : (pV1 x).2 = 0 ∨ (pV1 x).2 = 1 := by
  unfold pV1
  split
  · exact Or.inr rfl
  · exact Or.inl rfl
section CL
variable {E : yE} {mem : yMem} {Q : Option yV → yMem → Prop} {ch : Nat → Int} {n : Nat} {x : sY}
abbrev voF : List (Nat × Nat) := [(55, 0), (31, 2), (32, 0), (28, 17), (39, 0), (40, 0), (41, 0), (42, 0), (43, 0)]
theorem vF_voF {len i j : Nat} (h : amod voF i j = false) : ¬ vF len i j := fun hv => by
  have : amod voF i j = true := by
    rcases hv with ⟨h1, h2, _⟩ | ⟨rfl, rfl⟩ | rfl
    · have : i = 39 ∨ i = 40 ∨ i = 41 ∨ i = 42 ∨ i = 43 := by omega
      rcases this with rfl | rfl | rfl | rfl | rfl <;> rfl
    · rfl
    · rfl
  rw [this] at h
  cases h
theorem g_readVoice (hE : yEok E) {D : Nat} (hD : 8 ≤ D) {tn : List Int} {vo : dVo} (h : cTk ch n mem x) (hN : cNm mem 29 3 tn) (hV : cVo mem vo) (hQ : ∀ m, aFrm voF mem m → cTk ch n m (pVo tn vo x).1 → (∀ l, (pVo tn vo x).1 = .inr l → cVo m (vo ++ [(pVo tn vo x).2])) → Q none m) : yCon E D xm_118 [(1, 54)] mem Q := by
  obtain ⟨d, rfl⟩ := Nat.exists_eq_add_of_le' hD
  refine e_118 ?_
  refine zvc_ok hE 90 zc_118 _ _ _ _ _ _ _ xmo_118 ?_
  simp only [ynok_30, ynok_31, w32c_0, w32c_1, w32c_2, w32c_3, w32c_4, w32c_5, w32c_6, w32c_7, w32c_8, w32c_9, w32c_10, w32c_11, w32c_12, w32c_13, w32c_14, w32c_m1, w32c_m2, w32c_118, Int.reduceAdd, Int.reduceSub, Int.reduceMul, yput_s, yput_n, znl_n, znl_0, znl_1, znl_4, ysum_n, ysum_0, ysum_1, ysum_4, true_and, and_true, Nat.reduceAdd, Nat.reduceLeDiff, true_implies, eq_self, true_or, or_true, or_false, false_or, not_true_eq_false, not_false_eq_true, false_implies, implies_true, yset_s, yset_o, yset_d, ne_eq, Nat.reduceEqDiff, Int.reduceToNat, Int.reduceEq, Int.reduceLE, Int.reduceLT, Classical.not_not, Nat.reduceLT, ↓zvk_s, ↓zvk_n, ↓s_118_0, ↓s_118_1, ↓s_118_2, ↓s_118_5_2, ↓s_118_5_28, ↓s_118_8, ↓s_118_11n, ↓s_118_11i, ↓s_118_11p, ↓s_118_12, ↓s_118_13, ↓s_118_14, ↓s_118_17, ↓s_118_18, ↓s_118_19, ↓s_118_22_2, ↓s_118_22_28, ↓s_118_25, ↓s_118_26, ↓s_118_27, ↓s_118_28, ↓s_118_30, ↓s_118_33, ↓s_118_34, ↓s_118_35, ↓s_118_38_2, ↓s_118_38_28, ↓s_118_41, ↓s_118_42, ↓s_118_43, ↓s_118_44, ↓s_118_47_2, ↓s_118_47_28, ↓s_118_50, ↓s_118_51, ↓s_118_52, ↓s_118_54, ↓s_118_57, ↓s_118_58, ↓s_118_59, ↓s_118_62_2, ↓s_118_62_28, ↓s_118_65, ↓s_118_66, ↓s_118_67, ↓s_118_68, ↓s_118_69, ↓s_118_72_2, ↓s_118_72_28, ↓s_118_75, ↓s_118_76, ↓s_118_77, ↓s_118_78, ↓s_118_79, ↓s_118_82_2, ↓s_118_82_28, ↓s_118_85, ↓s_118_86, ↓s_118_87, ↓g_118_88, ↓k_118_88, ↓s_118_89, ↓s_118_91, ↓s_118_94, ↓s_118_97, ↓s_118_98, ↓s_118_101a, ↓s_118_101b, ↓s_118_102_2, ↓s_118_102_28, ↓s_118_105, ↓s_118_106, ↓s_118_107, ↓s_118_108, ↓s_118_109_2, ↓s_118_109_28, ↓g_118_112, ↓k_118_112, ↓s_118_113, ↓s_118_115, ↓s_118_118, ↓s_118_121, ↓s_118_122, ↓s_118_125_2, ↓s_118_125_28, ↓s_118_128, ↓s_118_129, ↓s_118_130, ↓s_118_133, ↓s_118_134, ↓s_118_135, ↓s_118_138_2, ↓s_118_138_28, ↓s_118_141, ↓s_118_142, ↓s_118_143, ↓s_118_144, ↓s_118_146, ↓s_118_149, ↓g_118_150, ↓k_118_150, ↓s_118_151, ↓s_118_153, ↓s_118_156, ↓s_118_159, ↓s_118_160, ↓s_118_163_2, ↓s_118_163_28, ↓s_118_166, ↓s_118_167, ↓s_118_168, ↓s_118_169, ↓s_118_171, ↓s_118_174, ↓s_118_175, w32c_40, w32c_24, w32c_25, w32c_99, w32c_26, zio_2, zio_5, zar_39, zia_39, zln_39, zit_39, zar_40, zia_40, zln_40, zit_40, zar_41, zia_41, zln_41, zit_41, zar_42, zia_42, zln_42, zit_42, zar_43, zia_43, zln_43, zit_43, zar_13, zia_13, zln_13, zit_13, zar_14, zia_14, zln_14, zit_14, zar_15, zia_15, zln_15, zit_15, zar_16, zia_16, zln_16, zit_16, zar_17, zia_17, zln_17, zit_17, zio_54, zio_28, zio_31]
  refine g_begin_31 hE (by omega) h hV.1 (fun r m1 F1 h1 T1 k1 kk => ?_)
  have G1 : aFrm voF mem m1 := aFrm_w F1 (by decide)
  have hb := yBg_1 (nm := vo.map (fun t => t.1)) (mx := 6) (x := x)
  have hlen : (vo.map (fun t => t.1)).length = vo.length := List.length_map _
  rw [hlen] at hb
  refine zgk_s hE xmo_118 60 zc_118 ?_
  simp only [ynok_30, ynok_31, w32c_0, w32c_1, w32c_2, w32c_3, w32c_4, w32c_5, w32c_6, w32c_7, w32c_8, w32c_9, w32c_10, w32c_11, w32c_12, w32c_13, w32c_14, w32c_m1, w32c_m2, w32c_118, Int.reduceAdd, Int.reduceSub, Int.reduceMul, yput_s, yput_n, znl_n, znl_0, znl_1, znl_4, ysum_n, ysum_0, ysum_1, ysum_4, true_and, and_true, Nat.reduceAdd, Nat.reduceLeDiff, true_implies, eq_self, true_or, or_true, or_false, false_or, not_true_eq_false, not_false_eq_true, false_implies, implies_true, yset_s, yset_o, yset_d, ne_eq, Nat.reduceEqDiff, Int.reduceToNat, Int.reduceEq, Int.reduceLE, Int.reduceLT, Classical.not_not, Nat.reduceLT, ↓zvk_s, ↓zvk_n, ↓s_118_0, ↓s_118_1, ↓s_118_2, ↓s_118_5_2, ↓s_118_5_28, ↓s_118_8, ↓s_118_11n, ↓s_118_11i, ↓s_118_11p, ↓s_118_12, ↓s_118_13, ↓s_118_14, ↓s_118_17, ↓s_118_18, ↓s_118_19, ↓s_118_22_2, ↓s_118_22_28, ↓s_118_25, ↓s_118_26, ↓s_118_27, ↓s_118_28, ↓s_118_30, ↓s_118_33, ↓s_118_34, ↓s_118_35, ↓s_118_38_2, ↓s_118_38_28, ↓s_118_41, ↓s_118_42, ↓s_118_43, ↓s_118_44, ↓s_118_47_2, ↓s_118_47_28, ↓s_118_50, ↓s_118_51, ↓s_118_52, ↓s_118_54, ↓s_118_57, ↓s_118_58, ↓s_118_59, ↓s_118_62_2, ↓s_118_62_28, ↓s_118_65, ↓s_118_66, ↓s_118_67, ↓s_118_68, ↓s_118_69, ↓s_118_72_2, ↓s_118_72_28, ↓s_118_75, ↓s_118_76, ↓s_118_77, ↓s_118_78, ↓s_118_79, ↓s_118_82_2, ↓s_118_82_28, ↓s_118_85, ↓s_118_86, ↓s_118_87, ↓g_118_88, ↓k_118_88, ↓s_118_89, ↓s_118_91, ↓s_118_94, ↓s_118_97, ↓s_118_98, ↓s_118_101a, ↓s_118_101b, ↓s_118_102_2, ↓s_118_102_28, ↓s_118_105, ↓s_118_106, ↓s_118_107, ↓s_118_108, ↓s_118_109_2, ↓s_118_109_28, ↓g_118_112, ↓k_118_112, ↓s_118_113, ↓s_118_115, ↓s_118_118, ↓s_118_121, ↓s_118_122, ↓s_118_125_2, ↓s_118_125_28, ↓s_118_128, ↓s_118_129, ↓s_118_130, ↓s_118_133, ↓s_118_134, ↓s_118_135, ↓s_118_138_2, ↓s_118_138_28, ↓s_118_141, ↓s_118_142, ↓s_118_143, ↓s_118_144, ↓s_118_146, ↓s_118_149, ↓g_118_150, ↓k_118_150, ↓s_118_151, ↓s_118_153, ↓s_118_156, ↓s_118_159, ↓s_118_160, ↓s_118_163_2, ↓s_118_163_28, ↓s_118_166, ↓s_118_167, ↓s_118_168, ↓s_118_169, ↓s_118_171, ↓s_118_174, ↓s_118_175, w32c_40, w32c_24, w32c_25, w32c_99, w32c_26, zio_2, zio_5, zar_39, zia_39, zln_39, zit_39, zar_40, zia_40, zln_40, zit_40, zar_41, zia_41, zln_41, zit_41, zar_42, zia_42, zln_42, zit_42, zar_43, zia_43, zln_43, zit_43, zar_13, zia_13, zln_13, zit_13, zar_14, zia_14, zln_14, zit_14, zar_15, zia_15, zln_15, zit_15, zar_16, zia_16, zln_16, zit_16, zar_17, zia_17, zln_17, zit_17, zio_54, zio_28, zio_31]
  refine ⟨fun hr => ?_, fun hr => ?_⟩
  · obtain ⟨hb1, hb2⟩ : (yBg (vo.map (fun t => t.1)) 6 x).1 = (vo.length : Int) ∧ vo.length < 6 := by
      rcases hb with ⟨h0, _⟩ | hb
      · exact absurd (h1.trans h0) hr
      · exact hb
    have hrl : w32 r = (vo.length : Int) := h1.trans hb1
    have hrt : (w32 r).toNat = vo.length := by rw [hrl]; exact Int.toNat_natCast _
    have e0 : ¬ (yBg (vo.map (fun t => t.1)) 6 x).1 = -1 := by omega
    have ep : pVo tn vo x = pVn tn (yVl (yNx x)) (yBg (vo.map (fun t => t.1)) 6 x).2 := by unfold pVo; rw [if_neg e0]
    rw [ep] at hQ
    revert T1 hQ
    generalize (yBg (vo.map (fun t => t.1)) 6 x).2 = y
    intro hQ T1
    refine g_number hE (by omega) T1 (by decide) (by decide) (fun r1 m2 F2 e2 T2 => ?_)
    rw [w32c_1, show w32 40 = 40 by decide] at e2 T2
    have bd := yNm_bd 1 40 y (by decide)
    refine zgk_s hE xmo_118 60 zc_118 ?_
    simp only [ynok_30, ynok_31, w32c_0, w32c_1, w32c_2, w32c_3, w32c_4, w32c_5, w32c_6, w32c_7, w32c_8, w32c_9, w32c_10, w32c_11, w32c_12, w32c_13, w32c_14, w32c_m1, w32c_m2, w32c_118, Int.reduceAdd, Int.reduceSub, Int.reduceMul, yput_s, yput_n, znl_n, znl_0, znl_1, znl_4, ysum_n, ysum_0, ysum_1, ysum_4, true_and, and_true, Nat.reduceAdd, Nat.reduceLeDiff, true_implies, eq_self, true_or, or_true, or_false, false_or, not_true_eq_false, not_false_eq_true, false_implies, implies_true, yset_s, yset_o, yset_d, ne_eq, Nat.reduceEqDiff, Int.reduceToNat, Int.reduceEq, Int.reduceLE, Int.reduceLT, Classical.not_not, Nat.reduceLT, ↓zvk_s, ↓zvk_n, ↓s_118_0, ↓s_118_1, ↓s_118_2, ↓s_118_5_2, ↓s_118_5_28, ↓s_118_8, ↓s_118_11n, ↓s_118_11i, ↓s_118_11p, ↓s_118_12, ↓s_118_13, ↓s_118_14, ↓s_118_17, ↓s_118_18, ↓s_118_19, ↓s_118_22_2, ↓s_118_22_28, ↓s_118_25, ↓s_118_26, ↓s_118_27, ↓s_118_28, ↓s_118_30, ↓s_118_33, ↓s_118_34, ↓s_118_35, ↓s_118_38_2, ↓s_118_38_28, ↓s_118_41, ↓s_118_42, ↓s_118_43, ↓s_118_44, ↓s_118_47_2, ↓s_118_47_28, ↓s_118_50, ↓s_118_51, ↓s_118_52, ↓s_118_54, ↓s_118_57, ↓s_118_58, ↓s_118_59, ↓s_118_62_2, ↓s_118_62_28, ↓s_118_65, ↓s_118_66, ↓s_118_67, ↓s_118_68, ↓s_118_69, ↓s_118_72_2, ↓s_118_72_28, ↓s_118_75, ↓s_118_76, ↓s_118_77, ↓s_118_78, ↓s_118_79, ↓s_118_82_2, ↓s_118_82_28, ↓s_118_85, ↓s_118_86, ↓s_118_87, ↓g_118_88, ↓k_118_88, ↓s_118_89, ↓s_118_91, ↓s_118_94, ↓s_118_97, ↓s_118_98, ↓s_118_101a, ↓s_118_101b, ↓s_118_102_2, ↓s_118_102_28, ↓s_118_105, ↓s_118_106, ↓s_118_107, ↓s_118_108, ↓s_118_109_2, ↓s_118_109_28, ↓g_118_112, ↓k_118_112, ↓s_118_113, ↓s_118_115, ↓s_118_118, ↓s_118_121, ↓s_118_122, ↓s_118_125_2, ↓s_118_125_28, ↓s_118_128, ↓s_118_129, ↓s_118_130, ↓s_118_133, ↓s_118_134, ↓s_118_135, ↓s_118_138_2, ↓s_118_138_28, ↓s_118_141, ↓s_118_142, ↓s_118_143, ↓s_118_144, ↓s_118_146, ↓s_118_149, ↓g_118_150, ↓k_118_150, ↓s_118_151, ↓s_118_153, ↓s_118_156, ↓s_118_159, ↓s_118_160, ↓s_118_163_2, ↓s_118_163_28, ↓s_118_166, ↓s_118_167, ↓s_118_168, ↓s_118_169, ↓s_118_171, ↓s_118_174, ↓s_118_175, w32c_40, w32c_24, w32c_25, w32c_99, w32c_26, zio_2, zio_5, zar_39, zia_39, zln_39, zit_39, zar_40, zia_40, zln_40, zit_40, zar_41, zia_41, zln_41, zit_41, zar_42, zia_42, zln_42, zit_42, zar_43, zia_43, zln_43, zit_43, zar_13, zia_13, zln_13, zit_13, zar_14, zia_14, zln_14, zit_14, zar_15, zia_15, zln_15, zit_15, zar_16, zia_16, zln_16, zit_16, zar_17, zia_17, zln_17, zit_17, zio_54, zio_28, zio_31]
    refine ⟨⟨by omega, by omega⟩, ⟨by omega, by omega⟩, g_number hE (by omega) (cTk_of T2 (fun j => yset_o (by decide)) (fun j => yset_o (by decide)) (fun j => yset_o (by decide))) (by omega) (by decide) (fun r2 m3 F3 e3 T3 => ?_)⟩
    rw [e2, show w32 40 = 40 by decide] at e3 T3
    refine zgk_s hE xmo_118 60 zc_118 ?_
    simp only [ynok_30, ynok_31, w32c_0, w32c_1, w32c_2, w32c_3, w32c_4, w32c_5, w32c_6, w32c_7, w32c_8, w32c_9, w32c_10, w32c_11, w32c_12, w32c_13, w32c_14, w32c_m1, w32c_m2, w32c_118, Int.reduceAdd, Int.reduceSub, Int.reduceMul, yput_s, yput_n, znl_n, znl_0, znl_1, znl_4, ysum_n, ysum_0, ysum_1, ysum_4, true_and, and_true, Nat.reduceAdd, Nat.reduceLeDiff, true_implies, eq_self, true_or, or_true, or_false, false_or, not_true_eq_false, not_false_eq_true, false_implies, implies_true, yset_s, yset_o, yset_d, ne_eq, Nat.reduceEqDiff, Int.reduceToNat, Int.reduceEq, Int.reduceLE, Int.reduceLT, Classical.not_not, Nat.reduceLT, ↓zvk_s, ↓zvk_n, ↓s_118_0, ↓s_118_1, ↓s_118_2, ↓s_118_5_2, ↓s_118_5_28, ↓s_118_8, ↓s_118_11n, ↓s_118_11i, ↓s_118_11p, ↓s_118_12, ↓s_118_13, ↓s_118_14, ↓s_118_17, ↓s_118_18, ↓s_118_19, ↓s_118_22_2, ↓s_118_22_28, ↓s_118_25, ↓s_118_26, ↓s_118_27, ↓s_118_28, ↓s_118_30, ↓s_118_33, ↓s_118_34, ↓s_118_35, ↓s_118_38_2, ↓s_118_38_28, ↓s_118_41, ↓s_118_42, ↓s_118_43, ↓s_118_44, ↓s_118_47_2, ↓s_118_47_28, ↓s_118_50, ↓s_118_51, ↓s_118_52, ↓s_118_54, ↓s_118_57, ↓s_118_58, ↓s_118_59, ↓s_118_62_2, ↓s_118_62_28, ↓s_118_65, ↓s_118_66, ↓s_118_67, ↓s_118_68, ↓s_118_69, ↓s_118_72_2, ↓s_118_72_28, ↓s_118_75, ↓s_118_76, ↓s_118_77, ↓s_118_78, ↓s_118_79, ↓s_118_82_2, ↓s_118_82_28, ↓s_118_85, ↓s_118_86, ↓s_118_87, ↓g_118_88, ↓k_118_88, ↓s_118_89, ↓s_118_91, ↓s_118_94, ↓s_118_97, ↓s_118_98, ↓s_118_101a, ↓s_118_101b, ↓s_118_102_2, ↓s_118_102_28, ↓s_118_105, ↓s_118_106, ↓s_118_107, ↓s_118_108, ↓s_118_109_2, ↓s_118_109_28, ↓g_118_112, ↓k_118_112, ↓s_118_113, ↓s_118_115, ↓s_118_118, ↓s_118_121, ↓s_118_122, ↓s_118_125_2, ↓s_118_125_28, ↓s_118_128, ↓s_118_129, ↓s_118_130, ↓s_118_133, ↓s_118_134, ↓s_118_135, ↓s_118_138_2, ↓s_118_138_28, ↓s_118_141, ↓s_118_142, ↓s_118_143, ↓s_118_144, ↓s_118_146, ↓s_118_149, ↓g_118_150, ↓k_118_150, ↓s_118_151, ↓s_118_153, ↓s_118_156, ↓s_118_159, ↓s_118_160, ↓s_118_163_2, ↓s_118_163_28, ↓s_118_166, ↓s_118_167, ↓s_118_168, ↓s_118_169, ↓s_118_171, ↓s_118_174, ↓s_118_175, w32c_40, w32c_24, w32c_25, w32c_99, w32c_26, zio_2, zio_5, zar_39, zia_39, zln_39, zit_39, zar_40, zia_40, zln_40, zit_40, zar_41, zia_41, zln_41, zit_41, zar_42, zia_42, zln_42, zit_42, zar_43, zia_43, zln_43, zit_43, zar_13, zia_13, zln_13, zit_13, zar_14, zia_14, zln_14, zit_14, zar_15, zia_15, zln_15, zit_15, zar_16, zia_16, zln_16, zit_16, zar_17, zia_17, zln_17, zit_17, zio_54, zio_28, zio_31]
    refine ⟨⟨by omega, by omega⟩, ⟨by omega, by omega⟩, ⟨by omega, by omega⟩, ⟨by omega, by omega⟩, ?_⟩
    rw [hrt]
    rw [hrt] at F3
    have k3 : ∀ i j, i ≠ 55 → m3 i j = yset m2 39 vo.length r1 i j := fun i j q => F3 i j (amod_n55 q)
    have k2 : ∀ i j, i ≠ 55 → m2 i j = m1 i j := fun i j q => F2 i j (amod_n55 q)
    have Z3 : ∀ i j, ¬ vF vo.length i j → m3 i j = m1 i j := fun i j hv => by
      have q : i ≠ 55 := fun e => hv (Or.inr (Or.inr e))
      rw [k3 i j q, ← k2 i j q]
      exact yset_fr (b := m2) (fun _ _ _ => rfl) (Or.inl ⟨by decide, by decide, rfl⟩) i j hv
    have v39 : m3 39 vo.length = r1 := by rw [k3 39 _ (by decide), yset_s]
    have bb : 0 ≤ bsum (vo.map (fun t => t.2.2.2.1)) ∧ bsum (vo.map (fun t => t.2.2.2.1)) < 2 ^ vo.length := by
      have := bsum_bd (l := vo.map (fun t => t.2.2.2.1)) (fun b hb => by
        obtain ⟨t, ht, rfl⟩ := List.mem_map.mp hb
        exact hV.2.2.1 t ht)
      rw [List.length_map] at this
      exact this
    have v28 : w32 (m3 28 16) = bsum (vo.map (fun t => t.2.2.2.1)) := by
      rw [k3 28 16 (by decide), yset_o (by decide), k2 28 16 (by decide), F1 28 16 rfl]
      exact hV.2.1
    refine rv88 (b := m1) hE (by omega) hb2 hrl (cNm_fr hN (F1 29 1 rfl) (fun j => F1 30 j rfl)) (cTk_of T3 (fun j => by rw [yset_o (by decide), yset_o (by decide), yset_o (by decide), yset_o (by decide)]) (fun j => by rw [yset_o (by decide), yset_o (by decide), yset_o (by decide), yset_o (by decide)]) (fun j => by rw [yset_o (by decide), yset_o (by decide), yset_o (by decide), yset_o (by decide)])) bb (lo := (yNm 1 40 y).1) (hi := (yNm (yNm 1 40 y).1 40 (yNm 1 40 y).2).1) ⟨yset_fr (yset_fr (yset_fr (yset_fr Z3 (Or.inl ⟨by decide, by decide, rfl⟩)) (Or.inl ⟨by decide, by decide, rfl⟩)) (Or.inl ⟨by decide, by decide, rfl⟩)) (Or.inl ⟨by decide, by decide, rfl⟩), by rw [yset_o (by decide), yset_o (by decide), yset_o (by decide), yset_o (by decide), v39]; exact e2, by rw [yset_o (by decide), yset_o (by decide), yset_o (by decide), yset_s]; exact e3, by rw [yset_o (by decide), yset_o (by decide), yset_o (by decide), yset_o (by decide)]; exact v28, by rw [yset_o (by decide), yset_o (by decide), yset_s]; exact w32c_m1, by rw [yset_o (by decide), yset_s]; exact w32c_0, by rw [yset_s]; exact w32c_1⟩ (fun m' g1 g2 => ?_)
    obtain ⟨s0, s1, s2, s3, s4, s5, s6⟩ := g2
    refine hQ m' (aFrm_tt G1 (fun i j hij => s0 i j (vF_voF hij))) g1 (fun l _ => ⟨?_, ?_, ?_, ?_⟩)
    · rw [List.map_append]
      exact cNm_fr (kk hr) (s0 31 1 (by unfold vF; omega)) (fun j => s0 32 j (by unfold vF; omega))
    · rw [List.map_append, s3]
      show _ = bsum (_ ++ [_])
      rw [bsum_app, List.length_map]
      rfl
    · intro t ht
      rcases List.mem_append.mp ht with ht | ht
      · exact hV.2.2.1 t ht
      · rw [List.mem_singleton.mp ht]
        exact pV1_01 _
    · intro j t ht
      rcases app_get ht with ht | ⟨rfl, rfl⟩
      · have hj := get_lt ht
        have w : ∀ i, 39 ≤ i → i ≤ 43 → m' i j = mem i j := fun i i1 i2 => by
          rw [s0 i j (by unfold vF; omega)]
          have : i = 39 ∨ i = 40 ∨ i = 41 ∨ i = 42 ∨ i = 43 := by omega
          rcases this with rfl | rfl | rfl | rfl | rfl <;> exact F1 _ j rfl
        rw [w 39 (by decide) (by decide), w 40 (by decide) (by decide), w 41 (by decide) (by decide), w 42 (by decide) (by decide), w 43 (by decide) (by decide)]
        exact hV.2.2.2 j t ht
      · exact ⟨s1, s2, s4, s5, s6⟩
  · have e0 : (yBg (vo.map (fun t => t.1)) 6 x).1 = -1 := by rw [← h1]; exact hr
    have ep : pVo tn vo x = ((yBg (vo.map (fun t => t.1)) 6 x).2, (0, 0, 0, 0, 0, 0, 0)) := by unfold pVo; rw [if_pos e0]
    refine hQ m1 G1 (by rw [ep]; exact T1) (fun l hl => ?_)
    rcases hb with ⟨_, e, he⟩ | ⟨hb, _⟩
    · rw [ep] at hl
      rw [he] at hl
      cases hl
    · omega
end CL
