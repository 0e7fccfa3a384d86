section CN
variable {E : yE} {d : Nat} {mem m : yMem} {Q : Option yV → yMem → Prop} {p : Nat} {ch : Nat → Int}
theorem f_readSign (hE : yEok E) {D : Nat} (hD : 2 ≤ D) (hs : w32 (mem 55 2) ≤ 800) (hB0 : cBy mem ch) (h3 : w32 (mem 55 3) = (p : Int)) (hp : p < cen mem) (hQ : ∀ m, aFrm ctF mem m → w32 (m 55 3) = (p : Int) + (((sSg (ch p) (if p + 1 < cen mem then ch (p + 1) else 0)).2 : Nat) : Int) → m 55 5 = mem 55 5 → w32 (m 55 4) = (((sSg (ch p) (if p + 1 < cen mem then ch (p + 1) else 0)).1 : Nat) : Int) → Q none m) : yCon E D xm_129 [(1, 55)] mem Q := by
  obtain ⟨d, rfl⟩ := Nat.exists_eq_add_of_le' hD
  have rr : cen mem = (w32 (mem 55 2)).toNat := rfl
  refine e_129 ?_
  refine zvc_ok hE 60 zc_129 _ _ _ _ _ _ _ xmo_129 ?_
  have e1 : w32 (mem 55 3 + 1) = (p : Int) + 1 := by rw [w32_ad (by rw [w32c_1]; omega) (by rw [w32c_1]; omega), w32c_1, h3]
  have e2 : w32 (mem 55 3 + 2) = (p : Int) + 2 := by rw [w32_ad (by rw [w32c_2]; omega) (by rw [w32c_2]; omega), w32c_2, h3]
  have b0 := cBy_c hB0 p
  have b1 := cBy_c hB0 (p + 1)
  have f29 : ∀ y : Int, (((if p + 1 < cen mem then ch (p + 1) else 0) < 128 ∧ w32 y = (if p + 1 < cen mem then ch (p + 1) else 0)) ∨ (128 ≤ (if p + 1 < cen mem then ch (p + 1) else 0) ∧ w32 y = (if p + 1 < cen mem then ch (p + 1) else 0) - 256)) → (0 ≤ (if p + 1 < cen mem then ch (p + 1) else 0) ∧ (if p + 1 < cen mem then ch (p + 1) else 0) ≤ 255) → zG E (d + 1) xm_129 28 [some (1, 55), none, none] [(0, y)] mem Q := fun y hy hyb => by
    generalize (if p + 1 < cen mem then ch (p + 1) else 0) = b at hy hyb hQ ⊢
    refine zgo_ok (n := 60) hE xmo_129 (cs := zc_129) ?_
    simp only [ynok_30, ynok_31, w32c_0, w32c_1, w32c_2, w32c_3, w32c_4, w32c_5, w32c_6, w32c_7, w32c_8, w32c_9, w32c_10, w32c_11, w32c_12, w32c_13, w32c_14, w32c_m1, w32c_m2, w32c_118, Int.reduceAdd, Int.reduceSub, Int.reduceMul, yput_s, yput_n, znl_n, znl_0, znl_1, znl_4, ysum_n, ysum_0, ysum_1, ysum_4, true_and, and_true, Nat.reduceAdd, Nat.reduceLeDiff, true_implies, eq_self, true_or, or_true, or_false, false_or, not_true_eq_false, not_false_eq_true, false_implies, implies_true, yset_s, yset_o, yset_d, ne_eq, Nat.reduceEqDiff, Int.reduceToNat, Int.reduceEq, Int.reduceLE, Int.reduceLT, Classical.not_not, Nat.reduceLT, ↓zvk_s, ↓zvk_n, ↓s_129_0, ↓s_129_1, ↓s_129_4, ↓s_129_5, ↓s_129_6, ↓s_129_7, ↓s_129_10, ↓s_129_13, ↓s_129_14, ↓s_129_17, ↓s_129_18, ↓s_129_21, ↓s_129_22, ↓s_129_23, ↓s_129_24, ↓s_129_27, ↓g_129_28n, ↓g_129_28i, ↓g_129_28p, ↓k_129_28, ↓s_129_29, ↓s_129_30, ↓s_129_31, ↓s_129_34, ↓s_129_35, ↓s_129_38, ↓s_129_39, ↓s_129_40, ↓s_129_43, ↓s_129_46, ↓s_129_47, ↓s_129_50, ↓s_129_52, ↓s_129_55, ↓s_129_56, ↓s_129_59, ↓s_129_61, ↓s_129_64, ↓s_129_65, ↓s_129_68, ↓s_129_70, ↓s_129_73, ↓s_129_74, ↓s_129_77, ↓s_129_78n, ↓s_129_78i, ↓s_129_78p, ↓s_129_79, ↓s_129_80a, ↓s_129_80b, ↓s_129_81, ↓s_129_84, ↓s_129_85, ↓s_129_88, ↓s_129_89, ↓s_129_92, ↓s_129_93, ↓s_129_94, ↓s_129_97, zar_1, zia_1, zln_1, zit_1, zio_55]
    rw [h3, Int.toNat_natCast]
    refine ⟨⟨by omega, by omega⟩, f_signKind hE (by omega) (c := ch p) (b := b) b0.2.2 hy ⟨b0.1, b0.2.1⟩ hyb (fun r hr => ?_)⟩
    refine zgk_s hE xmo_129 60 zc_129 ?_
    simp only [ynok_30, ynok_31, w32c_0, w32c_1, w32c_2, w32c_3, w32c_4, w32c_5, w32c_6, w32c_7, w32c_8, w32c_9, w32c_10, w32c_11, w32c_12, w32c_13, w32c_14, w32c_m1, w32c_m2, w32c_118, Int.reduceAdd, Int.reduceSub, Int.reduceMul, yput_s, yput_n, znl_n, znl_0, znl_1, znl_4, ysum_n, ysum_0, ysum_1, ysum_4, true_and, and_true, Nat.reduceAdd, Nat.reduceLeDiff, true_implies, eq_self, true_or, or_true, or_false, false_or, not_true_eq_false, not_false_eq_true, false_implies, implies_true, yset_s, yset_o, yset_d, ne_eq, Nat.reduceEqDiff, Int.reduceToNat, Int.reduceEq, Int.reduceLE, Int.reduceLT, Classical.not_not, Nat.reduceLT, ↓zvk_s, ↓zvk_n, ↓s_129_0, ↓s_129_1, ↓s_129_4, ↓s_129_5, ↓s_129_6, ↓s_129_7, ↓s_129_10, ↓s_129_13, ↓s_129_14, ↓s_129_17, ↓s_129_18, ↓s_129_21, ↓s_129_22, ↓s_129_23, ↓s_129_24, ↓s_129_27, ↓g_129_28n, ↓g_129_28i, ↓g_129_28p, ↓k_129_28, ↓s_129_29, ↓s_129_30, ↓s_129_31, ↓s_129_34, ↓s_129_35, ↓s_129_38, ↓s_129_39, ↓s_129_40, ↓s_129_43, ↓s_129_46, ↓s_129_47, ↓s_129_50, ↓s_129_52, ↓s_129_55, ↓s_129_56, ↓s_129_59, ↓s_129_61, ↓s_129_64, ↓s_129_65, ↓s_129_68, ↓s_129_70, ↓s_129_73, ↓s_129_74, ↓s_129_77, ↓s_129_78n, ↓s_129_78i, ↓s_129_78p, ↓s_129_79, ↓s_129_80a, ↓s_129_80b, ↓s_129_81, ↓s_129_84, ↓s_129_85, ↓s_129_88, ↓s_129_89, ↓s_129_92, ↓s_129_93, ↓s_129_94, ↓s_129_97, zar_1, zia_1, zln_1, zit_1, zio_55]
    rw [hr]
    have hl := sSg_2 (ch p) b
    have q1 : (sSg (ch p) b).2 = 1 → Q none (yset (yset mem 55 4 r) 55 3 (mem 55 3 + 1)) := fun h => hQ _ (aFrm_set (aFrm_set aFrm_rf rfl) rfl) (by rw [yset_s, e1, h]; rfl) (by rw [yset_d (by decide), yset_d (by decide)]) (by rw [yset_d (by decide), yset_s, hr])
    have q2 : (sSg (ch p) b).2 = 2 → Q none (yset (yset mem 55 4 r) 55 3 (mem 55 3 + 2)) := fun h => hQ _ (aFrm_set (aFrm_set aFrm_rf rfl) rfl) (by rw [yset_s, e2, h]; rfl) (by rw [yset_d (by decide), yset_d (by decide)]) (by rw [yset_d (by decide), yset_s, hr])
    exact ⟨fun h => q2 (by omega), fun h8 => ⟨fun h => q2 (by omega), fun h10 => ⟨fun h => q1 (by omega), fun h => q2 (by omega)⟩⟩⟩
  simp only [ynok_30, ynok_31, w32c_0, w32c_1, w32c_2, w32c_3, w32c_4, w32c_5, w32c_6, w32c_7, w32c_8, w32c_9, w32c_10, w32c_11, w32c_12, w32c_13, w32c_14, w32c_m1, w32c_m2, w32c_118, Int.reduceAdd, Int.reduceSub, Int.reduceMul, yput_s, yput_n, znl_n, znl_0, znl_1, znl_4, ysum_n, ysum_0, ysum_1, ysum_4, true_and, and_true, Nat.reduceAdd, Nat.reduceLeDiff, true_implies, eq_self, true_or, or_true, or_false, false_or, not_true_eq_false, not_false_eq_true, false_implies, implies_true, yset_s, yset_o, yset_d, ne_eq, Nat.reduceEqDiff, Int.reduceToNat, Int.reduceEq, Int.reduceLE, Int.reduceLT, Classical.not_not, Nat.reduceLT, ↓zvk_s, ↓zvk_n, ↓s_129_0, ↓s_129_1, ↓s_129_4, ↓s_129_5, ↓s_129_6, ↓s_129_7, ↓s_129_10, ↓s_129_13, ↓s_129_14, ↓s_129_17, ↓s_129_18, ↓s_129_21, ↓s_129_22, ↓s_129_23, ↓s_129_24, ↓s_129_27, ↓g_129_28n, ↓g_129_28i, ↓g_129_28p, ↓k_129_28, ↓s_129_29, ↓s_129_30, ↓s_129_31, ↓s_129_34, ↓s_129_35, ↓s_129_38, ↓s_129_39, ↓s_129_40, ↓s_129_43, ↓s_129_46, ↓s_129_47, ↓s_129_50, ↓s_129_52, ↓s_129_55, ↓s_129_56, ↓s_129_59, ↓s_129_61, ↓s_129_64, ↓s_129_65, ↓s_129_68, ↓s_129_70, ↓s_129_73, ↓s_129_74, ↓s_129_77, ↓s_129_78n, ↓s_129_78i, ↓s_129_78p, ↓s_129_79, ↓s_129_80a, ↓s_129_80b, ↓s_129_81, ↓s_129_84, ↓s_129_85, ↓s_129_88, ↓s_129_89, ↓s_129_92, ↓s_129_93, ↓s_129_94, ↓s_129_97, zar_1, zia_1, zln_1, zit_1, zio_55]
  rw [e1]
  refine ⟨fun h => f29 0 ?_ ?_, fun h => ⟨⟨by omega, by omega⟩, ?_⟩⟩
  · rw [if_neg (by omega), w32c_0]; exact Or.inl ⟨by decide, rfl⟩
  · rw [if_neg (by omega)]; exact ⟨by decide, by decide⟩
  · rw [show ((p : Int) + 1).toNat = p + 1 by omega]
    refine f29 _ ?_ ?_
    · rw [if_pos (by omega)]; exact b1.2.2
    · rw [if_pos (by omega)]; exact ⟨b1.1, b1.2.1⟩
theorem sSg_k (c b : Int) : (sSg c b).1 = 1 ∨ (4 ≤ (sSg c b).1 ∧ (sSg c b).1 ≤ 16) := by
  unfold sSg
  repeat' split
  all_goals decide
theorem sWi_k {v : Int} : ∀ (l : List Int) (i : Nat), sWi l v i = 3 ∨ (i ≤ sWi l v i ∧ sWi l v i < i + l.length)
  | [], _ => Or.inl rfl
  | w :: r, i => by
    simp only [sWi]
    split
    · exact Or.inr ⟨Nat.le_refl _, by simp⟩
    · rcases sWi_k (v := v) r (i + 1) with h | h
      · exact Or.inl h
      · refine Or.inr ⟨by omega, ?_⟩
        rw [List.length_cons]
        omega
theorem sWk_k (v : Int) : sWk v = 3 ∨ (17 ≤ sWk v ∧ sWk v ≤ 39) := by
  have h := sWi_k (v := v) sWd 17
  have hl : sWd.length = 23 := rfl
  rw [hl] at h
  unfold sWk
  omega
/-- behind the blanks -/
theorem cn60 (hE : yEok E) (hd : 2 ≤ d) (hs : w32 (mem 55 2) ≤ 800) (hs0 : 0 ≤ w32 (mem 55 2)) (hB0 : cBy mem ch) (hW : cWd mem) (hQ : ∀ m k p v e, aFrm ctF mem m → sTk ch (cen mem) (cat mem) k p v e → w32 (m 55 3) = (e : Int) → w32 (m 55 5) = (p : Int) → w32 (m 55 4) = (k : Int) → sCk (w32 (m 55 6)) k v → Q none m) (hF : aFrm ctF mem m) (hx : w32 (m 55 3) = (p : Int)) (hB : sBk ch (cen mem) (cat mem) p) : zG E (d + 1) xm_126 60 [some (1, 55)] [] m Q := by
  have rr : cen mem = (w32 (mem 55 2)).toNat := rfl
  have hpn := hB.2.1
  have e2 : m 55 2 = mem 55 2 := hF 55 2 rfl
  have hbs := cBy_c hB0 p
  have F1 : aFrm ctF mem (yset (yset m 55 5 (m 55 3)) 55 6 0) := aFrm_set (aFrm_set hF rfl) rfl
  have tr : ∀ m2, aFrm ctF (yset (yset m 55 5 (m 55 3)) 55 6 0) m2 → aFrm ctF mem m2 := fun m2 h i j hij => by rw [h i j hij, F1 i j hij]
  have gB : cBy (yset (yset m 55 5 (m 55 3)) 55 6 0) ch := cBy_fr hB0 F1
  have gW : cWd (yset (yset m 55 5 (m 55 3)) 55 6 0) := fun i hi => by rw [F1 56 i rfl]; exact hW i hi
  have g2 : yset (yset m 55 5 (m 55 3)) 55 6 0 55 2 = mem 55 2 := F1 55 2 rfl
  have gc : cen (yset (yset m 55 5 (m 55 3)) 55 6 0) = cen mem := by show (w32 _).toNat = _; rw [g2]
  have g3 : w32 (yset (yset m 55 5 (m 55 3)) 55 6 0 55 3) = (p : Int) := by rw [yset_d (by decide), yset_d (by decide)]; exact hx
  have g5 : w32 (yset (yset m 55 5 (m 55 3)) 55 6 0 55 5) = (p : Int) := by rw [yset_d (by decide), yset_s]; exact hx
  have g6 : w32 (yset (yset m 55 5 (m 55 3)) 55 6 0 55 6) = 0 := by rw [yset_s]; decide
  refine zgo_ok (n := 60) hE xmo_126 (cs := zc_126) ?_
  simp only [ynok_30, ynok_31, w32c_0, w32c_1, w32c_2, w32c_3, w32c_4, w32c_5, w32c_6, w32c_7, w32c_8, w32c_9, w32c_10, w32c_11, w32c_12, w32c_13, w32c_14, w32c_m1, w32c_m2, w32c_118, Int.reduceAdd, Int.reduceSub, Int.reduceMul, yput_s, yput_n, znl_n, znl_0, znl_1, znl_4, ysum_n, ysum_0, ysum_1, ysum_4, true_and, and_true, Nat.reduceAdd, Nat.reduceLeDiff, true_implies, eq_self, true_or, or_true, or_false, false_or, not_true_eq_false, not_false_eq_true, false_implies, implies_true, yset_s, yset_o, yset_d, ne_eq, Nat.reduceEqDiff, Int.reduceToNat, Int.reduceEq, Int.reduceLE, Int.reduceLT, Classical.not_not, Nat.reduceLT, ↓zvk_s, ↓zvk_n, ↓s_126_0, ↓s_126_1, ↓s_126_4, ↓s_126_7, ↓g_126_8, ↓k_126_8, ↓s_126_9, ↓s_126_12, ↓s_126_13, ↓s_126_16, ↓s_126_19, ↓s_126_20, ↓s_126_23, ↓s_126_24, ↓s_126_27, ↓s_126_28, ↓s_126_30, ↓s_126_33, ↓s_126_34, ↓s_126_37, ↓s_126_38, ↓s_126_41, ↓s_126_42, ↓s_126_44, ↓s_126_47, ↓s_126_48a, ↓s_126_48b, ↓s_126_49, ↓s_126_52, ↓s_126_53, ↓s_126_54, ↓s_126_57, ↓g_126_60, ↓k_126_60, ↓s_126_61, ↓s_126_62, ↓s_126_65, ↓s_126_68, ↓s_126_69, ↓s_126_70, ↓s_126_73, ↓s_126_74, ↓s_126_77, ↓s_126_78, ↓s_126_81, ↓s_126_84, ↓s_126_85, ↓s_126_86, ↓s_126_89, ↓s_126_92, ↓s_126_93, ↓s_126_96, ↓s_126_97, ↓s_126_100, ↓s_126_101, ↓s_126_104, ↓s_126_107, ↓s_126_108, ↓s_126_111, ↓s_126_114, ↓s_126_115, ↓s_126_118, ↓s_126_119, ↓s_126_122, ↓s_126_123, ↓s_126_126, ↓s_126_129, ↓s_126_130, ↓s_126_133, ↓s_126_136, ↓s_126_137, ↓s_126_140, w32c_32, ↓s_125_0, ↓s_125_1, ↓s_125_3, ↓s_125_6, ↓s_125_7, ↓s_125_9, ↓s_125_12, ↓s_125_13, ↓s_125_16, ↓s_125_17, w32c_97, w32c_122, ↓s_124_0, ↓s_124_1, ↓s_124_3, ↓s_124_6, ↓s_124_7, ↓s_124_9, ↓s_124_12, ↓s_124_13, ↓s_124_16, ↓s_124_17, w32c_48, w32c_57, zar_1, zia_1, zln_1, zit_1, zio_55]
  rw [e2, hx, hF 1 _ rfl, Int.toNat_natCast]
  have wd : 97 ≤ ch p → ch p ≤ 122 → p < cen mem → yCon E (d + 1) xm_130 [(1, 55)] (yset (yset m 55 5 (m 55 3)) 55 6 0) (fun v mem' => zgk E (d + 1) xm_126 111 [some (1, 55)] [] v mem' Q) := fun a1 a2 a3 => by
    refine f_readWord (p := p) hE (by omega) (by rw [g2]; exact hs) gB gW g5 g3 (by rw [gc]; exact a3) g6 (fun m2 x f1 f2 f3 f4 f5 => ?_)
    rw [gc] at f2
    refine zgk_n hE xmo_126 60 zc_126 ?_
    simp only [ynok_30, ynok_31, w32c_0, w32c_1, w32c_2, w32c_3, w32c_4, w32c_5, w32c_6, w32c_7, w32c_8, w32c_9, w32c_10, w32c_11, w32c_12, w32c_13, w32c_14, w32c_m1, w32c_m2, w32c_118, Int.reduceAdd, Int.reduceSub, Int.reduceMul, yput_s, yput_n, znl_n, znl_0, znl_1, znl_4, ysum_n, ysum_0, ysum_1, ysum_4, true_and, and_true, Nat.reduceAdd, Nat.reduceLeDiff, true_implies, eq_self, true_or, or_true, or_false, false_or, not_true_eq_false, not_false_eq_true, false_implies, implies_true, yset_s, yset_o, yset_d, ne_eq, Nat.reduceEqDiff, Int.reduceToNat, Int.reduceEq, Int.reduceLE, Int.reduceLT, Classical.not_not, Nat.reduceLT, ↓zvk_s, ↓zvk_n, ↓s_126_0, ↓s_126_1, ↓s_126_4, ↓s_126_7, ↓g_126_8, ↓k_126_8, ↓s_126_9, ↓s_126_12, ↓s_126_13, ↓s_126_16, ↓s_126_19, ↓s_126_20, ↓s_126_23, ↓s_126_24, ↓s_126_27, ↓s_126_28, ↓s_126_30, ↓s_126_33, ↓s_126_34, ↓s_126_37, ↓s_126_38, ↓s_126_41, ↓s_126_42, ↓s_126_44, ↓s_126_47, ↓s_126_48a, ↓s_126_48b, ↓s_126_49, ↓s_126_52, ↓s_126_53, ↓s_126_54, ↓s_126_57, ↓g_126_60, ↓k_126_60, ↓s_126_61, ↓s_126_62, ↓s_126_65, ↓s_126_68, ↓s_126_69, ↓s_126_70, ↓s_126_73, ↓s_126_74, ↓s_126_77, ↓s_126_78, ↓s_126_81, ↓s_126_84, ↓s_126_85, ↓s_126_86, ↓s_126_89, ↓s_126_92, ↓s_126_93, ↓s_126_96, ↓s_126_97, ↓s_126_100, ↓s_126_101, ↓s_126_104, ↓s_126_107, ↓s_126_108, ↓s_126_111, ↓s_126_114, ↓s_126_115, ↓s_126_118, ↓s_126_119, ↓s_126_122, ↓s_126_123, ↓s_126_126, ↓s_126_129, ↓s_126_130, ↓s_126_133, ↓s_126_136, ↓s_126_137, ↓s_126_140, w32c_32, zar_1, zia_1, zln_1, zit_1, zio_55]
    rcases f5 with ⟨c1, c2⟩ | ⟨c1, c2, c3⟩
    · exact hQ m2 1 p 0 x (tr m2 f1) ⟨hB, Or.inr (Or.inl ⟨a3, ⟨a1, a2⟩, f2, Or.inl ⟨c1, rfl, rfl⟩⟩)⟩ f3 f4 c2 (Or.inr (Or.inr (Or.inr (Or.inl rfl))))
    · refine hQ m2 (sWk (sPk ch p x)) p (sPk ch p x) x (tr m2 f1) ⟨hB, Or.inr (Or.inl ⟨a3, ⟨a1, a2⟩, f2, Or.inr ⟨c1, rfl, rfl⟩⟩)⟩ f3 f4 c2 (Or.inr (Or.inl ⟨?_, c3⟩))
      rcases sWk_k (sPk ch p x) with h | h
      · exact Or.inl h
      · exact Or.inr h.1
  have nm : 48 ≤ ch p → ch p ≤ 57 → p < cen mem → yCon E (d + 1) xm_128 [(1, 55)] (yset (yset m 55 5 (m 55 3)) 55 6 0) (fun v mem' => zgk E (d + 1) xm_126 133 [some (1, 55)] [] v mem' Q) := fun a1 a2 a3 => by
    refine f_readNumber (p := p) hE (by omega) (by rw [g2]; exact hs) gB g5 g3 (by rw [gc]; exact a3) g6 (fun m2 x f1 f2 f3 f4 f5 f6 f7 => ?_)
    rw [gc] at f2
    refine zgk_n hE xmo_126 60 zc_126 ?_
    simp only [ynok_30, ynok_31, w32c_0, w32c_1, w32c_2, w32c_3, w32c_4, w32c_5, w32c_6, w32c_7, w32c_8, w32c_9, w32c_10, w32c_11, w32c_12, w32c_13, w32c_14, w32c_m1, w32c_m2, w32c_118, Int.reduceAdd, Int.reduceSub, Int.reduceMul, yput_s, yput_n, znl_n, znl_0, znl_1, znl_4, ysum_n, ysum_0, ysum_1, ysum_4, true_and, and_true, Nat.reduceAdd, Nat.reduceLeDiff, true_implies, eq_self, true_or, or_true, or_false, false_or, not_true_eq_false, not_false_eq_true, false_implies, implies_true, yset_s, yset_o, yset_d, ne_eq, Nat.reduceEqDiff, Int.reduceToNat, Int.reduceEq, Int.reduceLE, Int.reduceLT, Classical.not_not, Nat.reduceLT, ↓zvk_s, ↓zvk_n, ↓s_126_0, ↓s_126_1, ↓s_126_4, ↓s_126_7, ↓g_126_8, ↓k_126_8, ↓s_126_9, ↓s_126_12, ↓s_126_13, ↓s_126_16, ↓s_126_19, ↓s_126_20, ↓s_126_23, ↓s_126_24, ↓s_126_27, ↓s_126_28, ↓s_126_30, ↓s_126_33, ↓s_126_34, ↓s_126_37, ↓s_126_38, ↓s_126_41, ↓s_126_42, ↓s_126_44, ↓s_126_47, ↓s_126_48a, ↓s_126_48b, ↓s_126_49, ↓s_126_52, ↓s_126_53, ↓s_126_54, ↓s_126_57, ↓g_126_60, ↓k_126_60, ↓s_126_61, ↓s_126_62, ↓s_126_65, ↓s_126_68, ↓s_126_69, ↓s_126_70, ↓s_126_73, ↓s_126_74, ↓s_126_77, ↓s_126_78, ↓s_126_81, ↓s_126_84, ↓s_126_85, ↓s_126_86, ↓s_126_89, ↓s_126_92, ↓s_126_93, ↓s_126_96, ↓s_126_97, ↓s_126_100, ↓s_126_101, ↓s_126_104, ↓s_126_107, ↓s_126_108, ↓s_126_111, ↓s_126_114, ↓s_126_115, ↓s_126_118, ↓s_126_119, ↓s_126_122, ↓s_126_123, ↓s_126_126, ↓s_126_129, ↓s_126_130, ↓s_126_133, ↓s_126_136, ↓s_126_137, ↓s_126_140, w32c_32, zar_1, zia_1, zln_1, zit_1, zio_55]
    exact hQ m2 2 p (sNm ch p (x - p)) x (tr m2 f1) ⟨hB, Or.inr (Or.inr (Or.inl ⟨a3, ⟨a1, a2⟩, f2, rfl, rfl⟩))⟩ f3 f4 f5 (Or.inl ⟨rfl, f6, f7⟩)
  have sg : ¬ (97 ≤ ch p ∧ ch p ≤ 122) → ¬ (48 ≤ ch p ∧ ch p ≤ 57) → p < cen mem → yCon E (d + 1) xm_129 [(1, 55)] (yset (yset m 55 5 (m 55 3)) 55 6 0) (fun v mem' => zgk E (d + 1) xm_126 140 [some (1, 55)] [] v mem' Q) := fun a1 a2 a3 => by
    refine f_readSign (p := p) hE (by omega) (by rw [g2]; exact hs) gB g3 (by rw [gc]; exact a3) (fun m2 f1 f2 f3 f4 => ?_)
    rw [gc] at f2 f4
    refine zgk_n hE xmo_126 60 zc_126 ?_
    simp only [ynok_30, ynok_31, w32c_0, w32c_1, w32c_2, w32c_3, w32c_4, w32c_5, w32c_6, w32c_7, w32c_8, w32c_9, w32c_10, w32c_11, w32c_12, w32c_13, w32c_14, w32c_m1, w32c_m2, w32c_118, Int.reduceAdd, Int.reduceSub, Int.reduceMul, yput_s, yput_n, znl_n, znl_0, znl_1, znl_4, ysum_n, ysum_0, ysum_1, ysum_4, true_and, and_true, Nat.reduceAdd, Nat.reduceLeDiff, true_implies, eq_self, true_or, or_true, or_false, false_or, not_true_eq_false, not_false_eq_true, false_implies, implies_true, yset_s, yset_o, yset_d, ne_eq, Nat.reduceEqDiff, Int.reduceToNat, Int.reduceEq, Int.reduceLE, Int.reduceLT, Classical.not_not, Nat.reduceLT, ↓zvk_s, ↓zvk_n, ↓s_126_0, ↓s_126_1, ↓s_126_4, ↓s_126_7, ↓g_126_8, ↓k_126_8, ↓s_126_9, ↓s_126_12, ↓s_126_13, ↓s_126_16, ↓s_126_19, ↓s_126_20, ↓s_126_23, ↓s_126_24, ↓s_126_27, ↓s_126_28, ↓s_126_30, ↓s_126_33, ↓s_126_34, ↓s_126_37, ↓s_126_38, ↓s_126_41, ↓s_126_42, ↓s_126_44, ↓s_126_47, ↓s_126_48a, ↓s_126_48b, ↓s_126_49, ↓s_126_52, ↓s_126_53, ↓s_126_54, ↓s_126_57, ↓g_126_60, ↓k_126_60, ↓s_126_61, ↓s_126_62, ↓s_126_65, ↓s_126_68, ↓s_126_69, ↓s_126_70, ↓s_126_73, ↓s_126_74, ↓s_126_77, ↓s_126_78, ↓s_126_81, ↓s_126_84, ↓s_126_85, ↓s_126_86, ↓s_126_89, ↓s_126_92, ↓s_126_93, ↓s_126_96, ↓s_126_97, ↓s_126_100, ↓s_126_101, ↓s_126_104, ↓s_126_107, ↓s_126_108, ↓s_126_111, ↓s_126_114, ↓s_126_115, ↓s_126_118, ↓s_126_119, ↓s_126_122, ↓s_126_123, ↓s_126_126, ↓s_126_129, ↓s_126_130, ↓s_126_133, ↓s_126_136, ↓s_126_137, ↓s_126_140, w32c_32, zar_1, zia_1, zln_1, zit_1, zio_55]
    refine hQ m2 _ p 0 (p + (sSg (ch p) (if p + 1 < cen mem then ch (p + 1) else 0)).2) (tr m2 f1) ⟨hB, Or.inr (Or.inr (Or.inr ⟨a3, a1, a2, rfl, rfl, rfl⟩))⟩ (by rw [f2]; exact (Int.natCast_add p _).symm) (by rw [f3]; exact g5) f4 ?_
    rcases sSg_k (ch p) (if p + 1 < cen mem then ch (p + 1) else 0) with h | h
    · exact Or.inr (Or.inr (Or.inr (Or.inl h)))
    · exact Or.inr (Or.inr (Or.inr (Or.inr h)))
  have mid : p < cen mem → ¬ (97 ≤ ch p ∧ ch p ≤ 122) → ((0 ≤ (p : Int) ∧ (p : Int) < ((800 : Nat) : Int)) ∧ (w32 (mem 1 p) < 48 → yCon E (d + 1) xm_129 [(1, 55)] (yset (yset m 55 5 (m 55 3)) 55 6 0) (fun v mem' => zgk E (d + 1) xm_126 140 [some (1, 55)] [] v mem' Q)) ∧ (¬ w32 (mem 1 p) < 48 → (57 < w32 (mem 1 p) → yCon E (d + 1) xm_129 [(1, 55)] (yset (yset m 55 5 (m 55 3)) 55 6 0) (fun v mem' => zgk E (d + 1) xm_126 140 [some (1, 55)] [] v mem' Q)) ∧ (¬ 57 < w32 (mem 1 p) → yCon E (d + 1) xm_128 [(1, 55)] (yset (yset m 55 5 (m 55 3)) 55 6 0) (fun v mem' => zgk E (d + 1) xm_126 133 [some (1, 55)] [] v mem' Q)))) := fun a3 n1 => ⟨⟨by omega, by omega⟩, fun h => sg n1 (by omega) a3, fun h48 => ⟨fun h => sg n1 (by omega) a3, fun h57 => nm (by omega) (by omega) a3⟩⟩
  refine ⟨fun h => ⟨⟨by omega, by omega⟩, fun h97 => mid (by omega) (by omega), fun h97 => ⟨fun h122 => mid (by omega) (by omega), fun h122 => wd (by omega) (by omega) (by omega)⟩⟩, fun h => ?_⟩
  have ep : p = cen mem := by omega
  refine hQ _ 0 p 0 p (aFrm_set F1 rfl) ⟨hB, Or.inl ⟨ep, rfl, rfl, ep⟩⟩ ?_ ?_ ?_ (Or.inr (Or.inr (Or.inl rfl)))
  · rw [yset_d (by decide)]; exact g3
  · rw [yset_d (by decide)]; exact g5
  · rw [yset_s]; decide
theorem cn8 (hE : yEok E) (hd : 2 ≤ d) (hs : w32 (mem 55 2) ≤ 800) (hs0 : 0 ≤ w32 (mem 55 2)) (hB0 : cBy mem ch) (hW : cWd mem) (hQ : ∀ m k p v e, aFrm ctF mem m → sTk ch (cen mem) (cat mem) k p v e → w32 (m 55 3) = (e : Int) → w32 (m 55 5) = (p : Int) → w32 (m 55 4) = (k : Int) → sCk (w32 (m 55 6)) k v → Q none m) : ∀ (c : Nat) (m : yMem) (x : Nat), cen mem - x = c → aFrm ctF mem m → w32 (m 55 3) = (x : Int) → cat mem ≤ x → x ≤ cen mem → (∀ j, cat mem ≤ j → j < x → ch j = 10 ∨ ch j = 32) → zG E (d + 1) xm_126 8 [some (1, 55)] [] m Q := by
  have rr : cen mem = (w32 (mem 55 2)).toNat := rfl
  intro c
  induction c with
  | zero =>
    intro m x hc hF hx h1 h2 hA
    have fin := cn60 hE hd hs hs0 hB0 hW hQ hF hx ⟨h1, h2, hA, fun h => absurd h (by omega)⟩
    refine zgo_ok (n := 60) hE xmo_126 (cs := zc_126) ?_
    have e2 : m 55 2 = mem 55 2 := hF 55 2 rfl
    simp only [ynok_30, ynok_31, w32c_0, w32c_1, w32c_2, w32c_3, w32c_4, w32c_5, w32c_6, w32c_7, w32c_8, w32c_9, w32c_10, w32c_11, w32c_12, w32c_13, w32c_14, w32c_m1, w32c_m2, w32c_118, Int.reduceAdd, Int.reduceSub, Int.reduceMul, yput_s, yput_n, znl_n, znl_0, znl_1, znl_4, ysum_n, ysum_0, ysum_1, ysum_4, true_and, and_true, Nat.reduceAdd, Nat.reduceLeDiff, true_implies, eq_self, true_or, or_true, or_false, false_or, not_true_eq_false, not_false_eq_true, false_implies, implies_true, yset_s, yset_o, yset_d, ne_eq, Nat.reduceEqDiff, Int.reduceToNat, Int.reduceEq, Int.reduceLE, Int.reduceLT, Classical.not_not, Nat.reduceLT, ↓zvk_s, ↓zvk_n, ↓s_126_0, ↓s_126_1, ↓s_126_4, ↓s_126_7, ↓g_126_8, ↓k_126_8, ↓s_126_9, ↓s_126_12, ↓s_126_13, ↓s_126_16, ↓s_126_19, ↓s_126_20, ↓s_126_23, ↓s_126_24, ↓s_126_27, ↓s_126_28, ↓s_126_30, ↓s_126_33, ↓s_126_34, ↓s_126_37, ↓s_126_38, ↓s_126_41, ↓s_126_42, ↓s_126_44, ↓s_126_47, ↓s_126_48a, ↓s_126_48b, ↓s_126_49, ↓s_126_52, ↓s_126_53, ↓s_126_54, ↓s_126_57, ↓g_126_60, ↓k_126_60, ↓s_126_61, ↓s_126_62, ↓s_126_65, ↓s_126_68, ↓s_126_69, ↓s_126_70, ↓s_126_73, ↓s_126_74, ↓s_126_77, ↓s_126_78, ↓s_126_81, ↓s_126_84, ↓s_126_85, ↓s_126_86, ↓s_126_89, ↓s_126_92, ↓s_126_93, ↓s_126_96, ↓s_126_97, ↓s_126_100, ↓s_126_101, ↓s_126_104, ↓s_126_107, ↓s_126_108, ↓s_126_111, ↓s_126_114, ↓s_126_115, ↓s_126_118, ↓s_126_119, ↓s_126_122, ↓s_126_123, ↓s_126_126, ↓s_126_129, ↓s_126_130, ↓s_126_133, ↓s_126_136, ↓s_126_137, ↓s_126_140, w32c_32, zar_1, zia_1, zln_1, zit_1, zio_55]
    rw [e2, hx]
    exact ⟨fun _ => fin, fun h => absurd (show w32 (mem 55 2) ≤ (x : Int) by omega) h⟩
  | succ c ih =>
    intro m x hc hF hx h1 h2 hA
    have e1 : w32 (m 55 3 + 1) = (x : Int) + 1 := by rw [w32_ad (by rw [w32c_1]; omega) (by rw [w32c_1]; omega), w32c_1, hx]
    have hbs := cBy_c hB0 x
    have fin : ¬ (ch x = 10 ∨ ch x = 32) → zG E (d + 1) xm_126 60 [some (1, 55)] [] m Q := fun hn => cn60 hE hd hs hs0 hB0 hW hQ hF hx ⟨h1, h2, hA, fun _ => hn⟩
    have go : (ch x = 10 ∨ ch x = 32) → zG E (d + 1) xm_126 8 [some (1, 55)] [] (yset m 55 3 (m 55 3 + 1)) Q := fun hy => ih _ (x + 1) (by omega) (aFrm_set hF rfl) (by rw [yset_s, e1]; omega) (by omega) (by omega) (fun j j1 j2 => by
      by_cases hj : j = x
      · subst hj; exact hy
      · exact hA j j1 (by omega))
    refine zgo_ok (n := 60) hE xmo_126 (cs := zc_126) ?_
    have e2 : m 55 2 = mem 55 2 := hF 55 2 rfl
    simp only [ynok_30, ynok_31, w32c_0, w32c_1, w32c_2, w32c_3, w32c_4, w32c_5, w32c_6, w32c_7, w32c_8, w32c_9, w32c_10, w32c_11, w32c_12, w32c_13, w32c_14, w32c_m1, w32c_m2, w32c_118, Int.reduceAdd, Int.reduceSub, Int.reduceMul, yput_s, yput_n, znl_n, znl_0, znl_1, znl_4, ysum_n, ysum_0, ysum_1, ysum_4, true_and, and_true, Nat.reduceAdd, Nat.reduceLeDiff, true_implies, eq_self, true_or, or_true, or_false, false_or, not_true_eq_false, not_false_eq_true, false_implies, implies_true, yset_s, yset_o, yset_d, ne_eq, Nat.reduceEqDiff, Int.reduceToNat, Int.reduceEq, Int.reduceLE, Int.reduceLT, Classical.not_not, Nat.reduceLT, ↓zvk_s, ↓zvk_n, ↓s_126_0, ↓s_126_1, ↓s_126_4, ↓s_126_7, ↓g_126_8, ↓k_126_8, ↓s_126_9, ↓s_126_12, ↓s_126_13, ↓s_126_16, ↓s_126_19, ↓s_126_20, ↓s_126_23, ↓s_126_24, ↓s_126_27, ↓s_126_28, ↓s_126_30, ↓s_126_33, ↓s_126_34, ↓s_126_37, ↓s_126_38, ↓s_126_41, ↓s_126_42, ↓s_126_44, ↓s_126_47, ↓s_126_48a, ↓s_126_48b, ↓s_126_49, ↓s_126_52, ↓s_126_53, ↓s_126_54, ↓s_126_57, ↓g_126_60, ↓k_126_60, ↓s_126_61, ↓s_126_62, ↓s_126_65, ↓s_126_68, ↓s_126_69, ↓s_126_70, ↓s_126_73, ↓s_126_74, ↓s_126_77, ↓s_126_78, ↓s_126_81, ↓s_126_84, ↓s_126_85, ↓s_126_86, ↓s_126_89, ↓s_126_92, ↓s_126_93, ↓s_126_96, ↓s_126_97, ↓s_126_100, ↓s_126_101, ↓s_126_104, ↓s_126_107, ↓s_126_108, ↓s_126_111, ↓s_126_114, ↓s_126_115, ↓s_126_118, ↓s_126_119, ↓s_126_122, ↓s_126_123, ↓s_126_126, ↓s_126_129, ↓s_126_130, ↓s_126_133, ↓s_126_136, ↓s_126_137, ↓s_126_140, w32c_32, zar_1, zia_1, zln_1, zit_1, zio_55]
    rw [e2, hx, hF 1 _ rfl, Int.toNat_natCast]
    exact ⟨fun h => absurd h (by omega), fun _ => ⟨⟨by omega, by omega⟩, fun h => go (by omega), fun h10 => ⟨⟨by omega, by omega⟩, fun h => fin (by omega), fun h => go (by omega)⟩⟩⟩
/-- the class's next, with no FAULT so far, and behind one -/
theorem f_next (hE : yEok E) {D : Nat} (hD : 4 ≤ D) (hs : w32 (mem 55 2) ≤ 800) (ha : 0 ≤ w32 (mem 55 3)) (ha2 : w32 (mem 55 3) ≤ w32 (mem 55 2)) (hB0 : cBy mem ch) (hW : cWd mem) (hf : w32 (mem 55 7) = 0) (hQ : ∀ m k p v e, aFrm ctF mem m → sTk ch (cen mem) (cat mem) k p v e → w32 (m 55 3) = (e : Int) → w32 (m 55 5) = (p : Int) → w32 (m 55 4) = (k : Int) → sCk (w32 (m 55 6)) k v → Q none m) : yCon E D xm_126 [(1, 55)] mem Q := by
  obtain ⟨d, rfl⟩ := Nat.exists_eq_add_of_le' hD
  have rr : cen mem = (w32 (mem 55 2)).toNat := rfl
  have ra : cat mem = (w32 (mem 55 3)).toNat := rfl
  refine e_126 ?_
  refine zvc_ok hE 60 zc_126 _ _ _ _ _ _ _ xmo_126 ?_
  simp only [ynok_30, ynok_31, w32c_0, w32c_1, w32c_2, w32c_3, w32c_4, w32c_5, w32c_6, w32c_7, w32c_8, w32c_9, w32c_10, w32c_11, w32c_12, w32c_13, w32c_14, w32c_m1, w32c_m2, w32c_118, Int.reduceAdd, Int.reduceSub, Int.reduceMul, yput_s, yput_n, znl_n, znl_0, znl_1, znl_4, ysum_n, ysum_0, ysum_1, ysum_4, true_and, and_true, Nat.reduceAdd, Nat.reduceLeDiff, true_implies, eq_self, true_or, or_true, or_false, false_or, not_true_eq_false, not_false_eq_true, false_implies, implies_true, yset_s, yset_o, yset_d, ne_eq, Nat.reduceEqDiff, Int.reduceToNat, Int.reduceEq, Int.reduceLE, Int.reduceLT, Classical.not_not, Nat.reduceLT, ↓zvk_s, ↓zvk_n, ↓s_126_0, ↓s_126_1, ↓s_126_4, ↓s_126_7, ↓g_126_8, ↓k_126_8, ↓s_126_9, ↓s_126_12, ↓s_126_13, ↓s_126_16, ↓s_126_19, ↓s_126_20, ↓s_126_23, ↓s_126_24, ↓s_126_27, ↓s_126_28, ↓s_126_30, ↓s_126_33, ↓s_126_34, ↓s_126_37, ↓s_126_38, ↓s_126_41, ↓s_126_42, ↓s_126_44, ↓s_126_47, ↓s_126_48a, ↓s_126_48b, ↓s_126_49, ↓s_126_52, ↓s_126_53, ↓s_126_54, ↓s_126_57, ↓g_126_60, ↓k_126_60, ↓s_126_61, ↓s_126_62, ↓s_126_65, ↓s_126_68, ↓s_126_69, ↓s_126_70, ↓s_126_73, ↓s_126_74, ↓s_126_77, ↓s_126_78, ↓s_126_81, ↓s_126_84, ↓s_126_85, ↓s_126_86, ↓s_126_89, ↓s_126_92, ↓s_126_93, ↓s_126_96, ↓s_126_97, ↓s_126_100, ↓s_126_101, ↓s_126_104, ↓s_126_107, ↓s_126_108, ↓s_126_111, ↓s_126_114, ↓s_126_115, ↓s_126_118, ↓s_126_119, ↓s_126_122, ↓s_126_123, ↓s_126_126, ↓s_126_129, ↓s_126_130, ↓s_126_133, ↓s_126_136, ↓s_126_137, ↓s_126_140, w32c_32, zar_1, zia_1, zln_1, zit_1, zio_55]
  exact ⟨fun _ => cn8 hE (by omega) hs (by omega) hB0 hW hQ _ _ (cat mem) rfl aFrm_rf (by omega) (Nat.le_refl _) (by omega) (fun j j1 j2 => absurd j2 (by omega)), fun h => absurd hf h⟩
theorem f_nextF (hE : yEok E) {D : Nat} (hD : 1 ≤ D) (hf : ¬ w32 (mem 55 7) = 0) (hQ : Q none mem) : yCon E D xm_126 [(1, 55)] mem Q := by
  obtain ⟨d, rfl⟩ := Nat.exists_eq_add_of_le' hD
  refine e_126 ?_
  refine zvc_ok hE 60 zc_126 _ _ _ _ _ _ _ xmo_126 ?_
  simp only [ynok_30, ynok_31, w32c_0, w32c_1, w32c_2, w32c_3, w32c_4, w32c_5, w32c_6, w32c_7, w32c_8, w32c_9, w32c_10, w32c_11, w32c_12, w32c_13, w32c_14, w32c_m1, w32c_m2, w32c_118, Int.reduceAdd, Int.reduceSub, Int.reduceMul, yput_s, yput_n, znl_n, znl_0, znl_1, znl_4, ysum_n, ysum_0, ysum_1, ysum_4, true_and, and_true, Nat.reduceAdd, Nat.reduceLeDiff, true_implies, eq_self, true_or, or_true, or_false, false_or, not_true_eq_false, not_false_eq_true, false_implies, implies_true, yset_s, yset_o, yset_d, ne_eq, Nat.reduceEqDiff, Int.reduceToNat, Int.reduceEq, Int.reduceLE, Int.reduceLT, Classical.not_not, Nat.reduceLT, ↓zvk_s, ↓zvk_n, ↓s_126_0, ↓s_126_1, ↓s_126_4, ↓s_126_7, ↓g_126_8, ↓k_126_8, ↓s_126_9, ↓s_126_12, ↓s_126_13, ↓s_126_16, ↓s_126_19, ↓s_126_20, ↓s_126_23, ↓s_126_24, ↓s_126_27, ↓s_126_28, ↓s_126_30, ↓s_126_33, ↓s_126_34, ↓s_126_37, ↓s_126_38, ↓s_126_41, ↓s_126_42, ↓s_126_44, ↓s_126_47, ↓s_126_48a, ↓s_126_48b, ↓s_126_49, ↓s_126_52, ↓s_126_53, ↓s_126_54, ↓s_126_57, ↓g_126_60, ↓k_126_60, ↓s_126_61, ↓s_126_62, ↓s_126_65, ↓s_126_68, ↓s_126_69, ↓s_126_70, ↓s_126_73, ↓s_126_74, ↓s_126_77, ↓s_126_78, ↓s_126_81, ↓s_126_84, ↓s_126_85, ↓s_126_86, ↓s_126_89, ↓s_126_92, ↓s_126_93, ↓s_126_96, ↓s_126_97, ↓s_126_100, ↓s_126_101, ↓s_126_104, ↓s_126_107, ↓s_126_108, ↓s_126_111, ↓s_126_114, ↓s_126_115, ↓s_126_118, ↓s_126_119, ↓s_126_122, ↓s_126_123, ↓s_126_126, ↓s_126_129, ↓s_126_130, ↓s_126_133, ↓s_126_136, ↓s_126_137, ↓s_126_140, w32c_32, zar_1, zia_1, zln_1, zit_1, zio_55]
  exact ⟨fun h => absurd h hf, fun _ => hQ⟩
end CN
