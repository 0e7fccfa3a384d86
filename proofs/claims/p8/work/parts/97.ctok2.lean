section CW
variable {E : yE} {d : Nat} {mem m : yMem} {Q : Option yV → yMem → Prop} {p : Nat} {ch : Nat → Int}
/-- the words are laid -/
def cWd (mem : yMem) : Prop := ∀ i, i < 23 → w32 (mem 56 i) = sWd.getD i 0
theorem sWi_d {v : Int} : ∀ (l : List Int) (i n : Nat), n < l.length → sWi (l.drop n) v i = if v = l.getD n 0 then i else sWi (l.drop (n + 1)) v (i + 1)
  | [], _, _, h => by simp at h
  | w :: r, i, 0, _ => by simp [sWi]
  | w :: r, i, n + 1, h => by
    have := sWi_d (v := v) r i n (by simpa using h)
    simpa using this
theorem cw91 (hE : yEok E) (hW : cWd mem) (hQ : ∀ m', (∀ i j, ¬ (i = 55 ∧ j = 4) → m' i j = mem i j) → w32 (m' 55 4) = ((sWk (w32 (mem 55 6)) : Nat) : Int) → Q none m') {s : Int} : ∀ (c : Nat) (k : Int) (m : yMem), (23 - w32 k).toNat = c → 0 ≤ w32 k → w32 k ≤ 23 → (∀ i j, ¬ (i = 55 ∧ j = 4) → m i j = mem i j) → ((w32 (m 55 4) = 3 ∧ sWk (w32 (mem 55 6)) = sWi (sWd.drop (w32 k).toNat) (w32 (mem 55 6)) (17 + (w32 k).toNat)) ∨ (¬ w32 (m 55 4) = 3 ∧ w32 (m 55 4) = ((sWk (w32 (mem 55 6)) : Nat) : Int))) → zG E d xm_130 91 [some (1, 55), some (0, s), some (0, k)] [] m Q := by
  have hlen : sWd.length = 23 := rfl
  intro c
  induction c with
  | zero =>
    intro k m hc h0 h1 hF hK
    refine zgo_ok (n := 60) hE xmo_130 (cs := zc_130) ?_
    simp only [ynok_30, ynok_31, w32c_0, w32c_1, w32c_2, w32c_3, w32c_4, w32c_5, w32c_6, w32c_7, w32c_8, w32c_9, w32c_10, w32c_11, w32c_12, w32c_13, w32c_14, w32c_m1, w32c_m2, w32c_118, Int.reduceAdd, Int.reduceSub, Int.reduceMul, yput_s, yput_n, znl_n, znl_0, znl_1, znl_4, ysum_n, ysum_0, ysum_1, ysum_4, true_and, and_true, Nat.reduceAdd, Nat.reduceLeDiff, true_implies, eq_self, true_or, or_true, or_false, false_or, not_true_eq_false, not_false_eq_true, false_implies, implies_true, yset_s, yset_o, yset_d, ne_eq, Nat.reduceEqDiff, Int.reduceToNat, Int.reduceEq, Int.reduceLE, Int.reduceLT, Classical.not_not, Nat.reduceLT, ↓zvk_s, ↓zvk_n, ↓s_130_0, ↓s_130_2n, ↓s_130_2i, ↓s_130_2p, ↓g_130_3, ↓k_130_3, ↓s_130_4, ↓s_130_7, ↓s_130_8, ↓s_130_11, ↓s_130_14, ↓s_130_15, ↓s_130_18, ↓s_130_19, ↓s_130_22, ↓s_130_23, ↓s_130_26, ↓s_130_29, ↓s_130_30, ↓s_130_33, ↓s_130_34a, ↓s_130_34b, ↓s_130_35, ↓s_130_38, ↓s_130_39, ↓s_130_42, ↓s_130_43, ↓s_130_46, ↓s_130_47, ↓s_130_49, ↓s_130_50, ↓s_130_51, ↓s_130_52, ↓s_130_53, ↓s_130_54, ↓s_130_55, ↓s_130_58n, ↓s_130_58i, ↓s_130_58p, ↓s_130_61, ↓s_130_62a, ↓s_130_62b, ↓s_130_63, ↓s_130_66, ↓s_130_67, ↓s_130_68, ↓s_130_71, ↓s_130_74, ↓s_130_75, ↓s_130_76, ↓s_130_78, ↓s_130_81, ↓s_130_82, ↓s_130_85, ↓s_130_86, ↓s_130_89, ↓s_130_90n, ↓s_130_90i, ↓s_130_90p, ↓g_130_91, ↓k_130_91, ↓s_130_92, ↓s_130_94, ↓s_130_97, ↓s_130_98, ↓s_130_101, ↓s_130_102, ↓s_130_105, ↓s_130_106, ↓s_130_109, ↓s_130_110, ↓s_130_111, ↓s_130_112, ↓s_130_115, ↓s_130_118, ↓s_130_119, ↓s_130_121, ↓s_130_122, ↓s_130_123, ↓s_130_126n, ↓s_130_126i, ↓s_130_126p, ↓s_130_129, ↓s_130_132, w32c_25, w32c_97, w32c_23, w32c_17, zar_56, zia_56, zln_56, zit_56, zar_1, zia_1, zln_1, zit_1, zio_55]
    refine ⟨fun _ => hQ m hF ?_, fun h => absurd (show 23 ≤ w32 k by omega) h⟩
    rcases hK with ⟨a, b⟩ | ⟨_, b⟩
    · rw [b, a, show (w32 k).toNat = 23 by omega]
      rfl
    · exact b
  | succ c ih =>
    intro k m hc h0 h1 hF hK
    have e1 : w32 (k + 1) = w32 k + 1 := by rw [w32_ad (by rw [w32c_1]; omega) (by rw [w32c_1]; omega), w32c_1]
    have e17 : w32 (17 + k) = 17 + w32 k := by
      have : w32 17 = 17 := by decide
      rw [w32_ad (by rw [this]; omega) (by rw [this]; omega), this]
    have hw := hW (w32 k).toNat (by omega)
    refine zgo_ok (n := 60) hE xmo_130 (cs := zc_130) ?_
    simp only [ynok_30, ynok_31, w32c_0, w32c_1, w32c_2, w32c_3, w32c_4, w32c_5, w32c_6, w32c_7, w32c_8, w32c_9, w32c_10, w32c_11, w32c_12, w32c_13, w32c_14, w32c_m1, w32c_m2, w32c_118, Int.reduceAdd, Int.reduceSub, Int.reduceMul, yput_s, yput_n, znl_n, znl_0, znl_1, znl_4, ysum_n, ysum_0, ysum_1, ysum_4, true_and, and_true, Nat.reduceAdd, Nat.reduceLeDiff, true_implies, eq_self, true_or, or_true, or_false, false_or, not_true_eq_false, not_false_eq_true, false_implies, implies_true, yset_s, yset_o, yset_d, ne_eq, Nat.reduceEqDiff, Int.reduceToNat, Int.reduceEq, Int.reduceLE, Int.reduceLT, Classical.not_not, Nat.reduceLT, ↓zvk_s, ↓zvk_n, ↓s_130_0, ↓s_130_2n, ↓s_130_2i, ↓s_130_2p, ↓g_130_3, ↓k_130_3, ↓s_130_4, ↓s_130_7, ↓s_130_8, ↓s_130_11, ↓s_130_14, ↓s_130_15, ↓s_130_18, ↓s_130_19, ↓s_130_22, ↓s_130_23, ↓s_130_26, ↓s_130_29, ↓s_130_30, ↓s_130_33, ↓s_130_34a, ↓s_130_34b, ↓s_130_35, ↓s_130_38, ↓s_130_39, ↓s_130_42, ↓s_130_43, ↓s_130_46, ↓s_130_47, ↓s_130_49, ↓s_130_50, ↓s_130_51, ↓s_130_52, ↓s_130_53, ↓s_130_54, ↓s_130_55, ↓s_130_58n, ↓s_130_58i, ↓s_130_58p, ↓s_130_61, ↓s_130_62a, ↓s_130_62b, ↓s_130_63, ↓s_130_66, ↓s_130_67, ↓s_130_68, ↓s_130_71, ↓s_130_74, ↓s_130_75, ↓s_130_76, ↓s_130_78, ↓s_130_81, ↓s_130_82, ↓s_130_85, ↓s_130_86, ↓s_130_89, ↓s_130_90n, ↓s_130_90i, ↓s_130_90p, ↓g_130_91, ↓k_130_91, ↓s_130_92, ↓s_130_94, ↓s_130_97, ↓s_130_98, ↓s_130_101, ↓s_130_102, ↓s_130_105, ↓s_130_106, ↓s_130_109, ↓s_130_110, ↓s_130_111, ↓s_130_112, ↓s_130_115, ↓s_130_118, ↓s_130_119, ↓s_130_121, ↓s_130_122, ↓s_130_123, ↓s_130_126n, ↓s_130_126i, ↓s_130_126p, ↓s_130_129, ↓s_130_132, w32c_25, w32c_97, w32c_23, w32c_17, zar_56, zia_56, zln_56, zit_56, zar_1, zia_1, zln_1, zit_1, zio_55]
    rw [hF 56 _ (by omega), hF 55 6 (by omega), hw]
    refine ⟨fun h => absurd h (by omega), fun _ => ⟨fun hne => hQ m hF ?_, fun h3 => ⟨⟨by omega, by omega⟩, fun hne => ih (k + 1) m (by omega) (by omega) (by omega) hF ?_, fun heq => ih (k + 1) _ (by omega) (by omega) (by omega) (fun i j hij => ?_) (Or.inr ⟨?_, ?_⟩)⟩⟩⟩
    · rcases hK with ⟨a, _⟩ | ⟨_, b⟩
      · exact absurd a hne
      · exact b
    · rcases hK with ⟨a, b⟩ | ⟨a, _⟩
      · refine Or.inl ⟨a, ?_⟩
        rw [b, sWi_d sWd _ (w32 k).toNat (by rw [hlen]; omega), if_neg (fun z => hne z.symm), show (w32 (k + 1)).toNat = (w32 k).toNat + 1 by omega]
        rfl
      · exact absurd h3 a
    · rw [yset_a]
      split
      · next e =>
        rw [if_neg (fun z => hij ⟨e, z⟩)]
        exact hF i j hij
      · exact hF i j hij
    · rw [yset_s, e17]; omega
    · rcases hK with ⟨_, b⟩ | ⟨a, _⟩
      · rw [yset_s, e17, b, sWi_d sWd _ (w32 k).toNat (by rw [hlen]; omega), if_pos heq.symm]
        omega
      · exact absurd h3 a
theorem cw3 (hE : yEok E) (hs : w32 (mem 55 2) ≤ 800) (hB0 : cBy mem ch) (hW : cWd mem) (hQ : ∀ m x, aFrm ctF mem m → sRn ch 97 122 (cen mem) p x → w32 (m 55 3) = (x : Int) → w32 (m 55 5) = (p : Int) → ((p + 6 < x ∧ w32 (m 55 4) = 1) ∨ (x ≤ p + 6 ∧ w32 (m 55 4) = ((sWk (sPk ch p x) : Nat) : Int) ∧ w32 (m 55 6) = sPk ch p x)) → Q none m) : ∀ (c : Nat) (m : yMem) (x : Nat) (s : Int) (r2 : Option yV), cen mem - x = c → aFrm ctF mem m → w32 (m 55 5) = (p : Int) → w32 (m 55 3) = (x : Int) → p ≤ x → x ≤ cen mem → (∀ j, p ≤ j → j < x → 97 ≤ ch j ∧ ch j ≤ 122) → w32 s = 25 - 5 * ((x : Int) - (p : Int)) → (x ≤ p + 6 → w32 (m 55 6) = sPk ch p x) → zG E (d + 1) xm_130 3 [some (1, 55), some (0, s), r2] [] m Q := by
  have rr : cen mem = (w32 (mem 55 2)).toNat := rfl
  have fin : ∀ (m : yMem) (x : Nat) (s : Int) (r2 : Option yV), aFrm ctF mem m → w32 (m 55 5) = (p : Int) → w32 (m 55 3) = (x : Int) → sRn ch 97 122 (cen mem) p x → (x ≤ p + 6 → w32 (m 55 6) = sPk ch p x) → ∀ k : Int, ((w32 k = 3 ∧ x ≤ p + 6) ∨ (w32 k = 1 ∧ p + 6 < x)) → zG E (d + 1) xm_130 91 [some (1, 55), some (0, s), some (0, 0)] [] (yset m 55 4 k) Q := fun m x s r2 hF h5 hx hR hv k hk => by
    have F1 : aFrm ctF mem (yset m 55 4 k) := aFrm_set hF rfl
    have hW1 : cWd (yset m 55 4 k) := fun i hi => by rw [yset_o (by decide), hF 56 i rfl]; exact hW i hi
    rcases hk with ⟨k3, h6⟩ | ⟨k1, h6⟩
    · have e6 : w32 (yset m 55 4 k 55 6) = sPk ch p x := by rw [yset_d (by decide)]; exact hv h6
      refine cw91 (mem := yset m 55 4 k) hE hW1 (fun m' g1 g2 => hQ m' x (fun i j hij => ?_) hR ?_ ?_ (Or.inr ⟨h6, ?_, ?_⟩)) _ _ _ rfl (by decide) (by decide) (fun _ _ _ => rfl) (Or.inl ⟨by rw [yset_s]; exact k3, rfl⟩)
      · rw [g1 i j (fun z => by obtain ⟨rfl, rfl⟩ := z; exact absurd hij (by decide)), F1 i j hij]
      · rw [g1 55 3 (by decide), yset_d (by decide)]; exact hx
      · rw [g1 55 5 (by decide), yset_d (by decide)]; exact h5
      · rw [g2, e6]
      · rw [g1 55 6 (by decide), e6]
    · refine zgo_ok (n := 60) hE xmo_130 (cs := zc_130) ?_
      simp only [ynok_30, ynok_31, w32c_0, w32c_1, w32c_2, w32c_3, w32c_4, w32c_5, w32c_6, w32c_7, w32c_8, w32c_9, w32c_10, w32c_11, w32c_12, w32c_13, w32c_14, w32c_m1, w32c_m2, w32c_118, Int.reduceAdd, Int.reduceSub, Int.reduceMul, yput_s, yput_n, znl_n, znl_0, znl_1, znl_4, ysum_n, ysum_0, ysum_1, ysum_4, true_and, and_true, Nat.reduceAdd, Nat.reduceLeDiff, true_implies, eq_self, true_or, or_true, or_false, false_or, not_true_eq_false, not_false_eq_true, false_implies, implies_true, yset_s, yset_o, yset_d, ne_eq, Nat.reduceEqDiff, Int.reduceToNat, Int.reduceEq, Int.reduceLE, Int.reduceLT, Classical.not_not, Nat.reduceLT, ↓zvk_s, ↓zvk_n, ↓s_130_0, ↓s_130_2n, ↓s_130_2i, ↓s_130_2p, ↓g_130_3, ↓k_130_3, ↓s_130_4, ↓s_130_7, ↓s_130_8, ↓s_130_11, ↓s_130_14, ↓s_130_15, ↓s_130_18, ↓s_130_19, ↓s_130_22, ↓s_130_23, ↓s_130_26, ↓s_130_29, ↓s_130_30, ↓s_130_33, ↓s_130_34a, ↓s_130_34b, ↓s_130_35, ↓s_130_38, ↓s_130_39, ↓s_130_42, ↓s_130_43, ↓s_130_46, ↓s_130_47, ↓s_130_49, ↓s_130_50, ↓s_130_51, ↓s_130_52, ↓s_130_53, ↓s_130_54, ↓s_130_55, ↓s_130_58n, ↓s_130_58i, ↓s_130_58p, ↓s_130_61, ↓s_130_62a, ↓s_130_62b, ↓s_130_63, ↓s_130_66, ↓s_130_67, ↓s_130_68, ↓s_130_71, ↓s_130_74, ↓s_130_75, ↓s_130_76, ↓s_130_78, ↓s_130_81, ↓s_130_82, ↓s_130_85, ↓s_130_86, ↓s_130_89, ↓s_130_90n, ↓s_130_90i, ↓s_130_90p, ↓g_130_91, ↓k_130_91, ↓s_130_92, ↓s_130_94, ↓s_130_97, ↓s_130_98, ↓s_130_101, ↓s_130_102, ↓s_130_105, ↓s_130_106, ↓s_130_109, ↓s_130_110, ↓s_130_111, ↓s_130_112, ↓s_130_115, ↓s_130_118, ↓s_130_119, ↓s_130_121, ↓s_130_122, ↓s_130_123, ↓s_130_126n, ↓s_130_126i, ↓s_130_126p, ↓s_130_129, ↓s_130_132, w32c_25, w32c_97, w32c_23, w32c_17, zar_56, zia_56, zln_56, zit_56, zar_1, zia_1, zln_1, zit_1, zio_55]
      refine ⟨fun _ => ?_, fun hne => absurd k1 (by omega)⟩
      refine hQ _ x F1 hR ?_ ?_ (Or.inl ⟨h6, ?_⟩)
      · rw [yset_d (by decide)]; exact hx
      · rw [yset_d (by decide)]; exact h5
      · rw [yset_s]; exact k1
  have e5 : w32 (-5) = -5 := by decide
  intro c
  induction c with
  | zero =>
    intro m x s r2 hc hF h5 hx h1 h2 hA hsh hv
    have ff := fin m x s r2 hF h5 hx ⟨h1, h2, hA, fun h => absurd h (by omega)⟩ hv
    refine zgo_ok (n := 60) hE xmo_130 (cs := zc_130) ?_
    have e2 : m 55 2 = mem 55 2 := hF 55 2 rfl
    simp only [ynok_30, ynok_31, w32c_0, w32c_1, w32c_2, w32c_3, w32c_4, w32c_5, w32c_6, w32c_7, w32c_8, w32c_9, w32c_10, w32c_11, w32c_12, w32c_13, w32c_14, w32c_m1, w32c_m2, w32c_118, Int.reduceAdd, Int.reduceSub, Int.reduceMul, yput_s, yput_n, znl_n, znl_0, znl_1, znl_4, ysum_n, ysum_0, ysum_1, ysum_4, true_and, and_true, Nat.reduceAdd, Nat.reduceLeDiff, true_implies, eq_self, true_or, or_true, or_false, false_or, not_true_eq_false, not_false_eq_true, false_implies, implies_true, yset_s, yset_o, yset_d, ne_eq, Nat.reduceEqDiff, Int.reduceToNat, Int.reduceEq, Int.reduceLE, Int.reduceLT, Classical.not_not, Nat.reduceLT, ↓zvk_s, ↓zvk_n, ↓s_130_0, ↓s_130_2n, ↓s_130_2i, ↓s_130_2p, ↓s_130_2j, ↓g_130_3, ↓k_130_3, ↓s_130_4, ↓s_130_7, ↓s_130_8, ↓s_130_11, ↓s_130_14, ↓s_130_15, ↓s_130_18, ↓s_130_19, ↓s_130_22, ↓s_130_23, ↓s_130_26, ↓s_130_29, ↓s_130_30, ↓s_130_33, ↓s_130_34a, ↓s_130_34b, ↓s_130_35, ↓s_130_38, ↓s_130_39, ↓s_130_42, ↓s_130_43, ↓s_130_46, ↓s_130_47, ↓s_130_49, ↓s_130_50, ↓s_130_51, ↓s_130_52, ↓s_130_53, ↓s_130_54, ↓s_130_55, ↓s_130_58n, ↓s_130_58i, ↓s_130_58p, ↓s_130_58j, ↓s_130_61, ↓s_130_62a, ↓s_130_62b, ↓s_130_63, ↓s_130_66, ↓s_130_67, ↓s_130_68, ↓s_130_71, ↓s_130_74, ↓s_130_75, ↓s_130_76, ↓s_130_78, ↓s_130_81, ↓s_130_82, ↓s_130_85, ↓s_130_86, ↓s_130_89, ↓s_130_90n, ↓s_130_90i, ↓s_130_90p, ↓s_130_90j, ↓g_130_91, ↓k_130_91, ↓s_130_92, ↓s_130_94, ↓s_130_97, ↓s_130_98, ↓s_130_101, ↓s_130_102, ↓s_130_105, ↓s_130_106, ↓s_130_109, ↓s_130_110, ↓s_130_111, ↓s_130_112, ↓s_130_115, ↓s_130_118, ↓s_130_119, ↓s_130_121, ↓s_130_122, ↓s_130_123, ↓s_130_126n, ↓s_130_126i, ↓s_130_126p, ↓s_130_126j, ↓s_130_129, ↓s_130_132, w32c_25, w32c_97, w32c_23, w32c_17, ↓s_125_0, ↓s_125_1, ↓s_125_3, ↓s_125_6, ↓s_125_7, ↓s_125_9, ↓s_125_12, ↓s_125_13, ↓s_125_16, ↓s_125_17, w32c_122, zar_56, zia_56, zln_56, zit_56, zar_1, zia_1, zln_1, zit_1, zio_55]
    rw [e2, hx, e5]
    refine ⟨fun _ => ⟨fun _ => ff 1 (Or.inr ⟨by decide, by omega⟩), fun _ => ff 3 (Or.inl ⟨by decide, by omega⟩)⟩, fun h => absurd (show w32 (mem 55 2) ≤ (x : Int) by omega) h⟩
  | succ c ih =>
    intro m x s r2 hc hF h5 hx h1 h2 hA hsh hv
    have e2 : m 55 2 = mem 55 2 := hF 55 2 rfl
    have e1 : w32 (m 55 3 + 1) = (x : Int) + 1 := by rw [w32_ad (by rw [w32c_1]; omega) (by rw [w32c_1]; omega), w32c_1, hx]
    have es : w32 (s + -5) = w32 s - 5 := by rw [w32_ad (by rw [e5]; omega) (by rw [e5]; omega), e5]; omega
    have hbs := cBy_c hB0 x
    have ff : ¬ (97 ≤ ch x ∧ ch x ≤ 122) → ∀ k : Int, ((w32 k = 3 ∧ x ≤ p + 6) ∨ (w32 k = 1 ∧ p + 6 < x)) → zG E (d + 1) xm_130 91 [some (1, 55), some (0, s), some (0, 0)] [] (yset m 55 4 k) Q := fun hn => fin m x s r2 hF h5 hx ⟨h1, h2, hA, fun _ => hn⟩ hv
    have hA' : 97 ≤ ch x → ch x ≤ 122 → ∀ j, p ≤ j → j < x + 1 → 97 ≤ ch j ∧ ch j ≤ 122 := fun g1 g2 j j1 j2 => by
      by_cases hj : j = x
      · subst hj; exact ⟨g1, g2⟩
      · exact hA j j1 (by omega)
    refine zgo_ok (n := 60) hE xmo_130 (cs := zc_130) ?_
    simp only [ynok_30, ynok_31, w32c_0, w32c_1, w32c_2, w32c_3, w32c_4, w32c_5, w32c_6, w32c_7, w32c_8, w32c_9, w32c_10, w32c_11, w32c_12, w32c_13, w32c_14, w32c_m1, w32c_m2, w32c_118, Int.reduceAdd, Int.reduceSub, Int.reduceMul, yput_s, yput_n, znl_n, znl_0, znl_1, znl_4, ysum_n, ysum_0, ysum_1, ysum_4, true_and, and_true, Nat.reduceAdd, Nat.reduceLeDiff, true_implies, eq_self, true_or, or_true, or_false, false_or, not_true_eq_false, not_false_eq_true, false_implies, implies_true, yset_s, yset_o, yset_d, ne_eq, Nat.reduceEqDiff, Int.reduceToNat, Int.reduceEq, Int.reduceLE, Int.reduceLT, Classical.not_not, Nat.reduceLT, ↓zvk_s, ↓zvk_n, ↓s_130_0, ↓s_130_2n, ↓s_130_2i, ↓s_130_2p, ↓s_130_2j, ↓g_130_3, ↓k_130_3, ↓s_130_4, ↓s_130_7, ↓s_130_8, ↓s_130_11, ↓s_130_14, ↓s_130_15, ↓s_130_18, ↓s_130_19, ↓s_130_22, ↓s_130_23, ↓s_130_26, ↓s_130_29, ↓s_130_30, ↓s_130_33, ↓s_130_34a, ↓s_130_34b, ↓s_130_35, ↓s_130_38, ↓s_130_39, ↓s_130_42, ↓s_130_43, ↓s_130_46, ↓s_130_47, ↓s_130_49, ↓s_130_50, ↓s_130_51, ↓s_130_52, ↓s_130_53, ↓s_130_54, ↓s_130_55, ↓s_130_58n, ↓s_130_58i, ↓s_130_58p, ↓s_130_58j, ↓s_130_61, ↓s_130_62a, ↓s_130_62b, ↓s_130_63, ↓s_130_66, ↓s_130_67, ↓s_130_68, ↓s_130_71, ↓s_130_74, ↓s_130_75, ↓s_130_76, ↓s_130_78, ↓s_130_81, ↓s_130_82, ↓s_130_85, ↓s_130_86, ↓s_130_89, ↓s_130_90n, ↓s_130_90i, ↓s_130_90p, ↓s_130_90j, ↓g_130_91, ↓k_130_91, ↓s_130_92, ↓s_130_94, ↓s_130_97, ↓s_130_98, ↓s_130_101, ↓s_130_102, ↓s_130_105, ↓s_130_106, ↓s_130_109, ↓s_130_110, ↓s_130_111, ↓s_130_112, ↓s_130_115, ↓s_130_118, ↓s_130_119, ↓s_130_121, ↓s_130_122, ↓s_130_123, ↓s_130_126n, ↓s_130_126i, ↓s_130_126p, ↓s_130_126j, ↓s_130_129, ↓s_130_132, w32c_25, w32c_97, w32c_23, w32c_17, ↓s_125_0, ↓s_125_1, ↓s_125_3, ↓s_125_6, ↓s_125_7, ↓s_125_9, ↓s_125_12, ↓s_125_13, ↓s_125_16, ↓s_125_17, w32c_122, zar_56, zia_56, zln_56, zit_56, zar_1, zia_1, zln_1, zit_1, zio_55]
    rw [e2, hx, hF 1 _ rfl, Int.toNat_natCast, e5]
    have last : ¬ (97 ≤ ch x ∧ ch x ≤ 122) → ((w32 s < -5 → zG E (d + 1) xm_130 91 [some (1, 55), some (0, s), some (0, 0)] [] (yset m 55 4 1) Q) ∧ (¬ w32 s < -5 → zG E (d + 1) xm_130 91 [some (1, 55), some (0, s), some (0, 0)] [] (yset m 55 4 3) Q)) := fun hn => ⟨fun h => ff hn 1 (Or.inr ⟨by decide, by omega⟩), fun h => ff hn 3 (Or.inl ⟨by decide, by omega⟩)⟩
    refine ⟨fun h => absurd h (by omega), fun _ => ⟨⟨by omega, by omega⟩, fun h => last (by omega), fun h97 => ⟨fun h => last (by omega), fun h122 => ⟨fun hneg => ?_, fun hpos => ⟨⟨by omega, by omega⟩, ?_⟩⟩⟩⟩⟩
    · exact ih _ (x + 1) (s + -5) r2 (by omega) (aFrm_set hF rfl) (by rw [yset_d (by decide)]; exact h5) (by rw [yset_s, e1]; omega) (by omega) (by omega) (hA' (by omega) (by omega)) (by rw [es]; omega) (fun h => by omega)
    · have hx5 : x - p < 6 := by omega
      obtain ⟨a, q1, q2, q3, q4⟩ := cPv_s (ch := ch) (p := p) (c := x - p) (fun j j1 j2 => hA' (by omega) (by omega) j j1 (by omega)) hx5
      have t1 : cPv ch p (x - p) = sPk ch p x := by
        unfold cPv sPk
        rw [show p + (x - p) = x by omega]
      have t2 : cPv ch p (x - p + 1) = sPk ch p (x + 1) := by
        unfold cPv sPk
        rw [show p + (x - p + 1) = x + 1 by omega]
      rw [show p + (x - p) = x by omega] at q2 q3 q4
      have e97 : w32 97 = 97 := by decide
      have y1 : w32 (mem 1 x - 97) = ch x - 97 := by rw [w32_sb (by rw [e97]; omega) (by rw [e97]; omega), e97]; omega
      have y2 : w32 (mem 1 x - 97 + 1) = (((ch x - 96).toNat : Nat) : Int) := by rw [w32_ad (by rw [y1, w32c_1]; omega) (by rw [y1, w32c_1]; omega), y1, w32c_1]; omega
      have eb := yb_shl (x := mem 1 x - 97 + 1) (y := s) (a := (ch x - 96).toNat) (s := 25 - 5 * (x - p)) y2 (by rw [hsh]; omega) (by omega) (by omega)
      have ev := yb_or (x := m 55 6) (y := ybin 6 (mem 1 x - 97 + 1) s) (a := a) (b := (ch x - 96).toNat * 2 ^ (25 - 5 * (x - p))) (k := 30 - 5 * (x - p)) (by rw [hv (by omega), ← t1, q1]) eb q4 (by omega)
      exact ih _ (x + 1) (s + -5) r2 (by omega) (aFrm_set (aFrm_set hF rfl) rfl) (by rw [yset_d (by decide), yset_d (by decide)]; exact h5) (by rw [yset_s, e1]; omega) (by omega) (by omega) (hA' (by omega) (by omega)) (by rw [es]; omega) (fun h => by rw [yset_d (by decide), yset_s, ev, ← t2, q2])
theorem f_readWord (hE : yEok E) {D : Nat} (hD : 2 ≤ D) (hs : w32 (mem 55 2) ≤ 800) (hB0 : cBy mem ch) (hW : cWd mem) (h5 : w32 (mem 55 5) = (p : Int)) (h3 : w32 (mem 55 3) = (p : Int)) (hp : p < cen mem) (h6 : w32 (mem 55 6) = 0) (hQ : ∀ m x, aFrm ctF mem m → sRn ch 97 122 (cen mem) p x → w32 (m 55 3) = (x : Int) → w32 (m 55 5) = (p : Int) → ((p + 6 < x ∧ w32 (m 55 4) = 1) ∨ (x ≤ p + 6 ∧ w32 (m 55 4) = ((sWk (sPk ch p x) : Nat) : Int) ∧ w32 (m 55 6) = sPk ch p x)) → Q none m) : yCon E D xm_130 [(1, 55)] mem Q := by
  obtain ⟨d, rfl⟩ := Nat.exists_eq_add_of_le' hD
  refine e_130 ?_
  refine zvc_ok hE 60 zc_130 _ _ _ _ _ _ _ xmo_130 ?_
  simp only [ynok_30, ynok_31, w32c_0, w32c_1, w32c_2, w32c_3, w32c_4, w32c_5, w32c_6, w32c_7, w32c_8, w32c_9, w32c_10, w32c_11, w32c_12, w32c_13, w32c_14, w32c_m1, w32c_m2, w32c_118, Int.reduceAdd, Int.reduceSub, Int.reduceMul, yput_s, yput_n, znl_n, znl_0, znl_1, znl_4, ysum_n, ysum_0, ysum_1, ysum_4, true_and, and_true, Nat.reduceAdd, Nat.reduceLeDiff, true_implies, eq_self, true_or, or_true, or_false, false_or, not_true_eq_false, not_false_eq_true, false_implies, implies_true, yset_s, yset_o, yset_d, ne_eq, Nat.reduceEqDiff, Int.reduceToNat, Int.reduceEq, Int.reduceLE, Int.reduceLT, Classical.not_not, Nat.reduceLT, ↓zvk_s, ↓zvk_n, ↓s_130_0, ↓s_130_2n, ↓s_130_2i, ↓s_130_2p, ↓g_130_3, ↓k_130_3, ↓s_130_4, ↓s_130_7, ↓s_130_8, ↓s_130_11, ↓s_130_14, ↓s_130_15, ↓s_130_18, ↓s_130_19, ↓s_130_22, ↓s_130_23, ↓s_130_26, ↓s_130_29, ↓s_130_30, ↓s_130_33, ↓s_130_34a, ↓s_130_34b, ↓s_130_35, ↓s_130_38, ↓s_130_39, ↓s_130_42, ↓s_130_43, ↓s_130_46, ↓s_130_47, ↓s_130_49, ↓s_130_50, ↓s_130_51, ↓s_130_52, ↓s_130_53, ↓s_130_54, ↓s_130_55, ↓s_130_58n, ↓s_130_58i, ↓s_130_58p, ↓s_130_61, ↓s_130_62a, ↓s_130_62b, ↓s_130_63, ↓s_130_66, ↓s_130_67, ↓s_130_68, ↓s_130_71, ↓s_130_74, ↓s_130_75, ↓s_130_76, ↓s_130_78, ↓s_130_81, ↓s_130_82, ↓s_130_85, ↓s_130_86, ↓s_130_89, ↓s_130_90n, ↓s_130_90i, ↓s_130_90p, ↓g_130_91, ↓k_130_91, ↓s_130_92, ↓s_130_94, ↓s_130_97, ↓s_130_98, ↓s_130_101, ↓s_130_102, ↓s_130_105, ↓s_130_106, ↓s_130_109, ↓s_130_110, ↓s_130_111, ↓s_130_112, ↓s_130_115, ↓s_130_118, ↓s_130_119, ↓s_130_121, ↓s_130_122, ↓s_130_123, ↓s_130_126n, ↓s_130_126i, ↓s_130_126p, ↓s_130_129, ↓s_130_132, w32c_25, w32c_97, w32c_23, w32c_17, zar_56, zia_56, zln_56, zit_56, zar_1, zia_1, zln_1, zit_1, zio_55]
  have hz : sPk ch p p = 0 := by
    unfold sPk
    have : ∀ n, zix (sLt ch p p) 32 n = 0 := fun n => by
      induction n with
      | zero => rfl
      | succ n ih =>
        simp only [zix]
        rw [ih]
        unfold sLt
        rw [if_neg (by omega), w32c_0]
        rfl
    exact this 6
  exact cw3 hE hs hB0 hW hQ _ _ p _ _ rfl aFrm_rf h5 h3 (Nat.le_refl _) (by omega) (fun j j1 j2 => absurd j2 (by omega)) (by rw [show w32 25 = 25 by decide]; omega) (fun _ => by rw [h6, hz])
theorem f_readNumber (hE : yEok E) {D : Nat} (hD : 2 ≤ D) (hs : w32 (mem 55 2) ≤ 800) (hB0 : cBy mem ch) (h5 : w32 (mem 55 5) = (p : Int)) (h3 : w32 (mem 55 3) = (p : Int)) (hp : p < cen mem) (h6 : w32 (mem 55 6) = 0) (hQ : ∀ m x, aFrm ctF mem m → sRn ch 48 57 (cen mem) p x → w32 (m 55 3) = (x : Int) → w32 (m 55 5) = (p : Int) → w32 (m 55 4) = 2 → 0 ≤ w32 (m 55 6) → min (w32 (m 55 6)) 100000 = sNm ch p (x - p) → Q none m) : yCon E D xm_128 [(1, 55)] mem Q := by
  obtain ⟨d, rfl⟩ := Nat.exists_eq_add_of_le' hD
  refine e_128 ?_
  exact cf_num hE hs hB0 hQ _ _ p rfl aFrm_rf h5 h3 (Nat.le_refl _) (by omega) (fun j j1 j2 => absurd j2 (by omega)) (by omega) (by omega) (by rw [h6, Nat.sub_self]; rfl)
theorem f_signKind (hE : yEok E) {D : Nat} (hD : 1 ≤ D) {x y c b : Int} (hx : (c < 128 ∧ w32 x = c) ∨ (128 ≤ c ∧ w32 x = c - 256)) (hy : (b < 128 ∧ w32 y = b) ∨ (128 ≤ b ∧ w32 y = b - 256)) (hc : 0 ≤ c ∧ c ≤ 255) (hb : 0 ≤ b ∧ b ≤ 255) (hQ : ∀ r, w32 r = (((sSg c b).1 : Nat) : Int) → Q (some (0, r)) mem) : yCon E D xm_131 [(0, x), (0, y)] mem Q := by
  obtain ⟨d, rfl⟩ := Nat.exists_eq_add_of_le' hD
  refine e_131 ?_
  refine zvc_ok hE 60 [] _ _ _ _ _ _ _ xmo_131 ?_
  simp only [ynok_30, ynok_31, w32c_0, w32c_1, w32c_2, w32c_3, w32c_4, w32c_5, w32c_6, w32c_7, w32c_8, w32c_9, w32c_10, w32c_11, w32c_12, w32c_13, w32c_14, w32c_m1, w32c_m2, w32c_118, Int.reduceAdd, Int.reduceSub, Int.reduceMul, yput_s, yput_n, znl_n, znl_0, znl_1, znl_4, ysum_n, ysum_0, ysum_1, ysum_4, true_and, and_true, Nat.reduceAdd, Nat.reduceLeDiff, true_implies, eq_self, true_or, or_true, or_false, false_or, not_true_eq_false, not_false_eq_true, false_implies, implies_true, yset_s, yset_o, yset_d, ne_eq, Nat.reduceEqDiff, Int.reduceToNat, Int.reduceEq, Int.reduceLE, Int.reduceLT, Classical.not_not, Nat.reduceLT, ↓zvk_s, ↓zvk_n, ↓s_131_0, ↓s_131_1, ↓s_131_108, ↓s_131_109, ↓s_131_110, ↓s_131_111, ↓s_131_112, ↓s_131_114, ↓s_131_115, ↓s_131_116, ↓s_131_118, ↓s_131_121, ↓s_131_123, ↓s_131_126, ↓s_131_127, ↓s_131_129, ↓s_131_132, ↓s_131_134, ↓s_131_137, ↓s_131_139, ↓s_131_140, ↓s_131_142, ↓s_131_143, ↓s_131_144, ↓s_131_146, ↓s_131_149, ↓s_131_151, ↓s_131_154, ↓s_131_156, ↓s_131_157, ↓s_131_159, ↓s_131_160, ↓s_131_162, ↓s_131_163, ↓s_131_165, ↓s_131_166, ↓s_131_168, ↓s_131_169, ↓s_131_170, w32c_61, w32c_62, w32c_15, w32c_16]
  repeat' first | (refine hQ _ ?_; unfold sSg; (repeat first | rw [if_pos (by omega)] | rw [if_neg (by omega)]); decide) | refine And.intro ?_ ?_ | intro _
end CW
