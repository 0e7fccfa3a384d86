section
section CW
variable {E : yE} {d : Nat} {mem m : yMem} {Q : Option yV → yMem → Prop} {p : Nat} {ch : Nat → Int}
/-- the words are laid -/
def cWd (mem : yMem) : Prop := ∀ i, i < 23 → w32 (mem 56 i) = sWd.getD i 0
theorem sWi_d {v : Int} : ∀ (l : List Int) (i n : Nat), n < l.length → sWi (l.drop n) v i = if v = l.getD n 0 then i else sWi (l.drop (n + 1)) v (i + 1)
  | [], _, _, h => by simp at h
  | w :: r, i, 0, _ => by simp [sWi]
  | w :: r, i, n + 1, h => by
    have := sWi_d (v := v) r i n (by simpa using h)
    simpa using this
theorem cw91 (hE : yEok E) (hW : cWd mem) (hQ : ∀ m', (∀ i j, ¬ (i = 55 ∧ j = 4) → m' i j = mem i j) → w32 (m' 55 4) = ((sWk (w32 (mem 55 6)) : Nat) : Int) → Q none m') {s : Int} : ∀ (c : Nat) (k : Int) (m : yMem), (23 - w32 k).toNat = c → 0 ≤ w32 k → w32 k ≤ 23 → (∀ i j, ¬ (i = 55 ∧ j = 4) → m i j = mem i j) → ((w32 (m 55 4) = 3 ∧ sWk (w32 (mem 55 6)) = sWi (sWd.drop (w32 k).toNat) (w32 (mem 55 6)) (17 + (w32 k).toNat)) ∨ (¬ w32 (m 55 4) = 3 ∧ w32 (m 55 4) = ((sWk (w32 (mem 55 6)) : Nat) : Int))) → zG E d xm_130 91 [some (1, 55), some (0, s), some (0, k)] [] m Q := by
  have hlen : sWd.length = 23 := rfl
  intro c
  induction c with
  | zero =>
    intro k m hc h0 h1 hF hK
    refine zgo_ok (n := 60) hE xmo_130 (cs := zc_130) ?_
    simp only [ynok_30, ynok_31, w32c_0, w32c_1, w32c_2, w32c_3, w32c_4, w32c_5, w32c_6, w32c_7, w32c_8, w32c_9, w32c_10, w32c_11, w32c_12, w32c_13, w32c_14, w32c_m1, w32c_m2, w32c_118, Int.reduceAdd, Int.reduceSub, Int.reduceMul, yput_s, yput_n, znl_n, znl_0, znl_1, znl_4, ysum_n, ysum_0, ysum_1, ysum_4, true_and, and_true, Nat.reduceAdd, Nat.reduceLeDiff, true_implies, eq_self, true_or, or_true, or_false, false_or, not_true_eq_false, not_false_eq_true, false_implies, implies_true, yset_s, yset_o, yset_d, ne_eq, Nat.reduceEqDiff, Int.reduceToNat, Int.reduceEq, Int.reduceLE, Int.reduceLT, Classical.not_not, Nat.reduceLT, ↓zvk_s, ↓zvk_n, ↓s_130_0, ↓s_130_2n, ↓s_130_2i, ↓s_130_2p, ↓g_130_3, ↓k_130_3, ↓s_130_4, ↓s_130_7, ↓s_130_8, ↓s_130_11, ↓s_130_14, ↓s_130_15, ↓s_130_18, ↓s_130_19, ↓s_130_22, ↓s_130_23, ↓s_130_26, ↓s_130_29, ↓s_130_30, ↓s_130_33, ↓s_130_34a, ↓s_130_34b, ↓s_130_35, ↓s_130_38, ↓s_130_39, ↓s_130_42, ↓s_130_43, ↓s_130_46, ↓s_130_47, ↓s_130_49, ↓s_130_50, ↓s_130_51, ↓s_130_52, ↓s_130_53, ↓s_130_54, ↓s_130_55, ↓s_130_58n, ↓s_130_58i, ↓s_130_58p, ↓s_130_61, ↓s_130_62a, ↓s_130_62b, ↓s_130_63, ↓s_130_66, ↓s_130_67, ↓s_130_68, ↓s_130_71, ↓s_130_74, ↓s_130_75, ↓s_130_76, ↓s_130_78, ↓s_130_81, ↓s_130_82, ↓s_130_85, ↓s_130_86, ↓s_130_89, ↓s_130_90n, ↓s_130_90i, ↓s_130_90p, ↓g_130_91, ↓k_130_91, ↓s_130_92, ↓s_130_94, ↓s_130_97, ↓s_130_98, ↓s_130_101, ↓s_130_102, ↓s_130_105, ↓s_130_106, ↓s_130_109, ↓s_130_110, ↓s_130_111, ↓s_130_112, ↓s_130_115, ↓s_130_118, ↓s_130_119, ↓s_130_121, ↓s_130_122, ↓s_130_123, ↓s_130_126n, ↓s_130_126i, ↓s_130_126p, ↓s_130_129, ↓s_130_132, w32c_25, w32c_97, w32c_23, w32c_17, zar_56, zia_56, zln_56, zit_56, zar_1, zia_1, zln_1, zit_1, zio_55]
    refine ⟨fun _ => hQ m hF ?_, fun h => absurd (show 23 ≤ w32 k by (first | exact Nat.le_of_ble_eq_true rfl | exact (fun h => absurd h.1 (by decide)) | omega)) h⟩
    rcases hK with ⟨a, b⟩ | ⟨_, b⟩
    · rw [b, a, show (w32 k).toNat = 23 by (first | exact Nat.le_of_ble_eq_true rfl | exact (fun h => absurd h.1 (by decide)) | omega)]
      rfl
    · exact b
  | succ c ih =>
    intro k m hc h0 h1 hF hK
    have e1 : w32 (k + 1) = w32 k + 1 := by rw [w32_ad (by rw [w32c_1]; (first | exact Nat.le_of_ble_eq_true rfl | exact (fun h => absurd h.1 (by decide)) | omega)) (by rw [w32c_1]; (first | exact Nat.le_of_ble_eq_true rfl | exact (fun h => absurd h.1 (by decide)) | omega)), w32c_1]
    have e17 : w32 (17 + k) = 17 + w32 k := by
      have : w32 17 = 17 := by decide
      rw [w32_ad (by rw [this]; (first | exact Nat.le_of_ble_eq_true rfl | exact (fun h => absurd h.1 (by decide)) | omega)) (by rw [this]; (first | exact Nat.le_of_ble_eq_true rfl | exact (fun h => absurd h.1 (by decide)) | omega)), this]
    have hw := hW (w32 k).toNat (by (first | exact Nat.le_of_ble_eq_true rfl | exact (fun h => absurd h.1 (by decide)) | omega))
    refine zgo_ok (n := 60) hE xmo_130 (cs := zc_130) ?_
    simp only [ynok_30, ynok_31, w32c_0, w32c_1, w32c_2, w32c_3, w32c_4, w32c_5, w32c_6, w32c_7, w32c_8, w32c_9, w32c_10, w32c_11, w32c_12, w32c_13, w32c_14, w32c_m1, w32c_m2, w32c_118, Int.reduceAdd, Int.reduceSub, Int.reduceMul, yput_s, yput_n, znl_n, znl_0, znl_1, znl_4, ysum_n, ysum_0, ysum_1, ysum_4, true_and, and_true, Nat.reduceAdd, Nat.reduceLeDiff, true_implies, eq_self, true_or, or_true, or_false, false_or, not_true_eq_false, not_false_eq_true, false_implies, implies_true, yset_s, yset_o, yset_d, ne_eq, Nat.reduceEqDiff, Int.reduceToNat, Int.reduceEq, Int.reduceLE, Int.reduceLT, Classical.not_not, Nat.reduceLT, ↓zvk_s, ↓zvk_n, ↓s_130_0, ↓s_130_2n, ↓s_130_2i, ↓s_130_2p, ↓g_130_3, ↓k_130_3, ↓s_130_4, ↓s_130_7, ↓s_130_8, ↓s_130_11, ↓s_130_14, ↓s_130_15, ↓s_130_18, ↓s_130_19, ↓s_130_22, ↓s_130_23, ↓s_130_26, ↓s_130_29, ↓s_130_30, ↓s_130_33, ↓s_130_34a, ↓s_130_34b, ↓s_130_35, ↓s_130_38, ↓s_130_39, ↓s_130_42, ↓s_130_43, ↓s_130_46, ↓s_130_47, ↓s_130_49, ↓s_130_50, ↓s_130_51, ↓s_130_52, ↓s_130_53, ↓s_130_54, ↓s_130_55, ↓s_130_58n, ↓s_130_58i, ↓s_130_58p, ↓s_130_61, ↓s_130_62a, ↓s_130_62b, ↓s_130_63, ↓s_130_66, ↓s_130_67, ↓s_130_68, ↓s_130_71, ↓s_130_74, ↓s_130_75, ↓s_130_76, ↓s_130_78, ↓s_130_81, ↓s_130_82, ↓s_130_85, ↓s_130_86, ↓s_130_89, ↓s_130_90n, ↓s_130_90i, ↓s_130_90p, ↓g_130_91, ↓k_130_91, ↓s_130_92, ↓s_130_94, ↓s_130_97, ↓s_130_98, ↓s_130_101, ↓s_130_102, ↓s_130_105, ↓s_130_106, ↓s_130_109, ↓s_130_110, ↓s_130_111, ↓s_130_112, ↓s_130_115, ↓s_130_118, ↓s_130_119, ↓s_130_121, ↓s_130_122, ↓s_130_123, ↓s_130_126n, ↓s_130_126i, ↓s_130_126p, ↓s_130_129, ↓s_130_132, w32c_25, w32c_97, w32c_23, w32c_17, zar_56, zia_56, zln_56, zit_56, zar_1, zia_1, zln_1, zit_1, zio_55]
    rw [hF 56 _ (by (first | exact Nat.le_of_ble_eq_true rfl | exact (fun h => absurd h.1 (by decide)) | omega)), hF 55 6 (by (first | exact Nat.le_of_ble_eq_true rfl | exact (fun h => absurd h.1 (by decide)) | omega)), hw]
    refine ⟨fun h => absurd h (by (first | exact Nat.le_of_ble_eq_true rfl | exact (fun h => absurd h.1 (by decide)) | omega)), fun _ => ⟨fun hne => hQ m hF ?_, fun h3 => ⟨⟨by (first | exact Nat.le_of_ble_eq_true rfl | exact (fun h => absurd h.1 (by decide)) | omega), by (first | exact Nat.le_of_ble_eq_true rfl | exact (fun h => absurd h.1 (by decide)) | omega)⟩, fun hne => ih (k + 1) m (by (first | exact Nat.le_of_ble_eq_true rfl | exact (fun h => absurd h.1 (by decide)) | omega)) (by (first | exact Nat.le_of_ble_eq_true rfl | exact (fun h => absurd h.1 (by decide)) | omega)) (by (first | exact Nat.le_of_ble_eq_true rfl | exact (fun h => absurd h.1 (by decide)) | omega)) hF ?_, fun heq => ih (k + 1) _ (by (first | exact Nat.le_of_ble_eq_true rfl | exact (fun h => absurd h.1 (by decide)) | omega)) (by (first | exact Nat.le_of_ble_eq_true rfl | exact (fun h => absurd h.1 (by decide)) | omega)) (by (first | exact Nat.le_of_ble_eq_true rfl | exact (fun h => absurd h.1 (by decide)) | omega)) (fun i j hij => ?_) (Or.inr ⟨?_, ?_⟩)⟩⟩⟩
    · rcases hK with ⟨a, _⟩ | ⟨_, b⟩
      · exact absurd a hne
      · exact b
    · rcases hK with ⟨a, b⟩ | ⟨a, _⟩
      · refine Or.inl ⟨a, ?_⟩
        rw [b, sWi_d sWd _ (w32 k).toNat (by rw [hlen]; (first | exact Nat.le_of_ble_eq_true rfl | exact (fun h => absurd h.1 (by decide)) | omega)), if_neg (fun z => hne z.symm), show (w32 (k + 1)).toNat = (w32 k).toNat + 1 by (first | exact Nat.le_of_ble_eq_true rfl | exact (fun h => absurd h.1 (by decide)) | omega)]
        rfl
      · exact absurd h3 a
    · rw [yset_a]
      split
      · next e =>
        rw [if_neg (fun z => hij ⟨e, z⟩)]
        exact hF i j hij
      · exact hF i j hij
    · rw [yset_s, e17]; (first | exact Nat.le_of_ble_eq_true rfl | exact (fun h => absurd h.1 (by decide)) | omega)
    · rcases hK with ⟨_, b⟩ | ⟨a, _⟩
      · rw [yset_s, e17, b, sWi_d sWd _ (w32 k).toNat (by rw [hlen]; (first | exact Nat.le_of_ble_eq_true rfl | exact (fun h => absurd h.1 (by decide)) | omega)), if_pos heq.symm]
        (first | exact Nat.le_of_ble_eq_true rfl | exact (fun h => absurd h.1 (by decide)) | omega)
      · exact absurd h3 a
theorem cw3 (hE : yEok E) (hs : w32 (mem 55 2) ≤ 800) (hB0 : cBy mem ch) (hW : cWd mem) (hQ : ∀ m x, aFrm ctF mem m → sRn ch 97 122 (cen mem) p x → w32 (m 55 3) = (x : Int) → w32 (m 55 5) = (p : Int) → ((p + 6 < x ∧ w32 (m 55 4) = 1) ∨ (x ≤ p + 6 ∧ w32 (m 55 4) = ((sWk (sPk ch p x) : Nat) : Int) ∧ w32 (m 55 6) = sPk ch p x)) → Q none m) : ∀ (c : Nat) (m : yMem) (x : Nat) (s : Int) (r2 : Option yV), cen mem - x = c → aFrm ctF mem m → w32 (m 55 5) = (p : Int) → w32 (m 55 3) = (x : Int) → p ≤ x → x ≤ cen mem → (∀ j, p ≤ j → j < x → 97 ≤ ch j ∧ ch j ≤ 122) → w32 s = 25 - 5 * ((x : Int) - (p : Int)) → (x ≤ p + 6 → w32 (m 55 6) = sPk ch p x) → zG E (d + 1) xm_130 3 [some (1, 55), some (0, s), r2] [] m Q := by
  have rr : cen mem = (w32 (mem 55 2)).toNat := rfl
  have fin : ∀ (m : yMem) (x : Nat) (s : Int) (r2 : Option yV), aFrm ctF mem m → w32 (m 55 5) = (p : Int) → w32 (m 55 3) = (x : Int) → sRn ch 97 122 (cen mem) p x → (x ≤ p + 6 → w32 (m 55 6) = sPk ch p x) → ∀ k : Int, ((w32 k = 3 ∧ x ≤ p + 6) ∨ (w32 k = 1 ∧ p + 6 < x)) → zG E (d + 1) xm_130 91 [some (1, 55), some (0, s), some (0, 0)] [] (yset m 55 4 k) Q := fun m x s r2 hF h5 hx hR hv k hk => by
    have F1 : aFrm ctF mem (yset m 55 4 k) := aFrm_set hF rfl
    have hW1 : cWd (yset m 55 4 k) := fun i hi => by rw [yset_o (by decide), hF 56 i rfl]; exact hW i hi
    rcases hk with ⟨k3, h6⟩ | ⟨k1, h6⟩
    · have e6 : w32 (yset m 55 4 k 55 6) = sPk ch p x := by rw [yset_d (by decide)]; exact hv h6
      refine cw91 (mem := yset m 55 4 k) hE hW1 (fun m' g1 g2 => hQ m' x (fun i j hij => ?_) hR ?_ ?_ (Or.inr ⟨h6, ?_, ?_⟩)) _ _ _ rfl (by decide) (by decide) (fun _ _ _ => rfl) (Or.inl ⟨by rw [yset_s]; exact k3, rfl⟩)
      · rw [g1 i j (fun z => by obtain ⟨rfl, rfl⟩ := z; exact absurd hij (by decide)), F1 i j hij]
      · rw [g1 55 3 (by decide), yset_d (by decide)]; exact hx
      · rw [g1 55 5 (by decide), yset_d (by decide)]; exact h5
      · rw [g2, e6]
      · rw [g1 55 6 (by decide), e6]
    · refine zgo_ok (n := 60) hE xmo_130 (cs := zc_130) ?_
      simp only [ynok_30, ynok_31, w32c_0, w32c_1, w32c_2, w32c_3, w32c_4, w32c_5, w32c_6, w32c_7, w32c_8, w32c_9, w32c_10, w32c_11, w32c_12, w32c_13, w32c_14, w32c_m1, w32c_m2, w32c_118, Int.reduceAdd, Int.reduceSub, Int.reduceMul, yput_s, yput_n, znl_n, znl_0, znl_1, znl_4, ysum_n, ysum_0, ysum_1, ysum_4, true_and, and_true, Nat.reduceAdd, Nat.reduceLeDiff, true_implies, eq_self, true_or, or_true, or_false, false_or, not_true_eq_false, not_false_eq_true, false_implies, implies_true, yset_s, yset_o, yset_d, ne_eq, Nat.reduceEqDiff, Int.reduceToNat, Int.reduceEq, Int.reduceLE, Int.reduceLT, Classical.not_not, Nat.reduceLT, ↓zvk_s, ↓zvk_n, ↓s_130_0, ↓s_130_2n, ↓s_130_2i, ↓s_130_2p, ↓g_130_3, ↓k_130_3, ↓s_130_4, ↓s_130_7, ↓s_130_8, ↓s_130_11, ↓s_130_14, ↓s_130_15, ↓s_130_18, ↓s_130_19, ↓s_130_22, ↓s_130_23, ↓s_130_26, ↓s_130_29, ↓s_130_30, ↓s_130_33, ↓s_130_34a, ↓s_130_34b, ↓s_130_35, ↓s_130_38, ↓s_130_39, ↓s_130_42, ↓s_130_43, ↓s_130_46, ↓s_130_47, ↓s_130_49, ↓s_130_50, ↓s_130_51, ↓s_130_52, ↓s_130_53, ↓s_130_54, ↓s_130_55, ↓s_130_58n, ↓s_130_58i, ↓s_130_58p, ↓s_130_61, ↓s_130_62a, ↓s_130_62b, ↓s_130_63, ↓s_130_66, ↓s_130_67, ↓s_130_68, ↓s_130_71, ↓s_130_74, ↓s_130_75, ↓s_130_76, ↓s_130_78, ↓s_130_81, ↓s_130_82, ↓s_130_85, ↓s_130_86, ↓s_130_89, ↓s_130_90n, ↓s_130_90i, ↓s_130_90p, ↓g_130_91, ↓k_130_91, ↓s_130_92, ↓s_130_94, ↓s_130_97, ↓s_130_98, ↓s_130_101, ↓s_130_102, ↓s_130_105, ↓s_130_106, ↓s_130_109, ↓s_130_110, ↓s_130_111, ↓s_130_112, ↓s_130_115, ↓s_130_118, ↓s_130_119, ↓s_130_121, ↓s_130_122, ↓s_130_123, ↓s_130_126n, ↓s_130_126i, ↓s_130_126p, ↓s_130_129, ↓s_130_132, w32c_25, w32c_97, w32c_23, w32c_17, zar_56, zia_56, zln_56, zit_56, zar_1, zia_1, zln_1, zit_1, zio_55]
      refine ⟨fun _ => ?_, fun hne => absurd k1 (by (first | exact Nat.le_of_ble_eq_true rfl | exact (fun h => absurd h.1 (by decide)) | omega))⟩
      refine hQ _ x F1 hR ?_ ?_ (Or.inl ⟨h6, ?_⟩)
      · rw [yset_d (by decide)]; exact hx
      · rw [yset_d (by decide)]; exact h5
      · rw [yset_s]; exact k1
  have e5 : w32 (-5) = -5 := by decide
  intro c
  induction c with
  | zero =>
    intro m x s r2 hc hF h5 hx h1 h2 hA hsh hv
    have ff := fin m x s r2 hF h5 hx ⟨h1, h2, hA, fun h => absurd h (by (first | exact Nat.le_of_ble_eq_true rfl | exact (fun h => absurd h.1 (by decide)) | omega))⟩ hv
    refine zgo_ok (n := 60) hE xmo_130 (cs := zc_130) ?_
    have e2 : m 55 2 = mem 55 2 := hF 55 2 rfl
    simp only [ynok_30, ynok_31, w32c_0, w32c_1, w32c_2, w32c_3, w32c_4, w32c_5, w32c_6, w32c_7, w32c_8, w32c_9, w32c_10, w32c_11, w32c_12, w32c_13, w32c_14, w32c_m1, w32c_m2, w32c_118, Int.reduceAdd, Int.reduceSub, Int.reduceMul, yput_s, yput_n, znl_n, znl_0, znl_1, znl_4, ysum_n, ysum_0, ysum_1, ysum_4, true_and, and_true, Nat.reduceAdd, Nat.reduceLeDiff, true_implies, eq_self, true_or, or_true, or_false, false_or, not_true_eq_false, not_false_eq_true, false_implies, implies_true, yset_s, yset_o, yset_d, ne_eq, Nat.reduceEqDiff, Int.reduceToNat, Int.reduceEq, Int.reduceLE, Int.reduceLT, Classical.not_not, Nat.reduceLT, ↓zvk_s, ↓zvk_n, ↓s_130_0, ↓s_130_2n, ↓s_130_2i, ↓s_130_2p, ↓s_130_2j, ↓g_130_3, ↓k_130_3, ↓s_130_4, ↓s_130_7, ↓s_130_8, ↓s_130_11, ↓s_130_14, ↓s_130_15, ↓s_130_18, ↓s_130_19, ↓s_130_22, ↓s_130_23, ↓s_130_26, ↓s_130_29, ↓s_130_30, ↓s_130_33, ↓s_130_34a, ↓s_130_34b, ↓s_130_35, ↓s_130_38, ↓s_130_39, ↓s_130_42, ↓s_130_43, ↓s_130_46, ↓s_130_47, ↓s_130_49, ↓s_130_50, ↓s_130_51, ↓s_130_52, ↓s_130_53, ↓s_130_54, ↓s_130_55, ↓s_130_58n, ↓s_130_58i, ↓s_130_58p, ↓s_130_58j, ↓s_130_61, ↓s_130_62a, ↓s_130_62b, ↓s_130_63, ↓s_130_66, ↓s_130_67, ↓s_130_68, ↓s_130_71, ↓s_130_74, ↓s_130_75, ↓s_130_76, ↓s_130_78, ↓s_130_81, ↓s_130_82, ↓s_130_85, ↓s_130_86, ↓s_130_89, ↓s_130_90n, ↓s_130_90i, ↓s_130_90p, ↓s_130_90j, ↓g_130_91, ↓k_130_91, ↓s_130_92, ↓s_130_94, ↓s_130_97, ↓s_130_98, ↓s_130_101, ↓s_130_102, ↓s_130_105, ↓s_130_106, ↓s_130_109, ↓s_130_110, ↓s_130_111, ↓s_130_112, ↓s_130_115, ↓s_130_118, ↓s_130_119, ↓s_130_121, ↓s_130_122, ↓s_130_123, ↓s_130_126n, ↓s_130_126i, ↓s_130_126p, ↓s_130_126j, ↓s_130_129, ↓s_130_132, w32c_25, w32c_97, w32c_23, w32c_17, ↓s_125_0, ↓s_125_1, ↓s_125_3, ↓s_125_6, ↓s_125_7, ↓s_125_9, ↓s_125_12, ↓s_125_13, ↓s_125_16, ↓s_125_17, w32c_122, zar_56, zia_56, zln_56, zit_56, zar_1, zia_1, zln_1, zit_1, zio_55]
    rw [e2, hx, e5]
    refine ⟨fun _ => ⟨fun _ => ff 1 (Or.inr ⟨by decide, by (first | exact Nat.le_of_ble_eq_true rfl | exact (fun h => absurd h.1 (by decide)) | omega)⟩), fun _ => ff 3 (Or.inl ⟨by decide, by (first | exact Nat.le_of_ble_eq_true rfl | exact (fun h => absurd h.1 (by decide)) | omega)⟩)⟩, fun h => absurd (show w32 (mem 55 2) ≤ (x : Int) by (first | exact Nat.le_of_ble_eq_true rfl | exact (fun h => absurd h.1 (by decide)) | omega)) h⟩
  | succ c ih =>
    intro m x s r2 hc hF h5 hx h1 h2 hA hsh hv
    have e2 : m 55 2 = mem 55 2 := hF 55 2 rfl
    have e1 : w32 (m 55 3 + 1) = (x : Int) + 1 := by rw [w32_ad (by rw [w32c_1]; (first | exact Nat.le_of_ble_eq_true rfl | exact (fun h => absurd h.1 (by decide)) | omega)) (by rw [w32c_1]; (first | exact Nat.le_of_ble_eq_true rfl | exact (fun h => absurd h.1 (by decide)) | omega)), w32c_1, hx]
    have es : w32 (s + -5) = w32 s - 5 := by rw [w32_ad (by rw [e5]; (first | exact Nat.le_of_ble_eq_true rfl | exact (fun h => absurd h.1 (by decide)) | omega)) (by rw [e5]; (first | exact Nat.le_of_ble_eq_true rfl | exact (fun h => absurd h.1 (by decide)) | omega)), e5]; (first | exact Nat.le_of_ble_eq_true rfl | exact (fun h => absurd h.1 (by decide)) | omega)
    have hbs := cBy_c hB0 x
    have ff : ¬ (97 ≤ ch x ∧ ch x ≤ 122) → ∀ k : Int, ((w32 k = 3 ∧ x ≤ p + 6) ∨ (w32 k = 1 ∧ p + 6 < x)) → zG E (d + 1) xm_130 91 [some (1, 55), some (0, s), some (0, 0)] [] (yset m 55 4 k) Q := fun hn => fin m x s r2 hF h5 hx ⟨h1, h2, hA, fun _ => hn⟩ hv
    have hA' : 97 ≤ ch x → ch x ≤ 122 → ∀ j, p ≤ j → j < x + 1 → 97 ≤ ch j ∧ ch j ≤ 122 := fun g1 g2 j j1 j2 => by
      by_cases hj : j = x
      · subst hj; exact ⟨g1, g2⟩
      · exact hA j j1 (by (first | exact Nat.le_of_ble_eq_true rfl | exact (fun h => absurd h.1 (by decide)) | omega))
    refine zgo_ok (n := 60) hE xmo_130 (cs := zc_130) ?_
    simp only [ynok_30, ynok_31, w32c_0, w32c_1, w32c_2, w32c_3, w32c_4, w32c_5, w32c_6, w32c_7, w32c_8, w32c_9, w32c_10, w32c_11, w32c_12, w32c_13, w32c_14, w32c_m1, w32c_m2, w32c_118, Int.reduceAdd, Int.reduceSub, Int.reduceMul, yput_s, yput_n, znl_n, znl_0, znl_1, znl_4, ysum_n, ysum_0, ysum_1, ysum_4, true_and, and_true, Nat.reduceAdd, Nat.reduceLeDiff, true_implies, eq_self, true_or, or_true, or_false, false_or, not_true_eq_false, not_false_eq_true, false_implies, implies_true, yset_s, yset_o, yset_d, ne_eq, Nat.reduceEqDiff, Int.reduceToNat, Int.reduceEq, Int.reduceLE, Int.reduceLT, Classical.not_not, Nat.reduceLT, ↓zvk_s, ↓zvk_n, ↓s_130_0, ↓s_130_2n, ↓s_130_2i, ↓s_130_2p, ↓s_130_2j, ↓g_130_3, ↓k_130_3, ↓s_130_4, ↓s_130_7, ↓s_130_8, ↓s_130_11, ↓s_130_14, ↓s_130_15, ↓s_130_18, ↓s_130_19, ↓s_130_22, ↓s_130_23, ↓s_130_26, ↓s_130_29, ↓s_130_30, ↓s_130_33, ↓s_130_34a, ↓s_130_34b, ↓s_130_35, ↓s_130_38, ↓s_130_39, ↓s_130_42, ↓s_130_43, ↓s_130_46, ↓s_130_47, ↓s_130_49, ↓s_130_50, ↓s_130_51, ↓s_130_52, ↓s_130_53, ↓s_130_54, ↓s_130_55, ↓s_130_58n, ↓s_130_58i, ↓s_130_58p, ↓s_130_58j, ↓s_130_61, ↓s_130_62a, ↓s_130_62b, ↓s_130_63, ↓s_130_66, ↓s_130_67, ↓s_130_68, ↓s_130_71, ↓s_130_74, ↓s_130_75, ↓s_130_76, ↓s_130_78, ↓s_130_81, ↓s_130_82, ↓s_130_85, ↓s_130_86, ↓s_130_89, ↓s_130_90n, ↓s_130_90i, ↓s_130_90p, ↓s_130_90j, ↓g_130_91, ↓k_130_91, ↓s_130_92, ↓s_130_94, ↓s_130_97, ↓s_130_98, ↓s_130_101, ↓s_130_102, ↓s_130_105, ↓s_130_106, ↓s_130_109, ↓s_130_110, ↓s_130_111, ↓s_130_112, ↓s_130_115, ↓s_130_118, ↓s_130_119, ↓s_130_121, ↓s_130_122, ↓s_130_123, ↓s_130_126n, ↓s_130_126i, ↓s_130_126p, ↓s_130_126j, ↓s_130_129, ↓s_130_132, w32c_25, w32c_97, w32c_23, w32c_17, ↓s_125_0, ↓s_125_1, ↓s_125_3, ↓s_125_6, ↓s_125_7, ↓s_125_9, ↓s_125_12, ↓s_125_13, ↓s_125_16, ↓s_125_17, w32c_122, zar_56, zia_56, zln_56, zit_56, zar_1, zia_1, zln_1, zit_1, zio_55]
    rw [e2, hx, hF 1 _ rfl, Int.toNat_natCast, e5]
    have last : ¬ (97 ≤ ch x ∧ ch x ≤ 122) → ((w32 s < -5 → zG E (d + 1) xm_130 91 [some (1, 55), some (0, s), some (0, 0)] [] (yset m 55 4 1) Q) ∧ (¬ w32 s < -5 → zG E (d + 1) xm_130 91 [some (1, 55), some (0, s), some (0, 0)] [] (yset m 55 4 3) Q)) := fun hn => ⟨fun h => ff hn 1 (Or.inr ⟨by decide, by (first | exact Nat.le_of_ble_eq_true rfl | exact (fun h => absurd h.1 (by decide)) | omega)⟩), fun h => ff hn 3 (Or.inl ⟨by decide, by (first | exact Nat.le_of_ble_eq_true rfl | exact (fun h => absurd h.1 (by decide)) | omega)⟩)⟩
    refine ⟨fun h => absurd h (by (first | exact Nat.le_of_ble_eq_true rfl | exact (fun h => absurd h.1 (by decide)) | omega)), fun _ => ⟨⟨by (first | exact Nat.le_of_ble_eq_true rfl | exact (fun h => absurd h.1 (by decide)) | omega), by (first | exact Nat.le_of_ble_eq_true rfl | exact (fun h => absurd h.1 (by decide)) | omega)⟩, fun h => last (by (first | exact Nat.le_of_ble_eq_true rfl | exact (fun h => absurd h.1 (by decide)) | omega)), fun h97 => ⟨fun h => last (by (first | exact Nat.le_of_ble_eq_true rfl | exact (fun h => absurd h.1 (by decide)) | omega)), fun h122 => ⟨fun hneg => ?_, fun hpos => ⟨⟨by (first | exact Nat.le_of_ble_eq_true rfl | exact (fun h => absurd h.1 (by decide)) | omega), by (first | exact Nat.le_of_ble_eq_true rfl | exact (fun h => absurd h.1 (by decide)) | omega)⟩, ?_⟩⟩⟩⟩⟩
    · exact ih _ (x + 1) (s + -5) r2 (by (first | exact Nat.le_of_ble_eq_true rfl | exact (fun h => absurd h.1 (by decide)) | omega)) (aFrm_set hF rfl) (by rw [yset_d (by decide)]; exact h5) (by rw [yset_s, e1]; (first | exact Nat.le_of_ble_eq_true rfl | exact (fun h => absurd h.1 (by decide)) | omega)) (by (first | exact Nat.le_of_ble_eq_true rfl | exact (fun h => absurd h.1 (by decide)) | omega)) (by (first | exact Nat.le_of_ble_eq_true rfl | exact (fun h => absurd h.1 (by decide)) | omega)) (hA' (by (first | exact Nat.le_of_ble_eq_true rfl | exact (fun h => absurd h.1 (by decide)) | omega)) (by (first | exact Nat.le_of_ble_eq_true rfl | exact (fun h => absurd h.1 (by decide)) | omega))) (by rw [es]; (first | exact Nat.le_of_ble_eq_true rfl | exact (fun h => absurd h.1 (by decide)) | omega)) (fun h => by (first | exact Nat.le_of_ble_eq_true rfl | exact (fun h => absurd h.1 (by decide)) | omega))
    · have hx5 : x - p < 6 := by (first | exact Nat.le_of_ble_eq_true rfl | exact (fun h => absurd h.1 (by decide)) | omega)
      obtain ⟨a, q1, q2, q3, q4⟩ := cPv_s (ch := ch) (p := p) (c := x - p) (fun j j1 j2 => hA' (by (first | exact Nat.le_of_ble_eq_true rfl | exact (fun h => absurd h.1 (by decide)) | omega)) (by (first | exact Nat.le_of_ble_eq_true rfl | exact (fun h => absurd h.1 (by decide)) | omega)) j j1 (by (first | exact Nat.le_of_ble_eq_true rfl | exact (fun h => absurd h.1 (by decide)) | omega))) hx5
      have t1 : cPv ch p (x - p) = sPk ch p x := by
        unfold cPv sPk
        rw [show p + (x - p) = x by (first | exact Nat.le_of_ble_eq_true rfl | exact (fun h => absurd h.1 (by decide)) | omega)]
      have t2 : cPv ch p (x - p + 1) = sPk ch p (x + 1) := by
        unfold cPv sPk
        rw [show p + (x - p + 1) = x + 1 by (first | exact Nat.le_of_ble_eq_true rfl | exact (fun h => absurd h.1 (by decide)) | omega)]
      rw [show p + (x - p) = x by (first | exact Nat.le_of_ble_eq_true rfl | exact (fun h => absurd h.1 (by decide)) | omega)] at q2 q3 q4
      have e97 : w32 97 = 97 := by decide
      have y1 : w32 (mem 1 x - 97) = ch x - 97 := by rw [w32_sb (by rw [e97]; (first | exact Nat.le_of_ble_eq_true rfl | exact (fun h => absurd h.1 (by decide)) | omega)) (by rw [e97]; (first | exact Nat.le_of_ble_eq_true rfl | exact (fun h => absurd h.1 (by decide)) | omega)), e97]; (first | exact Nat.le_of_ble_eq_true rfl | exact (fun h => absurd h.1 (by decide)) | omega)
      have y2 : w32 (mem 1 x - 97 + 1) = (((ch x - 96).toNat : Nat) : Int) := by rw [w32_ad (by rw [y1, w32c_1]; (first | exact Nat.le_of_ble_eq_true rfl | exact (fun h => absurd h.1 (by decide)) | omega)) (by rw [y1, w32c_1]; (first | exact Nat.le_of_ble_eq_true rfl | exact (fun h => absurd h.1 (by decide)) | omega)), y1, w32c_1]; (first | exact Nat.le_of_ble_eq_true rfl | exact (fun h => absurd h.1 (by decide)) | omega)
      have eb := yb_shl (x := mem 1 x - 97 + 1) (y := s) (a := (ch x - 96).toNat) (s := 25 - 5 * (x - p)) y2 (by rw [hsh]; (first | exact Nat.le_of_ble_eq_true rfl | exact (fun h => absurd h.1 (by decide)) | omega)) (by (first | exact Nat.le_of_ble_eq_true rfl | exact (fun h => absurd h.1 (by decide)) | omega)) (by (first | exact Nat.le_of_ble_eq_true rfl | exact (fun h => absurd h.1 (by decide)) | omega))
      have ev := yb_or (x := m 55 6) (y := ybin 6 (mem 1 x - 97 + 1) s) (a := a) (b := (ch x - 96).toNat * 2 ^ (25 - 5 * (x - p))) (k := 30 - 5 * (x - p)) (by rw [hv (by (first | exact Nat.le_of_ble_eq_true rfl | exact (fun h => absurd h.1 (by decide)) | omega)), ← t1, q1]) eb q4 (by (first | exact Nat.le_of_ble_eq_true rfl | exact (fun h => absurd h.1 (by decide)) | omega))
      exact ih _ (x + 1) (s + -5) r2 (by (first | exact Nat.le_of_ble_eq_true rfl | exact (fun h => absurd h.1 (by decide)) | omega)) (aFrm_set (aFrm_set hF rfl) rfl) (by rw [yset_d (by decide), yset_d (by decide)]; exact h5) (by rw [yset_s, e1]; (first | exact Nat.le_of_ble_eq_true rfl | exact (fun h => absurd h.1 (by decide)) | omega)) (by (first | exact Nat.le_of_ble_eq_true rfl | exact (fun h => absurd h.1 (by decide)) | omega)) (by (first | exact Nat.le_of_ble_eq_true rfl | exact (fun h => absurd h.1 (by decide)) | omega)) (hA' (by (first | exact Nat.le_of_ble_eq_true rfl | exact (fun h => absurd h.1 (by decide)) | omega)) (by (first | exact Nat.le_of_ble_eq_true rfl | exact (fun h => absurd h.1 (by decide)) | omega))) (by rw [es]; (first | exact Nat.le_of_ble_eq_true rfl | exact (fun h => absurd h.1 (by decide)) | omega)) (fun h => by rw [yset_d (by decide), yset_s, ev, ← t2, q2])
theorem f_readWord (hE : yEok E) {D : Nat} (hD : 2 ≤ D) (hs : w32 (mem 55 2) ≤ 800) (hB0 : cBy mem ch) (hW : cWd mem) (h5 : w32 (mem 55 5) = (p : Int)) (h3 : w32 (mem 55 3) = (p : Int)) (hp : p < cen mem) (h6 : w32 (mem 55 6) = 0) (hQ : ∀ m x, aFrm ctF mem m → sRn ch 97 122 (cen mem) p x → w32 (m 55 3) = (x : Int) → w32 (m 55 5) = (p : Int) → ((p + 6 < x ∧ w32 (m 55 4) = 1) ∨ (x ≤ p + 6 ∧ w32 (m 55 4) = ((sWk (sPk ch p x) : Nat) : Int) ∧ w32 (m 55 6) = sPk ch p x)) → Q none m) : yCon E D xm_130 [(1, 55)] mem Q := by
  obtain ⟨d, rfl⟩ := Nat.exists_eq_add_of_le' hD
  refine e_130 ?_
  refine zvc_ok hE 60 zc_130 _ _ _ _ _ _ _ xmo_130 ?_
  simp only [ynok_30, ynok_31, w32c_0, w32c_1, w32c_2, w32c_3, w32c_4, w32c_5, w32c_6, w32c_7, w32c_8, w32c_9, w32c_10, w32c_11, w32c_12, w32c_13, w32c_14, w32c_m1, w32c_m2, w32c_118, Int.reduceAdd, Int.reduceSub, Int.reduceMul, yput_s, yput_n, znl_n, znl_0, znl_1, znl_4, ysum_n, ysum_0, ysum_1, ysum_4, true_and, and_true, Nat.reduceAdd, Nat.reduceLeDiff, true_implies, eq_self, true_or, or_true, or_false, false_or, not_true_eq_false, not_false_eq_true, false_implies, implies_true, yset_s, yset_o, yset_d, ne_eq, Nat.reduceEqDiff, Int.reduceToNat, Int.reduceEq, Int.reduceLE, Int.reduceLT, Classical.not_not, Nat.reduceLT, ↓zvk_s, ↓zvk_n, ↓s_130_0, ↓s_130_2n, ↓s_130_2i, ↓s_130_2p, ↓g_130_3, ↓k_130_3, ↓s_130_4, ↓s_130_7, ↓s_130_8, ↓s_130_11, ↓s_130_14, ↓s_130_15, ↓s_130_18, ↓s_130_19, ↓s_130_22, ↓s_130_23, ↓s_130_26, ↓s_130_29, ↓s_130_30, ↓s_130_33, ↓s_130_34a, ↓s_130_34b, ↓s_130_35, ↓s_130_38, ↓s_130_39, ↓s_130_42, ↓s_130_43, ↓s_130_46, ↓s_130_47, ↓s_130_49, ↓s_130_50, ↓s_130_51, ↓s_130_52, ↓s_130_53, ↓s_130_54, ↓s_130_55, ↓s_130_58n, ↓s_130_58i, ↓s_130_58p, ↓s_130_61, ↓s_130_62a, ↓s_130_62b, ↓s_130_63, ↓s_130_66, ↓s_130_67, ↓s_130_68, ↓s_130_71, ↓s_130_74, ↓s_130_75, ↓s_130_76, ↓s_130_78, ↓s_130_81, ↓s_130_82, ↓s_130_85, ↓s_130_86, ↓s_130_89, ↓s_130_90n, ↓s_130_90i, ↓s_130_90p, ↓g_130_91, ↓k_130_91, ↓s_130_92, ↓s_130_94, ↓s_130_97, ↓s_130_98, ↓s_130_101, ↓s_130_102, ↓s_130_105, ↓s_130_106, ↓s_130_109, ↓s_130_110, ↓s_130_111, ↓s_130_112, ↓s_130_115, ↓s_130_118, ↓s_130_119, ↓s_130_121, ↓s_130_122, ↓s_130_123, ↓s_130_126n, ↓s_130_126i, ↓s_130_126p, ↓s_130_129, ↓s_130_132, w32c_25, w32c_97, w32c_23, w32c_17, zar_56, zia_56, zln_56, zit_56, zar_1, zia_1, zln_1, zit_1, zio_55]
  have hz : sPk ch p p = 0 := by
    unfold sPk
    have : ∀ n, zix (sLt ch p p) 32 n = 0 := fun n => by
      induction n with
      | zero => rfl
      | succ n ih =>
        simp only [zix]
        rw [ih]
        unfold sLt
        rw [if_neg (by (first | exact Nat.le_of_ble_eq_true rfl | exact (fun h => absurd h.1 (by decide)) | omega)), w32c_0]
        rfl
    exact this 6
  exact cw3 hE hs hB0 hW hQ _ _ p _ _ rfl aFrm_rf h5 h3 (Nat.le_refl _) (by (first | exact Nat.le_of_ble_eq_true rfl | exact (fun h => absurd h.1 (by decide)) | omega)) (fun j j1 j2 => absurd j2 (by (first | exact Nat.le_of_ble_eq_true rfl | exact (fun h => absurd h.1 (by decide)) | omega))) (by rw [show w32 25 = 25 by decide]; (first | exact Nat.le_of_ble_eq_true rfl | exact (fun h => absurd h.1 (by decide)) | omega)) (fun _ => by rw [h6, hz])
theorem f_readNumber (hE : yEok E) {D : Nat} (hD : 2 ≤ D) (hs : w32 (mem 55 2) ≤ 800) (hB0 : cBy mem ch) (h5 : w32 (mem 55 5) = (p : Int)) (h3 : w32 (mem 55 3) = (p : Int)) (hp : p < cen mem) (h6 : w32 (mem 55 6) = 0) (hQ : ∀ m x, aFrm ctF mem m → sRn ch 48 57 (cen mem) p x → w32 (m 55 3) = (x : Int) → w32 (m 55 5) = (p : Int) → w32 (m 55 4) = 2 → 0 ≤ w32 (m 55 6) → min (w32 (m 55 6)) 100000 = sNm ch p (x - p) → Q none m) : yCon E D xm_128 [(1, 55)] mem Q := by
  obtain ⟨d, rfl⟩ := Nat.exists_eq_add_of_le' hD
  refine e_128 ?_
  exact cf_num hE hs hB0 hQ _ _ p rfl aFrm_rf h5 h3 (Nat.le_refl _) (by (first | exact Nat.le_of_ble_eq_true rfl | exact (fun h => absurd h.1 (by decide)) | omega)) (fun j j1 j2 => absurd j2 (by (first | exact Nat.le_of_ble_eq_true rfl | exact (fun h => absurd h.1 (by decide)) | omega))) (by (first | exact Nat.le_of_ble_eq_true rfl | exact (fun h => absurd h.1 (by decide)) | omega)) (by (first | exact Nat.le_of_ble_eq_true rfl | exact (fun h => absurd h.1 (by decide)) | omega)) (by rw [h6, Nat.sub_self]; rfl)
theorem f_signKind (hE : yEok E) {D : Nat} (hD : 1 ≤ D) {x y c b : Int} (hx : (c < 128 ∧ w32 x = c) ∨ (128 ≤ c ∧ w32 x = c - 256)) (hy : (b < 128 ∧ w32 y = b) ∨ (128 ≤ b ∧ w32 y = b - 256)) (hc : 0 ≤ c ∧ c ≤ 255) (hb : 0 ≤ b ∧ b ≤ 255) (hQ : ∀ r, w32 r = (((sSg c b).1 : Nat) : Int) → Q (some (0, r)) mem) : yCon E D xm_131 [(0, x), (0, y)] mem Q := by
  obtain ⟨d, rfl⟩ := Nat.exists_eq_add_of_le' hD
  refine e_131 ?_
  refine zvc_ok hE 60 [] _ _ _ _ _ _ _ xmo_131 ?_
  simp only [ynok_30, ynok_31, w32c_0, w32c_1, w32c_2, w32c_3, w32c_4, w32c_5, w32c_6, w32c_7, w32c_8, w32c_9, w32c_10, w32c_11, w32c_12, w32c_13, w32c_14, w32c_m1, w32c_m2, w32c_118, Int.reduceAdd, Int.reduceSub, Int.reduceMul, yput_s, yput_n, znl_n, znl_0, znl_1, znl_4, ysum_n, ysum_0, ysum_1, ysum_4, true_and, and_true, Nat.reduceAdd, Nat.reduceLeDiff, true_implies, eq_self, true_or, or_true, or_false, false_or, not_true_eq_false, not_false_eq_true, false_implies, implies_true, yset_s, yset_o, yset_d, ne_eq, Nat.reduceEqDiff, Int.reduceToNat, Int.reduceEq, Int.reduceLE, Int.reduceLT, Classical.not_not, Nat.reduceLT, ↓zvk_s, ↓zvk_n, ↓s_131_0, ↓s_131_1, ↓s_131_108, ↓s_131_109, ↓s_131_110, ↓s_131_111, ↓s_131_112, ↓s_131_114, ↓s_131_115, ↓s_131_116, ↓s_131_118, ↓s_131_121, ↓s_131_123, ↓s_131_126, ↓s_131_127, ↓s_131_129, ↓s_131_132, ↓s_131_134, ↓s_131_137, ↓s_131_139, ↓s_131_140, ↓s_131_142, ↓s_131_143, ↓s_131_144, ↓s_131_146, ↓s_131_149, ↓s_131_151, ↓s_131_154, ↓s_131_156, ↓s_131_157, ↓s_131_159, ↓s_131_160, ↓s_131_162, ↓s_131_163, ↓s_131_165, ↓s_131_166, ↓s_131_168, ↓s_131_169, ↓s_131_170, w32c_61, w32c_62, w32c_15, w32c_16]
  repeat' first | (refine hQ _ ?_; unfold sSg; (repeat first | rw [if_pos (by (first | exact Nat.le_of_ble_eq_true rfl | exact (fun h => absurd h.1 (by decide)) | omega))] | rw [if_neg (by (first | exact Nat.le_of_ble_eq_true rfl | exact (fun h => absurd h.1 (by decide)) | omega))]); decide) | refine And.intro ?_ ?_ | intro _
end CW
end
section
section CN
variable {E : yE} {d : Nat} {mem m : yMem} {Q : Option yV → yMem → Prop} {p : Nat} {ch : Nat → Int}
theorem f_readSign (hE : yEok E) {D : Nat} (hD : 2 ≤ D) (hs : w32 (mem 55 2) ≤ 800) (hB0 : cBy mem ch) (h3 : w32 (mem 55 3) = (p : Int)) (hp : p < cen mem) (hQ : ∀ m, aFrm ctF mem m → w32 (m 55 3) = (p : Int) + (((sSg (ch p) (if p + 1 < cen mem then ch (p + 1) else 0)).2 : Nat) : Int) → m 55 5 = mem 55 5 → w32 (m 55 4) = (((sSg (ch p) (if p + 1 < cen mem then ch (p + 1) else 0)).1 : Nat) : Int) → Q none m) : yCon E D xm_129 [(1, 55)] mem Q := by
  obtain ⟨d, rfl⟩ := Nat.exists_eq_add_of_le' hD
  have rr : cen mem = (w32 (mem 55 2)).toNat := rfl
  refine e_129 ?_
  refine zvc_ok hE 60 zc_129 _ _ _ _ _ _ _ xmo_129 ?_
  have e1 : w32 (mem 55 3 + 1) = (p : Int) + 1 := by rw [w32_ad (by rw [w32c_1]; (first | exact Nat.le_of_ble_eq_true rfl | exact (fun h => absurd h.1 (by decide)) | omega)) (by rw [w32c_1]; (first | exact Nat.le_of_ble_eq_true rfl | exact (fun h => absurd h.1 (by decide)) | omega)), w32c_1, h3]
  have e2 : w32 (mem 55 3 + 2) = (p : Int) + 2 := by rw [w32_ad (by rw [w32c_2]; (first | exact Nat.le_of_ble_eq_true rfl | exact (fun h => absurd h.1 (by decide)) | omega)) (by rw [w32c_2]; (first | exact Nat.le_of_ble_eq_true rfl | exact (fun h => absurd h.1 (by decide)) | omega)), w32c_2, h3]
  have b0 := cBy_c hB0 p
  have b1 := cBy_c hB0 (p + 1)
  have f29 : ∀ y : Int, (((if p + 1 < cen mem then ch (p + 1) else 0) < 128 ∧ w32 y = (if p + 1 < cen mem then ch (p + 1) else 0)) ∨ (128 ≤ (if p + 1 < cen mem then ch (p + 1) else 0) ∧ w32 y = (if p + 1 < cen mem then ch (p + 1) else 0) - 256)) → (0 ≤ (if p + 1 < cen mem then ch (p + 1) else 0) ∧ (if p + 1 < cen mem then ch (p + 1) else 0) ≤ 255) → zG E (d + 1) xm_129 28 [some (1, 55), none, none] [(0, y)] mem Q := fun y hy hyb => by
    generalize (if p + 1 < cen mem then ch (p + 1) else 0) = b at hy hyb hQ ⊢
    refine zgo_ok (n := 60) hE xmo_129 (cs := zc_129) ?_
    simp only [ynok_30, ynok_31, w32c_0, w32c_1, w32c_2, w32c_3, w32c_4, w32c_5, w32c_6, w32c_7, w32c_8, w32c_9, w32c_10, w32c_11, w32c_12, w32c_13, w32c_14, w32c_m1, w32c_m2, w32c_118, Int.reduceAdd, Int.reduceSub, Int.reduceMul, yput_s, yput_n, znl_n, znl_0, znl_1, znl_4, ysum_n, ysum_0, ysum_1, ysum_4, true_and, and_true, Nat.reduceAdd, Nat.reduceLeDiff, true_implies, eq_self, true_or, or_true, or_false, false_or, not_true_eq_false, not_false_eq_true, false_implies, implies_true, yset_s, yset_o, yset_d, ne_eq, Nat.reduceEqDiff, Int.reduceToNat, Int.reduceEq, Int.reduceLE, Int.reduceLT, Classical.not_not, Nat.reduceLT, ↓zvk_s, ↓zvk_n, ↓s_129_0, ↓s_129_1, ↓s_129_4, ↓s_129_5, ↓s_129_6, ↓s_129_7, ↓s_129_10, ↓s_129_13, ↓s_129_14, ↓s_129_17, ↓s_129_18, ↓s_129_21, ↓s_129_22, ↓s_129_23, ↓s_129_24, ↓s_129_27, ↓g_129_28n, ↓g_129_28i, ↓g_129_28p, ↓k_129_28, ↓s_129_29, ↓s_129_30, ↓s_129_31, ↓s_129_34, ↓s_129_35, ↓s_129_38, ↓s_129_39, ↓s_129_40, ↓s_129_43, ↓s_129_46, ↓s_129_47, ↓s_129_50, ↓s_129_52, ↓s_129_55, ↓s_129_56, ↓s_129_59, ↓s_129_61, ↓s_129_64, ↓s_129_65, ↓s_129_68, ↓s_129_70, ↓s_129_73, ↓s_129_74, ↓s_129_77, ↓s_129_78n, ↓s_129_78i, ↓s_129_78p, ↓s_129_79, ↓s_129_80a, ↓s_129_80b, ↓s_129_81, ↓s_129_84, ↓s_129_85, ↓s_129_88, ↓s_129_89, ↓s_129_92, ↓s_129_93, ↓s_129_94, ↓s_129_97, zar_1, zia_1, zln_1, zit_1, zio_55]
    rw [h3, Int.toNat_natCast]
    refine ⟨⟨by (first | exact Nat.le_of_ble_eq_true rfl | exact (fun h => absurd h.1 (by decide)) | omega), by (first | exact Nat.le_of_ble_eq_true rfl | exact (fun h => absurd h.1 (by decide)) | omega)⟩, f_signKind hE (by (first | exact Nat.le_of_ble_eq_true rfl | exact (fun h => absurd h.1 (by decide)) | omega)) (c := ch p) (b := b) b0.2.2 hy ⟨b0.1, b0.2.1⟩ hyb (fun r hr => ?_)⟩
    refine zgk_s hE xmo_129 60 zc_129 ?_
    simp only [ynok_30, ynok_31, w32c_0, w32c_1, w32c_2, w32c_3, w32c_4, w32c_5, w32c_6, w32c_7, w32c_8, w32c_9, w32c_10, w32c_11, w32c_12, w32c_13, w32c_14, w32c_m1, w32c_m2, w32c_118, Int.reduceAdd, Int.reduceSub, Int.reduceMul, yput_s, yput_n, znl_n, znl_0, znl_1, znl_4, ysum_n, ysum_0, ysum_1, ysum_4, true_and, and_true, Nat.reduceAdd, Nat.reduceLeDiff, true_implies, eq_self, true_or, or_true, or_false, false_or, not_true_eq_false, not_false_eq_true, false_implies, implies_true, yset_s, yset_o, yset_d, ne_eq, Nat.reduceEqDiff, Int.reduceToNat, Int.reduceEq, Int.reduceLE, Int.reduceLT, Classical.not_not, Nat.reduceLT, ↓zvk_s, ↓zvk_n, ↓s_129_0, ↓s_129_1, ↓s_129_4, ↓s_129_5, ↓s_129_6, ↓s_129_7, ↓s_129_10, ↓s_129_13, ↓s_129_14, ↓s_129_17, ↓s_129_18, ↓s_129_21, ↓s_129_22, ↓s_129_23, ↓s_129_24, ↓s_129_27, ↓g_129_28n, ↓g_129_28i, ↓g_129_28p, ↓k_129_28, ↓s_129_29, ↓s_129_30, ↓s_129_31, ↓s_129_34, ↓s_129_35, ↓s_129_38, ↓s_129_39, ↓s_129_40, ↓s_129_43, ↓s_129_46, ↓s_129_47, ↓s_129_50, ↓s_129_52, ↓s_129_55, ↓s_129_56, ↓s_129_59, ↓s_129_61, ↓s_129_64, ↓s_129_65, ↓s_129_68, ↓s_129_70, ↓s_129_73, ↓s_129_74, ↓s_129_77, ↓s_129_78n, ↓s_129_78i, ↓s_129_78p, ↓s_129_79, ↓s_129_80a, ↓s_129_80b, ↓s_129_81, ↓s_129_84, ↓s_129_85, ↓s_129_88, ↓s_129_89, ↓s_129_92, ↓s_129_93, ↓s_129_94, ↓s_129_97, zar_1, zia_1, zln_1, zit_1, zio_55]
    rw [hr]
    have hl := sSg_2 (ch p) b
    have q1 : (sSg (ch p) b).2 = 1 → Q none (yset (yset mem 55 4 r) 55 3 (mem 55 3 + 1)) := fun h => hQ _ (aFrm_set (aFrm_set aFrm_rf rfl) rfl) (by rw [yset_s, e1, h]; rfl) (by rw [yset_d (by decide), yset_d (by decide)]) (by rw [yset_d (by decide), yset_s, hr])
    have q2 : (sSg (ch p) b).2 = 2 → Q none (yset (yset mem 55 4 r) 55 3 (mem 55 3 + 2)) := fun h => hQ _ (aFrm_set (aFrm_set aFrm_rf rfl) rfl) (by rw [yset_s, e2, h]; rfl) (by rw [yset_d (by decide), yset_d (by decide)]) (by rw [yset_d (by decide), yset_s, hr])
    exact ⟨fun h => q2 (by (first | exact Nat.le_of_ble_eq_true rfl | exact (fun h => absurd h.1 (by decide)) | omega)), fun h8 => ⟨fun h => q2 (by (first | exact Nat.le_of_ble_eq_true rfl | exact (fun h => absurd h.1 (by decide)) | omega)), fun h10 => ⟨fun h => q1 (by (first | exact Nat.le_of_ble_eq_true rfl | exact (fun h => absurd h.1 (by decide)) | omega)), fun h => q2 (by (first | exact Nat.le_of_ble_eq_true rfl | exact (fun h => absurd h.1 (by decide)) | omega))⟩⟩⟩
  simp only [ynok_30, ynok_31, w32c_0, w32c_1, w32c_2, w32c_3, w32c_4, w32c_5, w32c_6, w32c_7, w32c_8, w32c_9, w32c_10, w32c_11, w32c_12, w32c_13, w32c_14, w32c_m1, w32c_m2, w32c_118, Int.reduceAdd, Int.reduceSub, Int.reduceMul, yput_s, yput_n, znl_n, znl_0, znl_1, znl_4, ysum_n, ysum_0, ysum_1, ysum_4, true_and, and_true, Nat.reduceAdd, Nat.reduceLeDiff, true_implies, eq_self, true_or, or_true, or_false, false_or, not_true_eq_false, not_false_eq_true, false_implies, implies_true, yset_s, yset_o, yset_d, ne_eq, Nat.reduceEqDiff, Int.reduceToNat, Int.reduceEq, Int.reduceLE, Int.reduceLT, Classical.not_not, Nat.reduceLT, ↓zvk_s, ↓zvk_n, ↓s_129_0, ↓s_129_1, ↓s_129_4, ↓s_129_5, ↓s_129_6, ↓s_129_7, ↓s_129_10, ↓s_129_13, ↓s_129_14, ↓s_129_17, ↓s_129_18, ↓s_129_21, ↓s_129_22, ↓s_129_23, ↓s_129_24, ↓s_129_27, ↓g_129_28n, ↓g_129_28i, ↓g_129_28p, ↓k_129_28, ↓s_129_29, ↓s_129_30, ↓s_129_31, ↓s_129_34, ↓s_129_35, ↓s_129_38, ↓s_129_39, ↓s_129_40, ↓s_129_43, ↓s_129_46, ↓s_129_47, ↓s_129_50, ↓s_129_52, ↓s_129_55, ↓s_129_56, ↓s_129_59, ↓s_129_61, ↓s_129_64, ↓s_129_65, ↓s_129_68, ↓s_129_70, ↓s_129_73, ↓s_129_74, ↓s_129_77, ↓s_129_78n, ↓s_129_78i, ↓s_129_78p, ↓s_129_79, ↓s_129_80a, ↓s_129_80b, ↓s_129_81, ↓s_129_84, ↓s_129_85, ↓s_129_88, ↓s_129_89, ↓s_129_92, ↓s_129_93, ↓s_129_94, ↓s_129_97, zar_1, zia_1, zln_1, zit_1, zio_55]
  rw [e1]
  refine ⟨fun h => f29 0 ?_ ?_, fun h => ⟨⟨by (first | exact Nat.le_of_ble_eq_true rfl | exact (fun h => absurd h.1 (by decide)) | omega), by (first | exact Nat.le_of_ble_eq_true rfl | exact (fun h => absurd h.1 (by decide)) | omega)⟩, ?_⟩⟩
  · rw [if_neg (by (first | exact Nat.le_of_ble_eq_true rfl | exact (fun h => absurd h.1 (by decide)) | omega)), w32c_0]; exact Or.inl ⟨by decide, rfl⟩
  · rw [if_neg (by (first | exact Nat.le_of_ble_eq_true rfl | exact (fun h => absurd h.1 (by decide)) | omega))]; exact ⟨by decide, by decide⟩
  · rw [show ((p : Int) + 1).toNat = p + 1 by (first | exact Nat.le_of_ble_eq_true rfl | exact (fun h => absurd h.1 (by decide)) | omega)]
    refine f29 _ ?_ ?_
    · rw [if_pos (by (first | exact Nat.le_of_ble_eq_true rfl | exact (fun h => absurd h.1 (by decide)) | omega))]; exact b1.2.2
    · rw [if_pos (by (first | exact Nat.le_of_ble_eq_true rfl | exact (fun h => absurd h.1 (by decide)) | omega))]; exact ⟨b1.1, b1.2.1⟩
theorem sSg_k (c b : Int) : (sSg c b).1 = 1 ∨ (4 ≤ (sSg c b).1 ∧ (sSg c b).1 ≤ 16) := by
  unfold sSg
  repeat' split
  all_goals decide
theorem sWi_k {v : Int} : ∀ (l : List Int) (i : Nat), sWi l v i = 3 ∨ (i ≤ sWi l v i ∧ sWi l v i < i + l.length)
  | [], _ => Or.inl rfl
  | w :: r, i => by
    simp only [sWi]
    split
    · exact Or.inr ⟨Nat.le_refl _, by simp⟩
    · rcases sWi_k (v := v) r (i + 1) with h | h
      · exact Or.inl h
      · refine Or.inr ⟨by (first | exact Nat.le_of_ble_eq_true rfl | exact (fun h => absurd h.1 (by decide)) | omega), ?_⟩
        rw [List.length_cons]
        (first | exact Nat.le_of_ble_eq_true rfl | exact (fun h => absurd h.1 (by decide)) | omega)
theorem sWk_k (v : Int) : sWk v = 3 ∨ (17 ≤ sWk v ∧ sWk v ≤ 39) := by
  have h := sWi_k (v := v) sWd 17
  have hl : sWd.length = 23 := rfl
  rw [hl] at h
  unfold sWk
  (first | exact Nat.le_of_ble_eq_true rfl | exact (fun h => absurd h.1 (by decide)) | omega)
/-- behind the blanks -/
theorem cn60 (hE : yEok E) (hd : 2 ≤ d) (hs : w32 (mem 55 2) ≤ 800) (hs0 : 0 ≤ w32 (mem 55 2)) (hB0 : cBy mem ch) (hW : cWd mem) (hQ : ∀ m k p v e, aFrm ctF mem m → sTk ch (cen mem) (cat mem) k p v e → w32 (m 55 3) = (e : Int) → w32 (m 55 5) = (p : Int) → w32 (m 55 4) = (k : Int) → sCk (w32 (m 55 6)) k v → Q none m) (hF : aFrm ctF mem m) (hx : w32 (m 55 3) = (p : Int)) (hB : sBk ch (cen mem) (cat mem) p) : zG E (d + 1) xm_126 60 [some (1, 55)] [] m Q := by
  have rr : cen mem = (w32 (mem 55 2)).toNat := rfl
  have hpn := hB.2.1
  have e2 : m 55 2 = mem 55 2 := hF 55 2 rfl
  have hbs := cBy_c hB0 p
  have F1 : aFrm ctF mem (yset (yset m 55 5 (m 55 3)) 55 6 0) := aFrm_set (aFrm_set hF rfl) rfl
  have tr : ∀ m2, aFrm ctF (yset (yset m 55 5 (m 55 3)) 55 6 0) m2 → aFrm ctF mem m2 := fun m2 h i j hij => by rw [h i j hij, F1 i j hij]
  have gB : cBy (yset (yset m 55 5 (m 55 3)) 55 6 0) ch := cBy_fr hB0 F1
  have gW : cWd (yset (yset m 55 5 (m 55 3)) 55 6 0) := fun i hi => by rw [F1 56 i rfl]; exact hW i hi
  have g2 : yset (yset m 55 5 (m 55 3)) 55 6 0 55 2 = mem 55 2 := F1 55 2 rfl
  have gc : cen (yset (yset m 55 5 (m 55 3)) 55 6 0) = cen mem := by show (w32 _).toNat = _; rw [g2]
  have g3 : w32 (yset (yset m 55 5 (m 55 3)) 55 6 0 55 3) = (p : Int) := by rw [yset_d (by decide), yset_d (by decide)]; exact hx
  have g5 : w32 (yset (yset m 55 5 (m 55 3)) 55 6 0 55 5) = (p : Int) := by rw [yset_d (by decide), yset_s]; exact hx
  have g6 : w32 (yset (yset m 55 5 (m 55 3)) 55 6 0 55 6) = 0 := by rw [yset_s]; decide
  refine zgo_ok (n := 60) hE xmo_126 (cs := zc_126) ?_
  simp only [ynok_30, ynok_31, w32c_0, w32c_1, w32c_2, w32c_3, w32c_4, w32c_5, w32c_6, w32c_7, w32c_8, w32c_9, w32c_10, w32c_11, w32c_12, w32c_13, w32c_14, w32c_m1, w32c_m2, w32c_118, Int.reduceAdd, Int.reduceSub, Int.reduceMul, yput_s, yput_n, znl_n, znl_0, znl_1, znl_4, ysum_n, ysum_0, ysum_1, ysum_4, true_and, and_true, Nat.reduceAdd, Nat.reduceLeDiff, true_implies, eq_self, true_or, or_true, or_false, false_or, not_true_eq_false, not_false_eq_true, false_implies, implies_true, yset_s, yset_o, yset_d, ne_eq, Nat.reduceEqDiff, Int.reduceToNat, Int.reduceEq, Int.reduceLE, Int.reduceLT, Classical.not_not, Nat.reduceLT, ↓zvk_s, ↓zvk_n, ↓s_126_0, ↓s_126_1, ↓s_126_4, ↓s_126_7, ↓g_126_8, ↓k_126_8, ↓s_126_9, ↓s_126_12, ↓s_126_13, ↓s_126_16, ↓s_126_19, ↓s_126_20, ↓s_126_23, ↓s_126_24, ↓s_126_27, ↓s_126_28, ↓s_126_30, ↓s_126_33, ↓s_126_34, ↓s_126_37, ↓s_126_38, ↓s_126_41, ↓s_126_42, ↓s_126_44, ↓s_126_47, ↓s_126_48a, ↓s_126_48b, ↓s_126_49, ↓s_126_52, ↓s_126_53, ↓s_126_54, ↓s_126_57, ↓g_126_60, ↓k_126_60, ↓s_126_61, ↓s_126_62, ↓s_126_65, ↓s_126_68, ↓s_126_69, ↓s_126_70, ↓s_126_73, ↓s_126_74, ↓s_126_77, ↓s_126_78, ↓s_126_81, ↓s_126_84, ↓s_126_85, ↓s_126_86, ↓s_126_89, ↓s_126_92, ↓s_126_93, ↓s_126_96, ↓s_126_97, ↓s_126_100, ↓s_126_101, ↓s_126_104, ↓s_126_107, ↓s_126_108, ↓s_126_111, ↓s_126_114, ↓s_126_115, ↓s_126_118, ↓s_126_119, ↓s_126_122, ↓s_126_123, ↓s_126_126, ↓s_126_129, ↓s_126_130, ↓s_126_133, ↓s_126_136, ↓s_126_137, ↓s_126_140, w32c_32, ↓s_125_0, ↓s_125_1, ↓s_125_3, ↓s_125_6, ↓s_125_7, ↓s_125_9, ↓s_125_12, ↓s_125_13, ↓s_125_16, ↓s_125_17, w32c_97, w32c_122, ↓s_124_0, ↓s_124_1, ↓s_124_3, ↓s_124_6, ↓s_124_7, ↓s_124_9, ↓s_124_12, ↓s_124_13, ↓s_124_16, ↓s_124_17, w32c_48, w32c_57, zar_1, zia_1, zln_1, zit_1, zio_55]
  rw [e2, hx, hF 1 _ rfl, Int.toNat_natCast]
  have wd : 97 ≤ ch p → ch p ≤ 122 → p < cen mem → yCon E (d + 1) xm_130 [(1, 55)] (yset (yset m 55 5 (m 55 3)) 55 6 0) (fun v mem' => zgk E (d + 1) xm_126 111 [some (1, 55)] [] v mem' Q) := fun a1 a2 a3 => by
    refine f_readWord (p := p) hE (by (first | exact Nat.le_of_ble_eq_true rfl | exact (fun h => absurd h.1 (by decide)) | omega)) (by rw [g2]; exact hs) gB gW g5 g3 (by rw [gc]; exact a3) g6 (fun m2 x f1 f2 f3 f4 f5 => ?_)
    rw [gc] at f2
    refine zgk_n hE xmo_126 60 zc_126 ?_
    simp only [ynok_30, ynok_31, w32c_0, w32c_1, w32c_2, w32c_3, w32c_4, w32c_5, w32c_6, w32c_7, w32c_8, w32c_9, w32c_10, w32c_11, w32c_12, w32c_13, w32c_14, w32c_m1, w32c_m2, w32c_118, Int.reduceAdd, Int.reduceSub, Int.reduceMul, yput_s, yput_n, znl_n, znl_0, znl_1, znl_4, ysum_n, ysum_0, ysum_1, ysum_4, true_and, and_true, Nat.reduceAdd, Nat.reduceLeDiff, true_implies, eq_self, true_or, or_true, or_false, false_or, not_true_eq_false, not_false_eq_true, false_implies, implies_true, yset_s, yset_o, yset_d, ne_eq, Nat.reduceEqDiff, Int.reduceToNat, Int.reduceEq, Int.reduceLE, Int.reduceLT, Classical.not_not, Nat.reduceLT, ↓zvk_s, ↓zvk_n, ↓s_126_0, ↓s_126_1, ↓s_126_4, ↓s_126_7, ↓g_126_8, ↓k_126_8, ↓s_126_9, ↓s_126_12, ↓s_126_13, ↓s_126_16, ↓s_126_19, ↓s_126_20, ↓s_126_23, ↓s_126_24, ↓s_126_27, ↓s_126_28, ↓s_126_30, ↓s_126_33, ↓s_126_34, ↓s_126_37, ↓s_126_38, ↓s_126_41, ↓s_126_42, ↓s_126_44, ↓s_126_47, ↓s_126_48a, ↓s_126_48b, ↓s_126_49, ↓s_126_52, ↓s_126_53, ↓s_126_54, ↓s_126_57, ↓g_126_60, ↓k_126_60, ↓s_126_61, ↓s_126_62, ↓s_126_65, ↓s_126_68, ↓s_126_69, ↓s_126_70, ↓s_126_73, ↓s_126_74, ↓s_126_77, ↓s_126_78, ↓s_126_81, ↓s_126_84, ↓s_126_85, ↓s_126_86, ↓s_126_89, ↓s_126_92, ↓s_126_93, ↓s_126_96, ↓s_126_97, ↓s_126_100, ↓s_126_101, ↓s_126_104, ↓s_126_107, ↓s_126_108, ↓s_126_111, ↓s_126_114, ↓s_126_115, ↓s_126_118, ↓s_126_119, ↓s_126_122, ↓s_126_123, ↓s_126_126, ↓s_126_129, ↓s_126_130, ↓s_126_133, ↓s_126_136, ↓s_126_137, ↓s_126_140, w32c_32, zar_1, zia_1, zln_1, zit_1, zio_55]
    rcases f5 with ⟨c1, c2⟩ | ⟨c1, c2, c3⟩
    · exact hQ m2 1 p 0 x (tr m2 f1) ⟨hB, Or.inr (Or.inl ⟨a3, ⟨a1, a2⟩, f2, Or.inl ⟨c1, rfl, rfl⟩⟩)⟩ f3 f4 c2 (Or.inr (Or.inr (Or.inr (Or.inl rfl))))
    · refine hQ m2 (sWk (sPk ch p x)) p (sPk ch p x) x (tr m2 f1) ⟨hB, Or.inr (Or.inl ⟨a3, ⟨a1, a2⟩, f2, Or.inr ⟨c1, rfl, rfl⟩⟩)⟩ f3 f4 c2 (Or.inr (Or.inl ⟨?_, c3⟩))
      rcases sWk_k (sPk ch p x) with h | h
      · exact Or.inl h
      · exact Or.inr h.1
  have nm : 48 ≤ ch p → ch p ≤ 57 → p < cen mem → yCon E (d + 1) xm_128 [(1, 55)] (yset (yset m 55 5 (m 55 3)) 55 6 0) (fun v mem' => zgk E (d + 1) xm_126 133 [some (1, 55)] [] v mem' Q) := fun a1 a2 a3 => by
    refine f_readNumber (p := p) hE (by (first | exact Nat.le_of_ble_eq_true rfl | exact (fun h => absurd h.1 (by decide)) | omega)) (by rw [g2]; exact hs) gB g5 g3 (by rw [gc]; exact a3) g6 (fun m2 x f1 f2 f3 f4 f5 f6 f7 => ?_)
    rw [gc] at f2
    refine zgk_n hE xmo_126 60 zc_126 ?_
    simp only [ynok_30, ynok_31, w32c_0, w32c_1, w32c_2, w32c_3, w32c_4, w32c_5, w32c_6, w32c_7, w32c_8, w32c_9, w32c_10, w32c_11, w32c_12, w32c_13, w32c_14, w32c_m1, w32c_m2, w32c_118, Int.reduceAdd, Int.reduceSub, Int.reduceMul, yput_s, yput_n, znl_n, znl_0, znl_1, znl_4, ysum_n, ysum_0, ysum_1, ysum_4, true_and, and_true, Nat.reduceAdd, Nat.reduceLeDiff, true_implies, eq_self, true_or, or_true, or_false, false_or, not_true_eq_false, not_false_eq_true, false_implies, implies_true, yset_s, yset_o, yset_d, ne_eq, Nat.reduceEqDiff, Int.reduceToNat, Int.reduceEq, Int.reduceLE, Int.reduceLT, Classical.not_not, Nat.reduceLT, ↓zvk_s, ↓zvk_n, ↓s_126_0, ↓s_126_1, ↓s_126_4, ↓s_126_7, ↓g_126_8, ↓k_126_8, ↓s_126_9, ↓s_126_12, ↓s_126_13, ↓s_126_16, ↓s_126_19, ↓s_126_20, ↓s_126_23, ↓s_126_24, ↓s_126_27, ↓s_126_28, ↓s_126_30, ↓s_126_33, ↓s_126_34, ↓s_126_37, ↓s_126_38, ↓s_126_41, ↓s_126_42, ↓s_126_44, ↓s_126_47, ↓s_126_48a, ↓s_126_48b, ↓s_126_49, ↓s_126_52, ↓s_126_53, ↓s_126_54, ↓s_126_57, ↓g_126_60, ↓k_126_60, ↓s_126_61, ↓s_126_62, ↓s_126_65, ↓s_126_68, ↓s_126_69, ↓s_126_70, ↓s_126_73, ↓s_126_74, ↓s_126_77, ↓s_126_78, ↓s_126_81, ↓s_126_84, ↓s_126_85, ↓s_126_86, ↓s_126_89, ↓s_126_92, ↓s_126_93, ↓s_126_96, ↓s_126_97, ↓s_126_100, ↓s_126_101, ↓s_126_104, ↓s_126_107, ↓s_126_108, ↓s_126_111, ↓s_126_114, ↓s_126_115, ↓s_126_118, ↓s_126_119, ↓s_126_122, ↓s_126_123, ↓s_126_126, ↓s_126_129, ↓s_126_130, ↓s_126_133, ↓s_126_136, ↓s_126_137, ↓s_126_140, w32c_32, zar_1, zia_1, zln_1, zit_1, zio_55]
    exact hQ m2 2 p (sNm ch p (x - p)) x (tr m2 f1) ⟨hB, Or.inr (Or.inr (Or.inl ⟨a3, ⟨a1, a2⟩, f2, rfl, rfl⟩))⟩ f3 f4 f5 (Or.inl ⟨rfl, f6, f7⟩)
  have sg : ¬ (97 ≤ ch p ∧ ch p ≤ 122) → ¬ (48 ≤ ch p ∧ ch p ≤ 57) → p < cen mem → yCon E (d + 1) xm_129 [(1, 55)] (yset (yset m 55 5 (m 55 3)) 55 6 0) (fun v mem' => zgk E (d + 1) xm_126 140 [some (1, 55)] [] v mem' Q) := fun a1 a2 a3 => by
    refine f_readSign (p := p) hE (by (first | exact Nat.le_of_ble_eq_true rfl | exact (fun h => absurd h.1 (by decide)) | omega)) (by rw [g2]; exact hs) gB g3 (by rw [gc]; exact a3) (fun m2 f1 f2 f3 f4 => ?_)
    rw [gc] at f2 f4
    refine zgk_n hE xmo_126 60 zc_126 ?_
    simp only [ynok_30, ynok_31, w32c_0, w32c_1, w32c_2, w32c_3, w32c_4, w32c_5, w32c_6, w32c_7, w32c_8, w32c_9, w32c_10, w32c_11, w32c_12, w32c_13, w32c_14, w32c_m1, w32c_m2, w32c_118, Int.reduceAdd, Int.reduceSub, Int.reduceMul, yput_s, yput_n, znl_n, znl_0, znl_1, znl_4, ysum_n, ysum_0, ysum_1, ysum_4, true_and, and_true, Nat.reduceAdd, Nat.reduceLeDiff, true_implies, eq_self, true_or, or_true, or_false, false_or, not_true_eq_false, not_false_eq_true, false_implies, implies_true, yset_s, yset_o, yset_d, ne_eq, Nat.reduceEqDiff, Int.reduceToNat, Int.reduceEq, Int.reduceLE, Int.reduceLT, Classical.not_not, Nat.reduceLT, ↓zvk_s, ↓zvk_n, ↓s_126_0, ↓s_126_1, ↓s_126_4, ↓s_126_7, ↓g_126_8, ↓k_126_8, ↓s_126_9, ↓s_126_12, ↓s_126_13, ↓s_126_16, ↓s_126_19, ↓s_126_20, ↓s_126_23, ↓s_126_24, ↓s_126_27, ↓s_126_28, ↓s_126_30, ↓s_126_33, ↓s_126_34, ↓s_126_37, ↓s_126_38, ↓s_126_41, ↓s_126_42, ↓s_126_44, ↓s_126_47, ↓s_126_48a, ↓s_126_48b, ↓s_126_49, ↓s_126_52, ↓s_126_53, ↓s_126_54, ↓s_126_57, ↓g_126_60, ↓k_126_60, ↓s_126_61, ↓s_126_62, ↓s_126_65, ↓s_126_68, ↓s_126_69, ↓s_126_70, ↓s_126_73, ↓s_126_74, ↓s_126_77, ↓s_126_78, ↓s_126_81, ↓s_126_84, ↓s_126_85, ↓s_126_86, ↓s_126_89, ↓s_126_92, ↓s_126_93, ↓s_126_96, ↓s_126_97, ↓s_126_100, ↓s_126_101, ↓s_126_104, ↓s_126_107, ↓s_126_108, ↓s_126_111, ↓s_126_114, ↓s_126_115, ↓s_126_118, ↓s_126_119, ↓s_126_122, ↓s_126_123, ↓s_126_126, ↓s_126_129, ↓s_126_130, ↓s_126_133, ↓s_126_136, ↓s_126_137, ↓s_126_140, w32c_32, zar_1, zia_1, zln_1, zit_1, zio_55]
    refine hQ m2 _ p 0 (p + (sSg (ch p) (if p + 1 < cen mem then ch (p + 1) else 0)).2) (tr m2 f1) ⟨hB, Or.inr (Or.inr (Or.inr ⟨a3, a1, a2, rfl, rfl, rfl⟩))⟩ (by rw [f2]; exact (Int.natCast_add p _).symm) (by rw [f3]; exact g5) f4 ?_
    rcases sSg_k (ch p) (if p + 1 < cen mem then ch (p + 1) else 0) with h | h
    · exact Or.inr (Or.inr (Or.inr (Or.inl h)))
    · exact Or.inr (Or.inr (Or.inr (Or.inr h)))
  have mid : p < cen mem → ¬ (97 ≤ ch p ∧ ch p ≤ 122) → ((0 ≤ (p : Int) ∧ (p : Int) < ((800 : Nat) : Int)) ∧ (w32 (mem 1 p) < 48 → yCon E (d + 1) xm_129 [(1, 55)] (yset (yset m 55 5 (m 55 3)) 55 6 0) (fun v mem' => zgk E (d + 1) xm_126 140 [some (1, 55)] [] v mem' Q)) ∧ (¬ w32 (mem 1 p) < 48 → (57 < w32 (mem 1 p) → yCon E (d + 1) xm_129 [(1, 55)] (yset (yset m 55 5 (m 55 3)) 55 6 0) (fun v mem' => zgk E (d + 1) xm_126 140 [some (1, 55)] [] v mem' Q)) ∧ (¬ 57 < w32 (mem 1 p) → yCon E (d + 1) xm_128 [(1, 55)] (yset (yset m 55 5 (m 55 3)) 55 6 0) (fun v mem' => zgk E (d + 1) xm_126 133 [some (1, 55)] [] v mem' Q)))) := fun a3 n1 => ⟨⟨by (first | exact Nat.le_of_ble_eq_true rfl | exact (fun h => absurd h.1 (by decide)) | omega), by (first | exact Nat.le_of_ble_eq_true rfl | exact (fun h => absurd h.1 (by decide)) | omega)⟩, fun h => sg n1 (by (first | exact Nat.le_of_ble_eq_true rfl | exact (fun h => absurd h.1 (by decide)) | omega)) a3, fun h48 => ⟨fun h => sg n1 (by (first | exact Nat.le_of_ble_eq_true rfl | exact (fun h => absurd h.1 (by decide)) | omega)) a3, fun h57 => nm (by (first | exact Nat.le_of_ble_eq_true rfl | exact (fun h => absurd h.1 (by decide)) | omega)) (by (first | exact Nat.le_of_ble_eq_true rfl | exact (fun h => absurd h.1 (by decide)) | omega)) a3⟩⟩
  refine ⟨fun h => ⟨⟨by (first | exact Nat.le_of_ble_eq_true rfl | exact (fun h => absurd h.1 (by decide)) | omega), by (first | exact Nat.le_of_ble_eq_true rfl | exact (fun h => absurd h.1 (by decide)) | omega)⟩, fun h97 => mid (by (first | exact Nat.le_of_ble_eq_true rfl | exact (fun h => absurd h.1 (by decide)) | omega)) (by (first | exact Nat.le_of_ble_eq_true rfl | exact (fun h => absurd h.1 (by decide)) | omega)), fun h97 => ⟨fun h122 => mid (by (first | exact Nat.le_of_ble_eq_true rfl | exact (fun h => absurd h.1 (by decide)) | omega)) (by (first | exact Nat.le_of_ble_eq_true rfl | exact (fun h => absurd h.1 (by decide)) | omega)), fun h122 => wd (by (first | exact Nat.le_of_ble_eq_true rfl | exact (fun h => absurd h.1 (by decide)) | omega)) (by (first | exact Nat.le_of_ble_eq_true rfl | exact (fun h => absurd h.1 (by decide)) | omega)) (by (first | exact Nat.le_of_ble_eq_true rfl | exact (fun h => absurd h.1 (by decide)) | omega))⟩⟩, fun h => ?_⟩
  have ep : p = cen mem := by (first | exact Nat.le_of_ble_eq_true rfl | exact (fun h => absurd h.1 (by decide)) | omega)
  refine hQ _ 0 p 0 p (aFrm_set F1 rfl) ⟨hB, Or.inl ⟨ep, rfl, rfl, ep⟩⟩ ?_ ?_ ?_ (Or.inr (Or.inr (Or.inl rfl)))
  · rw [yset_d (by decide)]; exact g3
  · rw [yset_d (by decide)]; exact g5
  · rw [yset_s]; decide
theorem cn8 (hE : yEok E) (hd : 2 ≤ d) (hs : w32 (mem 55 2) ≤ 800) (hs0 : 0 ≤ w32 (mem 55 2)) (hB0 : cBy mem ch) (hW : cWd mem) (hQ : ∀ m k p v e, aFrm ctF mem m → sTk ch (cen mem) (cat mem) k p v e → w32 (m 55 3) = (e : Int) → w32 (m 55 5) = (p : Int) → w32 (m 55 4) = (k : Int) → sCk (w32 (m 55 6)) k v → Q none m) : ∀ (c : Nat) (m : yMem) (x : Nat), cen mem - x = c → aFrm ctF mem m → w32 (m 55 3) = (x : Int) → cat mem ≤ x → x ≤ cen mem → (∀ j, cat mem ≤ j → j < x → ch j = 10 ∨ ch j = 32) → zG E (d + 1) xm_126 8 [some (1, 55)] [] m Q := by
  have rr : cen mem = (w32 (mem 55 2)).toNat := rfl
  intro c
  induction c with
  | zero =>
    intro m x hc hF hx h1 h2 hA
    have fin := cn60 hE hd hs hs0 hB0 hW hQ hF hx ⟨h1, h2, hA, fun h => absurd h (by (first | exact Nat.le_of_ble_eq_true rfl | exact (fun h => absurd h.1 (by decide)) | omega))⟩
    refine zgo_ok (n := 60) hE xmo_126 (cs := zc_126) ?_
    have e2 : m 55 2 = mem 55 2 := hF 55 2 rfl
    simp only [ynok_30, ynok_31, w32c_0, w32c_1, w32c_2, w32c_3, w32c_4, w32c_5, w32c_6, w32c_7, w32c_8, w32c_9, w32c_10, w32c_11, w32c_12, w32c_13, w32c_14, w32c_m1, w32c_m2, w32c_118, Int.reduceAdd, Int.reduceSub, Int.reduceMul, yput_s, yput_n, znl_n, znl_0, znl_1, znl_4, ysum_n, ysum_0, ysum_1, ysum_4, true_and, and_true, Nat.reduceAdd, Nat.reduceLeDiff, true_implies, eq_self, true_or, or_true, or_false, false_or, not_true_eq_false, not_false_eq_true, false_implies, implies_true, yset_s, yset_o, yset_d, ne_eq, Nat.reduceEqDiff, Int.reduceToNat, Int.reduceEq, Int.reduceLE, Int.reduceLT, Classical.not_not, Nat.reduceLT, ↓zvk_s, ↓zvk_n, ↓s_126_0, ↓s_126_1, ↓s_126_4, ↓s_126_7, ↓g_126_8, ↓k_126_8, ↓s_126_9, ↓s_126_12, ↓s_126_13, ↓s_126_16, ↓s_126_19, ↓s_126_20, ↓s_126_23, ↓s_126_24, ↓s_126_27, ↓s_126_28, ↓s_126_30, ↓s_126_33, ↓s_126_34, ↓s_126_37, ↓s_126_38, ↓s_126_41, ↓s_126_42, ↓s_126_44, ↓s_126_47, ↓s_126_48a, ↓s_126_48b, ↓s_126_49, ↓s_126_52, ↓s_126_53, ↓s_126_54, ↓s_126_57, ↓g_126_60, ↓k_126_60, ↓s_126_61, ↓s_126_62, ↓s_126_65, ↓s_126_68, ↓s_126_69, ↓s_126_70, ↓s_126_73, ↓s_126_74, ↓s_126_77, ↓s_126_78, ↓s_126_81, ↓s_126_84, ↓s_126_85, ↓s_126_86, ↓s_126_89, ↓s_126_92, ↓s_126_93, ↓s_126_96, ↓s_126_97, ↓s_126_100, ↓s_126_101, ↓s_126_104, ↓s_126_107, ↓s_126_108, ↓s_126_111, ↓s_126_114, ↓s_126_115, ↓s_126_118, ↓s_126_119, ↓s_126_122, ↓s_126_123, ↓s_126_126, ↓s_126_129, ↓s_126_130, ↓s_126_133, ↓s_126_136, ↓s_126_137, ↓s_126_140, w32c_32, zar_1, zia_1, zln_1, zit_1, zio_55]
    rw [e2, hx]
    exact ⟨fun _ => fin, fun h => absurd (show w32 (mem 55 2) ≤ (x : Int) by (first | exact Nat.le_of_ble_eq_true rfl | exact (fun h => absurd h.1 (by decide)) | omega)) h⟩
  | succ c ih =>
    intro m x hc hF hx h1 h2 hA
    have e1 : w32 (m 55 3 + 1) = (x : Int) + 1 := by rw [w32_ad (by rw [w32c_1]; (first | exact Nat.le_of_ble_eq_true rfl | exact (fun h => absurd h.1 (by decide)) | omega)) (by rw [w32c_1]; (first | exact Nat.le_of_ble_eq_true rfl | exact (fun h => absurd h.1 (by decide)) | omega)), w32c_1, hx]
    have hbs := cBy_c hB0 x
    have fin : ¬ (ch x = 10 ∨ ch x = 32) → zG E (d + 1) xm_126 60 [some (1, 55)] [] m Q := fun hn => cn60 hE hd hs hs0 hB0 hW hQ hF hx ⟨h1, h2, hA, fun _ => hn⟩
    have go : (ch x = 10 ∨ ch x = 32) → zG E (d + 1) xm_126 8 [some (1, 55)] [] (yset m 55 3 (m 55 3 + 1)) Q := fun hy => ih _ (x + 1) (by (first | exact Nat.le_of_ble_eq_true rfl | exact (fun h => absurd h.1 (by decide)) | omega)) (aFrm_set hF rfl) (by rw [yset_s, e1]; (first | exact Nat.le_of_ble_eq_true rfl | exact (fun h => absurd h.1 (by decide)) | omega)) (by (first | exact Nat.le_of_ble_eq_true rfl | exact (fun h => absurd h.1 (by decide)) | omega)) (by (first | exact Nat.le_of_ble_eq_true rfl | exact (fun h => absurd h.1 (by decide)) | omega)) (fun j j1 j2 => by
      by_cases hj : j = x
      · subst hj; exact hy
      · exact hA j j1 (by (first | exact Nat.le_of_ble_eq_true rfl | exact (fun h => absurd h.1 (by decide)) | omega)))
    refine zgo_ok (n := 60) hE xmo_126 (cs := zc_126) ?_
    have e2 : m 55 2 = mem 55 2 := hF 55 2 rfl
    simp only [ynok_30, ynok_31, w32c_0, w32c_1, w32c_2, w32c_3, w32c_4, w32c_5, w32c_6, w32c_7, w32c_8, w32c_9, w32c_10, w32c_11, w32c_12, w32c_13, w32c_14, w32c_m1, w32c_m2, w32c_118, Int.reduceAdd, Int.reduceSub, Int.reduceMul, yput_s, yput_n, znl_n, znl_0, znl_1, znl_4, ysum_n, ysum_0, ysum_1, ysum_4, true_and, and_true, Nat.reduceAdd, Nat.reduceLeDiff, true_implies, eq_self, true_or, or_true, or_false, false_or, not_true_eq_false, not_false_eq_true, false_implies, implies_true, yset_s, yset_o, yset_d, ne_eq, Nat.reduceEqDiff, Int.reduceToNat, Int.reduceEq, Int.reduceLE, Int.reduceLT, Classical.not_not, Nat.reduceLT, ↓zvk_s, ↓zvk_n, ↓s_126_0, ↓s_126_1, ↓s_126_4, ↓s_126_7, ↓g_126_8, ↓k_126_8, ↓s_126_9, ↓s_126_12, ↓s_126_13, ↓s_126_16, ↓s_126_19, ↓s_126_20, ↓s_126_23, ↓s_126_24, ↓s_126_27, ↓s_126_28, ↓s_126_30, ↓s_126_33, ↓s_126_34, ↓s_126_37, ↓s_126_38, ↓s_126_41, ↓s_126_42, ↓s_126_44, ↓s_126_47, ↓s_126_48a, ↓s_126_48b, ↓s_126_49, ↓s_126_52, ↓s_126_53, ↓s_126_54, ↓s_126_57, ↓g_126_60, ↓k_126_60, ↓s_126_61, ↓s_126_62, ↓s_126_65, ↓s_126_68, ↓s_126_69, ↓s_126_70, ↓s_126_73, ↓s_126_74, ↓s_126_77, ↓s_126_78, ↓s_126_81, ↓s_126_84, ↓s_126_85, ↓s_126_86, ↓s_126_89, ↓s_126_92, ↓s_126_93, ↓s_126_96, ↓s_126_97, ↓s_126_100, ↓s_126_101, ↓s_126_104, ↓s_126_107, ↓s_126_108, ↓s_126_111, ↓s_126_114, ↓s_126_115, ↓s_126_118, ↓s_126_119, ↓s_126_122, ↓s_126_123, ↓s_126_126, ↓s_126_129, ↓s_126_130, ↓s_126_133, ↓s_126_136, ↓s_126_137, ↓s_126_140, w32c_32, zar_1, zia_1, zln_1, zit_1, zio_55]
    rw [e2, hx, hF 1 _ rfl, Int.toNat_natCast]
    exact ⟨fun h => absurd h (by (first | exact Nat.le_of_ble_eq_true rfl | exact (fun h => absurd h.1 (by decide)) | omega)), fun _ => ⟨⟨by (first | exact Nat.le_of_ble_eq_true rfl | exact (fun h => absurd h.1 (by decide)) | omega), by (first | exact Nat.le_of_ble_eq_true rfl | exact (fun h => absurd h.1 (by decide)) | omega)⟩, fun h => go (by (first | exact Nat.le_of_ble_eq_true rfl | exact (fun h => absurd h.1 (by decide)) | omega)), fun h10 => ⟨⟨by (first | exact Nat.le_of_ble_eq_true rfl | exact (fun h => absurd h.1 (by decide)) | omega), by (first | exact Nat.le_of_ble_eq_true rfl | exact (fun h => absurd h.1 (by decide)) | omega)⟩, fun h => fin (by (first | exact Nat.le_of_ble_eq_true rfl | exact (fun h => absurd h.1 (by decide)) | omega)), fun h => go (by (first | exact Nat.le_of_ble_eq_true rfl | exact (fun h => absurd h.1 (by decide)) | omega))⟩⟩⟩
/-- the class's next, with no FAULT so far, and behind one -/
theorem f_next (hE : yEok E) {D : Nat} (hD : 4 ≤ D) (hs : w32 (mem 55 2) ≤ 800) (ha : 0 ≤ w32 (mem 55 3)) (ha2 : w32 (mem 55 3) ≤ w32 (mem 55 2)) (hB0 : cBy mem ch) (hW : cWd mem) (hf : w32 (mem 55 7) = 0) (hQ : ∀ m k p v e, aFrm ctF mem m → sTk ch (cen mem) (cat mem) k p v e → w32 (m 55 3) = (e : Int) → w32 (m 55 5) = (p : Int) → w32 (m 55 4) = (k : Int) → sCk (w32 (m 55 6)) k v → Q none m) : yCon E D xm_126 [(1, 55)] mem Q := by
  obtain ⟨d, rfl⟩ := Nat.exists_eq_add_of_le' hD
  have rr : cen mem = (w32 (mem 55 2)).toNat := rfl
  have ra : cat mem = (w32 (mem 55 3)).toNat := rfl
  refine e_126 ?_
  refine zvc_ok hE 60 zc_126 _ _ _ _ _ _ _ xmo_126 ?_
  simp only [ynok_30, ynok_31, w32c_0, w32c_1, w32c_2, w32c_3, w32c_4, w32c_5, w32c_6, w32c_7, w32c_8, w32c_9, w32c_10, w32c_11, w32c_12, w32c_13, w32c_14, w32c_m1, w32c_m2, w32c_118, Int.reduceAdd, Int.reduceSub, Int.reduceMul, yput_s, yput_n, znl_n, znl_0, znl_1, znl_4, ysum_n, ysum_0, ysum_1, ysum_4, true_and, and_true, Nat.reduceAdd, Nat.reduceLeDiff, true_implies, eq_self, true_or, or_true, or_false, false_or, not_true_eq_false, not_false_eq_true, false_implies, implies_true, yset_s, yset_o, yset_d, ne_eq, Nat.reduceEqDiff, Int.reduceToNat, Int.reduceEq, Int.reduceLE, Int.reduceLT, Classical.not_not, Nat.reduceLT, ↓zvk_s, ↓zvk_n, ↓s_126_0, ↓s_126_1, ↓s_126_4, ↓s_126_7, ↓g_126_8, ↓k_126_8, ↓s_126_9, ↓s_126_12, ↓s_126_13, ↓s_126_16, ↓s_126_19, ↓s_126_20, ↓s_126_23, ↓s_126_24, ↓s_126_27, ↓s_126_28, ↓s_126_30, ↓s_126_33, ↓s_126_34, ↓s_126_37, ↓s_126_38, ↓s_126_41, ↓s_126_42, ↓s_126_44, ↓s_126_47, ↓s_126_48a, ↓s_126_48b, ↓s_126_49, ↓s_126_52, ↓s_126_53, ↓s_126_54, ↓s_126_57, ↓g_126_60, ↓k_126_60, ↓s_126_61, ↓s_126_62, ↓s_126_65, ↓s_126_68, ↓s_126_69, ↓s_126_70, ↓s_126_73, ↓s_126_74, ↓s_126_77, ↓s_126_78, ↓s_126_81, ↓s_126_84, ↓s_126_85, ↓s_126_86, ↓s_126_89, ↓s_126_92, ↓s_126_93, ↓s_126_96, ↓s_126_97, ↓s_126_100, ↓s_126_101, ↓s_126_104, ↓s_126_107, ↓s_126_108, ↓s_126_111, ↓s_126_114, ↓s_126_115, ↓s_126_118, ↓s_126_119, ↓s_126_122, ↓s_126_123, ↓s_126_126, ↓s_126_129, ↓s_126_130, ↓s_126_133, ↓s_126_136, ↓s_126_137, ↓s_126_140, w32c_32, zar_1, zia_1, zln_1, zit_1, zio_55]
  exact ⟨fun _ => cn8 hE (by (first | exact Nat.le_of_ble_eq_true rfl | exact (fun h => absurd h.1 (by decide)) | omega)) hs (by (first | exact Nat.le_of_ble_eq_true rfl | exact (fun h => absurd h.1 (by decide)) | omega)) hB0 hW hQ _ _ (cat mem) rfl aFrm_rf (by (first | exact Nat.le_of_ble_eq_true rfl | exact (fun h => absurd h.1 (by decide)) | omega)) (Nat.le_refl _) (by (first | exact Nat.le_of_ble_eq_true rfl | exact (fun h => absurd h.1 (by decide)) | omega)) (fun j j1 j2 => absurd j2 (by (first | exact Nat.le_of_ble_eq_true rfl | exact (fun h => absurd h.1 (by decide)) | omega))), fun h => absurd hf h⟩
theorem f_nextF (hE : yEok E) {D : Nat} (hD : 1 ≤ D) (hf : ¬ w32 (mem 55 7) = 0) (hQ : Q none mem) : yCon E D xm_126 [(1, 55)] mem Q := by
  obtain ⟨d, rfl⟩ := Nat.exists_eq_add_of_le' hD
  refine e_126 ?_
  refine zvc_ok hE 60 zc_126 _ _ _ _ _ _ _ xmo_126 ?_
  simp only [ynok_30, ynok_31, w32c_0, w32c_1, w32c_2, w32c_3, w32c_4, w32c_5, w32c_6, w32c_7, w32c_8, w32c_9, w32c_10, w32c_11, w32c_12, w32c_13, w32c_14, w32c_m1, w32c_m2, w32c_118, Int.reduceAdd, Int.reduceSub, Int.reduceMul, yput_s, yput_n, znl_n, znl_0, znl_1, znl_4, ysum_n, ysum_0, ysum_1, ysum_4, true_and, and_true, Nat.reduceAdd, Nat.reduceLeDiff, true_implies, eq_self, true_or, or_true, or_false, false_or, not_true_eq_false, not_false_eq_true, false_implies, implies_true, yset_s, yset_o, yset_d, ne_eq, Nat.reduceEqDiff, Int.reduceToNat, Int.reduceEq, Int.reduceLE, Int.reduceLT, Classical.not_not, Nat.reduceLT, ↓zvk_s, ↓zvk_n, ↓s_126_0, ↓s_126_1, ↓s_126_4, ↓s_126_7, ↓g_126_8, ↓k_126_8, ↓s_126_9, ↓s_126_12, ↓s_126_13, ↓s_126_16, ↓s_126_19, ↓s_126_20, ↓s_126_23, ↓s_126_24, ↓s_126_27, ↓s_126_28, ↓s_126_30, ↓s_126_33, ↓s_126_34, ↓s_126_37, ↓s_126_38, ↓s_126_41, ↓s_126_42, ↓s_126_44, ↓s_126_47, ↓s_126_48a, ↓s_126_48b, ↓s_126_49, ↓s_126_52, ↓s_126_53, ↓s_126_54, ↓s_126_57, ↓g_126_60, ↓k_126_60, ↓s_126_61, ↓s_126_62, ↓s_126_65, ↓s_126_68, ↓s_126_69, ↓s_126_70, ↓s_126_73, ↓s_126_74, ↓s_126_77, ↓s_126_78, ↓s_126_81, ↓s_126_84, ↓s_126_85, ↓s_126_86, ↓s_126_89, ↓s_126_92, ↓s_126_93, ↓s_126_96, ↓s_126_97, ↓s_126_100, ↓s_126_101, ↓s_126_104, ↓s_126_107, ↓s_126_108, ↓s_126_111, ↓s_126_114, ↓s_126_115, ↓s_126_118, ↓s_126_119, ↓s_126_122, ↓s_126_123, ↓s_126_126, ↓s_126_129, ↓s_126_130, ↓s_126_133, ↓s_126_136, ↓s_126_137, ↓s_126_140, w32c_32, zar_1, zia_1, zln_1, zit_1, zio_55]
  exact ⟨fun h => absurd h hf, fun _ => hQ⟩
end CN
end
section
/-! AN E, twice: as the reference goes down its grammar (rd), as the class holds back its signs (sy). A token: kind, place, value. A state: tokens, knots counted, open ones, knots put (the last one first). A FAULT: kind (0: no fuel left), place -/
abbrev sT : Type := Nat × Nat × Int
abbrev sK : Type := List (Nat × Int)
abbrev sU : Type := List sT × Nat × Nat × sK
abbrev sX : Type := (Nat × Nat) ⊕ sU
def sHd (l : List sT) : sT := l.headD (0, 0, 0)
def sLv (k : Nat) : Nat := if k = 30 then 1 else if k = 31 then 2 else if k = 32 then 3 else if 7 ≤ k ∧ k ≤ 12 then 4 else if k = 13 ∨ k = 14 then 5 else if k = 15 ∨ k = 16 then 6 else 0
def sTp (w : List Nat) : Nat := match w with
  | [] => 0
  | k :: _ => sLv k
def sBd (x : sX) (f : sU → sX) : sX := match x with
  | .inl e => .inl e
  | .inr u => f u
/-- one knot more, if there is room -/
def sKn (p : Nat) (u : sU) (f : sU → sX) : sX := if u.2.1 = 64 then .inl (2, p) else f (u.1, u.2.1 + 1, u.2.2)
def rd : Nat → Nat → sU → sX
  | 0, _, _ => .inl (0, 0)
  | f + 1, 0, (l, cn, op, o) =>
    if (sHd l).1 = 5 then (if op = 8 then .inl (2, (sHd l).2.1) else sBd (rd f 8 (l.tail, cn, op + 1, o)) (fun u => if (sHd u.1).1 = 6 then .inr (u.1.tail, u.2.1, u.2.2.1 - 1, u.2.2.2) else .inl (1, (sHd u.1).2.1)))
    else if ¬ ((sHd l).1 = 2 ∨ (33 ≤ (sHd l).1 ∧ (sHd l).1 ≤ 39)) then .inl (1, (sHd l).2.1)
    else if (sHd l).1 = 2 ∧ 9999 < (sHd l).2.2 then .inl (2, (sHd l).2.1)
    else sKn (sHd l).2.1 (l, cn, op, o) (fun u => .inr (u.1.tail, u.2.1, u.2.2.1, ((sHd l).1, if (sHd l).1 = 2 then (sHd l).2.2 else 0) :: u.2.2.2))
  | f + 1, 1, u => sBd (rd f 0 u) (rd f 2)
  | f + 1, 2, u => if sLv (sHd u.1).1 = 6 then sKn (sHd u.1).2.1 u (fun v => sBd (rd f 0 (v.1.tail, v.2)) (fun z => rd f 2 (z.1, z.2.1, z.2.2.1, ((sHd u.1).1, 0) :: z.2.2.2))) else .inr u
  | f + 1, 3, u => sBd (rd f 1 u) (rd f 4)
  | f + 1, 4, u => if sLv (sHd u.1).1 = 5 then sKn (sHd u.1).2.1 u (fun v => sBd (rd f 1 (v.1.tail, v.2)) (fun z => rd f 4 (z.1, z.2.1, z.2.2.1, ((sHd u.1).1, 0) :: z.2.2.2))) else .inr u
  | f + 1, 5, u => if (sHd u.1).1 = 32 then sKn (sHd u.1).2.1 u (fun v => sBd (rd f 5 (v.1.tail, v.2)) (fun z => .inr (z.1, z.2.1, z.2.2.1, (32, 0) :: z.2.2.2)))
    else sBd (rd f 3 u) (fun y => if sLv (sHd y.1).1 = 4 then sKn (sHd y.1).2.1 y (fun v => sBd (rd f 3 (v.1.tail, v.2)) (fun z => .inr (z.1, z.2.1, z.2.2.1, ((sHd y.1).1, 0) :: z.2.2.2))) else .inr y)
  | f + 1, 6, u => sBd (rd f 5 u) (rd f 7)
  | f + 1, 7, u => if sLv (sHd u.1).1 = 2 then sKn (sHd u.1).2.1 u (fun v => sBd (rd f 5 (v.1.tail, v.2)) (fun z => rd f 7 (z.1, z.2.1, z.2.2.1, ((sHd u.1).1, 0) :: z.2.2.2))) else .inr u
  | f + 1, 8, u => sBd (rd f 6 u) (rd f 9)
  | f + 1, _, u => if sLv (sHd u.1).1 = 1 then sKn (sHd u.1).2.1 u (fun v => sBd (rd f 6 (v.1.tail, v.2)) (fun z => rd f 9 (z.1, z.2.1, z.2.2.1, ((sHd u.1).1, 0) :: z.2.2.2))) else .inr u
/-- what binds at least so tightly has its right side now -/
def sSt (L : Nat) : List Nat → sK → List Nat × sK
  | [], o => ([], o)
  | k :: w, o => if L ≤ sLv k then sSt L w ((k, 0) :: o) else (k :: w, o)
def sy : Nat → Bool → List Nat → sU → sX
  | 0, _, _, _ => .inl (0, 0)
  | f + 1, true, w, (l, cn, op, o) =>
    if (sHd l).1 = 5 then (if op = 8 then .inl (2, (sHd l).2.1) else sy f true (5 :: w) (l.tail, cn, op + 1, o))
    else if (sHd l).1 = 32 ∧ sTp w ≤ 3 then sKn (sHd l).2.1 (l, cn, op, o) (fun u => sy f true (32 :: w) (u.1.tail, u.2))
    else if ¬ ((sHd l).1 = 2 ∨ (33 ≤ (sHd l).1 ∧ (sHd l).1 ≤ 39)) then .inl (1, (sHd l).2.1)
    else if (sHd l).1 = 2 ∧ 9999 < (sHd l).2.2 then .inl (2, (sHd l).2.1)
    else sKn (sHd l).2.1 (l, cn, op, o) (fun u => sy f false w (u.1.tail, u.2.1, u.2.2.1, ((sHd l).1, if (sHd l).1 = 2 then (sHd l).2.2 else 0) :: u.2.2.2))
  | f + 1, false, w, (l, cn, op, o) =>
    if (sHd l).1 = 6 ∧ 0 < op then sy f false (sSt 1 w o).1.tail (l.tail, cn, op - 1, (sSt 1 w o).2)
    else if sLv (sHd l).1 = 0 ∨ sLv (sHd l).1 = 3 then (if 0 < op then .inl (1, (sHd l).2.1) else .inr (l, cn, op, (sSt 1 w o).2))
    else if sLv (sHd l).1 = 4 then (if sTp (sSt 5 w o).1 = 4 then .inl (1, (sHd l).2.1) else sKn (sHd l).2.1 (l, cn, op, (sSt 5 w o).2) (fun u => sy f true ((sHd l).1 :: (sSt 5 w o).1) (u.1.tail, u.2)))
    else sKn (sHd l).2.1 (l, cn, op, (sSt (sLv (sHd l).1) w o).2) (fun u => sy f true ((sHd l).1 :: (sSt (sLv (sHd l).1) w o).1) (u.1.tail, u.2))
/-- all that is held back is put -/
def sPt : List Nat → sK → sK
  | [], o => o
  | k :: w, o => sPt w ((k, 0) :: o)
theorem sPt_app (b : List Nat) : ∀ (a : List Nat) (o : sK), sPt (a ++ b) o = sPt b (sPt a o)
  | [], o => rfl
  | k :: a, o => sPt_app b a ((k, 0) :: o)
theorem sSt_pe {L : Nat} : ∀ (pe w : List Nat) (o : sK), (∀ k ∈ pe, L ≤ sLv k) → sTp w < L → sSt L (pe ++ w) o = (w, sPt pe o)
  | [], [], o, _, _ => rfl
  | [], k :: w, o, _, h => by
    show sSt L (k :: w) o = _
    unfold sSt
    rw [if_neg (show ¬ L ≤ sLv k from Nat.not_le.mpr h)]
    rfl
  | k :: pe, w, o, hp, h => by
    show sSt L (k :: (pe ++ w)) o = _
    unfold sSt
    rw [if_pos (hp k List.mem_cons_self)]
    exact sSt_pe pe w _ (fun k' h' => hp k' (List.mem_cons_of_mem _ h')) h
/-- a comparison is held back, and nothing above it but what binds more tightly -/
def sHc (pe : List Nat) : Prop := ∃ a k b, pe = a ++ k :: b ∧ (∀ x ∈ a, 5 ≤ sLv x) ∧ sLv k = 4
theorem sHc_app {pe : List Nat} (q : List Nat) (h : sHc pe) : sHc (pe ++ q) := by
  obtain ⟨a, k, b, rfl, h1, h2⟩ := h
  exact ⟨a, k, b ++ q, by simp, h1, h2⟩
theorem sHc_st {pe w : List Nat} {o : sK} (h : sHc pe) : sTp (sSt 5 (pe ++ w) o).1 = 4 := by
  obtain ⟨a, k, b, rfl, h1, h2⟩ := h
  rw [List.append_assoc, sSt_pe a (k :: b ++ w) o h1 (by show sLv k < 5; (first | exact Nat.le_of_ble_eq_true rfl | exact (fun h => absurd h.1 (by decide)) | omega))]
  exact h2
/-- sy goes from one state to another -/
def sGo (v : Bool) (w : List Nat) (u : sU) (v' : Bool) (w' : List Nat) (u' : sU) : Prop := ∃ c, ∀ n, sy (n + c) v w u = sy n v' w' u'
def sEn (v : Bool) (w : List Nat) (u : sU) (x : sX) : Prop := ∃ c, ∀ n, sy (n + c) v w u = x
theorem sGo_rf {v : Bool} {w : List Nat} {u : sU} : sGo v w u v w u := ⟨0, fun _ => rfl⟩
theorem sGo_tr {v v' v'' : Bool} {w w' w'' : List Nat} {u u' u'' : sU} (h1 : sGo v w u v' w' u') (h2 : sGo v' w' u' v'' w'' u'') : sGo v w u v'' w'' u'' := by
  obtain ⟨c1, h1⟩ := h1
  obtain ⟨c2, h2⟩ := h2
  refine ⟨c2 + c1, fun n => ?_⟩
  rw [← Nat.add_assoc, h1, h2]
theorem sEn_tr {v v' : Bool} {w w' : List Nat} {u u' : sU} {x : sX} (h1 : sGo v w u v' w' u') (h2 : sEn v' w' u' x) : sEn v w u x := by
  obtain ⟨c1, h1⟩ := h1
  obtain ⟨c2, h2⟩ := h2
  refine ⟨c2 + c1, fun n => ?_⟩
  rw [← Nat.add_assoc, h1, h2]
theorem sGo_1 {v v' : Bool} {w w' : List Nat} {u u' : sU} (h : ∀ n, sy (n + 1) v w u = sy n v' w' u') : sGo v w u v' w' u' := ⟨1, h⟩
theorem sEn_1 {v : Bool} {w : List Nat} {u : sU} {x : sX} (h : ∀ n, sy (n + 1) v w u = x) : sEn v w u x := ⟨1, h⟩
/-- what rd's answer says of sy: b what binds in it at least, N what its next token may be -/
def sAg (w : List Nat) (v : Bool) (u : sU) (pe0 : List Nat) (b : Nat) (N : Nat → List Nat → Prop) (x : sX) : Prop := match x with
  | .inl e => e.1 = 0 ∨ sEn v (pe0 ++ w) u (.inl e)
  | .inr z => z.2.2.1 = u.2.2.1 ∧ ∃ pe o, (∀ k ∈ pe, b ≤ sLv k) ∧ z.2.2.2 = sPt pe o ∧ sGo v (pe0 ++ w) u false (pe ++ w) (z.1, z.2.1, z.2.2.1, o) ∧ N (sLv (sHd z.1).1) pe
end
section
theorem sLv_6 (k : Nat) : sLv k ≤ 6 := by
  unfold sLv
  repeat' split
  all_goals (first | exact Nat.le_of_ble_eq_true rfl | exact (fun h => absurd h.1 (by decide)) | omega)
theorem sAg_tr {w : List Nat} {v v' : Bool} {u u' : sU} {pe0 pe1 : List Nat} {b : Nat} {N : Nat → List Nat → Prop} {x : sX} (hg : sGo v (pe0 ++ w) u v' (pe1 ++ w) u') (ho : u'.2.2.1 = u.2.2.1) (h : sAg w v' u' pe1 b N x) : sAg w v u pe0 b N x := by
  cases x with
  | inl e =>
    rcases h with h | h
    · exact Or.inl h
    · exact Or.inr (sEn_tr hg h)
  | inr z =>
    obtain ⟨h1, pe, o, h2, h3, h4, h5⟩ := h
    exact ⟨h1.trans ho, pe, o, h2, h3, sGo_tr hg h4, h5⟩
theorem sAg_seq {w : List Nat} {v : Bool} {u : sU} {pe0 : List Nat} {b b1 : Nat} {N N1 : Nat → List Nat → Prop} {x : sX} {lp : sU → sX} (hb : b ≤ b1) (h : sAg w v u pe0 b1 N1 x) (hl : ∀ pe o l cn op, (∀ k ∈ pe, b ≤ sLv k) → N1 (sLv (sHd l).1) pe → sAg w false (l, cn, op, o) pe b N (lp (l, cn, op, sPt pe o))) : sAg w v u pe0 b N (sBd x lp) := by
  cases x with
  | inl e => exact h
  | inr z =>
    obtain ⟨h1, pe, o, h2, h3, h4, h5⟩ := h
    obtain ⟨l, cn, op, oo⟩ := z
    dsimp only at h1 h3 h4 h5
    subst h3
    exact sAg_tr h4 h1 (hl pe o l cn op (fun k hk => Nat.le_trans hb (h2 k hk)) h5)
/-- a sign that binds so tightly comes -/
theorem sy_sg {n b : Nat} {w : List Nat} {l : List sT} {cn op : Nat} {o : sK} (hb : sLv (sHd l).1 = b) (h0 : b ≠ 0) (h3 : b ≠ 3) (h4 : b ≠ 4) : sy (n + 1) false w (l, cn, op, o) = sKn (sHd l).2.1 (l, cn, op, (sSt b w o).2) (fun u => sy n true ((sHd l).1 :: (sSt b w o).1) (u.1.tail, u.2)) := by
  have h6 : ¬ (sHd l).1 = 6 := fun h => by
    rw [h] at hb
    exact h0 (hb.symm.trans (by decide))
  simp only [sy]
  rw [if_neg (fun z => h6 z.1), if_neg (by (first | exact Nat.le_of_ble_eq_true rfl | exact (fun h => absurd h.1 (by decide)) | omega)), if_neg (by (first | exact Nat.le_of_ble_eq_true rfl | exact (fun h => absurd h.1 (by decide)) | omega)), hb]
theorem sAg_loop {w : List Nat} {b b1 : Nat} {N N1 N0 : Nat → List Nat → Prop} {sub lp : sU → sX} {pe0 : List Nat} {l : List sT} {cn op : Nat} {o0 : sK} (h0 : b ≠ 0) (h3 : b ≠ 3) (h4 : b ≠ 4) (hbb : b ≤ b1) (hw : sTp w < b) (hpe : ∀ k ∈ pe0, b ≤ sLv k)
    (hsub : ∀ k u, sLv k = b → (((sHd l).1 = k) → sAg (k :: w) true u [] b1 N1 (sub u)))
    (hN1 : ∀ t pe k, sLv k = b → N1 t pe → N0 t (pe ++ [k]))
    (hlp : ∀ pe o l cn op, (∀ k ∈ pe, b ≤ sLv k) → N0 (sLv (sHd l).1) pe → sAg w false (l, cn, op, o) pe b N (lp (l, cn, op, sPt pe o)))
    (hno : ¬ sLv (sHd l).1 = b → N (sLv (sHd l).1) pe0) :
    sAg w false (l, cn, op, o0) pe0 b N (if sLv (sHd l).1 = b then sKn (sHd l).2.1 (l, cn, op, sPt pe0 o0) (fun v => sBd (sub (v.1.tail, v.2)) (fun z => lp (z.1, z.2.1, z.2.2.1, ((sHd l).1, 0) :: z.2.2.2))) else .inr (l, cn, op, sPt pe0 o0)) := by
  by_cases hl : sLv (sHd l).1 = b
  · rw [if_pos hl]
    have stp : ∀ n, sy (n + 1) false (pe0 ++ w) (l, cn, op, o0) = sKn (sHd l).2.1 (l, cn, op, sPt pe0 o0) (fun u => sy n true ((sHd l).1 :: w) (u.1.tail, u.2)) := fun n => by
      rw [sy_sg hl h0 h3 h4, sSt_pe pe0 w o0 hpe hw]
    unfold sKn at stp ⊢
    dsimp only at stp ⊢
    by_cases hc : cn = 64
    · rw [if_pos hc]
      exact Or.inr (sEn_1 (fun n => by rw [stp n, if_pos hc]))
    · rw [if_neg hc]
      have go : sGo false (pe0 ++ w) (l, cn, op, o0) true ((sHd l).1 :: w) (l.tail, cn + 1, op, sPt pe0 o0) := sGo_1 (fun n => by rw [stp n, if_neg hc])
      have hs := hsub (sHd l).1 (l.tail, cn + 1, op, sPt pe0 o0) hl rfl
      generalize sub (l.tail, cn + 1, op, sPt pe0 o0) = x at hs ⊢
      cases x with
      | inl e =>
        rcases hs with h | h
        · exact Or.inl h
        · exact Or.inr (sEn_tr go h)
      | inr z =>
        obtain ⟨z1, z2, z3, z4⟩ := z
        obtain ⟨g1, pe, o, g2, g3, g4, g5⟩ := hs
        dsimp only at g1 g3 g4 g5
        have key := hlp (pe ++ [(sHd l).1]) o z1 z2 z3 (fun k hk => by
          rcases List.mem_append.mp hk with h | h
          · exact Nat.le_trans hbb (g2 k h)
          · simp only [List.mem_cons, List.not_mem_nil, or_false] at h
            subst h
            exact Nat.le_of_eq hl.symm) (hN1 _ _ _ hl g5)
        rw [sPt_app] at key
        have e : sPt [(sHd l).1] (sPt pe o) = ((sHd l).1, 0) :: z4 := by rw [g3]; rfl
        rw [e] at key
        refine sAg_tr (sGo_tr go ?_) g1 key
        rw [List.append_assoc]
        exact g4
  · rw [if_neg hl]
    exact ⟨rfl, pe0, o0, hpe, rfl, sGo_rf, hno hl⟩
def sN0 (_ : Nat) (pe : List Nat) : Prop := pe = []
def sN1 (t : Nat) (_ : List Nat) : Prop := t ≠ 6
def sN3 (t : Nat) (_ : List Nat) : Prop := t ≠ 6 ∧ t ≠ 5
def sN5 (t : Nat) (pe : List Nat) : Prop := t ≠ 6 ∧ t ≠ 5 ∧ (t = 4 → sHc pe)
def sN6 (t : Nat) (pe : List Nat) : Prop := sN5 t pe ∧ t ≠ 2
def sN8 (t : Nat) (pe : List Nat) : Prop := sN6 t pe ∧ t ≠ 1
theorem sN5_app {t : Nat} {pe : List Nat} (q : List Nat) (h : sN5 t pe) : sN5 t (pe ++ q) := ⟨h.1, h.2.1, fun z => sHc_app q (h.2.2 z)⟩
/-- THE TWO READ ALIKE -/
theorem rd_sy : ∀ f : Nat,
    (∀ u w, ((sHd u.1).1 = 32 → 3 < sTp w) → sAg w true u [] 7 sN0 (rd f 0 u)) ∧
    (∀ u w, ((sHd u.1).1 = 32 → 3 < sTp w) → sTp w < 6 → sAg w true u [] 6 sN1 (rd f 1 u)) ∧
    (∀ w pe l cn op o, sTp w < 6 → (∀ k ∈ pe, 6 ≤ sLv k) → sAg w false (l, cn, op, o) pe 6 sN1 (rd f 2 (l, cn, op, sPt pe o))) ∧
    (∀ u w, ((sHd u.1).1 = 32 → 3 < sTp w) → sTp w < 5 → sAg w true u [] 5 sN3 (rd f 3 u)) ∧
    (∀ w pe l cn op o, sTp w < 5 → (∀ k ∈ pe, 5 ≤ sLv k) → sN1 (sLv (sHd l).1) pe → sAg w false (l, cn, op, o) pe 5 sN3 (rd f 4 (l, cn, op, sPt pe o))) ∧
    (∀ u w, sTp w ≤ 3 → sAg w true u [] 3 sN5 (rd f 5 u)) ∧
    (∀ u w, sTp w < 2 → sAg w true u [] 2 sN6 (rd f 6 u)) ∧
    (∀ w pe l cn op o, sTp w < 2 → (∀ k ∈ pe, 2 ≤ sLv k) → sN5 (sLv (sHd l).1) pe → sAg w false (l, cn, op, o) pe 2 sN6 (rd f 7 (l, cn, op, sPt pe o))) ∧
    (∀ u w, sTp w < 1 → sAg w true u [] 1 sN8 (rd f 8 u)) ∧
    (∀ w pe l cn op o, sTp w < 1 → (∀ k ∈ pe, 1 ≤ sLv k) → sN6 (sLv (sHd l).1) pe → sAg w false (l, cn, op, o) pe 1 sN8 (rd f 9 (l, cn, op, sPt pe o))) := by
  intro f
  induction f with
  | zero =>
    exact ⟨fun _ _ _ => Or.inl rfl, fun _ _ _ _ => Or.inl rfl, fun _ _ _ _ _ _ _ _ => Or.inl rfl, fun _ _ _ _ => Or.inl rfl, fun _ _ _ _ _ _ _ _ _ => Or.inl rfl, fun _ _ _ => Or.inl rfl, fun _ _ _ => Or.inl rfl, fun _ _ _ _ _ _ _ _ _ => Or.inl rfl, fun _ _ _ => Or.inl rfl, fun _ _ _ _ _ _ _ _ _ => Or.inl rfl⟩
  | succ f ih =>
    obtain ⟨i0, i1, i2, i3, i4, i5, i6, i7, i8, i9⟩ := ih
    refine ⟨?_, ?_, ?_, ?_, ?_, ?_, ?_, ?_, ?_, ?_⟩
    · rintro ⟨l, cn, op, o⟩ w hN
      simp only [rd]
      dsimp only at hN
      have sv : ∀ n, sy (n + 1) true w (l, cn, op, o) = (if (sHd l).1 = 5 then (if op = 8 then .inl (2, (sHd l).2.1) else sy n true (5 :: w) (l.tail, cn, op + 1, o)) else if (sHd l).1 = 32 ∧ sTp w ≤ 3 then sKn (sHd l).2.1 (l, cn, op, o) (fun u => sy n true (32 :: w) (u.1.tail, u.2)) else if ¬ ((sHd l).1 = 2 ∨ (33 ≤ (sHd l).1 ∧ (sHd l).1 ≤ 39)) then .inl (1, (sHd l).2.1) else if (sHd l).1 = 2 ∧ 9999 < (sHd l).2.2 then .inl (2, (sHd l).2.1) else sKn (sHd l).2.1 (l, cn, op, o) (fun u => sy n false w (u.1.tail, u.2.1, u.2.2.1, ((sHd l).1, if (sHd l).1 = 2 then (sHd l).2.2 else 0) :: u.2.2.2))) := fun n => rfl
      by_cases h5 : (sHd l).1 = 5
      · rw [if_pos h5]
        by_cases h8 : op = 8
        · rw [if_pos h8]
          exact Or.inr (sEn_1 (fun n => by rw [List.nil_append, sv, if_pos h5, if_pos h8]))
        · rw [if_neg h8]
          have go : sGo true ([] ++ w) (l, cn, op, o) true (5 :: w) (l.tail, cn, op + 1, o) := sGo_1 (fun n => by rw [List.nil_append, sv, if_pos h5, if_neg h8])
          have hs := i8 (l.tail, cn, op + 1, o) (5 :: w) (show sLv 5 < 1 by decide)
          generalize rd f 8 (l.tail, cn, op + 1, o) = x at hs ⊢
          cases x with
          | inl e =>
            rcases hs with h | h
            · exact Or.inl h
            · exact Or.inr (sEn_tr go h)
          | inr z =>
            obtain ⟨z1, z2, z3, z4⟩ := z
            obtain ⟨g1, pe, oo, g2, g3, g4, g5⟩ := hs
            dsimp only at g1 g3 g4 g5
            subst g1
            have gg := sGo_tr go g4
            have st1 := sSt_pe pe (5 :: w) oo g2 (show sLv 5 < 1 by decide)
            show sAg w true (l, cn, op, o) [] 7 sN0 (if (sHd z1).1 = 6 then .inr (z1.tail, z2, op + 1 - 1, z4) else .inl (1, (sHd z1).2.1))
            by_cases h6 : (sHd z1).1 = 6
            · rw [if_pos h6]
              refine ⟨by show op + 1 - 1 = op; (first | exact Nat.le_of_ble_eq_true rfl | exact (fun h => absurd h.1 (by decide)) | omega), [], z4, (fun k hk => by cases hk), rfl, sGo_tr gg (sGo_1 (fun n => ?_)), rfl⟩
              simp only [sy]
              rw [if_pos ⟨h6, by (first | exact Nat.le_of_ble_eq_true rfl | exact (fun h => absurd h.1 (by decide)) | omega)⟩, st1, g3]
              rfl
            · rw [if_neg h6]
              refine Or.inr (sEn_tr gg (sEn_1 (fun n => ?_)))
              have lv := sLv_6 (sHd z1).1
              simp only [sy]
              rw [if_neg (fun z => h6 z.1)]
              by_cases h03 : sLv (sHd z1).1 = 0 ∨ sLv (sHd z1).1 = 3
              · rw [if_pos h03, if_pos (by (first | exact Nat.le_of_ble_eq_true rfl | exact (fun h => absurd h.1 (by decide)) | omega))]
              · rw [if_neg h03]
                have hq := g5
                unfold sN8 sN6 sN5 at hq
                have h4 : sLv (sHd z1).1 = 4 := by (first | exact Nat.le_of_ble_eq_true rfl | exact (fun h => absurd h.1 (by decide)) | omega)
                rw [if_pos h4, if_pos (sHc_st (hq.1.1.2.2 h4))]
      · rw [if_neg h5]
        have hn32 : ¬ ((sHd l).1 = 32 ∧ sTp w ≤ 3) := fun z => by have := hN z.1; (first | exact Nat.le_of_ble_eq_true rfl | exact (fun h => absurd h.1 (by decide)) | omega)
        by_cases hk : ¬ ((sHd l).1 = 2 ∨ (33 ≤ (sHd l).1 ∧ (sHd l).1 ≤ 39))
        · rw [if_pos hk]
          exact Or.inr (sEn_1 (fun n => by rw [List.nil_append, sv, if_neg h5, if_neg hn32, if_pos hk]))
        · rw [if_neg hk]
          by_cases hv : (sHd l).1 = 2 ∧ 9999 < (sHd l).2.2
          · rw [if_pos hv]
            exact Or.inr (sEn_1 (fun n => by rw [List.nil_append, sv, if_neg h5, if_neg hn32, if_neg hk, if_pos hv]))
          · rw [if_neg hv]
            unfold sKn at sv ⊢
            dsimp only at sv ⊢
            by_cases hc : cn = 64
            · rw [if_pos hc]
              exact Or.inr (sEn_1 (fun n => by rw [List.nil_append, sv, if_neg h5, if_neg hn32, if_neg hk, if_neg hv, if_pos hc]))
            · rw [if_neg hc]
              exact ⟨rfl, [], _, (fun k hk => by cases hk), rfl, sGo_1 (fun n => by rw [List.nil_append, sv, if_neg h5, if_neg hn32, if_neg hk, if_neg hv, if_neg hc]), rfl⟩
    · intro u w hN hw
      simp only [rd]
      exact sAg_seq (by decide) (i0 u w hN) (fun pe o l cn op hp _ => i2 w pe l cn op o hw hp)
    · intro w pe l cn op o hw hp
      simp only [rd]
      exact sAg_loop (N0 := fun _ _ => True) (N1 := sN0) (b1 := 7) (sub := rd f 0) (by decide) (by decide) (by decide) (by decide) hw hp (fun k u hk _ => i0 u (k :: w) (fun _ => by show 3 < sLv k; (first | exact Nat.le_of_ble_eq_true rfl | exact (fun h => absurd h.1 (by decide)) | omega))) (fun _ _ _ _ _ => trivial) (fun pe o l cn op hp _ => i2 w pe l cn op o hw hp) (fun h => h)
    · intro u w hN hw
      simp only [rd]
      exact sAg_seq (by decide) (i1 u w hN (by (first | exact Nat.le_of_ble_eq_true rfl | exact (fun h => absurd h.1 (by decide)) | omega))) (fun pe o l cn op hp hn => i4 w pe l cn op o hw hp hn)
    · intro w pe l cn op o hw hp hn
      simp only [rd]
      exact sAg_loop (N0 := sN1) (N1 := sN1) (b1 := 6) (sub := rd f 1) (by decide) (by decide) (by decide) (by decide) hw hp (fun k u hk _ => i1 u (k :: w) (fun _ => by show 3 < sLv k; (first | exact Nat.le_of_ble_eq_true rfl | exact (fun h => absurd h.1 (by decide)) | omega)) (by show sLv k < 6; (first | exact Nat.le_of_ble_eq_true rfl | exact (fun h => absurd h.1 (by decide)) | omega))) (fun _ _ _ _ h => h) (fun pe o l cn op hp h => i4 w pe l cn op o hw hp h) (fun h => ⟨hn, h⟩)
    · rintro ⟨l, cn, op, o⟩ w hw
      simp only [rd]
      by_cases h32 : (sHd l).1 = 32
      · rw [if_pos h32]
        have sv : ∀ n, sy (n + 1) true w (l, cn, op, o) = sKn (sHd l).2.1 (l, cn, op, o) (fun u => sy n true (32 :: w) (u.1.tail, u.2)) := fun n => by
          simp only [sy]
          rw [if_neg (by (first | exact Nat.le_of_ble_eq_true rfl | exact (fun h => absurd h.1 (by decide)) | omega)), if_pos ⟨h32, hw⟩]
        unfold sKn at sv ⊢
        dsimp only at sv ⊢
        by_cases hc : cn = 64
        · rw [if_pos hc]
          exact Or.inr (sEn_1 (fun n => by rw [List.nil_append, sv, if_pos hc]))
        · rw [if_neg hc]
          have go : sGo true ([] ++ w) (l, cn, op, o) true (32 :: w) (l.tail, cn + 1, op, o) := sGo_1 (fun n => by rw [List.nil_append, sv, if_neg hc])
          have hs := i5 (l.tail, cn + 1, op, o) (32 :: w) (show sLv 32 ≤ 3 by decide)
          generalize rd f 5 (l.tail, cn + 1, op, o) = x at hs ⊢
          cases x with
          | inl e =>
            rcases hs with h | h
            · exact Or.inl h
            · exact Or.inr (sEn_tr go h)
          | inr z =>
            obtain ⟨z1, z2, z3, z4⟩ := z
            obtain ⟨g1, pe, oo, g2, g3, g4, g5⟩ := hs
            dsimp only at g1 g3 g4 g5
            refine ⟨g1, pe ++ [32], oo, fun k hk => ?_, ?_, ?_, sN5_app [32] g5⟩
            · rcases List.mem_append.mp hk with h | h
              · exact g2 k h
              · simp only [List.mem_cons, List.not_mem_nil, or_false] at h
                subst h
                decide
            · rw [sPt_app, g3]; rfl
            · rw [List.append_assoc]
              exact sGo_tr go g4
      · rw [if_neg h32]
        have hs := i3 (l, cn, op, o) w (fun h => absurd h h32) (by (first | exact Nat.le_of_ble_eq_true rfl | exact (fun h => absurd h.1 (by decide)) | omega))
        generalize rd f 3 (l, cn, op, o) = x at hs ⊢
        cases x with
        | inl e => exact hs
        | inr z =>
          obtain ⟨z1, z2, z3, z4⟩ := z
          obtain ⟨g1, pe, oo, g2, g3, g4, g5⟩ := hs
          dsimp only at g1 g3 g4 g5
          show sAg w true (l, cn, op, o) [] 3 sN5 (if sLv (sHd z1).1 = 4 then sKn (sHd z1).2.1 (z1, z2, z3, z4) (fun v => sBd (rd f 3 (v.1.tail, v.2)) (fun z => .inr (z.1, z.2.1, z.2.2.1, ((sHd z1).1, 0) :: z.2.2.2))) else .inr (z1, z2, z3, z4))
          by_cases h4 : sLv (sHd z1).1 = 4
          · rw [if_pos h4]
            have st5 := sSt_pe pe w oo g2 (by (first | exact Nat.le_of_ble_eq_true rfl | exact (fun h => absurd h.1 (by decide)) | omega))
            have sg : ∀ n, sy (n + 1) false (pe ++ w) (z1, z2, z3, oo) = sKn (sHd z1).2.1 (z1, z2, z3, z4) (fun u => sy n true ((sHd z1).1 :: w) (u.1.tail, u.2)) := fun n => by
              have h6 : ¬ (sHd z1).1 = 6 := fun h => by
                rw [h] at h4
                exact absurd h4 (by decide)
              simp only [sy]
              rw [if_neg (fun z => h6 z.1), if_neg (by (first | exact Nat.le_of_ble_eq_true rfl | exact (fun h => absurd h.1 (by decide)) | omega)), if_pos h4, st5, if_neg (by show ¬ sTp w = 4; (first | exact Nat.le_of_ble_eq_true rfl | exact (fun h => absurd h.1 (by decide)) | omega)), g3]
            unfold sKn at sg ⊢
            dsimp only at sg ⊢
            by_cases hc : z2 = 64
            · rw [if_pos hc]
              exact Or.inr (sEn_tr g4 (sEn_1 (fun n => by rw [sg, if_pos hc])))
            · rw [if_neg hc]
              have go : sGo true ([] ++ w) (l, cn, op, o) true ((sHd z1).1 :: w) (z1.tail, z2 + 1, z3, z4) := sGo_tr g4 (sGo_1 (fun n => by rw [sg, if_neg hc]))
              have hs := i3 (z1.tail, z2 + 1, z3, z4) ((sHd z1).1 :: w) (fun _ => by show 3 < sLv (sHd z1).1; (first | exact Nat.le_of_ble_eq_true rfl | exact (fun h => absurd h.1 (by decide)) | omega)) (by show sLv (sHd z1).1 < 5; (first | exact Nat.le_of_ble_eq_true rfl | exact (fun h => absurd h.1 (by decide)) | omega))
              generalize rd f 3 (z1.tail, z2 + 1, z3, z4) = x at hs ⊢
              cases x with
              | inl e =>
                rcases hs with h | h
                · exact Or.inl h
                · exact Or.inr (sEn_tr go h)
              | inr y =>
                obtain ⟨y1, y2, y3, y4⟩ := y
                obtain ⟨q1, pe2, o2, q2, q3, q4, q5⟩ := hs
                dsimp only at q1 q3 q4 q5
                refine ⟨q1.trans g1, pe2 ++ [(sHd z1).1], o2, fun k hk => ?_, ?_, ?_, q5.1, q5.2, fun _ => ⟨pe2, (sHd z1).1, [], rfl, q2, h4⟩⟩
                · rcases List.mem_append.mp hk with h | h
                  · exact Nat.le_trans (by decide) (q2 k h)
                  · simp only [List.mem_cons, List.not_mem_nil, or_false] at h
                    subst h
                    (first | exact Nat.le_of_ble_eq_true rfl | exact (fun h => absurd h.1 (by decide)) | omega)
                · rw [sPt_app, q3]; rfl
                · rw [List.append_assoc]
                  exact sGo_tr go q4
          · rw [if_neg h4]
            exact ⟨g1, pe, oo, fun k hk => Nat.le_trans (by decide) (g2 k hk), g3, g4, g5.1, g5.2, fun h => absurd h h4⟩
    · intro u w hw
      simp only [rd]
      exact sAg_seq (by decide) (i5 u w (by (first | exact Nat.le_of_ble_eq_true rfl | exact (fun h => absurd h.1 (by decide)) | omega))) (fun pe o l cn op hp hn => i7 w pe l cn op o hw hp hn)
    · intro w pe l cn op o hw hp hn
      simp only [rd]
      exact sAg_loop (N0 := sN5) (N1 := sN5) (b1 := 3) (sub := rd f 5) (by decide) (by decide) (by decide) (by decide) hw hp (fun k u hk _ => i5 u (k :: w) (by show sLv k ≤ 3; (first | exact Nat.le_of_ble_eq_true rfl | exact (fun h => absurd h.1 (by decide)) | omega))) (fun _ _ k _ h => sN5_app [k] h) (fun pe o l cn op hp h => i7 w pe l cn op o hw hp h) (fun h => ⟨hn, h⟩)
    · intro u w hw
      simp only [rd]
      exact sAg_seq (by decide) (i6 u w (by (first | exact Nat.le_of_ble_eq_true rfl | exact (fun h => absurd h.1 (by decide)) | omega))) (fun pe o l cn op hp hn => i9 w pe l cn op o hw hp hn)
    · intro w pe l cn op o hw hp hn
      simp only [rd]
      exact sAg_loop (N0 := sN6) (N1 := sN6) (b1 := 2) (sub := rd f 6) (by decide) (by decide) (by decide) (by decide) hw hp (fun k u hk _ => i6 u (k :: w) (by show sLv k < 2; (first | exact Nat.le_of_ble_eq_true rfl | exact (fun h => absurd h.1 (by decide)) | omega))) (fun _ _ k _ h => ⟨sN5_app [k] h.1, h.2⟩) (fun pe o l cn op hp h => i9 w pe l cn op o hw hp h) (fun h => ⟨hn, h⟩)
/-- a whole E: the class ends as the reference does, or finds at once a comparison that can't stand there -/
theorem rd_sy_all {f : Nat} {l : List sT} {cn : Nat} {o : sK} (h : ∀ e, rd f 8 (l, cn, 0, o) = .inl e → e.1 ≠ 0) : sEn true [] (l, cn, 0, o) (rd f 8 (l, cn, 0, o)) ∨ ∃ z, rd f 8 (l, cn, 0, o) = .inr z ∧ sLv (sHd z.1).1 = 4 ∧ sEn true [] (l, cn, 0, o) (.inl (1, (sHd z.1).2.1)) := by
  have hs := (rd_sy f).2.2.2.2.2.2.2.2.1 (l, cn, 0, o) [] (by decide)
  generalize hx : rd f 8 (l, cn, 0, o) = x at hs h ⊢
  cases x with
  | inl e =>
    rcases hs with hs | hs
    · exact absurd hs (h e rfl)
    · exact Or.inl hs
  | inr z =>
    obtain ⟨z1, z2, z3, z4⟩ := z
    obtain ⟨g1, pe, oo, g2, g3, g4, g5⟩ := hs
    dsimp only at g1 g3 g4 g5
    subst g1
    have lv := sLv_6 (sHd z1).1
    by_cases h4 : sLv (sHd z1).1 = 4
    · refine Or.inr ⟨_, rfl, h4, sEn_tr g4 (sEn_1 (fun n => ?_))⟩
      have h6 : ¬ (sHd z1).1 = 6 := fun h => by
        rw [h] at h4
        exact absurd h4 (by decide)
      simp only [sy]
      rw [if_neg (fun z => h6 z.1), if_neg (by (first | exact Nat.le_of_ble_eq_true rfl | exact (fun h => absurd h.1 (by decide)) | omega)), if_pos h4, if_pos (sHc_st (g5.1.1.2.2 h4))]
    · refine Or.inl (sEn_tr g4 (sEn_1 (fun n => ?_)))
      have hq := g5
      unfold sN8 sN6 sN5 at hq
      have st1 := sSt_pe pe [] oo g2 (by decide)
      simp only [sy]
      rw [if_neg (fun z => by have := z.2; (first | exact Nat.le_of_ble_eq_true rfl | exact (fun h => absurd h.1 (by decide)) | omega)), if_pos (by (first | exact Nat.le_of_ble_eq_true rfl | exact (fun h => absurd h.1 (by decide)) | omega)), if_neg (by (first | exact Nat.le_of_ble_eq_true rfl | exact (fun h => absurd h.1 (by decide)) | omega)), st1, g3]
end
section
theorem s_112_0 {E : yE} {n d : Nat} {mem : yMem} {Post : Option yV → yMem → Prop} {st : List yV} {r1 r2 r3 : Option yV} {x : Int} : zvc E (n + 1) [] d xm_112 0 [some (1, x), r1, r2, r3] (st) mem Post = (zvc E n [] d xm_112 1 [some (1, x), r1, r2, r3] ((1, x) :: st) mem Post) := zrf rfl
theorem s_112_1 {E : yE} {n d : Nat} {mem : yMem} {Post : Option yV → yMem → Prop} {st : List yV} {r0 r1 r2 r3 : Option yV} : zvc E (n + 1) [] d xm_112 1 [r0, r1, r2, r3] ((1, 54) :: st) mem Post = (zvc E n [] d xm_112 4 [r0, r1, r2, r3] ((1, 55) :: st) mem Post) := zrf rfl
theorem s_112_4 {E : yE} {n d : Nat} {mem : yMem} {Post : Option yV → yMem → Prop} {st : List yV} {r0 r1 r2 r3 : Option yV} : zvc E (n + 1) [] d xm_112 4 [r0, r1, r2, r3] ((1, 55) :: st) mem Post = (zvc E n [] d xm_112 7 [r0, r1, r2, r3] ((0, mem 55 6) :: st) mem Post) := zrf rfl
theorem s_112_7n {E : yE} {n d : Nat} {mem : yMem} {Post : Option yV → yMem → Prop} {st : List yV} {r0 r1 r3 : Option yV} {x : Int} : zvc E (n + 1) [] d xm_112 7 [r0, r1, none, r3] ((0, x) :: st) mem Post = (zvc E n [] d xm_112 8 [r0, r1, none, some (0, x)] (st) mem Post) := zrf rfl
theorem s_112_7i {E : yE} {n d : Nat} {mem : yMem} {Post : Option yV → yMem → Prop} {st : List yV} {r0 r1 r3 : Option yV} {x w : Int} : zvc E (n + 1) [] d xm_112 7 [r0, r1, some (0, w), r3] ((0, x) :: st) mem Post = (zvc E n [] d xm_112 8 [r0, r1, some (0, w), some (0, x)] (st) mem Post) := zrf rfl
theorem s_112_7p {E : yE} {n d : Nat} {mem : yMem} {Post : Option yV → yMem → Prop} {st : List yV} {r0 r1 r3 : Option yV} {x w : Int} : zvc E (n + 1) [] d xm_112 7 [r0, r1, some (1, w), r3] ((0, x) :: st) mem Post = (zvc E n [] d xm_112 8 [r0, r1, some (1, w), some (0, x)] (st) mem Post) := zrf rfl
theorem s_112_8 {E : yE} {n d : Nat} {mem : yMem} {Post : Option yV → yMem → Prop} {st : List yV} {r1 r2 r3 : Option yV} {x : Int} : zvc E (n + 1) [] d xm_112 8 [some (1, x), r1, r2, r3] (st) mem Post = (zvc E n [] d xm_112 9 [some (1, x), r1, r2, r3] ((1, x) :: st) mem Post) := zrf rfl
theorem s_112_9 {E : yE} {n d : Nat} {mem : yMem} {Post : Option yV → yMem → Prop} {st : List yV} {r0 r1 r2 r3 : Option yV} : zvc E (n + 1) [] d xm_112 9 [r0, r1, r2, r3] ((1, 54) :: st) mem Post = (zvc E n [] d xm_112 12 [r0, r1, r2, r3] ((1, 55) :: st) mem Post) := zrf rfl
theorem s_112_12 {E : yE} {n d : Nat} {mem : yMem} {Post : Option yV → yMem → Prop} {st : List yV} {r0 r1 r2 r3 : Option yV} : zvc E (n + 1) [] d xm_112 12 [r0, r1, r2, r3] ((1, 55) :: st) mem Post = (zvc E n [] d xm_112 15 [r0, r1, r2, r3] ((0, mem 55 4) :: st) mem Post) := zrf rfl
theorem s_112_15 {E : yE} {n d : Nat} {mem : yMem} {Post : Option yV → yMem → Prop} {st : List yV} {r0 r1 r2 r3 : Option yV} : zvc E (n + 1) [] d xm_112 15 [r0, r1, r2, r3] (st) mem Post = (zvc E n [] d xm_112 16 [r0, r1, r2, r3] ((0, 2) :: st) mem Post) := zrf rfl
theorem s_112_16 {E : yE} {n d : Nat} {mem : yMem} {Post : Option yV → yMem → Prop} {st : List yV} {r0 r1 r2 r3 : Option yV} {x y : Int} : zvc E (n + 1) [] d xm_112 16 [r0, r1, r2, r3] ((0, y) :: (0, x) :: st) mem Post = ((w32 x = w32 y → zvc E n [] d xm_112 30 [r0, r1, r2, r3] (st) mem Post) ∧ (¬ (w32 x = w32 y) → zvc E n [] d xm_112 19 [r0, r1, r2, r3] (st) mem Post)) := zrf rfl
theorem s_112_19 {E : yE} {n d : Nat} {mem : yMem} {Post : Option yV → yMem → Prop} {st : List yV} {r1 r2 r3 : Option yV} {x : Int} : zvc E (n + 1) [] d xm_112 19 [some (1, x), r1, r2, r3] (st) mem Post = (zvc E n [] d xm_112 20 [some (1, x), r1, r2, r3] ((1, x) :: st) mem Post) := zrf rfl
theorem s_112_20 {E : yE} {n d : Nat} {mem : yMem} {Post : Option yV → yMem → Prop} {st : List yV} {r0 r1 r2 r3 : Option yV} : zvc E (n + 1) [] d xm_112 20 [r0, r1, r2, r3] ((1, 54) :: st) mem Post = (zvc E n [] d xm_112 23 [r0, r1, r2, r3] ((1, 55) :: st) mem Post) := zrf rfl
theorem s_112_23 {E : yE} {n d : Nat} {mem : yMem} {Post : Option yV → yMem → Prop} {st : List yV} {r0 r1 r2 r3 : Option yV} : zvc E (n + 1) [] d xm_112 23 [r0, r1, r2, r3] (st) mem Post = (zvc E n [] d xm_112 24 [r0, r1, r2, r3] ((0, 1) :: st) mem Post) := zrf rfl
theorem s_112_24 {E : yE} {n d : Nat} {mem : yMem} {Post : Option yV → yMem → Prop} {st : List yV} {r0 r1 r2 r3 : Option yV} {z a0 : Int} : zvc E (n + 1) [] (d + 1) xm_112 24 [r0, r1, r2, r3] ((0, a0) :: (1, z) :: st) mem Post = (zio z 9 = true ∧ ysum st ≤ 8 ∧ zvc E n [] d xm_123 0 [some (1, z), some (0, a0)] [] mem (fun v mem' => zvk E n [] (d + 1) xm_112 27 [r0, r1, r2, r3] st v mem' Post)) := zrf rfl
theorem s_112_27a {E : yE} {n d : Nat} {mem : yMem} {Post : Option yV → yMem → Prop} {st : List yV} {r0 r1 r2 r3 : Option yV} {x : Int} : zvc E (n + 1) [] d xm_112 27 [r0, r1, r2, r3] ((0, x) :: st) mem Post = (zvc E n [] d xm_112 28 [r0, r1, r2, r3] (st) mem Post) := zrf rfl
theorem s_112_27b {E : yE} {n d : Nat} {mem : yMem} {Post : Option yV → yMem → Prop} {st : List yV} {r0 r1 r2 r3 : Option yV} {x : Int} : zvc E (n + 1) [] d xm_112 27 [r0, r1, r2, r3] ((1, x) :: st) mem Post = (zvc E n [] d xm_112 28 [r0, r1, r2, r3] (st) mem Post) := zrf rfl
theorem s_112_28 {E : yE} {n d : Nat} {mem : yMem} {Post : Option yV → yMem → Prop} {st : List yV} {r0 r2 r3 : Option yV} {x : Int} : zvc E (n + 1) [] d xm_112 28 [r0, some (0, x), r2, r3] (st) mem Post = (zvc E n [] d xm_112 29 [r0, some (0, x), r2, r3] ((0, x) :: st) mem Post) := zrf rfl
theorem s_112_29 {E : yE} {n d : Nat} {mem : yMem} {Post : Option yV → yMem → Prop} {r0 r1 r2 r3 : Option yV} {x : Int} : zvc E (n + 1) [] d xm_112 29 [r0, r1, r2, r3] ([(0, x)]) mem Post = (Post (some (0, x)) mem) := zrf rfl
theorem s_112_30 {E : yE} {n d : Nat} {mem : yMem} {Post : Option yV → yMem → Prop} {st : List yV} {r0 r1 r2 : Option yV} {x : Int} : zvc E (n + 1) [] d xm_112 30 [r0, r1, r2, some (0, x)] (st) mem Post = (zvc E n [] d xm_112 31 [r0, r1, r2, some (0, x)] ((0, x) :: st) mem Post) := zrf rfl
theorem s_112_31 {E : yE} {n d : Nat} {mem : yMem} {Post : Option yV → yMem → Prop} {st : List yV} {r0 r2 r3 : Option yV} {x : Int} : zvc E (n + 1) [] d xm_112 31 [r0, some (0, x), r2, r3] (st) mem Post = (zvc E n [] d xm_112 32 [r0, some (0, x), r2, r3] ((0, x) :: st) mem Post) := zrf rfl
theorem s_112_32 {E : yE} {n d : Nat} {mem : yMem} {Post : Option yV → yMem → Prop} {st : List yV} {r0 r1 r2 r3 : Option yV} {x y : Int} : zvc E (n + 1) [] d xm_112 32 [r0, r1, r2, r3] ((0, y) :: (0, x) :: st) mem Post = ((w32 x < w32 y → zvc E n [] d xm_112 40 [r0, r1, r2, r3] (st) mem Post) ∧ (¬ (w32 x < w32 y) → zvc E n [] d xm_112 35 [r0, r1, r2, r3] (st) mem Post)) := zrf rfl
theorem s_112_35 {E : yE} {n d : Nat} {mem : yMem} {Post : Option yV → yMem → Prop} {st : List yV} {r0 r1 r2 : Option yV} {x : Int} : zvc E (n + 1) [] d xm_112 35 [r0, r1, r2, some (0, x)] (st) mem Post = (zvc E n [] d xm_112 36 [r0, r1, r2, some (0, x)] ((0, x) :: st) mem Post) := zrf rfl
theorem s_112_36 {E : yE} {n d : Nat} {mem : yMem} {Post : Option yV → yMem → Prop} {st : List yV} {r0 r1 r3 : Option yV} {x : Int} : zvc E (n + 1) [] d xm_112 36 [r0, r1, some (0, x), r3] (st) mem Post = (zvc E n [] d xm_112 37 [r0, r1, some (0, x), r3] ((0, x) :: st) mem Post) := zrf rfl
theorem s_112_37 {E : yE} {n d : Nat} {mem : yMem} {Post : Option yV → yMem → Prop} {st : List yV} {r0 r1 r2 r3 : Option yV} {x y : Int} : zvc E (n + 1) [] d xm_112 37 [r0, r1, r2, r3] ((0, y) :: (0, x) :: st) mem Post = ((w32 x ≤ w32 y → zvc E n [] d xm_112 51 [r0, r1, r2, r3] (st) mem Post) ∧ (¬ (w32 x ≤ w32 y) → zvc E n [] d xm_112 40 [r0, r1, r2, r3] (st) mem Post)) := zrf rfl
theorem s_112_40 {E : yE} {n d : Nat} {mem : yMem} {Post : Option yV → yMem → Prop} {st : List yV} {r1 r2 r3 : Option yV} {x : Int} : zvc E (n + 1) [] d xm_112 40 [some (1, x), r1, r2, r3] (st) mem Post = (zvc E n [] d xm_112 41 [some (1, x), r1, r2, r3] ((1, x) :: st) mem Post) := zrf rfl
theorem s_112_41 {E : yE} {n d : Nat} {mem : yMem} {Post : Option yV → yMem → Prop} {st : List yV} {r0 r1 r2 r3 : Option yV} : zvc E (n + 1) [] d xm_112 41 [r0, r1, r2, r3] ((1, 54) :: st) mem Post = (zvc E n [] d xm_112 44 [r0, r1, r2, r3] ((1, 55) :: st) mem Post) := zrf rfl
theorem s_112_44 {E : yE} {n d : Nat} {mem : yMem} {Post : Option yV → yMem → Prop} {st : List yV} {r0 r1 r2 r3 : Option yV} : zvc E (n + 1) [] d xm_112 44 [r0, r1, r2, r3] (st) mem Post = (zvc E n [] d xm_112 45 [r0, r1, r2, r3] ((0, 2) :: st) mem Post) := zrf rfl
theorem s_112_45 {E : yE} {n d : Nat} {mem : yMem} {Post : Option yV → yMem → Prop} {st : List yV} {r0 r1 r2 r3 : Option yV} {z a0 : Int} : zvc E (n + 1) [] (d + 1) xm_112 45 [r0, r1, r2, r3] ((0, a0) :: (1, z) :: st) mem Post = (zio z 9 = true ∧ ysum st ≤ 8 ∧ zvc E n [] d xm_123 0 [some (1, z), some (0, a0)] [] mem (fun v mem' => zvk E n [] (d + 1) xm_112 48 [r0, r1, r2, r3] st v mem' Post)) := zrf rfl
theorem s_112_48a {E : yE} {n d : Nat} {mem : yMem} {Post : Option yV → yMem → Prop} {st : List yV} {r0 r1 r2 r3 : Option yV} {x : Int} : zvc E (n + 1) [] d xm_112 48 [r0, r1, r2, r3] ((0, x) :: st) mem Post = (zvc E n [] d xm_112 49 [r0, r1, r2, r3] (st) mem Post) := zrf rfl
theorem s_112_48b {E : yE} {n d : Nat} {mem : yMem} {Post : Option yV → yMem → Prop} {st : List yV} {r0 r1 r2 r3 : Option yV} {x : Int} : zvc E (n + 1) [] d xm_112 48 [r0, r1, r2, r3] ((1, x) :: st) mem Post = (zvc E n [] d xm_112 49 [r0, r1, r2, r3] (st) mem Post) := zrf rfl
theorem s_112_49 {E : yE} {n d : Nat} {mem : yMem} {Post : Option yV → yMem → Prop} {st : List yV} {r0 r2 r3 : Option yV} {x : Int} : zvc E (n + 1) [] d xm_112 49 [r0, some (0, x), r2, r3] (st) mem Post = (zvc E n [] d xm_112 50 [r0, some (0, x), r2, r3] ((0, x) :: st) mem Post) := zrf rfl
theorem s_112_50 {E : yE} {n d : Nat} {mem : yMem} {Post : Option yV → yMem → Prop} {r0 r1 r2 r3 : Option yV} {x : Int} : zvc E (n + 1) [] d xm_112 50 [r0, r1, r2, r3] ([(0, x)]) mem Post = (Post (some (0, x)) mem) := zrf rfl
theorem s_112_51 {E : yE} {n d : Nat} {mem : yMem} {Post : Option yV → yMem → Prop} {st : List yV} {r1 r2 r3 : Option yV} {x : Int} : zvc E (n + 1) [] d xm_112 51 [some (1, x), r1, r2, r3] (st) mem Post = (zvc E n [] d xm_112 52 [some (1, x), r1, r2, r3] ((1, x) :: st) mem Post) := zrf rfl
theorem s_112_52 {E : yE} {n d : Nat} {mem : yMem} {Post : Option yV → yMem → Prop} {st : List yV} {r0 r1 r2 r3 : Option yV} : zvc E (n + 1) [] d xm_112 52 [r0, r1, r2, r3] ((1, 54) :: st) mem Post = (zvc E n [] d xm_112 55 [r0, r1, r2, r3] ((1, 55) :: st) mem Post) := zrf rfl
theorem s_112_55 {E : yE} {n d : Nat} {mem : yMem} {Post : Option yV → yMem → Prop} {st : List yV} {r0 r1 r2 r3 : Option yV} {z : Int} : zvc E (n + 1) [] d xm_112 55 [r0, r1, r2, r3] ((1, z) :: st) mem Post = (zio z 9 = true ∧ ysum st ≤ 8 ∧ yCon E d xm_126 [(1, z)] mem (fun v mem' => zgk E d xm_112 58 [r0, r1, r2, r3] st v mem' Post)) := zrf rfl
theorem s_112_58 {E : yE} {n d : Nat} {mem : yMem} {Post : Option yV → yMem → Prop} {st : List yV} {r0 r1 r2 : Option yV} {x : Int} : zvc E (n + 1) [] d xm_112 58 [r0, r1, r2, some (0, x)] (st) mem Post = (zvc E n [] d xm_112 59 [r0, r1, r2, some (0, x)] ((0, x) :: st) mem Post) := zrf rfl
theorem s_112_59 {E : yE} {n d : Nat} {mem : yMem} {Post : Option yV → yMem → Prop} {r0 r1 r2 r3 : Option yV} {x : Int} : zvc E (n + 1) [] d xm_112 59 [r0, r1, r2, r3] ([(0, x)]) mem Post = (Post (some (0, x)) mem) := zrf rfl
theorem e_112 {E : yE} {d : Nat} {mem : yMem} {Q : Option yV → yMem → Prop} {z a0 a1 : Int} (h : zG E d xm_112 0 [some (1, z), some (0, a0), some (0, a1), none] [] mem Q) : yCon E (d + 1) xm_112 [(1, z), (0, a0), (0, a1)] mem Q := zcon_of xmo_112 (Nat.le_of_ble_eq_true rfl) h

/-! token lists -/
theorem sRn_ex (ch : Nat → Int) (lo hi : Int) (n : Nat) : ∀ (c a : Nat), n - a = c → a ≤ n → ∃ e, sRn ch lo hi n a e := by
  intro c
  induction c with
  | zero => exact fun a h1 h2 => ⟨a, Nat.le_refl _, h2, fun j j1 j2 => absurd j2 (by (first | exact Nat.le_of_ble_eq_true rfl | exact (fun h => absurd h.1 (by decide)) | omega)), fun h => absurd h (by (first | exact Nat.le_of_ble_eq_true rfl | exact (fun h => absurd h.1 (by decide)) | omega))⟩
  | succ c ih =>
    intro a h1 h2
    by_cases h : lo ≤ ch a ∧ ch a ≤ hi
    · obtain ⟨e, e1, e2, e3, e4⟩ := ih (a + 1) (by (first | exact Nat.le_of_ble_eq_true rfl | exact (fun h => absurd h.1 (by decide)) | omega)) (by (first | exact Nat.le_of_ble_eq_true rfl | exact (fun h => absurd h.1 (by decide)) | omega))
      refine ⟨e, by (first | exact Nat.le_of_ble_eq_true rfl | exact (fun h => absurd h.1 (by decide)) | omega), e2, fun j j1 j2 => ?_, e4⟩
      by_cases hj : j = a
      · subst hj; exact h
      · exact e3 j (by (first | exact Nat.le_of_ble_eq_true rfl | exact (fun h => absurd h.1 (by decide)) | omega)) j2
    · exact ⟨a, Nat.le_refl _, h2, fun j j1 j2 => absurd j2 (by (first | exact Nat.le_of_ble_eq_true rfl | exact (fun h => absurd h.1 (by decide)) | omega)), fun _ => h⟩
theorem sBk_ex (ch : Nat → Int) (n : Nat) : ∀ (c a : Nat), n - a = c → a ≤ n → ∃ p, sBk ch n a p := by
  intro c
  induction c with
  | zero => exact fun a h1 h2 => ⟨a, Nat.le_refl _, h2, fun j j1 j2 => absurd j2 (by (first | exact Nat.le_of_ble_eq_true rfl | exact (fun h => absurd h.1 (by decide)) | omega)), fun h => absurd h (by (first | exact Nat.le_of_ble_eq_true rfl | exact (fun h => absurd h.1 (by decide)) | omega))⟩
  | succ c ih =>
    intro a h1 h2
    by_cases h : ch a = 10 ∨ ch a = 32
    · obtain ⟨e, e1, e2, e3, e4⟩ := ih (a + 1) (by (first | exact Nat.le_of_ble_eq_true rfl | exact (fun h => absurd h.1 (by decide)) | omega)) (by (first | exact Nat.le_of_ble_eq_true rfl | exact (fun h => absurd h.1 (by decide)) | omega))
      refine ⟨e, by (first | exact Nat.le_of_ble_eq_true rfl | exact (fun h => absurd h.1 (by decide)) | omega), e2, fun j j1 j2 => ?_, e4⟩
      by_cases hj : j = a
      · subst hj; exact h
      · exact e3 j (by (first | exact Nat.le_of_ble_eq_true rfl | exact (fun h => absurd h.1 (by decide)) | omega)) j2
    · exact ⟨a, Nat.le_refl _, h2, fun j j1 j2 => absurd j2 (by (first | exact Nat.le_of_ble_eq_true rfl | exact (fun h => absurd h.1 (by decide)) | omega)), fun _ => h⟩
theorem sTk_ex (ch : Nat → Int) (n a : Nat) (h : a ≤ n) : ∃ k p v e, sTk ch n a k p v e := by
  obtain ⟨p, hB⟩ := sBk_ex ch n _ a rfl h
  by_cases hp : p = n
  · exact ⟨0, p, 0, n, hB, Or.inl ⟨hp, rfl, rfl, rfl⟩⟩
  · have hpn : p < n := by have := hB.2.1; (first | exact Nat.le_of_ble_eq_true rfl | exact (fun h => absurd h.1 (by decide)) | omega)
    by_cases h1 : 97 ≤ ch p ∧ ch p ≤ 122
    · obtain ⟨e, hR⟩ := sRn_ex ch 97 122 n _ p rfl (by (first | exact Nat.le_of_ble_eq_true rfl | exact (fun h => absurd h.1 (by decide)) | omega))
      by_cases h6 : p + 6 < e
      · exact ⟨1, p, 0, e, hB, Or.inr (Or.inl ⟨hpn, h1, hR, Or.inl ⟨h6, rfl, rfl⟩⟩)⟩
      · exact ⟨_, p, _, e, hB, Or.inr (Or.inl ⟨hpn, h1, hR, Or.inr ⟨by (first | exact Nat.le_of_ble_eq_true rfl | exact (fun h => absurd h.1 (by decide)) | omega), rfl, rfl⟩⟩)⟩
    · by_cases h2 : 48 ≤ ch p ∧ ch p ≤ 57
      · obtain ⟨e, hR⟩ := sRn_ex ch 48 57 n _ p rfl (by (first | exact Nat.le_of_ble_eq_true rfl | exact (fun h => absurd h.1 (by decide)) | omega))
        exact ⟨2, p, _, e, hB, Or.inr (Or.inr (Or.inl ⟨hpn, h2, hR, rfl, rfl⟩))⟩
      · exact ⟨_, p, 0, _, hB, Or.inr (Or.inr (Or.inr ⟨hpn, h1, h2, rfl, rfl, rfl⟩))⟩
theorem sTk_0 {ch : Nat → Int} {n a p e : Nat} {v : Int} (h : sTk ch n a 0 p v e) : p = n ∧ v = 0 ∧ e = n := by
  rcases h.2 with ⟨h1, h2, h3, h4⟩ | ⟨h1, h2, h3, h4⟩ | ⟨h1, h2, h3, h4, h5⟩ | ⟨h1, h2, h3, h4, h5, h6⟩
  · exact ⟨h1, h3, h4⟩
  · rcases h4 with ⟨_, h, _⟩ | ⟨_, h, _⟩
    · exact absurd h (by decide)
    · have := sWk_k (sPk ch p e)
      (first | exact Nat.le_of_ble_eq_true rfl | exact (fun h => absurd h.1 (by decide)) | omega)
  · exact absurd h4 (by decide)
  · have := sSg_k (ch p) (if p + 1 < n then ch (p + 1) else 0)
    (first | exact Nat.le_of_ble_eq_true rfl | exact (fun h => absurd h.1 (by decide)) | omega)
/-- the tokens from a on, up to the end -/
def sTl (ch : Nat → Int) (n : Nat) : List sT → Nat → Prop
  | [], _ => False
  | t :: r, a => ∃ e, sTk ch n a t.1 t.2.1 t.2.2 e ∧ ((t.1 = 0 ∧ r = []) ∨ (t.1 ≠ 0 ∧ sTl ch n r e))
theorem sTl_ex (ch : Nat → Int) (n : Nat) : ∀ (c a : Nat), n - a = c → a ≤ n → ∃ l, sTl ch n l a ∧ l.length ≤ c + 1 := by
  intro c
  induction c using Nat.strongRecOn with
  | ind c ih =>
    intro a h1 h2
    obtain ⟨k, p, v, e, ht⟩ := sTk_ex ch n a h2
    have hl := sTk_lt ht
    by_cases hk : k = 0
    · exact ⟨[(k, p, v)], ⟨e, ht, Or.inl ⟨hk, rfl⟩⟩, by simp⟩
    · have := hl.2.2.2 hk
      obtain ⟨l, hl1, hl2⟩ := ih (n - e) (by (first | exact Nat.le_of_ble_eq_true rfl | exact (fun h => absurd h.1 (by decide)) | omega)) e rfl hl.2.2.1
      exact ⟨(k, p, v) :: l, ⟨e, ht, Or.inr ⟨hk, hl1⟩⟩, by rw [List.length_cons]; (first | exact Nat.le_of_ble_eq_true rfl | exact (fun h => absurd h.1 (by decide)) | omega)⟩
theorem sTl_u {ch : Nat → Int} {n : Nat} : ∀ {l l' : List sT} {a : Nat}, sTl ch n l a → sTl ch n l' a → l = l'
  | [], _, _, h, _ => h.elim
  | _ :: _, [], _, _, h => h.elim
  | t :: r, t' :: r', a, h, h' => by
    obtain ⟨e, h1, h2⟩ := h
    obtain ⟨e', g1, g2⟩ := h'
    obtain ⟨q1, q2, q3, q4⟩ := sTk_u h1 g1
    obtain ⟨k, p, v⟩ := t
    obtain ⟨k', p', v'⟩ := t'
    dsimp only at q1 q2 q3 h2 g2
    subst q1; subst q2; subst q3; subst q4
    rcases h2 with ⟨a1, a2⟩ | ⟨a1, a2⟩ <;> rcases g2 with ⟨b1, b2⟩ | ⟨b1, b2⟩
    · rw [a2, b2]
    · exact absurd a1 b1
    · exact absurd b1 a1
    · rw [sTl_u a2 b2]
/-- l is read, its first token stands, e is behind it -/
def sCu (ch : Nat → Int) (n : Nat) (l : List sT) (e : Nat) : Prop := ∃ a, sTl ch n l a ∧ sTk ch n a (sHd l).1 (sHd l).2.1 (sHd l).2.2 e
theorem sTl_cu {ch : Nat → Int} {n a k p e : Nat} {v : Int} {l : List sT} (h : sTl ch n l a) (ht : sTk ch n a k p v e) : sHd l = (k, p, v) ∧ sCu ch n l e := by
  cases l with
  | nil => exact h.elim
  | cons t r =>
    obtain ⟨e', h1, h2⟩ := h
    obtain ⟨q1, q2, q3, q4⟩ := sTk_u h1 ht
    have eq : sHd (t :: r) = (k, p, v) := by
      show t = _
      obtain ⟨k', p', v'⟩ := t
      dsimp only at q1 q2 q3
      rw [q1, q2, q3]
    refine ⟨eq, a, ⟨e', h1, h2⟩, ?_⟩
    rw [eq]
    exact ht
def sNx (l : List sT) : List sT := if (sHd l).1 = 0 then l else l.tail
theorem sCu_nx {ch : Nat → Int} {n e : Nat} {l : List sT} (h : sCu ch n l e) : sTl ch n (sNx l) e ∧ e ≤ n := by
  obtain ⟨a, h1, ht⟩ := h
  have hl := sTk_lt ht
  refine ⟨?_, hl.2.2.1⟩
  cases l with
  | nil => exact h1.elim
  | cons t r =>
    obtain ⟨e', g1, g2⟩ := h1
    have hq : sHd (t :: r) = t := rfl
    unfold sNx
    rw [hq] at ht ⊢
    obtain ⟨-, -, -, q4⟩ := sTk_u g1 ht
    subst q4
    by_cases hk : t.1 = 0
    · rw [if_pos hk]
      rcases g2 with ⟨_, hr⟩ | ⟨hr, _⟩
      · subst hr
        obtain ⟨k, p, v⟩ := t
        dsimp only at hk ht
        subst hk
        obtain ⟨e1, e2, e3⟩ := sTk_0 ht
        refine ⟨n, ?_, Or.inl ⟨rfl, rfl⟩⟩
        show sTk ch n e' 0 p v n
        rw [e1, e2, e3]
        exact ⟨⟨Nat.le_refl _, Nat.le_refl _, fun j j1 j2 => absurd j2 (by (first | exact Nat.le_of_ble_eq_true rfl | exact (fun h => absurd h.1 (by decide)) | omega)), fun h => absurd h (by (first | exact Nat.le_of_ble_eq_true rfl | exact (fun h => absurd h.1 (by decide)) | omega))⟩, Or.inl ⟨rfl, rfl, rfl, rfl⟩⟩
      · exact absurd hk hr
    · rw [if_neg hk]
      rcases g2 with ⟨hr, _⟩ | ⟨_, hr⟩
      · exact absurd hr hk
      · exact hr
/-! what a reader's calls make of the tokens: a FAULT, or the tokens from the one that stands on -/
abbrev sY : Type := (Nat × Nat) ⊕ List sT
def yKd (x : sY) : Nat := match x with
  | .inl _ => 0
  | .inr l => (sHd l).1
def yVl (x : sY) : Int := match x with
  | .inl _ => 0
  | .inr l => (sHd l).2.2
def yNx (x : sY) : sY := match x with
  | .inl e => .inl e
  | .inr l => .inr (sNx l)
def yFl (f : Nat) (x : sY) : sY := match x with
  | .inl e => .inl e
  | .inr l => .inl (f, (sHd l).2.1)
/-- how the class holds it -/
def cTk (ch : Nat → Int) (n : Nat) (mem : yMem) (x : sY) : Prop := w32 (mem 55 2) = (n : Int) ∧ n ≤ 800 ∧ cBy mem ch ∧ cWd mem ∧ match x with
  | .inl e => w32 (mem 55 7) = (e.1 : Int) ∧ e.1 ≠ 0 ∧ w32 (mem 55 8) = (e.2 : Int) ∧ w32 (mem 55 4) = 0
  | .inr l => w32 (mem 55 7) = 0 ∧ ∃ e : Nat, (w32 (mem 55 3) = (e : Int) ∧ w32 (mem 55 8) = -1) ∧ sCu ch n l e ∧ w32 (mem 55 5) = (((sHd l).2.1 : Nat) : Int) ∧ w32 (mem 55 4) = (((sHd l).1 : Nat) : Int) ∧ sCk (w32 (mem 55 6)) (sHd l).1 (sHd l).2.2
theorem cTk_kd {ch : Nat → Int} {n : Nat} {mem : yMem} {x : sY} (h : cTk ch n mem x) : w32 (mem 55 4) = ((yKd x : Nat) : Int) := by
  cases x with
  | inl e => exact h.2.2.2.2.2.2.2
  | inr l =>
    obtain ⟨-, -, -, -, -, e, -, -, -, h4, -⟩ := h
    exact h4
/-- the slots that a token call changes, a FAULT too -/
abbrev cfF : List (Nat × Nat) := [(55, 4), (55, 5), (55, 6), (55, 7), (55, 8), (55, 9)]
theorem cTk_of {ch : Nat → Int} {n : Nat} {mem m : yMem} {x : sY} (h : cTk ch n mem x) (hF : ∀ j, m 55 j = mem 55 j) (h1 : ∀ j, m 1 j = mem 1 j) (h56 : ∀ j, m 56 j = mem 56 j) : cTk ch n m x := by
  obtain ⟨a1, a2, a3, a4, a5⟩ := h
  refine ⟨by rw [hF]; exact a1, a2, fun j => by rw [h1]; exact a3 j, fun i hi => by rw [h56]; exact a4 i hi, ?_⟩
  cases x with
  | inl e =>
    dsimp only at a5 ⊢
    rw [hF, hF, hF]
    exact a5
  | inr l =>
    dsimp only at a5 ⊢
    rw [hF, hF, hF, hF, hF, hF]
    exact a5
theorem amod_cf {i j : Nat} (h : amod cfF i j = false) : amod ctF i j = false := by
  revert h
  simp only [amod, Bool.or_eq_false_iff]
  intro h
  exact ⟨h.1, h.2.1, h.2.2.1, h.2.2.2.1, trivial⟩
section CG
variable {E : yE} {mem : yMem} {Q : Option yV → yMem → Prop} {ch : Nat → Int} {n : Nat} {x : sY}
theorem g_next (hE : yEok E) {D : Nat} (hD : 4 ≤ D) (h : cTk ch n mem x) (hQ : ∀ m, aFrm cfF mem m → cTk ch n m (yNx x) → Q none m) : yCon E D xm_126 [(1, 55)] mem Q := by
  have h0 := h
  obtain ⟨a1, a2, a3, a4, a5⟩ := h
  cases x with
  | inl e =>
    exact f_nextF hE (by (first | exact Nat.le_of_ble_eq_true rfl | exact (fun h => absurd h.1 (by decide)) | omega)) (by rw [a5.1]; have := a5.2.1; (first | exact Nat.le_of_ble_eq_true rfl | exact (fun h => absurd h.1 (by decide)) | omega)) (hQ mem aFrm_rf h0)
  | inr l =>
    obtain ⟨b1, e, b2, b3, b4, b5, b6⟩ := a5
    obtain ⟨c1, c2⟩ := sCu_nx b3
    have en : cen mem = n := by show (w32 (mem 55 2)).toNat = n; rw [a1]; exact Int.toNat_natCast n
    have ea : cat mem = e := by show (w32 (mem 55 3)).toNat = e; rw [b2.1]; exact Int.toNat_natCast e
    refine f_next hE hD (by (first | exact Nat.le_of_ble_eq_true rfl | exact (fun h => absurd h.1 (by decide)) | omega)) (by (first | exact Nat.le_of_ble_eq_true rfl | exact (fun h => absurd h.1 (by decide)) | omega)) (by (first | exact Nat.le_of_ble_eq_true rfl | exact (fun h => absurd h.1 (by decide)) | omega)) a3 a4 b1 (fun m k p v e' f1 f2 f3 f4 f5 f6 => ?_)
    rw [en, ea] at f2
    obtain ⟨d1, d2⟩ := sTl_cu c1 f2
    refine hQ m (fun i j hij => f1 i j (amod_cf hij)) ⟨by rw [f1 55 2 rfl]; exact a1, a2, cBy_fr a3 f1, fun i hi => by rw [f1 56 i rfl]; exact a4 i hi, by rw [f1 55 7 rfl]; exact b1, e', ⟨f3, by rw [f1 55 8 rfl]; exact b2.2⟩, d2, ?_, ?_, ?_⟩
    · rw [d1]; exact f4
    · rw [d1]; exact f5
    · rw [d1]; exact f6
/-- fail, gone into -/
theorem g_fl1 {f : Nat} (h : cTk ch n mem x) (hf : ¬ w32 (mem 55 7) = 0) : aFrm cfF mem (yset mem 55 4 0) ∧ cTk ch n (yset mem 55 4 0) (yFl f x) := by
  obtain ⟨a1, a2, a3, a4, a5⟩ := h
  refine ⟨aFrm_set aFrm_rf rfl, by rw [yset_d (by decide)]; exact a1, a2, fun j => by rw [yset_o (by decide)]; exact a3 j, fun i hi => by rw [yset_o (by decide)]; exact a4 i hi, ?_⟩
  cases x with
  | inl e =>
    refine ⟨by rw [yset_d (by decide)]; exact a5.1, a5.2.1, by rw [yset_d (by decide)]; exact a5.2.2.1, by rw [yset_s]; decide⟩
  | inr l => exact absurd a5.1 hf
theorem g_fl0 {f : Nat} {F : Int} (h : cTk ch n mem x) (hF : w32 F = (f : Int)) (h0 : f ≠ 0) (hf : w32 (mem 55 7) = 0) : aFrm cfF mem (yset (yset (yset mem 55 7 F) 55 8 (mem 55 5)) 55 4 0) ∧ cTk ch n (yset (yset (yset mem 55 7 F) 55 8 (mem 55 5)) 55 4 0) (yFl f x) := by
  obtain ⟨a1, a2, a3, a4, a5⟩ := h
  have o1 : ∀ i j, i ≠ 55 → yset (yset (yset mem 55 7 F) 55 8 (mem 55 5)) 55 4 0 i j = mem i j := fun i j hi => by rw [yset_o hi, yset_o hi, yset_o hi]
  refine ⟨aFrm_set (aFrm_set (aFrm_set aFrm_rf rfl) rfl) rfl, by rw [yset_d (by decide), yset_d (by decide), yset_d (by decide)]; exact a1, a2, fun j => by rw [o1 1 j (by decide)]; exact a3 j, fun i hi => by rw [o1 56 i (by decide)]; exact a4 i hi, ?_⟩
  cases x with
  | inl e => exact absurd hf (by rw [a5.1]; have := a5.2.1; (first | exact Nat.le_of_ble_eq_true rfl | exact (fun h => absurd h.1 (by decide)) | omega))
  | inr l =>
    obtain ⟨b1, e, b2, b3, b4, b5, b6⟩ := a5
    exact ⟨by rw [yset_d (by decide), yset_d (by decide), yset_s]; exact hF, h0, by rw [yset_d (by decide), yset_s]; exact b4, by rw [yset_s]; decide⟩
/-- a number, within its bounds -/
def yNm (lo hi : Int) (x : sY) : Int × sY := if yKd x = 2 then (if yVl x < lo ∨ hi < yVl x then (lo, yFl 2 x) else (yVl x, yNx x)) else (lo, yFl 1 x)
theorem cTk_vl (h : cTk ch n mem x) (hk : yKd x = 2) : 0 ≤ w32 (mem 55 6) ∧ min (w32 (mem 55 6)) 100000 = yVl x := by
  cases x with
  | inl e => exact absurd (show (0 : Nat) = 2 from hk) (by decide)
  | inr l =>
    obtain ⟨-, -, -, -, -, e, -, -, -, -, b6⟩ := h
    have hk : (sHd l).1 = 2 := hk
    rcases b6 with ⟨_, c1, c2⟩ | ⟨c1, _⟩ | c1 | c1 | c1
    · exact ⟨c1, c2⟩
    · (first | exact Nat.le_of_ble_eq_true rfl | exact (fun h => absurd h.1 (by decide)) | omega)
    · (first | exact Nat.le_of_ble_eq_true rfl | exact (fun h => absurd h.1 (by decide)) | omega)
    · (first | exact Nat.le_of_ble_eq_true rfl | exact (fun h => absurd h.1 (by decide)) | omega)
    · (first | exact Nat.le_of_ble_eq_true rfl | exact (fun h => absurd h.1 (by decide)) | omega)
theorem g_number (hE : yEok E) {D : Nat} (hD : 5 ≤ D) {a b : Int} (h : cTk ch n mem x) (ha : w32 a ≤ 99999) (hb : w32 b ≤ 99999) (hQ : ∀ r m, aFrm cfF mem m → w32 r = (yNm (w32 a) (w32 b) x).1 → cTk ch n m (yNm (w32 a) (w32 b) x).2 → Q (some (0, r)) m) : yCon E D xm_112 [(1, 54), (0, a), (0, b)] mem Q := by
  obtain ⟨d, rfl⟩ := Nat.exists_eq_add_of_le' hD
  refine e_112 ?_
  refine zvc_ok hE 90 [] _ _ _ _ _ _ _ xmo_112 ?_
  have ek := cTk_kd h
  have q1 : ¬ yKd x = 2 → ∀ m, aFrm cfF mem m → cTk ch n m (yFl 1 x) → Q (some (0, a)) m := fun hk m g1 g2 => hQ a m g1 (by unfold yNm; rw [if_neg hk]) (by unfold yNm; rw [if_neg hk]; exact g2)
  have q2 : yKd x = 2 → (yVl x < w32 a ∨ w32 b < yVl x) → ∀ m, aFrm cfF mem m → cTk ch n m (yFl 2 x) → Q (some (0, a)) m := fun hk hv m g1 g2 => hQ a m g1 (by unfold yNm; rw [if_pos hk, if_pos hv]) (by unfold yNm; rw [if_pos hk, if_pos hv]; exact g2)
  simp only [ynok_30, ynok_31, w32c_0, w32c_1, w32c_2, w32c_3, w32c_4, w32c_5, w32c_6, w32c_7, w32c_8, w32c_9, w32c_10, w32c_11, w32c_12, w32c_13, w32c_14, w32c_m1, w32c_m2, w32c_118, Int.reduceAdd, Int.reduceSub, Int.reduceMul, yput_s, yput_n, znl_n, znl_0, znl_1, znl_4, ysum_n, ysum_0, ysum_1, ysum_4, true_and, and_true, Nat.reduceAdd, Nat.reduceLeDiff, true_implies, eq_self, true_or, or_true, or_false, false_or, not_true_eq_false, not_false_eq_true, false_implies, implies_true, yset_s, yset_o, yset_d, ne_eq, Nat.reduceEqDiff, Int.reduceToNat, Int.reduceEq, Int.reduceLE, Int.reduceLT, Classical.not_not, Nat.reduceLT, ↓zvk_s, ↓zvk_n, ↓s_112_0, ↓s_112_1, ↓s_112_4, ↓s_112_7n, ↓s_112_7i, ↓s_112_7p, ↓s_112_8, ↓s_112_9, ↓s_112_12, ↓s_112_15, ↓s_112_16, ↓s_112_19, ↓s_112_20, ↓s_112_23, ↓s_112_24, ↓s_112_27a, ↓s_112_27b, ↓s_112_28, ↓s_112_29, ↓s_112_30, ↓s_112_31, ↓s_112_32, ↓s_112_35, ↓s_112_36, ↓s_112_37, ↓s_112_40, ↓s_112_41, ↓s_112_44, ↓s_112_45, ↓s_112_48a, ↓s_112_48b, ↓s_112_49, ↓s_112_50, ↓s_112_51, ↓s_112_52, ↓s_112_55, ↓s_112_58, ↓s_112_59, ↓s_123_0, ↓s_123_1, ↓s_123_4, ↓s_123_7, ↓s_123_8, ↓s_123_9, ↓s_123_12, ↓s_123_13, ↓s_123_14, ↓s_123_17, ↓s_123_20, ↓s_123_21, ↓s_123_22, ↓s_123_25, ↓s_123_26, zio_54, zio_55]
  rw [ek]
  have n1 : ¬ yKd x = 2 → (¬ w32 (mem 55 7) = 0 → Q (some (0, a)) (yset mem 55 4 0)) ∧ (w32 (mem 55 7) = 0 → Q (some (0, a)) (yset (yset (yset mem 55 7 1) 55 8 (mem 55 5)) 55 4 0)) := fun hk => ⟨fun hf => q1 hk _ (g_fl1 (f := 1) h hf).1 (g_fl1 h hf).2, fun hf => q1 hk _ (g_fl0 (f := 1) h (by decide) (by decide) hf).1 (g_fl0 h (by decide) (by decide) hf).2⟩
  have n2 : yKd x = 2 → (yVl x < w32 a ∨ w32 b < yVl x) → (¬ w32 (mem 55 7) = 0 → Q (some (0, a)) (yset mem 55 4 0)) ∧ (w32 (mem 55 7) = 0 → Q (some (0, a)) (yset (yset (yset mem 55 7 2) 55 8 (mem 55 5)) 55 4 0)) := fun hk hv => ⟨fun hf => q2 hk hv _ (g_fl1 (f := 2) h hf).1 (g_fl1 h hf).2, fun hf => q2 hk hv _ (g_fl0 (f := 2) h (by decide) (by decide) hf).1 (g_fl0 h (by decide) (by decide) hf).2⟩
  refine ⟨fun hk => ?_, fun hk => n1 (by (first | exact Nat.le_of_ble_eq_true rfl | exact (fun h => absurd h.1 (by decide)) | omega))⟩
  have hk' : yKd x = 2 := by (first | exact Nat.le_of_ble_eq_true rfl | exact (fun h => absurd h.1 (by decide)) | omega)
  have hv := cTk_vl h hk'
  refine ⟨fun h1 => n2 hk' (by (first | exact Nat.le_of_ble_eq_true rfl | exact (fun h => absurd h.1 (by decide)) | omega)), fun h1 => ⟨fun h2 => ?_, fun h2 => n2 hk' (by (first | exact Nat.le_of_ble_eq_true rfl | exact (fun h => absurd h.1 (by decide)) | omega))⟩⟩
  refine g_next hE (by (first | exact Nat.le_of_ble_eq_true rfl | exact (fun h => absurd h.1 (by decide)) | omega)) h (fun m g1 g2 => ?_)
  refine zgk_n hE xmo_112 60 [] ?_
  simp only [ynok_30, ynok_31, w32c_0, w32c_1, w32c_2, w32c_3, w32c_4, w32c_5, w32c_6, w32c_7, w32c_8, w32c_9, w32c_10, w32c_11, w32c_12, w32c_13, w32c_14, w32c_m1, w32c_m2, w32c_118, Int.reduceAdd, Int.reduceSub, Int.reduceMul, yput_s, yput_n, znl_n, znl_0, znl_1, znl_4, ysum_n, ysum_0, ysum_1, ysum_4, true_and, and_true, Nat.reduceAdd, Nat.reduceLeDiff, true_implies, eq_self, true_or, or_true, or_false, false_or, not_true_eq_false, not_false_eq_true, false_implies, implies_true, yset_s, yset_o, yset_d, ne_eq, Nat.reduceEqDiff, Int.reduceToNat, Int.reduceEq, Int.reduceLE, Int.reduceLT, Classical.not_not, Nat.reduceLT, ↓zvk_s, ↓zvk_n, ↓s_112_0, ↓s_112_1, ↓s_112_4, ↓s_112_7n, ↓s_112_7i, ↓s_112_7p, ↓s_112_8, ↓s_112_9, ↓s_112_12, ↓s_112_15, ↓s_112_16, ↓s_112_19, ↓s_112_20, ↓s_112_23, ↓s_112_24, ↓s_112_27a, ↓s_112_27b, ↓s_112_28, ↓s_112_29, ↓s_112_30, ↓s_112_31, ↓s_112_32, ↓s_112_35, ↓s_112_36, ↓s_112_37, ↓s_112_40, ↓s_112_41, ↓s_112_44, ↓s_112_45, ↓s_112_48a, ↓s_112_48b, ↓s_112_49, ↓s_112_50, ↓s_112_51, ↓s_112_52, ↓s_112_55, ↓s_112_58, ↓s_112_59, zio_54, zio_55]
  have hn : ¬ (yVl x < w32 a ∨ w32 b < yVl x) := by (first | exact Nat.le_of_ble_eq_true rfl | exact (fun h => absurd h.1 (by decide)) | omega)
  exact hQ _ m g1 (by unfold yNm; rw [if_pos hk', if_neg hn]; show _ = yVl x; (first | exact Nat.le_of_ble_eq_true rfl | exact (fun h => absurd h.1 (by decide)) | omega)) (by unfold yNm; rw [if_pos hk', if_neg hn]; exact g2)
end CG
end
section
def zc_102 : List Nat := [2]
theorem s_102_0 {E : yE} {n d : Nat} {mem : yMem} {Post : Option yV → yMem → Prop} {st : List yV} {r0 r1 r2 : Option yV} : zvc E (n + 1) zc_102 d xm_102 0 [r0, r1, r2] (st) mem Post = (zvc E n zc_102 d xm_102 1 [r0, r1, r2] ((0, 0) :: st) mem Post) := zrf rfl
theorem s_102_1n {E : yE} {n d : Nat} {mem : yMem} {Post : Option yV → yMem → Prop} {st : List yV} {r0 r2 : Option yV} {x : Int} : zvc E (n + 1) zc_102 d xm_102 1 [r0, none, r2] ((0, x) :: st) mem Post = (zvc E n zc_102 d xm_102 2 [r0, none, some (0, x)] (st) mem Post) := zrf rfl
theorem s_102_1i {E : yE} {n d : Nat} {mem : yMem} {Post : Option yV → yMem → Prop} {st : List yV} {r0 r2 : Option yV} {x w : Int} : zvc E (n + 1) zc_102 d xm_102 1 [r0, some (0, w), r2] ((0, x) :: st) mem Post = (zvc E n zc_102 d xm_102 2 [r0, some (0, w), some (0, x)] (st) mem Post) := zrf rfl
theorem s_102_1p {E : yE} {n d : Nat} {mem : yMem} {Post : Option yV → yMem → Prop} {st : List yV} {r0 r2 : Option yV} {x w : Int} : zvc E (n + 1) zc_102 d xm_102 1 [r0, some (1, w), r2] ((0, x) :: st) mem Post = (zvc E n zc_102 d xm_102 2 [r0, some (1, w), some (0, x)] (st) mem Post) := zrf rfl
theorem g_102_2 {E : yE} {n d : Nat} {mem : yMem} {Post : Option yV → yMem → Prop} {st : List yV} {r0 r1 : Option yV} {x : Int} : zgo E n zc_102 d xm_102 2 [r0, r1, some (0, x)] (st) mem Post = (zvc E n zc_102 d xm_102 3 [r0, r1, some (0, x)] ((0, x) :: st) mem Post) := zrf rfl
theorem k_102_2 {E : yE} {n d : Nat} {mem : yMem} {Post : Option yV → yMem → Prop} {st : List yV} {rg : zR} : zvc E (n + 1) zc_102 d xm_102 2 rg st mem Post = zG E d xm_102 2 rg st mem Post := zrf rfl
theorem s_102_3 {E : yE} {n d : Nat} {mem : yMem} {Post : Option yV → yMem → Prop} {st : List yV} {r1 r2 : Option yV} {x : Int} : zvc E (n + 1) zc_102 d xm_102 3 [some (1, x), r1, r2] (st) mem Post = (zvc E n zc_102 d xm_102 4 [some (1, x), r1, r2] ((1, x) :: st) mem Post) := zrf rfl
theorem s_102_4_3 {E : yE} {n d : Nat} {mem : yMem} {Post : Option yV → yMem → Prop} {st : List yV} {r0 r1 r2 : Option yV} : zvc E (n + 1) zc_102 d xm_102 4 [r0, r1, r2] ((1, 3) :: st) mem Post = (zvc E n zc_102 d xm_102 7 [r0, r1, r2] ((0, mem 3 1) :: st) mem Post) := zrf rfl
theorem s_102_4_5 {E : yE} {n d : Nat} {mem : yMem} {Post : Option yV → yMem → Prop} {st : List yV} {r0 r1 r2 : Option yV} : zvc E (n + 1) zc_102 d xm_102 4 [r0, r1, r2] ((1, 5) :: st) mem Post = (zvc E n zc_102 d xm_102 7 [r0, r1, r2] ((0, mem 5 1) :: st) mem Post) := zrf rfl
theorem s_102_4_7 {E : yE} {n d : Nat} {mem : yMem} {Post : Option yV → yMem → Prop} {st : List yV} {r0 r1 r2 : Option yV} : zvc E (n + 1) zc_102 d xm_102 4 [r0, r1, r2] ((1, 7) :: st) mem Post = (zvc E n zc_102 d xm_102 7 [r0, r1, r2] ((0, mem 7 1) :: st) mem Post) := zrf rfl
theorem s_102_4_9 {E : yE} {n d : Nat} {mem : yMem} {Post : Option yV → yMem → Prop} {st : List yV} {r0 r1 r2 : Option yV} : zvc E (n + 1) zc_102 d xm_102 4 [r0, r1, r2] ((1, 9) :: st) mem Post = (zvc E n zc_102 d xm_102 7 [r0, r1, r2] ((0, mem 9 1) :: st) mem Post) := zrf rfl
theorem s_102_4_29 {E : yE} {n d : Nat} {mem : yMem} {Post : Option yV → yMem → Prop} {st : List yV} {r0 r1 r2 : Option yV} : zvc E (n + 1) zc_102 d xm_102 4 [r0, r1, r2] ((1, 29) :: st) mem Post = (zvc E n zc_102 d xm_102 7 [r0, r1, r2] ((0, mem 29 1) :: st) mem Post) := zrf rfl
theorem s_102_4_31 {E : yE} {n d : Nat} {mem : yMem} {Post : Option yV → yMem → Prop} {st : List yV} {r0 r1 r2 : Option yV} : zvc E (n + 1) zc_102 d xm_102 4 [r0, r1, r2] ((1, 31) :: st) mem Post = (zvc E n zc_102 d xm_102 7 [r0, r1, r2] ((0, mem 31 1) :: st) mem Post) := zrf rfl
theorem s_102_4_33 {E : yE} {n d : Nat} {mem : yMem} {Post : Option yV → yMem → Prop} {st : List yV} {r0 r1 r2 : Option yV} : zvc E (n + 1) zc_102 d xm_102 4 [r0, r1, r2] ((1, 33) :: st) mem Post = (zvc E n zc_102 d xm_102 7 [r0, r1, r2] ((0, mem 33 1) :: st) mem Post) := zrf rfl
theorem s_102_4_35 {E : yE} {n d : Nat} {mem : yMem} {Post : Option yV → yMem → Prop} {st : List yV} {r0 r1 r2 : Option yV} : zvc E (n + 1) zc_102 d xm_102 4 [r0, r1, r2] ((1, 35) :: st) mem Post = (zvc E n zc_102 d xm_102 7 [r0, r1, r2] ((0, mem 35 1) :: st) mem Post) := zrf rfl
theorem s_102_7 {E : yE} {n d : Nat} {mem : yMem} {Post : Option yV → yMem → Prop} {st : List yV} {r0 r1 r2 : Option yV} {x y : Int} : zvc E (n + 1) zc_102 d xm_102 7 [r0, r1, r2] ((0, y) :: (0, x) :: st) mem Post = ((w32 y ≤ w32 x → zvc E n zc_102 d xm_102 28 [r0, r1, r2] (st) mem Post) ∧ (¬ (w32 y ≤ w32 x) → zvc E n zc_102 d xm_102 10 [r0, r1, r2] (st) mem Post)) := zrf rfl
theorem s_102_10 {E : yE} {n d : Nat} {mem : yMem} {Post : Option yV → yMem → Prop} {st : List yV} {r1 r2 : Option yV} {x : Int} : zvc E (n + 1) zc_102 d xm_102 10 [some (1, x), r1, r2] (st) mem Post = (zvc E n zc_102 d xm_102 11 [some (1, x), r1, r2] ((1, x) :: st) mem Post) := zrf rfl
theorem s_102_11_3 {E : yE} {n d : Nat} {mem : yMem} {Post : Option yV → yMem → Prop} {st : List yV} {r0 r1 r2 : Option yV} : zvc E (n + 1) zc_102 d xm_102 11 [r0, r1, r2] ((1, 3) :: st) mem Post = (zvc E n zc_102 d xm_102 14 [r0, r1, r2] ((1, 4) :: st) mem Post) := zrf rfl
theorem s_102_11_5 {E : yE} {n d : Nat} {mem : yMem} {Post : Option yV → yMem → Prop} {st : List yV} {r0 r1 r2 : Option yV} : zvc E (n + 1) zc_102 d xm_102 11 [r0, r1, r2] ((1, 5) :: st) mem Post = (zvc E n zc_102 d xm_102 14 [r0, r1, r2] ((1, 6) :: st) mem Post) := zrf rfl
theorem s_102_11_7 {E : yE} {n d : Nat} {mem : yMem} {Post : Option yV → yMem → Prop} {st : List yV} {r0 r1 r2 : Option yV} : zvc E (n + 1) zc_102 d xm_102 11 [r0, r1, r2] ((1, 7) :: st) mem Post = (zvc E n zc_102 d xm_102 14 [r0, r1, r2] ((1, 8) :: st) mem Post) := zrf rfl
theorem s_102_11_9 {E : yE} {n d : Nat} {mem : yMem} {Post : Option yV → yMem → Prop} {st : List yV} {r0 r1 r2 : Option yV} : zvc E (n + 1) zc_102 d xm_102 11 [r0, r1, r2] ((1, 9) :: st) mem Post = (zvc E n zc_102 d xm_102 14 [r0, r1, r2] ((1, 10) :: st) mem Post) := zrf rfl
theorem s_102_11_29 {E : yE} {n d : Nat} {mem : yMem} {Post : Option yV → yMem → Prop} {st : List yV} {r0 r1 r2 : Option yV} : zvc E (n + 1) zc_102 d xm_102 11 [r0, r1, r2] ((1, 29) :: st) mem Post = (zvc E n zc_102 d xm_102 14 [r0, r1, r2] ((1, 30) :: st) mem Post) := zrf rfl
theorem s_102_11_31 {E : yE} {n d : Nat} {mem : yMem} {Post : Option yV → yMem → Prop} {st : List yV} {r0 r1 r2 : Option yV} : zvc E (n + 1) zc_102 d xm_102 11 [r0, r1, r2] ((1, 31) :: st) mem Post = (zvc E n zc_102 d xm_102 14 [r0, r1, r2] ((1, 32) :: st) mem Post) := zrf rfl
theorem s_102_11_33 {E : yE} {n d : Nat} {mem : yMem} {Post : Option yV → yMem → Prop} {st : List yV} {r0 r1 r2 : Option yV} : zvc E (n + 1) zc_102 d xm_102 11 [r0, r1, r2] ((1, 33) :: st) mem Post = (zvc E n zc_102 d xm_102 14 [r0, r1, r2] ((1, 34) :: st) mem Post) := zrf rfl
theorem s_102_11_35 {E : yE} {n d : Nat} {mem : yMem} {Post : Option yV → yMem → Prop} {st : List yV} {r0 r1 r2 : Option yV} : zvc E (n + 1) zc_102 d xm_102 11 [r0, r1, r2] ((1, 35) :: st) mem Post = (zvc E n zc_102 d xm_102 14 [r0, r1, r2] ((1, 36) :: st) mem Post) := zrf rfl
theorem s_102_14 {E : yE} {n d : Nat} {mem : yMem} {Post : Option yV → yMem → Prop} {st : List yV} {r0 r1 : Option yV} {x : Int} : zvc E (n + 1) zc_102 d xm_102 14 [r0, r1, some (0, x)] (st) mem Post = (zvc E n zc_102 d xm_102 15 [r0, r1, some (0, x)] ((0, x) :: st) mem Post) := zrf rfl
theorem s_102_15 {E : yE} {n d : Nat} {mem : yMem} {Post : Option yV → yMem → Prop} {st : List yV} {r0 r1 r2 : Option yV} {z j : Int} : zvc E (n + 1) zc_102 d xm_102 15 [r0, r1, r2] ((0, j) :: (1, z) :: st) mem Post = ((0 ≤ w32 j ∧ w32 j < ((zar z 0 : Nat) : Int)) ∧ zvc E n zc_102 d xm_102 16 [r0, r1, r2] ((0, mem z.toNat (w32 j).toNat) :: st) mem Post) := zrf rfl
theorem s_102_16 {E : yE} {n d : Nat} {mem : yMem} {Post : Option yV → yMem → Prop} {st : List yV} {r0 r2 : Option yV} {x : Int} : zvc E (n + 1) zc_102 d xm_102 16 [r0, some (0, x), r2] (st) mem Post = (zvc E n zc_102 d xm_102 17 [r0, some (0, x), r2] ((0, x) :: st) mem Post) := zrf rfl
theorem s_102_17 {E : yE} {n d : Nat} {mem : yMem} {Post : Option yV → yMem → Prop} {st : List yV} {r0 r1 r2 : Option yV} {x y : Int} : zvc E (n + 1) zc_102 d xm_102 17 [r0, r1, r2] ((0, y) :: (0, x) :: st) mem Post = ((¬ w32 x = w32 y → zvc E n zc_102 d xm_102 22 [r0, r1, r2] (st) mem Post) ∧ (¬ (¬ w32 x = w32 y) → zvc E n zc_102 d xm_102 20 [r0, r1, r2] (st) mem Post)) := zrf rfl
theorem s_102_20 {E : yE} {n d : Nat} {mem : yMem} {Post : Option yV → yMem → Prop} {st : List yV} {r0 r1 : Option yV} {x : Int} : zvc E (n + 1) zc_102 d xm_102 20 [r0, r1, some (0, x)] (st) mem Post = (zvc E n zc_102 d xm_102 21 [r0, r1, some (0, x)] ((0, x) :: st) mem Post) := zrf rfl
theorem s_102_21 {E : yE} {n d : Nat} {mem : yMem} {Post : Option yV → yMem → Prop} {r0 r1 r2 : Option yV} {x : Int} : zvc E (n + 1) zc_102 d xm_102 21 [r0, r1, r2] ([(0, x)]) mem Post = (Post (some (0, x)) mem) := zrf rfl
theorem s_102_22n {E : yE} {n d : Nat} {mem : yMem} {Post : Option yV → yMem → Prop} {st : List yV} {r0 : Option yV} {x : Int} : zvc E (n + 1) zc_102 d xm_102 22 [r0, none, some (0, x)] (st) mem Post = (zvc E n zc_102 d xm_102 25 [r0, none, some (0, x + 1)] (st) mem Post) := zrf rfl
theorem s_102_22i {E : yE} {n d : Nat} {mem : yMem} {Post : Option yV → yMem → Prop} {st : List yV} {r0 : Option yV} {x w : Int} : zvc E (n + 1) zc_102 d xm_102 22 [r0, some (0, w), some (0, x)] (st) mem Post = (zvc E n zc_102 d xm_102 25 [r0, some (0, w), some (0, x + 1)] (st) mem Post) := zrf rfl
theorem s_102_22p {E : yE} {n d : Nat} {mem : yMem} {Post : Option yV → yMem → Prop} {st : List yV} {r0 : Option yV} {x w : Int} : zvc E (n + 1) zc_102 d xm_102 22 [r0, some (1, w), some (0, x)] (st) mem Post = (zvc E n zc_102 d xm_102 25 [r0, some (1, w), some (0, x + 1)] (st) mem Post) := zrf rfl
theorem s_102_25 {E : yE} {n d : Nat} {mem : yMem} {Post : Option yV → yMem → Prop} {st : List yV} {r0 r1 r2 : Option yV} : zvc E (n + 1) zc_102 d xm_102 25 [r0, r1, r2] (st) mem Post = (zvc E n zc_102 d xm_102 2 [r0, r1, r2] (st) mem Post) := zrf rfl
theorem s_102_28 {E : yE} {n d : Nat} {mem : yMem} {Post : Option yV → yMem → Prop} {st : List yV} {r0 r1 r2 : Option yV} : zvc E (n + 1) zc_102 d xm_102 28 [r0, r1, r2] (st) mem Post = (zvc E n zc_102 d xm_102 29 [r0, r1, r2] ((0, (-1)) :: st) mem Post) := zrf rfl
theorem s_102_29 {E : yE} {n d : Nat} {mem : yMem} {Post : Option yV → yMem → Prop} {r0 r1 r2 : Option yV} {x : Int} : zvc E (n + 1) zc_102 d xm_102 29 [r0, r1, r2] ([(0, x)]) mem Post = (Post (some (0, x)) mem) := zrf rfl
theorem s_104_0 {E : yE} {n d : Nat} {mem : yMem} {Post : Option yV → yMem → Prop} {st : List yV} {x : Int} : zvc E (n + 1) [] d xm_104 0 [some (1, x)] (st) mem Post = (zvc E n [] d xm_104 1 [some (1, x)] ((1, x) :: st) mem Post) := zrf rfl
theorem s_104_1_3 {E : yE} {n d : Nat} {mem : yMem} {Post : Option yV → yMem → Prop} {st : List yV} {r0 : Option yV} : zvc E (n + 1) [] d xm_104 1 [r0] ((1, 3) :: st) mem Post = (zvc E n [] d xm_104 4 [r0] ((0, mem 3 1) :: st) mem Post) := zrf rfl
theorem s_104_1_5 {E : yE} {n d : Nat} {mem : yMem} {Post : Option yV → yMem → Prop} {st : List yV} {r0 : Option yV} : zvc E (n + 1) [] d xm_104 1 [r0] ((1, 5) :: st) mem Post = (zvc E n [] d xm_104 4 [r0] ((0, mem 5 1) :: st) mem Post) := zrf rfl
theorem s_104_1_7 {E : yE} {n d : Nat} {mem : yMem} {Post : Option yV → yMem → Prop} {st : List yV} {r0 : Option yV} : zvc E (n + 1) [] d xm_104 1 [r0] ((1, 7) :: st) mem Post = (zvc E n [] d xm_104 4 [r0] ((0, mem 7 1) :: st) mem Post) := zrf rfl
theorem s_104_1_9 {E : yE} {n d : Nat} {mem : yMem} {Post : Option yV → yMem → Prop} {st : List yV} {r0 : Option yV} : zvc E (n + 1) [] d xm_104 1 [r0] ((1, 9) :: st) mem Post = (zvc E n [] d xm_104 4 [r0] ((0, mem 9 1) :: st) mem Post) := zrf rfl
theorem s_104_1_29 {E : yE} {n d : Nat} {mem : yMem} {Post : Option yV → yMem → Prop} {st : List yV} {r0 : Option yV} : zvc E (n + 1) [] d xm_104 1 [r0] ((1, 29) :: st) mem Post = (zvc E n [] d xm_104 4 [r0] ((0, mem 29 1) :: st) mem Post) := zrf rfl
theorem s_104_1_31 {E : yE} {n d : Nat} {mem : yMem} {Post : Option yV → yMem → Prop} {st : List yV} {r0 : Option yV} : zvc E (n + 1) [] d xm_104 1 [r0] ((1, 31) :: st) mem Post = (zvc E n [] d xm_104 4 [r0] ((0, mem 31 1) :: st) mem Post) := zrf rfl
theorem s_104_1_33 {E : yE} {n d : Nat} {mem : yMem} {Post : Option yV → yMem → Prop} {st : List yV} {r0 : Option yV} : zvc E (n + 1) [] d xm_104 1 [r0] ((1, 33) :: st) mem Post = (zvc E n [] d xm_104 4 [r0] ((0, mem 33 1) :: st) mem Post) := zrf rfl
theorem s_104_1_35 {E : yE} {n d : Nat} {mem : yMem} {Post : Option yV → yMem → Prop} {st : List yV} {r0 : Option yV} : zvc E (n + 1) [] d xm_104 1 [r0] ((1, 35) :: st) mem Post = (zvc E n [] d xm_104 4 [r0] ((0, mem 35 1) :: st) mem Post) := zrf rfl
theorem s_104_4 {E : yE} {n d : Nat} {mem : yMem} {Post : Option yV → yMem → Prop} {st : List yV} {x : Int} : zvc E (n + 1) [] d xm_104 4 [some (1, x)] (st) mem Post = (zvc E n [] d xm_104 5 [some (1, x)] ((1, x) :: st) mem Post) := zrf rfl
theorem s_104_5_3 {E : yE} {n d : Nat} {mem : yMem} {Post : Option yV → yMem → Prop} {st : List yV} {r0 : Option yV} : zvc E (n + 1) [] d xm_104 5 [r0] ((1, 3) :: st) mem Post = (zvc E n [] d xm_104 8 [r0] ((1, 4) :: st) mem Post) := zrf rfl
theorem s_104_5_5 {E : yE} {n d : Nat} {mem : yMem} {Post : Option yV → yMem → Prop} {st : List yV} {r0 : Option yV} : zvc E (n + 1) [] d xm_104 5 [r0] ((1, 5) :: st) mem Post = (zvc E n [] d xm_104 8 [r0] ((1, 6) :: st) mem Post) := zrf rfl
theorem s_104_5_7 {E : yE} {n d : Nat} {mem : yMem} {Post : Option yV → yMem → Prop} {st : List yV} {r0 : Option yV} : zvc E (n + 1) [] d xm_104 5 [r0] ((1, 7) :: st) mem Post = (zvc E n [] d xm_104 8 [r0] ((1, 8) :: st) mem Post) := zrf rfl
theorem s_104_5_9 {E : yE} {n d : Nat} {mem : yMem} {Post : Option yV → yMem → Prop} {st : List yV} {r0 : Option yV} : zvc E (n + 1) [] d xm_104 5 [r0] ((1, 9) :: st) mem Post = (zvc E n [] d xm_104 8 [r0] ((1, 10) :: st) mem Post) := zrf rfl
theorem s_104_5_29 {E : yE} {n d : Nat} {mem : yMem} {Post : Option yV → yMem → Prop} {st : List yV} {r0 : Option yV} : zvc E (n + 1) [] d xm_104 5 [r0] ((1, 29) :: st) mem Post = (zvc E n [] d xm_104 8 [r0] ((1, 30) :: st) mem Post) := zrf rfl
theorem s_104_5_31 {E : yE} {n d : Nat} {mem : yMem} {Post : Option yV → yMem → Prop} {st : List yV} {r0 : Option yV} : zvc E (n + 1) [] d xm_104 5 [r0] ((1, 31) :: st) mem Post = (zvc E n [] d xm_104 8 [r0] ((1, 32) :: st) mem Post) := zrf rfl
theorem s_104_5_33 {E : yE} {n d : Nat} {mem : yMem} {Post : Option yV → yMem → Prop} {st : List yV} {r0 : Option yV} : zvc E (n + 1) [] d xm_104 5 [r0] ((1, 33) :: st) mem Post = (zvc E n [] d xm_104 8 [r0] ((1, 34) :: st) mem Post) := zrf rfl
theorem s_104_5_35 {E : yE} {n d : Nat} {mem : yMem} {Post : Option yV → yMem → Prop} {st : List yV} {r0 : Option yV} : zvc E (n + 1) [] d xm_104 5 [r0] ((1, 35) :: st) mem Post = (zvc E n [] d xm_104 8 [r0] ((1, 36) :: st) mem Post) := zrf rfl
theorem s_104_8 {E : yE} {n d : Nat} {mem : yMem} {Post : Option yV → yMem → Prop} {st : List yV} {r0 : Option yV} {z : Int} : zvc E (n + 1) [] d xm_104 8 [r0] ((1, z) :: st) mem Post = (zia z = true ∧ zvc E n [] d xm_104 9 [r0] ((0, ((zln z : Nat) : Int)) :: st) mem Post) := zrf rfl
theorem s_104_9 {E : yE} {n d : Nat} {mem : yMem} {Post : Option yV → yMem → Prop} {st : List yV} {r0 : Option yV} {x y : Int} : zvc E (n + 1) [] d xm_104 9 [r0] ((0, y) :: (0, x) :: st) mem Post = ((w32 x < w32 y → zvc E n [] d xm_104 16 [r0] (st) mem Post) ∧ (¬ (w32 x < w32 y) → zvc E n [] d xm_104 12 [r0] (st) mem Post)) := zrf rfl
theorem s_104_12 {E : yE} {n d : Nat} {mem : yMem} {Post : Option yV → yMem → Prop} {st : List yV} {r0 : Option yV} : zvc E (n + 1) [] d xm_104 12 [r0] (st) mem Post = (zvc E n [] d xm_104 13 [r0] ((0, 1) :: st) mem Post) := zrf rfl
theorem s_104_13 {E : yE} {n d : Nat} {mem : yMem} {Post : Option yV → yMem → Prop} {st : List yV} {r0 : Option yV} : zvc E (n + 1) [] d xm_104 13 [r0] (st) mem Post = (zvc E n [] d xm_104 17 [r0] (st) mem Post) := zrf rfl
theorem s_104_16 {E : yE} {n d : Nat} {mem : yMem} {Post : Option yV → yMem → Prop} {st : List yV} {r0 : Option yV} : zvc E (n + 1) [] d xm_104 16 [r0] (st) mem Post = (zvc E n [] d xm_104 17 [r0] ((0, 0) :: st) mem Post) := zrf rfl
theorem s_104_17 {E : yE} {n d : Nat} {mem : yMem} {Post : Option yV → yMem → Prop} {r0 : Option yV} {x : Int} : zvc E (n + 1) [] d xm_104 17 [r0] ([(0, x)]) mem Post = ((w32 x = 0 ∨ w32 x = 1) ∧ Post (some (0, x)) mem) := zrf rfl
theorem s_101_0 {E : yE} {n d : Nat} {mem : yMem} {Post : Option yV → yMem → Prop} {st : List yV} {r1 : Option yV} {x : Int} : zvc E (n + 1) [] d xm_101 0 [some (1, x), r1] (st) mem Post = (zvc E n [] d xm_101 1 [some (1, x), r1] ((1, x) :: st) mem Post) := zrf rfl
theorem s_101_1 {E : yE} {n d : Nat} {mem : yMem} {Post : Option yV → yMem → Prop} {st : List yV} {r0 r1 : Option yV} {z : Int} : zvc E (n + 1) [] (d + 1) xm_101 1 [r0, r1] ((1, z) :: st) mem Post = (zio z 6 = true ∧ ysum st ≤ 8 ∧ zvc E n [] d xm_104 0 [some (1, z)] [] mem (fun v mem' => zvk E n [] (d + 1) xm_101 4 [r0, r1] st v mem' Post)) := zrf rfl
theorem s_101_4 {E : yE} {n d : Nat} {mem : yMem} {Post : Option yV → yMem → Prop} {st : List yV} {r0 r1 : Option yV} {x : Int} : zvc E (n + 1) [] d xm_101 4 [r0, r1] ((0, x) :: st) mem Post = ((w32 x = w32 0 → zvc E n [] d xm_101 9 [r0, r1] (st) mem Post) ∧ (¬ (w32 x = w32 0) → zvc E n [] d xm_101 7 [r0, r1] (st) mem Post)) := zrf rfl
theorem s_101_7 {E : yE} {n d : Nat} {mem : yMem} {Post : Option yV → yMem → Prop} {st : List yV} {r0 r1 : Option yV} : zvc E (n + 1) [] d xm_101 7 [r0, r1] (st) mem Post = (zvc E n [] d xm_101 8 [r0, r1] ((0, (-1)) :: st) mem Post) := zrf rfl
theorem s_101_8 {E : yE} {n d : Nat} {mem : yMem} {Post : Option yV → yMem → Prop} {r0 r1 : Option yV} {x : Int} : zvc E (n + 1) [] d xm_101 8 [r0, r1] ([(0, x)]) mem Post = (Post (some (0, x)) mem) := zrf rfl
theorem s_101_9 {E : yE} {n d : Nat} {mem : yMem} {Post : Option yV → yMem → Prop} {st : List yV} {r1 : Option yV} {x : Int} : zvc E (n + 1) [] d xm_101 9 [some (1, x), r1] (st) mem Post = (zvc E n [] d xm_101 10 [some (1, x), r1] ((1, x) :: st) mem Post) := zrf rfl
theorem s_101_10_3 {E : yE} {n d : Nat} {mem : yMem} {Post : Option yV → yMem → Prop} {st : List yV} {r0 r1 : Option yV} : zvc E (n + 1) [] d xm_101 10 [r0, r1] ((1, 3) :: st) mem Post = (zvc E n [] d xm_101 13 [r0, r1] ((1, 4) :: st) mem Post) := zrf rfl
theorem s_101_10_5 {E : yE} {n d : Nat} {mem : yMem} {Post : Option yV → yMem → Prop} {st : List yV} {r0 r1 : Option yV} : zvc E (n + 1) [] d xm_101 10 [r0, r1] ((1, 5) :: st) mem Post = (zvc E n [] d xm_101 13 [r0, r1] ((1, 6) :: st) mem Post) := zrf rfl
theorem s_101_10_7 {E : yE} {n d : Nat} {mem : yMem} {Post : Option yV → yMem → Prop} {st : List yV} {r0 r1 : Option yV} : zvc E (n + 1) [] d xm_101 10 [r0, r1] ((1, 7) :: st) mem Post = (zvc E n [] d xm_101 13 [r0, r1] ((1, 8) :: st) mem Post) := zrf rfl
theorem s_101_10_9 {E : yE} {n d : Nat} {mem : yMem} {Post : Option yV → yMem → Prop} {st : List yV} {r0 r1 : Option yV} : zvc E (n + 1) [] d xm_101 10 [r0, r1] ((1, 9) :: st) mem Post = (zvc E n [] d xm_101 13 [r0, r1] ((1, 10) :: st) mem Post) := zrf rfl
theorem s_101_10_29 {E : yE} {n d : Nat} {mem : yMem} {Post : Option yV → yMem → Prop} {st : List yV} {r0 r1 : Option yV} : zvc E (n + 1) [] d xm_101 10 [r0, r1] ((1, 29) :: st) mem Post = (zvc E n [] d xm_101 13 [r0, r1] ((1, 30) :: st) mem Post) := zrf rfl
theorem s_101_10_31 {E : yE} {n d : Nat} {mem : yMem} {Post : Option yV → yMem → Prop} {st : List yV} {r0 r1 : Option yV} : zvc E (n + 1) [] d xm_101 10 [r0, r1] ((1, 31) :: st) mem Post = (zvc E n [] d xm_101 13 [r0, r1] ((1, 32) :: st) mem Post) := zrf rfl
theorem s_101_10_33 {E : yE} {n d : Nat} {mem : yMem} {Post : Option yV → yMem → Prop} {st : List yV} {r0 r1 : Option yV} : zvc E (n + 1) [] d xm_101 10 [r0, r1] ((1, 33) :: st) mem Post = (zvc E n [] d xm_101 13 [r0, r1] ((1, 34) :: st) mem Post) := zrf rfl
theorem s_101_10_35 {E : yE} {n d : Nat} {mem : yMem} {Post : Option yV → yMem → Prop} {st : List yV} {r0 r1 : Option yV} : zvc E (n + 1) [] d xm_101 10 [r0, r1] ((1, 35) :: st) mem Post = (zvc E n [] d xm_101 13 [r0, r1] ((1, 36) :: st) mem Post) := zrf rfl
theorem s_101_13 {E : yE} {n d : Nat} {mem : yMem} {Post : Option yV → yMem → Prop} {st : List yV} {r1 : Option yV} {x : Int} : zvc E (n + 1) [] d xm_101 13 [some (1, x), r1] (st) mem Post = (zvc E n [] d xm_101 14 [some (1, x), r1] ((1, x) :: st) mem Post) := zrf rfl
theorem s_101_14_3 {E : yE} {n d : Nat} {mem : yMem} {Post : Option yV → yMem → Prop} {st : List yV} {r0 r1 : Option yV} : zvc E (n + 1) [] d xm_101 14 [r0, r1] ((1, 3) :: st) mem Post = (zvc E n [] d xm_101 17 [r0, r1] ((0, mem 3 1) :: st) mem Post) := zrf rfl
theorem s_101_14_5 {E : yE} {n d : Nat} {mem : yMem} {Post : Option yV → yMem → Prop} {st : List yV} {r0 r1 : Option yV} : zvc E (n + 1) [] d xm_101 14 [r0, r1] ((1, 5) :: st) mem Post = (zvc E n [] d xm_101 17 [r0, r1] ((0, mem 5 1) :: st) mem Post) := zrf rfl
theorem s_101_14_7 {E : yE} {n d : Nat} {mem : yMem} {Post : Option yV → yMem → Prop} {st : List yV} {r0 r1 : Option yV} : zvc E (n + 1) [] d xm_101 14 [r0, r1] ((1, 7) :: st) mem Post = (zvc E n [] d xm_101 17 [r0, r1] ((0, mem 7 1) :: st) mem Post) := zrf rfl
theorem s_101_14_9 {E : yE} {n d : Nat} {mem : yMem} {Post : Option yV → yMem → Prop} {st : List yV} {r0 r1 : Option yV} : zvc E (n + 1) [] d xm_101 14 [r0, r1] ((1, 9) :: st) mem Post = (zvc E n [] d xm_101 17 [r0, r1] ((0, mem 9 1) :: st) mem Post) := zrf rfl
theorem s_101_14_29 {E : yE} {n d : Nat} {mem : yMem} {Post : Option yV → yMem → Prop} {st : List yV} {r0 r1 : Option yV} : zvc E (n + 1) [] d xm_101 14 [r0, r1] ((1, 29) :: st) mem Post = (zvc E n [] d xm_101 17 [r0, r1] ((0, mem 29 1) :: st) mem Post) := zrf rfl
theorem s_101_14_31 {E : yE} {n d : Nat} {mem : yMem} {Post : Option yV → yMem → Prop} {st : List yV} {r0 r1 : Option yV} : zvc E (n + 1) [] d xm_101 14 [r0, r1] ((1, 31) :: st) mem Post = (zvc E n [] d xm_101 17 [r0, r1] ((0, mem 31 1) :: st) mem Post) := zrf rfl
theorem s_101_14_33 {E : yE} {n d : Nat} {mem : yMem} {Post : Option yV → yMem → Prop} {st : List yV} {r0 r1 : Option yV} : zvc E (n + 1) [] d xm_101 14 [r0, r1] ((1, 33) :: st) mem Post = (zvc E n [] d xm_101 17 [r0, r1] ((0, mem 33 1) :: st) mem Post) := zrf rfl
theorem s_101_14_35 {E : yE} {n d : Nat} {mem : yMem} {Post : Option yV → yMem → Prop} {st : List yV} {r0 r1 : Option yV} : zvc E (n + 1) [] d xm_101 14 [r0, r1] ((1, 35) :: st) mem Post = (zvc E n [] d xm_101 17 [r0, r1] ((0, mem 35 1) :: st) mem Post) := zrf rfl
theorem s_101_17 {E : yE} {n d : Nat} {mem : yMem} {Post : Option yV → yMem → Prop} {st : List yV} {r0 : Option yV} {x : Int} : zvc E (n + 1) [] d xm_101 17 [r0, some (0, x)] (st) mem Post = (zvc E n [] d xm_101 18 [r0, some (0, x)] ((0, x) :: st) mem Post) := zrf rfl
theorem s_101_18 {E : yE} {n d : Nat} {mem : yMem} {Post : Option yV → yMem → Prop} {st : List yV} {r0 r1 : Option yV} {x z j : Int} : zvc E (n + 1) [] d xm_101 18 [r0, r1] ((0, x) :: (0, j) :: (1, z) :: st) mem Post = ((0 ≤ w32 j ∧ w32 j < ((zar z 0 : Nat) : Int)) ∧ zvc E n [] d xm_101 19 [r0, r1] (st) (yset mem z.toNat (w32 j).toNat x) Post) := zrf rfl
theorem s_101_19 {E : yE} {n d : Nat} {mem : yMem} {Post : Option yV → yMem → Prop} {st : List yV} {r1 : Option yV} {x : Int} : zvc E (n + 1) [] d xm_101 19 [some (1, x), r1] (st) mem Post = (zvc E n [] d xm_101 20 [some (1, x), r1] ((1, x) :: st) mem Post) := zrf rfl
theorem s_101_20a {E : yE} {n d : Nat} {mem : yMem} {Post : Option yV → yMem → Prop} {st : List yV} {r0 r1 : Option yV} {x : Int} : zvc E (n + 1) [] d xm_101 20 [r0, r1] ((0, x) :: st) mem Post = (zvc E n [] d xm_101 21 [r0, r1] ((0, x) :: (0, x) :: st) mem Post) := zrf rfl
theorem s_101_20b {E : yE} {n d : Nat} {mem : yMem} {Post : Option yV → yMem → Prop} {st : List yV} {r0 r1 : Option yV} {x : Int} : zvc E (n + 1) [] d xm_101 20 [r0, r1] ((1, x) :: st) mem Post = (zvc E n [] d xm_101 21 [r0, r1] ((1, x) :: (1, x) :: st) mem Post) := zrf rfl
theorem s_101_21_3 {E : yE} {n d : Nat} {mem : yMem} {Post : Option yV → yMem → Prop} {st : List yV} {r0 r1 : Option yV} : zvc E (n + 1) [] d xm_101 21 [r0, r1] ((1, 3) :: st) mem Post = (zvc E n [] d xm_101 24 [r0, r1] ((0, mem 3 1) :: st) mem Post) := zrf rfl
theorem s_101_21_5 {E : yE} {n d : Nat} {mem : yMem} {Post : Option yV → yMem → Prop} {st : List yV} {r0 r1 : Option yV} : zvc E (n + 1) [] d xm_101 21 [r0, r1] ((1, 5) :: st) mem Post = (zvc E n [] d xm_101 24 [r0, r1] ((0, mem 5 1) :: st) mem Post) := zrf rfl
theorem s_101_21_7 {E : yE} {n d : Nat} {mem : yMem} {Post : Option yV → yMem → Prop} {st : List yV} {r0 r1 : Option yV} : zvc E (n + 1) [] d xm_101 21 [r0, r1] ((1, 7) :: st) mem Post = (zvc E n [] d xm_101 24 [r0, r1] ((0, mem 7 1) :: st) mem Post) := zrf rfl
theorem s_101_21_9 {E : yE} {n d : Nat} {mem : yMem} {Post : Option yV → yMem → Prop} {st : List yV} {r0 r1 : Option yV} : zvc E (n + 1) [] d xm_101 21 [r0, r1] ((1, 9) :: st) mem Post = (zvc E n [] d xm_101 24 [r0, r1] ((0, mem 9 1) :: st) mem Post) := zrf rfl
theorem s_101_21_29 {E : yE} {n d : Nat} {mem : yMem} {Post : Option yV → yMem → Prop} {st : List yV} {r0 r1 : Option yV} : zvc E (n + 1) [] d xm_101 21 [r0, r1] ((1, 29) :: st) mem Post = (zvc E n [] d xm_101 24 [r0, r1] ((0, mem 29 1) :: st) mem Post) := zrf rfl
theorem s_101_21_31 {E : yE} {n d : Nat} {mem : yMem} {Post : Option yV → yMem → Prop} {st : List yV} {r0 r1 : Option yV} : zvc E (n + 1) [] d xm_101 21 [r0, r1] ((1, 31) :: st) mem Post = (zvc E n [] d xm_101 24 [r0, r1] ((0, mem 31 1) :: st) mem Post) := zrf rfl
theorem s_101_21_33 {E : yE} {n d : Nat} {mem : yMem} {Post : Option yV → yMem → Prop} {st : List yV} {r0 r1 : Option yV} : zvc E (n + 1) [] d xm_101 21 [r0, r1] ((1, 33) :: st) mem Post = (zvc E n [] d xm_101 24 [r0, r1] ((0, mem 33 1) :: st) mem Post) := zrf rfl
theorem s_101_21_35 {E : yE} {n d : Nat} {mem : yMem} {Post : Option yV → yMem → Prop} {st : List yV} {r0 r1 : Option yV} : zvc E (n + 1) [] d xm_101 21 [r0, r1] ((1, 35) :: st) mem Post = (zvc E n [] d xm_101 24 [r0, r1] ((0, mem 35 1) :: st) mem Post) := zrf rfl
theorem s_101_24 {E : yE} {n d : Nat} {mem : yMem} {Post : Option yV → yMem → Prop} {st : List yV} {r0 r1 : Option yV} : zvc E (n + 1) [] d xm_101 24 [r0, r1] (st) mem Post = (zvc E n [] d xm_101 25 [r0, r1] ((0, 1) :: st) mem Post) := zrf rfl
theorem s_101_25 {E : yE} {n d : Nat} {mem : yMem} {Post : Option yV → yMem → Prop} {st : List yV} {r0 r1 : Option yV} {x y : Int} : zvc E (n + 1) [] d xm_101 25 [r0, r1] ((0, y) :: (0, x) :: st) mem Post = (zvc E n [] d xm_101 26 [r0, r1] ((0, x + y) :: st) mem Post) := zrf rfl
theorem s_101_26_3 {E : yE} {n d : Nat} {mem : yMem} {Post : Option yV → yMem → Prop} {st : List yV} {r0 r1 : Option yV} {x : Int} : zvc E (n + 1) [] d xm_101 26 [r0, r1] ((0, x) :: (1, 3) :: st) mem Post = (zvc E n [] d xm_101 29 [r0, r1] (st) (yset mem 3 1 x) Post) := zrf rfl
theorem s_101_26_5 {E : yE} {n d : Nat} {mem : yMem} {Post : Option yV → yMem → Prop} {st : List yV} {r0 r1 : Option yV} {x : Int} : zvc E (n + 1) [] d xm_101 26 [r0, r1] ((0, x) :: (1, 5) :: st) mem Post = (zvc E n [] d xm_101 29 [r0, r1] (st) (yset mem 5 1 x) Post) := zrf rfl
theorem s_101_26_7 {E : yE} {n d : Nat} {mem : yMem} {Post : Option yV → yMem → Prop} {st : List yV} {r0 r1 : Option yV} {x : Int} : zvc E (n + 1) [] d xm_101 26 [r0, r1] ((0, x) :: (1, 7) :: st) mem Post = (zvc E n [] d xm_101 29 [r0, r1] (st) (yset mem 7 1 x) Post) := zrf rfl
theorem s_101_26_9 {E : yE} {n d : Nat} {mem : yMem} {Post : Option yV → yMem → Prop} {st : List yV} {r0 r1 : Option yV} {x : Int} : zvc E (n + 1) [] d xm_101 26 [r0, r1] ((0, x) :: (1, 9) :: st) mem Post = (zvc E n [] d xm_101 29 [r0, r1] (st) (yset mem 9 1 x) Post) := zrf rfl
theorem s_101_26_29 {E : yE} {n d : Nat} {mem : yMem} {Post : Option yV → yMem → Prop} {st : List yV} {r0 r1 : Option yV} {x : Int} : zvc E (n + 1) [] d xm_101 26 [r0, r1] ((0, x) :: (1, 29) :: st) mem Post = (zvc E n [] d xm_101 29 [r0, r1] (st) (yset mem 29 1 x) Post) := zrf rfl
theorem s_101_26_31 {E : yE} {n d : Nat} {mem : yMem} {Post : Option yV → yMem → Prop} {st : List yV} {r0 r1 : Option yV} {x : Int} : zvc E (n + 1) [] d xm_101 26 [r0, r1] ((0, x) :: (1, 31) :: st) mem Post = (zvc E n [] d xm_101 29 [r0, r1] (st) (yset mem 31 1 x) Post) := zrf rfl
theorem s_101_26_33 {E : yE} {n d : Nat} {mem : yMem} {Post : Option yV → yMem → Prop} {st : List yV} {r0 r1 : Option yV} {x : Int} : zvc E (n + 1) [] d xm_101 26 [r0, r1] ((0, x) :: (1, 33) :: st) mem Post = (zvc E n [] d xm_101 29 [r0, r1] (st) (yset mem 33 1 x) Post) := zrf rfl
theorem s_101_26_35 {E : yE} {n d : Nat} {mem : yMem} {Post : Option yV → yMem → Prop} {st : List yV} {r0 r1 : Option yV} {x : Int} : zvc E (n + 1) [] d xm_101 26 [r0, r1] ((0, x) :: (1, 35) :: st) mem Post = (zvc E n [] d xm_101 29 [r0, r1] (st) (yset mem 35 1 x) Post) := zrf rfl
theorem s_101_29 {E : yE} {n d : Nat} {mem : yMem} {Post : Option yV → yMem → Prop} {st : List yV} {r1 : Option yV} {x : Int} : zvc E (n + 1) [] d xm_101 29 [some (1, x), r1] (st) mem Post = (zvc E n [] d xm_101 30 [some (1, x), r1] ((1, x) :: st) mem Post) := zrf rfl
theorem s_101_30_3 {E : yE} {n d : Nat} {mem : yMem} {Post : Option yV → yMem → Prop} {st : List yV} {r0 r1 : Option yV} : zvc E (n + 1) [] d xm_101 30 [r0, r1] ((1, 3) :: st) mem Post = (zvc E n [] d xm_101 33 [r0, r1] ((0, mem 3 1) :: st) mem Post) := zrf rfl
theorem s_101_30_5 {E : yE} {n d : Nat} {mem : yMem} {Post : Option yV → yMem → Prop} {st : List yV} {r0 r1 : Option yV} : zvc E (n + 1) [] d xm_101 30 [r0, r1] ((1, 5) :: st) mem Post = (zvc E n [] d xm_101 33 [r0, r1] ((0, mem 5 1) :: st) mem Post) := zrf rfl
theorem s_101_30_7 {E : yE} {n d : Nat} {mem : yMem} {Post : Option yV → yMem → Prop} {st : List yV} {r0 r1 : Option yV} : zvc E (n + 1) [] d xm_101 30 [r0, r1] ((1, 7) :: st) mem Post = (zvc E n [] d xm_101 33 [r0, r1] ((0, mem 7 1) :: st) mem Post) := zrf rfl
theorem s_101_30_9 {E : yE} {n d : Nat} {mem : yMem} {Post : Option yV → yMem → Prop} {st : List yV} {r0 r1 : Option yV} : zvc E (n + 1) [] d xm_101 30 [r0, r1] ((1, 9) :: st) mem Post = (zvc E n [] d xm_101 33 [r0, r1] ((0, mem 9 1) :: st) mem Post) := zrf rfl
theorem s_101_30_29 {E : yE} {n d : Nat} {mem : yMem} {Post : Option yV → yMem → Prop} {st : List yV} {r0 r1 : Option yV} : zvc E (n + 1) [] d xm_101 30 [r0, r1] ((1, 29) :: st) mem Post = (zvc E n [] d xm_101 33 [r0, r1] ((0, mem 29 1) :: st) mem Post) := zrf rfl
theorem s_101_30_31 {E : yE} {n d : Nat} {mem : yMem} {Post : Option yV → yMem → Prop} {st : List yV} {r0 r1 : Option yV} : zvc E (n + 1) [] d xm_101 30 [r0, r1] ((1, 31) :: st) mem Post = (zvc E n [] d xm_101 33 [r0, r1] ((0, mem 31 1) :: st) mem Post) := zrf rfl
theorem s_101_30_33 {E : yE} {n d : Nat} {mem : yMem} {Post : Option yV → yMem → Prop} {st : List yV} {r0 r1 : Option yV} : zvc E (n + 1) [] d xm_101 30 [r0, r1] ((1, 33) :: st) mem Post = (zvc E n [] d xm_101 33 [r0, r1] ((0, mem 33 1) :: st) mem Post) := zrf rfl
theorem s_101_30_35 {E : yE} {n d : Nat} {mem : yMem} {Post : Option yV → yMem → Prop} {st : List yV} {r0 r1 : Option yV} : zvc E (n + 1) [] d xm_101 30 [r0, r1] ((1, 35) :: st) mem Post = (zvc E n [] d xm_101 33 [r0, r1] ((0, mem 35 1) :: st) mem Post) := zrf rfl
theorem s_101_33 {E : yE} {n d : Nat} {mem : yMem} {Post : Option yV → yMem → Prop} {st : List yV} {r0 r1 : Option yV} : zvc E (n + 1) [] d xm_101 33 [r0, r1] (st) mem Post = (zvc E n [] d xm_101 34 [r0, r1] ((0, 1) :: st) mem Post) := zrf rfl
theorem s_101_34 {E : yE} {n d : Nat} {mem : yMem} {Post : Option yV → yMem → Prop} {st : List yV} {r0 r1 : Option yV} {x y : Int} : zvc E (n + 1) [] d xm_101 34 [r0, r1] ((0, y) :: (0, x) :: st) mem Post = (zvc E n [] d xm_101 35 [r0, r1] ((0, x - y) :: st) mem Post) := zrf rfl
theorem s_101_35 {E : yE} {n d : Nat} {mem : yMem} {Post : Option yV → yMem → Prop} {r0 r1 : Option yV} {x : Int} : zvc E (n + 1) [] d xm_101 35 [r0, r1] ([(0, x)]) mem Post = (Post (some (0, x)) mem) := zrf rfl
theorem s_110_0 {E : yE} {n d : Nat} {mem : yMem} {Post : Option yV → yMem → Prop} {st : List yV} {r0 r2 : Option yV} {x : Int} : zvc E (n + 1) [] d xm_110 0 [r0, some (1, x), r2] (st) mem Post = (zvc E n [] d xm_110 1 [r0, some (1, x), r2] ((1, x) :: st) mem Post) := zrf rfl
theorem s_110_1 {E : yE} {n d : Nat} {mem : yMem} {Post : Option yV → yMem → Prop} {st : List yV} {r0 r1 r2 : Option yV} {z : Int} : zvc E (n + 1) [] (d + 1) xm_110 1 [r0, r1, r2] ((1, z) :: st) mem Post = (zio z 6 = true ∧ ysum st ≤ 8 ∧ zvc E n [] d xm_104 0 [some (1, z)] [] mem (fun v mem' => zvk E n [] (d + 1) xm_110 4 [r0, r1, r2] st v mem' Post)) := zrf rfl
theorem s_110_4 {E : yE} {n d : Nat} {mem : yMem} {Post : Option yV → yMem → Prop} {st : List yV} {r0 r1 r2 : Option yV} {x : Int} : zvc E (n + 1) [] d xm_110 4 [r0, r1, r2] ((0, x) :: st) mem Post = ((w32 x = w32 0 → zvc E n [] d xm_110 18 [r0, r1, r2] (st) mem Post) ∧ (¬ (w32 x = w32 0) → zvc E n [] d xm_110 7 [r0, r1, r2] (st) mem Post)) := zrf rfl
theorem s_110_7 {E : yE} {n d : Nat} {mem : yMem} {Post : Option yV → yMem → Prop} {st : List yV} {r1 r2 : Option yV} {x : Int} : zvc E (n + 1) [] d xm_110 7 [some (1, x), r1, r2] (st) mem Post = (zvc E n [] d xm_110 8 [some (1, x), r1, r2] ((1, x) :: st) mem Post) := zrf rfl
theorem s_110_8 {E : yE} {n d : Nat} {mem : yMem} {Post : Option yV → yMem → Prop} {st : List yV} {r0 r1 r2 : Option yV} : zvc E (n + 1) [] d xm_110 8 [r0, r1, r2] ((1, 54) :: st) mem Post = (zvc E n [] d xm_110 11 [r0, r1, r2] ((1, 55) :: st) mem Post) := zrf rfl
theorem s_110_11 {E : yE} {n d : Nat} {mem : yMem} {Post : Option yV → yMem → Prop} {st : List yV} {r0 r1 r2 : Option yV} : zvc E (n + 1) [] d xm_110 11 [r0, r1, r2] (st) mem Post = (zvc E n [] d xm_110 12 [r0, r1, r2] ((0, 2) :: st) mem Post) := zrf rfl
theorem s_110_12 {E : yE} {n d : Nat} {mem : yMem} {Post : Option yV → yMem → Prop} {st : List yV} {r0 r1 r2 : Option yV} {z a0 : Int} : zvc E (n + 1) [] (d + 1) xm_110 12 [r0, r1, r2] ((0, a0) :: (1, z) :: st) mem Post = (zio z 9 = true ∧ ysum st ≤ 8 ∧ zvc E n [] d xm_123 0 [some (1, z), some (0, a0)] [] mem (fun v mem' => zvk E n [] (d + 1) xm_110 15 [r0, r1, r2] st v mem' Post)) := zrf rfl
theorem s_110_15a {E : yE} {n d : Nat} {mem : yMem} {Post : Option yV → yMem → Prop} {st : List yV} {r0 r1 r2 : Option yV} {x : Int} : zvc E (n + 1) [] d xm_110 15 [r0, r1, r2] ((0, x) :: st) mem Post = (zvc E n [] d xm_110 16 [r0, r1, r2] (st) mem Post) := zrf rfl
theorem s_110_15b {E : yE} {n d : Nat} {mem : yMem} {Post : Option yV → yMem → Prop} {st : List yV} {r0 r1 r2 : Option yV} {x : Int} : zvc E (n + 1) [] d xm_110 15 [r0, r1, r2] ((1, x) :: st) mem Post = (zvc E n [] d xm_110 16 [r0, r1, r2] (st) mem Post) := zrf rfl
theorem s_110_16 {E : yE} {n d : Nat} {mem : yMem} {Post : Option yV → yMem → Prop} {st : List yV} {r0 r1 r2 : Option yV} : zvc E (n + 1) [] d xm_110 16 [r0, r1, r2] (st) mem Post = (zvc E n [] d xm_110 17 [r0, r1, r2] ((0, (-1)) :: st) mem Post) := zrf rfl
theorem s_110_17 {E : yE} {n d : Nat} {mem : yMem} {Post : Option yV → yMem → Prop} {r0 r1 r2 : Option yV} {x : Int} : zvc E (n + 1) [] d xm_110 17 [r0, r1, r2] ([(0, x)]) mem Post = (Post (some (0, x)) mem) := zrf rfl
theorem s_110_18 {E : yE} {n d : Nat} {mem : yMem} {Post : Option yV → yMem → Prop} {st : List yV} {r1 r2 : Option yV} {x : Int} : zvc E (n + 1) [] d xm_110 18 [some (1, x), r1, r2] (st) mem Post = (zvc E n [] d xm_110 19 [some (1, x), r1, r2] ((1, x) :: st) mem Post) := zrf rfl
theorem s_110_19 {E : yE} {n d : Nat} {mem : yMem} {Post : Option yV → yMem → Prop} {st : List yV} {r0 r1 r2 : Option yV} : zvc E (n + 1) [] d xm_110 19 [r0, r1, r2] ((1, 54) :: st) mem Post = (zvc E n [] d xm_110 22 [r0, r1, r2] ((1, 55) :: st) mem Post) := zrf rfl
theorem s_110_22 {E : yE} {n d : Nat} {mem : yMem} {Post : Option yV → yMem → Prop} {st : List yV} {r0 r1 r2 : Option yV} {z : Int} : zvc E (n + 1) [] d xm_110 22 [r0, r1, r2] ((1, z) :: st) mem Post = (zio z 9 = true ∧ ysum st ≤ 8 ∧ yCon E d xm_126 [(1, z)] mem (fun v mem' => zgk E d xm_110 25 [r0, r1, r2] st v mem' Post)) := zrf rfl
theorem s_110_25 {E : yE} {n d : Nat} {mem : yMem} {Post : Option yV → yMem → Prop} {st : List yV} {r1 r2 : Option yV} {x : Int} : zvc E (n + 1) [] d xm_110 25 [some (1, x), r1, r2] (st) mem Post = (zvc E n [] d xm_110 26 [some (1, x), r1, r2] ((1, x) :: st) mem Post) := zrf rfl
theorem s_110_26 {E : yE} {n d : Nat} {mem : yMem} {Post : Option yV → yMem → Prop} {st : List yV} {r0 r1 r2 : Option yV} : zvc E (n + 1) [] d xm_110 26 [r0, r1, r2] ((1, 54) :: st) mem Post = (zvc E n [] d xm_110 29 [r0, r1, r2] ((1, 55) :: st) mem Post) := zrf rfl
theorem s_110_29 {E : yE} {n d : Nat} {mem : yMem} {Post : Option yV → yMem → Prop} {st : List yV} {r0 r1 r2 : Option yV} : zvc E (n + 1) [] d xm_110 29 [r0, r1, r2] ((1, 55) :: st) mem Post = (zvc E n [] d xm_110 32 [r0, r1, r2] ((0, mem 55 4) :: st) mem Post) := zrf rfl
theorem s_110_32 {E : yE} {n d : Nat} {mem : yMem} {Post : Option yV → yMem → Prop} {st : List yV} {r0 r1 r2 : Option yV} : zvc E (n + 1) [] d xm_110 32 [r0, r1, r2] (st) mem Post = (zvc E n [] d xm_110 33 [r0, r1, r2] ((0, 3) :: st) mem Post) := zrf rfl
theorem s_110_33 {E : yE} {n d : Nat} {mem : yMem} {Post : Option yV → yMem → Prop} {st : List yV} {r0 r1 r2 : Option yV} {x y : Int} : zvc E (n + 1) [] d xm_110 33 [r0, r1, r2] ((0, y) :: (0, x) :: st) mem Post = ((w32 x = w32 y → zvc E n [] d xm_110 47 [r0, r1, r2] (st) mem Post) ∧ (¬ (w32 x = w32 y) → zvc E n [] d xm_110 36 [r0, r1, r2] (st) mem Post)) := zrf rfl
theorem s_110_36 {E : yE} {n d : Nat} {mem : yMem} {Post : Option yV → yMem → Prop} {st : List yV} {r1 r2 : Option yV} {x : Int} : zvc E (n + 1) [] d xm_110 36 [some (1, x), r1, r2] (st) mem Post = (zvc E n [] d xm_110 37 [some (1, x), r1, r2] ((1, x) :: st) mem Post) := zrf rfl
theorem s_110_37 {E : yE} {n d : Nat} {mem : yMem} {Post : Option yV → yMem → Prop} {st : List yV} {r0 r1 r2 : Option yV} : zvc E (n + 1) [] d xm_110 37 [r0, r1, r2] ((1, 54) :: st) mem Post = (zvc E n [] d xm_110 40 [r0, r1, r2] ((1, 55) :: st) mem Post) := zrf rfl
theorem s_110_40 {E : yE} {n d : Nat} {mem : yMem} {Post : Option yV → yMem → Prop} {st : List yV} {r0 r1 r2 : Option yV} : zvc E (n + 1) [] d xm_110 40 [r0, r1, r2] (st) mem Post = (zvc E n [] d xm_110 41 [r0, r1, r2] ((0, 1) :: st) mem Post) := zrf rfl
theorem s_110_41 {E : yE} {n d : Nat} {mem : yMem} {Post : Option yV → yMem → Prop} {st : List yV} {r0 r1 r2 : Option yV} {z a0 : Int} : zvc E (n + 1) [] (d + 1) xm_110 41 [r0, r1, r2] ((0, a0) :: (1, z) :: st) mem Post = (zio z 9 = true ∧ ysum st ≤ 8 ∧ zvc E n [] d xm_123 0 [some (1, z), some (0, a0)] [] mem (fun v mem' => zvk E n [] (d + 1) xm_110 44 [r0, r1, r2] st v mem' Post)) := zrf rfl
theorem s_110_44a {E : yE} {n d : Nat} {mem : yMem} {Post : Option yV → yMem → Prop} {st : List yV} {r0 r1 r2 : Option yV} {x : Int} : zvc E (n + 1) [] d xm_110 44 [r0, r1, r2] ((0, x) :: st) mem Post = (zvc E n [] d xm_110 45 [r0, r1, r2] (st) mem Post) := zrf rfl
theorem s_110_44b {E : yE} {n d : Nat} {mem : yMem} {Post : Option yV → yMem → Prop} {st : List yV} {r0 r1 r2 : Option yV} {x : Int} : zvc E (n + 1) [] d xm_110 44 [r0, r1, r2] ((1, x) :: st) mem Post = (zvc E n [] d xm_110 45 [r0, r1, r2] (st) mem Post) := zrf rfl
theorem s_110_45 {E : yE} {n d : Nat} {mem : yMem} {Post : Option yV → yMem → Prop} {st : List yV} {r0 r1 r2 : Option yV} : zvc E (n + 1) [] d xm_110 45 [r0, r1, r2] (st) mem Post = (zvc E n [] d xm_110 46 [r0, r1, r2] ((0, (-1)) :: st) mem Post) := zrf rfl
theorem s_110_46 {E : yE} {n d : Nat} {mem : yMem} {Post : Option yV → yMem → Prop} {r0 r1 r2 : Option yV} {x : Int} : zvc E (n + 1) [] d xm_110 46 [r0, r1, r2] ([(0, x)]) mem Post = (Post (some (0, x)) mem) := zrf rfl
theorem s_110_47 {E : yE} {n d : Nat} {mem : yMem} {Post : Option yV → yMem → Prop} {st : List yV} {r0 r2 : Option yV} {x : Int} : zvc E (n + 1) [] d xm_110 47 [r0, some (1, x), r2] (st) mem Post = (zvc E n [] d xm_110 48 [r0, some (1, x), r2] ((1, x) :: st) mem Post) := zrf rfl
theorem s_110_48 {E : yE} {n d : Nat} {mem : yMem} {Post : Option yV → yMem → Prop} {st : List yV} {r1 r2 : Option yV} {x : Int} : zvc E (n + 1) [] d xm_110 48 [some (1, x), r1, r2] (st) mem Post = (zvc E n [] d xm_110 49 [some (1, x), r1, r2] ((1, x) :: st) mem Post) := zrf rfl
theorem s_110_49 {E : yE} {n d : Nat} {mem : yMem} {Post : Option yV → yMem → Prop} {st : List yV} {r0 r1 r2 : Option yV} : zvc E (n + 1) [] d xm_110 49 [r0, r1, r2] ((1, 54) :: st) mem Post = (zvc E n [] d xm_110 52 [r0, r1, r2] ((1, 55) :: st) mem Post) := zrf rfl
theorem s_110_52 {E : yE} {n d : Nat} {mem : yMem} {Post : Option yV → yMem → Prop} {st : List yV} {r0 r1 r2 : Option yV} : zvc E (n + 1) [] d xm_110 52 [r0, r1, r2] ((1, 55) :: st) mem Post = (zvc E n [] d xm_110 55 [r0, r1, r2] ((0, mem 55 6) :: st) mem Post) := zrf rfl
theorem s_110_55 {E : yE} {n d : Nat} {mem : yMem} {Post : Option yV → yMem → Prop} {st : List yV} {r0 r1 r2 : Option yV} {z a0 : Int} : zvc E (n + 1) [] d xm_110 55 [r0, r1, r2] ((0, a0) :: (1, z) :: st) mem Post = (zio z 6 = true ∧ ysum st ≤ 8 ∧ yCon E d xm_102 [(1, z), (0, a0)] mem (fun v mem' => zgk E d xm_110 58 [r0, r1, r2] st v mem' Post)) := zrf rfl
theorem s_110_58 {E : yE} {n d : Nat} {mem : yMem} {Post : Option yV → yMem → Prop} {st : List yV} {r0 r1 r2 : Option yV} : zvc E (n + 1) [] d xm_110 58 [r0, r1, r2] (st) mem Post = (zvc E n [] d xm_110 59 [r0, r1, r2] ((0, (-1)) :: st) mem Post) := zrf rfl
theorem s_110_59 {E : yE} {n d : Nat} {mem : yMem} {Post : Option yV → yMem → Prop} {st : List yV} {r0 r1 r2 : Option yV} {x y : Int} : zvc E (n + 1) [] d xm_110 59 [r0, r1, r2] ((0, y) :: (0, x) :: st) mem Post = ((w32 x = w32 y → zvc E n [] d xm_110 73 [r0, r1, r2] (st) mem Post) ∧ (¬ (w32 x = w32 y) → zvc E n [] d xm_110 62 [r0, r1, r2] (st) mem Post)) := zrf rfl
theorem s_110_62 {E : yE} {n d : Nat} {mem : yMem} {Post : Option yV → yMem → Prop} {st : List yV} {r1 r2 : Option yV} {x : Int} : zvc E (n + 1) [] d xm_110 62 [some (1, x), r1, r2] (st) mem Post = (zvc E n [] d xm_110 63 [some (1, x), r1, r2] ((1, x) :: st) mem Post) := zrf rfl
theorem s_110_63 {E : yE} {n d : Nat} {mem : yMem} {Post : Option yV → yMem → Prop} {st : List yV} {r0 r1 r2 : Option yV} : zvc E (n + 1) [] d xm_110 63 [r0, r1, r2] ((1, 54) :: st) mem Post = (zvc E n [] d xm_110 66 [r0, r1, r2] ((1, 55) :: st) mem Post) := zrf rfl
theorem s_110_66 {E : yE} {n d : Nat} {mem : yMem} {Post : Option yV → yMem → Prop} {st : List yV} {r0 r1 r2 : Option yV} : zvc E (n + 1) [] d xm_110 66 [r0, r1, r2] (st) mem Post = (zvc E n [] d xm_110 67 [r0, r1, r2] ((0, 3) :: st) mem Post) := zrf rfl
theorem s_110_67 {E : yE} {n d : Nat} {mem : yMem} {Post : Option yV → yMem → Prop} {st : List yV} {r0 r1 r2 : Option yV} {z a0 : Int} : zvc E (n + 1) [] (d + 1) xm_110 67 [r0, r1, r2] ((0, a0) :: (1, z) :: st) mem Post = (zio z 9 = true ∧ ysum st ≤ 8 ∧ zvc E n [] d xm_123 0 [some (1, z), some (0, a0)] [] mem (fun v mem' => zvk E n [] (d + 1) xm_110 70 [r0, r1, r2] st v mem' Post)) := zrf rfl
theorem s_110_70a {E : yE} {n d : Nat} {mem : yMem} {Post : Option yV → yMem → Prop} {st : List yV} {r0 r1 r2 : Option yV} {x : Int} : zvc E (n + 1) [] d xm_110 70 [r0, r1, r2] ((0, x) :: st) mem Post = (zvc E n [] d xm_110 71 [r0, r1, r2] (st) mem Post) := zrf rfl
theorem s_110_70b {E : yE} {n d : Nat} {mem : yMem} {Post : Option yV → yMem → Prop} {st : List yV} {r0 r1 r2 : Option yV} {x : Int} : zvc E (n + 1) [] d xm_110 70 [r0, r1, r2] ((1, x) :: st) mem Post = (zvc E n [] d xm_110 71 [r0, r1, r2] (st) mem Post) := zrf rfl
theorem s_110_71 {E : yE} {n d : Nat} {mem : yMem} {Post : Option yV → yMem → Prop} {st : List yV} {r0 r1 r2 : Option yV} : zvc E (n + 1) [] d xm_110 71 [r0, r1, r2] (st) mem Post = (zvc E n [] d xm_110 72 [r0, r1, r2] ((0, (-1)) :: st) mem Post) := zrf rfl
theorem s_110_72 {E : yE} {n d : Nat} {mem : yMem} {Post : Option yV → yMem → Prop} {r0 r1 r2 : Option yV} {x : Int} : zvc E (n + 1) [] d xm_110 72 [r0, r1, r2] ([(0, x)]) mem Post = (Post (some (0, x)) mem) := zrf rfl
theorem s_110_73 {E : yE} {n d : Nat} {mem : yMem} {Post : Option yV → yMem → Prop} {st : List yV} {r0 r2 : Option yV} {x : Int} : zvc E (n + 1) [] d xm_110 73 [r0, some (1, x), r2] (st) mem Post = (zvc E n [] d xm_110 74 [r0, some (1, x), r2] ((1, x) :: st) mem Post) := zrf rfl
theorem s_110_74 {E : yE} {n d : Nat} {mem : yMem} {Post : Option yV → yMem → Prop} {st : List yV} {r1 r2 : Option yV} {x : Int} : zvc E (n + 1) [] d xm_110 74 [some (1, x), r1, r2] (st) mem Post = (zvc E n [] d xm_110 75 [some (1, x), r1, r2] ((1, x) :: st) mem Post) := zrf rfl
theorem s_110_75 {E : yE} {n d : Nat} {mem : yMem} {Post : Option yV → yMem → Prop} {st : List yV} {r0 r1 r2 : Option yV} : zvc E (n + 1) [] d xm_110 75 [r0, r1, r2] ((1, 54) :: st) mem Post = (zvc E n [] d xm_110 78 [r0, r1, r2] ((1, 55) :: st) mem Post) := zrf rfl
theorem s_110_78 {E : yE} {n d : Nat} {mem : yMem} {Post : Option yV → yMem → Prop} {st : List yV} {r0 r1 r2 : Option yV} : zvc E (n + 1) [] d xm_110 78 [r0, r1, r2] ((1, 55) :: st) mem Post = (zvc E n [] d xm_110 81 [r0, r1, r2] ((0, mem 55 6) :: st) mem Post) := zrf rfl
theorem s_110_81 {E : yE} {n d : Nat} {mem : yMem} {Post : Option yV → yMem → Prop} {st : List yV} {r0 r1 r2 : Option yV} {z a0 : Int} : zvc E (n + 1) [] (d + 1) xm_110 81 [r0, r1, r2] ((0, a0) :: (1, z) :: st) mem Post = (zio z 6 = true ∧ ysum st ≤ 8 ∧ zvc E n [] d xm_101 0 [some (1, z), some (0, a0)] [] mem (fun v mem' => zvk E n [] (d + 1) xm_110 84 [r0, r1, r2] st v mem' Post)) := zrf rfl
theorem s_110_84n {E : yE} {n d : Nat} {mem : yMem} {Post : Option yV → yMem → Prop} {st : List yV} {r0 r2 : Option yV} {x : Int} : zvc E (n + 1) [] d xm_110 84 [r0, none, r2] ((0, x) :: st) mem Post = (zvc E n [] d xm_110 85 [r0, none, some (0, x)] (st) mem Post) := zrf rfl
theorem s_110_84i {E : yE} {n d : Nat} {mem : yMem} {Post : Option yV → yMem → Prop} {st : List yV} {r0 r2 : Option yV} {x w : Int} : zvc E (n + 1) [] d xm_110 84 [r0, some (0, w), r2] ((0, x) :: st) mem Post = (zvc E n [] d xm_110 85 [r0, some (0, w), some (0, x)] (st) mem Post) := zrf rfl
theorem s_110_84p {E : yE} {n d : Nat} {mem : yMem} {Post : Option yV → yMem → Prop} {st : List yV} {r0 r2 : Option yV} {x w : Int} : zvc E (n + 1) [] d xm_110 84 [r0, some (1, w), r2] ((0, x) :: st) mem Post = (zvc E n [] d xm_110 85 [r0, some (1, w), some (0, x)] (st) mem Post) := zrf rfl
theorem s_110_85 {E : yE} {n d : Nat} {mem : yMem} {Post : Option yV → yMem → Prop} {st : List yV} {r1 r2 : Option yV} {x : Int} : zvc E (n + 1) [] d xm_110 85 [some (1, x), r1, r2] (st) mem Post = (zvc E n [] d xm_110 86 [some (1, x), r1, r2] ((1, x) :: st) mem Post) := zrf rfl
theorem s_110_86 {E : yE} {n d : Nat} {mem : yMem} {Post : Option yV → yMem → Prop} {st : List yV} {r0 r1 r2 : Option yV} : zvc E (n + 1) [] d xm_110 86 [r0, r1, r2] ((1, 54) :: st) mem Post = (zvc E n [] d xm_110 89 [r0, r1, r2] ((1, 55) :: st) mem Post) := zrf rfl
theorem s_110_89 {E : yE} {n d : Nat} {mem : yMem} {Post : Option yV → yMem → Prop} {st : List yV} {r0 r1 r2 : Option yV} {z : Int} : zvc E (n + 1) [] d xm_110 89 [r0, r1, r2] ((1, z) :: st) mem Post = (zio z 9 = true ∧ ysum st ≤ 8 ∧ yCon E d xm_126 [(1, z)] mem (fun v mem' => zgk E d xm_110 92 [r0, r1, r2] st v mem' Post)) := zrf rfl
theorem s_110_92 {E : yE} {n d : Nat} {mem : yMem} {Post : Option yV → yMem → Prop} {st : List yV} {r0 r1 : Option yV} {x : Int} : zvc E (n + 1) [] d xm_110 92 [r0, r1, some (0, x)] (st) mem Post = (zvc E n [] d xm_110 93 [r0, r1, some (0, x)] ((0, x) :: st) mem Post) := zrf rfl
theorem s_110_93 {E : yE} {n d : Nat} {mem : yMem} {Post : Option yV → yMem → Prop} {r0 r1 r2 : Option yV} {x : Int} : zvc E (n + 1) [] d xm_110 93 [r0, r1, r2] ([(0, x)]) mem Post = (Post (some (0, x)) mem) := zrf rfl
theorem s_121_0 {E : yE} {n d : Nat} {mem : yMem} {Post : Option yV → yMem → Prop} {st : List yV} {r1 : Option yV} {x : Int} : zvc E (n + 1) [] d xm_121 0 [some (1, x), r1] (st) mem Post = (zvc E n [] d xm_121 1 [some (1, x), r1] ((1, x) :: st) mem Post) := zrf rfl
theorem s_121_1 {E : yE} {n d : Nat} {mem : yMem} {Post : Option yV → yMem → Prop} {st : List yV} {r0 r1 : Option yV} : zvc E (n + 1) [] d xm_121 1 [r0, r1] ((1, 54) :: st) mem Post = (zvc E n [] d xm_121 4 [r0, r1] ((1, 55) :: st) mem Post) := zrf rfl
theorem s_121_4 {E : yE} {n d : Nat} {mem : yMem} {Post : Option yV → yMem → Prop} {st : List yV} {r0 r1 : Option yV} : zvc E (n + 1) [] d xm_121 4 [r0, r1] ((1, 55) :: st) mem Post = (zvc E n [] d xm_121 7 [r0, r1] ((0, mem 55 4) :: st) mem Post) := zrf rfl
theorem s_121_7 {E : yE} {n d : Nat} {mem : yMem} {Post : Option yV → yMem → Prop} {st : List yV} {r0 r1 : Option yV} : zvc E (n + 1) [] d xm_121 7 [r0, r1] (st) mem Post = (zvc E n [] d xm_121 8 [r0, r1] ((0, 3) :: st) mem Post) := zrf rfl
theorem s_121_8 {E : yE} {n d : Nat} {mem : yMem} {Post : Option yV → yMem → Prop} {st : List yV} {r0 r1 : Option yV} {x y : Int} : zvc E (n + 1) [] d xm_121 8 [r0, r1] ((0, y) :: (0, x) :: st) mem Post = ((w32 x = w32 y → zvc E n [] d xm_121 22 [r0, r1] (st) mem Post) ∧ (¬ (w32 x = w32 y) → zvc E n [] d xm_121 11 [r0, r1] (st) mem Post)) := zrf rfl
theorem s_121_11 {E : yE} {n d : Nat} {mem : yMem} {Post : Option yV → yMem → Prop} {st : List yV} {r1 : Option yV} {x : Int} : zvc E (n + 1) [] d xm_121 11 [some (1, x), r1] (st) mem Post = (zvc E n [] d xm_121 12 [some (1, x), r1] ((1, x) :: st) mem Post) := zrf rfl
theorem s_121_12 {E : yE} {n d : Nat} {mem : yMem} {Post : Option yV → yMem → Prop} {st : List yV} {r0 r1 : Option yV} : zvc E (n + 1) [] d xm_121 12 [r0, r1] ((1, 54) :: st) mem Post = (zvc E n [] d xm_121 15 [r0, r1] ((1, 55) :: st) mem Post) := zrf rfl
theorem s_121_15 {E : yE} {n d : Nat} {mem : yMem} {Post : Option yV → yMem → Prop} {st : List yV} {r0 r1 : Option yV} : zvc E (n + 1) [] d xm_121 15 [r0, r1] (st) mem Post = (zvc E n [] d xm_121 16 [r0, r1] ((0, 1) :: st) mem Post) := zrf rfl
theorem s_121_16 {E : yE} {n d : Nat} {mem : yMem} {Post : Option yV → yMem → Prop} {st : List yV} {r0 r1 : Option yV} {z a0 : Int} : zvc E (n + 1) [] (d + 1) xm_121 16 [r0, r1] ((0, a0) :: (1, z) :: st) mem Post = (zio z 9 = true ∧ ysum st ≤ 8 ∧ zvc E n [] d xm_123 0 [some (1, z), some (0, a0)] [] mem (fun v mem' => zvk E n [] (d + 1) xm_121 19 [r0, r1] st v mem' Post)) := zrf rfl
theorem s_121_19a {E : yE} {n d : Nat} {mem : yMem} {Post : Option yV → yMem → Prop} {st : List yV} {r0 r1 : Option yV} {x : Int} : zvc E (n + 1) [] d xm_121 19 [r0, r1] ((0, x) :: st) mem Post = (zvc E n [] d xm_121 20 [r0, r1] (st) mem Post) := zrf rfl
theorem s_121_19b {E : yE} {n d : Nat} {mem : yMem} {Post : Option yV → yMem → Prop} {st : List yV} {r0 r1 : Option yV} {x : Int} : zvc E (n + 1) [] d xm_121 19 [r0, r1] ((1, x) :: st) mem Post = (zvc E n [] d xm_121 20 [r0, r1] (st) mem Post) := zrf rfl
theorem s_121_20 {E : yE} {n d : Nat} {mem : yMem} {Post : Option yV → yMem → Prop} {st : List yV} {r0 r1 : Option yV} : zvc E (n + 1) [] d xm_121 20 [r0, r1] (st) mem Post = (zvc E n [] d xm_121 21 [r0, r1] ((0, (-1)) :: st) mem Post) := zrf rfl
theorem s_121_21 {E : yE} {n d : Nat} {mem : yMem} {Post : Option yV → yMem → Prop} {r0 r1 : Option yV} {x : Int} : zvc E (n + 1) [] d xm_121 21 [r0, r1] ([(0, x)]) mem Post = (Post (some (0, x)) mem) := zrf rfl
theorem s_121_22 {E : yE} {n d : Nat} {mem : yMem} {Post : Option yV → yMem → Prop} {st : List yV} {r1 : Option yV} {x : Int} : zvc E (n + 1) [] d xm_121 22 [some (1, x), r1] (st) mem Post = (zvc E n [] d xm_121 23 [some (1, x), r1] ((1, x) :: st) mem Post) := zrf rfl
theorem s_121_23 {E : yE} {n d : Nat} {mem : yMem} {Post : Option yV → yMem → Prop} {st : List yV} {r0 r1 : Option yV} : zvc E (n + 1) [] d xm_121 23 [r0, r1] ((1, 54) :: st) mem Post = (zvc E n [] d xm_121 26 [r0, r1] ((1, 28) :: st) mem Post) := zrf rfl
theorem s_121_26_2 {E : yE} {n d : Nat} {mem : yMem} {Post : Option yV → yMem → Prop} {st : List yV} {r0 r1 : Option yV} : zvc E (n + 1) [] d xm_121 26 [r0, r1] ((1, 2) :: st) mem Post = (zvc E n [] d xm_121 29 [r0, r1] ((1, 3) :: st) mem Post) := zrf rfl
theorem s_121_26_28 {E : yE} {n d : Nat} {mem : yMem} {Post : Option yV → yMem → Prop} {st : List yV} {r0 r1 : Option yV} : zvc E (n + 1) [] d xm_121 26 [r0, r1] ((1, 28) :: st) mem Post = (zvc E n [] d xm_121 29 [r0, r1] ((1, 29) :: st) mem Post) := zrf rfl
theorem s_121_29 {E : yE} {n d : Nat} {mem : yMem} {Post : Option yV → yMem → Prop} {st : List yV} {r1 : Option yV} {x : Int} : zvc E (n + 1) [] d xm_121 29 [some (1, x), r1] (st) mem Post = (zvc E n [] d xm_121 30 [some (1, x), r1] ((1, x) :: st) mem Post) := zrf rfl
theorem s_121_30 {E : yE} {n d : Nat} {mem : yMem} {Post : Option yV → yMem → Prop} {st : List yV} {r0 r1 : Option yV} : zvc E (n + 1) [] d xm_121 30 [r0, r1] ((1, 54) :: st) mem Post = (zvc E n [] d xm_121 33 [r0, r1] ((1, 55) :: st) mem Post) := zrf rfl
theorem s_121_33 {E : yE} {n d : Nat} {mem : yMem} {Post : Option yV → yMem → Prop} {st : List yV} {r0 r1 : Option yV} : zvc E (n + 1) [] d xm_121 33 [r0, r1] ((1, 55) :: st) mem Post = (zvc E n [] d xm_121 36 [r0, r1] ((0, mem 55 6) :: st) mem Post) := zrf rfl
theorem s_121_36 {E : yE} {n d : Nat} {mem : yMem} {Post : Option yV → yMem → Prop} {st : List yV} {r0 r1 : Option yV} {z a0 : Int} : zvc E (n + 1) [] d xm_121 36 [r0, r1] ((0, a0) :: (1, z) :: st) mem Post = (zio z 6 = true ∧ ysum st ≤ 8 ∧ yCon E d xm_102 [(1, z), (0, a0)] mem (fun v mem' => zgk E d xm_121 39 [r0, r1] st v mem' Post)) := zrf rfl
theorem s_121_39n {E : yE} {n d : Nat} {mem : yMem} {Post : Option yV → yMem → Prop} {st : List yV} {r1 : Option yV} {x : Int} : zvc E (n + 1) [] d xm_121 39 [none, r1] ((0, x) :: st) mem Post = (zvc E n [] d xm_121 40 [none, some (0, x)] (st) mem Post) := zrf rfl
theorem s_121_39i {E : yE} {n d : Nat} {mem : yMem} {Post : Option yV → yMem → Prop} {st : List yV} {r1 : Option yV} {x w : Int} : zvc E (n + 1) [] d xm_121 39 [some (0, w), r1] ((0, x) :: st) mem Post = (zvc E n [] d xm_121 40 [some (0, w), some (0, x)] (st) mem Post) := zrf rfl
theorem s_121_39p {E : yE} {n d : Nat} {mem : yMem} {Post : Option yV → yMem → Prop} {st : List yV} {r1 : Option yV} {x w : Int} : zvc E (n + 1) [] d xm_121 39 [some (1, w), r1] ((0, x) :: st) mem Post = (zvc E n [] d xm_121 40 [some (1, w), some (0, x)] (st) mem Post) := zrf rfl
theorem s_121_40 {E : yE} {n d : Nat} {mem : yMem} {Post : Option yV → yMem → Prop} {st : List yV} {r0 : Option yV} {x : Int} : zvc E (n + 1) [] d xm_121 40 [r0, some (0, x)] (st) mem Post = (zvc E n [] d xm_121 41 [r0, some (0, x)] ((0, x) :: st) mem Post) := zrf rfl
theorem s_121_41 {E : yE} {n d : Nat} {mem : yMem} {Post : Option yV → yMem → Prop} {st : List yV} {r0 r1 : Option yV} : zvc E (n + 1) [] d xm_121 41 [r0, r1] (st) mem Post = (zvc E n [] d xm_121 42 [r0, r1] ((0, (-1)) :: st) mem Post) := zrf rfl
theorem s_121_42 {E : yE} {n d : Nat} {mem : yMem} {Post : Option yV → yMem → Prop} {st : List yV} {r0 r1 : Option yV} {x y : Int} : zvc E (n + 1) [] d xm_121 42 [r0, r1] ((0, y) :: (0, x) :: st) mem Post = ((¬ w32 x = w32 y → zvc E n [] d xm_121 54 [r0, r1] (st) mem Post) ∧ (¬ (¬ w32 x = w32 y) → zvc E n [] d xm_121 45 [r0, r1] (st) mem Post)) := zrf rfl
theorem s_121_45 {E : yE} {n d : Nat} {mem : yMem} {Post : Option yV → yMem → Prop} {st : List yV} {r1 : Option yV} {x : Int} : zvc E (n + 1) [] d xm_121 45 [some (1, x), r1] (st) mem Post = (zvc E n [] d xm_121 46 [some (1, x), r1] ((1, x) :: st) mem Post) := zrf rfl
theorem s_121_46 {E : yE} {n d : Nat} {mem : yMem} {Post : Option yV → yMem → Prop} {st : List yV} {r0 r1 : Option yV} : zvc E (n + 1) [] d xm_121 46 [r0, r1] ((1, 54) :: st) mem Post = (zvc E n [] d xm_121 49 [r0, r1] ((1, 55) :: st) mem Post) := zrf rfl
theorem s_121_49 {E : yE} {n d : Nat} {mem : yMem} {Post : Option yV → yMem → Prop} {st : List yV} {r0 r1 : Option yV} : zvc E (n + 1) [] d xm_121 49 [r0, r1] (st) mem Post = (zvc E n [] d xm_121 50 [r0, r1] ((0, 4) :: st) mem Post) := zrf rfl
theorem s_121_50 {E : yE} {n d : Nat} {mem : yMem} {Post : Option yV → yMem → Prop} {st : List yV} {r0 r1 : Option yV} {z a0 : Int} : zvc E (n + 1) [] (d + 1) xm_121 50 [r0, r1] ((0, a0) :: (1, z) :: st) mem Post = (zio z 9 = true ∧ ysum st ≤ 8 ∧ zvc E n [] d xm_123 0 [some (1, z), some (0, a0)] [] mem (fun v mem' => zvk E n [] (d + 1) xm_121 53 [r0, r1] st v mem' Post)) := zrf rfl
theorem s_121_53a {E : yE} {n d : Nat} {mem : yMem} {Post : Option yV → yMem → Prop} {st : List yV} {r0 r1 : Option yV} {x : Int} : zvc E (n + 1) [] d xm_121 53 [r0, r1] ((0, x) :: st) mem Post = (zvc E n [] d xm_121 54 [r0, r1] (st) mem Post) := zrf rfl
theorem s_121_53b {E : yE} {n d : Nat} {mem : yMem} {Post : Option yV → yMem → Prop} {st : List yV} {r0 r1 : Option yV} {x : Int} : zvc E (n + 1) [] d xm_121 53 [r0, r1] ((1, x) :: st) mem Post = (zvc E n [] d xm_121 54 [r0, r1] (st) mem Post) := zrf rfl
theorem s_121_54 {E : yE} {n d : Nat} {mem : yMem} {Post : Option yV → yMem → Prop} {st : List yV} {r1 : Option yV} {x : Int} : zvc E (n + 1) [] d xm_121 54 [some (1, x), r1] (st) mem Post = (zvc E n [] d xm_121 55 [some (1, x), r1] ((1, x) :: st) mem Post) := zrf rfl
theorem s_121_55 {E : yE} {n d : Nat} {mem : yMem} {Post : Option yV → yMem → Prop} {st : List yV} {r0 r1 : Option yV} : zvc E (n + 1) [] d xm_121 55 [r0, r1] ((1, 54) :: st) mem Post = (zvc E n [] d xm_121 58 [r0, r1] ((1, 55) :: st) mem Post) := zrf rfl
theorem s_121_58 {E : yE} {n d : Nat} {mem : yMem} {Post : Option yV → yMem → Prop} {st : List yV} {r0 r1 : Option yV} {z : Int} : zvc E (n + 1) [] d xm_121 58 [r0, r1] ((1, z) :: st) mem Post = (zio z 9 = true ∧ ysum st ≤ 8 ∧ yCon E d xm_126 [(1, z)] mem (fun v mem' => zgk E d xm_121 61 [r0, r1] st v mem' Post)) := zrf rfl
theorem s_121_61 {E : yE} {n d : Nat} {mem : yMem} {Post : Option yV → yMem → Prop} {st : List yV} {r0 : Option yV} {x : Int} : zvc E (n + 1) [] d xm_121 61 [r0, some (0, x)] (st) mem Post = (zvc E n [] d xm_121 62 [r0, some (0, x)] ((0, x) :: st) mem Post) := zrf rfl
theorem s_121_62 {E : yE} {n d : Nat} {mem : yMem} {Post : Option yV → yMem → Prop} {r0 r1 : Option yV} {x : Int} : zvc E (n + 1) [] d xm_121 62 [r0, r1] ([(0, x)]) mem Post = (Post (some (0, x)) mem) := zrf rfl
theorem e_102 {E : yE} {d : Nat} {mem : yMem} {Q : Option yV → yMem → Prop} {z a0 : Int} (h : zG E d xm_102 0 [some (1, z), some (0, a0), none] [] mem Q) : yCon E (d + 1) xm_102 [(1, z), (0, a0)] mem Q := zcon_of xmo_102 (Nat.le_of_ble_eq_true rfl) h
theorem e_110 {E : yE} {d : Nat} {mem : yMem} {Q : Option yV → yMem → Prop} {z a0 : Int} (h : zG E d xm_110 0 [some (1, z), some (1, a0), none] [] mem Q) : yCon E (d + 1) xm_110 [(1, z), (1, a0)] mem Q := zcon_of xmo_110 (Nat.le_of_ble_eq_true rfl) h
theorem e_121 {E : yE} {d : Nat} {mem : yMem} {Q : Option yV → yMem → Prop} {z : Int} (h : zG E d xm_121 0 [some (1, z), none] [] mem Q) : yCon E (d + 1) xm_121 [(1, z)] mem Q := zcon_of xmo_121 (Nat.le_of_ble_eq_true rfl) h

/-- the first that is v -/
def sFd (f : Nat → Int) (v : Int) : Nat → Nat → Int
  | 0, _ => -1
  | c + 1, i => if f i = v then (i : Int) else sFd f v c (i + 1)
theorem sFd_ext {f g : Nat → Int} {v : Int} : ∀ (c i : Nat), (∀ j, i ≤ j → j < i + c → f j = g j) → sFd f v c i = sFd g v c i
  | 0, _, _ => rfl
  | c + 1, i, h => by
    simp only [sFd]
    rw [h i (Nat.le_refl _) (by (first | exact Nat.le_of_ble_eq_true rfl | exact (fun h => absurd h.1 (by decide)) | omega)), sFd_ext c (i + 1) (fun j j1 j2 => h j (by (first | exact Nat.le_of_ble_eq_true rfl | exact (fun h => absurd h.1 (by decide)) | omega)) (by (first | exact Nat.le_of_ble_eq_true rfl | exact (fun h => absurd h.1 (by decide)) | omega)))]
/-- begin: the word of a line and its name; names that are told, how many may be -/
def yBg (nm : List Int) (mx : Nat) (x : sY) : Int × sY := if mx ≤ nm.length then (-1, yFl 2 x) else if ¬ yKd (yNx x) = 3 then (-1, yFl 1 (yNx x)) else if ¬ sFd (fun j => nm.getD j 0) (yVl (yNx x)) nm.length 0 = -1 then (-1, yFl 3 (yNx x)) else ((nm.length : Int), yNx (yNx x))
section CH
variable {E : yE} {mem : yMem} {Q : Option yV → yMem → Prop} {ch : Nat → Int} {n : Nat} {x : sY}
theorem cTk_nm (h : cTk ch n mem x) (hk : yKd x = 3) : w32 (mem 55 6) = yVl x := by
  cases x with
  | inl e => exact absurd (show (0 : Nat) = 3 from hk) (by decide)
  | inr l =>
    obtain ⟨-, -, -, -, -, e, -, -, -, -, b6⟩ := h
    have hk : (sHd l).1 = 3 := hk
    rcases b6 with ⟨c1, _⟩ | ⟨_, c2⟩ | c1 | c1 | c1
    · (first | exact Nat.le_of_ble_eq_true rfl | exact (fun h => absurd h.1 (by decide)) | omega)
    · exact c2
    · (first | exact Nat.le_of_ble_eq_true rfl | exact (fun h => absurd h.1 (by decide)) | omega)
    · (first | exact Nat.le_of_ble_eq_true rfl | exact (fun h => absurd h.1 (by decide)) | omega)
    · (first | exact Nat.le_of_ble_eq_true rfl | exact (fun h => absurd h.1 (by decide)) | omega)
theorem g_find_29_l (hE : yEok E) {d : Nat} {v : Int} (h0 : 0 ≤ w32 (mem 29 1)) (h1 : w32 (mem 29 1) ≤ 3) (hQ : ∀ r, w32 r = sFd (fun j => w32 (mem 30 j)) (w32 v) (w32 (mem 29 1)).toNat 0 → Q (some (0, r)) mem) : ∀ (k : Nat) (i : Int), (w32 (mem 29 1) - w32 i).toNat = k → 0 ≤ w32 i → w32 i ≤ w32 (mem 29 1) → sFd (fun j => w32 (mem 30 j)) (w32 v) (w32 (mem 29 1)).toNat 0 = sFd (fun j => w32 (mem 30 j)) (w32 v) k (w32 i).toNat → zG E d xm_102 2 [some (1, 29), some (0, v), some (0, i)] [] mem Q := by
  intro k
  induction k with
  | zero =>
    intro i hk i0 i1 hs
    refine zgo_ok (n := 60) hE xmo_102 (cs := zc_102) ?_
    simp only [ynok_30, ynok_31, w32c_0, w32c_1, w32c_2, w32c_3, w32c_4, w32c_5, w32c_6, w32c_7, w32c_8, w32c_9, w32c_10, w32c_11, w32c_12, w32c_13, w32c_14, w32c_m1, w32c_m2, w32c_118, Int.reduceAdd, Int.reduceSub, Int.reduceMul, yput_s, yput_n, znl_n, znl_0, znl_1, znl_4, ysum_n, ysum_0, ysum_1, ysum_4, true_and, and_true, Nat.reduceAdd, Nat.reduceLeDiff, true_implies, eq_self, true_or, or_true, or_false, false_or, not_true_eq_false, not_false_eq_true, false_implies, implies_true, yset_s, yset_o, yset_d, ne_eq, Nat.reduceEqDiff, Int.reduceToNat, Int.reduceEq, Int.reduceLE, Int.reduceLT, Classical.not_not, Nat.reduceLT, ↓zvk_s, ↓zvk_n, ↓s_102_0, ↓s_102_1n, ↓s_102_1i, ↓s_102_1p, ↓g_102_2, ↓k_102_2, ↓s_102_3, ↓s_102_4_3, ↓s_102_4_5, ↓s_102_4_7, ↓s_102_4_9, ↓s_102_4_29, ↓s_102_4_31, ↓s_102_4_33, ↓s_102_4_35, ↓s_102_7, ↓s_102_10, ↓s_102_11_3, ↓s_102_11_5, ↓s_102_11_7, ↓s_102_11_9, ↓s_102_11_29, ↓s_102_11_31, ↓s_102_11_33, ↓s_102_11_35, ↓s_102_14, ↓s_102_15, ↓s_102_16, ↓s_102_17, ↓s_102_20, ↓s_102_21, ↓s_102_22n, ↓s_102_22i, ↓s_102_22p, ↓s_102_25, ↓s_102_28, ↓s_102_29, zio_3, zar_4, zia_4, zln_4, zit_4, zio_5, zar_6, zia_6, zln_6, zit_6, zio_7, zar_8, zia_8, zln_8, zit_8, zio_9, zar_10, zia_10, zln_10, zit_10, zio_29, zar_30, zia_30, zln_30, zit_30, zio_31, zar_32, zia_32, zln_32, zit_32, zio_33, zar_34, zia_34, zln_34, zit_34, zio_35, zar_36, zia_36, zln_36, zit_36]
    exact ⟨fun _ => hQ _ (by rw [hs]; exact w32c_m1), fun h => absurd (show w32 (mem 29 1) ≤ w32 i by (first | exact Nat.le_of_ble_eq_true rfl | exact (fun h => absurd h.1 (by decide)) | omega)) h⟩
  | succ k ih =>
    intro i hk i0 i1 hs
    have e1 : w32 (i + 1) = w32 i + 1 := by rw [w32_ad (by rw [w32c_1]; (first | exact Nat.le_of_ble_eq_true rfl | exact (fun h => absurd h.1 (by decide)) | omega)) (by rw [w32c_1]; (first | exact Nat.le_of_ble_eq_true rfl | exact (fun h => absurd h.1 (by decide)) | omega)), w32c_1]
    refine zgo_ok (n := 60) hE xmo_102 (cs := zc_102) ?_
    simp only [ynok_30, ynok_31, w32c_0, w32c_1, w32c_2, w32c_3, w32c_4, w32c_5, w32c_6, w32c_7, w32c_8, w32c_9, w32c_10, w32c_11, w32c_12, w32c_13, w32c_14, w32c_m1, w32c_m2, w32c_118, Int.reduceAdd, Int.reduceSub, Int.reduceMul, yput_s, yput_n, znl_n, znl_0, znl_1, znl_4, ysum_n, ysum_0, ysum_1, ysum_4, true_and, and_true, Nat.reduceAdd, Nat.reduceLeDiff, true_implies, eq_self, true_or, or_true, or_false, false_or, not_true_eq_false, not_false_eq_true, false_implies, implies_true, yset_s, yset_o, yset_d, ne_eq, Nat.reduceEqDiff, Int.reduceToNat, Int.reduceEq, Int.reduceLE, Int.reduceLT, Classical.not_not, Nat.reduceLT, ↓zvk_s, ↓zvk_n, ↓s_102_0, ↓s_102_1n, ↓s_102_1i, ↓s_102_1p, ↓g_102_2, ↓k_102_2, ↓s_102_3, ↓s_102_4_3, ↓s_102_4_5, ↓s_102_4_7, ↓s_102_4_9, ↓s_102_4_29, ↓s_102_4_31, ↓s_102_4_33, ↓s_102_4_35, ↓s_102_7, ↓s_102_10, ↓s_102_11_3, ↓s_102_11_5, ↓s_102_11_7, ↓s_102_11_9, ↓s_102_11_29, ↓s_102_11_31, ↓s_102_11_33, ↓s_102_11_35, ↓s_102_14, ↓s_102_15, ↓s_102_16, ↓s_102_17, ↓s_102_20, ↓s_102_21, ↓s_102_22n, ↓s_102_22i, ↓s_102_22p, ↓s_102_25, ↓s_102_28, ↓s_102_29, zio_3, zar_4, zia_4, zln_4, zit_4, zio_5, zar_6, zia_6, zln_6, zit_6, zio_7, zar_8, zia_8, zln_8, zit_8, zio_9, zar_10, zia_10, zln_10, zit_10, zio_29, zar_30, zia_30, zln_30, zit_30, zio_31, zar_32, zia_32, zln_32, zit_32, zio_33, zar_34, zia_34, zln_34, zit_34, zio_35, zar_36, zia_36, zln_36, zit_36]
    simp only [sFd] at hs
    refine ⟨fun h => absurd h (by (first | exact Nat.le_of_ble_eq_true rfl | exact (fun h => absurd h.1 (by decide)) | omega)), fun _ => ⟨⟨by (first | exact Nat.le_of_ble_eq_true rfl | exact (fun h => absurd h.1 (by decide)) | omega), by (first | exact Nat.le_of_ble_eq_true rfl | exact (fun h => absurd h.1 (by decide)) | omega)⟩, fun hne => ih (i + 1) (by (first | exact Nat.le_of_ble_eq_true rfl | exact (fun h => absurd h.1 (by decide)) | omega)) (by (first | exact Nat.le_of_ble_eq_true rfl | exact (fun h => absurd h.1 (by decide)) | omega)) (by (first | exact Nat.le_of_ble_eq_true rfl | exact (fun h => absurd h.1 (by decide)) | omega)) ?_, fun heq => hQ _ ?_⟩⟩
    · rw [hs, if_neg hne, show (w32 (i + 1)).toNat = (w32 i).toNat + 1 by (first | exact Nat.le_of_ble_eq_true rfl | exact (fun h => absurd h.1 (by decide)) | omega)]
    · rw [hs, if_pos heq]
      (first | exact Nat.le_of_ble_eq_true rfl | exact (fun h => absurd h.1 (by decide)) | omega)
theorem g_find_29 (hE : yEok E) {D : Nat} (hD : 1 ≤ D) {v : Int} (h0 : 0 ≤ w32 (mem 29 1)) (h1 : w32 (mem 29 1) ≤ 3) (hQ : ∀ r, w32 r = sFd (fun j => w32 (mem 30 j)) (w32 v) (w32 (mem 29 1)).toNat 0 → Q (some (0, r)) mem) : yCon E D xm_102 [(1, 29), (0, v)] mem Q := by
  obtain ⟨d, rfl⟩ := Nat.exists_eq_add_of_le' hD
  refine e_102 ?_
  refine zvc_ok hE 60 zc_102 _ _ _ _ _ _ _ xmo_102 ?_
  simp only [ynok_30, ynok_31, w32c_0, w32c_1, w32c_2, w32c_3, w32c_4, w32c_5, w32c_6, w32c_7, w32c_8, w32c_9, w32c_10, w32c_11, w32c_12, w32c_13, w32c_14, w32c_m1, w32c_m2, w32c_118, Int.reduceAdd, Int.reduceSub, Int.reduceMul, yput_s, yput_n, znl_n, znl_0, znl_1, znl_4, ysum_n, ysum_0, ysum_1, ysum_4, true_and, and_true, Nat.reduceAdd, Nat.reduceLeDiff, true_implies, eq_self, true_or, or_true, or_false, false_or, not_true_eq_false, not_false_eq_true, false_implies, implies_true, yset_s, yset_o, yset_d, ne_eq, Nat.reduceEqDiff, Int.reduceToNat, Int.reduceEq, Int.reduceLE, Int.reduceLT, Classical.not_not, Nat.reduceLT, ↓zvk_s, ↓zvk_n, ↓s_102_0, ↓s_102_1n, ↓s_102_1i, ↓s_102_1p, ↓g_102_2, ↓k_102_2, ↓s_102_3, ↓s_102_4_3, ↓s_102_4_5, ↓s_102_4_7, ↓s_102_4_9, ↓s_102_4_29, ↓s_102_4_31, ↓s_102_4_33, ↓s_102_4_35, ↓s_102_7, ↓s_102_10, ↓s_102_11_3, ↓s_102_11_5, ↓s_102_11_7, ↓s_102_11_9, ↓s_102_11_29, ↓s_102_11_31, ↓s_102_11_33, ↓s_102_11_35, ↓s_102_14, ↓s_102_15, ↓s_102_16, ↓s_102_17, ↓s_102_20, ↓s_102_21, ↓s_102_22n, ↓s_102_22i, ↓s_102_22p, ↓s_102_25, ↓s_102_28, ↓s_102_29, zio_3, zar_4, zia_4, zln_4, zit_4, zio_5, zar_6, zia_6, zln_6, zit_6, zio_7, zar_8, zia_8, zln_8, zit_8, zio_9, zar_10, zia_10, zln_10, zit_10, zio_29, zar_30, zia_30, zln_30, zit_30, zio_31, zar_32, zia_32, zln_32, zit_32, zio_33, zar_34, zia_34, zln_34, zit_34, zio_35, zar_36, zia_36, zln_36, zit_36]
  exact g_find_29_l hE h0 h1 hQ _ _ rfl (by decide) (by rw [w32c_0]; exact h0) (by rw [w32c_0, Int.sub_zero]; rfl)
theorem g_find_31_l (hE : yEok E) {d : Nat} {v : Int} (h0 : 0 ≤ w32 (mem 31 1)) (h1 : w32 (mem 31 1) ≤ 6) (hQ : ∀ r, w32 r = sFd (fun j => w32 (mem 32 j)) (w32 v) (w32 (mem 31 1)).toNat 0 → Q (some (0, r)) mem) : ∀ (k : Nat) (i : Int), (w32 (mem 31 1) - w32 i).toNat = k → 0 ≤ w32 i → w32 i ≤ w32 (mem 31 1) → sFd (fun j => w32 (mem 32 j)) (w32 v) (w32 (mem 31 1)).toNat 0 = sFd (fun j => w32 (mem 32 j)) (w32 v) k (w32 i).toNat → zG E d xm_102 2 [some (1, 31), some (0, v), some (0, i)] [] mem Q := by
  intro k
  induction k with
  | zero =>
    intro i hk i0 i1 hs
    refine zgo_ok (n := 60) hE xmo_102 (cs := zc_102) ?_
    simp only [ynok_30, ynok_31, w32c_0, w32c_1, w32c_2, w32c_3, w32c_4, w32c_5, w32c_6, w32c_7, w32c_8, w32c_9, w32c_10, w32c_11, w32c_12, w32c_13, w32c_14, w32c_m1, w32c_m2, w32c_118, Int.reduceAdd, Int.reduceSub, Int.reduceMul, yput_s, yput_n, znl_n, znl_0, znl_1, znl_4, ysum_n, ysum_0, ysum_1, ysum_4, true_and, and_true, Nat.reduceAdd, Nat.reduceLeDiff, true_implies, eq_self, true_or, or_true, or_false, false_or, not_true_eq_false, not_false_eq_true, false_implies, implies_true, yset_s, yset_o, yset_d, ne_eq, Nat.reduceEqDiff, Int.reduceToNat, Int.reduceEq, Int.reduceLE, Int.reduceLT, Classical.not_not, Nat.reduceLT, ↓zvk_s, ↓zvk_n, ↓s_102_0, ↓s_102_1n, ↓s_102_1i, ↓s_102_1p, ↓g_102_2, ↓k_102_2, ↓s_102_3, ↓s_102_4_3, ↓s_102_4_5, ↓s_102_4_7, ↓s_102_4_9, ↓s_102_4_29, ↓s_102_4_31, ↓s_102_4_33, ↓s_102_4_35, ↓s_102_7, ↓s_102_10, ↓s_102_11_3, ↓s_102_11_5, ↓s_102_11_7, ↓s_102_11_9, ↓s_102_11_29, ↓s_102_11_31, ↓s_102_11_33, ↓s_102_11_35, ↓s_102_14, ↓s_102_15, ↓s_102_16, ↓s_102_17, ↓s_102_20, ↓s_102_21, ↓s_102_22n, ↓s_102_22i, ↓s_102_22p, ↓s_102_25, ↓s_102_28, ↓s_102_29, zio_3, zar_4, zia_4, zln_4, zit_4, zio_5, zar_6, zia_6, zln_6, zit_6, zio_7, zar_8, zia_8, zln_8, zit_8, zio_9, zar_10, zia_10, zln_10, zit_10, zio_29, zar_30, zia_30, zln_30, zit_30, zio_31, zar_32, zia_32, zln_32, zit_32, zio_33, zar_34, zia_34, zln_34, zit_34, zio_35, zar_36, zia_36, zln_36, zit_36]
    exact ⟨fun _ => hQ _ (by rw [hs]; exact w32c_m1), fun h => absurd (show w32 (mem 31 1) ≤ w32 i by (first | exact Nat.le_of_ble_eq_true rfl | exact (fun h => absurd h.1 (by decide)) | omega)) h⟩
  | succ k ih =>
    intro i hk i0 i1 hs
    have e1 : w32 (i + 1) = w32 i + 1 := by rw [w32_ad (by rw [w32c_1]; (first | exact Nat.le_of_ble_eq_true rfl | exact (fun h => absurd h.1 (by decide)) | omega)) (by rw [w32c_1]; (first | exact Nat.le_of_ble_eq_true rfl | exact (fun h => absurd h.1 (by decide)) | omega)), w32c_1]
    refine zgo_ok (n := 60) hE xmo_102 (cs := zc_102) ?_
    simp only [ynok_30, ynok_31, w32c_0, w32c_1, w32c_2, w32c_3, w32c_4, w32c_5, w32c_6, w32c_7, w32c_8, w32c_9, w32c_10, w32c_11, w32c_12, w32c_13, w32c_14, w32c_m1, w32c_m2, w32c_118, Int.reduceAdd, Int.reduceSub, Int.reduceMul, yput_s, yput_n, znl_n, znl_0, znl_1, znl_4, ysum_n, ysum_0, ysum_1, ysum_4, true_and, and_true, Nat.reduceAdd, Nat.reduceLeDiff, true_implies, eq_self, true_or, or_true, or_false, false_or, not_true_eq_false, not_false_eq_true, false_implies, implies_true, yset_s, yset_o, yset_d, ne_eq, Nat.reduceEqDiff, Int.reduceToNat, Int.reduceEq, Int.reduceLE, Int.reduceLT, Classical.not_not, Nat.reduceLT, ↓zvk_s, ↓zvk_n, ↓s_102_0, ↓s_102_1n, ↓s_102_1i, ↓s_102_1p, ↓g_102_2, ↓k_102_2, ↓s_102_3, ↓s_102_4_3, ↓s_102_4_5, ↓s_102_4_7, ↓s_102_4_9, ↓s_102_4_29, ↓s_102_4_31, ↓s_102_4_33, ↓s_102_4_35, ↓s_102_7, ↓s_102_10, ↓s_102_11_3, ↓s_102_11_5, ↓s_102_11_7, ↓s_102_11_9, ↓s_102_11_29, ↓s_102_11_31, ↓s_102_11_33, ↓s_102_11_35, ↓s_102_14, ↓s_102_15, ↓s_102_16, ↓s_102_17, ↓s_102_20, ↓s_102_21, ↓s_102_22n, ↓s_102_22i, ↓s_102_22p, ↓s_102_25, ↓s_102_28, ↓s_102_29, zio_3, zar_4, zia_4, zln_4, zit_4, zio_5, zar_6, zia_6, zln_6, zit_6, zio_7, zar_8, zia_8, zln_8, zit_8, zio_9, zar_10, zia_10, zln_10, zit_10, zio_29, zar_30, zia_30, zln_30, zit_30, zio_31, zar_32, zia_32, zln_32, zit_32, zio_33, zar_34, zia_34, zln_34, zit_34, zio_35, zar_36, zia_36, zln_36, zit_36]
    simp only [sFd] at hs
    refine ⟨fun h => absurd h (by (first | exact Nat.le_of_ble_eq_true rfl | exact (fun h => absurd h.1 (by decide)) | omega)), fun _ => ⟨⟨by (first | exact Nat.le_of_ble_eq_true rfl | exact (fun h => absurd h.1 (by decide)) | omega), by (first | exact Nat.le_of_ble_eq_true rfl | exact (fun h => absurd h.1 (by decide)) | omega)⟩, fun hne => ih (i + 1) (by (first | exact Nat.le_of_ble_eq_true rfl | exact (fun h => absurd h.1 (by decide)) | omega)) (by (first | exact Nat.le_of_ble_eq_true rfl | exact (fun h => absurd h.1 (by decide)) | omega)) (by (first | exact Nat.le_of_ble_eq_true rfl | exact (fun h => absurd h.1 (by decide)) | omega)) ?_, fun heq => hQ _ ?_⟩⟩
    · rw [hs, if_neg hne, show (w32 (i + 1)).toNat = (w32 i).toNat + 1 by (first | exact Nat.le_of_ble_eq_true rfl | exact (fun h => absurd h.1 (by decide)) | omega)]
    · rw [hs, if_pos heq]
      (first | exact Nat.le_of_ble_eq_true rfl | exact (fun h => absurd h.1 (by decide)) | omega)
theorem g_find_31 (hE : yEok E) {D : Nat} (hD : 1 ≤ D) {v : Int} (h0 : 0 ≤ w32 (mem 31 1)) (h1 : w32 (mem 31 1) ≤ 6) (hQ : ∀ r, w32 r = sFd (fun j => w32 (mem 32 j)) (w32 v) (w32 (mem 31 1)).toNat 0 → Q (some (0, r)) mem) : yCon E D xm_102 [(1, 31), (0, v)] mem Q := by
  obtain ⟨d, rfl⟩ := Nat.exists_eq_add_of_le' hD
  refine e_102 ?_
  refine zvc_ok hE 60 zc_102 _ _ _ _ _ _ _ xmo_102 ?_
  simp only [ynok_30, ynok_31, w32c_0, w32c_1, w32c_2, w32c_3, w32c_4, w32c_5, w32c_6, w32c_7, w32c_8, w32c_9, w32c_10, w32c_11, w32c_12, w32c_13, w32c_14, w32c_m1, w32c_m2, w32c_118, Int.reduceAdd, Int.reduceSub, Int.reduceMul, yput_s, yput_n, znl_n, znl_0, znl_1, znl_4, ysum_n, ysum_0, ysum_1, ysum_4, true_and, and_true, Nat.reduceAdd, Nat.reduceLeDiff, true_implies, eq_self, true_or, or_true, or_false, false_or, not_true_eq_false, not_false_eq_true, false_implies, implies_true, yset_s, yset_o, yset_d, ne_eq, Nat.reduceEqDiff, Int.reduceToNat, Int.reduceEq, Int.reduceLE, Int.reduceLT, Classical.not_not, Nat.reduceLT, ↓zvk_s, ↓zvk_n, ↓s_102_0, ↓s_102_1n, ↓s_102_1i, ↓s_102_1p, ↓g_102_2, ↓k_102_2, ↓s_102_3, ↓s_102_4_3, ↓s_102_4_5, ↓s_102_4_7, ↓s_102_4_9, ↓s_102_4_29, ↓s_102_4_31, ↓s_102_4_33, ↓s_102_4_35, ↓s_102_7, ↓s_102_10, ↓s_102_11_3, ↓s_102_11_5, ↓s_102_11_7, ↓s_102_11_9, ↓s_102_11_29, ↓s_102_11_31, ↓s_102_11_33, ↓s_102_11_35, ↓s_102_14, ↓s_102_15, ↓s_102_16, ↓s_102_17, ↓s_102_20, ↓s_102_21, ↓s_102_22n, ↓s_102_22i, ↓s_102_22p, ↓s_102_25, ↓s_102_28, ↓s_102_29, zio_3, zar_4, zia_4, zln_4, zit_4, zio_5, zar_6, zia_6, zln_6, zit_6, zio_7, zar_8, zia_8, zln_8, zit_8, zio_9, zar_10, zia_10, zln_10, zit_10, zio_29, zar_30, zia_30, zln_30, zit_30, zio_31, zar_32, zia_32, zln_32, zit_32, zio_33, zar_34, zia_34, zln_34, zit_34, zio_35, zar_36, zia_36, zln_36, zit_36]
  exact g_find_31_l hE h0 h1 hQ _ _ rfl (by decide) (by rw [w32c_0]; exact h0) (by rw [w32c_0, Int.sub_zero]; rfl)
theorem g_find_33_l (hE : yEok E) {d : Nat} {v : Int} (h0 : 0 ≤ w32 (mem 33 1)) (h1 : w32 (mem 33 1) ≤ 4) (hQ : ∀ r, w32 r = sFd (fun j => w32 (mem 34 j)) (w32 v) (w32 (mem 33 1)).toNat 0 → Q (some (0, r)) mem) : ∀ (k : Nat) (i : Int), (w32 (mem 33 1) - w32 i).toNat = k → 0 ≤ w32 i → w32 i ≤ w32 (mem 33 1) → sFd (fun j => w32 (mem 34 j)) (w32 v) (w32 (mem 33 1)).toNat 0 = sFd (fun j => w32 (mem 34 j)) (w32 v) k (w32 i).toNat → zG E d xm_102 2 [some (1, 33), some (0, v), some (0, i)] [] mem Q := by
  intro k
  induction k with
  | zero =>
    intro i hk i0 i1 hs
    refine zgo_ok (n := 60) hE xmo_102 (cs := zc_102) ?_
    simp only [ynok_30, ynok_31, w32c_0, w32c_1, w32c_2, w32c_3, w32c_4, w32c_5, w32c_6, w32c_7, w32c_8, w32c_9, w32c_10, w32c_11, w32c_12, w32c_13, w32c_14, w32c_m1, w32c_m2, w32c_118, Int.reduceAdd, Int.reduceSub, Int.reduceMul, yput_s, yput_n, znl_n, znl_0, znl_1, znl_4, ysum_n, ysum_0, ysum_1, ysum_4, true_and, and_true, Nat.reduceAdd, Nat.reduceLeDiff, true_implies, eq_self, true_or, or_true, or_false, false_or, not_true_eq_false, not_false_eq_true, false_implies, implies_true, yset_s, yset_o, yset_d, ne_eq, Nat.reduceEqDiff, Int.reduceToNat, Int.reduceEq, Int.reduceLE, Int.reduceLT, Classical.not_not, Nat.reduceLT, ↓zvk_s, ↓zvk_n, ↓s_102_0, ↓s_102_1n, ↓s_102_1i, ↓s_102_1p, ↓g_102_2, ↓k_102_2, ↓s_102_3, ↓s_102_4_3, ↓s_102_4_5, ↓s_102_4_7, ↓s_102_4_9, ↓s_102_4_29, ↓s_102_4_31, ↓s_102_4_33, ↓s_102_4_35, ↓s_102_7, ↓s_102_10, ↓s_102_11_3, ↓s_102_11_5, ↓s_102_11_7, ↓s_102_11_9, ↓s_102_11_29, ↓s_102_11_31, ↓s_102_11_33, ↓s_102_11_35, ↓s_102_14, ↓s_102_15, ↓s_102_16, ↓s_102_17, ↓s_102_20, ↓s_102_21, ↓s_102_22n, ↓s_102_22i, ↓s_102_22p, ↓s_102_25, ↓s_102_28, ↓s_102_29, zio_3, zar_4, zia_4, zln_4, zit_4, zio_5, zar_6, zia_6, zln_6, zit_6, zio_7, zar_8, zia_8, zln_8, zit_8, zio_9, zar_10, zia_10, zln_10, zit_10, zio_29, zar_30, zia_30, zln_30, zit_30, zio_31, zar_32, zia_32, zln_32, zit_32, zio_33, zar_34, zia_34, zln_34, zit_34, zio_35, zar_36, zia_36, zln_36, zit_36]
    exact ⟨fun _ => hQ _ (by rw [hs]; exact w32c_m1), fun h => absurd (show w32 (mem 33 1) ≤ w32 i by (first | exact Nat.le_of_ble_eq_true rfl | exact (fun h => absurd h.1 (by decide)) | omega)) h⟩
  | succ k ih =>
    intro i hk i0 i1 hs
    have e1 : w32 (i + 1) = w32 i + 1 := by rw [w32_ad (by rw [w32c_1]; (first | exact Nat.le_of_ble_eq_true rfl | exact (fun h => absurd h.1 (by decide)) | omega)) (by rw [w32c_1]; (first | exact Nat.le_of_ble_eq_true rfl | exact (fun h => absurd h.1 (by decide)) | omega)), w32c_1]
    refine zgo_ok (n := 60) hE xmo_102 (cs := zc_102) ?_
    simp only [ynok_30, ynok_31, w32c_0, w32c_1, w32c_2, w32c_3, w32c_4, w32c_5, w32c_6, w32c_7, w32c_8, w32c_9, w32c_10, w32c_11, w32c_12, w32c_13, w32c_14, w32c_m1, w32c_m2, w32c_118, Int.reduceAdd, Int.reduceSub, Int.reduceMul, yput_s, yput_n, znl_n, znl_0, znl_1, znl_4, ysum_n, ysum_0, ysum_1, ysum_4, true_and, and_true, Nat.reduceAdd, Nat.reduceLeDiff, true_implies, eq_self, true_or, or_true, or_false, false_or, not_true_eq_false, not_false_eq_true, false_implies, implies_true, yset_s, yset_o, yset_d, ne_eq, Nat.reduceEqDiff, Int.reduceToNat, Int.reduceEq, Int.reduceLE, Int.reduceLT, Classical.not_not, Nat.reduceLT, ↓zvk_s, ↓zvk_n, ↓s_102_0, ↓s_102_1n, ↓s_102_1i, ↓s_102_1p, ↓g_102_2, ↓k_102_2, ↓s_102_3, ↓s_102_4_3, ↓s_102_4_5, ↓s_102_4_7, ↓s_102_4_9, ↓s_102_4_29, ↓s_102_4_31, ↓s_102_4_33, ↓s_102_4_35, ↓s_102_7, ↓s_102_10, ↓s_102_11_3, ↓s_102_11_5, ↓s_102_11_7, ↓s_102_11_9, ↓s_102_11_29, ↓s_102_11_31, ↓s_102_11_33, ↓s_102_11_35, ↓s_102_14, ↓s_102_15, ↓s_102_16, ↓s_102_17, ↓s_102_20, ↓s_102_21, ↓s_102_22n, ↓s_102_22i, ↓s_102_22p, ↓s_102_25, ↓s_102_28, ↓s_102_29, zio_3, zar_4, zia_4, zln_4, zit_4, zio_5, zar_6, zia_6, zln_6, zit_6, zio_7, zar_8, zia_8, zln_8, zit_8, zio_9, zar_10, zia_10, zln_10, zit_10, zio_29, zar_30, zia_30, zln_30, zit_30, zio_31, zar_32, zia_32, zln_32, zit_32, zio_33, zar_34, zia_34, zln_34, zit_34, zio_35, zar_36, zia_36, zln_36, zit_36]
    simp only [sFd] at hs
    refine ⟨fun h => absurd h (by (first | exact Nat.le_of_ble_eq_true rfl | exact (fun h => absurd h.1 (by decide)) | omega)), fun _ => ⟨⟨by (first | exact Nat.le_of_ble_eq_true rfl | exact (fun h => absurd h.1 (by decide)) | omega), by (first | exact Nat.le_of_ble_eq_true rfl | exact (fun h => absurd h.1 (by decide)) | omega)⟩, fun hne => ih (i + 1) (by (first | exact Nat.le_of_ble_eq_true rfl | exact (fun h => absurd h.1 (by decide)) | omega)) (by (first | exact Nat.le_of_ble_eq_true rfl | exact (fun h => absurd h.1 (by decide)) | omega)) (by (first | exact Nat.le_of_ble_eq_true rfl | exact (fun h => absurd h.1 (by decide)) | omega)) ?_, fun heq => hQ _ ?_⟩⟩
    · rw [hs, if_neg hne, show (w32 (i + 1)).toNat = (w32 i).toNat + 1 by (first | exact Nat.le_of_ble_eq_true rfl | exact (fun h => absurd h.1 (by decide)) | omega)]
    · rw [hs, if_pos heq]
      (first | exact Nat.le_of_ble_eq_true rfl | exact (fun h => absurd h.1 (by decide)) | omega)
theorem g_find_33 (hE : yEok E) {D : Nat} (hD : 1 ≤ D) {v : Int} (h0 : 0 ≤ w32 (mem 33 1)) (h1 : w32 (mem 33 1) ≤ 4) (hQ : ∀ r, w32 r = sFd (fun j => w32 (mem 34 j)) (w32 v) (w32 (mem 33 1)).toNat 0 → Q (some (0, r)) mem) : yCon E D xm_102 [(1, 33), (0, v)] mem Q := by
  obtain ⟨d, rfl⟩ := Nat.exists_eq_add_of_le' hD
  refine e_102 ?_
  refine zvc_ok hE 60 zc_102 _ _ _ _ _ _ _ xmo_102 ?_
  simp only [ynok_30, ynok_31, w32c_0, w32c_1, w32c_2, w32c_3, w32c_4, w32c_5, w32c_6, w32c_7, w32c_8, w32c_9, w32c_10, w32c_11, w32c_12, w32c_13, w32c_14, w32c_m1, w32c_m2, w32c_118, Int.reduceAdd, Int.reduceSub, Int.reduceMul, yput_s, yput_n, znl_n, znl_0, znl_1, znl_4, ysum_n, ysum_0, ysum_1, ysum_4, true_and, and_true, Nat.reduceAdd, Nat.reduceLeDiff, true_implies, eq_self, true_or, or_true, or_false, false_or, not_true_eq_false, not_false_eq_true, false_implies, implies_true, yset_s, yset_o, yset_d, ne_eq, Nat.reduceEqDiff, Int.reduceToNat, Int.reduceEq, Int.reduceLE, Int.reduceLT, Classical.not_not, Nat.reduceLT, ↓zvk_s, ↓zvk_n, ↓s_102_0, ↓s_102_1n, ↓s_102_1i, ↓s_102_1p, ↓g_102_2, ↓k_102_2, ↓s_102_3, ↓s_102_4_3, ↓s_102_4_5, ↓s_102_4_7, ↓s_102_4_9, ↓s_102_4_29, ↓s_102_4_31, ↓s_102_4_33, ↓s_102_4_35, ↓s_102_7, ↓s_102_10, ↓s_102_11_3, ↓s_102_11_5, ↓s_102_11_7, ↓s_102_11_9, ↓s_102_11_29, ↓s_102_11_31, ↓s_102_11_33, ↓s_102_11_35, ↓s_102_14, ↓s_102_15, ↓s_102_16, ↓s_102_17, ↓s_102_20, ↓s_102_21, ↓s_102_22n, ↓s_102_22i, ↓s_102_22p, ↓s_102_25, ↓s_102_28, ↓s_102_29, zio_3, zar_4, zia_4, zln_4, zit_4, zio_5, zar_6, zia_6, zln_6, zit_6, zio_7, zar_8, zia_8, zln_8, zit_8, zio_9, zar_10, zia_10, zln_10, zit_10, zio_29, zar_30, zia_30, zln_30, zit_30, zio_31, zar_32, zia_32, zln_32, zit_32, zio_33, zar_34, zia_34, zln_34, zit_34, zio_35, zar_36, zia_36, zln_36, zit_36]
  exact g_find_33_l hE h0 h1 hQ _ _ rfl (by decide) (by rw [w32c_0]; exact h0) (by rw [w32c_0, Int.sub_zero]; rfl)
theorem g_find_35_l (hE : yEok E) {d : Nat} {v : Int} (h0 : 0 ≤ w32 (mem 35 1)) (h1 : w32 (mem 35 1) ≤ 3) (hQ : ∀ r, w32 r = sFd (fun j => w32 (mem 36 j)) (w32 v) (w32 (mem 35 1)).toNat 0 → Q (some (0, r)) mem) : ∀ (k : Nat) (i : Int), (w32 (mem 35 1) - w32 i).toNat = k → 0 ≤ w32 i → w32 i ≤ w32 (mem 35 1) → sFd (fun j => w32 (mem 36 j)) (w32 v) (w32 (mem 35 1)).toNat 0 = sFd (fun j => w32 (mem 36 j)) (w32 v) k (w32 i).toNat → zG E d xm_102 2 [some (1, 35), some (0, v), some (0, i)] [] mem Q := by
  intro k
  induction k with
  | zero =>
    intro i hk i0 i1 hs
    refine zgo_ok (n := 60) hE xmo_102 (cs := zc_102) ?_
    simp only [ynok_30, ynok_31, w32c_0, w32c_1, w32c_2, w32c_3, w32c_4, w32c_5, w32c_6, w32c_7, w32c_8, w32c_9, w32c_10, w32c_11, w32c_12, w32c_13, w32c_14, w32c_m1, w32c_m2, w32c_118, Int.reduceAdd, Int.reduceSub, Int.reduceMul, yput_s, yput_n, znl_n, znl_0, znl_1, znl_4, ysum_n, ysum_0, ysum_1, ysum_4, true_and, and_true, Nat.reduceAdd, Nat.reduceLeDiff, true_implies, eq_self, true_or, or_true, or_false, false_or, not_true_eq_false, not_false_eq_true, false_implies, implies_true, yset_s, yset_o, yset_d, ne_eq, Nat.reduceEqDiff, Int.reduceToNat, Int.reduceEq, Int.reduceLE, Int.reduceLT, Classical.not_not, Nat.reduceLT, ↓zvk_s, ↓zvk_n, ↓s_102_0, ↓s_102_1n, ↓s_102_1i, ↓s_102_1p, ↓g_102_2, ↓k_102_2, ↓s_102_3, ↓s_102_4_3, ↓s_102_4_5, ↓s_102_4_7, ↓s_102_4_9, ↓s_102_4_29, ↓s_102_4_31, ↓s_102_4_33, ↓s_102_4_35, ↓s_102_7, ↓s_102_10, ↓s_102_11_3, ↓s_102_11_5, ↓s_102_11_7, ↓s_102_11_9, ↓s_102_11_29, ↓s_102_11_31, ↓s_102_11_33, ↓s_102_11_35, ↓s_102_14, ↓s_102_15, ↓s_102_16, ↓s_102_17, ↓s_102_20, ↓s_102_21, ↓s_102_22n, ↓s_102_22i, ↓s_102_22p, ↓s_102_25, ↓s_102_28, ↓s_102_29, zio_3, zar_4, zia_4, zln_4, zit_4, zio_5, zar_6, zia_6, zln_6, zit_6, zio_7, zar_8, zia_8, zln_8, zit_8, zio_9, zar_10, zia_10, zln_10, zit_10, zio_29, zar_30, zia_30, zln_30, zit_30, zio_31, zar_32, zia_32, zln_32, zit_32, zio_33, zar_34, zia_34, zln_34, zit_34, zio_35, zar_36, zia_36, zln_36, zit_36]
    exact ⟨fun _ => hQ _ (by rw [hs]; exact w32c_m1), fun h => absurd (show w32 (mem 35 1) ≤ w32 i by (first | exact Nat.le_of_ble_eq_true rfl | exact (fun h => absurd h.1 (by decide)) | omega)) h⟩
  | succ k ih =>
    intro i hk i0 i1 hs
    have e1 : w32 (i + 1) = w32 i + 1 := by rw [w32_ad (by rw [w32c_1]; (first | exact Nat.le_of_ble_eq_true rfl | exact (fun h => absurd h.1 (by decide)) | omega)) (by rw [w32c_1]; (first | exact Nat.le_of_ble_eq_true rfl | exact (fun h => absurd h.1 (by decide)) | omega)), w32c_1]
    refine zgo_ok (n := 60) hE xmo_102 (cs := zc_102) ?_
    simp only [ynok_30, ynok_31, w32c_0, w32c_1, w32c_2, w32c_3, w32c_4, w32c_5, w32c_6, w32c_7, w32c_8, w32c_9, w32c_10, w32c_11, w32c_12, w32c_13, w32c_14, w32c_m1, w32c_m2, w32c_118, Int.reduceAdd, Int.reduceSub, Int.reduceMul, yput_s, yput_n, znl_n, znl_0, znl_1, znl_4, ysum_n, ysum_0, ysum_1, ysum_4, true_and, and_true, Nat.reduceAdd, Nat.reduceLeDiff, true_implies, eq_self, true_or, or_true, or_false, false_or, not_true_eq_false, not_false_eq_true, false_implies, implies_true, yset_s, yset_o, yset_d, ne_eq, Nat.reduceEqDiff, Int.reduceToNat, Int.reduceEq, Int.reduceLE, Int.reduceLT, Classical.not_not, Nat.reduceLT, ↓zvk_s, ↓zvk_n, ↓s_102_0, ↓s_102_1n, ↓s_102_1i, ↓s_102_1p, ↓g_102_2, ↓k_102_2, ↓s_102_3, ↓s_102_4_3, ↓s_102_4_5, ↓s_102_4_7, ↓s_102_4_9, ↓s_102_4_29, ↓s_102_4_31, ↓s_102_4_33, ↓s_102_4_35, ↓s_102_7, ↓s_102_10, ↓s_102_11_3, ↓s_102_11_5, ↓s_102_11_7, ↓s_102_11_9, ↓s_102_11_29, ↓s_102_11_31, ↓s_102_11_33, ↓s_102_11_35, ↓s_102_14, ↓s_102_15, ↓s_102_16, ↓s_102_17, ↓s_102_20, ↓s_102_21, ↓s_102_22n, ↓s_102_22i, ↓s_102_22p, ↓s_102_25, ↓s_102_28, ↓s_102_29, zio_3, zar_4, zia_4, zln_4, zit_4, zio_5, zar_6, zia_6, zln_6, zit_6, zio_7, zar_8, zia_8, zln_8, zit_8, zio_9, zar_10, zia_10, zln_10, zit_10, zio_29, zar_30, zia_30, zln_30, zit_30, zio_31, zar_32, zia_32, zln_32, zit_32, zio_33, zar_34, zia_34, zln_34, zit_34, zio_35, zar_36, zia_36, zln_36, zit_36]
    simp only [sFd] at hs
    refine ⟨fun h => absurd h (by (first | exact Nat.le_of_ble_eq_true rfl | exact (fun h => absurd h.1 (by decide)) | omega)), fun _ => ⟨⟨by (first | exact Nat.le_of_ble_eq_true rfl | exact (fun h => absurd h.1 (by decide)) | omega), by (first | exact Nat.le_of_ble_eq_true rfl | exact (fun h => absurd h.1 (by decide)) | omega)⟩, fun hne => ih (i + 1) (by (first | exact Nat.le_of_ble_eq_true rfl | exact (fun h => absurd h.1 (by decide)) | omega)) (by (first | exact Nat.le_of_ble_eq_true rfl | exact (fun h => absurd h.1 (by decide)) | omega)) (by (first | exact Nat.le_of_ble_eq_true rfl | exact (fun h => absurd h.1 (by decide)) | omega)) ?_, fun heq => hQ _ ?_⟩⟩
    · rw [hs, if_neg hne, show (w32 (i + 1)).toNat = (w32 i).toNat + 1 by (first | exact Nat.le_of_ble_eq_true rfl | exact (fun h => absurd h.1 (by decide)) | omega)]
    · rw [hs, if_pos heq]
      (first | exact Nat.le_of_ble_eq_true rfl | exact (fun h => absurd h.1 (by decide)) | omega)
theorem g_find_35 (hE : yEok E) {D : Nat} (hD : 1 ≤ D) {v : Int} (h0 : 0 ≤ w32 (mem 35 1)) (h1 : w32 (mem 35 1) ≤ 3) (hQ : ∀ r, w32 r = sFd (fun j => w32 (mem 36 j)) (w32 v) (w32 (mem 35 1)).toNat 0 → Q (some (0, r)) mem) : yCon E D xm_102 [(1, 35), (0, v)] mem Q := by
  obtain ⟨d, rfl⟩ := Nat.exists_eq_add_of_le' hD
  refine e_102 ?_
  refine zvc_ok hE 60 zc_102 _ _ _ _ _ _ _ xmo_102 ?_
  simp only [ynok_30, ynok_31, w32c_0, w32c_1, w32c_2, w32c_3, w32c_4, w32c_5, w32c_6, w32c_7, w32c_8, w32c_9, w32c_10, w32c_11, w32c_12, w32c_13, w32c_14, w32c_m1, w32c_m2, w32c_118, Int.reduceAdd, Int.reduceSub, Int.reduceMul, yput_s, yput_n, znl_n, znl_0, znl_1, znl_4, ysum_n, ysum_0, ysum_1, ysum_4, true_and, and_true, Nat.reduceAdd, Nat.reduceLeDiff, true_implies, eq_self, true_or, or_true, or_false, false_or, not_true_eq_false, not_false_eq_true, false_implies, implies_true, yset_s, yset_o, yset_d, ne_eq, Nat.reduceEqDiff, Int.reduceToNat, Int.reduceEq, Int.reduceLE, Int.reduceLT, Classical.not_not, Nat.reduceLT, ↓zvk_s, ↓zvk_n, ↓s_102_0, ↓s_102_1n, ↓s_102_1i, ↓s_102_1p, ↓g_102_2, ↓k_102_2, ↓s_102_3, ↓s_102_4_3, ↓s_102_4_5, ↓s_102_4_7, ↓s_102_4_9, ↓s_102_4_29, ↓s_102_4_31, ↓s_102_4_33, ↓s_102_4_35, ↓s_102_7, ↓s_102_10, ↓s_102_11_3, ↓s_102_11_5, ↓s_102_11_7, ↓s_102_11_9, ↓s_102_11_29, ↓s_102_11_31, ↓s_102_11_33, ↓s_102_11_35, ↓s_102_14, ↓s_102_15, ↓s_102_16, ↓s_102_17, ↓s_102_20, ↓s_102_21, ↓s_102_22n, ↓s_102_22i, ↓s_102_22p, ↓s_102_25, ↓s_102_28, ↓s_102_29, zio_3, zar_4, zia_4, zln_4, zit_4, zio_5, zar_6, zia_6, zln_6, zit_6, zio_7, zar_8, zia_8, zln_8, zit_8, zio_9, zar_10, zia_10, zln_10, zit_10, zio_29, zar_30, zia_30, zln_30, zit_30, zio_31, zar_32, zia_32, zln_32, zit_32, zio_33, zar_34, zia_34, zln_34, zit_34, zio_35, zar_36, zia_36, zln_36, zit_36]
  exact g_find_35_l hE h0 h1 hQ _ _ rfl (by decide) (by rw [w32c_0]; exact h0) (by rw [w32c_0, Int.sub_zero]; rfl)
end CH
end
section
theorem aFrm_tt {w : List (Nat × Nat)} {a b c : yMem} (h1 : aFrm w a b) (h2 : aFrm w b c) : aFrm w a c := fun i j h => by rw [h2 i j h, h1 i j h]
theorem amod_l {a b : List (Nat × Nat)} {i j : Nat} : amod (a ++ b) i j = false → amod a i j = false := by
  induction a with
  | nil => exact fun _ => rfl
  | cons q r ih =>
    intro h
    simp only [List.cons_append, amod, Bool.or_eq_false_iff] at h ⊢
    exact ⟨h.1, ih h.2⟩
theorem aFrm_l {a b : List (Nat × Nat)} {m m' : yMem} (h : aFrm a m m') : aFrm (a ++ b) m m' := fun i j hij => h i j (amod_l hij)
/-- a roll holds these names -/
def cNm (mem : yMem) (z mx : Nat) (nm : List Int) : Prop := w32 (mem z 1) = (nm.length : Int) ∧ nm.length ≤ mx ∧ ∀ j, j < nm.length → w32 (mem (z + 1) j) = nm.getD j 0
theorem cNm_fd {mem : yMem} {z mx : Nat} {nm : List Int} (h : cNm mem z mx nm) (v : Int) : sFd (fun j => w32 (mem (z + 1) j)) v (w32 (mem z 1)).toNat 0 = sFd (fun j => nm.getD j 0) v nm.length 0 := by
  rw [h.1, Int.toNat_natCast]
  exact sFd_ext _ _ (fun j _ j2 => h.2.2 j (by (first | exact Nat.le_of_ble_eq_true rfl | exact (fun h => absurd h.1 (by decide)) | omega)))
theorem cNm_fr {mem m : yMem} {z mx : Nat} {nm : List Int} (h : cNm mem z mx nm) (h1 : m z 1 = mem z 1) (h2 : ∀ j, m (z + 1) j = mem (z + 1) j) : cNm m z mx nm := ⟨by rw [h1]; exact h.1, h.2.1, fun j hj => by rw [h2]; exact h.2.2 j hj⟩
section CI
variable {E : yE} {mem : yMem} {Q : Option yV → yMem → Prop} {ch : Nat → Int} {n : Nat} {x : sY}
theorem g_begin_29 (hE : yEok E) {D : Nat} (hD : 5 ≤ D) {nm : List Int} (h : cTk ch n mem x) (hN : cNm mem 29 3 nm) (hQ : ∀ r m, aFrm (cfF ++ [(29, 2), (30, 0)]) mem m → w32 r = (yBg nm 3 x).1 → cTk ch n m (yBg nm 3 x).2 → (w32 r = -1 → cNm m 29 3 nm) → (¬ w32 r = -1 → cNm m 29 3 (nm ++ [yVl (yNx x)])) → Q (some (0, r)) m) : yCon E D xm_110 [(1, 54), (1, 29)] mem Q := by
  obtain ⟨d, rfl⟩ := Nat.exists_eq_add_of_le' hD
  refine e_110 ?_
  refine zvc_ok hE 90 [] _ _ _ _ _ _ _ xmo_110 ?_
  have hN1 := hN.1
  have hN2 := hN.2.1
  have bad : ∀ (m : yMem) (y : sY) (f : Nat) (F : Int), aFrm (cfF ++ [(29, 2), (30, 0)]) mem m → cNm m 29 3 nm → cTk ch n m y → yBg nm 3 x = (-1, yFl f y) → w32 F = (f : Int) → f ≠ 0 → (¬ w32 (m 55 7) = 0 → Q (some (0, -1)) (yset m 55 4 0)) ∧ (w32 (m 55 7) = 0 → Q (some (0, -1)) (yset (yset (yset m 55 7 F) 55 8 (m 55 5)) 55 4 0)) := fun m y f F hF hNm hy he hf hf0 => by
    have fin : ∀ m2, aFrm cfF m m2 → cTk ch n m2 (yFl f y) → Q (some (0, -1)) m2 := fun m2 g1 g2 => hQ _ m2 (aFrm_tt hF (aFrm_l g1)) (by rw [he]; exact w32c_m1) (by rw [he]; exact g2) (fun _ => cNm_fr hNm (g1 29 1 rfl) (fun j => g1 30 j rfl)) (fun h => absurd w32c_m1 h)
    exact ⟨fun hz => fin _ (g_fl1 (f := f) hy hz).1 (g_fl1 hy hz).2, fun hz => fin _ (g_fl0 (f := f) hy hf hf0 hz).1 (g_fl0 hy hf hf0 hz).2⟩
  simp only [ynok_30, ynok_31, w32c_0, w32c_1, w32c_2, w32c_3, w32c_4, w32c_5, w32c_6, w32c_7, w32c_8, w32c_9, w32c_10, w32c_11, w32c_12, w32c_13, w32c_14, w32c_m1, w32c_m2, w32c_118, Int.reduceAdd, Int.reduceSub, Int.reduceMul, yput_s, yput_n, znl_n, znl_0, znl_1, znl_4, ysum_n, ysum_0, ysum_1, ysum_4, true_and, and_true, Nat.reduceAdd, Nat.reduceLeDiff, true_implies, eq_self, true_or, or_true, or_false, false_or, not_true_eq_false, not_false_eq_true, false_implies, implies_true, yset_s, yset_o, yset_d, ne_eq, Nat.reduceEqDiff, Int.reduceToNat, Int.reduceEq, Int.reduceLE, Int.reduceLT, Classical.not_not, Nat.reduceLT, ↓zvk_s, ↓zvk_n, ↓s_110_0, ↓s_110_1, ↓s_110_4, ↓s_110_7, ↓s_110_8, ↓s_110_11, ↓s_110_12, ↓s_110_15a, ↓s_110_15b, ↓s_110_16, ↓s_110_17, ↓s_110_18, ↓s_110_19, ↓s_110_22, ↓s_110_25, ↓s_110_26, ↓s_110_29, ↓s_110_32, ↓s_110_33, ↓s_110_36, ↓s_110_37, ↓s_110_40, ↓s_110_41, ↓s_110_44a, ↓s_110_44b, ↓s_110_45, ↓s_110_46, ↓s_110_47, ↓s_110_48, ↓s_110_49, ↓s_110_52, ↓s_110_55, ↓s_110_58, ↓s_110_59, ↓s_110_62, ↓s_110_63, ↓s_110_66, ↓s_110_67, ↓s_110_70a, ↓s_110_70b, ↓s_110_71, ↓s_110_72, ↓s_110_73, ↓s_110_74, ↓s_110_75, ↓s_110_78, ↓s_110_81, ↓s_110_84n, ↓s_110_84i, ↓s_110_84p, ↓s_110_85, ↓s_110_86, ↓s_110_89, ↓s_110_92, ↓s_110_93, ↓s_104_0, ↓s_104_1_3, ↓s_104_1_5, ↓s_104_1_7, ↓s_104_1_9, ↓s_104_1_29, ↓s_104_1_31, ↓s_104_1_33, ↓s_104_1_35, ↓s_104_4, ↓s_104_5_3, ↓s_104_5_5, ↓s_104_5_7, ↓s_104_5_9, ↓s_104_5_29, ↓s_104_5_31, ↓s_104_5_33, ↓s_104_5_35, ↓s_104_8, ↓s_104_9, ↓s_104_12, ↓s_104_13, ↓s_104_16, ↓s_104_17, ↓s_123_0, ↓s_123_1, ↓s_123_4, ↓s_123_7, ↓s_123_8, ↓s_123_9, ↓s_123_12, ↓s_123_13, ↓s_123_14, ↓s_123_17, ↓s_123_20, ↓s_123_21, ↓s_123_22, ↓s_123_25, ↓s_123_26, zio_3, zar_4, zia_4, zln_4, zit_4, zio_5, zar_6, zia_6, zln_6, zit_6, zio_7, zar_8, zia_8, zln_8, zit_8, zio_9, zar_10, zia_10, zln_10, zit_10, zio_29, zar_30, zia_30, zln_30, zit_30, zio_31, zar_32, zia_32, zln_32, zit_32, zio_33, zar_34, zia_34, zln_34, zit_34, zio_35, zar_36, zia_36, zln_36, zit_36, zio_54, zio_55]
  have eC : w32 ((3 : Nat) : Int) = 3 := by decide
  rw [eC]
  refine ⟨fun hlt => g_next hE (by (first | exact Nat.le_of_ble_eq_true rfl | exact (fun h => absurd h.1 (by decide)) | omega)) h (fun m1 F1 T1 => ?_), fun hge => bad mem x 2 2 aFrm_rf hN h (by unfold yBg; rw [if_pos (by (first | exact Nat.le_of_ble_eq_true rfl | exact (fun h => absurd h.1 (by decide)) | omega))]) (by decide) (by decide)⟩
  have W1 : aFrm (cfF ++ [(29, 2), (30, 0)]) mem m1 := aFrm_l F1
  have M1 : cNm m1 29 3 nm := cNm_fr hN (F1 29 1 rfl) (fun j => F1 30 j rfl)
  have b0 : ¬ 3 ≤ nm.length := by (first | exact Nat.le_of_ble_eq_true rfl | exact (fun h => absurd h.1 (by decide)) | omega)
  refine zgk_n hE xmo_110 60 [] ?_
  simp only [ynok_30, ynok_31, w32c_0, w32c_1, w32c_2, w32c_3, w32c_4, w32c_5, w32c_6, w32c_7, w32c_8, w32c_9, w32c_10, w32c_11, w32c_12, w32c_13, w32c_14, w32c_m1, w32c_m2, w32c_118, Int.reduceAdd, Int.reduceSub, Int.reduceMul, yput_s, yput_n, znl_n, znl_0, znl_1, znl_4, ysum_n, ysum_0, ysum_1, ysum_4, true_and, and_true, Nat.reduceAdd, Nat.reduceLeDiff, true_implies, eq_self, true_or, or_true, or_false, false_or, not_true_eq_false, not_false_eq_true, false_implies, implies_true, yset_s, yset_o, yset_d, ne_eq, Nat.reduceEqDiff, Int.reduceToNat, Int.reduceEq, Int.reduceLE, Int.reduceLT, Classical.not_not, Nat.reduceLT, ↓zvk_s, ↓zvk_n, ↓s_110_0, ↓s_110_1, ↓s_110_4, ↓s_110_7, ↓s_110_8, ↓s_110_11, ↓s_110_12, ↓s_110_15a, ↓s_110_15b, ↓s_110_16, ↓s_110_17, ↓s_110_18, ↓s_110_19, ↓s_110_22, ↓s_110_25, ↓s_110_26, ↓s_110_29, ↓s_110_32, ↓s_110_33, ↓s_110_36, ↓s_110_37, ↓s_110_40, ↓s_110_41, ↓s_110_44a, ↓s_110_44b, ↓s_110_45, ↓s_110_46, ↓s_110_47, ↓s_110_48, ↓s_110_49, ↓s_110_52, ↓s_110_55, ↓s_110_58, ↓s_110_59, ↓s_110_62, ↓s_110_63, ↓s_110_66, ↓s_110_67, ↓s_110_70a, ↓s_110_70b, ↓s_110_71, ↓s_110_72, ↓s_110_73, ↓s_110_74, ↓s_110_75, ↓s_110_78, ↓s_110_81, ↓s_110_84n, ↓s_110_84i, ↓s_110_84p, ↓s_110_85, ↓s_110_86, ↓s_110_89, ↓s_110_92, ↓s_110_93, ↓s_104_0, ↓s_104_1_3, ↓s_104_1_5, ↓s_104_1_7, ↓s_104_1_9, ↓s_104_1_29, ↓s_104_1_31, ↓s_104_1_33, ↓s_104_1_35, ↓s_104_4, ↓s_104_5_3, ↓s_104_5_5, ↓s_104_5_7, ↓s_104_5_9, ↓s_104_5_29, ↓s_104_5_31, ↓s_104_5_33, ↓s_104_5_35, ↓s_104_8, ↓s_104_9, ↓s_104_12, ↓s_104_13, ↓s_104_16, ↓s_104_17, ↓s_123_0, ↓s_123_1, ↓s_123_4, ↓s_123_7, ↓s_123_8, ↓s_123_9, ↓s_123_12, ↓s_123_13, ↓s_123_14, ↓s_123_17, ↓s_123_20, ↓s_123_21, ↓s_123_22, ↓s_123_25, ↓s_123_26, zio_3, zar_4, zia_4, zln_4, zit_4, zio_5, zar_6, zia_6, zln_6, zit_6, zio_7, zar_8, zia_8, zln_8, zit_8, zio_9, zar_10, zia_10, zln_10, zit_10, zio_29, zar_30, zia_30, zln_30, zit_30, zio_31, zar_32, zia_32, zln_32, zit_32, zio_33, zar_34, zia_34, zln_34, zit_34, zio_35, zar_36, zia_36, zln_36, zit_36, zio_54, zio_55]
  rw [cTk_kd T1]
  refine ⟨fun hk => g_find_29 hE (by (first | exact Nat.le_of_ble_eq_true rfl | exact (fun h => absurd h.1 (by decide)) | omega)) (by rw [M1.1]; (first | exact Nat.le_of_ble_eq_true rfl | exact (fun h => absurd h.1 (by decide)) | omega)) (by rw [M1.1]; (first | exact Nat.le_of_ble_eq_true rfl | exact (fun h => absurd h.1 (by decide)) | omega)) (fun r hr => ?_), fun hk => bad m1 (yNx x) 1 1 W1 M1 T1 (by unfold yBg; rw [if_neg b0, if_pos (by (first | exact Nat.le_of_ble_eq_true rfl | exact (fun h => absurd h.1 (by decide)) | omega))]) (by decide) (by decide)⟩
  have hk3 : yKd (yNx x) = 3 := by (first | exact Nat.le_of_ble_eq_true rfl | exact (fun h => absurd h.1 (by decide)) | omega)
  have ev := cTk_nm T1 hk3
  rw [cNm_fd M1, ev] at hr
  refine zgk_s hE xmo_110 60 [] ?_
  simp only [ynok_30, ynok_31, w32c_0, w32c_1, w32c_2, w32c_3, w32c_4, w32c_5, w32c_6, w32c_7, w32c_8, w32c_9, w32c_10, w32c_11, w32c_12, w32c_13, w32c_14, w32c_m1, w32c_m2, w32c_118, Int.reduceAdd, Int.reduceSub, Int.reduceMul, yput_s, yput_n, znl_n, znl_0, znl_1, znl_4, ysum_n, ysum_0, ysum_1, ysum_4, true_and, and_true, Nat.reduceAdd, Nat.reduceLeDiff, true_implies, eq_self, true_or, or_true, or_false, false_or, not_true_eq_false, not_false_eq_true, false_implies, implies_true, yset_s, yset_o, yset_d, ne_eq, Nat.reduceEqDiff, Int.reduceToNat, Int.reduceEq, Int.reduceLE, Int.reduceLT, Classical.not_not, Nat.reduceLT, ↓zvk_s, ↓zvk_n, ↓s_110_0, ↓s_110_1, ↓s_110_4, ↓s_110_7, ↓s_110_8, ↓s_110_11, ↓s_110_12, ↓s_110_15a, ↓s_110_15b, ↓s_110_16, ↓s_110_17, ↓s_110_18, ↓s_110_19, ↓s_110_22, ↓s_110_25, ↓s_110_26, ↓s_110_29, ↓s_110_32, ↓s_110_33, ↓s_110_36, ↓s_110_37, ↓s_110_40, ↓s_110_41, ↓s_110_44a, ↓s_110_44b, ↓s_110_45, ↓s_110_46, ↓s_110_47, ↓s_110_48, ↓s_110_49, ↓s_110_52, ↓s_110_55, ↓s_110_58, ↓s_110_59, ↓s_110_62, ↓s_110_63, ↓s_110_66, ↓s_110_67, ↓s_110_70a, ↓s_110_70b, ↓s_110_71, ↓s_110_72, ↓s_110_73, ↓s_110_74, ↓s_110_75, ↓s_110_78, ↓s_110_81, ↓s_110_84n, ↓s_110_84i, ↓s_110_84p, ↓s_110_85, ↓s_110_86, ↓s_110_89, ↓s_110_92, ↓s_110_93, ↓s_104_0, ↓s_104_1_3, ↓s_104_1_5, ↓s_104_1_7, ↓s_104_1_9, ↓s_104_1_29, ↓s_104_1_31, ↓s_104_1_33, ↓s_104_1_35, ↓s_104_4, ↓s_104_5_3, ↓s_104_5_5, ↓s_104_5_7, ↓s_104_5_9, ↓s_104_5_29, ↓s_104_5_31, ↓s_104_5_33, ↓s_104_5_35, ↓s_104_8, ↓s_104_9, ↓s_104_12, ↓s_104_13, ↓s_104_16, ↓s_104_17, ↓s_101_0, ↓s_101_1, ↓s_101_4, ↓s_101_7, ↓s_101_8, ↓s_101_9, ↓s_101_10_3, ↓s_101_10_5, ↓s_101_10_7, ↓s_101_10_9, ↓s_101_10_29, ↓s_101_10_31, ↓s_101_10_33, ↓s_101_10_35, ↓s_101_13, ↓s_101_14_3, ↓s_101_14_5, ↓s_101_14_7, ↓s_101_14_9, ↓s_101_14_29, ↓s_101_14_31, ↓s_101_14_33, ↓s_101_14_35, ↓s_101_17, ↓s_101_18, ↓s_101_19, ↓s_101_20a, ↓s_101_20b, ↓s_101_21_3, ↓s_101_21_5, ↓s_101_21_7, ↓s_101_21_9, ↓s_101_21_29, ↓s_101_21_31, ↓s_101_21_33, ↓s_101_21_35, ↓s_101_24, ↓s_101_25, ↓s_101_26_3, ↓s_101_26_5, ↓s_101_26_7, ↓s_101_26_9, ↓s_101_26_29, ↓s_101_26_31, ↓s_101_26_33, ↓s_101_26_35, ↓s_101_29, ↓s_101_30_3, ↓s_101_30_5, ↓s_101_30_7, ↓s_101_30_9, ↓s_101_30_29, ↓s_101_30_31, ↓s_101_30_33, ↓s_101_30_35, ↓s_101_33, ↓s_101_34, ↓s_101_35, ↓s_123_0, ↓s_123_1, ↓s_123_4, ↓s_123_7, ↓s_123_8, ↓s_123_9, ↓s_123_12, ↓s_123_13, ↓s_123_14, ↓s_123_17, ↓s_123_20, ↓s_123_21, ↓s_123_22, ↓s_123_25, ↓s_123_26, zio_3, zar_4, zia_4, zln_4, zit_4, zio_5, zar_6, zia_6, zln_6, zit_6, zio_7, zar_8, zia_8, zln_8, zit_8, zio_9, zar_10, zia_10, zln_10, zit_10, zio_29, zar_30, zia_30, zln_30, zit_30, zio_31, zar_32, zia_32, zln_32, zit_32, zio_33, zar_34, zia_34, zln_34, zit_34, zio_35, zar_36, zia_36, zln_36, zit_36, zio_54, zio_55]
  rw [hr, eC]
  refine ⟨fun hm => ⟨fun _ => ?_, fun hge => absurd (show w32 (m1 29 1) < 3 by rw [M1.1]; (first | exact Nat.le_of_ble_eq_true rfl | exact (fun h => absurd h.1 (by decide)) | omega)) hge⟩, fun hne => bad m1 (yNx x) 3 3 W1 M1 T1 (by unfold yBg; rw [if_neg b0, if_neg (by (first | exact Nat.le_of_ble_eq_true rfl | exact (fun h => absurd h.1 (by decide)) | omega)), if_pos hne]) (by decide) (by decide)⟩
  have hz := M1.1
  have e1 : w32 (m1 29 1 + 1) = (nm.length : Int) + 1 := by rw [w32_ad (by rw [w32c_1, hz]; (first | exact Nat.le_of_ble_eq_true rfl | exact (fun h => absurd h.1 (by decide)) | omega)) (by rw [w32c_1, hz]; (first | exact Nat.le_of_ble_eq_true rfl | exact (fun h => absurd h.1 (by decide)) | omega)), w32c_1, hz]
  have e2 : w32 (m1 29 1 + 1 - 1) = (nm.length : Int) := by rw [Int.add_sub_cancel]; exact hz
  have et : (w32 (m1 29 1)).toNat = nm.length := by rw [hz]; exact Int.toNat_natCast _
  refine ⟨⟨by (first | exact Nat.le_of_ble_eq_true rfl | exact (fun h => absurd h.1 (by decide)) | omega), by (first | exact Nat.le_of_ble_eq_true rfl | exact (fun h => absurd h.1 (by decide)) | omega)⟩, g_next hE (by (first | exact Nat.le_of_ble_eq_true rfl | exact (fun h => absurd h.1 (by decide)) | omega)) (cTk_of T1 (fun j => by rw [yset_o (by decide), yset_o (by decide)]) (fun j => by rw [yset_o (by decide), yset_o (by decide)]) (fun j => by rw [yset_o (by decide), yset_o (by decide)])) (fun m2 F2 T2 => ?_)⟩
  refine zgk_n hE xmo_110 60 [] ?_
  simp only [ynok_30, ynok_31, w32c_0, w32c_1, w32c_2, w32c_3, w32c_4, w32c_5, w32c_6, w32c_7, w32c_8, w32c_9, w32c_10, w32c_11, w32c_12, w32c_13, w32c_14, w32c_m1, w32c_m2, w32c_118, Int.reduceAdd, Int.reduceSub, Int.reduceMul, yput_s, yput_n, znl_n, znl_0, znl_1, znl_4, ysum_n, ysum_0, ysum_1, ysum_4, true_and, and_true, Nat.reduceAdd, Nat.reduceLeDiff, true_implies, eq_self, true_or, or_true, or_false, false_or, not_true_eq_false, not_false_eq_true, false_implies, implies_true, yset_s, yset_o, yset_d, ne_eq, Nat.reduceEqDiff, Int.reduceToNat, Int.reduceEq, Int.reduceLE, Int.reduceLT, Classical.not_not, Nat.reduceLT, ↓zvk_s, ↓zvk_n, ↓s_110_0, ↓s_110_1, ↓s_110_4, ↓s_110_7, ↓s_110_8, ↓s_110_11, ↓s_110_12, ↓s_110_15a, ↓s_110_15b, ↓s_110_16, ↓s_110_17, ↓s_110_18, ↓s_110_19, ↓s_110_22, ↓s_110_25, ↓s_110_26, ↓s_110_29, ↓s_110_32, ↓s_110_33, ↓s_110_36, ↓s_110_37, ↓s_110_40, ↓s_110_41, ↓s_110_44a, ↓s_110_44b, ↓s_110_45, ↓s_110_46, ↓s_110_47, ↓s_110_48, ↓s_110_49, ↓s_110_52, ↓s_110_55, ↓s_110_58, ↓s_110_59, ↓s_110_62, ↓s_110_63, ↓s_110_66, ↓s_110_67, ↓s_110_70a, ↓s_110_70b, ↓s_110_71, ↓s_110_72, ↓s_110_73, ↓s_110_74, ↓s_110_75, ↓s_110_78, ↓s_110_81, ↓s_110_84n, ↓s_110_84i, ↓s_110_84p, ↓s_110_85, ↓s_110_86, ↓s_110_89, ↓s_110_92, ↓s_110_93, zio_33, zio_3, zio_35, zio_5, zio_7, zio_9, zio_54, zio_55, zio_29, zio_31]
  have yb : yBg nm 3 x = ((nm.length : Int), yNx (yNx x)) := by unfold yBg; rw [if_neg b0, if_neg (by (first | exact Nat.le_of_ble_eq_true rfl | exact (fun h => absurd h.1 (by decide)) | omega)), if_neg (fun z => z hm)]
  refine hQ _ m2 (aFrm_tt (aFrm_tt W1 (aFrm_set (aFrm_set aFrm_rf rfl) rfl)) (aFrm_l F2)) (by rw [yb]; exact e2) (by rw [yb]; exact T2) (fun h => by rw [e2] at h; (first | exact Nat.le_of_ble_eq_true rfl | exact (fun h => absurd h.1 (by decide)) | omega)) (fun _ => ⟨?_, ?_, fun j hj => ?_⟩)
  · rw [F2 29 1 rfl, yset_s, e1, List.length_append]; rfl
  · rw [List.length_append]; show nm.length + 1 ≤ _; (first | exact Nat.le_of_ble_eq_true rfl | exact (fun h => absurd h.1 (by decide)) | omega)
  · rw [List.length_append] at hj
    have hj : j < nm.length + 1 := hj
    show w32 (m2 30 j) = _
    rw [F2 30 j rfl, yset_o (by decide), et, yset_a, if_pos rfl]
    by_cases hjl : j = nm.length
    · rw [if_pos hjl, ev, hjl]
      simp
    · rw [if_neg hjl]
      have := M1.2.2 j (by (first | exact Nat.le_of_ble_eq_true rfl | exact (fun h => absurd h.1 (by decide)) | omega))
      rw [show 29 + 1 = 30 from rfl] at this
      rw [this, List.getD_eq_getElem?_getD, List.getD_eq_getElem?_getD, List.getElem?_append_left (by (first | exact Nat.le_of_ble_eq_true rfl | exact (fun h => absurd h.1 (by decide)) | omega))]
theorem g_begin_31 (hE : yEok E) {D : Nat} (hD : 5 ≤ D) {nm : List Int} (h : cTk ch n mem x) (hN : cNm mem 31 6 nm) (hQ : ∀ r m, aFrm (cfF ++ [(31, 2), (32, 0)]) mem m → w32 r = (yBg nm 6 x).1 → cTk ch n m (yBg nm 6 x).2 → (w32 r = -1 → cNm m 31 6 nm) → (¬ w32 r = -1 → cNm m 31 6 (nm ++ [yVl (yNx x)])) → Q (some (0, r)) m) : yCon E D xm_110 [(1, 54), (1, 31)] mem Q := by
  obtain ⟨d, rfl⟩ := Nat.exists_eq_add_of_le' hD
  refine e_110 ?_
  refine zvc_ok hE 90 [] _ _ _ _ _ _ _ xmo_110 ?_
  have hN1 := hN.1
  have hN2 := hN.2.1
  have bad : ∀ (m : yMem) (y : sY) (f : Nat) (F : Int), aFrm (cfF ++ [(31, 2), (32, 0)]) mem m → cNm m 31 6 nm → cTk ch n m y → yBg nm 6 x = (-1, yFl f y) → w32 F = (f : Int) → f ≠ 0 → (¬ w32 (m 55 7) = 0 → Q (some (0, -1)) (yset m 55 4 0)) ∧ (w32 (m 55 7) = 0 → Q (some (0, -1)) (yset (yset (yset m 55 7 F) 55 8 (m 55 5)) 55 4 0)) := fun m y f F hF hNm hy he hf hf0 => by
    have fin : ∀ m2, aFrm cfF m m2 → cTk ch n m2 (yFl f y) → Q (some (0, -1)) m2 := fun m2 g1 g2 => hQ _ m2 (aFrm_tt hF (aFrm_l g1)) (by rw [he]; exact w32c_m1) (by rw [he]; exact g2) (fun _ => cNm_fr hNm (g1 31 1 rfl) (fun j => g1 32 j rfl)) (fun h => absurd w32c_m1 h)
    exact ⟨fun hz => fin _ (g_fl1 (f := f) hy hz).1 (g_fl1 hy hz).2, fun hz => fin _ (g_fl0 (f := f) hy hf hf0 hz).1 (g_fl0 hy hf hf0 hz).2⟩
  simp only [ynok_30, ynok_31, w32c_0, w32c_1, w32c_2, w32c_3, w32c_4, w32c_5, w32c_6, w32c_7, w32c_8, w32c_9, w32c_10, w32c_11, w32c_12, w32c_13, w32c_14, w32c_m1, w32c_m2, w32c_118, Int.reduceAdd, Int.reduceSub, Int.reduceMul, yput_s, yput_n, znl_n, znl_0, znl_1, znl_4, ysum_n, ysum_0, ysum_1, ysum_4, true_and, and_true, Nat.reduceAdd, Nat.reduceLeDiff, true_implies, eq_self, true_or, or_true, or_false, false_or, not_true_eq_false, not_false_eq_true, false_implies, implies_true, yset_s, yset_o, yset_d, ne_eq, Nat.reduceEqDiff, Int.reduceToNat, Int.reduceEq, Int.reduceLE, Int.reduceLT, Classical.not_not, Nat.reduceLT, ↓zvk_s, ↓zvk_n, ↓s_110_0, ↓s_110_1, ↓s_110_4, ↓s_110_7, ↓s_110_8, ↓s_110_11, ↓s_110_12, ↓s_110_15a, ↓s_110_15b, ↓s_110_16, ↓s_110_17, ↓s_110_18, ↓s_110_19, ↓s_110_22, ↓s_110_25, ↓s_110_26, ↓s_110_29, ↓s_110_32, ↓s_110_33, ↓s_110_36, ↓s_110_37, ↓s_110_40, ↓s_110_41, ↓s_110_44a, ↓s_110_44b, ↓s_110_45, ↓s_110_46, ↓s_110_47, ↓s_110_48, ↓s_110_49, ↓s_110_52, ↓s_110_55, ↓s_110_58, ↓s_110_59, ↓s_110_62, ↓s_110_63, ↓s_110_66, ↓s_110_67, ↓s_110_70a, ↓s_110_70b, ↓s_110_71, ↓s_110_72, ↓s_110_73, ↓s_110_74, ↓s_110_75, ↓s_110_78, ↓s_110_81, ↓s_110_84n, ↓s_110_84i, ↓s_110_84p, ↓s_110_85, ↓s_110_86, ↓s_110_89, ↓s_110_92, ↓s_110_93, ↓s_104_0, ↓s_104_1_3, ↓s_104_1_5, ↓s_104_1_7, ↓s_104_1_9, ↓s_104_1_29, ↓s_104_1_31, ↓s_104_1_33, ↓s_104_1_35, ↓s_104_4, ↓s_104_5_3, ↓s_104_5_5, ↓s_104_5_7, ↓s_104_5_9, ↓s_104_5_29, ↓s_104_5_31, ↓s_104_5_33, ↓s_104_5_35, ↓s_104_8, ↓s_104_9, ↓s_104_12, ↓s_104_13, ↓s_104_16, ↓s_104_17, ↓s_123_0, ↓s_123_1, ↓s_123_4, ↓s_123_7, ↓s_123_8, ↓s_123_9, ↓s_123_12, ↓s_123_13, ↓s_123_14, ↓s_123_17, ↓s_123_20, ↓s_123_21, ↓s_123_22, ↓s_123_25, ↓s_123_26, zio_3, zar_4, zia_4, zln_4, zit_4, zio_5, zar_6, zia_6, zln_6, zit_6, zio_7, zar_8, zia_8, zln_8, zit_8, zio_9, zar_10, zia_10, zln_10, zit_10, zio_29, zar_30, zia_30, zln_30, zit_30, zio_31, zar_32, zia_32, zln_32, zit_32, zio_33, zar_34, zia_34, zln_34, zit_34, zio_35, zar_36, zia_36, zln_36, zit_36, zio_54, zio_55]
  have eC : w32 ((6 : Nat) : Int) = 6 := by decide
  rw [eC]
  refine ⟨fun hlt => g_next hE (by (first | exact Nat.le_of_ble_eq_true rfl | exact (fun h => absurd h.1 (by decide)) | omega)) h (fun m1 F1 T1 => ?_), fun hge => bad mem x 2 2 aFrm_rf hN h (by unfold yBg; rw [if_pos (by (first | exact Nat.le_of_ble_eq_true rfl | exact (fun h => absurd h.1 (by decide)) | omega))]) (by decide) (by decide)⟩
  have W1 : aFrm (cfF ++ [(31, 2), (32, 0)]) mem m1 := aFrm_l F1
  have M1 : cNm m1 31 6 nm := cNm_fr hN (F1 31 1 rfl) (fun j => F1 32 j rfl)
  have b0 : ¬ 6 ≤ nm.length := by (first | exact Nat.le_of_ble_eq_true rfl | exact (fun h => absurd h.1 (by decide)) | omega)
  refine zgk_n hE xmo_110 60 [] ?_
  simp only [ynok_30, ynok_31, w32c_0, w32c_1, w32c_2, w32c_3, w32c_4, w32c_5, w32c_6, w32c_7, w32c_8, w32c_9, w32c_10, w32c_11, w32c_12, w32c_13, w32c_14, w32c_m1, w32c_m2, w32c_118, Int.reduceAdd, Int.reduceSub, Int.reduceMul, yput_s, yput_n, znl_n, znl_0, znl_1, znl_4, ysum_n, ysum_0, ysum_1, ysum_4, true_and, and_true, Nat.reduceAdd, Nat.reduceLeDiff, true_implies, eq_self, true_or, or_true, or_false, false_or, not_true_eq_false, not_false_eq_true, false_implies, implies_true, yset_s, yset_o, yset_d, ne_eq, Nat.reduceEqDiff, Int.reduceToNat, Int.reduceEq, Int.reduceLE, Int.reduceLT, Classical.not_not, Nat.reduceLT, ↓zvk_s, ↓zvk_n, ↓s_110_0, ↓s_110_1, ↓s_110_4, ↓s_110_7, ↓s_110_8, ↓s_110_11, ↓s_110_12, ↓s_110_15a, ↓s_110_15b, ↓s_110_16, ↓s_110_17, ↓s_110_18, ↓s_110_19, ↓s_110_22, ↓s_110_25, ↓s_110_26, ↓s_110_29, ↓s_110_32, ↓s_110_33, ↓s_110_36, ↓s_110_37, ↓s_110_40, ↓s_110_41, ↓s_110_44a, ↓s_110_44b, ↓s_110_45, ↓s_110_46, ↓s_110_47, ↓s_110_48, ↓s_110_49, ↓s_110_52, ↓s_110_55, ↓s_110_58, ↓s_110_59, ↓s_110_62, ↓s_110_63, ↓s_110_66, ↓s_110_67, ↓s_110_70a, ↓s_110_70b, ↓s_110_71, ↓s_110_72, ↓s_110_73, ↓s_110_74, ↓s_110_75, ↓s_110_78, ↓s_110_81, ↓s_110_84n, ↓s_110_84i, ↓s_110_84p, ↓s_110_85, ↓s_110_86, ↓s_110_89, ↓s_110_92, ↓s_110_93, ↓s_104_0, ↓s_104_1_3, ↓s_104_1_5, ↓s_104_1_7, ↓s_104_1_9, ↓s_104_1_29, ↓s_104_1_31, ↓s_104_1_33, ↓s_104_1_35, ↓s_104_4, ↓s_104_5_3, ↓s_104_5_5, ↓s_104_5_7, ↓s_104_5_9, ↓s_104_5_29, ↓s_104_5_31, ↓s_104_5_33, ↓s_104_5_35, ↓s_104_8, ↓s_104_9, ↓s_104_12, ↓s_104_13, ↓s_104_16, ↓s_104_17, ↓s_123_0, ↓s_123_1, ↓s_123_4, ↓s_123_7, ↓s_123_8, ↓s_123_9, ↓s_123_12, ↓s_123_13, ↓s_123_14, ↓s_123_17, ↓s_123_20, ↓s_123_21, ↓s_123_22, ↓s_123_25, ↓s_123_26, zio_3, zar_4, zia_4, zln_4, zit_4, zio_5, zar_6, zia_6, zln_6, zit_6, zio_7, zar_8, zia_8, zln_8, zit_8, zio_9, zar_10, zia_10, zln_10, zit_10, zio_29, zar_30, zia_30, zln_30, zit_30, zio_31, zar_32, zia_32, zln_32, zit_32, zio_33, zar_34, zia_34, zln_34, zit_34, zio_35, zar_36, zia_36, zln_36, zit_36, zio_54, zio_55]
  rw [cTk_kd T1]
  refine ⟨fun hk => g_find_31 hE (by (first | exact Nat.le_of_ble_eq_true rfl | exact (fun h => absurd h.1 (by decide)) | omega)) (by rw [M1.1]; (first | exact Nat.le_of_ble_eq_true rfl | exact (fun h => absurd h.1 (by decide)) | omega)) (by rw [M1.1]; (first | exact Nat.le_of_ble_eq_true rfl | exact (fun h => absurd h.1 (by decide)) | omega)) (fun r hr => ?_), fun hk => bad m1 (yNx x) 1 1 W1 M1 T1 (by unfold yBg; rw [if_neg b0, if_pos (by (first | exact Nat.le_of_ble_eq_true rfl | exact (fun h => absurd h.1 (by decide)) | omega))]) (by decide) (by decide)⟩
  have hk3 : yKd (yNx x) = 3 := by (first | exact Nat.le_of_ble_eq_true rfl | exact (fun h => absurd h.1 (by decide)) | omega)
  have ev := cTk_nm T1 hk3
  rw [cNm_fd M1, ev] at hr
  refine zgk_s hE xmo_110 60 [] ?_
  simp only [ynok_30, ynok_31, w32c_0, w32c_1, w32c_2, w32c_3, w32c_4, w32c_5, w32c_6, w32c_7, w32c_8, w32c_9, w32c_10, w32c_11, w32c_12, w32c_13, w32c_14, w32c_m1, w32c_m2, w32c_118, Int.reduceAdd, Int.reduceSub, Int.reduceMul, yput_s, yput_n, znl_n, znl_0, znl_1, znl_4, ysum_n, ysum_0, ysum_1, ysum_4, true_and, and_true, Nat.reduceAdd, Nat.reduceLeDiff, true_implies, eq_self, true_or, or_true, or_false, false_or, not_true_eq_false, not_false_eq_true, false_implies, implies_true, yset_s, yset_o, yset_d, ne_eq, Nat.reduceEqDiff, Int.reduceToNat, Int.reduceEq, Int.reduceLE, Int.reduceLT, Classical.not_not, Nat.reduceLT, ↓zvk_s, ↓zvk_n, ↓s_110_0, ↓s_110_1, ↓s_110_4, ↓s_110_7, ↓s_110_8, ↓s_110_11, ↓s_110_12, ↓s_110_15a, ↓s_110_15b, ↓s_110_16, ↓s_110_17, ↓s_110_18, ↓s_110_19, ↓s_110_22, ↓s_110_25, ↓s_110_26, ↓s_110_29, ↓s_110_32, ↓s_110_33, ↓s_110_36, ↓s_110_37, ↓s_110_40, ↓s_110_41, ↓s_110_44a, ↓s_110_44b, ↓s_110_45, ↓s_110_46, ↓s_110_47, ↓s_110_48, ↓s_110_49, ↓s_110_52, ↓s_110_55, ↓s_110_58, ↓s_110_59, ↓s_110_62, ↓s_110_63, ↓s_110_66, ↓s_110_67, ↓s_110_70a, ↓s_110_70b, ↓s_110_71, ↓s_110_72, ↓s_110_73, ↓s_110_74, ↓s_110_75, ↓s_110_78, ↓s_110_81, ↓s_110_84n, ↓s_110_84i, ↓s_110_84p, ↓s_110_85, ↓s_110_86, ↓s_110_89, ↓s_110_92, ↓s_110_93, ↓s_104_0, ↓s_104_1_3, ↓s_104_1_5, ↓s_104_1_7, ↓s_104_1_9, ↓s_104_1_29, ↓s_104_1_31, ↓s_104_1_33, ↓s_104_1_35, ↓s_104_4, ↓s_104_5_3, ↓s_104_5_5, ↓s_104_5_7, ↓s_104_5_9, ↓s_104_5_29, ↓s_104_5_31, ↓s_104_5_33, ↓s_104_5_35, ↓s_104_8, ↓s_104_9, ↓s_104_12, ↓s_104_13, ↓s_104_16, ↓s_104_17, ↓s_101_0, ↓s_101_1, ↓s_101_4, ↓s_101_7, ↓s_101_8, ↓s_101_9, ↓s_101_10_3, ↓s_101_10_5, ↓s_101_10_7, ↓s_101_10_9, ↓s_101_10_29, ↓s_101_10_31, ↓s_101_10_33, ↓s_101_10_35, ↓s_101_13, ↓s_101_14_3, ↓s_101_14_5, ↓s_101_14_7, ↓s_101_14_9, ↓s_101_14_29, ↓s_101_14_31, ↓s_101_14_33, ↓s_101_14_35, ↓s_101_17, ↓s_101_18, ↓s_101_19, ↓s_101_20a, ↓s_101_20b, ↓s_101_21_3, ↓s_101_21_5, ↓s_101_21_7, ↓s_101_21_9, ↓s_101_21_29, ↓s_101_21_31, ↓s_101_21_33, ↓s_101_21_35, ↓s_101_24, ↓s_101_25, ↓s_101_26_3, ↓s_101_26_5, ↓s_101_26_7, ↓s_101_26_9, ↓s_101_26_29, ↓s_101_26_31, ↓s_101_26_33, ↓s_101_26_35, ↓s_101_29, ↓s_101_30_3, ↓s_101_30_5, ↓s_101_30_7, ↓s_101_30_9, ↓s_101_30_29, ↓s_101_30_31, ↓s_101_30_33, ↓s_101_30_35, ↓s_101_33, ↓s_101_34, ↓s_101_35, ↓s_123_0, ↓s_123_1, ↓s_123_4, ↓s_123_7, ↓s_123_8, ↓s_123_9, ↓s_123_12, ↓s_123_13, ↓s_123_14, ↓s_123_17, ↓s_123_20, ↓s_123_21, ↓s_123_22, ↓s_123_25, ↓s_123_26, zio_3, zar_4, zia_4, zln_4, zit_4, zio_5, zar_6, zia_6, zln_6, zit_6, zio_7, zar_8, zia_8, zln_8, zit_8, zio_9, zar_10, zia_10, zln_10, zit_10, zio_29, zar_30, zia_30, zln_30, zit_30, zio_31, zar_32, zia_32, zln_32, zit_32, zio_33, zar_34, zia_34, zln_34, zit_34, zio_35, zar_36, zia_36, zln_36, zit_36, zio_54, zio_55]
  rw [hr, eC]
  refine ⟨fun hm => ⟨fun _ => ?_, fun hge => absurd (show w32 (m1 31 1) < 6 by rw [M1.1]; (first | exact Nat.le_of_ble_eq_true rfl | exact (fun h => absurd h.1 (by decide)) | omega)) hge⟩, fun hne => bad m1 (yNx x) 3 3 W1 M1 T1 (by unfold yBg; rw [if_neg b0, if_neg (by (first | exact Nat.le_of_ble_eq_true rfl | exact (fun h => absurd h.1 (by decide)) | omega)), if_pos hne]) (by decide) (by decide)⟩
  have hz := M1.1
  have e1 : w32 (m1 31 1 + 1) = (nm.length : Int) + 1 := by rw [w32_ad (by rw [w32c_1, hz]; (first | exact Nat.le_of_ble_eq_true rfl | exact (fun h => absurd h.1 (by decide)) | omega)) (by rw [w32c_1, hz]; (first | exact Nat.le_of_ble_eq_true rfl | exact (fun h => absurd h.1 (by decide)) | omega)), w32c_1, hz]
  have e2 : w32 (m1 31 1 + 1 - 1) = (nm.length : Int) := by rw [Int.add_sub_cancel]; exact hz
  have et : (w32 (m1 31 1)).toNat = nm.length := by rw [hz]; exact Int.toNat_natCast _
  refine ⟨⟨by (first | exact Nat.le_of_ble_eq_true rfl | exact (fun h => absurd h.1 (by decide)) | omega), by (first | exact Nat.le_of_ble_eq_true rfl | exact (fun h => absurd h.1 (by decide)) | omega)⟩, g_next hE (by (first | exact Nat.le_of_ble_eq_true rfl | exact (fun h => absurd h.1 (by decide)) | omega)) (cTk_of T1 (fun j => by rw [yset_o (by decide), yset_o (by decide)]) (fun j => by rw [yset_o (by decide), yset_o (by decide)]) (fun j => by rw [yset_o (by decide), yset_o (by decide)])) (fun m2 F2 T2 => ?_)⟩
  refine zgk_n hE xmo_110 60 [] ?_
  simp only [ynok_30, ynok_31, w32c_0, w32c_1, w32c_2, w32c_3, w32c_4, w32c_5, w32c_6, w32c_7, w32c_8, w32c_9, w32c_10, w32c_11, w32c_12, w32c_13, w32c_14, w32c_m1, w32c_m2, w32c_118, Int.reduceAdd, Int.reduceSub, Int.reduceMul, yput_s, yput_n, znl_n, znl_0, znl_1, znl_4, ysum_n, ysum_0, ysum_1, ysum_4, true_and, and_true, Nat.reduceAdd, Nat.reduceLeDiff, true_implies, eq_self, true_or, or_true, or_false, false_or, not_true_eq_false, not_false_eq_true, false_implies, implies_true, yset_s, yset_o, yset_d, ne_eq, Nat.reduceEqDiff, Int.reduceToNat, Int.reduceEq, Int.reduceLE, Int.reduceLT, Classical.not_not, Nat.reduceLT, ↓zvk_s, ↓zvk_n, ↓s_110_0, ↓s_110_1, ↓s_110_4, ↓s_110_7, ↓s_110_8, ↓s_110_11, ↓s_110_12, ↓s_110_15a, ↓s_110_15b, ↓s_110_16, ↓s_110_17, ↓s_110_18, ↓s_110_19, ↓s_110_22, ↓s_110_25, ↓s_110_26, ↓s_110_29, ↓s_110_32, ↓s_110_33, ↓s_110_36, ↓s_110_37, ↓s_110_40, ↓s_110_41, ↓s_110_44a, ↓s_110_44b, ↓s_110_45, ↓s_110_46, ↓s_110_47, ↓s_110_48, ↓s_110_49, ↓s_110_52, ↓s_110_55, ↓s_110_58, ↓s_110_59, ↓s_110_62, ↓s_110_63, ↓s_110_66, ↓s_110_67, ↓s_110_70a, ↓s_110_70b, ↓s_110_71, ↓s_110_72, ↓s_110_73, ↓s_110_74, ↓s_110_75, ↓s_110_78, ↓s_110_81, ↓s_110_84n, ↓s_110_84i, ↓s_110_84p, ↓s_110_85, ↓s_110_86, ↓s_110_89, ↓s_110_92, ↓s_110_93, zio_33, zio_3, zio_35, zio_5, zio_7, zio_9, zio_54, zio_55, zio_29, zio_31]
  have yb : yBg nm 6 x = ((nm.length : Int), yNx (yNx x)) := by unfold yBg; rw [if_neg b0, if_neg (by (first | exact Nat.le_of_ble_eq_true rfl | exact (fun h => absurd h.1 (by decide)) | omega)), if_neg (fun z => z hm)]
  refine hQ _ m2 (aFrm_tt (aFrm_tt W1 (aFrm_set (aFrm_set aFrm_rf rfl) rfl)) (aFrm_l F2)) (by rw [yb]; exact e2) (by rw [yb]; exact T2) (fun h => by rw [e2] at h; (first | exact Nat.le_of_ble_eq_true rfl | exact (fun h => absurd h.1 (by decide)) | omega)) (fun _ => ⟨?_, ?_, fun j hj => ?_⟩)
  · rw [F2 31 1 rfl, yset_s, e1, List.length_append]; rfl
  · rw [List.length_append]; show nm.length + 1 ≤ _; (first | exact Nat.le_of_ble_eq_true rfl | exact (fun h => absurd h.1 (by decide)) | omega)
  · rw [List.length_append] at hj
    have hj : j < nm.length + 1 := hj
    show w32 (m2 32 j) = _
    rw [F2 32 j rfl, yset_o (by decide), et, yset_a, if_pos rfl]
    by_cases hjl : j = nm.length
    · rw [if_pos hjl, ev, hjl]
      simp
    · rw [if_neg hjl]
      have := M1.2.2 j (by (first | exact Nat.le_of_ble_eq_true rfl | exact (fun h => absurd h.1 (by decide)) | omega))
      rw [show 31 + 1 = 32 from rfl] at this
      rw [this, List.getD_eq_getElem?_getD, List.getD_eq_getElem?_getD, List.getElem?_append_left (by (first | exact Nat.le_of_ble_eq_true rfl | exact (fun h => absurd h.1 (by decide)) | omega))]
theorem g_begin_33 (hE : yEok E) {D : Nat} (hD : 5 ≤ D) {nm : List Int} (h : cTk ch n mem x) (hN : cNm mem 33 4 nm) (hQ : ∀ r m, aFrm (cfF ++ [(33, 2), (34, 0)]) mem m → w32 r = (yBg nm 4 x).1 → cTk ch n m (yBg nm 4 x).2 → (w32 r = -1 → cNm m 33 4 nm) → (¬ w32 r = -1 → cNm m 33 4 (nm ++ [yVl (yNx x)])) → Q (some (0, r)) m) : yCon E D xm_110 [(1, 54), (1, 33)] mem Q := by
  obtain ⟨d, rfl⟩ := Nat.exists_eq_add_of_le' hD
  refine e_110 ?_
  refine zvc_ok hE 90 [] _ _ _ _ _ _ _ xmo_110 ?_
  have hN1 := hN.1
  have hN2 := hN.2.1
  have bad : ∀ (m : yMem) (y : sY) (f : Nat) (F : Int), aFrm (cfF ++ [(33, 2), (34, 0)]) mem m → cNm m 33 4 nm → cTk ch n m y → yBg nm 4 x = (-1, yFl f y) → w32 F = (f : Int) → f ≠ 0 → (¬ w32 (m 55 7) = 0 → Q (some (0, -1)) (yset m 55 4 0)) ∧ (w32 (m 55 7) = 0 → Q (some (0, -1)) (yset (yset (yset m 55 7 F) 55 8 (m 55 5)) 55 4 0)) := fun m y f F hF hNm hy he hf hf0 => by
    have fin : ∀ m2, aFrm cfF m m2 → cTk ch n m2 (yFl f y) → Q (some (0, -1)) m2 := fun m2 g1 g2 => hQ _ m2 (aFrm_tt hF (aFrm_l g1)) (by rw [he]; exact w32c_m1) (by rw [he]; exact g2) (fun _ => cNm_fr hNm (g1 33 1 rfl) (fun j => g1 34 j rfl)) (fun h => absurd w32c_m1 h)
    exact ⟨fun hz => fin _ (g_fl1 (f := f) hy hz).1 (g_fl1 hy hz).2, fun hz => fin _ (g_fl0 (f := f) hy hf hf0 hz).1 (g_fl0 hy hf hf0 hz).2⟩
  simp only [ynok_30, ynok_31, w32c_0, w32c_1, w32c_2, w32c_3, w32c_4, w32c_5, w32c_6, w32c_7, w32c_8, w32c_9, w32c_10, w32c_11, w32c_12, w32c_13, w32c_14, w32c_m1, w32c_m2, w32c_118, Int.reduceAdd, Int.reduceSub, Int.reduceMul, yput_s, yput_n, znl_n, znl_0, znl_1, znl_4, ysum_n, ysum_0, ysum_1, ysum_4, true_and, and_true, Nat.reduceAdd, Nat.reduceLeDiff, true_implies, eq_self, true_or, or_true, or_false, false_or, not_true_eq_false, not_false_eq_true, false_implies, implies_true, yset_s, yset_o, yset_d, ne_eq, Nat.reduceEqDiff, Int.reduceToNat, Int.reduceEq, Int.reduceLE, Int.reduceLT, Classical.not_not, Nat.reduceLT, ↓zvk_s, ↓zvk_n, ↓s_110_0, ↓s_110_1, ↓s_110_4, ↓s_110_7, ↓s_110_8, ↓s_110_11, ↓s_110_12, ↓s_110_15a, ↓s_110_15b, ↓s_110_16, ↓s_110_17, ↓s_110_18, ↓s_110_19, ↓s_110_22, ↓s_110_25, ↓s_110_26, ↓s_110_29, ↓s_110_32, ↓s_110_33, ↓s_110_36, ↓s_110_37, ↓s_110_40, ↓s_110_41, ↓s_110_44a, ↓s_110_44b, ↓s_110_45, ↓s_110_46, ↓s_110_47, ↓s_110_48, ↓s_110_49, ↓s_110_52, ↓s_110_55, ↓s_110_58, ↓s_110_59, ↓s_110_62, ↓s_110_63, ↓s_110_66, ↓s_110_67, ↓s_110_70a, ↓s_110_70b, ↓s_110_71, ↓s_110_72, ↓s_110_73, ↓s_110_74, ↓s_110_75, ↓s_110_78, ↓s_110_81, ↓s_110_84n, ↓s_110_84i, ↓s_110_84p, ↓s_110_85, ↓s_110_86, ↓s_110_89, ↓s_110_92, ↓s_110_93, ↓s_104_0, ↓s_104_1_3, ↓s_104_1_5, ↓s_104_1_7, ↓s_104_1_9, ↓s_104_1_29, ↓s_104_1_31, ↓s_104_1_33, ↓s_104_1_35, ↓s_104_4, ↓s_104_5_3, ↓s_104_5_5, ↓s_104_5_7, ↓s_104_5_9, ↓s_104_5_29, ↓s_104_5_31, ↓s_104_5_33, ↓s_104_5_35, ↓s_104_8, ↓s_104_9, ↓s_104_12, ↓s_104_13, ↓s_104_16, ↓s_104_17, ↓s_123_0, ↓s_123_1, ↓s_123_4, ↓s_123_7, ↓s_123_8, ↓s_123_9, ↓s_123_12, ↓s_123_13, ↓s_123_14, ↓s_123_17, ↓s_123_20, ↓s_123_21, ↓s_123_22, ↓s_123_25, ↓s_123_26, zio_3, zar_4, zia_4, zln_4, zit_4, zio_5, zar_6, zia_6, zln_6, zit_6, zio_7, zar_8, zia_8, zln_8, zit_8, zio_9, zar_10, zia_10, zln_10, zit_10, zio_29, zar_30, zia_30, zln_30, zit_30, zio_31, zar_32, zia_32, zln_32, zit_32, zio_33, zar_34, zia_34, zln_34, zit_34, zio_35, zar_36, zia_36, zln_36, zit_36, zio_54, zio_55]
  have eC : w32 ((4 : Nat) : Int) = 4 := by decide
  rw [eC]
  refine ⟨fun hlt => g_next hE (by (first | exact Nat.le_of_ble_eq_true rfl | exact (fun h => absurd h.1 (by decide)) | omega)) h (fun m1 F1 T1 => ?_), fun hge => bad mem x 2 2 aFrm_rf hN h (by unfold yBg; rw [if_pos (by (first | exact Nat.le_of_ble_eq_true rfl | exact (fun h => absurd h.1 (by decide)) | omega))]) (by decide) (by decide)⟩
  have W1 : aFrm (cfF ++ [(33, 2), (34, 0)]) mem m1 := aFrm_l F1
  have M1 : cNm m1 33 4 nm := cNm_fr hN (F1 33 1 rfl) (fun j => F1 34 j rfl)
  have b0 : ¬ 4 ≤ nm.length := by (first | exact Nat.le_of_ble_eq_true rfl | exact (fun h => absurd h.1 (by decide)) | omega)
  refine zgk_n hE xmo_110 60 [] ?_
  simp only [ynok_30, ynok_31, w32c_0, w32c_1, w32c_2, w32c_3, w32c_4, w32c_5, w32c_6, w32c_7, w32c_8, w32c_9, w32c_10, w32c_11, w32c_12, w32c_13, w32c_14, w32c_m1, w32c_m2, w32c_118, Int.reduceAdd, Int.reduceSub, Int.reduceMul, yput_s, yput_n, znl_n, znl_0, znl_1, znl_4, ysum_n, ysum_0, ysum_1, ysum_4, true_and, and_true, Nat.reduceAdd, Nat.reduceLeDiff, true_implies, eq_self, true_or, or_true, or_false, false_or, not_true_eq_false, not_false_eq_true, false_implies, implies_true, yset_s, yset_o, yset_d, ne_eq, Nat.reduceEqDiff, Int.reduceToNat, Int.reduceEq, Int.reduceLE, Int.reduceLT, Classical.not_not, Nat.reduceLT, ↓zvk_s, ↓zvk_n, ↓s_110_0, ↓s_110_1, ↓s_110_4, ↓s_110_7, ↓s_110_8, ↓s_110_11, ↓s_110_12, ↓s_110_15a, ↓s_110_15b, ↓s_110_16, ↓s_110_17, ↓s_110_18, ↓s_110_19, ↓s_110_22, ↓s_110_25, ↓s_110_26, ↓s_110_29, ↓s_110_32, ↓s_110_33, ↓s_110_36, ↓s_110_37, ↓s_110_40, ↓s_110_41, ↓s_110_44a, ↓s_110_44b, ↓s_110_45, ↓s_110_46, ↓s_110_47, ↓s_110_48, ↓s_110_49, ↓s_110_52, ↓s_110_55, ↓s_110_58, ↓s_110_59, ↓s_110_62, ↓s_110_63, ↓s_110_66, ↓s_110_67, ↓s_110_70a, ↓s_110_70b, ↓s_110_71, ↓s_110_72, ↓s_110_73, ↓s_110_74, ↓s_110_75, ↓s_110_78, ↓s_110_81, ↓s_110_84n, ↓s_110_84i, ↓s_110_84p, ↓s_110_85, ↓s_110_86, ↓s_110_89, ↓s_110_92, ↓s_110_93, ↓s_104_0, ↓s_104_1_3, ↓s_104_1_5, ↓s_104_1_7, ↓s_104_1_9, ↓s_104_1_29, ↓s_104_1_31, ↓s_104_1_33, ↓s_104_1_35, ↓s_104_4, ↓s_104_5_3, ↓s_104_5_5, ↓s_104_5_7, ↓s_104_5_9, ↓s_104_5_29, ↓s_104_5_31, ↓s_104_5_33, ↓s_104_5_35, ↓s_104_8, ↓s_104_9, ↓s_104_12, ↓s_104_13, ↓s_104_16, ↓s_104_17, ↓s_123_0, ↓s_123_1, ↓s_123_4, ↓s_123_7, ↓s_123_8, ↓s_123_9, ↓s_123_12, ↓s_123_13, ↓s_123_14, ↓s_123_17, ↓s_123_20, ↓s_123_21, ↓s_123_22, ↓s_123_25, ↓s_123_26, zio_3, zar_4, zia_4, zln_4, zit_4, zio_5, zar_6, zia_6, zln_6, zit_6, zio_7, zar_8, zia_8, zln_8, zit_8, zio_9, zar_10, zia_10, zln_10, zit_10, zio_29, zar_30, zia_30, zln_30, zit_30, zio_31, zar_32, zia_32, zln_32, zit_32, zio_33, zar_34, zia_34, zln_34, zit_34, zio_35, zar_36, zia_36, zln_36, zit_36, zio_54, zio_55]
  rw [cTk_kd T1]
  refine ⟨fun hk => g_find_33 hE (by (first | exact Nat.le_of_ble_eq_true rfl | exact (fun h => absurd h.1 (by decide)) | omega)) (by rw [M1.1]; (first | exact Nat.le_of_ble_eq_true rfl | exact (fun h => absurd h.1 (by decide)) | omega)) (by rw [M1.1]; (first | exact Nat.le_of_ble_eq_true rfl | exact (fun h => absurd h.1 (by decide)) | omega)) (fun r hr => ?_), fun hk => bad m1 (yNx x) 1 1 W1 M1 T1 (by unfold yBg; rw [if_neg b0, if_pos (by (first | exact Nat.le_of_ble_eq_true rfl | exact (fun h => absurd h.1 (by decide)) | omega))]) (by decide) (by decide)⟩
  have hk3 : yKd (yNx x) = 3 := by (first | exact Nat.le_of_ble_eq_true rfl | exact (fun h => absurd h.1 (by decide)) | omega)
  have ev := cTk_nm T1 hk3
  rw [cNm_fd M1, ev] at hr
  refine zgk_s hE xmo_110 60 [] ?_
  simp only [ynok_30, ynok_31, w32c_0, w32c_1, w32c_2, w32c_3, w32c_4, w32c_5, w32c_6, w32c_7, w32c_8, w32c_9, w32c_10, w32c_11, w32c_12, w32c_13, w32c_14, w32c_m1, w32c_m2, w32c_118, Int.reduceAdd, Int.reduceSub, Int.reduceMul, yput_s, yput_n, znl_n, znl_0, znl_1, znl_4, ysum_n, ysum_0, ysum_1, ysum_4, true_and, and_true, Nat.reduceAdd, Nat.reduceLeDiff, true_implies, eq_self, true_or, or_true, or_false, false_or, not_true_eq_false, not_false_eq_true, false_implies, implies_true, yset_s, yset_o, yset_d, ne_eq, Nat.reduceEqDiff, Int.reduceToNat, Int.reduceEq, Int.reduceLE, Int.reduceLT, Classical.not_not, Nat.reduceLT, ↓zvk_s, ↓zvk_n, ↓s_110_0, ↓s_110_1, ↓s_110_4, ↓s_110_7, ↓s_110_8, ↓s_110_11, ↓s_110_12, ↓s_110_15a, ↓s_110_15b, ↓s_110_16, ↓s_110_17, ↓s_110_18, ↓s_110_19, ↓s_110_22, ↓s_110_25, ↓s_110_26, ↓s_110_29, ↓s_110_32, ↓s_110_33, ↓s_110_36, ↓s_110_37, ↓s_110_40, ↓s_110_41, ↓s_110_44a, ↓s_110_44b, ↓s_110_45, ↓s_110_46, ↓s_110_47, ↓s_110_48, ↓s_110_49, ↓s_110_52, ↓s_110_55, ↓s_110_58, ↓s_110_59, ↓s_110_62, ↓s_110_63, ↓s_110_66, ↓s_110_67, ↓s_110_70a, ↓s_110_70b, ↓s_110_71, ↓s_110_72, ↓s_110_73, ↓s_110_74, ↓s_110_75, ↓s_110_78, ↓s_110_81, ↓s_110_84n, ↓s_110_84i, ↓s_110_84p, ↓s_110_85, ↓s_110_86, ↓s_110_89, ↓s_110_92, ↓s_110_93, ↓s_104_0, ↓s_104_1_3, ↓s_104_1_5, ↓s_104_1_7, ↓s_104_1_9, ↓s_104_1_29, ↓s_104_1_31, ↓s_104_1_33, ↓s_104_1_35, ↓s_104_4, ↓s_104_5_3, ↓s_104_5_5, ↓s_104_5_7, ↓s_104_5_9, ↓s_104_5_29, ↓s_104_5_31, ↓s_104_5_33, ↓s_104_5_35, ↓s_104_8, ↓s_104_9, ↓s_104_12, ↓s_104_13, ↓s_104_16, ↓s_104_17, ↓s_101_0, ↓s_101_1, ↓s_101_4, ↓s_101_7, ↓s_101_8, ↓s_101_9, ↓s_101_10_3, ↓s_101_10_5, ↓s_101_10_7, ↓s_101_10_9, ↓s_101_10_29, ↓s_101_10_31, ↓s_101_10_33, ↓s_101_10_35, ↓s_101_13, ↓s_101_14_3, ↓s_101_14_5, ↓s_101_14_7, ↓s_101_14_9, ↓s_101_14_29, ↓s_101_14_31, ↓s_101_14_33, ↓s_101_14_35, ↓s_101_17, ↓s_101_18, ↓s_101_19, ↓s_101_20a, ↓s_101_20b, ↓s_101_21_3, ↓s_101_21_5, ↓s_101_21_7, ↓s_101_21_9, ↓s_101_21_29, ↓s_101_21_31, ↓s_101_21_33, ↓s_101_21_35, ↓s_101_24, ↓s_101_25, ↓s_101_26_3, ↓s_101_26_5, ↓s_101_26_7, ↓s_101_26_9, ↓s_101_26_29, ↓s_101_26_31, ↓s_101_26_33, ↓s_101_26_35, ↓s_101_29, ↓s_101_30_3, ↓s_101_30_5, ↓s_101_30_7, ↓s_101_30_9, ↓s_101_30_29, ↓s_101_30_31, ↓s_101_30_33, ↓s_101_30_35, ↓s_101_33, ↓s_101_34, ↓s_101_35, ↓s_123_0, ↓s_123_1, ↓s_123_4, ↓s_123_7, ↓s_123_8, ↓s_123_9, ↓s_123_12, ↓s_123_13, ↓s_123_14, ↓s_123_17, ↓s_123_20, ↓s_123_21, ↓s_123_22, ↓s_123_25, ↓s_123_26, zio_3, zar_4, zia_4, zln_4, zit_4, zio_5, zar_6, zia_6, zln_6, zit_6, zio_7, zar_8, zia_8, zln_8, zit_8, zio_9, zar_10, zia_10, zln_10, zit_10, zio_29, zar_30, zia_30, zln_30, zit_30, zio_31, zar_32, zia_32, zln_32, zit_32, zio_33, zar_34, zia_34, zln_34, zit_34, zio_35, zar_36, zia_36, zln_36, zit_36, zio_54, zio_55]
  rw [hr, eC]
  refine ⟨fun hm => ⟨fun _ => ?_, fun hge => absurd (show w32 (m1 33 1) < 4 by rw [M1.1]; (first | exact Nat.le_of_ble_eq_true rfl | exact (fun h => absurd h.1 (by decide)) | omega)) hge⟩, fun hne => bad m1 (yNx x) 3 3 W1 M1 T1 (by unfold yBg; rw [if_neg b0, if_neg (by (first | exact Nat.le_of_ble_eq_true rfl | exact (fun h => absurd h.1 (by decide)) | omega)), if_pos hne]) (by decide) (by decide)⟩
  have hz := M1.1
  have e1 : w32 (m1 33 1 + 1) = (nm.length : Int) + 1 := by rw [w32_ad (by rw [w32c_1, hz]; (first | exact Nat.le_of_ble_eq_true rfl | exact (fun h => absurd h.1 (by decide)) | omega)) (by rw [w32c_1, hz]; (first | exact Nat.le_of_ble_eq_true rfl | exact (fun h => absurd h.1 (by decide)) | omega)), w32c_1, hz]
  have e2 : w32 (m1 33 1 + 1 - 1) = (nm.length : Int) := by rw [Int.add_sub_cancel]; exact hz
  have et : (w32 (m1 33 1)).toNat = nm.length := by rw [hz]; exact Int.toNat_natCast _
  refine ⟨⟨by (first | exact Nat.le_of_ble_eq_true rfl | exact (fun h => absurd h.1 (by decide)) | omega), by (first | exact Nat.le_of_ble_eq_true rfl | exact (fun h => absurd h.1 (by decide)) | omega)⟩, g_next hE (by (first | exact Nat.le_of_ble_eq_true rfl | exact (fun h => absurd h.1 (by decide)) | omega)) (cTk_of T1 (fun j => by rw [yset_o (by decide), yset_o (by decide)]) (fun j => by rw [yset_o (by decide), yset_o (by decide)]) (fun j => by rw [yset_o (by decide), yset_o (by decide)])) (fun m2 F2 T2 => ?_)⟩
  refine zgk_n hE xmo_110 60 [] ?_
  simp only [ynok_30, ynok_31, w32c_0, w32c_1, w32c_2, w32c_3, w32c_4, w32c_5, w32c_6, w32c_7, w32c_8, w32c_9, w32c_10, w32c_11, w32c_12, w32c_13, w32c_14, w32c_m1, w32c_m2, w32c_118, Int.reduceAdd, Int.reduceSub, Int.reduceMul, yput_s, yput_n, znl_n, znl_0, znl_1, znl_4, ysum_n, ysum_0, ysum_1, ysum_4, true_and, and_true, Nat.reduceAdd, Nat.reduceLeDiff, true_implies, eq_self, true_or, or_true, or_false, false_or, not_true_eq_false, not_false_eq_true, false_implies, implies_true, yset_s, yset_o, yset_d, ne_eq, Nat.reduceEqDiff, Int.reduceToNat, Int.reduceEq, Int.reduceLE, Int.reduceLT, Classical.not_not, Nat.reduceLT, ↓zvk_s, ↓zvk_n, ↓s_110_0, ↓s_110_1, ↓s_110_4, ↓s_110_7, ↓s_110_8, ↓s_110_11, ↓s_110_12, ↓s_110_15a, ↓s_110_15b, ↓s_110_16, ↓s_110_17, ↓s_110_18, ↓s_110_19, ↓s_110_22, ↓s_110_25, ↓s_110_26, ↓s_110_29, ↓s_110_32, ↓s_110_33, ↓s_110_36, ↓s_110_37, ↓s_110_40, ↓s_110_41, ↓s_110_44a, ↓s_110_44b, ↓s_110_45, ↓s_110_46, ↓s_110_47, ↓s_110_48, ↓s_110_49, ↓s_110_52, ↓s_110_55, ↓s_110_58, ↓s_110_59, ↓s_110_62, ↓s_110_63, ↓s_110_66, ↓s_110_67, ↓s_110_70a, ↓s_110_70b, ↓s_110_71, ↓s_110_72, ↓s_110_73, ↓s_110_74, ↓s_110_75, ↓s_110_78, ↓s_110_81, ↓s_110_84n, ↓s_110_84i, ↓s_110_84p, ↓s_110_85, ↓s_110_86, ↓s_110_89, ↓s_110_92, ↓s_110_93, zio_33, zio_3, zio_35, zio_5, zio_7, zio_9, zio_54, zio_55, zio_29, zio_31]
  have yb : yBg nm 4 x = ((nm.length : Int), yNx (yNx x)) := by unfold yBg; rw [if_neg b0, if_neg (by (first | exact Nat.le_of_ble_eq_true rfl | exact (fun h => absurd h.1 (by decide)) | omega)), if_neg (fun z => z hm)]
  refine hQ _ m2 (aFrm_tt (aFrm_tt W1 (aFrm_set (aFrm_set aFrm_rf rfl) rfl)) (aFrm_l F2)) (by rw [yb]; exact e2) (by rw [yb]; exact T2) (fun h => by rw [e2] at h; (first | exact Nat.le_of_ble_eq_true rfl | exact (fun h => absurd h.1 (by decide)) | omega)) (fun _ => ⟨?_, ?_, fun j hj => ?_⟩)
  · rw [F2 33 1 rfl, yset_s, e1, List.length_append]; rfl
  · rw [List.length_append]; show nm.length + 1 ≤ _; (first | exact Nat.le_of_ble_eq_true rfl | exact (fun h => absurd h.1 (by decide)) | omega)
  · rw [List.length_append] at hj
    have hj : j < nm.length + 1 := hj
    show w32 (m2 34 j) = _
    rw [F2 34 j rfl, yset_o (by decide), et, yset_a, if_pos rfl]
    by_cases hjl : j = nm.length
    · rw [if_pos hjl, ev, hjl]
      simp
    · rw [if_neg hjl]
      have := M1.2.2 j (by (first | exact Nat.le_of_ble_eq_true rfl | exact (fun h => absurd h.1 (by decide)) | omega))
      rw [show 33 + 1 = 34 from rfl] at this
      rw [this, List.getD_eq_getElem?_getD, List.getD_eq_getElem?_getD, List.getElem?_append_left (by (first | exact Nat.le_of_ble_eq_true rfl | exact (fun h => absurd h.1 (by decide)) | omega))]
theorem g_begin_35 (hE : yEok E) {D : Nat} (hD : 5 ≤ D) {nm : List Int} (h : cTk ch n mem x) (hN : cNm mem 35 3 nm) (hQ : ∀ r m, aFrm (cfF ++ [(35, 2), (36, 0)]) mem m → w32 r = (yBg nm 3 x).1 → cTk ch n m (yBg nm 3 x).2 → (w32 r = -1 → cNm m 35 3 nm) → (¬ w32 r = -1 → cNm m 35 3 (nm ++ [yVl (yNx x)])) → Q (some (0, r)) m) : yCon E D xm_110 [(1, 54), (1, 35)] mem Q := by
  obtain ⟨d, rfl⟩ := Nat.exists_eq_add_of_le' hD
  refine e_110 ?_
  refine zvc_ok hE 90 [] _ _ _ _ _ _ _ xmo_110 ?_
  have hN1 := hN.1
  have hN2 := hN.2.1
  have bad : ∀ (m : yMem) (y : sY) (f : Nat) (F : Int), aFrm (cfF ++ [(35, 2), (36, 0)]) mem m → cNm m 35 3 nm → cTk ch n m y → yBg nm 3 x = (-1, yFl f y) → w32 F = (f : Int) → f ≠ 0 → (¬ w32 (m 55 7) = 0 → Q (some (0, -1)) (yset m 55 4 0)) ∧ (w32 (m 55 7) = 0 → Q (some (0, -1)) (yset (yset (yset m 55 7 F) 55 8 (m 55 5)) 55 4 0)) := fun m y f F hF hNm hy he hf hf0 => by
    have fin : ∀ m2, aFrm cfF m m2 → cTk ch n m2 (yFl f y) → Q (some (0, -1)) m2 := fun m2 g1 g2 => hQ _ m2 (aFrm_tt hF (aFrm_l g1)) (by rw [he]; exact w32c_m1) (by rw [he]; exact g2) (fun _ => cNm_fr hNm (g1 35 1 rfl) (fun j => g1 36 j rfl)) (fun h => absurd w32c_m1 h)
    exact ⟨fun hz => fin _ (g_fl1 (f := f) hy hz).1 (g_fl1 hy hz).2, fun hz => fin _ (g_fl0 (f := f) hy hf hf0 hz).1 (g_fl0 hy hf hf0 hz).2⟩
  simp only [ynok_30, ynok_31, w32c_0, w32c_1, w32c_2, w32c_3, w32c_4, w32c_5, w32c_6, w32c_7, w32c_8, w32c_9, w32c_10, w32c_11, w32c_12, w32c_13, w32c_14, w32c_m1, w32c_m2, w32c_118, Int.reduceAdd, Int.reduceSub, Int.reduceMul, yput_s, yput_n, znl_n, znl_0, znl_1, znl_4, ysum_n, ysum_0, ysum_1, ysum_4, true_and, and_true, Nat.reduceAdd, Nat.reduceLeDiff, true_implies, eq_self, true_or, or_true, or_false, false_or, not_true_eq_false, not_false_eq_true, false_implies, implies_true, yset_s, yset_o, yset_d, ne_eq, Nat.reduceEqDiff, Int.reduceToNat, Int.reduceEq, Int.reduceLE, Int.reduceLT, Classical.not_not, Nat.reduceLT, ↓zvk_s, ↓zvk_n, ↓s_110_0, ↓s_110_1, ↓s_110_4, ↓s_110_7, ↓s_110_8, ↓s_110_11, ↓s_110_12, ↓s_110_15a, ↓s_110_15b, ↓s_110_16, ↓s_110_17, ↓s_110_18, ↓s_110_19, ↓s_110_22, ↓s_110_25, ↓s_110_26, ↓s_110_29, ↓s_110_32, ↓s_110_33, ↓s_110_36, ↓s_110_37, ↓s_110_40, ↓s_110_41, ↓s_110_44a, ↓s_110_44b, ↓s_110_45, ↓s_110_46, ↓s_110_47, ↓s_110_48, ↓s_110_49, ↓s_110_52, ↓s_110_55, ↓s_110_58, ↓s_110_59, ↓s_110_62, ↓s_110_63, ↓s_110_66, ↓s_110_67, ↓s_110_70a, ↓s_110_70b, ↓s_110_71, ↓s_110_72, ↓s_110_73, ↓s_110_74, ↓s_110_75, ↓s_110_78, ↓s_110_81, ↓s_110_84n, ↓s_110_84i, ↓s_110_84p, ↓s_110_85, ↓s_110_86, ↓s_110_89, ↓s_110_92, ↓s_110_93, ↓s_104_0, ↓s_104_1_3, ↓s_104_1_5, ↓s_104_1_7, ↓s_104_1_9, ↓s_104_1_29, ↓s_104_1_31, ↓s_104_1_33, ↓s_104_1_35, ↓s_104_4, ↓s_104_5_3, ↓s_104_5_5, ↓s_104_5_7, ↓s_104_5_9, ↓s_104_5_29, ↓s_104_5_31, ↓s_104_5_33, ↓s_104_5_35, ↓s_104_8, ↓s_104_9, ↓s_104_12, ↓s_104_13, ↓s_104_16, ↓s_104_17, ↓s_123_0, ↓s_123_1, ↓s_123_4, ↓s_123_7, ↓s_123_8, ↓s_123_9, ↓s_123_12, ↓s_123_13, ↓s_123_14, ↓s_123_17, ↓s_123_20, ↓s_123_21, ↓s_123_22, ↓s_123_25, ↓s_123_26, zio_3, zar_4, zia_4, zln_4, zit_4, zio_5, zar_6, zia_6, zln_6, zit_6, zio_7, zar_8, zia_8, zln_8, zit_8, zio_9, zar_10, zia_10, zln_10, zit_10, zio_29, zar_30, zia_30, zln_30, zit_30, zio_31, zar_32, zia_32, zln_32, zit_32, zio_33, zar_34, zia_34, zln_34, zit_34, zio_35, zar_36, zia_36, zln_36, zit_36, zio_54, zio_55]
  have eC : w32 ((3 : Nat) : Int) = 3 := by decide
  rw [eC]
  refine ⟨fun hlt => g_next hE (by (first | exact Nat.le_of_ble_eq_true rfl | exact (fun h => absurd h.1 (by decide)) | omega)) h (fun m1 F1 T1 => ?_), fun hge => bad mem x 2 2 aFrm_rf hN h (by unfold yBg; rw [if_pos (by (first | exact Nat.le_of_ble_eq_true rfl | exact (fun h => absurd h.1 (by decide)) | omega))]) (by decide) (by decide)⟩
  have W1 : aFrm (cfF ++ [(35, 2), (36, 0)]) mem m1 := aFrm_l F1
  have M1 : cNm m1 35 3 nm := cNm_fr hN (F1 35 1 rfl) (fun j => F1 36 j rfl)
  have b0 : ¬ 3 ≤ nm.length := by (first | exact Nat.le_of_ble_eq_true rfl | exact (fun h => absurd h.1 (by decide)) | omega)
  refine zgk_n hE xmo_110 60 [] ?_
  simp only [ynok_30, ynok_31, w32c_0, w32c_1, w32c_2, w32c_3, w32c_4, w32c_5, w32c_6, w32c_7, w32c_8, w32c_9, w32c_10, w32c_11, w32c_12, w32c_13, w32c_14, w32c_m1, w32c_m2, w32c_118, Int.reduceAdd, Int.reduceSub, Int.reduceMul, yput_s, yput_n, znl_n, znl_0, znl_1, znl_4, ysum_n, ysum_0, ysum_1, ysum_4, true_and, and_true, Nat.reduceAdd, Nat.reduceLeDiff, true_implies, eq_self, true_or, or_true, or_false, false_or, not_true_eq_false, not_false_eq_true, false_implies, implies_true, yset_s, yset_o, yset_d, ne_eq, Nat.reduceEqDiff, Int.reduceToNat, Int.reduceEq, Int.reduceLE, Int.reduceLT, Classical.not_not, Nat.reduceLT, ↓zvk_s, ↓zvk_n, ↓s_110_0, ↓s_110_1, ↓s_110_4, ↓s_110_7, ↓s_110_8, ↓s_110_11, ↓s_110_12, ↓s_110_15a, ↓s_110_15b, ↓s_110_16, ↓s_110_17, ↓s_110_18, ↓s_110_19, ↓s_110_22, ↓s_110_25, ↓s_110_26, ↓s_110_29, ↓s_110_32, ↓s_110_33, ↓s_110_36, ↓s_110_37, ↓s_110_40, ↓s_110_41, ↓s_110_44a, ↓s_110_44b, ↓s_110_45, ↓s_110_46, ↓s_110_47, ↓s_110_48, ↓s_110_49, ↓s_110_52, ↓s_110_55, ↓s_110_58, ↓s_110_59, ↓s_110_62, ↓s_110_63, ↓s_110_66, ↓s_110_67, ↓s_110_70a, ↓s_110_70b, ↓s_110_71, ↓s_110_72, ↓s_110_73, ↓s_110_74, ↓s_110_75, ↓s_110_78, ↓s_110_81, ↓s_110_84n, ↓s_110_84i, ↓s_110_84p, ↓s_110_85, ↓s_110_86, ↓s_110_89, ↓s_110_92, ↓s_110_93, ↓s_104_0, ↓s_104_1_3, ↓s_104_1_5, ↓s_104_1_7, ↓s_104_1_9, ↓s_104_1_29, ↓s_104_1_31, ↓s_104_1_33, ↓s_104_1_35, ↓s_104_4, ↓s_104_5_3, ↓s_104_5_5, ↓s_104_5_7, ↓s_104_5_9, ↓s_104_5_29, ↓s_104_5_31, ↓s_104_5_33, ↓s_104_5_35, ↓s_104_8, ↓s_104_9, ↓s_104_12, ↓s_104_13, ↓s_104_16, ↓s_104_17, ↓s_123_0, ↓s_123_1, ↓s_123_4, ↓s_123_7, ↓s_123_8, ↓s_123_9, ↓s_123_12, ↓s_123_13, ↓s_123_14, ↓s_123_17, ↓s_123_20, ↓s_123_21, ↓s_123_22, ↓s_123_25, ↓s_123_26, zio_3, zar_4, zia_4, zln_4, zit_4, zio_5, zar_6, zia_6, zln_6, zit_6, zio_7, zar_8, zia_8, zln_8, zit_8, zio_9, zar_10, zia_10, zln_10, zit_10, zio_29, zar_30, zia_30, zln_30, zit_30, zio_31, zar_32, zia_32, zln_32, zit_32, zio_33, zar_34, zia_34, zln_34, zit_34, zio_35, zar_36, zia_36, zln_36, zit_36, zio_54, zio_55]
  rw [cTk_kd T1]
  refine ⟨fun hk => g_find_35 hE (by (first | exact Nat.le_of_ble_eq_true rfl | exact (fun h => absurd h.1 (by decide)) | omega)) (by rw [M1.1]; (first | exact Nat.le_of_ble_eq_true rfl | exact (fun h => absurd h.1 (by decide)) | omega)) (by rw [M1.1]; (first | exact Nat.le_of_ble_eq_true rfl | exact (fun h => absurd h.1 (by decide)) | omega)) (fun r hr => ?_), fun hk => bad m1 (yNx x) 1 1 W1 M1 T1 (by unfold yBg; rw [if_neg b0, if_pos (by (first | exact Nat.le_of_ble_eq_true rfl | exact (fun h => absurd h.1 (by decide)) | omega))]) (by decide) (by decide)⟩
  have hk3 : yKd (yNx x) = 3 := by (first | exact Nat.le_of_ble_eq_true rfl | exact (fun h => absurd h.1 (by decide)) | omega)
  have ev := cTk_nm T1 hk3
  rw [cNm_fd M1, ev] at hr
  refine zgk_s hE xmo_110 60 [] ?_
  simp only [ynok_30, ynok_31, w32c_0, w32c_1, w32c_2, w32c_3, w32c_4, w32c_5, w32c_6, w32c_7, w32c_8, w32c_9, w32c_10, w32c_11, w32c_12, w32c_13, w32c_14, w32c_m1, w32c_m2, w32c_118, Int.reduceAdd, Int.reduceSub, Int.reduceMul, yput_s, yput_n, znl_n, znl_0, znl_1, znl_4, ysum_n, ysum_0, ysum_1, ysum_4, true_and, and_true, Nat.reduceAdd, Nat.reduceLeDiff, true_implies, eq_self, true_or, or_true, or_false, false_or, not_true_eq_false, not_false_eq_true, false_implies, implies_true, yset_s, yset_o, yset_d, ne_eq, Nat.reduceEqDiff, Int.reduceToNat, Int.reduceEq, Int.reduceLE, Int.reduceLT, Classical.not_not, Nat.reduceLT, ↓zvk_s, ↓zvk_n, ↓s_110_0, ↓s_110_1, ↓s_110_4, ↓s_110_7, ↓s_110_8, ↓s_110_11, ↓s_110_12, ↓s_110_15a, ↓s_110_15b, ↓s_110_16, ↓s_110_17, ↓s_110_18, ↓s_110_19, ↓s_110_22, ↓s_110_25, ↓s_110_26, ↓s_110_29, ↓s_110_32, ↓s_110_33, ↓s_110_36, ↓s_110_37, ↓s_110_40, ↓s_110_41, ↓s_110_44a, ↓s_110_44b, ↓s_110_45, ↓s_110_46, ↓s_110_47, ↓s_110_48, ↓s_110_49, ↓s_110_52, ↓s_110_55, ↓s_110_58, ↓s_110_59, ↓s_110_62, ↓s_110_63, ↓s_110_66, ↓s_110_67, ↓s_110_70a, ↓s_110_70b, ↓s_110_71, ↓s_110_72, ↓s_110_73, ↓s_110_74, ↓s_110_75, ↓s_110_78, ↓s_110_81, ↓s_110_84n, ↓s_110_84i, ↓s_110_84p, ↓s_110_85, ↓s_110_86, ↓s_110_89, ↓s_110_92, ↓s_110_93, ↓s_104_0, ↓s_104_1_3, ↓s_104_1_5, ↓s_104_1_7, ↓s_104_1_9, ↓s_104_1_29, ↓s_104_1_31, ↓s_104_1_33, ↓s_104_1_35, ↓s_104_4, ↓s_104_5_3, ↓s_104_5_5, ↓s_104_5_7, ↓s_104_5_9, ↓s_104_5_29, ↓s_104_5_31, ↓s_104_5_33, ↓s_104_5_35, ↓s_104_8, ↓s_104_9, ↓s_104_12, ↓s_104_13, ↓s_104_16, ↓s_104_17, ↓s_101_0, ↓s_101_1, ↓s_101_4, ↓s_101_7, ↓s_101_8, ↓s_101_9, ↓s_101_10_3, ↓s_101_10_5, ↓s_101_10_7, ↓s_101_10_9, ↓s_101_10_29, ↓s_101_10_31, ↓s_101_10_33, ↓s_101_10_35, ↓s_101_13, ↓s_101_14_3, ↓s_101_14_5, ↓s_101_14_7, ↓s_101_14_9, ↓s_101_14_29, ↓s_101_14_31, ↓s_101_14_33, ↓s_101_14_35, ↓s_101_17, ↓s_101_18, ↓s_101_19, ↓s_101_20a, ↓s_101_20b, ↓s_101_21_3, ↓s_101_21_5, ↓s_101_21_7, ↓s_101_21_9, ↓s_101_21_29, ↓s_101_21_31, ↓s_101_21_33, ↓s_101_21_35, ↓s_101_24, ↓s_101_25, ↓s_101_26_3, ↓s_101_26_5, ↓s_101_26_7, ↓s_101_26_9, ↓s_101_26_29, ↓s_101_26_31, ↓s_101_26_33, ↓s_101_26_35, ↓s_101_29, ↓s_101_30_3, ↓s_101_30_5, ↓s_101_30_7, ↓s_101_30_9, ↓s_101_30_29, ↓s_101_30_31, ↓s_101_30_33, ↓s_101_30_35, ↓s_101_33, ↓s_101_34, ↓s_101_35, ↓s_123_0, ↓s_123_1, ↓s_123_4, ↓s_123_7, ↓s_123_8, ↓s_123_9, ↓s_123_12, ↓s_123_13, ↓s_123_14, ↓s_123_17, ↓s_123_20, ↓s_123_21, ↓s_123_22, ↓s_123_25, ↓s_123_26, zio_3, zar_4, zia_4, zln_4, zit_4, zio_5, zar_6, zia_6, zln_6, zit_6, zio_7, zar_8, zia_8, zln_8, zit_8, zio_9, zar_10, zia_10, zln_10, zit_10, zio_29, zar_30, zia_30, zln_30, zit_30, zio_31, zar_32, zia_32, zln_32, zit_32, zio_33, zar_34, zia_34, zln_34, zit_34, zio_35, zar_36, zia_36, zln_36, zit_36, zio_54, zio_55]
  rw [hr, eC]
  refine ⟨fun hm => ⟨fun _ => ?_, fun hge => absurd (show w32 (m1 35 1) < 3 by rw [M1.1]; (first | exact Nat.le_of_ble_eq_true rfl | exact (fun h => absurd h.1 (by decide)) | omega)) hge⟩, fun hne => bad m1 (yNx x) 3 3 W1 M1 T1 (by unfold yBg; rw [if_neg b0, if_neg (by (first | exact Nat.le_of_ble_eq_true rfl | exact (fun h => absurd h.1 (by decide)) | omega)), if_pos hne]) (by decide) (by decide)⟩
  have hz := M1.1
  have e1 : w32 (m1 35 1 + 1) = (nm.length : Int) + 1 := by rw [w32_ad (by rw [w32c_1, hz]; (first | exact Nat.le_of_ble_eq_true rfl | exact (fun h => absurd h.1 (by decide)) | omega)) (by rw [w32c_1, hz]; (first | exact Nat.le_of_ble_eq_true rfl | exact (fun h => absurd h.1 (by decide)) | omega)), w32c_1, hz]
  have e2 : w32 (m1 35 1 + 1 - 1) = (nm.length : Int) := by rw [Int.add_sub_cancel]; exact hz
  have et : (w32 (m1 35 1)).toNat = nm.length := by rw [hz]; exact Int.toNat_natCast _
  refine ⟨⟨by (first | exact Nat.le_of_ble_eq_true rfl | exact (fun h => absurd h.1 (by decide)) | omega), by (first | exact Nat.le_of_ble_eq_true rfl | exact (fun h => absurd h.1 (by decide)) | omega)⟩, g_next hE (by (first | exact Nat.le_of_ble_eq_true rfl | exact (fun h => absurd h.1 (by decide)) | omega)) (cTk_of T1 (fun j => by rw [yset_o (by decide), yset_o (by decide)]) (fun j => by rw [yset_o (by decide), yset_o (by decide)]) (fun j => by rw [yset_o (by decide), yset_o (by decide)])) (fun m2 F2 T2 => ?_)⟩
  refine zgk_n hE xmo_110 60 [] ?_
  simp only [ynok_30, ynok_31, w32c_0, w32c_1, w32c_2, w32c_3, w32c_4, w32c_5, w32c_6, w32c_7, w32c_8, w32c_9, w32c_10, w32c_11, w32c_12, w32c_13, w32c_14, w32c_m1, w32c_m2, w32c_118, Int.reduceAdd, Int.reduceSub, Int.reduceMul, yput_s, yput_n, znl_n, znl_0, znl_1, znl_4, ysum_n, ysum_0, ysum_1, ysum_4, true_and, and_true, Nat.reduceAdd, Nat.reduceLeDiff, true_implies, eq_self, true_or, or_true, or_false, false_or, not_true_eq_false, not_false_eq_true, false_implies, implies_true, yset_s, yset_o, yset_d, ne_eq, Nat.reduceEqDiff, Int.reduceToNat, Int.reduceEq, Int.reduceLE, Int.reduceLT, Classical.not_not, Nat.reduceLT, ↓zvk_s, ↓zvk_n, ↓s_110_0, ↓s_110_1, ↓s_110_4, ↓s_110_7, ↓s_110_8, ↓s_110_11, ↓s_110_12, ↓s_110_15a, ↓s_110_15b, ↓s_110_16, ↓s_110_17, ↓s_110_18, ↓s_110_19, ↓s_110_22, ↓s_110_25, ↓s_110_26, ↓s_110_29, ↓s_110_32, ↓s_110_33, ↓s_110_36, ↓s_110_37, ↓s_110_40, ↓s_110_41, ↓s_110_44a, ↓s_110_44b, ↓s_110_45, ↓s_110_46, ↓s_110_47, ↓s_110_48, ↓s_110_49, ↓s_110_52, ↓s_110_55, ↓s_110_58, ↓s_110_59, ↓s_110_62, ↓s_110_63, ↓s_110_66, ↓s_110_67, ↓s_110_70a, ↓s_110_70b, ↓s_110_71, ↓s_110_72, ↓s_110_73, ↓s_110_74, ↓s_110_75, ↓s_110_78, ↓s_110_81, ↓s_110_84n, ↓s_110_84i, ↓s_110_84p, ↓s_110_85, ↓s_110_86, ↓s_110_89, ↓s_110_92, ↓s_110_93, zio_33, zio_3, zio_35, zio_5, zio_7, zio_9, zio_54, zio_55, zio_29, zio_31]
  have yb : yBg nm 3 x = ((nm.length : Int), yNx (yNx x)) := by unfold yBg; rw [if_neg b0, if_neg (by (first | exact Nat.le_of_ble_eq_true rfl | exact (fun h => absurd h.1 (by decide)) | omega)), if_neg (fun z => z hm)]
  refine hQ _ m2 (aFrm_tt (aFrm_tt W1 (aFrm_set (aFrm_set aFrm_rf rfl) rfl)) (aFrm_l F2)) (by rw [yb]; exact e2) (by rw [yb]; exact T2) (fun h => by rw [e2] at h; (first | exact Nat.le_of_ble_eq_true rfl | exact (fun h => absurd h.1 (by decide)) | omega)) (fun _ => ⟨?_, ?_, fun j hj => ?_⟩)
  · rw [F2 35 1 rfl, yset_s, e1, List.length_append]; rfl
  · rw [List.length_append]; show nm.length + 1 ≤ _; (first | exact Nat.le_of_ble_eq_true rfl | exact (fun h => absurd h.1 (by decide)) | omega)
  · rw [List.length_append] at hj
    have hj : j < nm.length + 1 := hj
    show w32 (m2 36 j) = _
    rw [F2 36 j rfl, yset_o (by decide), et, yset_a, if_pos rfl]
    by_cases hjl : j = nm.length
    · rw [if_pos hjl, ev, hjl]
      simp
    · rw [if_neg hjl]
      have := M1.2.2 j (by (first | exact Nat.le_of_ble_eq_true rfl | exact (fun h => absurd h.1 (by decide)) | omega))
      rw [show 35 + 1 = 36 from rfl] at this
      rw [this, List.getD_eq_getElem?_getD, List.getD_eq_getElem?_getD, List.getElem?_append_left (by (first | exact Nat.le_of_ble_eq_true rfl | exact (fun h => absurd h.1 (by decide)) | omega))]
end CI
end
section
theorem s_116_0 {E : yE} {n d : Nat} {mem : yMem} {Post : Option yV → yMem → Prop} {st : List yV} {r1 : Option yV} {x : Int} : zvc E (n + 1) [] d xm_116 0 [some (1, x), r1] (st) mem Post = (zvc E n [] d xm_116 1 [some (1, x), r1] ((1, x) :: st) mem Post) := zrf rfl
theorem s_116_1 {E : yE} {n d : Nat} {mem : yMem} {Post : Option yV → yMem → Prop} {st : List yV} {r1 : Option yV} {x : Int} : zvc E (n + 1) [] d xm_116 1 [some (1, x), r1] (st) mem Post = (zvc E n [] d xm_116 2 [some (1, x), r1] ((1, x) :: st) mem Post) := zrf rfl
theorem s_116_2 {E : yE} {n d : Nat} {mem : yMem} {Post : Option yV → yMem → Prop} {st : List yV} {r0 r1 : Option yV} : zvc E (n + 1) [] d xm_116 2 [r0, r1] ((1, 54) :: st) mem Post = (zvc E n [] d xm_116 5 [r0, r1] ((1, 28) :: st) mem Post) := zrf rfl
theorem s_116_5_2 {E : yE} {n d : Nat} {mem : yMem} {Post : Option yV → yMem → Prop} {st : List yV} {r0 r1 : Option yV} : zvc E (n + 1) [] d xm_116 5 [r0, r1] ((1, 2) :: st) mem Post = (zvc E n [] d xm_116 8 [r0, r1] ((1, 3) :: st) mem Post) := zrf rfl
theorem s_116_5_28 {E : yE} {n d : Nat} {mem : yMem} {Post : Option yV → yMem → Prop} {st : List yV} {r0 r1 : Option yV} : zvc E (n + 1) [] d xm_116 5 [r0, r1] ((1, 28) :: st) mem Post = (zvc E n [] d xm_116 8 [r0, r1] ((1, 29) :: st) mem Post) := zrf rfl
theorem s_116_8 {E : yE} {n d : Nat} {mem : yMem} {Post : Option yV → yMem → Prop} {st : List yV} {r0 r1 : Option yV} {z a0 : Int} : zvc E (n + 1) [] d xm_116 8 [r0, r1] ((1, a0) :: (1, z) :: st) mem Post = (zio z 8 = true ∧ ysum st ≤ 8 ∧ yCon E d xm_110 [(1, z), (1, a0)] mem (fun v mem' => zgk E d xm_116 11 [r0, r1] st v mem' Post)) := zrf rfl
theorem s_116_11n {E : yE} {n d : Nat} {mem : yMem} {Post : Option yV → yMem → Prop} {st : List yV} {r1 : Option yV} {x : Int} : zvc E (n + 1) [] d xm_116 11 [none, r1] ((0, x) :: st) mem Post = (zvc E n [] d xm_116 12 [none, some (0, x)] (st) mem Post) := zrf rfl
theorem s_116_11i {E : yE} {n d : Nat} {mem : yMem} {Post : Option yV → yMem → Prop} {st : List yV} {r1 : Option yV} {x w : Int} : zvc E (n + 1) [] d xm_116 11 [some (0, w), r1] ((0, x) :: st) mem Post = (zvc E n [] d xm_116 12 [some (0, w), some (0, x)] (st) mem Post) := zrf rfl
theorem s_116_11p {E : yE} {n d : Nat} {mem : yMem} {Post : Option yV → yMem → Prop} {st : List yV} {r1 : Option yV} {x w : Int} : zvc E (n + 1) [] d xm_116 11 [some (1, w), r1] ((0, x) :: st) mem Post = (zvc E n [] d xm_116 12 [some (1, w), some (0, x)] (st) mem Post) := zrf rfl
theorem s_116_12 {E : yE} {n d : Nat} {mem : yMem} {Post : Option yV → yMem → Prop} {st : List yV} {r0 : Option yV} {x : Int} : zvc E (n + 1) [] d xm_116 12 [r0, some (0, x)] (st) mem Post = (zvc E n [] d xm_116 13 [r0, some (0, x)] ((0, x) :: st) mem Post) := zrf rfl
theorem s_116_13 {E : yE} {n d : Nat} {mem : yMem} {Post : Option yV → yMem → Prop} {st : List yV} {r0 r1 : Option yV} : zvc E (n + 1) [] d xm_116 13 [r0, r1] (st) mem Post = (zvc E n [] d xm_116 14 [r0, r1] ((0, (-1)) :: st) mem Post) := zrf rfl
theorem s_116_14 {E : yE} {n d : Nat} {mem : yMem} {Post : Option yV → yMem → Prop} {st : List yV} {r0 r1 : Option yV} {x y : Int} : zvc E (n + 1) [] d xm_116 14 [r0, r1] ((0, y) :: (0, x) :: st) mem Post = ((¬ w32 x = w32 y → zvc E n [] d xm_116 18 [r0, r1] (st) mem Post) ∧ (¬ (¬ w32 x = w32 y) → zvc E n [] d xm_116 17 [r0, r1] (st) mem Post)) := zrf rfl
theorem s_116_17 {E : yE} {n d : Nat} {mem : yMem} {Post : Option yV → yMem → Prop} {r0 r1 : Option yV} : zvc E (n + 1) [] d xm_116 17 [r0, r1] ([]) mem Post = (Post none mem) := zrf rfl
theorem s_116_18 {E : yE} {n d : Nat} {mem : yMem} {Post : Option yV → yMem → Prop} {st : List yV} {r1 : Option yV} {x : Int} : zvc E (n + 1) [] d xm_116 18 [some (1, x), r1] (st) mem Post = (zvc E n [] d xm_116 19 [some (1, x), r1] ((1, x) :: st) mem Post) := zrf rfl
theorem s_116_19 {E : yE} {n d : Nat} {mem : yMem} {Post : Option yV → yMem → Prop} {st : List yV} {r0 r1 : Option yV} : zvc E (n + 1) [] d xm_116 19 [r0, r1] ((1, 54) :: st) mem Post = (zvc E n [] d xm_116 22 [r0, r1] ((1, 28) :: st) mem Post) := zrf rfl
theorem s_116_22_2 {E : yE} {n d : Nat} {mem : yMem} {Post : Option yV → yMem → Prop} {st : List yV} {r0 r1 : Option yV} : zvc E (n + 1) [] d xm_116 22 [r0, r1] ((1, 2) :: st) mem Post = (zvc E n [] d xm_116 25 [r0, r1] ((1, 11) :: st) mem Post) := zrf rfl
theorem s_116_22_28 {E : yE} {n d : Nat} {mem : yMem} {Post : Option yV → yMem → Prop} {st : List yV} {r0 r1 : Option yV} : zvc E (n + 1) [] d xm_116 22 [r0, r1] ((1, 28) :: st) mem Post = (zvc E n [] d xm_116 25 [r0, r1] ((1, 37) :: st) mem Post) := zrf rfl
theorem s_116_25 {E : yE} {n d : Nat} {mem : yMem} {Post : Option yV → yMem → Prop} {st : List yV} {r0 : Option yV} {x : Int} : zvc E (n + 1) [] d xm_116 25 [r0, some (0, x)] (st) mem Post = (zvc E n [] d xm_116 26 [r0, some (0, x)] ((0, x) :: st) mem Post) := zrf rfl
theorem s_116_26 {E : yE} {n d : Nat} {mem : yMem} {Post : Option yV → yMem → Prop} {st : List yV} {r1 : Option yV} {x : Int} : zvc E (n + 1) [] d xm_116 26 [some (1, x), r1] (st) mem Post = (zvc E n [] d xm_116 27 [some (1, x), r1] ((1, x) :: st) mem Post) := zrf rfl
theorem s_116_27 {E : yE} {n d : Nat} {mem : yMem} {Post : Option yV → yMem → Prop} {st : List yV} {r0 r1 : Option yV} : zvc E (n + 1) [] d xm_116 27 [r0, r1] (st) mem Post = (zvc E n [] d xm_116 28 [r0, r1] ((0, 0) :: st) mem Post) := zrf rfl
theorem s_116_28 {E : yE} {n d : Nat} {mem : yMem} {Post : Option yV → yMem → Prop} {st : List yV} {r0 r1 : Option yV} : zvc E (n + 1) [] d xm_116 28 [r0, r1] (st) mem Post = (zvc E n [] d xm_116 30 [r0, r1] ((0, 99) :: st) mem Post) := zrf rfl
theorem s_116_30 {E : yE} {n d : Nat} {mem : yMem} {Post : Option yV → yMem → Prop} {st : List yV} {r0 r1 : Option yV} {z a0 a1 : Int} : zvc E (n + 1) [] d xm_116 30 [r0, r1] ((0, a1) :: (0, a0) :: (1, z) :: st) mem Post = (zio z 8 = true ∧ ysum st ≤ 8 ∧ yCon E d xm_112 [(1, z), (0, a0), (0, a1)] mem (fun v mem' => zgk E d xm_116 33 [r0, r1] st v mem' Post)) := zrf rfl
theorem s_116_33 {E : yE} {n d : Nat} {mem : yMem} {Post : Option yV → yMem → Prop} {st : List yV} {r0 r1 : Option yV} {x z j : Int} : zvc E (n + 1) [] d xm_116 33 [r0, r1] ((0, x) :: (0, j) :: (1, z) :: st) mem Post = ((0 ≤ w32 j ∧ w32 j < ((zar z 0 : Nat) : Int)) ∧ zvc E n [] d xm_116 34 [r0, r1] (st) (yset mem z.toNat (w32 j).toNat x) Post) := zrf rfl
theorem s_116_34 {E : yE} {n d : Nat} {mem : yMem} {Post : Option yV → yMem → Prop} {st : List yV} {r1 : Option yV} {x : Int} : zvc E (n + 1) [] d xm_116 34 [some (1, x), r1] (st) mem Post = (zvc E n [] d xm_116 35 [some (1, x), r1] ((1, x) :: st) mem Post) := zrf rfl
theorem s_116_35 {E : yE} {n d : Nat} {mem : yMem} {Post : Option yV → yMem → Prop} {st : List yV} {r0 r1 : Option yV} : zvc E (n + 1) [] d xm_116 35 [r0, r1] ((1, 54) :: st) mem Post = (zvc E n [] d xm_116 38 [r0, r1] ((1, 28) :: st) mem Post) := zrf rfl
theorem s_116_38_2 {E : yE} {n d : Nat} {mem : yMem} {Post : Option yV → yMem → Prop} {st : List yV} {r0 r1 : Option yV} : zvc E (n + 1) [] d xm_116 38 [r0, r1] ((1, 2) :: st) mem Post = (zvc E n [] d xm_116 41 [r0, r1] ((1, 12) :: st) mem Post) := zrf rfl
theorem s_116_38_28 {E : yE} {n d : Nat} {mem : yMem} {Post : Option yV → yMem → Prop} {st : List yV} {r0 r1 : Option yV} : zvc E (n + 1) [] d xm_116 38 [r0, r1] ((1, 28) :: st) mem Post = (zvc E n [] d xm_116 41 [r0, r1] ((1, 38) :: st) mem Post) := zrf rfl
theorem s_116_41 {E : yE} {n d : Nat} {mem : yMem} {Post : Option yV → yMem → Prop} {st : List yV} {r0 : Option yV} {x : Int} : zvc E (n + 1) [] d xm_116 41 [r0, some (0, x)] (st) mem Post = (zvc E n [] d xm_116 42 [r0, some (0, x)] ((0, x) :: st) mem Post) := zrf rfl
theorem s_116_42 {E : yE} {n d : Nat} {mem : yMem} {Post : Option yV → yMem → Prop} {st : List yV} {r1 : Option yV} {x : Int} : zvc E (n + 1) [] d xm_116 42 [some (1, x), r1] (st) mem Post = (zvc E n [] d xm_116 43 [some (1, x), r1] ((1, x) :: st) mem Post) := zrf rfl
theorem s_116_43 {E : yE} {n d : Nat} {mem : yMem} {Post : Option yV → yMem → Prop} {st : List yV} {r0 r1 : Option yV} : zvc E (n + 1) [] d xm_116 43 [r0, r1] (st) mem Post = (zvc E n [] d xm_116 44 [r0, r1] ((0, 0) :: st) mem Post) := zrf rfl
theorem s_116_44 {E : yE} {n d : Nat} {mem : yMem} {Post : Option yV → yMem → Prop} {st : List yV} {r0 r1 : Option yV} : zvc E (n + 1) [] d xm_116 44 [r0, r1] (st) mem Post = (zvc E n [] d xm_116 47 [r0, r1] ((0, 9999) :: st) mem Post) := zrf rfl
theorem s_116_47 {E : yE} {n d : Nat} {mem : yMem} {Post : Option yV → yMem → Prop} {st : List yV} {r0 r1 : Option yV} {z a0 a1 : Int} : zvc E (n + 1) [] d xm_116 47 [r0, r1] ((0, a1) :: (0, a0) :: (1, z) :: st) mem Post = (zio z 8 = true ∧ ysum st ≤ 8 ∧ yCon E d xm_112 [(1, z), (0, a0), (0, a1)] mem (fun v mem' => zgk E d xm_116 50 [r0, r1] st v mem' Post)) := zrf rfl
theorem s_116_50 {E : yE} {n d : Nat} {mem : yMem} {Post : Option yV → yMem → Prop} {st : List yV} {r0 r1 : Option yV} {x z j : Int} : zvc E (n + 1) [] d xm_116 50 [r0, r1] ((0, x) :: (0, j) :: (1, z) :: st) mem Post = ((0 ≤ w32 j ∧ w32 j < ((zar z 0 : Nat) : Int)) ∧ zvc E n [] d xm_116 51 [r0, r1] (st) (yset mem z.toNat (w32 j).toNat x) Post) := zrf rfl
theorem s_116_51 {E : yE} {n d : Nat} {mem : yMem} {Post : Option yV → yMem → Prop} {r0 r1 : Option yV} : zvc E (n + 1) [] d xm_116 51 [r0, r1] ([]) mem Post = (Post none mem) := zrf rfl
theorem e_116 {E : yE} {d : Nat} {mem : yMem} {Q : Option yV → yMem → Prop} {z : Int} (h : zG E d xm_116 0 [some (1, z), none] [] mem Q) : yCon E (d + 1) xm_116 [(1, z)] mem Q := zcon_of xmo_116 (Nat.le_of_ble_eq_true rfl) h

theorem yFl_inl (f : Nat) (x : sY) : ∃ e, yFl f x = .inl e := by
  cases x with
  | inl e => exact ⟨e, rfl⟩
  | inr l => exact ⟨_, rfl⟩
theorem yBg_1 {nm : List Int} {mx : Nat} {x : sY} : ((yBg nm mx x).1 = -1 ∧ ∃ e, (yBg nm mx x).2 = .inl e) ∨ ((yBg nm mx x).1 = (nm.length : Int) ∧ nm.length < mx) := by
  unfold yBg
  by_cases h1 : mx ≤ nm.length
  · rw [if_pos h1]; exact Or.inl ⟨rfl, yFl_inl _ _⟩
  · rw [if_neg h1]
    by_cases h2 : ¬ yKd (yNx x) = 3
    · rw [if_pos h2]; exact Or.inl ⟨rfl, yFl_inl _ _⟩
    · rw [if_neg h2]
      by_cases h3 : ¬ sFd (fun j => nm.getD j 0) (yVl (yNx x)) nm.length 0 = -1
      · rw [if_pos h3]; exact Or.inl ⟨rfl, yFl_inl _ _⟩
      · rw [if_neg h3]; exact Or.inr ⟨rfl, by (first | exact Nat.le_of_ble_eq_true rfl | exact (fun h => absurd h.1 (by decide)) | omega)⟩
/-! TAVERNS: name, rate, till -/
abbrev dTv : Type := List (Int × Int × Int)
def cTv (mem : yMem) (tav : dTv) : Prop := cNm mem 29 3 (tav.map (fun t => t.1)) ∧ ∀ j t, tav[j]? = some t → w32 (mem 37 j) = t.2.1 ∧ w32 (mem 38 j) = t.2.2
def pTv (tav : dTv) (x : sY) : sY × (Int × Int × Int) := if (yBg (tav.map (fun t => t.1)) 3 x).1 = -1 then ((yBg (tav.map (fun t => t.1)) 3 x).2, (0, 0, 0)) else ((yNm 0 9999 (yNm 0 99 (yBg (tav.map (fun t => t.1)) 3 x).2).2).2, (yVl (yNx x), (yNm 0 99 (yBg (tav.map (fun t => t.1)) 3 x).2).1, (yNm 0 9999 (yNm 0 99 (yBg (tav.map (fun t => t.1)) 3 x).2).2).1))
theorem app_get {α : Type} {l : List α} {a t : α} {j : Nat} (h : (l ++ [a])[j]? = some t) : l[j]? = some t ∨ (j = l.length ∧ t = a) := by
  by_cases hj : j < l.length
  · rw [List.getElem?_append_left hj] at h; exact Or.inl h
  · rw [List.getElem?_append_right (by (first | exact Nat.le_of_ble_eq_true rfl | exact (fun h => absurd h.1 (by decide)) | omega))] at h
    have : j - l.length = 0 := by
      have := (List.getElem?_eq_some_iff.mp h).1
      simp at this
      (first | exact Nat.le_of_ble_eq_true rfl | exact (fun h => absurd h.1 (by decide)) | omega)
    rw [this] at h
    simp at h
    exact Or.inr ⟨by (first | exact Nat.le_of_ble_eq_true rfl | exact (fun h => absurd h.1 (by decide)) | omega), h.symm⟩
theorem get_lt {α : Type} {l : List α} {t : α} {j : Nat} (h : l[j]? = some t) : j < l.length := (List.getElem?_eq_some_iff.mp h).1
theorem amod_n55 {i j : Nat} (h : i ≠ 55) : amod cfF i j = false := by
  cases hm : amod cfF i j with
  | false => rfl
  | true =>
    obtain ⟨q, q1, q2, q3⟩ := amod_ex hm
    have : ∀ q ∈ cfF, q.1 = 55 := by decide
    exact absurd ((this q q1).symm.trans q2).symm h
section CJ
variable {E : yE} {mem : yMem} {Q : Option yV → yMem → Prop} {ch : Nat → Int} {n : Nat} {x : sY}
abbrev tvF : List (Nat × Nat) := cfF ++ [(29, 2), (30, 0), (37, 0), (38, 0)]
theorem amod_tv {i j : Nat} (h : amod tvF i j = false) : amod (cfF ++ [(29, 2), (30, 0)]) i j = false := by
  revert h
  simp only [tvF, List.cons_append, List.nil_append, amod, Bool.or_eq_false_iff]
  intro h
  exact ⟨h.1, h.2.1, h.2.2.1, h.2.2.2.1, h.2.2.2.2.1, h.2.2.2.2.2.1, h.2.2.2.2.2.2.1, h.2.2.2.2.2.2.2.1, trivial⟩
theorem g_readTavern (hE : yEok E) {D : Nat} (hD : 6 ≤ D) {tav : dTv} (h : cTk ch n mem x) (hT : cTv mem tav) (hQ : ∀ m, aFrm tvF mem m → cTk ch n m (pTv tav x).1 → (∀ l, (pTv tav x).1 = .inr l → cTv m (tav ++ [(pTv tav x).2])) → Q none m) : yCon E D xm_116 [(1, 54)] mem Q := by
  obtain ⟨d, rfl⟩ := Nat.exists_eq_add_of_le' hD
  refine e_116 ?_
  refine zvc_ok hE 90 [] _ _ _ _ _ _ _ xmo_116 ?_
  simp only [ynok_30, ynok_31, w32c_0, w32c_1, w32c_2, w32c_3, w32c_4, w32c_5, w32c_6, w32c_7, w32c_8, w32c_9, w32c_10, w32c_11, w32c_12, w32c_13, w32c_14, w32c_m1, w32c_m2, w32c_118, Int.reduceAdd, Int.reduceSub, Int.reduceMul, yput_s, yput_n, znl_n, znl_0, znl_1, znl_4, ysum_n, ysum_0, ysum_1, ysum_4, true_and, and_true, Nat.reduceAdd, Nat.reduceLeDiff, true_implies, eq_self, true_or, or_true, or_false, false_or, not_true_eq_false, not_false_eq_true, false_implies, implies_true, yset_s, yset_o, yset_d, ne_eq, Nat.reduceEqDiff, Int.reduceToNat, Int.reduceEq, Int.reduceLE, Int.reduceLT, Classical.not_not, Nat.reduceLT, ↓zvk_s, ↓zvk_n, ↓s_116_0, ↓s_116_1, ↓s_116_2, ↓s_116_5_2, ↓s_116_5_28, ↓s_116_8, ↓s_116_11n, ↓s_116_11i, ↓s_116_11p, ↓s_116_12, ↓s_116_13, ↓s_116_14, ↓s_116_17, ↓s_116_18, ↓s_116_19, ↓s_116_22_2, ↓s_116_22_28, ↓s_116_25, ↓s_116_26, ↓s_116_27, ↓s_116_28, ↓s_116_30, ↓s_116_33, ↓s_116_34, ↓s_116_35, ↓s_116_38_2, ↓s_116_38_28, ↓s_116_41, ↓s_116_42, ↓s_116_43, ↓s_116_44, ↓s_116_47, ↓s_116_50, ↓s_116_51, w32c_99, w32c_9999, zio_2, zio_3, zar_37, zia_37, zln_37, zit_37, zar_38, zia_38, zln_38, zit_38, zar_11, zia_11, zln_11, zit_11, zar_12, zia_12, zln_12, zit_12, zio_54, zio_28, zio_29]
  refine g_begin_29 hE (by (first | exact Nat.le_of_ble_eq_true rfl | exact (fun h => absurd h.1 (by decide)) | omega)) h hT.1 (fun r m1 F1 h1 T1 k1 k2 => ?_)
  have G1 : aFrm tvF mem m1 := fun i j hij => F1 i j (amod_tv hij)
  have hb := yBg_1 (nm := tav.map (fun t => t.1)) (mx := 3) (x := x)
  have hlen : (tav.map (fun t => t.1)).length = tav.length := List.length_map _
  rw [hlen] at hb
  refine zgk_s hE xmo_116 60 [] ?_
  simp only [ynok_30, ynok_31, w32c_0, w32c_1, w32c_2, w32c_3, w32c_4, w32c_5, w32c_6, w32c_7, w32c_8, w32c_9, w32c_10, w32c_11, w32c_12, w32c_13, w32c_14, w32c_m1, w32c_m2, w32c_118, Int.reduceAdd, Int.reduceSub, Int.reduceMul, yput_s, yput_n, znl_n, znl_0, znl_1, znl_4, ysum_n, ysum_0, ysum_1, ysum_4, true_and, and_true, Nat.reduceAdd, Nat.reduceLeDiff, true_implies, eq_self, true_or, or_true, or_false, false_or, not_true_eq_false, not_false_eq_true, false_implies, implies_true, yset_s, yset_o, yset_d, ne_eq, Nat.reduceEqDiff, Int.reduceToNat, Int.reduceEq, Int.reduceLE, Int.reduceLT, Classical.not_not, Nat.reduceLT, ↓zvk_s, ↓zvk_n, ↓s_116_0, ↓s_116_1, ↓s_116_2, ↓s_116_5_2, ↓s_116_5_28, ↓s_116_8, ↓s_116_11n, ↓s_116_11i, ↓s_116_11p, ↓s_116_12, ↓s_116_13, ↓s_116_14, ↓s_116_17, ↓s_116_18, ↓s_116_19, ↓s_116_22_2, ↓s_116_22_28, ↓s_116_25, ↓s_116_26, ↓s_116_27, ↓s_116_28, ↓s_116_30, ↓s_116_33, ↓s_116_34, ↓s_116_35, ↓s_116_38_2, ↓s_116_38_28, ↓s_116_41, ↓s_116_42, ↓s_116_43, ↓s_116_44, ↓s_116_47, ↓s_116_50, ↓s_116_51, w32c_99, w32c_9999, zio_2, zio_3, zar_37, zia_37, zln_37, zit_37, zar_38, zia_38, zln_38, zit_38, zar_11, zia_11, zln_11, zit_11, zar_12, zia_12, zln_12, zit_12, zio_54, zio_28, zio_29]
  refine ⟨fun hr => ?_, fun hr => ?_⟩
  · obtain ⟨hb1, hb2⟩ : (yBg (tav.map (fun t => t.1)) 3 x).1 = (tav.length : Int) ∧ tav.length < 3 := by
      rcases hb with ⟨h0, _⟩ | hb
      · exact absurd (h1.trans h0) hr
      · exact hb
    have hrl : w32 r = (tav.length : Int) := h1.trans hb1
    have hrt : (w32 r).toNat = tav.length := by rw [hrl]; exact Int.toNat_natCast _
    have e0 : ¬ (yBg (tav.map (fun t => t.1)) 3 x).1 = -1 := by (first | exact Nat.le_of_ble_eq_true rfl | exact (fun h => absurd h.1 (by decide)) | omega)
    refine g_number hE (by (first | exact Nat.le_of_ble_eq_true rfl | exact (fun h => absurd h.1 (by decide)) | omega)) T1 (by decide) (by decide) (fun r1 m2 F2 e2 T2 => ?_)
    rw [w32c_0, w32c_99] at e2 T2
    refine zgk_s hE xmo_116 60 [] ?_
    simp only [ynok_30, ynok_31, w32c_0, w32c_1, w32c_2, w32c_3, w32c_4, w32c_5, w32c_6, w32c_7, w32c_8, w32c_9, w32c_10, w32c_11, w32c_12, w32c_13, w32c_14, w32c_m1, w32c_m2, w32c_118, Int.reduceAdd, Int.reduceSub, Int.reduceMul, yput_s, yput_n, znl_n, znl_0, znl_1, znl_4, ysum_n, ysum_0, ysum_1, ysum_4, true_and, and_true, Nat.reduceAdd, Nat.reduceLeDiff, true_implies, eq_self, true_or, or_true, or_false, false_or, not_true_eq_false, not_false_eq_true, false_implies, implies_true, yset_s, yset_o, yset_d, ne_eq, Nat.reduceEqDiff, Int.reduceToNat, Int.reduceEq, Int.reduceLE, Int.reduceLT, Classical.not_not, Nat.reduceLT, ↓zvk_s, ↓zvk_n, ↓s_116_0, ↓s_116_1, ↓s_116_2, ↓s_116_5_2, ↓s_116_5_28, ↓s_116_8, ↓s_116_11n, ↓s_116_11i, ↓s_116_11p, ↓s_116_12, ↓s_116_13, ↓s_116_14, ↓s_116_17, ↓s_116_18, ↓s_116_19, ↓s_116_22_2, ↓s_116_22_28, ↓s_116_25, ↓s_116_26, ↓s_116_27, ↓s_116_28, ↓s_116_30, ↓s_116_33, ↓s_116_34, ↓s_116_35, ↓s_116_38_2, ↓s_116_38_28, ↓s_116_41, ↓s_116_42, ↓s_116_43, ↓s_116_44, ↓s_116_47, ↓s_116_50, ↓s_116_51, w32c_99, w32c_9999, zio_2, zio_3, zar_37, zia_37, zln_37, zit_37, zar_38, zia_38, zln_38, zit_38, zar_11, zia_11, zln_11, zit_11, zar_12, zia_12, zln_12, zit_12, zio_54, zio_28, zio_29]
    refine ⟨⟨by (first | exact Nat.le_of_ble_eq_true rfl | exact (fun h => absurd h.1 (by decide)) | omega), by (first | exact Nat.le_of_ble_eq_true rfl | exact (fun h => absurd h.1 (by decide)) | omega)⟩, g_number hE (by (first | exact Nat.le_of_ble_eq_true rfl | exact (fun h => absurd h.1 (by decide)) | omega)) (cTk_of T2 (fun j => yset_o (by decide)) (fun j => yset_o (by decide)) (fun j => yset_o (by decide))) (by decide) (by decide) (fun r2 m3 F3 e3 T3 => ?_)⟩
    rw [w32c_0, w32c_9999] at e3 T3
    refine zgk_s hE xmo_116 60 [] ?_
    simp only [ynok_30, ynok_31, w32c_0, w32c_1, w32c_2, w32c_3, w32c_4, w32c_5, w32c_6, w32c_7, w32c_8, w32c_9, w32c_10, w32c_11, w32c_12, w32c_13, w32c_14, w32c_m1, w32c_m2, w32c_118, Int.reduceAdd, Int.reduceSub, Int.reduceMul, yput_s, yput_n, znl_n, znl_0, znl_1, znl_4, ysum_n, ysum_0, ysum_1, ysum_4, true_and, and_true, Nat.reduceAdd, Nat.reduceLeDiff, true_implies, eq_self, true_or, or_true, or_false, false_or, not_true_eq_false, not_false_eq_true, false_implies, implies_true, yset_s, yset_o, yset_d, ne_eq, Nat.reduceEqDiff, Int.reduceToNat, Int.reduceEq, Int.reduceLE, Int.reduceLT, Classical.not_not, Nat.reduceLT, ↓zvk_s, ↓zvk_n, ↓s_116_0, ↓s_116_1, ↓s_116_2, ↓s_116_5_2, ↓s_116_5_28, ↓s_116_8, ↓s_116_11n, ↓s_116_11i, ↓s_116_11p, ↓s_116_12, ↓s_116_13, ↓s_116_14, ↓s_116_17, ↓s_116_18, ↓s_116_19, ↓s_116_22_2, ↓s_116_22_28, ↓s_116_25, ↓s_116_26, ↓s_116_27, ↓s_116_28, ↓s_116_30, ↓s_116_33, ↓s_116_34, ↓s_116_35, ↓s_116_38_2, ↓s_116_38_28, ↓s_116_41, ↓s_116_42, ↓s_116_43, ↓s_116_44, ↓s_116_47, ↓s_116_50, ↓s_116_51, w32c_99, w32c_9999, zio_2, zio_3, zar_37, zia_37, zln_37, zit_37, zar_38, zia_38, zln_38, zit_38, zar_11, zia_11, zln_11, zit_11, zar_12, zia_12, zln_12, zit_12, zio_54, zio_28, zio_29]
    refine ⟨⟨by (first | exact Nat.le_of_ble_eq_true rfl | exact (fun h => absurd h.1 (by decide)) | omega), by (first | exact Nat.le_of_ble_eq_true rfl | exact (fun h => absurd h.1 (by decide)) | omega)⟩, ?_⟩
    have ep : pTv tav x = ((yNm 0 9999 (yNm 0 99 (yBg (tav.map (fun t => t.1)) 3 x).2).2).2, (yVl (yNx x), (yNm 0 99 (yBg (tav.map (fun t => t.1)) 3 x).2).1, (yNm 0 9999 (yNm 0 99 (yBg (tav.map (fun t => t.1)) 3 x).2).2).1)) := by unfold pTv; rw [if_neg e0]
    have a1 : ∀ i j, i ≠ 37 → i ≠ 38 → i ≠ 55 → yset m3 38 (w32 r).toNat r2 i j = m1 i j := fun i j q1 q2 q3 => by
      rw [yset_o q2, F3 i j (amod_n55 q3), yset_o q1, F2 i j (amod_n55 q3)]
    refine hQ _ (aFrm_tt (aFrm_tt (aFrm_tt (aFrm_tt G1 (aFrm_l F2)) (aFrm_set aFrm_rf rfl)) (aFrm_l F3)) (aFrm_set aFrm_rf rfl)) (by rw [ep]; exact cTk_of T3 (fun j => yset_o (by decide)) (fun j => yset_o (by decide)) (fun j => yset_o (by decide))) (fun l _ => ⟨?_, fun j t ht => ?_⟩)
    · rw [ep, List.map_append]
      exact cNm_fr (k2 hr) (a1 29 1 (by decide) (by decide) (by decide)) (fun j => a1 30 j (by decide) (by decide) (by decide))
    · rw [ep] at ht
      have v37 : ∀ j, yset m3 38 (w32 r).toNat r2 37 j = if j = tav.length then r1 else mem 37 j := fun j => by
        rw [yset_o (by decide), F3 37 j rfl, yset_a, if_pos rfl, hrt, F2 37 j rfl, F1 37 j rfl]
      have v38 : ∀ j, yset m3 38 (w32 r).toNat r2 38 j = if j = tav.length then r2 else mem 38 j := fun j => by
        rw [yset_a, if_pos rfl, hrt, F3 38 j rfl, yset_o (by decide), F2 38 j rfl, F1 38 j rfl]
      rw [v37, v38]
      rcases app_get ht with ht | ⟨hj, rfl⟩
      · have hj := get_lt ht
        rw [if_neg (by (first | exact Nat.le_of_ble_eq_true rfl | exact (fun h => absurd h.1 (by decide)) | omega)), if_neg (by (first | exact Nat.le_of_ble_eq_true rfl | exact (fun h => absurd h.1 (by decide)) | omega))]
        exact hT.2 j t ht
      · rw [if_pos hj, if_pos hj]
        exact ⟨e2, e3⟩
  · have e0 : (yBg (tav.map (fun t => t.1)) 3 x).1 = -1 := by rw [← h1]; exact hr
    have ep : pTv tav x = ((yBg (tav.map (fun t => t.1)) 3 x).2, (0, 0, 0)) := by unfold pTv; rw [if_pos e0]
    refine hQ m1 G1 (by rw [ep]; exact T1) (fun l hl => ?_)
    rcases hb with ⟨_, e, he⟩ | ⟨hb, _⟩
    · rw [ep] at hl
      rw [he] at hl
      cases hl
    · (first | exact Nat.le_of_ble_eq_true rfl | exact (fun h => absurd h.1 (by decide)) | omega)
end CJ
end
