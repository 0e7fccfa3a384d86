/-! easter and sold, the class's side -/
section CE
variable {E : yE} {mem : yMem} {Q : Option yV → yMem → Prop} {D : dDc} {W : dU} {k K : Nat} {MK V A : Int}
/-- the mask's bound, as the class reckons it -/
theorem mk_c (h : cDh mem D) : w32 (ybin 6 1 (mem 7 1)) = ((2 ^ D.2.2.1.length : Nat) : Int) := by
  obtain ⟨-, -, ⟨n3, n3'⟩, -⟩ := cTb_n h
  have h2 : 2 ^ D.2.2.1.length ≤ 2 ^ 4 := Nat.pow_le_pow_right (by decide) n3'
  rw [yb_shl (x := 1) (a := 1) (s := D.2.2.1.length) w32c_1 n3 (by omega) (by omega), Nat.one_mul]
theorem sMk_lt (h : D.2.2.1.length ≤ 4) {M : Int} (c : sMk D M) : M.toNat < 16 := by
  have h2 : 2 ^ D.2.2.1.length ≤ 2 ^ 4 := Nat.pow_le_pow_right (by decide) h
  unfold sMk at c
  omega
theorem x_eas_l (hE : yEok E) {d : Nat} (hW : cW mem 57 W) (h : cDh mem D) (hK : w32 MK = (K : Int)) (hM : sMk D (w32 MK)) {T : Int} (hT : w32 T = sHt D W K D.2.2.1.length) (hQ : ∀ m, sEas D W (w32 MK) (w32 T) (uEa D W K) → cW m 57 (uEa D W K) → Q (some (0, T)) m) : ∀ (c i : Nat) (I : Int) (m : yMem), D.2.2.2.1.length - i = c → i ≤ D.2.2.2.1.length → w32 I = (i : Int) → (∀ a b, a < 73 → a ≠ 60 → m a b = mem a b) → (∀ b, b < 3 → w32 (m 90 b) = sHp D W K D.2.2.1.length b) → (∀ b, b < 3 → w32 (m 60 b) = if b < i then sHp D W K D.2.2.1.length b else uB W b) → zG E (d + 11) xm_11 24 [some (1, 0), some (0, MK), some (0, T), some (0, I)] [] m Q := by
  obtain ⟨c1, c2, c3, c4, c5, c6, c7, c8, c9, c10, c11, c12⟩ := hW
  obtain ⟨⟨n1, n1'⟩, ⟨n2, n2'⟩, ⟨n3, n3'⟩, n4, n4'⟩ := cTb_n h
  intro c
  induction c with
  | zero =>
    intro i I m hc hi hI F g1 g2
    have e0 : i = D.2.2.2.1.length := by omega
    have e9 : m 9 1 = mem 9 1 := F 9 1 (by decide) (by decide)
    subst e0
    refine zgo_ok (n := 90) hE xmo_11 (cs := zc_11) ?_
    simp only [ynok_30, ynok_31, w32c_0, w32c_1, w32c_2, w32c_3, w32c_4, w32c_5, w32c_6, w32c_7, w32c_8, w32c_9, w32c_10, w32c_11, w32c_12, w32c_13, w32c_14, w32c_m1, w32c_m2, w32c_118, Int.reduceAdd, Int.reduceSub, Int.reduceMul, yput_s, yput_n, znl_n, znl_0, znl_1, znl_4, ysum_n, ysum_0, ysum_1, ysum_4, true_and, and_true, Nat.reduceAdd, Nat.reduceLeDiff, true_implies, eq_self, true_or, or_true, or_false, false_or, not_true_eq_false, not_false_eq_true, false_implies, implies_true, yset_s, yset_o, yset_d, ne_eq, Nat.reduceEqDiff, Int.reduceToNat, Int.reduceEq, Int.reduceLE, Int.reduceLT, Classical.not_not, Nat.reduceLT, ↓zvk_s, ↓zvk_n, ↓s_11_0, ↓s_11_1, ↓s_11_4, ↓s_11_5, ↓s_11_8, ↓s_11_11, ↓s_11_12, ↓s_11_13, ↓s_11_14, ↓s_11_17, ↓s_11_18, ↓s_11_21n, ↓s_11_21i, ↓s_11_21p, ↓s_11_22, ↓s_11_23n, ↓s_11_23i, ↓s_11_23p, ↓g_11_24, ↓k_11_24, ↓s_11_25, ↓s_11_26, ↓s_11_29_2, ↓s_11_29_28, ↓s_11_32_3, ↓s_11_32_5, ↓s_11_32_7, ↓s_11_32_9, ↓s_11_32_29, ↓s_11_32_31, ↓s_11_32_33, ↓s_11_32_35, ↓s_11_35, ↓s_11_38, ↓s_11_39, ↓s_11_42_57, ↓s_11_42_64, ↓s_11_45, ↓s_11_46, ↓s_11_47, ↓s_11_50, ↓s_11_53, ↓s_11_54, ↓s_11_55, ↓s_11_56n, ↓s_11_56i, ↓s_11_56p, ↓s_11_59, ↓s_11_62, ↓s_11_63, ↓s_11_66a, ↓s_11_66b, ↓s_11_67_57, ↓s_11_67_64, ↓s_11_70, ↓s_11_71, ↓s_11_72_57, ↓s_11_72_64, ↓s_11_75, ↓s_11_76, zio_0, zio_64, zio_2, zio_3, zar_67, zia_67, zln_67, zit_67, zio_5, zio_7, zio_9, zio_87, zar_90, zia_90, zln_90, zit_90, zio_28, zio_29, zio_31, zio_33, zio_35, zio_57, zar_60, zia_60, zln_60, zit_60, e9]
    refine ⟨fun _ => ?_, fun hh => absurd (show w32 (mem 9 1) ≤ w32 I by omega) hh⟩
    have tK : (w32 MK).toNat = K := by omega
    refine hQ _ ⟨fun _ => ⟨by rw [tK]; exact hT, by rw [tK]⟩, fun z => absurd hM z⟩ ⟨fun j hj => ?_, fun j hj => ?_, fun j hj => ?_, fun j hj => ?_, fun j hj => ?_, fun j hj => ?_, ?_, ?_, ?_, ?_, ?_, ?_⟩
    · rw [ysn (by omega), F 58 j (by omega) (by omega)]; exact c1 j hj
    · rw [ysn (by omega), F 59 j (by omega) (by omega)]; exact c2 j hj
    · rw [ysn (by omega)]; exact g2 j hj
    · rw [ysn (by omega), F 61 j (by omega) (by omega)]; exact c4 j hj
    · rw [ysn (by omega), F 62 j (by omega) (by omega)]; exact c5 j hj
    · rw [ysn (by omega), F 63 j (by omega) (by omega)]; exact c6 j hj
    · rw [ysn (by omega), F 57 6 (by omega) (by omega)]; exact c7
    · rw [ysn (by omega), F 57 7 (by omega) (by omega)]; exact c8
    · rw [yset_s, w32_add, F 57 8 (by omega) (by omega), c9, hT]; rfl
    · rw [ysn (by omega), F 57 9 (by omega) (by omega)]; exact c10
    · rw [ysn (by omega), F 57 10 (by omega) (by omega)]; exact c11
    · rw [ysn (by omega), F 57 12 (by omega) (by omega)]; exact c12
  | succ c ih =>
    intro i I m hc hi hI F g1 g2
    have e9 : m 9 1 = mem 9 1 := F 9 1 (by decide) (by decide)
    have e1 := w32_s1 hI (by omega)
    have It := w32_t hI
    refine zgo_ok (n := 90) hE xmo_11 (cs := zc_11) ?_
    simp only [ynok_30, ynok_31, w32c_0, w32c_1, w32c_2, w32c_3, w32c_4, w32c_5, w32c_6, w32c_7, w32c_8, w32c_9, w32c_10, w32c_11, w32c_12, w32c_13, w32c_14, w32c_m1, w32c_m2, w32c_118, Int.reduceAdd, Int.reduceSub, Int.reduceMul, yput_s, yput_n, znl_n, znl_0, znl_1, znl_4, ysum_n, ysum_0, ysum_1, ysum_4, true_and, and_true, Nat.reduceAdd, Nat.reduceLeDiff, true_implies, eq_self, true_or, or_true, or_false, false_or, not_true_eq_false, not_false_eq_true, false_implies, implies_true, yset_s, yset_o, yset_d, ne_eq, Nat.reduceEqDiff, Int.reduceToNat, Int.reduceEq, Int.reduceLE, Int.reduceLT, Classical.not_not, Nat.reduceLT, ↓zvk_s, ↓zvk_n, ↓s_11_0, ↓s_11_1, ↓s_11_4, ↓s_11_5, ↓s_11_8, ↓s_11_11, ↓s_11_12, ↓s_11_13, ↓s_11_14, ↓s_11_17, ↓s_11_18, ↓s_11_21n, ↓s_11_21i, ↓s_11_21p, ↓s_11_22, ↓s_11_23n, ↓s_11_23i, ↓s_11_23p, ↓g_11_24, ↓k_11_24, ↓s_11_25, ↓s_11_26, ↓s_11_29_2, ↓s_11_29_28, ↓s_11_32_3, ↓s_11_32_5, ↓s_11_32_7, ↓s_11_32_9, ↓s_11_32_29, ↓s_11_32_31, ↓s_11_32_33, ↓s_11_32_35, ↓s_11_35, ↓s_11_38, ↓s_11_39, ↓s_11_42_57, ↓s_11_42_64, ↓s_11_45, ↓s_11_46, ↓s_11_47, ↓s_11_50, ↓s_11_53, ↓s_11_54, ↓s_11_55, ↓s_11_56n, ↓s_11_56i, ↓s_11_56p, ↓s_11_59, ↓s_11_62, ↓s_11_63, ↓s_11_66a, ↓s_11_66b, ↓s_11_67_57, ↓s_11_67_64, ↓s_11_70, ↓s_11_71, ↓s_11_72_57, ↓s_11_72_64, ↓s_11_75, ↓s_11_76, zio_0, zio_64, zio_2, zio_3, zar_67, zia_67, zln_67, zit_67, zio_5, zio_7, zio_9, zio_87, zar_90, zia_90, zln_90, zit_90, zio_28, zio_29, zio_31, zio_33, zio_35, zio_57, zar_60, zia_60, zln_60, zit_60, e9, It]
    refine ⟨fun hh => absurd hh (by omega), fun _ => ⟨⟨by omega, by omega⟩, ⟨by omega, by omega⟩, ih (i + 1) (I + 1) _ (by omega) (by omega) e1 (fun a b i1 i2 => by rw [ysn (by omega)]; exact F a b i1 i2) (fun b hb => by rw [ysn (by omega)]; exact g1 b hb) (fun b hb => ?_)⟩⟩
    by_cases e : b = i
    · rw [e, yset_s, if_pos (Nat.lt_succ_self i)]
      exact g1 i (by omega)
    · rw [yset_d e, g2 b hb]
      by_cases e2 : b < i
      · rw [if_pos e2, if_pos (by omega)]
      · rw [if_neg e2, if_neg (by omega)]
theorem x_easter (hE : yEok E) {D0 : Nat} (hD : 12 ≤ D0) (hW : cW mem 57 W) (h : cDh mem D) (hk : dOk D) (hQ : ∀ r m W', sEas D W (w32 MK) (w32 r) W' → cW m 57 W' → Q (some (0, r)) m) : yCon E D0 xm_11 [(1, 0), (0, MK)] mem Q := by
  obtain ⟨d, rfl⟩ := Nat.exists_eq_add_of_le' hD
  obtain ⟨-, -, ⟨n3, n3'⟩, n4, n4'⟩ := cTb_n h
  have mk := mk_c h
  have bad : ¬ sMk D (w32 MK) → Q (some (0, -1)) mem := fun z => hQ _ mem W ⟨fun c => absurd c z, fun _ => ⟨w32c_m1, rfl⟩⟩ hW
  refine e_11 ?_
  refine zvc_ok hE 90 zc_11 _ _ _ _ _ _ _ xmo_11 ?_
  simp only [ynok_30, ynok_31, w32c_0, w32c_1, w32c_2, w32c_3, w32c_4, w32c_5, w32c_6, w32c_7, w32c_8, w32c_9, w32c_10, w32c_11, w32c_12, w32c_13, w32c_14, w32c_m1, w32c_m2, w32c_118, Int.reduceAdd, Int.reduceSub, Int.reduceMul, yput_s, yput_n, znl_n, znl_0, znl_1, znl_4, ysum_n, ysum_0, ysum_1, ysum_4, true_and, and_true, Nat.reduceAdd, Nat.reduceLeDiff, true_implies, eq_self, true_or, or_true, or_false, false_or, not_true_eq_false, not_false_eq_true, false_implies, implies_true, yset_s, yset_o, yset_d, ne_eq, Nat.reduceEqDiff, Int.reduceToNat, Int.reduceEq, Int.reduceLE, Int.reduceLT, Classical.not_not, Nat.reduceLT, ↓zvk_s, ↓zvk_n, ↓s_11_0, ↓s_11_1, ↓s_11_4, ↓s_11_5, ↓s_11_8, ↓s_11_11, ↓s_11_12, ↓s_11_13, ↓s_11_14, ↓s_11_17, ↓s_11_18, ↓s_11_21n, ↓s_11_21i, ↓s_11_21p, ↓s_11_22, ↓s_11_23n, ↓s_11_23i, ↓s_11_23p, ↓g_11_24, ↓k_11_24, ↓s_11_25, ↓s_11_26, ↓s_11_29_2, ↓s_11_29_28, ↓s_11_32_3, ↓s_11_32_5, ↓s_11_32_7, ↓s_11_32_9, ↓s_11_32_29, ↓s_11_32_31, ↓s_11_32_33, ↓s_11_32_35, ↓s_11_35, ↓s_11_38, ↓s_11_39, ↓s_11_42_57, ↓s_11_42_64, ↓s_11_45, ↓s_11_46, ↓s_11_47, ↓s_11_50, ↓s_11_53, ↓s_11_54, ↓s_11_55, ↓s_11_56n, ↓s_11_56i, ↓s_11_56p, ↓s_11_59, ↓s_11_62, ↓s_11_63, ↓s_11_66a, ↓s_11_66b, ↓s_11_67_57, ↓s_11_67_64, ↓s_11_70, ↓s_11_71, ↓s_11_72_57, ↓s_11_72_64, ↓s_11_75, ↓s_11_76, ↓s_79_0, ↓s_79_1, ↓s_79_4, ↓s_79_5, ↓s_79_6, ↓s_79_7_2, ↓s_79_7_28, ↓s_79_10_3, ↓s_79_10_5, ↓s_79_10_7, ↓s_79_10_9, ↓s_79_10_29, ↓s_79_10_31, ↓s_79_10_33, ↓s_79_10_35, ↓s_79_13, ↓s_79_14, ↓s_79_17, ↓s_79_18, ↓s_79_21, ↓s_79_22, zio_0, zio_64, zio_2, zio_3, zar_67, zia_67, zln_67, zit_67, zio_5, zio_7, zio_9, zio_87, zar_90, zia_90, zln_90, zit_90, zio_28, zio_29, zio_31, zio_33, zio_35, zio_57, zar_60, zia_60, zln_60, zit_60, mk]
  refine ⟨fun z => bad (fun c => by have := c.1; omega), fun z1 => ⟨fun z => bad (fun c => by have := c.2; omega), fun z2 => ?_⟩⟩
  have hM : sMk D (w32 MK) := ⟨by omega, by omega⟩
  have lt := sMk_lt n3' hM
  refine x_hold hE (by omega) hW h hk (K := (w32 MK).toNat) (by omega) lt (fun r m F p90 _ hr => ?_)
  refine zgk_s hE xmo_11 90 zc_11 ?_
  simp only [ynok_30, ynok_31, w32c_0, w32c_1, w32c_2, w32c_3, w32c_4, w32c_5, w32c_6, w32c_7, w32c_8, w32c_9, w32c_10, w32c_11, w32c_12, w32c_13, w32c_14, w32c_m1, w32c_m2, w32c_118, Int.reduceAdd, Int.reduceSub, Int.reduceMul, yput_s, yput_n, znl_n, znl_0, znl_1, znl_4, ysum_n, ysum_0, ysum_1, ysum_4, true_and, and_true, Nat.reduceAdd, Nat.reduceLeDiff, true_implies, eq_self, true_or, or_true, or_false, false_or, not_true_eq_false, not_false_eq_true, false_implies, implies_true, yset_s, yset_o, yset_d, ne_eq, Nat.reduceEqDiff, Int.reduceToNat, Int.reduceEq, Int.reduceLE, Int.reduceLT, Classical.not_not, Nat.reduceLT, ↓zvk_s, ↓zvk_n, ↓s_11_0, ↓s_11_1, ↓s_11_4, ↓s_11_5, ↓s_11_8, ↓s_11_11, ↓s_11_12, ↓s_11_13, ↓s_11_14, ↓s_11_17, ↓s_11_18, ↓s_11_21n, ↓s_11_21i, ↓s_11_21p, ↓s_11_22, ↓s_11_23n, ↓s_11_23i, ↓s_11_23p, ↓g_11_24, ↓k_11_24, ↓s_11_25, ↓s_11_26, ↓s_11_29_2, ↓s_11_29_28, ↓s_11_32_3, ↓s_11_32_5, ↓s_11_32_7, ↓s_11_32_9, ↓s_11_32_29, ↓s_11_32_31, ↓s_11_32_33, ↓s_11_32_35, ↓s_11_35, ↓s_11_38, ↓s_11_39, ↓s_11_42_57, ↓s_11_42_64, ↓s_11_45, ↓s_11_46, ↓s_11_47, ↓s_11_50, ↓s_11_53, ↓s_11_54, ↓s_11_55, ↓s_11_56n, ↓s_11_56i, ↓s_11_56p, ↓s_11_59, ↓s_11_62, ↓s_11_63, ↓s_11_66a, ↓s_11_66b, ↓s_11_67_57, ↓s_11_67_64, ↓s_11_70, ↓s_11_71, ↓s_11_72_57, ↓s_11_72_64, ↓s_11_75, ↓s_11_76, zio_0, zio_64, zio_2, zio_3, zar_67, zia_67, zln_67, zit_67, zio_5, zio_7, zio_9, zio_87, zar_90, zia_90, zln_90, zit_90, zio_28, zio_29, zio_31, zio_33, zio_35, zio_57, zar_60, zia_60, zln_60, zit_60]
  exact x_eas_l hE hW h (K := (w32 MK).toNat) (by omega) hM hr (fun m s w => hQ r m _ s w) _ 0 0 m rfl (Nat.zero_le _) w32c_0 (fun a b i1 _ => F a b (Or.inl i1)) p90 (fun b hb => by rw [F 60 b (Or.inl (by decide)), if_neg (Nat.not_lt_zero _)]; exact hW.2.2.1 b hb)
theorem x_sold (hE : yEok E) {D0 : Nat} (hD : 12 ≤ D0) (hW : cW mem 57 W) (h : cDh mem D) (hk : dOk D) (hQ : ∀ r m, sSld D W (w32 MK) (w32 V) (w32 A) (w32 r) → cW m 57 W → Q (some (0, r)) m) : yCon E D0 xm_35 [(1, 0), (0, MK), (0, V), (0, A)] mem Q := by
  obtain ⟨d, rfl⟩ := Nat.exists_eq_add_of_le' hD
  obtain ⟨-, -, ⟨n3, n3'⟩, n4, n4'⟩ := cTb_n h
  have mk := mk_c h
  have bad : ¬ sScm D (w32 MK) (w32 V) (w32 A) → Q (some (0, -1)) mem := fun z => hQ _ mem ⟨fun c => absurd c z, fun _ => w32c_m1⟩ hW
  refine e_35 ?_
  refine zvc_ok hE 90 [] _ _ _ _ _ _ _ xmo_35 ?_
  simp only [ynok_30, ynok_31, w32c_0, w32c_1, w32c_2, w32c_3, w32c_4, w32c_5, w32c_6, w32c_7, w32c_8, w32c_9, w32c_10, w32c_11, w32c_12, w32c_13, w32c_14, w32c_m1, w32c_m2, w32c_118, Int.reduceAdd, Int.reduceSub, Int.reduceMul, yput_s, yput_n, znl_n, znl_0, znl_1, znl_4, ysum_n, ysum_0, ysum_1, ysum_4, true_and, and_true, Nat.reduceAdd, Nat.reduceLeDiff, true_implies, eq_self, true_or, or_true, or_false, false_or, not_true_eq_false, not_false_eq_true, false_implies, implies_true, yset_s, yset_o, yset_d, ne_eq, Nat.reduceEqDiff, Int.reduceToNat, Int.reduceEq, Int.reduceLE, Int.reduceLT, Classical.not_not, Nat.reduceLT, ↓zvk_s, ↓zvk_n, ↓s_35_0, ↓s_35_1, ↓s_35_4, ↓s_35_5, ↓s_35_8, ↓s_35_11, ↓s_35_12, ↓s_35_15_2, ↓s_35_15_28, ↓s_35_18, ↓s_35_19, ↓s_35_22, ↓s_35_25, ↓s_35_26, ↓s_35_29, ↓s_35_30, ↓s_35_31, ↓s_35_34, ↓s_35_35, ↓s_35_36, ↓s_35_37, ↓s_35_38, ↓s_35_39, ↓s_35_40, ↓s_35_41, ↓s_35_44, ↓s_35_45, ↓s_35_46, ↓s_35_47, ↓s_35_50, ↓s_35_51, ↓s_35_54a, ↓s_35_54b, ↓s_35_55, ↓s_35_56, ↓s_35_57, ↓s_35_60, ↓s_35_61, ↓s_35_64, ↓s_35_67, ↓s_35_68, ↓s_35_69, ↓s_35_70, ↓s_35_71, ↓s_35_74, ↓s_35_77, ↓s_35_78, ↓s_35_79, ↓s_35_80, ↓s_35_83, ↓s_35_85, ↓s_35_88, ↓s_35_89, ↓s_35_92, ↓s_35_95, ↓s_35_96, ↓s_35_97, ↓s_79_0, ↓s_79_1, ↓s_79_4, ↓s_79_5, ↓s_79_6, ↓s_79_7_2, ↓s_79_7_28, ↓s_79_10_3, ↓s_79_10_5, ↓s_79_10_7, ↓s_79_10_9, ↓s_79_10_29, ↓s_79_10_31, ↓s_79_10_33, ↓s_79_10_35, ↓s_79_13, ↓s_79_14, ↓s_79_17, ↓s_79_18, ↓s_79_21, ↓s_79_22, ↓s_103_0, ↓s_103_1, ↓s_103_4, ↓s_103_5, ↓s_103_6_3, ↓s_103_6_5, ↓s_103_6_7, ↓s_103_6_9, ↓s_103_6_29, ↓s_103_6_31, ↓s_103_6_33, ↓s_103_6_35, ↓s_103_9, ↓s_103_12, ↓s_103_13, ↓s_103_16, ↓s_103_17, zio_0, zio_2, zio_3, zio_5, zio_7, zio_9, zio_87, zar_88, zia_88, zln_88, zit_88, zar_89, zia_89, zln_89, zit_89, zio_28, zio_29, zio_31, zio_33, zio_35, mk]
  refine ⟨fun z => bad (fun c => by have := c.1.1; omega), fun z1 => ⟨fun z => bad (fun c => by have := c.1.2; omega), fun z2 => ⟨fun z => bad (fun c => by have := c.2.1.1; omega), fun z3 => ⟨fun z => bad (fun c => by have := c.2.1.2; omega), fun z4 => ?_⟩⟩⟩⟩
  have hVn : w32 V = (((w32 V).toNat : Nat) : Int) := by omega
  have hM : sMk D (w32 MK) := ⟨by omega, by omega⟩
  have lt := sMk_lt n3' hM
  have tb := yb_tst (x := MK) (r := V) (a := (w32 MK).toNat) (b := (w32 V).toNat) (by omega) (by omega) hVn (by omega)
  rw [tb]
  refine ⟨fun z => bad (fun c => by have := c.2.2.2.1; omega), fun z5 => ⟨fun z6 => ⟨fun z7 => ?_, fun z7 => bad (fun c => ck_z c.2.2.1 z7)⟩, fun z => bad (fun c => by have := c.2.2.2.2; omega)⟩⟩
  have c7 := ck_n (Nat.mod_lt _ (by decide)) z7
  refine x_hold hE (by omega) hW h hk (K := (w32 MK).toNat) (by omega) lt (fun r m F p90 p8 hr => ?_)
  obtain ⟨q1, q2⟩ := p8 (w32 V).toNat (by omega)
  have C : sScm D (w32 MK) (w32 V) (w32 A) := ⟨hM, ⟨by omega, by omega⟩, c7, by omega, by omega⟩
  have Wm : cW m 57 W := cW_f hW (fun i j i1 i2 => F i j (Or.inl (by omega))) (fun j _ _ _ => F 57 j (Or.inl (by decide)))
  refine zgk_s hE xmo_35 90 [] ?_
  simp only [ynok_30, ynok_31, w32c_0, w32c_1, w32c_2, w32c_3, w32c_4, w32c_5, w32c_6, w32c_7, w32c_8, w32c_9, w32c_10, w32c_11, w32c_12, w32c_13, w32c_14, w32c_m1, w32c_m2, w32c_118, Int.reduceAdd, Int.reduceSub, Int.reduceMul, yput_s, yput_n, znl_n, znl_0, znl_1, znl_4, ysum_n, ysum_0, ysum_1, ysum_4, true_and, and_true, Nat.reduceAdd, Nat.reduceLeDiff, true_implies, eq_self, true_or, or_true, or_false, false_or, not_true_eq_false, not_false_eq_true, false_implies, implies_true, yset_s, yset_o, yset_d, ne_eq, Nat.reduceEqDiff, Int.reduceToNat, Int.reduceEq, Int.reduceLE, Int.reduceLT, Classical.not_not, Nat.reduceLT, ↓zvk_s, ↓zvk_n, ↓s_35_0, ↓s_35_1, ↓s_35_4, ↓s_35_5, ↓s_35_8, ↓s_35_11, ↓s_35_12, ↓s_35_15_2, ↓s_35_15_28, ↓s_35_18, ↓s_35_19, ↓s_35_22, ↓s_35_25, ↓s_35_26, ↓s_35_29, ↓s_35_30, ↓s_35_31, ↓s_35_34, ↓s_35_35, ↓s_35_36, ↓s_35_37, ↓s_35_38, ↓s_35_39, ↓s_35_40, ↓s_35_41, ↓s_35_44, ↓s_35_45, ↓s_35_46, ↓s_35_47, ↓s_35_50, ↓s_35_51, ↓s_35_54a, ↓s_35_54b, ↓s_35_55, ↓s_35_56, ↓s_35_57, ↓s_35_60, ↓s_35_61, ↓s_35_64, ↓s_35_67, ↓s_35_68, ↓s_35_69, ↓s_35_70, ↓s_35_71, ↓s_35_74, ↓s_35_77, ↓s_35_78, ↓s_35_79, ↓s_35_80, ↓s_35_83, ↓s_35_85, ↓s_35_88, ↓s_35_89, ↓s_35_92, ↓s_35_95, ↓s_35_96, ↓s_35_97, zio_0, zio_33, zio_2, zio_3, zio_35, zio_5, zio_7, zio_9, zio_87, zar_88, zia_88, zln_88, zit_88, zar_89, zia_89, zln_89, zit_89, zio_28, zio_29, zio_31]
  refine ⟨fun z8 => ⟨⟨by omega, by omega⟩, fun z9 => ⟨⟨by omega, by omega⟩, hQ _ m ⟨fun _ => ⟨fun e => absurd e z8, fun _ => ⟨fun e => absurd (q1.trans e) z9, fun _ => q1⟩⟩, fun e => absurd C e⟩ Wm⟩, fun z9 => hQ _ m ⟨fun _ => ⟨fun e => absurd e z8, fun _ => ⟨fun _ => w32c_m2, fun e => absurd (q1.symm.trans z9) e⟩⟩, fun e => absurd C e⟩ Wm⟩, fun z8 => ⟨⟨by omega, by omega⟩, hQ _ m ⟨fun _ => ⟨fun _ => q2, fun e => absurd z8 e⟩, fun e => absurd C e⟩ Wm⟩⟩
end CE
