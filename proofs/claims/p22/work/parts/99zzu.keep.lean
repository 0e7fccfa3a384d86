section
/-! keep and back, on both sides: rows in 99zzr -/
/-! keep and back, on both sides -/
section KP
variable {E : yE} {mem : yMem} {Q : Option yV → yMem → Prop} {D : dDc} {W : dU} {k : Nat}
theorem x_take64 (hE : yEok E) {D0 : Nat} (hD : 1 ≤ D0) (hQ : ∀ m, (∀ i j, ¬ (64 ≤ i ∧ i ≤ 70) → m i j = mem i j) → (∀ W, cW mem 57 W → cW m 64 W) → Q none m) : yCon E D0 xm_141 [(1, 64), (1, 57)] mem Q := by
  obtain ⟨d, rfl⟩ := Nat.exists_eq_add_of_le' hD
  refine e_141 ?_
  refine zvc_ok hE 120 [] _ _ _ _ _ _ _ xmo_141 ?_
  simp only [ynok_30, ynok_31, w32c_0, w32c_1, w32c_2, w32c_3, w32c_4, w32c_5, w32c_6, w32c_7, w32c_8, w32c_9, w32c_10, w32c_11, w32c_12, w32c_13, w32c_14, w32c_m1, w32c_m2, w32c_118, Int.reduceAdd, Int.reduceSub, Int.reduceMul, yput_s, yput_n, znl_n, znl_0, znl_1, znl_4, ysum_n, ysum_0, ysum_1, ysum_4, true_and, and_true, Nat.reduceAdd, Nat.reduceLeDiff, true_implies, eq_self, true_or, or_true, or_false, false_or, not_true_eq_false, not_false_eq_true, false_implies, implies_true, yset_s, yset_o, yset_d, ne_eq, Nat.reduceEqDiff, Int.reduceToNat, Int.reduceEq, Int.reduceLE, Int.reduceLT, Classical.not_not, Nat.reduceLT, ↓zvk_s, ↓zvk_n, ↓s_141_0, ↓s_141_1_57, ↓s_141_1_64, ↓s_141_4, ↓s_141_5, ↓s_141_6_57, ↓s_141_6_64, ↓s_141_9, ↓s_141_10, ↓s_141_11_57, ↓s_141_11_64, ↓s_141_14, ↓s_141_15, ↓s_141_18, ↓s_141_19_57, ↓s_141_19_64, ↓s_141_22, ↓s_141_23, ↓s_141_24_57, ↓s_141_24_64, ↓s_141_27, ↓s_141_28, ↓s_141_29_57, ↓s_141_29_64, ↓s_141_32, ↓s_141_33, ↓s_141_36, ↓s_141_37_57, ↓s_141_37_64, ↓s_141_40, ↓s_141_41, ↓s_141_42_57, ↓s_141_42_64, ↓s_141_45, ↓s_141_46, ↓s_141_47_57, ↓s_141_47_64, ↓s_141_50, ↓s_141_51, ↓s_141_54, ↓s_141_55_57, ↓s_141_55_64, ↓s_141_58, ↓s_141_59, ↓s_141_60_57, ↓s_141_60_64, ↓s_141_63, ↓s_141_64, ↓s_141_65_57, ↓s_141_65_64, ↓s_141_68, ↓s_141_69, ↓s_141_72, ↓s_141_73_57, ↓s_141_73_64, ↓s_141_76, ↓s_141_77, ↓s_141_78_57, ↓s_141_78_64, ↓s_141_81, ↓s_141_82, ↓s_141_83_57, ↓s_141_83_64, ↓s_141_86, ↓s_141_87, ↓s_141_90, ↓s_141_91_57, ↓s_141_91_64, ↓s_141_94, ↓s_141_95, ↓s_141_96_57, ↓s_141_96_64, ↓s_141_99, ↓s_141_100, ↓s_141_101_57, ↓s_141_101_64, ↓s_141_104, ↓s_141_105, ↓s_141_108, ↓s_141_109, ↓s_141_110_57, ↓s_141_110_64, ↓s_141_113_57, ↓s_141_113_64, ↓s_141_116, ↓s_141_117, ↓s_141_118_57, ↓s_141_118_64, ↓s_141_121_57, ↓s_141_121_64, ↓s_141_124, ↓s_141_125, ↓s_141_126_57, ↓s_141_126_64, ↓s_141_129_57, ↓s_141_129_64, ↓s_141_132, ↓s_141_133, ↓s_141_134_57, ↓s_141_134_64, ↓s_141_137_57, ↓s_141_137_64, ↓s_141_140, ↓s_141_141, ↓s_141_142_57, ↓s_141_142_64, ↓s_141_145_57, ↓s_141_145_64, ↓s_141_148, ↓s_141_149, ↓s_141_150_57, ↓s_141_150_64, ↓s_141_153_57, ↓s_141_153_64, ↓s_141_156, ↓s_141_157, ↓s_141_158_57, ↓s_141_158_64, ↓s_141_161_57, ↓s_141_161_64, ↓s_141_164, zio_64, zar_65, zia_65, zln_65, zit_65, zar_66, zia_66, zln_66, zit_66, zar_67, zia_67, zln_67, zit_67, zar_68, zia_68, zln_68, zit_68, zar_69, zia_69, zln_69, zit_69, zar_70, zia_70, zln_70, zit_70, zio_57, zar_58, zia_58, zln_58, zit_58, zar_59, zia_59, zln_59, zit_59, zar_60, zia_60, zln_60, zit_60, zar_61, zia_61, zln_61, zit_61, zar_62, zia_62, zln_62, zit_62, zar_63, zia_63, zln_63, zit_63]
  rw [show (w32 ((3 : Nat) : Int)).toNat = 3 by decide, show (w32 ((6 : Nat) : Int)).toNat = 6 by decide, show (w32 ((12 : Nat) : Int)).toNat = 12 by decide]
  have T0 : ∀ j, j < 3 → (ycpy (ycpy (ycpy (ycpy (ycpy (ycpy mem 58 0 65 0 3) 59 0 66 0 6) 60 0 67 0 3) 61 0 68 0 12) 62 0 69 0 12) 63 0 70 0 12) 65 j = mem 58 j := fun j hj => by rw [ycpy_o (by decide), ycpy_o (by decide), ycpy_o (by decide), ycpy_o (by decide), ycpy_o (by decide), ycpy_0 hj]
  have T1 : ∀ j, j < 6 → (ycpy (ycpy (ycpy (ycpy (ycpy (ycpy mem 58 0 65 0 3) 59 0 66 0 6) 60 0 67 0 3) 61 0 68 0 12) 62 0 69 0 12) 63 0 70 0 12) 66 j = mem 59 j := fun j hj => by rw [ycpy_o (by decide), ycpy_o (by decide), ycpy_o (by decide), ycpy_o (by decide), ycpy_0 hj, ycpy_o (by decide)]
  have T2 : ∀ j, j < 3 → (ycpy (ycpy (ycpy (ycpy (ycpy (ycpy mem 58 0 65 0 3) 59 0 66 0 6) 60 0 67 0 3) 61 0 68 0 12) 62 0 69 0 12) 63 0 70 0 12) 67 j = mem 60 j := fun j hj => by rw [ycpy_o (by decide), ycpy_o (by decide), ycpy_o (by decide), ycpy_0 hj, ycpy_o (by decide), ycpy_o (by decide)]
  have T3 : ∀ j, j < 12 → (ycpy (ycpy (ycpy (ycpy (ycpy (ycpy mem 58 0 65 0 3) 59 0 66 0 6) 60 0 67 0 3) 61 0 68 0 12) 62 0 69 0 12) 63 0 70 0 12) 68 j = mem 61 j := fun j hj => by rw [ycpy_o (by decide), ycpy_o (by decide), ycpy_0 hj, ycpy_o (by decide), ycpy_o (by decide), ycpy_o (by decide)]
  have T4 : ∀ j, j < 12 → (ycpy (ycpy (ycpy (ycpy (ycpy (ycpy mem 58 0 65 0 3) 59 0 66 0 6) 60 0 67 0 3) 61 0 68 0 12) 62 0 69 0 12) 63 0 70 0 12) 69 j = mem 62 j := fun j hj => by rw [ycpy_o (by decide), ycpy_0 hj, ycpy_o (by decide), ycpy_o (by decide), ycpy_o (by decide), ycpy_o (by decide)]
  have T5 : ∀ j, j < 12 → (ycpy (ycpy (ycpy (ycpy (ycpy (ycpy mem 58 0 65 0 3) 59 0 66 0 6) 60 0 67 0 3) 61 0 68 0 12) 62 0 69 0 12) 63 0 70 0 12) 70 j = mem 63 j := fun j hj => by rw [ycpy_0 hj, ycpy_o (by decide), ycpy_o (by decide), ycpy_o (by decide), ycpy_o (by decide), ycpy_o (by decide)]
  have kF : ∀ i j, ¬ (65 ≤ i ∧ i ≤ 70) → (ycpy (ycpy (ycpy (ycpy (ycpy (ycpy mem 58 0 65 0 3) 59 0 66 0 6) 60 0 67 0 3) 61 0 68 0 12) 62 0 69 0 12) 63 0 70 0 12) i j = mem i j := fun i j h => by rw [ycpy_o (by (first | exact Nat.le_of_ble_eq_true rfl | exact (fun h => absurd h.1 (by decide)) | omega)), ycpy_o (by (first | exact Nat.le_of_ble_eq_true rfl | exact (fun h => absurd h.1 (by decide)) | omega)), ycpy_o (by (first | exact Nat.le_of_ble_eq_true rfl | exact (fun h => absurd h.1 (by decide)) | omega)), ycpy_o (by (first | exact Nat.le_of_ble_eq_true rfl | exact (fun h => absurd h.1 (by decide)) | omega)), ycpy_o (by (first | exact Nat.le_of_ble_eq_true rfl | exact (fun h => absurd h.1 (by decide)) | omega)), ycpy_o (by (first | exact Nat.le_of_ble_eq_true rfl | exact (fun h => absurd h.1 (by decide)) | omega))]
  refine ⟨by decide, by decide, by decide, by decide, by decide, by decide, by decide, by decide, by decide, by decide, by decide, by decide, by decide, by decide, by decide, by decide, by decide, by decide, ?_⟩
  revert T0 T1 T2 T3 T4 T5 kF
  generalize (ycpy (ycpy (ycpy (ycpy (ycpy (ycpy mem 58 0 65 0 3) 59 0 66 0 6) 60 0 67 0 3) 61 0 68 0 12) 62 0 69 0 12) 63 0 70 0 12) = B
  intro T0 T1 T2 T3 T4 T5 kF
  refine hQ _ (fun i j h => ?_) (fun W hW => ?_)
  · rw [ysn (by (first | exact Nat.le_of_ble_eq_true rfl | exact (fun h => absurd h.1 (by decide)) | omega)), ysn (by (first | exact Nat.le_of_ble_eq_true rfl | exact (fun h => absurd h.1 (by decide)) | omega)), ysn (by (first | exact Nat.le_of_ble_eq_true rfl | exact (fun h => absurd h.1 (by decide)) | omega)), ysn (by (first | exact Nat.le_of_ble_eq_true rfl | exact (fun h => absurd h.1 (by decide)) | omega)), ysn (by (first | exact Nat.le_of_ble_eq_true rfl | exact (fun h => absurd h.1 (by decide)) | omega)), ysn (by (first | exact Nat.le_of_ble_eq_true rfl | exact (fun h => absurd h.1 (by decide)) | omega)), ysn (by (first | exact Nat.le_of_ble_eq_true rfl | exact (fun h => absurd h.1 (by decide)) | omega))]; exact kF i j (by (first | exact Nat.le_of_ble_eq_true rfl | exact (fun h => absurd h.1 (by decide)) | omega))
  · obtain ⟨c1, c2, c3, c4, c5, c6, c7, c8, c9, c10, c11, c12⟩ := hW
    refine ⟨fun j hj => ?_, fun j hj => ?_, fun j hj => ?_, fun j hj => ?_, fun j hj => ?_, fun j hj => ?_, ?_, ?_, ?_, ?_, ?_, ?_⟩
    · rw [ysn (by (first | exact Nat.le_of_ble_eq_true rfl | exact (fun h => absurd h.1 (by decide)) | omega)), ysn (by (first | exact Nat.le_of_ble_eq_true rfl | exact (fun h => absurd h.1 (by decide)) | omega)), ysn (by (first | exact Nat.le_of_ble_eq_true rfl | exact (fun h => absurd h.1 (by decide)) | omega)), ysn (by (first | exact Nat.le_of_ble_eq_true rfl | exact (fun h => absurd h.1 (by decide)) | omega)), ysn (by (first | exact Nat.le_of_ble_eq_true rfl | exact (fun h => absurd h.1 (by decide)) | omega)), ysn (by (first | exact Nat.le_of_ble_eq_true rfl | exact (fun h => absurd h.1 (by decide)) | omega)), ysn (by (first | exact Nat.le_of_ble_eq_true rfl | exact (fun h => absurd h.1 (by decide)) | omega)), T0 j hj]; exact c1 j hj
    · rw [ysn (by (first | exact Nat.le_of_ble_eq_true rfl | exact (fun h => absurd h.1 (by decide)) | omega)), ysn (by (first | exact Nat.le_of_ble_eq_true rfl | exact (fun h => absurd h.1 (by decide)) | omega)), ysn (by (first | exact Nat.le_of_ble_eq_true rfl | exact (fun h => absurd h.1 (by decide)) | omega)), ysn (by (first | exact Nat.le_of_ble_eq_true rfl | exact (fun h => absurd h.1 (by decide)) | omega)), ysn (by (first | exact Nat.le_of_ble_eq_true rfl | exact (fun h => absurd h.1 (by decide)) | omega)), ysn (by (first | exact Nat.le_of_ble_eq_true rfl | exact (fun h => absurd h.1 (by decide)) | omega)), ysn (by (first | exact Nat.le_of_ble_eq_true rfl | exact (fun h => absurd h.1 (by decide)) | omega)), T1 j hj]; exact c2 j hj
    · rw [ysn (by (first | exact Nat.le_of_ble_eq_true rfl | exact (fun h => absurd h.1 (by decide)) | omega)), ysn (by (first | exact Nat.le_of_ble_eq_true rfl | exact (fun h => absurd h.1 (by decide)) | omega)), ysn (by (first | exact Nat.le_of_ble_eq_true rfl | exact (fun h => absurd h.1 (by decide)) | omega)), ysn (by (first | exact Nat.le_of_ble_eq_true rfl | exact (fun h => absurd h.1 (by decide)) | omega)), ysn (by (first | exact Nat.le_of_ble_eq_true rfl | exact (fun h => absurd h.1 (by decide)) | omega)), ysn (by (first | exact Nat.le_of_ble_eq_true rfl | exact (fun h => absurd h.1 (by decide)) | omega)), ysn (by (first | exact Nat.le_of_ble_eq_true rfl | exact (fun h => absurd h.1 (by decide)) | omega)), T2 j hj]; exact c3 j hj
    · rw [ysn (by (first | exact Nat.le_of_ble_eq_true rfl | exact (fun h => absurd h.1 (by decide)) | omega)), ysn (by (first | exact Nat.le_of_ble_eq_true rfl | exact (fun h => absurd h.1 (by decide)) | omega)), ysn (by (first | exact Nat.le_of_ble_eq_true rfl | exact (fun h => absurd h.1 (by decide)) | omega)), ysn (by (first | exact Nat.le_of_ble_eq_true rfl | exact (fun h => absurd h.1 (by decide)) | omega)), ysn (by (first | exact Nat.le_of_ble_eq_true rfl | exact (fun h => absurd h.1 (by decide)) | omega)), ysn (by (first | exact Nat.le_of_ble_eq_true rfl | exact (fun h => absurd h.1 (by decide)) | omega)), ysn (by (first | exact Nat.le_of_ble_eq_true rfl | exact (fun h => absurd h.1 (by decide)) | omega)), T3 j hj]; exact c4 j hj
    · rw [ysn (by (first | exact Nat.le_of_ble_eq_true rfl | exact (fun h => absurd h.1 (by decide)) | omega)), ysn (by (first | exact Nat.le_of_ble_eq_true rfl | exact (fun h => absurd h.1 (by decide)) | omega)), ysn (by (first | exact Nat.le_of_ble_eq_true rfl | exact (fun h => absurd h.1 (by decide)) | omega)), ysn (by (first | exact Nat.le_of_ble_eq_true rfl | exact (fun h => absurd h.1 (by decide)) | omega)), ysn (by (first | exact Nat.le_of_ble_eq_true rfl | exact (fun h => absurd h.1 (by decide)) | omega)), ysn (by (first | exact Nat.le_of_ble_eq_true rfl | exact (fun h => absurd h.1 (by decide)) | omega)), ysn (by (first | exact Nat.le_of_ble_eq_true rfl | exact (fun h => absurd h.1 (by decide)) | omega)), T4 j hj]; exact c5 j hj
    · rw [ysn (by (first | exact Nat.le_of_ble_eq_true rfl | exact (fun h => absurd h.1 (by decide)) | omega)), ysn (by (first | exact Nat.le_of_ble_eq_true rfl | exact (fun h => absurd h.1 (by decide)) | omega)), ysn (by (first | exact Nat.le_of_ble_eq_true rfl | exact (fun h => absurd h.1 (by decide)) | omega)), ysn (by (first | exact Nat.le_of_ble_eq_true rfl | exact (fun h => absurd h.1 (by decide)) | omega)), ysn (by (first | exact Nat.le_of_ble_eq_true rfl | exact (fun h => absurd h.1 (by decide)) | omega)), ysn (by (first | exact Nat.le_of_ble_eq_true rfl | exact (fun h => absurd h.1 (by decide)) | omega)), ysn (by (first | exact Nat.le_of_ble_eq_true rfl | exact (fun h => absurd h.1 (by decide)) | omega)), T5 j hj]; exact c6 j hj
    · rw [yset_d (by decide), yset_d (by decide), yset_d (by decide), yset_d (by decide), yset_d (by decide), yset_d (by decide), yset_s, kF 57 6 (by decide)]; exact c7
    · rw [yset_d (by decide), yset_d (by decide), yset_d (by decide), yset_d (by decide), yset_d (by decide), yset_s, kF 57 7 (by decide)]; exact c8
    · rw [yset_d (by decide), yset_d (by decide), yset_d (by decide), yset_d (by decide), yset_s, kF 57 8 (by decide)]; exact c9
    · rw [yset_d (by decide), yset_d (by decide), yset_d (by decide), yset_s, kF 57 9 (by decide)]; exact c10
    · rw [yset_d (by decide), yset_d (by decide), yset_s, kF 57 10 (by decide)]; exact c11
    · rw [yset_s, kF 57 12 (by decide)]; exact c12
theorem x_take57 (hE : yEok E) {D0 : Nat} (hD : 1 ≤ D0) (hQ : ∀ m, (∀ i j, ¬ (57 ≤ i ∧ i ≤ 63) → m i j = mem i j) → (∀ W, cW mem 64 W → cW m 57 W) → Q none m) : yCon E D0 xm_141 [(1, 57), (1, 64)] mem Q := by
  obtain ⟨d, rfl⟩ := Nat.exists_eq_add_of_le' hD
  refine e_141 ?_
  refine zvc_ok hE 120 [] _ _ _ _ _ _ _ xmo_141 ?_
  simp only [ynok_30, ynok_31, w32c_0, w32c_1, w32c_2, w32c_3, w32c_4, w32c_5, w32c_6, w32c_7, w32c_8, w32c_9, w32c_10, w32c_11, w32c_12, w32c_13, w32c_14, w32c_m1, w32c_m2, w32c_118, Int.reduceAdd, Int.reduceSub, Int.reduceMul, yput_s, yput_n, znl_n, znl_0, znl_1, znl_4, ysum_n, ysum_0, ysum_1, ysum_4, true_and, and_true, Nat.reduceAdd, Nat.reduceLeDiff, true_implies, eq_self, true_or, or_true, or_false, false_or, not_true_eq_false, not_false_eq_true, false_implies, implies_true, yset_s, yset_o, yset_d, ne_eq, Nat.reduceEqDiff, Int.reduceToNat, Int.reduceEq, Int.reduceLE, Int.reduceLT, Classical.not_not, Nat.reduceLT, ↓zvk_s, ↓zvk_n, ↓s_141_0, ↓s_141_1_57, ↓s_141_1_64, ↓s_141_4, ↓s_141_5, ↓s_141_6_57, ↓s_141_6_64, ↓s_141_9, ↓s_141_10, ↓s_141_11_57, ↓s_141_11_64, ↓s_141_14, ↓s_141_15, ↓s_141_18, ↓s_141_19_57, ↓s_141_19_64, ↓s_141_22, ↓s_141_23, ↓s_141_24_57, ↓s_141_24_64, ↓s_141_27, ↓s_141_28, ↓s_141_29_57, ↓s_141_29_64, ↓s_141_32, ↓s_141_33, ↓s_141_36, ↓s_141_37_57, ↓s_141_37_64, ↓s_141_40, ↓s_141_41, ↓s_141_42_57, ↓s_141_42_64, ↓s_141_45, ↓s_141_46, ↓s_141_47_57, ↓s_141_47_64, ↓s_141_50, ↓s_141_51, ↓s_141_54, ↓s_141_55_57, ↓s_141_55_64, ↓s_141_58, ↓s_141_59, ↓s_141_60_57, ↓s_141_60_64, ↓s_141_63, ↓s_141_64, ↓s_141_65_57, ↓s_141_65_64, ↓s_141_68, ↓s_141_69, ↓s_141_72, ↓s_141_73_57, ↓s_141_73_64, ↓s_141_76, ↓s_141_77, ↓s_141_78_57, ↓s_141_78_64, ↓s_141_81, ↓s_141_82, ↓s_141_83_57, ↓s_141_83_64, ↓s_141_86, ↓s_141_87, ↓s_141_90, ↓s_141_91_57, ↓s_141_91_64, ↓s_141_94, ↓s_141_95, ↓s_141_96_57, ↓s_141_96_64, ↓s_141_99, ↓s_141_100, ↓s_141_101_57, ↓s_141_101_64, ↓s_141_104, ↓s_141_105, ↓s_141_108, ↓s_141_109, ↓s_141_110_57, ↓s_141_110_64, ↓s_141_113_57, ↓s_141_113_64, ↓s_141_116, ↓s_141_117, ↓s_141_118_57, ↓s_141_118_64, ↓s_141_121_57, ↓s_141_121_64, ↓s_141_124, ↓s_141_125, ↓s_141_126_57, ↓s_141_126_64, ↓s_141_129_57, ↓s_141_129_64, ↓s_141_132, ↓s_141_133, ↓s_141_134_57, ↓s_141_134_64, ↓s_141_137_57, ↓s_141_137_64, ↓s_141_140, ↓s_141_141, ↓s_141_142_57, ↓s_141_142_64, ↓s_141_145_57, ↓s_141_145_64, ↓s_141_148, ↓s_141_149, ↓s_141_150_57, ↓s_141_150_64, ↓s_141_153_57, ↓s_141_153_64, ↓s_141_156, ↓s_141_157, ↓s_141_158_57, ↓s_141_158_64, ↓s_141_161_57, ↓s_141_161_64, ↓s_141_164, zio_64, zar_65, zia_65, zln_65, zit_65, zar_66, zia_66, zln_66, zit_66, zar_67, zia_67, zln_67, zit_67, zar_68, zia_68, zln_68, zit_68, zar_69, zia_69, zln_69, zit_69, zar_70, zia_70, zln_70, zit_70, zio_57, zar_58, zia_58, zln_58, zit_58, zar_59, zia_59, zln_59, zit_59, zar_60, zia_60, zln_60, zit_60, zar_61, zia_61, zln_61, zit_61, zar_62, zia_62, zln_62, zit_62, zar_63, zia_63, zln_63, zit_63]
  rw [show (w32 ((3 : Nat) : Int)).toNat = 3 by decide, show (w32 ((6 : Nat) : Int)).toNat = 6 by decide, show (w32 ((12 : Nat) : Int)).toNat = 12 by decide]
  have T0 : ∀ j, j < 3 → (ycpy (ycpy (ycpy (ycpy (ycpy (ycpy mem 65 0 58 0 3) 66 0 59 0 6) 67 0 60 0 3) 68 0 61 0 12) 69 0 62 0 12) 70 0 63 0 12) 58 j = mem 65 j := fun j hj => by rw [ycpy_o (by decide), ycpy_o (by decide), ycpy_o (by decide), ycpy_o (by decide), ycpy_o (by decide), ycpy_0 hj]
  have T1 : ∀ j, j < 6 → (ycpy (ycpy (ycpy (ycpy (ycpy (ycpy mem 65 0 58 0 3) 66 0 59 0 6) 67 0 60 0 3) 68 0 61 0 12) 69 0 62 0 12) 70 0 63 0 12) 59 j = mem 66 j := fun j hj => by rw [ycpy_o (by decide), ycpy_o (by decide), ycpy_o (by decide), ycpy_o (by decide), ycpy_0 hj, ycpy_o (by decide)]
  have T2 : ∀ j, j < 3 → (ycpy (ycpy (ycpy (ycpy (ycpy (ycpy mem 65 0 58 0 3) 66 0 59 0 6) 67 0 60 0 3) 68 0 61 0 12) 69 0 62 0 12) 70 0 63 0 12) 60 j = mem 67 j := fun j hj => by rw [ycpy_o (by decide), ycpy_o (by decide), ycpy_o (by decide), ycpy_0 hj, ycpy_o (by decide), ycpy_o (by decide)]
  have T3 : ∀ j, j < 12 → (ycpy (ycpy (ycpy (ycpy (ycpy (ycpy mem 65 0 58 0 3) 66 0 59 0 6) 67 0 60 0 3) 68 0 61 0 12) 69 0 62 0 12) 70 0 63 0 12) 61 j = mem 68 j := fun j hj => by rw [ycpy_o (by decide), ycpy_o (by decide), ycpy_0 hj, ycpy_o (by decide), ycpy_o (by decide), ycpy_o (by decide)]
  have T4 : ∀ j, j < 12 → (ycpy (ycpy (ycpy (ycpy (ycpy (ycpy mem 65 0 58 0 3) 66 0 59 0 6) 67 0 60 0 3) 68 0 61 0 12) 69 0 62 0 12) 70 0 63 0 12) 62 j = mem 69 j := fun j hj => by rw [ycpy_o (by decide), ycpy_0 hj, ycpy_o (by decide), ycpy_o (by decide), ycpy_o (by decide), ycpy_o (by decide)]
  have T5 : ∀ j, j < 12 → (ycpy (ycpy (ycpy (ycpy (ycpy (ycpy mem 65 0 58 0 3) 66 0 59 0 6) 67 0 60 0 3) 68 0 61 0 12) 69 0 62 0 12) 70 0 63 0 12) 63 j = mem 70 j := fun j hj => by rw [ycpy_0 hj, ycpy_o (by decide), ycpy_o (by decide), ycpy_o (by decide), ycpy_o (by decide), ycpy_o (by decide)]
  have kF : ∀ i j, ¬ (58 ≤ i ∧ i ≤ 63) → (ycpy (ycpy (ycpy (ycpy (ycpy (ycpy mem 65 0 58 0 3) 66 0 59 0 6) 67 0 60 0 3) 68 0 61 0 12) 69 0 62 0 12) 70 0 63 0 12) i j = mem i j := fun i j h => by rw [ycpy_o (by (first | exact Nat.le_of_ble_eq_true rfl | exact (fun h => absurd h.1 (by decide)) | omega)), ycpy_o (by (first | exact Nat.le_of_ble_eq_true rfl | exact (fun h => absurd h.1 (by decide)) | omega)), ycpy_o (by (first | exact Nat.le_of_ble_eq_true rfl | exact (fun h => absurd h.1 (by decide)) | omega)), ycpy_o (by (first | exact Nat.le_of_ble_eq_true rfl | exact (fun h => absurd h.1 (by decide)) | omega)), ycpy_o (by (first | exact Nat.le_of_ble_eq_true rfl | exact (fun h => absurd h.1 (by decide)) | omega)), ycpy_o (by (first | exact Nat.le_of_ble_eq_true rfl | exact (fun h => absurd h.1 (by decide)) | omega))]
  refine ⟨by decide, by decide, by decide, by decide, by decide, by decide, by decide, by decide, by decide, by decide, by decide, by decide, by decide, by decide, by decide, by decide, by decide, by decide, ?_⟩
  revert T0 T1 T2 T3 T4 T5 kF
  generalize (ycpy (ycpy (ycpy (ycpy (ycpy (ycpy mem 65 0 58 0 3) 66 0 59 0 6) 67 0 60 0 3) 68 0 61 0 12) 69 0 62 0 12) 70 0 63 0 12) = B
  intro T0 T1 T2 T3 T4 T5 kF
  refine hQ _ (fun i j h => ?_) (fun W hW => ?_)
  · rw [ysn (by (first | exact Nat.le_of_ble_eq_true rfl | exact (fun h => absurd h.1 (by decide)) | omega)), ysn (by (first | exact Nat.le_of_ble_eq_true rfl | exact (fun h => absurd h.1 (by decide)) | omega)), ysn (by (first | exact Nat.le_of_ble_eq_true rfl | exact (fun h => absurd h.1 (by decide)) | omega)), ysn (by (first | exact Nat.le_of_ble_eq_true rfl | exact (fun h => absurd h.1 (by decide)) | omega)), ysn (by (first | exact Nat.le_of_ble_eq_true rfl | exact (fun h => absurd h.1 (by decide)) | omega)), ysn (by (first | exact Nat.le_of_ble_eq_true rfl | exact (fun h => absurd h.1 (by decide)) | omega)), ysn (by (first | exact Nat.le_of_ble_eq_true rfl | exact (fun h => absurd h.1 (by decide)) | omega))]; exact kF i j (by (first | exact Nat.le_of_ble_eq_true rfl | exact (fun h => absurd h.1 (by decide)) | omega))
  · obtain ⟨c1, c2, c3, c4, c5, c6, c7, c8, c9, c10, c11, c12⟩ := hW
    refine ⟨fun j hj => ?_, fun j hj => ?_, fun j hj => ?_, fun j hj => ?_, fun j hj => ?_, fun j hj => ?_, ?_, ?_, ?_, ?_, ?_, ?_⟩
    · rw [ysn (by (first | exact Nat.le_of_ble_eq_true rfl | exact (fun h => absurd h.1 (by decide)) | omega)), ysn (by (first | exact Nat.le_of_ble_eq_true rfl | exact (fun h => absurd h.1 (by decide)) | omega)), ysn (by (first | exact Nat.le_of_ble_eq_true rfl | exact (fun h => absurd h.1 (by decide)) | omega)), ysn (by (first | exact Nat.le_of_ble_eq_true rfl | exact (fun h => absurd h.1 (by decide)) | omega)), ysn (by (first | exact Nat.le_of_ble_eq_true rfl | exact (fun h => absurd h.1 (by decide)) | omega)), ysn (by (first | exact Nat.le_of_ble_eq_true rfl | exact (fun h => absurd h.1 (by decide)) | omega)), ysn (by (first | exact Nat.le_of_ble_eq_true rfl | exact (fun h => absurd h.1 (by decide)) | omega)), T0 j hj]; exact c1 j hj
    · rw [ysn (by (first | exact Nat.le_of_ble_eq_true rfl | exact (fun h => absurd h.1 (by decide)) | omega)), ysn (by (first | exact Nat.le_of_ble_eq_true rfl | exact (fun h => absurd h.1 (by decide)) | omega)), ysn (by (first | exact Nat.le_of_ble_eq_true rfl | exact (fun h => absurd h.1 (by decide)) | omega)), ysn (by (first | exact Nat.le_of_ble_eq_true rfl | exact (fun h => absurd h.1 (by decide)) | omega)), ysn (by (first | exact Nat.le_of_ble_eq_true rfl | exact (fun h => absurd h.1 (by decide)) | omega)), ysn (by (first | exact Nat.le_of_ble_eq_true rfl | exact (fun h => absurd h.1 (by decide)) | omega)), ysn (by (first | exact Nat.le_of_ble_eq_true rfl | exact (fun h => absurd h.1 (by decide)) | omega)), T1 j hj]; exact c2 j hj
    · rw [ysn (by (first | exact Nat.le_of_ble_eq_true rfl | exact (fun h => absurd h.1 (by decide)) | omega)), ysn (by (first | exact Nat.le_of_ble_eq_true rfl | exact (fun h => absurd h.1 (by decide)) | omega)), ysn (by (first | exact Nat.le_of_ble_eq_true rfl | exact (fun h => absurd h.1 (by decide)) | omega)), ysn (by (first | exact Nat.le_of_ble_eq_true rfl | exact (fun h => absurd h.1 (by decide)) | omega)), ysn (by (first | exact Nat.le_of_ble_eq_true rfl | exact (fun h => absurd h.1 (by decide)) | omega)), ysn (by (first | exact Nat.le_of_ble_eq_true rfl | exact (fun h => absurd h.1 (by decide)) | omega)), ysn (by (first | exact Nat.le_of_ble_eq_true rfl | exact (fun h => absurd h.1 (by decide)) | omega)), T2 j hj]; exact c3 j hj
    · rw [ysn (by (first | exact Nat.le_of_ble_eq_true rfl | exact (fun h => absurd h.1 (by decide)) | omega)), ysn (by (first | exact Nat.le_of_ble_eq_true rfl | exact (fun h => absurd h.1 (by decide)) | omega)), ysn (by (first | exact Nat.le_of_ble_eq_true rfl | exact (fun h => absurd h.1 (by decide)) | omega)), ysn (by (first | exact Nat.le_of_ble_eq_true rfl | exact (fun h => absurd h.1 (by decide)) | omega)), ysn (by (first | exact Nat.le_of_ble_eq_true rfl | exact (fun h => absurd h.1 (by decide)) | omega)), ysn (by (first | exact Nat.le_of_ble_eq_true rfl | exact (fun h => absurd h.1 (by decide)) | omega)), ysn (by (first | exact Nat.le_of_ble_eq_true rfl | exact (fun h => absurd h.1 (by decide)) | omega)), T3 j hj]; exact c4 j hj
    · rw [ysn (by (first | exact Nat.le_of_ble_eq_true rfl | exact (fun h => absurd h.1 (by decide)) | omega)), ysn (by (first | exact Nat.le_of_ble_eq_true rfl | exact (fun h => absurd h.1 (by decide)) | omega)), ysn (by (first | exact Nat.le_of_ble_eq_true rfl | exact (fun h => absurd h.1 (by decide)) | omega)), ysn (by (first | exact Nat.le_of_ble_eq_true rfl | exact (fun h => absurd h.1 (by decide)) | omega)), ysn (by (first | exact Nat.le_of_ble_eq_true rfl | exact (fun h => absurd h.1 (by decide)) | omega)), ysn (by (first | exact Nat.le_of_ble_eq_true rfl | exact (fun h => absurd h.1 (by decide)) | omega)), ysn (by (first | exact Nat.le_of_ble_eq_true rfl | exact (fun h => absurd h.1 (by decide)) | omega)), T4 j hj]; exact c5 j hj
    · rw [ysn (by (first | exact Nat.le_of_ble_eq_true rfl | exact (fun h => absurd h.1 (by decide)) | omega)), ysn (by (first | exact Nat.le_of_ble_eq_true rfl | exact (fun h => absurd h.1 (by decide)) | omega)), ysn (by (first | exact Nat.le_of_ble_eq_true rfl | exact (fun h => absurd h.1 (by decide)) | omega)), ysn (by (first | exact Nat.le_of_ble_eq_true rfl | exact (fun h => absurd h.1 (by decide)) | omega)), ysn (by (first | exact Nat.le_of_ble_eq_true rfl | exact (fun h => absurd h.1 (by decide)) | omega)), ysn (by (first | exact Nat.le_of_ble_eq_true rfl | exact (fun h => absurd h.1 (by decide)) | omega)), ysn (by (first | exact Nat.le_of_ble_eq_true rfl | exact (fun h => absurd h.1 (by decide)) | omega)), T5 j hj]; exact c6 j hj
    · rw [yset_d (by decide), yset_d (by decide), yset_d (by decide), yset_d (by decide), yset_d (by decide), yset_d (by decide), yset_s, kF 64 6 (by decide)]; exact c7
    · rw [yset_d (by decide), yset_d (by decide), yset_d (by decide), yset_d (by decide), yset_d (by decide), yset_s, kF 64 7 (by decide)]; exact c8
    · rw [yset_d (by decide), yset_d (by decide), yset_d (by decide), yset_d (by decide), yset_s, kF 64 8 (by decide)]; exact c9
    · rw [yset_d (by decide), yset_d (by decide), yset_d (by decide), yset_s, kF 64 9 (by decide)]; exact c10
    · rw [yset_d (by decide), yset_d (by decide), yset_s, kF 64 10 (by decide)]; exact c11
    · rw [yset_s, kF 64 12 (by decide)]; exact c12
theorem x_keep (hE : yEok E) {D0 : Nat} (hD : 2 ≤ D0) (hQ : ∀ r m, (∀ i j, ¬ (64 ≤ i ∧ i ≤ 70) → ¬ (i = 0 ∧ j = 14) → m i j = mem i j) → (∀ W, cW mem 57 W → cW m 64 W) → w32 (m 0 14) = 1 → w32 r = w32 (mem 57 7) → Q (some (0, r)) m) : yCon E D0 xm_18 [(1, 0)] mem Q := by
  obtain ⟨d, rfl⟩ := Nat.exists_eq_add_of_le' hD
  refine e_18 ?_
  refine zvc_ok hE 90 [] _ _ _ _ _ _ _ xmo_18 ?_
  simp only [ynok_30, ynok_31, w32c_0, w32c_1, w32c_2, w32c_3, w32c_4, w32c_5, w32c_6, w32c_7, w32c_8, w32c_9, w32c_10, w32c_11, w32c_12, w32c_13, w32c_14, w32c_m1, w32c_m2, w32c_118, Int.reduceAdd, Int.reduceSub, Int.reduceMul, yput_s, yput_n, znl_n, znl_0, znl_1, znl_4, ysum_n, ysum_0, ysum_1, ysum_4, true_and, and_true, Nat.reduceAdd, Nat.reduceLeDiff, true_implies, eq_self, true_or, or_true, or_false, false_or, not_true_eq_false, not_false_eq_true, false_implies, implies_true, yset_s, yset_o, yset_d, ne_eq, Nat.reduceEqDiff, Int.reduceToNat, Int.reduceEq, Int.reduceLE, Int.reduceLT, Classical.not_not, Nat.reduceLT, ↓zvk_s, ↓zvk_n, ↓s_18_0, ↓s_18_1, ↓s_18_4, ↓s_18_5, ↓s_18_8, ↓s_18_11, ↓s_18_12, ↓s_18_13, ↓s_18_16, ↓s_18_17, ↓s_18_20_57, ↓s_18_20_64, ↓s_18_23, zio_64, zio_0, zio_57]
  refine x_take64 hE (by (first | exact Nat.le_of_ble_eq_true rfl | exact (fun h => absurd h.1 (by decide)) | omega)) (fun m F T => ?_)
  refine zgk_n hE xmo_18 90 [] ?_
  simp only [ynok_30, ynok_31, w32c_0, w32c_1, w32c_2, w32c_3, w32c_4, w32c_5, w32c_6, w32c_7, w32c_8, w32c_9, w32c_10, w32c_11, w32c_12, w32c_13, w32c_14, w32c_m1, w32c_m2, w32c_118, Int.reduceAdd, Int.reduceSub, Int.reduceMul, yput_s, yput_n, znl_n, znl_0, znl_1, znl_4, ysum_n, ysum_0, ysum_1, ysum_4, true_and, and_true, Nat.reduceAdd, Nat.reduceLeDiff, true_implies, eq_self, true_or, or_true, or_false, false_or, not_true_eq_false, not_false_eq_true, false_implies, implies_true, yset_s, yset_o, yset_d, ne_eq, Nat.reduceEqDiff, Int.reduceToNat, Int.reduceEq, Int.reduceLE, Int.reduceLT, Classical.not_not, Nat.reduceLT, ↓zvk_s, ↓zvk_n, ↓s_18_0, ↓s_18_1, ↓s_18_4, ↓s_18_5, ↓s_18_8, ↓s_18_11, ↓s_18_12, ↓s_18_13, ↓s_18_16, ↓s_18_17, ↓s_18_20_57, ↓s_18_20_64, ↓s_18_23, zio_64, zio_0, zio_57]
  exact hQ _ _ (fun i j h1 h2 => by rw [ysn h2]; exact F i j h1) (fun W hW => cW_f (T W hW) (fun i j i1 i2 => ysn (by (first | exact Nat.le_of_ble_eq_true rfl | exact (fun h => absurd h.1 (by decide)) | omega))) (fun j j1 j2 j3 => ysn (by (first | exact Nat.le_of_ble_eq_true rfl | exact (fun h => absurd h.1 (by decide)) | omega)))) (by rw [yset_s]; exact w32c_1) (by rw [F 57 7 (by decide)])
theorem x_back (hE : yEok E) {D0 : Nat} (hD : 2 ≤ D0) (h0 : w32 (mem 0 14) = 0 → Q (some (0, -1)) mem) (h1 : ¬ w32 (mem 0 14) = 0 → ∀ r m, (∀ W, cW mem 64 W → cW m 57 W) → w32 r = w32 (m 57 7) → Q (some (0, r)) m) : yCon E D0 xm_1 [(1, 0)] mem Q := by
  obtain ⟨d, rfl⟩ := Nat.exists_eq_add_of_le' hD
  refine e_1 ?_
  refine zvc_ok hE 90 [] _ _ _ _ _ _ _ xmo_1 ?_
  simp only [ynok_30, ynok_31, w32c_0, w32c_1, w32c_2, w32c_3, w32c_4, w32c_5, w32c_6, w32c_7, w32c_8, w32c_9, w32c_10, w32c_11, w32c_12, w32c_13, w32c_14, w32c_m1, w32c_m2, w32c_118, Int.reduceAdd, Int.reduceSub, Int.reduceMul, yput_s, yput_n, znl_n, znl_0, znl_1, znl_4, ysum_n, ysum_0, ysum_1, ysum_4, true_and, and_true, Nat.reduceAdd, Nat.reduceLeDiff, true_implies, eq_self, true_or, or_true, or_false, false_or, not_true_eq_false, not_false_eq_true, false_implies, implies_true, yset_s, yset_o, yset_d, ne_eq, Nat.reduceEqDiff, Int.reduceToNat, Int.reduceEq, Int.reduceLE, Int.reduceLT, Classical.not_not, Nat.reduceLT, ↓zvk_s, ↓zvk_n, ↓s_1_0, ↓s_1_1, ↓s_1_4, ↓s_1_7, ↓s_1_8, ↓s_1_9, ↓s_1_10, ↓s_1_13, ↓s_1_14, ↓s_1_17, ↓s_1_20, ↓s_1_21, ↓s_1_24, ↓s_1_25, ↓s_1_28, ↓s_1_29, ↓s_1_32_57, ↓s_1_32_64, ↓s_1_35, zio_0, zio_64, zio_57, zio_76]
  refine ⟨fun z => ?_, fun z => h0 (by (first | exact Nat.le_of_ble_eq_true rfl | exact (fun h => absurd h.1 (by decide)) | omega))⟩
  refine x_take57 hE (by (first | exact Nat.le_of_ble_eq_true rfl | exact (fun h => absurd h.1 (by decide)) | omega)) (fun m F T => ?_)
  refine zgk_n hE xmo_1 90 [] ?_
  simp only [ynok_30, ynok_31, w32c_0, w32c_1, w32c_2, w32c_3, w32c_4, w32c_5, w32c_6, w32c_7, w32c_8, w32c_9, w32c_10, w32c_11, w32c_12, w32c_13, w32c_14, w32c_m1, w32c_m2, w32c_118, Int.reduceAdd, Int.reduceSub, Int.reduceMul, yput_s, yput_n, znl_n, znl_0, znl_1, znl_4, ysum_n, ysum_0, ysum_1, ysum_4, true_and, and_true, Nat.reduceAdd, Nat.reduceLeDiff, true_implies, eq_self, true_or, or_true, or_false, false_or, not_true_eq_false, not_false_eq_true, false_implies, implies_true, yset_s, yset_o, yset_d, ne_eq, Nat.reduceEqDiff, Int.reduceToNat, Int.reduceEq, Int.reduceLE, Int.reduceLT, Classical.not_not, Nat.reduceLT, ↓zvk_s, ↓zvk_n, ↓s_1_0, ↓s_1_1, ↓s_1_4, ↓s_1_7, ↓s_1_8, ↓s_1_9, ↓s_1_10, ↓s_1_13, ↓s_1_14, ↓s_1_17, ↓s_1_20, ↓s_1_21, ↓s_1_24, ↓s_1_25, ↓s_1_28, ↓s_1_29, ↓s_1_32_57, ↓s_1_32_64, ↓s_1_35, zio_0, zio_64, zio_57, zio_76]
  exact h1 z _ _ (fun W hW => cW_f (T W hW) (fun i j i1 i2 => ysn (by (first | exact Nat.le_of_ble_eq_true rfl | exact (fun h => absurd h.1 (by decide)) | omega))) (fun j j1 j2 j3 => ysn (by (first | exact Nat.le_of_ble_eq_true rfl | exact (fun h => absurd h.1 (by decide)) | omega)))) (by rw [ysn (by (first | exact Nat.le_of_ble_eq_true rfl | exact (fun h => absurd h.1 (by decide)) | omega))])
theorem r_keep (hE : yEok E) {D0 : Nat} (hD : 2 ≤ D0) (hQ : ∀ r m, (∀ i j, ¬ (118 ≤ i ∧ i ≤ 129) → ¬ (i = 95 ∧ (j = 0 ∨ j = 49)) → m i j = mem i j) → (∀ W, rW mem 0 W → rW m 1 W ∧ rW m 0 W) → w32 (m 95 49) = 1 → w32 r = w32 (m 118 0) → Q (some (0, r)) m) : yCon E D0 xm_199 [(1, 95)] mem Q := by
  obtain ⟨d, rfl⟩ := Nat.exists_eq_add_of_le' hD
  refine e_199 ?_
  refine zvc_ok hE 90 [] _ _ _ _ _ _ _ xmo_199 ?_
  simp only [ynok_30, ynok_31, w32c_0, w32c_1, w32c_2, w32c_3, w32c_4, w32c_5, w32c_6, w32c_7, w32c_8, w32c_9, w32c_10, w32c_11, w32c_12, w32c_13, w32c_14, w32c_m1, w32c_m2, w32c_118, Int.reduceAdd, Int.reduceSub, Int.reduceMul, yput_s, yput_n, znl_n, znl_0, znl_1, znl_4, ysum_n, ysum_0, ysum_1, ysum_4, true_and, and_true, Nat.reduceAdd, Nat.reduceLeDiff, true_implies, eq_self, true_or, or_true, or_false, false_or, not_true_eq_false, not_false_eq_true, false_implies, implies_true, yset_s, yset_o, yset_d, ne_eq, Nat.reduceEqDiff, Int.reduceToNat, Int.reduceEq, Int.reduceLE, Int.reduceLT, Classical.not_not, Nat.reduceLT, ↓zvk_s, ↓zvk_n, ↓s_199_0, ↓s_199_1, ↓s_199_2, ↓s_199_5, ↓s_199_6, ↓s_199_7, ↓s_199_8, ↓s_199_11, ↓s_199_12, ↓s_199_13, ↓s_199_16, ↓s_199_17, ↓s_199_20, ↓s_199_21, ↓s_199_22, zar_118, zia_118, zln_118, zit_118, zio_95]
  refine r_copies hE (by (first | exact Nat.le_of_ble_eq_true rfl | exact (fun h => absurd h.1 (by decide)) | omega)) (Or.inl ⟨rfl, rfl⟩) w32c_1 w32c_0 (fun m C => ?_)
  refine zgk_n hE xmo_199 60 [] ?_
  simp only [ynok_30, ynok_31, w32c_0, w32c_1, w32c_2, w32c_3, w32c_4, w32c_5, w32c_6, w32c_7, w32c_8, w32c_9, w32c_10, w32c_11, w32c_12, w32c_13, w32c_14, w32c_m1, w32c_m2, w32c_118, Int.reduceAdd, Int.reduceSub, Int.reduceMul, yput_s, yput_n, znl_n, znl_0, znl_1, znl_4, ysum_n, ysum_0, ysum_1, ysum_4, true_and, and_true, Nat.reduceAdd, Nat.reduceLeDiff, true_implies, eq_self, true_or, or_true, or_false, false_or, not_true_eq_false, not_false_eq_true, false_implies, implies_true, yset_s, yset_o, yset_d, ne_eq, Nat.reduceEqDiff, Int.reduceToNat, Int.reduceEq, Int.reduceLE, Int.reduceLT, Classical.not_not, Nat.reduceLT, ↓zvk_s, ↓zvk_n, ↓s_199_0, ↓s_199_1, ↓s_199_2, ↓s_199_5, ↓s_199_6, ↓s_199_7, ↓s_199_8, ↓s_199_11, ↓s_199_12, ↓s_199_13, ↓s_199_16, ↓s_199_17, ↓s_199_20, ↓s_199_21, ↓s_199_22, zar_118, zia_118, zln_118, zit_118, zio_95]
  refine ⟨by first | decide | (first | exact Nat.le_of_ble_eq_true rfl | exact (fun h => absurd h.1 (by decide)) | omega), hQ _ _ (fun i j h1 h2 => by rw [ysn (by (first | exact Nat.le_of_ble_eq_true rfl | exact (fun h => absurd h.1 (by decide)) | omega)), C.1 i j h1, ysn (by (first | exact Nat.le_of_ble_eq_true rfl | exact (fun h => absurd h.1 (by decide)) | omega))]) (fun W hW => ?_) (by rw [yset_s]; exact w32c_1) (by rw [ysn (by (first | exact Nat.le_of_ble_eq_true rfl | exact (fun h => absurd h.1 (by decide)) | omega))])⟩
  have C2 := cpI_W C (rW_f (by decide) hW (fun i j i1 i2 => ysn (by (first | exact Nat.le_of_ble_eq_true rfl | exact (fun h => absurd h.1 (by decide)) | omega))))
  exact ⟨rW_f (by decide) C2.1 (fun i j i1 i2 => ysn (by (first | exact Nat.le_of_ble_eq_true rfl | exact (fun h => absurd h.1 (by decide)) | omega))), rW_f (by decide) C2.2 (fun i j i1 i2 => ysn (by (first | exact Nat.le_of_ble_eq_true rfl | exact (fun h => absurd h.1 (by decide)) | omega)))⟩
theorem r_back (hE : yEok E) {D0 : Nat} (hD : 2 ≤ D0) (h0 : w32 (mem 95 49) = 0 → Q (some (0, -1)) (yset mem 95 0 0)) (h1 : ¬ w32 (mem 95 49) = 0 → ∀ r m, (∀ i j, ¬ (118 ≤ i ∧ i ≤ 129) → ¬ (i = 95 ∧ j = 0) → m i j = mem i j) → (∀ W, rW mem 1 W → rW m 0 W ∧ rW m 1 W) → w32 r = w32 (m 118 0) → Q (some (0, r)) m) : yCon E D0 xm_144 [(1, 95)] mem Q := by
  obtain ⟨d, rfl⟩ := Nat.exists_eq_add_of_le' hD
  refine e_144 ?_
  refine zvc_ok hE 90 [] _ _ _ _ _ _ _ xmo_144 ?_
  simp only [ynok_30, ynok_31, w32c_0, w32c_1, w32c_2, w32c_3, w32c_4, w32c_5, w32c_6, w32c_7, w32c_8, w32c_9, w32c_10, w32c_11, w32c_12, w32c_13, w32c_14, w32c_m1, w32c_m2, w32c_118, Int.reduceAdd, Int.reduceSub, Int.reduceMul, yput_s, yput_n, znl_n, znl_0, znl_1, znl_4, ysum_n, ysum_0, ysum_1, ysum_4, true_and, and_true, Nat.reduceAdd, Nat.reduceLeDiff, true_implies, eq_self, true_or, or_true, or_false, false_or, not_true_eq_false, not_false_eq_true, false_implies, implies_true, yset_s, yset_o, yset_d, ne_eq, Nat.reduceEqDiff, Int.reduceToNat, Int.reduceEq, Int.reduceLE, Int.reduceLT, Classical.not_not, Nat.reduceLT, ↓zvk_s, ↓zvk_n, ↓s_144_0, ↓s_144_1, ↓s_144_2, ↓s_144_5, ↓s_144_6, ↓s_144_9, ↓s_144_12, ↓s_144_13, ↓s_144_14, ↓s_144_15, ↓s_144_16, ↓s_144_17, ↓s_144_20, ↓s_144_21, ↓s_144_24, ↓s_144_25, ↓s_144_26, zar_118, zia_118, zln_118, zit_118, zio_95]
  refine ⟨fun z => ?_, fun z => h0 (by (first | exact Nat.le_of_ble_eq_true rfl | exact (fun h => absurd h.1 (by decide)) | omega))⟩
  refine r_copies hE (by (first | exact Nat.le_of_ble_eq_true rfl | exact (fun h => absurd h.1 (by decide)) | omega)) (Or.inr ⟨rfl, rfl⟩) w32c_0 w32c_1 (fun m C => ?_)
  refine zgk_n hE xmo_144 60 [] ?_
  simp only [ynok_30, ynok_31, w32c_0, w32c_1, w32c_2, w32c_3, w32c_4, w32c_5, w32c_6, w32c_7, w32c_8, w32c_9, w32c_10, w32c_11, w32c_12, w32c_13, w32c_14, w32c_m1, w32c_m2, w32c_118, Int.reduceAdd, Int.reduceSub, Int.reduceMul, yput_s, yput_n, znl_n, znl_0, znl_1, znl_4, ysum_n, ysum_0, ysum_1, ysum_4, true_and, and_true, Nat.reduceAdd, Nat.reduceLeDiff, true_implies, eq_self, true_or, or_true, or_false, false_or, not_true_eq_false, not_false_eq_true, false_implies, implies_true, yset_s, yset_o, yset_d, ne_eq, Nat.reduceEqDiff, Int.reduceToNat, Int.reduceEq, Int.reduceLE, Int.reduceLT, Classical.not_not, Nat.reduceLT, ↓zvk_s, ↓zvk_n, ↓s_144_0, ↓s_144_1, ↓s_144_2, ↓s_144_5, ↓s_144_6, ↓s_144_9, ↓s_144_12, ↓s_144_13, ↓s_144_14, ↓s_144_15, ↓s_144_16, ↓s_144_17, ↓s_144_20, ↓s_144_21, ↓s_144_24, ↓s_144_25, ↓s_144_26, zar_118, zia_118, zln_118, zit_118, zio_95]
  refine ⟨by first | decide | (first | exact Nat.le_of_ble_eq_true rfl | exact (fun h => absurd h.1 (by decide)) | omega), h1 z _ _ (fun i j h1 h2 => by rw [C.1 i j h1, ysn h2]) (fun W hW => cpI_W C (rW_f (by decide) hW (fun i j i1 i2 => ysn (by (first | exact Nat.le_of_ble_eq_true rfl | exact (fun h => absurd h.1 (by decide)) | omega))))) rfl⟩
end KP
/-- frames with a part left out -/
def tpx (ex : Nat × Nat → Bool) (w : List (Nat × Nat)) : Bool := w.all (fun q => ex q || tpq q)
theorem tpx_ok {ex : Nat × Nat → Bool} {w : List (Nat × Nat)} (h : tpx ex w = true) {i j : Nat} (hp : tpP i j) (ho : ∀ n, n = 0 ∨ n = j + 1 → ex (i, n) = false) : amod w i j = false := by
  cases hm : amod w i j with
  | false => rfl
  | true =>
    obtain ⟨q, q1, q2, q3⟩ := amod_ex hm
    have h2 : (ex q || tpq q) = true := List.all_eq_true.mp h q q1
    have h3 : ex q = false := by
      have := ho q.2 q3
      rw [← q2] at this
      exact this
    rw [h3, Bool.false_or] at h2
    have e := tp3_ok (w := [q]) (show (tpq q && true) = true by rw [h2]; rfl) hp
    unfold amod at e
    rcases q3 with q3 | q3 <;> simp [q2, q3] at e
/-- all of LI but the document's and the world's -/
theorem LI_mk {k l : Nat} {mem m : yMem} (hI : LI k mem) (hG : aGok m) (hO : Om m) (hf : ∀ i j, tpP i j → ¬ tpW i j → m i j = mem i j) (hw : LIw l m) : LI l m := by
  obtain ⟨_, _, a3, a4, a5, ⟨a6, a7⟩, _⟩ := hI
  exact ⟨hG, hO, by rw [hf 0 11 (by unfold tpP; (first | exact Nat.le_of_ble_eq_true rfl | exact (fun h => absurd h.1 (by decide)) | omega)) (by unfold tpW; (first | exact Nat.le_of_ble_eq_true rfl | exact (fun h => absurd h.1 (by decide)) | omega)), hf 95 2 (by unfold tpP; (first | exact Nat.le_of_ble_eq_true rfl | exact (fun h => absurd h.1 (by decide)) | omega)) (by unfold tpW; (first | exact Nat.le_of_ble_eq_true rfl | exact (fun h => absurd h.1 (by decide)) | omega))]; exact a3, fun j => by rw [hf 1 j (Or.inl rfl) (by unfold tpW; (first | exact Nat.le_of_ble_eq_true rfl | exact (fun h => absurd h.1 (by decide)) | omega)), hf 96 j (by unfold tpP; (first | exact Nat.le_of_ble_eq_true rfl | exact (fun h => absurd h.1 (by decide)) | omega)) (by unfold tpW; (first | exact Nat.le_of_ble_eq_true rfl | exact (fun h => absurd h.1 (by decide)) | omega))]; exact a4 j, fun i hi => by rw [hf 56 i (Or.inr (Or.inl rfl)) (by unfold tpW; (first | exact Nat.le_of_ble_eq_true rfl | exact (fun h => absurd h.1 (by decide)) | omega))]; exact a5 i hi, ⟨by rw [hf 0 12 (by unfold tpP; (first | exact Nat.le_of_ble_eq_true rfl | exact (fun h => absurd h.1 (by decide)) | omega)) (by unfold tpW; (first | exact Nat.le_of_ble_eq_true rfl | exact (fun h => absurd h.1 (by decide)) | omega)), hf 95 33 (by unfold tpP; (first | exact Nat.le_of_ble_eq_true rfl | exact (fun h => absurd h.1 (by decide)) | omega)) (by unfold tpW; (first | exact Nat.le_of_ble_eq_true rfl | exact (fun h => absurd h.1 (by decide)) | omega))]; exact a6, by rw [hf 0 13 (by unfold tpP; (first | exact Nat.le_of_ble_eq_true rfl | exact (fun h => absurd h.1 (by decide)) | omega)) (by unfold tpW; (first | exact Nat.le_of_ble_eq_true rfl | exact (fun h => absurd h.1 (by decide)) | omega)), hf 95 34 (by unfold tpP; (first | exact Nat.le_of_ble_eq_true rfl | exact (fun h => absurd h.1 (by decide)) | omega)) (by unfold tpW; (first | exact Nat.le_of_ble_eq_true rfl | exact (fun h => absurd h.1 (by decide)) | omega))]; exact a7⟩, hw⟩
def exk (q : Nat × Nat) : Bool := (Nat.ble 64 q.1 && Nat.ble q.1 70) || (Nat.beq q.1 0 && Nat.beq q.2 15)
theorem exk_no {i j : Nat} (h1 : ¬ (64 ≤ i ∧ i ≤ 70)) (h2 : ¬ (i = 0 ∧ j = 14)) : ∀ n, n = 0 ∨ n = j + 1 → exk (i, n) = false := fun n hn => by
  cases h : exk (i, n) with
  | false => rfl
  | true =>
    simp only [exk, Bool.or_eq_true, Bool.and_eq_true, Nat.ble_eq, Nat.beq_eq] at h
    (first | exact Nat.le_of_ble_eq_true rfl | exact (fun h => absurd h.1 (by decide)) | omega)
def lqk (c : aCon) (mi : Nat) : Bool := lq c mi 0 0 && tpx exk (acW c)
theorem lx_keep {E : yE} (hE : yEok E) (hm : yman Om) : LX E 0 xm_18 xm_199 0 := fun X k mem hk hI => by
  have hI0 := hI
  obtain ⟨hG, hO, hT, hB, hW, ⟨hf1, hf2⟩, D, W, V, ⟨d1, d2, d3⟩, ⟨w1, w2, w3⟩, ⟨v1, v2, v3⟩, hkp, hhm⟩ := hI
  have kq : lqk ac_53 18 = true := by decide +kernel
  simp only [lqk, Bool.and_eq_true] at kq
  have C : yCon E 1000 xm_18 [(1, 0)] mem (fun r m => ∃ y, r = some (0, y) ∧ cW m 64 W ∧ w32 (m 0 14) = 1 ∧ w32 y = uK W) := x_keep hE (by decide) (fun r m _ T e14 er => ⟨r, rfl, T W w1, e14, er.trans w1.2.2.2.2.2.2.2.1⟩)
  refine yCon_mono (yCon_and (as_q (n := 0) (X := X) (as_53 yoc_Om hm) hE kq.1 rfl hG hO) C) (fun r1 m1 hm1 => ?_)
  obtain ⟨⟨⟨y1, rfl⟩, G1, O1, F1⟩, r1', n1, ⟨y1', rfl, T1, E1, A1⟩, al1, er1⟩ := hm1
  have ey1 : w32 y1 = w32 y1' := ydv_0 er1
  refine ⟨y1, rfl, ?_⟩
  have f1 : ∀ i j, tpP i j → ¬ (64 ≤ i ∧ i ≤ 70) → ¬ (i = 0 ∧ j = 14) → m1 i j = mem i j := fun i j hp a b => F1 i j (tpx_ok kq.2 hp (exk_no a b))
  have w2' : rW m1 0 W := rW_f (by decide) w2 (fun i j i1 i2 => f1 i j (by unfold tpP; (first | exact Nat.le_of_ble_eq_true rfl | exact (fun h => absurd h.1 (by decide)) | omega)) (by (first | exact Nat.le_of_ble_eq_true rfl | exact (fun h => absurd h.1 (by decide)) | omega)) (by (first | exact Nat.le_of_ble_eq_true rfl | exact (fun h => absurd h.1 (by decide)) | omega)))
  have C1 : yCon E 1000 xm_199 [(1, 95)] m1 (fun r m => (∃ y, r = some (0, y)) ∧ RQ m1 m) := c_keep hE (by decide) G1 O1 (fun r m h => ⟨⟨r, rfl⟩, h⟩)
  have C2 : yCon E 1000 xm_199 [(1, 95)] m1 (fun r m => ∃ y, r = some (0, y) ∧ (rW m 1 W ∧ rW m 0 W) ∧ w32 (m 95 49) = 1 ∧ m 95 61 = m1 95 61 ∧ w32 y = w32 (m 118 0)) := r_keep hE (by decide) (fun r m F T e er => ⟨r, rfl, T W w2', e, F 95 61 (by (first | exact Nat.le_of_ble_eq_true rfl | exact (fun h => absurd h.1 (by decide)) | omega)) (by (first | exact Nat.le_of_ble_eq_true rfl | exact (fun h => absurd h.1 (by decide)) | omega)), er⟩)
  refine yCon_mono (yCon_and C1 C2) (fun r m2 hm2 => ?_)
  obtain ⟨⟨⟨y2, rfl⟩, G2, O2, F2, F2'⟩, r2', n2, ⟨y2', rfl, ⟨U1, U0⟩, e49, e61, A2⟩, al2, er2⟩ := hm2
  have ey2 : w32 y2 = w32 y2' := ydv_0 er2
  have cu : ∀ i j, tpP i j → i < 95 → ¬ (64 ≤ i ∧ i ≤ 70) → ¬ (i = 0 ∧ j = 14) → m2 i j = mem i j := fun i j hp hi a b => by rw [F2 i j (Or.inl hi), f1 i j hp a b]
  refine ⟨y2, rfl, lx_e0 ?_ (LI_mk hI0 G2 O2 (fun i j hp hw => ?_) ⟨D, W, W, ⟨cDh_w d1 (fun c j ht => ?_), rDl_w d2 (fun i j n _ i1 i2 _ => ?_), d3⟩, ⟨cW_f w1 (fun i j i1 i2 => ?_) (fun j j1 j2 j3 => ?_), rW_al (by decide) U0 al2, uOk_le w3 (Nat.le_add_right k 6)⟩, ⟨cW_f (cW_al1 T1 al1) (fun i j i1 i2 => F2 i j (Or.inl (by (first | exact Nat.le_of_ble_eq_true rfl | exact (fun h => absurd h.1 (by decide)) | omega)))) (fun j _ _ _ => F2 64 j (Or.inl (by decide))), rW_al (by decide) U1 al2, fun _ => uOk_le w3 (Nat.le_add_right k 6)⟩, ?_, ?_⟩)⟩
  · rw [ey1, ey2, A1, A2]
    exact U0.2.2.2.2.2.2.2.1.symm
  · unfold tpP at hp
    unfold tpW at hw
    by_cases h95 : i = 95
    · subst h95
      rw [F2' j (by (first | exact Nat.le_of_ble_eq_true rfl | exact (fun h => absurd h.1 (by decide)) | omega)), f1 95 j (by unfold tpP; (first | exact Nat.le_of_ble_eq_true rfl | exact (fun h => absurd h.1 (by decide)) | omega)) (by (first | exact Nat.le_of_ble_eq_true rfl | exact (fun h => absurd h.1 (by decide)) | omega)) (by (first | exact Nat.le_of_ble_eq_true rfl | exact (fun h => absurd h.1 (by decide)) | omega))]
    · by_cases h96 : i = 96
      · subst h96
        rw [F2 96 j (Or.inr (by decide)), f1 96 j (by unfold tpP; (first | exact Nat.le_of_ble_eq_true rfl | exact (fun h => absurd h.1 (by decide)) | omega)) (by (first | exact Nat.le_of_ble_eq_true rfl | exact (fun h => absurd h.1 (by decide)) | omega)) (by (first | exact Nat.le_of_ble_eq_true rfl | exact (fun h => absurd h.1 (by decide)) | omega))]
      · exact cu i j (by unfold tpP; (first | exact Nat.le_of_ble_eq_true rfl | exact (fun h => absurd h.1 (by decide)) | omega)) (by (first | exact Nat.le_of_ble_eq_true rfl | exact (fun h => absurd h.1 (by decide)) | omega)) (by (first | exact Nat.le_of_ble_eq_true rfl | exact (fun h => absurd h.1 (by decide)) | omega)) (by (first | exact Nat.le_of_ble_eq_true rfl | exact (fun h => absurd h.1 (by decide)) | omega))
  · have := tkS_c ht
    rw [cu c j (by unfold tpP; (first | exact Nat.le_of_ble_eq_true rfl | exact (fun h => absurd h.1 (by decide)) | omega)) (by (first | exact Nat.le_of_ble_eq_true rfl | exact (fun h => absurd h.1 (by decide)) | omega)) (by (first | exact Nat.le_of_ble_eq_true rfl | exact (fun h => absurd h.1 (by decide)) | omega)) (by (first | exact Nat.le_of_ble_eq_true rfl | exact (fun h => absurd h.1 (by decide)) | omega))]
  · rw [F2 i j (Or.inr ⟨by (first | exact Nat.le_of_ble_eq_true rfl | exact (fun h => absurd h.1 (by decide)) | omega), by (first | exact Nat.le_of_ble_eq_true rfl | exact (fun h => absurd h.1 (by decide)) | omega)⟩), f1 i j (by unfold tpP; (first | exact Nat.le_of_ble_eq_true rfl | exact (fun h => absurd h.1 (by decide)) | omega)) (by (first | exact Nat.le_of_ble_eq_true rfl | exact (fun h => absurd h.1 (by decide)) | omega)) (by (first | exact Nat.le_of_ble_eq_true rfl | exact (fun h => absurd h.1 (by decide)) | omega))]
  · exact cu i j (by unfold tpP; (first | exact Nat.le_of_ble_eq_true rfl | exact (fun h => absurd h.1 (by decide)) | omega)) (by (first | exact Nat.le_of_ble_eq_true rfl | exact (fun h => absurd h.1 (by decide)) | omega)) (by (first | exact Nat.le_of_ble_eq_true rfl | exact (fun h => absurd h.1 (by decide)) | omega)) (by (first | exact Nat.le_of_ble_eq_true rfl | exact (fun h => absurd h.1 (by decide)) | omega))
  · exact cu 57 j (by unfold tpP; (first | exact Nat.le_of_ble_eq_true rfl | exact (fun h => absurd h.1 (by decide)) | omega)) (by (first | exact Nat.le_of_ble_eq_true rfl | exact (fun h => absurd h.1 (by decide)) | omega)) (by (first | exact Nat.le_of_ble_eq_true rfl | exact (fun h => absurd h.1 (by decide)) | omega)) (by (first | exact Nat.le_of_ble_eq_true rfl | exact (fun h => absurd h.1 (by decide)) | omega))
  · rw [F2 0 14 (Or.inl (by decide)), al1 0 14 rfl, E1, al2 95 49 rfl, e49]
  · rw [cu 71 1 (by unfold tpP; (first | exact Nat.le_of_ble_eq_true rfl | exact (fun h => absurd h.1 (by decide)) | omega)) (by decide) (by (first | exact Nat.le_of_ble_eq_true rfl | exact (fun h => absurd h.1 (by decide)) | omega)) (by (first | exact Nat.le_of_ble_eq_true rfl | exact (fun h => absurd h.1 (by decide)) | omega)), al2 95 61 rfl, e61, f1 95 61 (by unfold tpP; (first | exact Nat.le_of_ble_eq_true rfl | exact (fun h => absurd h.1 (by decide)) | omega)) (by (first | exact Nat.le_of_ble_eq_true rfl | exact (fun h => absurd h.1 (by decide)) | omega)) (by (first | exact Nat.le_of_ble_eq_true rfl | exact (fun h => absurd h.1 (by decide)) | omega))]
    exact hhm
theorem lx_back {E : yE} (hE : yEok E) (hm : yman Om) : LX E 0 xm_1 xm_144 0 := fun X k mem hk hI => by
  have hI0 := hI
  obtain ⟨hG, hO, hT, hB, hW, ⟨hf1, hf2⟩, D, W, V, ⟨d1, d2, d3⟩, ⟨w1, w2, w3⟩, ⟨v1, v2, v3⟩, hkp, hhm⟩ := hI
  -- the world behind
  have C : yCon E 1000 xm_1 [(1, 0)] mem (fun r m => ∃ y, r = some (0, y) ∧ (w32 (mem 0 14) = 0 → w32 y = -1 ∧ cW m 57 W) ∧ (¬ w32 (mem 0 14) = 0 → w32 y = uK V ∧ cW m 57 V)) := x_back hE (by decide) (fun z => ⟨-1, rfl, fun _ => ⟨w32c_m1, w1⟩, fun c => absurd z c⟩) (fun z r m T er => ⟨r, rfl, fun c => absurd c z, fun _ => ⟨er.trans (T V v1).2.2.2.2.2.2.2.1, T V v1⟩⟩)
  refine yCon_mono (yCon_and (as_cq (mi := 1) (n := 0) (as_0 yoc_Om hm) hE (by decide +kernel) rfl X mem hG hO) C) (fun r1 m1 hm1 => ?_)
  obtain ⟨⟨⟨y1, rfl⟩, G1, O1, F1⟩, r1', n1, ⟨y1', rfl, Z1, N1⟩, al1, er1⟩ := hm1
  have ey1 : w32 y1 = w32 y1' := ydv_0 er1
  refine ⟨y1, rfl, ?_⟩
  have fr1 : ∀ i j, 95 ≤ i → tpP i j → m1 i j = mem i j := fun i j i1 hp => F1 i j hp (by (first | exact Nat.le_of_ble_eq_true rfl | exact (fun h => absurd h.1 (by decide)) | omega))
  have w2' : rW m1 0 W := rW_f (by decide) w2 (fun i j i1 i2 => fr1 i j (by (first | exact Nat.le_of_ble_eq_true rfl | exact (fun h => absurd h.1 (by decide)) | omega)) (by unfold tpP; (first | exact Nat.le_of_ble_eq_true rfl | exact (fun h => absurd h.1 (by decide)) | omega)))
  have v2' : rW m1 1 V := rW_f (by decide) v2 (fun i j i1 i2 => fr1 i j (by (first | exact Nat.le_of_ble_eq_true rfl | exact (fun h => absurd h.1 (by decide)) | omega)) (by unfold tpP; (first | exact Nat.le_of_ble_eq_true rfl | exact (fun h => absurd h.1 (by decide)) | omega)))
  have h49 : w32 (m1 95 49) = w32 (mem 0 14) := by rw [fr1 95 49 (by decide) (by unfold tpP; (first | exact Nat.le_of_ble_eq_true rfl | exact (fun h => absurd h.1 (by decide)) | omega)), hkp]
  have C1 : yCon E 1000 xm_144 [(1, 95)] m1 (fun r m => (∃ y, r = some (0, y)) ∧ RQ m1 m) := c_back hE (by decide) G1 O1 (fun r m h => ⟨⟨r, rfl⟩, h⟩)
  have C2 : yCon E 1000 xm_144 [(1, 95)] m1 (fun r m => ∃ y, r = some (0, y) ∧ (m 95 49 = m1 95 49 ∧ m 95 61 = m1 95 61) ∧ rW m 1 V ∧ (w32 (mem 0 14) = 0 → w32 y = -1 ∧ rW m 0 W) ∧ (¬ w32 (mem 0 14) = 0 → w32 y = uK V ∧ rW m 0 V)) := r_back hE (by decide) (fun z => ⟨-1, rfl, ⟨ysn (by (first | exact Nat.le_of_ble_eq_true rfl | exact (fun h => absurd h.1 (by decide)) | omega)), ysn (by (first | exact Nat.le_of_ble_eq_true rfl | exact (fun h => absurd h.1 (by decide)) | omega))⟩, rW_f (by decide) v2' (fun i j i1 i2 => ysn (by (first | exact Nat.le_of_ble_eq_true rfl | exact (fun h => absurd h.1 (by decide)) | omega))), fun _ => ⟨w32c_m1, rW_f (by decide) w2' (fun i j i1 i2 => ysn (by (first | exact Nat.le_of_ble_eq_true rfl | exact (fun h => absurd h.1 (by decide)) | omega)))⟩, fun c => absurd (h49.symm.trans z) c⟩) (fun z r m F T er => ⟨r, rfl, ⟨F 95 49 (by (first | exact Nat.le_of_ble_eq_true rfl | exact (fun h => absurd h.1 (by decide)) | omega)) (by (first | exact Nat.le_of_ble_eq_true rfl | exact (fun h => absurd h.1 (by decide)) | omega)), F 95 61 (by (first | exact Nat.le_of_ble_eq_true rfl | exact (fun h => absurd h.1 (by decide)) | omega)) (by (first | exact Nat.le_of_ble_eq_true rfl | exact (fun h => absurd h.1 (by decide)) | omega))⟩, (T V v2').2, fun c => absurd (h49.trans c) z, fun _ => ⟨er.trans (T V v2').1.2.2.2.2.2.2.2.1, (T V v2').1⟩⟩)
  refine yCon_mono (yCon_and C1 C2) (fun r m2 hm2 => ?_)
  obtain ⟨⟨⟨y2, rfl⟩, G2, O2, F2, F2'⟩, r2', n2, ⟨y2', rfl, ⟨e49, e61⟩, U1, Z2, N2⟩, al2, er2⟩ := hm2
  have ey2 : w32 y2 = w32 y2' := ydv_0 er2
  have cu : ∀ i j, tpP i j → i < 95 → ¬ (57 ≤ i ∧ i ≤ 63) → m2 i j = mem i j := fun i j hp hi a => by rw [F2 i j (Or.inl hi), F1 i j hp a]
  have e14 : m2 0 14 = mem 0 14 := cu 0 14 (by unfold tpP; (first | exact Nat.le_of_ble_eq_true rfl | exact (fun h => absurd h.1 (by decide)) | omega)) (by decide) (by decide)
  have key : w32 y1 = w32 y2 ∧ ∃ U, cW m1 57 U ∧ rW m2 0 U ∧ uOk D k U := by
    by_cases z : w32 (mem 0 14) = 0
    · exact ⟨by rw [ey1, ey2, (Z1 z).1, (Z2 z).1], W, cW_al (Z1 z).2 al1, rW_al (by decide) (Z2 z).2 al2, w3⟩
    · exact ⟨by rw [ey1, ey2, (N1 z).1, (N2 z).1], V, cW_al (N1 z).2 al1, rW_al (by decide) (N2 z).2 al2, v3 z⟩
  obtain ⟨ke, U, u1, u2, u3⟩ := key
  refine ⟨y2, rfl, lx_e0 ke (LI_mk hI0 G2 O2 (fun i j hp hw => ?_) ⟨D, U, V, ⟨cDh_w d1 (fun c j ht => ?_), rDl_w d2 (fun i j n _ i1 i2 _ => ?_), d3⟩, ⟨cW_f u1 (fun i j i1 i2 => F2 i j (Or.inl (by (first | exact Nat.le_of_ble_eq_true rfl | exact (fun h => absurd h.1 (by decide)) | omega)))) (fun j _ _ _ => F2 57 j (Or.inl (by decide))), u2, uOk_le u3 (Nat.le_add_right k 6)⟩, ⟨cW_f v1 (fun i j i1 i2 => ?_) (fun j j1 j2 j3 => ?_), rW_al (by decide) U1 al2, fun z => uOk_le (v3 (by rw [← e14]; exact z)) (Nat.le_add_right k 6)⟩, ?_, ?_⟩)⟩
  · unfold tpP at hp
    unfold tpW at hw
    by_cases h95 : i = 95
    · subst h95
      rw [F2' j (by (first | exact Nat.le_of_ble_eq_true rfl | exact (fun h => absurd h.1 (by decide)) | omega)), fr1 95 j (by (first | exact Nat.le_of_ble_eq_true rfl | exact (fun h => absurd h.1 (by decide)) | omega)) (by unfold tpP; (first | exact Nat.le_of_ble_eq_true rfl | exact (fun h => absurd h.1 (by decide)) | omega))]
    · by_cases h96 : i = 96
      · subst h96
        rw [F2 96 j (Or.inr (by decide)), fr1 96 j (by (first | exact Nat.le_of_ble_eq_true rfl | exact (fun h => absurd h.1 (by decide)) | omega)) (by unfold tpP; (first | exact Nat.le_of_ble_eq_true rfl | exact (fun h => absurd h.1 (by decide)) | omega))]
      · exact cu i j (by unfold tpP; (first | exact Nat.le_of_ble_eq_true rfl | exact (fun h => absurd h.1 (by decide)) | omega)) (by (first | exact Nat.le_of_ble_eq_true rfl | exact (fun h => absurd h.1 (by decide)) | omega)) (by (first | exact Nat.le_of_ble_eq_true rfl | exact (fun h => absurd h.1 (by decide)) | omega))
  · have := tkS_c ht
    rw [cu c j (by unfold tpP; (first | exact Nat.le_of_ble_eq_true rfl | exact (fun h => absurd h.1 (by decide)) | omega)) (by (first | exact Nat.le_of_ble_eq_true rfl | exact (fun h => absurd h.1 (by decide)) | omega)) (by (first | exact Nat.le_of_ble_eq_true rfl | exact (fun h => absurd h.1 (by decide)) | omega))]
  · rw [F2 i j (Or.inr ⟨by (first | exact Nat.le_of_ble_eq_true rfl | exact (fun h => absurd h.1 (by decide)) | omega), by (first | exact Nat.le_of_ble_eq_true rfl | exact (fun h => absurd h.1 (by decide)) | omega)⟩), fr1 i j (by (first | exact Nat.le_of_ble_eq_true rfl | exact (fun h => absurd h.1 (by decide)) | omega)) (by unfold tpP; (first | exact Nat.le_of_ble_eq_true rfl | exact (fun h => absurd h.1 (by decide)) | omega))]
  · exact cu i j (by unfold tpP; (first | exact Nat.le_of_ble_eq_true rfl | exact (fun h => absurd h.1 (by decide)) | omega)) (by (first | exact Nat.le_of_ble_eq_true rfl | exact (fun h => absurd h.1 (by decide)) | omega)) (by (first | exact Nat.le_of_ble_eq_true rfl | exact (fun h => absurd h.1 (by decide)) | omega))
  · exact cu 64 j (by unfold tpP; (first | exact Nat.le_of_ble_eq_true rfl | exact (fun h => absurd h.1 (by decide)) | omega)) (by (first | exact Nat.le_of_ble_eq_true rfl | exact (fun h => absurd h.1 (by decide)) | omega)) (by (first | exact Nat.le_of_ble_eq_true rfl | exact (fun h => absurd h.1 (by decide)) | omega))
  · rw [e14, al2 95 49 rfl, e49, fr1 95 49 (by (first | exact Nat.le_of_ble_eq_true rfl | exact (fun h => absurd h.1 (by decide)) | omega)) (by unfold tpP; (first | exact Nat.le_of_ble_eq_true rfl | exact (fun h => absurd h.1 (by decide)) | omega))]
    exact hkp
  · rw [cu 71 1 (by unfold tpP; (first | exact Nat.le_of_ble_eq_true rfl | exact (fun h => absurd h.1 (by decide)) | omega)) (by decide) (by (first | exact Nat.le_of_ble_eq_true rfl | exact (fun h => absurd h.1 (by decide)) | omega)), al2 95 61 rfl, e61, fr1 95 61 (by (first | exact Nat.le_of_ble_eq_true rfl | exact (fun h => absurd h.1 (by decide)) | omega)) (by unfold tpP; (first | exact Nat.le_of_ble_eq_true rfl | exact (fun h => absurd h.1 (by decide)) | omega))]
    exact hhm
end
section
/-! tavern, known, run and bar, on both sides -/
section MQ
variable {E : yE} {mem : yMem} {Q : Option yV → yMem → Prop} {D : dDc} {W : dU} {k t e b : Nat} {T V A B VE : Int}
theorem x_known (hE : yEok E) {D0 : Nat} (hD : 1 ≤ D0) (hQ : ∀ r m, ((-1 ≤ w32 V ∧ w32 V ≤ w32 (mem 71 1)) → w32 r = 1) → (¬ (-1 ≤ w32 V ∧ w32 V ≤ w32 (mem 71 1)) → w32 r = 0) → Q (some (0, r)) m) : yCon E D0 xm_19 [(1, 0), (0, V)] mem Q := by
  obtain ⟨d, rfl⟩ := Nat.exists_eq_add_of_le' hD
  have bad : ¬ (-1 ≤ w32 V ∧ w32 V ≤ w32 (mem 71 1)) → Q (some (0, 0)) mem := fun z => hQ _ mem (fun c => absurd c z) (fun _ => w32c_0)
  refine e_19 ?_
  refine zvc_ok hE 90 [] _ _ _ _ _ _ _ xmo_19 ?_
  simp only [ynok_30, ynok_31, w32c_0, w32c_1, w32c_2, w32c_3, w32c_4, w32c_5, w32c_6, w32c_7, w32c_8, w32c_9, w32c_10, w32c_11, w32c_12, w32c_13, w32c_14, w32c_m1, w32c_m2, w32c_118, Int.reduceAdd, Int.reduceSub, Int.reduceMul, yput_s, yput_n, znl_n, znl_0, znl_1, znl_4, ysum_n, ysum_0, ysum_1, ysum_4, true_and, and_true, Nat.reduceAdd, Nat.reduceLeDiff, true_implies, eq_self, true_or, or_true, or_false, false_or, not_true_eq_false, not_false_eq_true, false_implies, implies_true, yset_s, yset_o, yset_d, ne_eq, Nat.reduceEqDiff, Int.reduceToNat, Int.reduceEq, Int.reduceLE, Int.reduceLT, Classical.not_not, Nat.reduceLT, ↓zvk_s, ↓zvk_n, ↓s_19_0, ↓s_19_1, ↓s_19_2, ↓s_19_5, ↓s_19_6, ↓s_19_7, ↓s_19_10, ↓s_19_13, ↓s_19_16, ↓s_19_17, ↓s_19_18, ↓s_19_19, ↓s_19_22, ↓s_19_23_57, ↓s_19_23_64, ↓s_19_26, ↓s_19_27, zio_0, zio_64, zio_71, zio_57]
  refine ⟨fun z => ?_, fun z1 => ⟨fun z2 => ?_, fun z => ?_⟩⟩
  · exact bad (by (first | exact Nat.le_of_ble_eq_true rfl | exact (fun h => absurd h.1 (by decide)) | omega))
  · exact hQ _ _ (fun _ => w32c_1) (fun c => absurd ⟨by (first | exact Nat.le_of_ble_eq_true rfl | exact (fun h => absurd h.1 (by decide)) | omega), by (first | exact Nat.le_of_ble_eq_true rfl | exact (fun h => absurd h.1 (by decide)) | omega)⟩ c)
  · exact bad (by (first | exact Nat.le_of_ble_eq_true rfl | exact (fun h => absurd h.1 (by decide)) | omega))
theorem r_known (hE : yEok E) {D0 : Nat} (hD : 1 ≤ D0) (hQ : ∀ r m, ((-1 ≤ w32 V ∧ w32 V ≤ w32 (mem 95 61)) → w32 r = 1) → (¬ (-1 ≤ w32 V ∧ w32 V ≤ w32 (mem 95 61)) → w32 r = 0) → Q (some (0, r)) m) : yCon E D0 xm_201 [(1, 95), (0, V)] mem Q := by
  obtain ⟨d, rfl⟩ := Nat.exists_eq_add_of_le' hD
  have bad : ¬ (-1 ≤ w32 V ∧ w32 V ≤ w32 (mem 95 61)) → Q (some (0, 0)) (yset mem 95 0 0) := fun z => hQ _ _ (fun c => absurd c z) (fun _ => w32c_0)
  refine e_201 ?_
  refine zvc_ok hE 90 [] _ _ _ _ _ _ _ xmo_201 ?_
  simp only [ynok_30, ynok_31, w32c_0, w32c_1, w32c_2, w32c_3, w32c_4, w32c_5, w32c_6, w32c_7, w32c_8, w32c_9, w32c_10, w32c_11, w32c_12, w32c_13, w32c_14, w32c_m1, w32c_m2, w32c_118, Int.reduceAdd, Int.reduceSub, Int.reduceMul, yput_s, yput_n, znl_n, znl_0, znl_1, znl_4, ysum_n, ysum_0, ysum_1, ysum_4, true_and, and_true, Nat.reduceAdd, Nat.reduceLeDiff, true_implies, eq_self, true_or, or_true, or_false, false_or, not_true_eq_false, not_false_eq_true, false_implies, implies_true, yset_s, yset_o, yset_d, ne_eq, Nat.reduceEqDiff, Int.reduceToNat, Int.reduceEq, Int.reduceLE, Int.reduceLT, Classical.not_not, Nat.reduceLT, ↓zvk_s, ↓zvk_n, ↓s_201_0, ↓s_201_1, ↓s_201_2, ↓s_201_5, ↓s_201_6, ↓s_201_7, ↓s_201_10, ↓s_201_11, ↓s_201_12, ↓s_201_15, ↓s_201_18, ↓s_201_19, ↓s_201_20, ↓s_201_21, ↓s_201_22, ↓s_201_25, ↓s_201_26, zio_95]
  refine ⟨fun z => ?_, fun z1 => ⟨fun z2 => ?_, fun z => ?_⟩⟩
  · exact bad (by (first | exact Nat.le_of_ble_eq_true rfl | exact (fun h => absurd h.1 (by decide)) | omega))
  · exact hQ _ _ (fun _ => w32c_1) (fun c => absurd ⟨by (first | exact Nat.le_of_ble_eq_true rfl | exact (fun h => absurd h.1 (by decide)) | omega), by (first | exact Nat.le_of_ble_eq_true rfl | exact (fun h => absurd h.1 (by decide)) | omega)⟩ c)
  · exact bad (by (first | exact Nat.le_of_ble_eq_true rfl | exact (fun h => absurd h.1 (by decide)) | omega))
end MQ
def lqn (c : aCon) (mi z n : Nat) : Bool := lq c mi z n && tp3 (acW c)
theorem lx_known {E : yE} (hE : yEok E) (hm : yman Om) : LX E 1 xm_19 xm_201 0 := fun X k mem hk hI => by
  have k1 : lqn ac_54 19 0 1 = true := by decide +kernel
  have k2 : lqn ac_111 201 95 1 = true := by decide +kernel
  simp only [lqn, Bool.and_eq_true] at k1 k2
  have C : yCon E 1000 xm_19 [(1, 0), (0, X 1)] mem (fun r m => ∃ y, r = some (0, y) ∧ ((-1 ≤ w32 (X 1) ∧ w32 (X 1) ≤ w32 (mem 71 1)) → w32 y = 1) ∧ (¬ (-1 ≤ w32 (X 1) ∧ w32 (X 1) ≤ w32 (mem 71 1)) → w32 y = 0)) := x_known hE (by decide) (fun r m a b => ⟨r, rfl, a, b⟩)
  refine yCon_mono (yCon_and (as_q (n := 1) (X := X) (as_54 yoc_Om hm) hE k1.1 rfl hI.1 hI.2.1) C) (fun r1 m1 hm1 => ?_)
  obtain ⟨⟨⟨y1, rfl⟩, G1, O1, F1⟩, r1', n1, ⟨y1', rfl, A1, B1⟩, al1, er1⟩ := hm1
  have ey1 : w32 y1 = w32 y1' := ydv_0 er1
  refine ⟨y1, rfl, ?_⟩
  have I1 : LI k m1 := LI_a (Nat.le_refl k) hI G1 O1 F1 k1.2
  have eh : w32 (mem 71 1) = w32 (m1 95 61) := by
    obtain ⟨_, _, _, _, _, _, D, W, V, _, _, _, _, hhm⟩ := I1
    rw [← hhm, F1 71 1 (tp3_ok k1.2 (by unfold tpP; (first | exact Nat.le_of_ble_eq_true rfl | exact (fun h => absurd h.1 (by decide)) | omega)))]
  have C2 : yCon E 1000 xm_201 [(1, 95), (0, X 1)] m1 (fun r m => ∃ y, r = some (0, y) ∧ ((-1 ≤ w32 (X 1) ∧ w32 (X 1) ≤ w32 (m1 95 61)) → w32 y = 1) ∧ (¬ (-1 ≤ w32 (X 1) ∧ w32 (X 1) ≤ w32 (m1 95 61)) → w32 y = 0)) := r_known hE (by decide) (fun r m a b => ⟨r, rfl, a, b⟩)
  refine yCon_mono (yCon_and (as_q (n := 1) (X := X) (as_111 yoc_Om hm) hE k2.1 rfl I1.1 I1.2.1) C2) (fun r m2 hm2 => ?_)
  obtain ⟨⟨⟨y2, rfl⟩, G2, O2, F2⟩, r2', n2, ⟨y2', rfl, A2, B2⟩, al2, er2⟩ := hm2
  have ey2 : w32 y2 = w32 y2' := ydv_0 er2
  rw [← eh] at A2 B2
  refine ⟨y2, rfl, lx_e0 ?_ (LI_a (Nat.le_add_right k 6) I1 G2 O2 F2 k2.2)⟩
  rw [ey1, ey2]
  by_cases c : -1 ≤ w32 (X 1) ∧ w32 (X 1) ≤ w32 (mem 71 1)
  · rw [A1 c, A2 c]
  · rw [B1 c, B2 c]
end
section
theorem xofWH {l : Launch} {y : MethodName} {ws ws' : List Cond} {rm : Room} {Pc : Array Value → State → Prop} {Qc : Array Value → State → Outcome → State → Prop} {mc ms : Nat} {free : Addr → Prop} {cc : ByteArray} {maxL : Nat} {ret : Option FieldType} {hh : List (Nat × Nat × Nat × Nat)}
    (hy : plainName y.cls = true) (hw : ws = Cond.codeWith y cc maxL ret hh :: ws')
    (body : ∀ p e s m args below meth c s₁, BodyLoose p l y (headSpec ws rm) cc maxL ret e s m args below meth c s₁ → c.maxLocals = maxL → c.exceptionTable.toList = tableOf hh → Pc args s →
      W p l e (headSpec ws rm).room s m args below meth c s.heap [] 0 0 (MQ below Qc args s mc ms free) (entryFrame m args maxL)) : Met l y ws rm Pc Qc mc ms free := by
  have hin : Cond.codeWith y cc maxL ret hh ∈ ws := by rw [hw]; exact List.mem_cons_self
  refine MetFree.of_bodyS (code := cc) (maxLocals := maxL) (ret := ret) hy ?_ ?_
  · intro args s m h hn
    obtain ⟨m9, meth, c, hn9, h1, h2, h3, h4, -, h5, h6, -⟩ := Cond.codeWith_spec (atoms_spec (ws := ws) h _ hin)
    cases Option.some.inj (hn9.symm.trans hn)
    exact ⟨meth, c, h1, h2, h3, h4, h5, h6⟩
  · intro p e s m args below meth c s₁ B hml hP _
    have hh0 : s₁.heap = s.heap := by rw [B.state]; rfl
    have ht := vx_table (p := p) (x := y) B (atoms_spec (ws := ws) B.pre _ hin)
    obtain ⟨t, a1, o, b1, b2, b3⟩ := body p e s m args below meth c s₁ B hml ht hP s₁ hh0 (Stand.of_body B)
    exact ⟨t, o, a1, b1, b2, ⟨b3.1, b3.2⟩⟩
abbrev xLW : List Cond := .codeWith yL_look cL_look 5 (some .int) [(0, 10, 13, 13), (0, 10, 17, 15)] :: xgt
abbrev llRm : Room := { frames := 20, cells := 1, slots := 6, locals := 2000 }
abbrev llAs (E : yE) (x y : Int) : List Value := [.ref (yb E + 0), .int (iI x), .int (iI y), .ref (yb E + 143)]
abbrev lllv (x y : Int) : yL := [(0, (1, 0)), (1, (0, x)), (2, (0, y)), (3, (1, 143))]
/-- what the law's own look leaves -/
def lkP (mem : yMem) (r : Option yV) (m : yMem) : Prop := (∃ v, r = some (0, v)) ∧ (m = mem ∨ ∃ v, m = yset mem 143 0 v)
theorem llo {pc : Nat} {op : xOp} (h : xfind xk_LL pc = some op) : xok xmt xm_LL pc op := xo_LL _ (xfind_mem h)
theorem ll_8 {E : yE} (hE : yEok E) {R : Room} {mem : yMem} {ce sl : Nat} (hR : yRm R 2 ce sl) {x y v : Int} : yG E R xm_LL 8 (lllv x y) [(0, v), (0, 0), (1, 143)] mem ce sl (lkP mem) := by
  refine yo_i2l (nx := 9) hE hR (llo rfl) ?_
  refine yo_lst (nx := 10) (i := 143) (n := 1) (rs := []) (j := 0) hE hR (llo rfl) rfl (by decide) (by decide) ?_
  refine yo_go (nx := 21) hE hR (llo rfl) ?_
  refine yo_c (nx := 22) (a := 0) hE hR (llo rfl) ?_
  exact yo_rt (nx := 0) (b := 0) hE hR (llo rfl) (Or.inl rfl) ⟨⟨_, rfl⟩, Or.inr ⟨_, rfl⟩⟩
set_option maxHeartbeats 4000000 in
theorem y_lklaw {E : yE} (hE : yEok E) (hnc : ∀ s, yEX E s → va_Nc "java/util/NoSuchElementException" "java/lang/IndexOutOfBoundsException" s) {mem : yMem} (hG : aGok mem) (x y : Int) (sz : Nat) (hb : yb E + ysh.length ≤ sz) : Met (yl E) yL_look xLW llRm (va_Pc (llAs E x y) (yPp E mem sz)) (fun _ => yQp E sz (lkP mem)) 1 6 (xA (yb E) ysh.length sz) := by
  refine xofWH (cc := cL_look) (maxL := 5) (ret := some .int) (hh := [(0, 10, 13, 13), (0, 10, 17, 15)]) (by decide +kernel) rfl ?_
  intro p e s m args below meth c s₁ B hml htab hvv
  obtain ⟨rfl, hPp⟩ := hvv
  have hts := atoms_spec (ws := xLW) B.pre
  have hC : yCtx E xm_LL p s m (llAs E x y).toArray meth c (xA (yb E) ysh.length sz) := yw_ctx B rfl rfl hml rfl rfl (fun w hw => hts w (List.mem_cons_of_mem _ hw)) hb hPp
  have hPp0 := hPp
  obtain ⟨hsz, hP, hK, hEX⟩ := hPp
  have hl := lv_entry (llAs E x y) (n := 5) (Nat.le_of_ble_eq_true rfl)
  rw [lg_entry_eq]
  generalize (lg_sl (llAs E x y) ++ List.replicate (5 - (lg_sl (llAs E x y)).length) Slot.unset).toArray = ls at hl ⊢
  have hl : lv_has ls 5 (ydL E (lllv x y)) := hl
  have C := hC.1.1
  have hr := B.returns
  refine lv_aload_n C.1 C.2.1 dL_look_0 rfl (lv_at hl 3 rfl) ?_
  refine lv_iconst (v := 0) C.1 C.2.1 dL_look_1 (by decide +kernel) ?_
  refine lv_aload_n C.1 C.2.1 dL_look_2 rfl (lv_at hl 0 rfl) ?_
  refine lv_iload_n C.1 C.2.1 dL_look_3 rfl (lv_at hl 1 rfl) ?_
  refine lv_iload_n C.1 C.2.1 dL_look_4 rfl (lv_at hl 2 rfl) ?_
  have hrc := va_recv hK hP (show vwCl[11]? = some (RX11, TX11, 15) from rfl) (yW_at (E := E) (mem := mem) (show ysh[0]? = some (.inr (11, _)) from rfl))
  have hGw : ∀ w ∈ lkWs, w ∈ xgt := fun w hw => by
    rcases List.mem_cons.mp hw with rfl | hw
    · exact (xwm 1302 (by decide +kernel) (by decide +kernel))
    · exact hw
  refine vx_calli (vx_runV (As := [.int (iI x), .int (iI y)]) (rest := [.int 0, .ref (yb E + 143)]) (n := 2) (bytes := cX11_look) (maxL := 3) (ret := some .int) (C := RX11) ⟨C.1, C.2.1, hml, C.2.2.1, C.2.2.2⟩ (y_look hE hG x y sz hb) ⟨callB_of (ws' := xgt) 2 C.2.2.2 (xgt_in' hGw) rfl rfl rfl (C.2.2.2 _ (xwm 116 (by decide +kernel) (by decide +kernel))) (C.2.2.2 _ (xwm 1299 (by decide +kernel) (by decide +kernel))) ⟨by decide, by decide, by decide +kernel⟩ ⟨Nat.le_of_ble_eq_true rfl, Nat.le_of_ble_eq_true rfl⟩, C.2.2.2 _ (xwm 1300 (by decide +kernel) (by decide +kernel)), C.2.2.2 _ (xwm 1301 (by decide +kernel) (by decide +kernel))⟩ ⟨yPp_blind hE, hrc, fun U hU hW => ⟨rfl, hsz ▸ yPp_at hC hE hP va_S.rf U hU hW⟩⟩ rfl rfl hl.1 rfl (lv_room (Nat.le_of_ble_eq_true rfl)) dL_look_5 ⟨Nat.le_of_ble_eq_true rfl, Nat.le_of_ble_eq_true rfl⟩) (va_S.rf (A := xA (yb E) ysh.length sz)) (fun q _ h => h) (fun q h => h) (fun q _ h => h) ?_ (fun r u t H1 locs1 ht hvm _ hB hz1 hk1 hS1 => ?_)
  · intro C0 ce q9 u t H1 locs1 ht hvm _ hB hz1 hk1 hS1 hce hcv hcl
    obtain ⟨hC0, hP1⟩ := hB
    rw [ht] at hP1
    have hF := (hE.2.2.2 s hEX)
    have fin : ∀ (v : Int) (t2 : State), t2.heap = H1 → yQp E sz (lkP mem) s (.returned (some (.int (iI v)))) t2 := fun v t2 ht2 => ⟨some (0, v), mem, ⟨⟨v, rfl⟩, Or.inl rfl⟩, rfl, by rw [ht2]; exact hP1, hS1.F ht2⟩
    rcases hC0 with rfl | rfl
    · have hcast : (Cond.castable "java/lang/IndexOutOfBoundsException" "java/lang/IndexOutOfBoundsException").before (llAs E x y).toArray s = true := va_Nw.use rfl (hF.2.2.2.2.2.2.2.2.2.2.1 _ (by decide +kernel))
      refine vx_catch C.2.2.1 [] ⟨0, 10, 13, 13⟩ [⟨0, 10, 17, 15⟩] (by rw [htab]; rfl) (fun z hz => by cases hz) (by decide) (by decide) (C.2.2.2 _ (xwm 1297 (by decide +kernel) (by decide +kernel))) hcast hce hcv hcl ?_
      refine lv_astore (lv' := (4, .ref q9) :: ydL E (lllv x y)) C.1 C.2.1 dL_look_13 hl (by decide) rfl (fun ls hl => ?_)
      refine lv_iconst (v := 1) C.1 C.2.1 dL_look_15 (by decide +kernel) ?_
      refine W.widen (k := 1) (n := 6) (by decide) (by decide) ?_
      exact W.iret (v := 1) C.1 C.2.1 hr (fun t2 ht2 _ => fin 1 t2 ht2) hS1.2.2 dL_look_16 B.notSynchronized
    · have hcast : (Cond.castable "java/util/NoSuchElementException" "java/util/NoSuchElementException").before (llAs E x y).toArray s = true := va_Nw.use rfl (hF.2.2.2.2.2.2.2.2.2.2.2.2.2 _ (by decide +kernel))
      refine vx_catch C.2.2.1 [⟨0, 10, 13, 13⟩] ⟨0, 10, 17, 15⟩ [] (by rw [htab]; rfl) (fun z hz => ?_) (by decide) (by decide) (C.2.2.2 _ (xwm 1298 (by decide +kernel) (by decide +kernel))) hcast hce hcv hcl ?_
      · simp only [List.mem_cons, List.not_mem_nil, or_false] at hz
        subst hz
        exact Or.inr ⟨by decide, "java/lang/IndexOutOfBoundsException", C.2.2.2 _ (xwm 1297 (by decide +kernel) (by decide +kernel)), hnc s hEX⟩
      refine lv_astore (lv' := (4, .ref q9) :: ydL E (lllv x y)) C.1 C.2.1 dL_look_17 hl (by decide) rfl (fun ls hl => ?_)
      refine lv_iconst (v := 2) C.1 C.2.1 dL_look_19 (by decide +kernel) ?_
      refine W.widen (k := 1) (n := 6) (by decide) (by decide) ?_
      exact W.iret (v := 2) C.1 C.2.1 hr (fun t2 ht2 _ => fin 2 t2 ht2) hS1.2.2 dL_look_20 B.notSynchronized
  · rw [ht] at hB
    have := ll_8 (E := E) hE (R := (headSpec xLW llRm).room) (mem := mem) (ce := 0 + 1) (sl := 0 + 6) ⟨⟨by decide, by decide⟩, by decide, by decide⟩ (x := x) (y := y) (v := r.toInt) p e s m (llAs E x y).toArray below meth c (xA (yb E) ysh.length sz) (fun _ => yQp E sz (lkP mem)) hC (fun r m9 t k1 k2 k3 => ⟨r, m9, k1, rfl, k2, k3⟩) H1 locs1 ls hl hB hS1
    rw [show ([(0, r.toInt), (0, 0), (1, 143)] : List yV).map (ydv E) = [.int r, .int 0, .ref (yb E + 143)] by show [Value.int (iI r.toInt), Value.int (iI 0), Value.ref (yb E + 143)] = _; rw [iI_t]; rfl] at this
    exact this
end
section
/-! THE LAW: its loop, call by call -/
def lSc (E : yE) (L : Nat) (xs : Nat → Int32) : Prop := ∀ s, yEX E s → va_X (ysa E 50) L xs s s.heap ∧ ysa E 50 < yb E
abbrev llaw (i : Int) : yL := [(4, (0, i)), (3, (1, 143)), (2, (1, 95)), (1, (1, 0)), (0, (5, 50))]
abbrev LG (E : yE) (i : Int) (pc : Nat) (st : List yV) (mem : yMem) (ce sl : Nat) (Post : Option yV → yMem → Prop) : Prop := yG E room_1 xm_L1 pc (llaw i) st mem ce sl Post
theorem l1o {pc : Nat} {op : xOp} (h : xfind xk_L1 pc = some op) : xok xmt xm_L1 pc op := xo_L1 _ (xfind_mem h)
def lop (pc a b c e : Nat) : Bool := match xfind xk_L1 pc with
  | some (a', b', c', e', []) => Nat.beq a' a && (Nat.beq b' b && (Nat.beq c' c && Nat.beq e' e))
  | _ => false
theorem lo1 {pc a b c e : Nat} (h : lop pc a b c e = true) : xok xmt xm_L1 pc (a, b, c, e, []) := by
  refine l1o ?_
  unfold lop at h
  split at h
  · next a' b' c' e' hf =>
    simp only [Bool.and_eq_true, Nat.beq_eq] at h
    obtain ⟨rfl, rfl, rfl, rfl⟩ := h
    exact hf
  · cases h
/-- an int of the script, of the run that begins at i -/
abbrev lX (xs : Nat → Int32) (i : Int) (k : Nat) : Int := (xs ((w32 i).toNat + k)).toInt
section LW
variable {E : yE} {L : Nat} {xs : Nat → Int32} {pc nx : Nat} {lv : yL} {st : List yV} {mem : yMem} {ce sl d : Nat} {Post : Option yV → yMem → Prop} {i : Int}
theorem l_sld (hS : lSc E L xs) (hL : L ≤ 3072) {j : Int} (hok : xok xmt xm_L1 pc (43, nx, 0, 0, [])) (h0 : 0 ≤ w32 j) (h1 : w32 j < (L : Int)) (h : yG E room_1 xm_L1 nx lv ((0, (xs (w32 j).toNat).toInt) :: st) mem ce sl Post) : yG E room_1 xm_L1 pc lv ((0, j) :: (5, 50) :: st) mem ce sl Post := by
  intro p e s m args below meth c A Qc hC hQ H locs ls hl hP hS'
  have := h p e s m args below meth c A Qc hC hQ H locs ls hl hP hS'
  obtain ⟨hX, hq⟩ := hS s hC.1.2.2.2.2.2.2.2.2.1
  rw [List.map_cons] at this
  rw [List.map_cons, List.map_cons]
  have e1 : ydv E (0, j) = .int (nI (w32 j).toNat) := by
    show Value.int (iI j) = _
    rw [← iI_n, Int.toNat_of_nonneg h0, iI_w]
  have e2 : ydv E (0, (xs (w32 j).toNat).toInt) = .int (xs (w32 j).toNat) := by
    show Value.int (iI _) = _
    rw [iI_t]
  rw [e2] at this
  rw [e1]
  have hb := hC.1.2.2.2.2.2.2.2.2.2
  exact hok p (yl E) e room_1 s m args below meth c H locs ce sl _ ls _ hC.1.1 (ysa E 50) L xs A hX (by (first | exact Nat.le_of_ble_eq_true rfl | exact (fun h => absurd h.1 (by decide)) | omega)) (fun z => by have := hC.1.2.2.2.2.1 _ z; (first | exact Nat.le_of_ble_eq_true rfl | exact (fun h => absurd h.1 (by decide)) | omega)) hS' (w32 j).toNat (by (first | exact Nat.le_of_ble_eq_true rfl | exact (fun h => absurd h.1 (by decide)) | omega)) (by (first | exact Nat.le_of_ble_eq_true rfl | exact (fun h => absurd h.1 (by decide)) | omega)) (by (first | exact Nat.le_of_ble_eq_true rfl | exact (fun h => absurd h.1 (by decide)) | omega)) this
theorem l_slen (hS : lSc E L xs) (hok : xok xmt xm_L1 pc (42, nx, 0, 0, [])) (h : yG E room_1 xm_L1 nx lv ((0, (L : Int)) :: st) mem ce sl Post) : yG E room_1 xm_L1 pc lv ((5, 50) :: st) mem ce sl Post := by
  intro p e s m args below meth c A Qc hC hQ H locs ls hl hP hS'
  have := h p e s m args below meth c A Qc hC hQ H locs ls hl hP hS'
  obtain ⟨hX, hq⟩ := hS s hC.1.2.2.2.2.2.2.2.2.1
  rw [List.map_cons] at this ⊢
  have e2 : ydv E (0, (L : Int)) = .int (nI L) := by
    show Value.int (iI _) = _
    rw [iI_n]
  rw [e2] at this
  have hb := hC.1.2.2.2.2.2.2.2.2.2
  exact hok p (yl E) e room_1 s m args below meth c H locs ce sl _ ls _ hC.1.1 (ysa E 50) L xs A hX (by (first | exact Nat.le_of_ble_eq_true rfl | exact (fun h => absurd h.1 (by decide)) | omega)) (fun z => by have := hC.1.2.2.2.2.1 _ z; (first | exact Nat.le_of_ble_eq_true rfl | exact (fun h => absurd h.1 (by decide)) | omega)) hS' this
def largb (pc k : Nat) : Bool := lop pc 2 (pc + 1) 1 0 && (lop (pc + 1) 2 (pc + 3) 0 4 && (lop (pc + 3) 0 (pc + 4) k 0 && (lop (pc + 4) 5 (pc + 5) 0 0 && lop (pc + 5) 43 (pc + 6) 0 0)))
theorem l_cI {k : Nat} (h : k < 100) : cI k = (k : Int) := by
  unfold cI
  rw [if_pos (by rw [Nat.blt_eq]; (first | exact Nat.le_of_ble_eq_true rfl | exact (fun h => absurd h.1 (by decide)) | omega))]
theorem l_arg (hE : yEok E) (hR : yRm room_1 d ce sl) (hS : lSc E L xs) (hL : L ≤ 3072) {k : Nat} (hk : k < 6) (h0 : 0 ≤ w32 i) (h6 : w32 i + 6 ≤ (L : Int)) (hb : largb pc k = true) (h : LG E i (pc + 6) ((0, lX xs i k) :: st) mem ce sl Post) : LG E i pc st mem ce sl Post := by
  simp only [largb, Bool.and_eq_true] at hb
  obtain ⟨a1, a2, a3, a4, a5⟩ := hb
  have ec := l_cI (show k < 100 by (first | exact Nat.le_of_ble_eq_true rfl | exact (fun h => absurd h.1 (by decide)) | omega))
  have ek : w32 (i + cI k) = w32 i + (k : Int) := by rw [ec, w32_ad (by rw [w32_of (x := (k : Int)) (by (first | exact Nat.le_of_ble_eq_true rfl | exact (fun h => absurd h.1 (by decide)) | omega)) (by (first | exact Nat.le_of_ble_eq_true rfl | exact (fun h => absurd h.1 (by decide)) | omega))]; (first | exact Nat.le_of_ble_eq_true rfl | exact (fun h => absurd h.1 (by decide)) | omega)) (by rw [w32_of (x := (k : Int)) (by (first | exact Nat.le_of_ble_eq_true rfl | exact (fun h => absurd h.1 (by decide)) | omega)) (by (first | exact Nat.le_of_ble_eq_true rfl | exact (fun h => absurd h.1 (by decide)) | omega))]; (first | exact Nat.le_of_ble_eq_true rfl | exact (fun h => absurd h.1 (by decide)) | omega)), w32_of (x := (k : Int)) (by (first | exact Nat.le_of_ble_eq_true rfl | exact (fun h => absurd h.1 (by decide)) | omega)) (by (first | exact Nat.le_of_ble_eq_true rfl | exact (fun h => absurd h.1 (by decide)) | omega))]
  refine yo_ld (v := (5, 50)) hE hR (lo1 a1) rfl rfl ?_
  refine yo_ld (v := (0, i)) hE hR (lo1 a2) rfl rfl ?_
  refine yo_c hE hR (lo1 a3) ?_
  refine yo_bin hE hR (lo1 a4) (by decide) ?_
  refine l_sld hS hL (lo1 a5) (show 0 ≤ w32 (i + cI k) by (first | exact Nat.le_of_ble_eq_true rfl | exact (fun h => absurd h.1 (by decide)) | omega)) (show w32 (i + cI k) < (L : Int) by (first | exact Nat.le_of_ble_eq_true rfl | exact (fun h => absurd h.1 (by decide)) | omega)) ?_
  rw [show (w32 (ybin 0 i (cI k))).toNat = (w32 i).toNat + k from (show (w32 (i + cI k)).toNat = (w32 i).toNat + k by (first | exact Nat.le_of_ble_eq_true rfl | exact (fun h => absurd h.1 (by decide)) | omega))]
  exact h
def largsb : Nat → Nat → Nat → Bool
  | 0, _, _ => true
  | n + 1, k, pc => largb pc k && largsb n (k + 1) (pc + 6)
theorem lav_len {X : Nat → Int} : ∀ n k, (lav X n k).length = n
  | 0, _ => rfl
  | n + 1, k => by rw [lav, List.length_cons, lav_len n]
theorem lav_sum {X : Nat → Int} : ∀ n k, ysum (lav X n k) = n
  | 0, _ => rfl
  | n + 1, k => by
    rw [lav, ysum, lav_sum n]
    show 1 + n = n + 1
    (first | exact Nat.le_of_ble_eq_true rfl | exact (fun h => absurd h.1 (by decide)) | omega)
theorem l_args (hE : yEok E) (hR : yRm room_1 d ce sl) (hS : lSc E L xs) (hL : L ≤ 3072) (h0 : 0 ≤ w32 i) (h6 : w32 i + 6 ≤ (L : Int)) : ∀ (n k pc : Nat) (st : List yV), largsb n k pc = true → k + n ≤ 6 → LG E i (pc + 6 * n) ((lav (lX xs i) n k).reverse ++ st) mem ce sl Post → LG E i pc st mem ce sl Post
  | 0, k, pc, st, _, _, h => h
  | n + 1, k, pc, st, hb, hk, h => by
    simp only [largsb, Bool.and_eq_true] at hb
    refine l_arg hE hR hS hL (k := k) (by (first | exact Nat.le_of_ble_eq_true rfl | exact (fun h => absurd h.1 (by decide)) | omega)) h0 h6 hb.1 (l_args hE hR hS hL h0 h6 n (k + 1) (pc + 6) _ hb.2 (by (first | exact Nat.le_of_ble_eq_true rfl | exact (fun h => absurd h.1 (by decide)) | omega)) ?_)
    rw [show pc + 6 + 6 * n = pc + 6 * (n + 1) by (first | exact Nat.le_of_ble_eq_true rfl | exact (fun h => absurd h.1 (by decide)) | omega)]
    rw [lav, List.reverse_cons, List.append_assoc] at h
    exact h
def lsegb (pc r n mi ci : Nat) : Bool := lop pc 2 (pc + 1) 1 r && (largsb n 1 (pc + 1) && lop (pc + 1 + 6 * n) 28 (pc + 1 + 6 * n + 3) mi ci)
theorem l_seg (hE : yEok E) (hR : yRm room_1 d ce sl) (hS : lSc E L xs) (hL : L ≤ 3072) (h0 : 0 ≤ w32 i) (h6 : w32 i + 6 ≤ (L : Int)) {r n mi ci z : Nat} {M' : xM} {fs rest : List yV} (hb : lsegb pc r n mi ci = true) (hn : n ≤ 5) (hr : ylk (llaw i) r = some (1, (z : Int))) (hmi : xmt[mi]? = some M') (hmn : xMn M' = n) (hml : n + 1 ≤ xMl M') (hml2 : xMl M' ≤ 45) (hK : ysh[z]? = some (.inr (ci, fs))) (hrest : ysum rest ≤ 8) (h : yCon E d M' ((1, (z : Int)) :: lav (lX xs i) n 1) mem (fun v mem' => LG E i (pc + 1 + 6 * n + 3) (yput rest v) mem' ce sl Post)) : LG E i pc rest mem ce sl Post := by
  simp only [lsegb, Bool.and_eq_true] at hb
  obtain ⟨a1, a2, a3⟩ := hb
  refine yo_ld (v := (1, (z : Int))) hE hR (lo1 a1) hr rfl ?_
  refine l_args hE hR hS hL h0 h6 n 1 (pc + 1) _ a2 (by (first | exact Nat.le_of_ble_eq_true rfl | exact (fun h => absurd h.1 (by decide)) | omega)) ?_
  refine yo_call (i := z) (avs := lav (lX xs i) n 1) hE hR (lo1 a3) hmi (by rw [lav_len, hmn]) hrest ?_ hml2 hK h
  rw [ysum, lav_sum]
  show 1 + n ≤ _
  (first | exact Nat.le_of_ble_eq_true rfl | exact (fun h => absurd h.1 (by decide)) | omega)
def lcaseb (pc n mi1 mi2 po : Nat) : Bool := lsegb pc 1 n mi1 11 && (lop (pc + 1 + 6 * n + 3) po (pc + 1 + 6 * n + 3 + 1) 0 0 && (lsegb (pc + 1 + 6 * n + 3 + 1) 2 n mi2 12 && (lop (pc + 1 + 6 * n + 3 + 1 + 1 + 6 * n + 3) po (pc + 1 + 6 * n + 3 + 1 + 1 + 6 * n + 3 + 1) 0 0 && lop (pc + 1 + 6 * n + 3 + 1 + 1 + 6 * n + 3 + 1) 14 1422 0 0)))
theorem l_pop (hE : yEok E) (hR : yRm room_1 d ce sl) {po t : Nat} {x : Int} (hpo : (po = 10 ∧ t = 0) ∨ (po = 69 ∧ t = 4)) (hok : xok xmt xm_L1 pc (po, nx, 0, 0, [])) (h : LG E i nx st mem ce sl Post) : LG E i pc ((t, x) :: st) mem ce sl Post := by
  rcases hpo with ⟨rfl, rfl⟩ | ⟨rfl, rfl⟩
  · exact yo_pop hE hR hok rfl h
  · exact yo_pop2 hE hR hok rfl h
theorem l_case (hE : yEok E) (hR : yRm room_1 d ce sl) (hS : lSc E L xs) (hL : L ≤ 3072) (h0 : 0 ≤ w32 i) (h6 : w32 i + 6 ≤ (L : Int)) {n mi1 mi2 po t : Nat} {M1 M2 : xM} (hb : lcaseb pc n mi1 mi2 po = true) (hn : n ≤ 5) (hpo : (po = 10 ∧ t = 0) ∨ (po = 69 ∧ t = 4)) (hm1 : xmt[mi1]? = some M1) (hm2 : xmt[mi2]? = some M2) (hk1 : xMn M1 = n ∧ n + 1 ≤ xMl M1 ∧ xMl M1 ≤ 45) (hk2 : xMn M2 = n ∧ n + 1 ≤ xMl M2 ∧ xMl M2 ≤ 45) {Nx : yMem → Prop} (hnx : ∀ m, Nx m → LG E i 1422 [] m ce sl Post)
    (h : yCon E d M1 ((1, ((0 : Nat) : Int)) :: lav (lX xs i) n 1) mem (fun r mem1 => (∃ x, r = some (t, x)) ∧ yCon E d M2 ((1, ((95 : Nat) : Int)) :: lav (lX xs i) n 1) mem1 (fun r mem2 => (∃ x, r = some (t, x)) ∧ Nx mem2))) : LG E i pc [] mem ce sl Post := by
  simp only [lcaseb, Bool.and_eq_true] at hb
  obtain ⟨b1, b2, b3, b4, b5⟩ := hb
  refine l_seg (z := 0) (rest := []) hE hR hS hL h0 h6 b1 hn rfl hm1 hk1.1 hk1.2.1 hk1.2.2 rfl (by decide) (yCon_mono h ?_)
  rintro r mem1 ⟨⟨x, rfl⟩, h2⟩
  refine l_pop hE hR hpo (lo1 b2) ?_
  refine l_seg (z := 95) (rest := []) hE hR hS hL h0 h6 b3 hn rfl hm2 hk2.1 hk2.2.1 hk2.2.2 rfl (by decide) (yCon_mono h2 ?_)
  rintro r mem2 ⟨⟨x, rfl⟩, h3⟩
  refine l_pop hE hR hpo (lo1 b4) ?_
  exact yo_go hE hR (lo1 b5) (hnx _ h3)
end LW
def lcmpb (pc n mi1 mi2 : Nat) : Bool := lsegb pc 1 n mi1 11 && (lsegb (pc + 1 + 6 * n + 3) 2 n mi2 12 && lop (pc + 1 + 6 * n + 3 + 1 + 6 * n + 3) 13 (pc + 1 + 6 * n + 3 + 1 + 6 * n + 3 + 3) 1422 0)
theorem l_cmp {E : yE} {L : Nat} {xs : Nat → Int32} {i : Int} {pc d ce sl : Nat} {mem : yMem} {Post : Option yV → yMem → Prop} (hE : yEok E) (hR : yRm room_1 d ce sl) (hS : lSc E L xs) (hL : L ≤ 3072) (h0 : 0 ≤ w32 i) (h6 : w32 i + 6 ≤ (L : Int)) {n mi1 mi2 : Nat} {M1 M2 : xM} (hb : lcmpb pc n mi1 mi2 = true) (hn : n ≤ 5) (hm1 : xmt[mi1]? = some M1) (hm2 : xmt[mi2]? = some M2) (hk1 : xMn M1 = n ∧ n + 1 ≤ xMl M1 ∧ xMl M1 ≤ 45) (hk2 : xMn M2 = n ∧ n + 1 ≤ xMl M2 ∧ xMl M2 ≤ 45) {Nx : yMem → Prop} (hnx : ∀ m, Nx m → LG E i 1422 [] m ce sl Post)
    (h : yCon E d M1 ((1, ((0 : Nat) : Int)) :: lav (lX xs i) n 1) mem (fun r mem1 => ∃ x, r = some (0, x) ∧ yCon E d M2 ((1, ((95 : Nat) : Int)) :: lav (lX xs i) n 1) mem1 (fun r2 mem2 => ∃ y, r2 = some (0, y) ∧ w32 x = w32 y ∧ Nx mem2))) : LG E i pc [] mem ce sl Post := by
  simp only [lcmpb, Bool.and_eq_true] at hb
  obtain ⟨b1, b2, b3⟩ := hb
  refine l_seg (z := 0) (rest := []) hE hR hS hL h0 h6 b1 hn rfl hm1 hk1.1 hk1.2.1 hk1.2.2 rfl (by decide) (yCon_mono h ?_)
  rintro r mem1 ⟨x, rfl, h2⟩
  refine l_seg (z := 95) (rest := [(0, x)]) hE hR hS hL h0 h6 b2 hn rfl hm2 hk2.1 hk2.2.1 hk2.2.2 rfl (Nat.le_of_ble_eq_true rfl) (yCon_mono h2 ?_)
  rintro r mem2 ⟨y, rfl, h3, h4⟩
  exact yo_cmp (c := 0) hE hR (lo1 b3) (fun _ => hnx _ h4) (fun hne => absurd (show w32 x = w32 y from h3) hne)
/-- a contract as the loop needs it -/
def LC (E : yE) (d mi z n t : Nat) : Prop := ∀ M', xmt[mi]? = some M' → ∀ (k : Nat) (X : Nat → Int) (mem : yMem) (Q : Option yV → yMem → Prop), LI k mem → (∀ x m, LI k m → Q (some (t, x)) m) → yCon E d M' ((1, (z : Int)) :: lav X n 1) mem Q
def lchk (c : aCon) (mi z n t d : Nat) : Bool := Nat.beq (acM c) mi && (Nat.ble (acD c) d && (decide (acP c = []) && (lokA (acA c) z n && (((Nat.beq t 0 && (Nat.beq (acR c).1 0 || Nat.beq (acR c).1 3)) || (Nat.beq t 4 && Nat.beq (acR c).1 8)) && tp3 (acW c)))))
theorem LC_as {c : aCon} (hc : aSnd Om c) {E : yE} (hE : yEok E) {d mi z n t : Nat} (hk : lchk c mi z n t d = true) : LC E d mi z n t := by
  intro M' hM k X mem Q hI hQ
  simp only [lchk, Bool.and_eq_true, Nat.beq_eq, decide_eq_true_eq, Bool.not_eq_true', Bool.or_eq_true] at hk
  obtain ⟨k1, k2, k3, k4, k5, k6⟩ := hk
  have hargs : aArgsOk (acA c) ((1, (z : Int)) :: lav X n 1) := by
    cases hA : acA c with
    | nil => rw [hA] at k4; cases k4
    | cons a r =>
      rw [hA] at k4
      simp only [lokA, Bool.and_eq_true, Nat.beq_eq] at k4
      refine ⟨?_, lokN_ok r n 1 k4.2.2⟩
      unfold aArgOk
      rw [k4.1, k4.2.1]
      exact (rfl : ((1, (z : Int)) : yV) = (1, (z : Int)))
  refine hc E hE d (Nat.le_of_ble_eq_true k2) M' (by rw [k1]; exact hM) _ mem Q hargs hI.1 hI.2.1 (by rw [k3]; exact fun q hq => by cases hq) (fun r m he => ?_)
  have hI' : LI k m := LI_a (Nat.le_refl k) hI he.2.1 he.2.2.1 he.2.2.2.1 k6
  have hr := he.1
  cases r with
  | none =>
    have hr : (acR c).1 = 99 := hr
    (first | exact Nat.le_of_ble_eq_true rfl | exact (fun h => absurd h.1 (by decide)) | omega)
  | some y =>
    obtain ⟨ty, x⟩ := y
    have hr : aArgOk (acR c) (ty, x) := hr
    have ht : ty = t := by
      unfold aArgOk at hr
      rcases k5 with ⟨rfl, h | h⟩ | ⟨rfl, h⟩ <;> rw [h] at hr
      · exact hr.1
      · exact hr.1
      · exact hr
    subst ht
    exact hQ x m hI'
/-- a case of the law -/
def LK (E : yE) (L : Nat) (xs : Nat → Int32) (pc : Nat) : Prop := ∀ (i : Int) (mem : yMem) (ce sl : Nat) (Post : Option yV → yMem → Prop), yRm room_1 1000 (ce + 1) (sl + 6) → lSc E L xs → L ≤ 3072 → 0 ≤ w32 i → w32 i + 6 ≤ (L : Int) → LI (w32 i).toNat mem → (∀ m ce' sl', LI ((w32 i).toNat + 6) m → ce' ≤ ce + 1 → sl' ≤ sl + 6 → LG E i 1422 [] m ce' sl' Post) → LG E i pc [] mem ce sl Post
theorem yRm_le {R : Room} {d ce sl ce' sl' : Nat} (h : yRm R d ce' sl') (h1 : ce ≤ ce') (h2 : sl ≤ sl') : yRm R d ce sl := ⟨h.1, Nat.le_trans h1 h.2.1, Nat.le_trans h2 h.2.2⟩
theorem LK_of {E : yE} (hE : yEok E) {L : Nat} {xs : Nat → Int32} {pc n mi1 mi2 po t : Nat} {M1 M2 : xM} (hb : lcaseb pc n mi1 mi2 po = true) (hn : n ≤ 5) (hpo : (po = 10 ∧ t = 0) ∨ (po = 69 ∧ t = 4)) (hm1 : xmt[mi1]? = some M1) (hm2 : xmt[mi2]? = some M2) (hk1 : xMn M1 = n ∧ n + 1 ≤ xMl M1 ∧ xMl M1 ≤ 45) (hk2 : xMn M2 = n ∧ n + 1 ≤ xMl M2 ∧ xMl M2 ≤ 45) (c1 : LC E 1000 mi1 0 n t) (c2 : LC E 1000 mi2 95 n t) : LK E L xs pc := by
  intro i mem ce sl Post hR hS hL h0 h6 hI nx
  refine l_case (d := 1000) (t := t) hE (yRm_le hR (by (first | exact Nat.le_of_ble_eq_true rfl | exact (fun h => absurd h.1 (by decide)) | omega)) (by (first | exact Nat.le_of_ble_eq_true rfl | exact (fun h => absurd h.1 (by decide)) | omega))) hS hL h0 h6 hb hn hpo hm1 hm2 hk1 hk2 (Nx := LI (w32 i).toNat) (fun m hm => nx m ce sl (LI_le (Nat.le_add_right _ 6) hm) (by (first | exact Nat.le_of_ble_eq_true rfl | exact (fun h => absurd h.1 (by decide)) | omega)) (by (first | exact Nat.le_of_ble_eq_true rfl | exact (fun h => absurd h.1 (by decide)) | omega))) ?_
  exact c1 M1 hm1 _ _ mem _ hI (fun x m1 hI1 => ⟨⟨x, rfl⟩, c2 M2 hm2 _ _ m1 _ hI1 (fun x m2 hI2 => ⟨⟨x, rfl⟩, hI2⟩)⟩)
theorem LK_px {E : yE} (hE : yEok E) {L : Nat} {xs : Nat → Int32} {pc n mi1 mi2 : Nat} {M1 M2 : xM} (hb : lcaseb pc n mi1 mi2 10 = true) (hn : n ≤ 5) (hm1 : xmt[mi1]? = some M1) (hm2 : xmt[mi2]? = some M2) (hk1 : xMn M1 = n ∧ n + 1 ≤ xMl M1 ∧ xMl M1 ≤ 45) (hk2 : xMn M2 = n ∧ n + 1 ≤ xMl M2 ∧ xMl M2 ≤ 45) (c : LX E n M1 M2 0) : LK E L xs pc := by
  intro i mem ce sl Post hR hS hL h0 h6 hI nx
  refine l_case (d := 1000) (t := 0) hE (yRm_le hR (by (first | exact Nat.le_of_ble_eq_true rfl | exact (fun h => absurd h.1 (by decide)) | omega)) (by (first | exact Nat.le_of_ble_eq_true rfl | exact (fun h => absurd h.1 (by decide)) | omega))) hS hL h0 h6 hb hn (Or.inl ⟨rfl, rfl⟩) hm1 hm2 hk1 hk2 (Nx := LI ((w32 i).toNat + 6)) (fun m hm => nx m ce sl hm (by (first | exact Nat.le_of_ble_eq_true rfl | exact (fun h => absurd h.1 (by decide)) | omega)) (by (first | exact Nat.le_of_ble_eq_true rfl | exact (fun h => absurd h.1 (by decide)) | omega))) ?_
  refine yCon_mono (c (lX xs i) (w32 i).toNat mem (by (first | exact Nat.le_of_ble_eq_true rfl | exact (fun h => absurd h.1 (by decide)) | omega)) hI) (fun r m h => ?_)
  obtain ⟨x, rfl, h⟩ := h
  refine ⟨⟨x, rfl⟩, yCon_mono h (fun r m h => ?_)⟩
  obtain ⟨y, rfl, _, _, h⟩ := h
  exact ⟨⟨y, rfl⟩, h⟩
theorem LK_cx {E : yE} (hE : yEok E) {L : Nat} {xs : Nat → Int32} {pc n mi1 mi2 : Nat} {M1 M2 : xM} (hb : lcmpb pc n mi1 mi2 = true) (hn : n ≤ 5) (hm1 : xmt[mi1]? = some M1) (hm2 : xmt[mi2]? = some M2) (hk1 : xMn M1 = n ∧ n + 1 ≤ xMl M1 ∧ xMl M1 ≤ 45) (hk2 : xMn M2 = n ∧ n + 1 ≤ xMl M2 ∧ xMl M2 ≤ 45) (c : LX E n M1 M2 0) : LK E L xs pc := by
  intro i mem ce sl Post hR hS hL h0 h6 hI nx
  refine l_cmp (d := 1000) hE (yRm_le hR (by (first | exact Nat.le_of_ble_eq_true rfl | exact (fun h => absurd h.1 (by decide)) | omega)) (by (first | exact Nat.le_of_ble_eq_true rfl | exact (fun h => absurd h.1 (by decide)) | omega))) hS hL h0 h6 hb hn hm1 hm2 hk1 hk2 (Nx := LI ((w32 i).toNat + 6)) (fun m hm => nx m ce sl hm (by (first | exact Nat.le_of_ble_eq_true rfl | exact (fun h => absurd h.1 (by decide)) | omega)) (by (first | exact Nat.le_of_ble_eq_true rfl | exact (fun h => absurd h.1 (by decide)) | omega))) ?_
  refine yCon_mono (c (lX xs i) (w32 i).toNat mem (by (first | exact Nat.le_of_ble_eq_true rfl | exact (fun h => absurd h.1 (by decide)) | omega)) hI) (fun r m h => ?_)
  obtain ⟨x, rfl, h⟩ := h
  refine ⟨x, rfl, yCon_mono h (fun r m h => ?_)⟩
  obtain ⟨y, rfl, e, _, h⟩ := h
  exact ⟨y, rfl, e rfl, h⟩

theorem lw_case0 {E : yE} (hE : yEok E) (hm : yman Om) (hmAC : yman OmAC) {L : Nat} {xs : Nat → Int32} : LK E L xs 196 := LK_px (n := 5) (mi1 := 14) (mi2 := 167) (M1 := xm_14) (M2 := xm_167) hE (by decide +kernel) (by decide) rfl rfl (by decide) (by decide) (lx_feed hE)
theorem lw_case1 {E : yE} (hE : yEok E) (hm : yman Om) (hmAC : yman OmAC) {L : Nat} {xs : Nat → Int32} : LK E L xs 269 := LK_px (n := 1) (mi1 := 41) (mi2 := 242) (M1 := xm_41) (M2 := xm_242) hE (by decide +kernel) (by decide) rfl rfl (by decide) (by decide) (lx_text hE hm)
theorem lw_case2 {E : yE} (hE : yEok E) (hm : yman Om) (hmAC : yman OmAC) {L : Nat} {xs : Nat → Int32} : LK E L xs 294 := LK_of (n := 1) (mi1 := 13) (mi2 := 166) (po := 10) (t := 0) (M1 := xm_13) (M2 := xm_166) hE (by decide +kernel) (by decide) (Or.inl ⟨rfl, rfl⟩) rfl rfl (by decide) (by decide) (LC_as (as_46 yoc_Om hm) hE (by decide +kernel)) (LC_as (as_83 yoc_Om hm) hE (by decide +kernel))
theorem lw_case3 {E : yE} (hE : yEok E) (hm : yman Om) (hmAC : yman OmAC) {L : Nat} {xs : Nat → Int32} : LK E L xs 319 := LK_of (n := 2) (mi1 := 22) (mi2 := 210) (po := 10) (t := 0) (M1 := xm_22) (M2 := xm_210) hE (by decide +kernel) (by decide) (Or.inl ⟨rfl, rfl⟩) rfl rfl (by decide) (by decide) (LC_as (as_59 yoc_Om hm) hE (by decide +kernel)) (LC_as (as_88 yoc_Om hm) hE (by decide +kernel))
theorem lw_case5 {E : yE} (hE : yEok E) (hm : yman Om) (hmAC : yman OmAC) {L : Nat} {xs : Nat → Int32} : LK E L xs 396 := LK_of (n := 2) (mi1 := 40) (mi2 := 240) (po := 10) (t := 0) (M1 := xm_40) (M2 := xm_240) hE (by decide +kernel) (by decide) (Or.inl ⟨rfl, rfl⟩) rfl rfl (by decide) (by decide) (LC_as (as_78 yoc_Om hm) hE (by decide +kernel)) (LC_as (as_90 yoc_Om hm) hE (by decide +kernel))
theorem lc_247 {E : yE} (hE : yEok E) (hm : yman Om) (hmAC : yman OmAC) : LC E 1000 247 95 2 0 := fun M' hM k X mem Q hI hQ => by
  have e : xm_247 = M' := Option.some.inj (show some xm_247 = some M' from hM)
  subst e
  exact c_verse hE (by decide) hI.1 hI.2.1 (fun r m h => hQ r m (LI_R (Nat.le_refl k) hI h))
theorem lw_case6 {E : yE} (hE : yEok E) (hm : yman Om) (hmAC : yman OmAC) {L : Nat} {xs : Nat → Int32} : LK E L xs 433 := LK_of (n := 2) (mi1 := 44) (mi2 := 247) (po := 10) (t := 0) (M1 := xm_44) (M2 := xm_247) hE (by decide +kernel) (by decide) (Or.inl ⟨rfl, rfl⟩) rfl rfl (by decide) (by decide) (LC_as (as_80 yoc_Om hm) hE (by decide +kernel)) (lc_247 hE hm hmAC)
theorem lw_case7 {E : yE} (hE : yEok E) (hm : yman Om) (hmAC : yman OmAC) {L : Nat} {xs : Nat → Int32} : LK E L xs 470 := LK_of (n := 3) (mi1 := 25) (mi2 := 216) (po := 10) (t := 0) (M1 := xm_25) (M2 := xm_216) hE (by decide +kernel) (by decide) (Or.inl ⟨rfl, rfl⟩) rfl rfl (by decide) (by decide) (LC_as (as_64 yoc_Om hm) hE (by decide +kernel)) (LC_as (as_91 yoc_Om hm) hE (by decide +kernel))
theorem lw_case8 {E : yE} (hE : yEok E) (hm : yman Om) (hmAC : yman OmAC) {L : Nat} {xs : Nat → Int32} : LK E L xs 519 := LK_of (n := 3) (mi1 := 10) (mi2 := 161) (po := 10) (t := 0) (M1 := xm_10) (M2 := xm_161) hE (by decide +kernel) (by decide) (Or.inl ⟨rfl, rfl⟩) rfl rfl (by decide) (by decide) (LC_as (as_35 yoc_Om hm) hE (by decide +kernel)) (LC_as (as_98 yoc_Om hm) hE (by decide +kernel))
theorem lw_case9 {E : yE} (hE : yEok E) (hm : yman Om) (hmAC : yman OmAC) {L : Nat} {xs : Nat → Int32} : LK E L xs 568 := LK_of (n := 3) (mi1 := 36) (mi2 := 232) (po := 10) (t := 0) (M1 := xm_36) (M2 := xm_232) hE (by decide +kernel) (by decide) (Or.inl ⟨rfl, rfl⟩) rfl rfl (by decide) (by decide) (LC_as (as_72 yoc_Om hm) hE (by decide +kernel)) (LC_as (as_99 yoc_Om hm) hE (by decide +kernel))
theorem lw_case10 {E : yE} (hE : yEok E) (hm : yman Om) (hmAC : yman OmAC) {L : Nat} {xs : Nat → Int32} : LK E L xs 617 := LK_of (n := 2) (mi1 := 4) (mi2 := 149) (po := 10) (t := 0) (M1 := xm_4) (M2 := xm_149) hE (by decide +kernel) (by decide) (Or.inl ⟨rfl, rfl⟩) rfl rfl (by decide) (by decide) (LC_as (as_28 yoc_Om hm) hE (by decide +kernel)) (LC_as (as_101 yoc_Om hm) hE (by decide +kernel))
theorem lw_case11 {E : yE} (hE : yEok E) (hm : yman Om) (hmAC : yman OmAC) {L : Nat} {xs : Nat → Int32} : LK E L xs 654 := LK_of (n := 1) (mi1 := 9) (mi2 := 159) (po := 10) (t := 0) (M1 := xm_9) (M2 := xm_159) hE (by decide +kernel) (by decide) (Or.inl ⟨rfl, rfl⟩) rfl rfl (by decide) (by decide) (LC_as (as_34 yoc_Om hm) hE (by decide +kernel)) (LC_as (as_103 yoc_Om hm) hE (by decide +kernel))
theorem lw_case12 {E : yE} (hE : yEok E) (hm : yman Om) (hmAC : yman OmAC) {L : Nat} {xs : Nat → Int32} : LK E L xs 679 := LK_px (n := 3) (mi1 := 27) (mi2 := 222) (M1 := xm_27) (M2 := xm_222) hE (by decide +kernel) (by decide) rfl rfl (by decide) (by decide) (lx_redeem hE hm)
theorem lw_case13 {E : yE} (hE : yEok E) (hm : yman Om) (hmAC : yman OmAC) {L : Nat} {xs : Nat → Int32} : LK E L xs 728 := LK_px (n := 0) (mi1 := 43) (mi2 := 246) (M1 := xm_43) (M2 := xm_246) hE (by decide +kernel) (by decide) rfl rfl (by decide) (by decide) (lx_undo hE hm)
theorem lw_case14 {E : yE} (hE : yEok E) (hm : yman Om) (hmAC : yman OmAC) {L : Nat} {xs : Nat → Int32} : LK E L xs 741 := LK_of (n := 2) (mi1 := 32) (mi2 := 229) (po := 10) (t := 0) (M1 := xm_32) (M2 := xm_229) hE (by decide +kernel) (by decide) (Or.inl ⟨rfl, rfl⟩) rfl rfl (by decide) (by decide) (LC_as (as_70 yoc_Om hm) hE (by decide +kernel)) (LC_as (as_104 yoc_Om hm) hE (by decide +kernel))
theorem lw_case15 {E : yE} (hE : yEok E) (hm : yman Om) (hmAC : yman OmAC) {L : Nat} {xs : Nat → Int32} : LK E L xs 778 := LK_of (n := 2) (mi1 := 2) (mi2 := 145) (po := 10) (t := 0) (M1 := xm_2) (M2 := xm_145) hE (by decide +kernel) (by decide) (Or.inl ⟨rfl, rfl⟩) rfl rfl (by decide) (by decide) (LC_as (as_3 yoc_Om hm) hE (by decide +kernel)) (LC_as (as_105 yoc_Om hm) hE (by decide +kernel))
theorem lw_case16 {E : yE} (hE : yEok E) (hm : yman Om) (hmAC : yman OmAC) {L : Nat} {xs : Nat → Int32} : LK E L xs 815 := LK_px (n := 0) (mi1 := 38) (mi2 := 239) (M1 := xm_38) (M2 := xm_239) hE (by decide +kernel) (by decide) rfl rfl (by decide) (by decide) (lx_sunday hE hm hmAC)
theorem lc_147 {E : yE} (hE : yEok E) (hm : yman Om) (hmAC : yman OmAC) : LC E 1000 147 95 2 0 := fun M' hM k X mem Q hI hQ => by
  have e : xm_147 = M' := Option.some.inj (show some xm_147 = some M' from hM)
  subst e
  exact c_best hE hm (by decide) hI.1 hI.2.1 (fun r m h => hQ r m (LI_R (Nat.le_refl k) hI h))
theorem lw_case17 {E : yE} (hE : yEok E) (hm : yman Om) (hmAC : yman OmAC) {L : Nat} {xs : Nat → Int32} : LK E L xs 828 := LK_of (n := 2) (mi1 := 3) (mi2 := 147) (po := 10) (t := 0) (M1 := xm_3) (M2 := xm_147) hE (by decide +kernel) (by decide) (Or.inl ⟨rfl, rfl⟩) rfl rfl (by decide) (by decide) (LC_as (as_26 yoc_Om hm) hE (by decide +kernel)) (lc_147 hE hm hmAC)
theorem lc_152 {E : yE} (hE : yEok E) (hm : yman Om) (hmAC : yman OmAC) : LC E 1000 152 95 3 0 := fun M' hM k X mem Q hI hQ => by
  have e : xm_152 = M' := Option.some.inj (show some xm_152 = some M' from hM)
  subst e
  exact c_chosen hE hm (by decide) hI.1 hI.2.1 (fun r m h => hQ r m (LI_R (Nat.le_refl k) hI h))
theorem lw_case18 {E : yE} (hE : yEok E) (hm : yman Om) (hmAC : yman OmAC) {L : Nat} {xs : Nat → Int32} : LK E L xs 865 := LK_of (n := 3) (mi1 := 5) (mi2 := 152) (po := 10) (t := 0) (M1 := xm_5) (M2 := xm_152) hE (by decide +kernel) (by decide) (Or.inl ⟨rfl, rfl⟩) rfl rfl (by decide) (by decide) (LC_as (as_30 yoc_Om hm) hE (by decide +kernel)) (lc_152 hE hm hmAC)
theorem lw_case19 {E : yE} (hE : yEok E) (hm : yman Om) (hmAC : yman OmAC) {L : Nat} {xs : Nat → Int32} : LK E L xs 914 := LK_of (n := 3) (mi1 := 35) (mi2 := 231) (po := 10) (t := 0) (M1 := xm_35) (M2 := xm_231) hE (by decide +kernel) (by decide) (Or.inl ⟨rfl, rfl⟩) rfl rfl (by decide) (by decide) (LC_as (as_71 yoc_Om hm) hE (by decide +kernel)) (LC_as (as_107 yoc_Om hm) hE (by decide +kernel))
theorem lw_case20 {E : yE} (hE : yEok E) (hm : yman Om) (hmAC : yman OmAC) {L : Nat} {xs : Nat → Int32} : LK E L xs 963 := LK_cx (n := 1) (mi1 := 11) (mi2 := 163) (M1 := xm_11) (M2 := xm_163) hE (by decide +kernel) (by decide) rfl rfl (by decide) (by decide) (lx_easter hE hm)
theorem lw_case21 {E : yE} (hE : yEok E) (hm : yman Om) (hmAC : yman OmAC) {L : Nat} {xs : Nat → Int32} : LK E L xs 988 := LK_px (n := 1) (mi1 := 16) (mi2 := 180) (M1 := xm_16) (M2 := xm_180) hE (by decide +kernel) (by decide) rfl rfl (by decide) (by decide) (lx_hum hE hm)
theorem lw_case22 {E : yE} (hE : yEok E) (hm : yman Om) (hmAC : yman OmAC) {L : Nat} {xs : Nat → Int32} : LK E L xs 1013 := LK_px (n := 1) (mi1 := 37) (mi2 := 235) (M1 := xm_37) (M2 := xm_235) hE (by decide +kernel) (by decide) rfl rfl (by decide) (by decide) (lx_strike hE hm)
theorem lw_case23 {E : yE} (hE : yEok E) (hm : yman Om) (hmAC : yman OmAC) {L : Nat} {xs : Nat → Int32} : LK E L xs 1038 := LK_px (n := 1) (mi1 := 19) (mi2 := 201) (M1 := xm_19) (M2 := xm_201) hE (by decide +kernel) (by decide) rfl rfl (by decide) (by decide) (lx_known hE hm)
theorem lw_case24 {E : yE} (hE : yEok E) (hm : yman Om) (hmAC : yman OmAC) {L : Nat} {xs : Nat → Int32} : LK E L xs 1063 := LK_of (n := 0) (mi1 := 42) (mi2 := 243) (po := 10) (t := 0) (M1 := xm_42) (M2 := xm_243) hE (by decide +kernel) (by decide) (Or.inl ⟨rfl, rfl⟩) rfl rfl (by decide) (by decide) (LC_as (as_60 yoc_Om hm) hE (by decide +kernel)) (LC_as (as_114 yoc_Om hm) hE (by decide +kernel))
theorem lc_213 {E : yE} (hE : yEok E) (hm : yman Om) (hmAC : yman OmAC) : LC E 1000 213 95 2 0 := fun M' hM k X mem Q hI hQ => by
  have e : xm_213 = M' := Option.some.inj (show some xm_213 = some M' from hM)
  subst e
  exact c_odds hE hm (by decide) hI.1 hI.2.1 (fun r m h => hQ r m (LI_R (Nat.le_refl k) hI h))
theorem lw_case25 {E : yE} (hE : yEok E) (hm : yman Om) (hmAC : yman OmAC) {L : Nat} {xs : Nat → Int32} : LK E L xs 1076 := LK_of (n := 2) (mi1 := 23) (mi2 := 213) (po := 10) (t := 0) (M1 := xm_23) (M2 := xm_213) hE (by decide +kernel) (by decide) (Or.inl ⟨rfl, rfl⟩) rfl rfl (by decide) (by decide) (LC_as (as_62 yoc_Om hm) hE (by decide +kernel)) (lc_213 hE hm hmAC)
theorem lw_case26 {E : yE} (hE : yEok E) (hm : yman Om) (hmAC : yman OmAC) {L : Nat} {xs : Nat → Int32} : LK E L xs 1113 := LK_of (n := 0) (mi1 := 15) (mi2 := 172) (po := 10) (t := 0) (M1 := xm_15) (M2 := xm_172) hE (by decide +kernel) (by decide) (Or.inl ⟨rfl, rfl⟩) rfl rfl (by decide) (by decide) (LC_as (as_51 yoc_Om hm) hE (by decide +kernel)) (LC_as (as_117 yoc_Om hm) hE (by decide +kernel))
theorem lw_case27 {E : yE} (hE : yEok E) (hm : yman Om) (hmAC : yman OmAC) {L : Nat} {xs : Nat → Int32} : LK E L xs 1126 := LK_of (n := 4) (mi1 := 28) (mi2 := 224) (po := 10) (t := 0) (M1 := xm_28) (M2 := xm_224) hE (by decide +kernel) (by decide) (Or.inl ⟨rfl, rfl⟩) rfl rfl (by decide) (by decide) (LC_as (as_67 yoc_Om hm) hE (by decide +kernel)) (LC_as (as_123 yoc_Om hm) hE (by decide +kernel))
theorem lw_case28 {E : yE} (hE : yEok E) (hm : yman Om) (hmAC : yman OmAC) {L : Nat} {xs : Nat → Int32} : LK E L xs 1187 := LK_of (n := 5) (mi1 := 12) (mi2 := 164) (po := 10) (t := 0) (M1 := xm_12) (M2 := xm_164) hE (by decide +kernel) (by decide) (Or.inl ⟨rfl, rfl⟩) rfl rfl (by decide) (by decide) (LC_as (as_45 yoc_Om hm) hE (by decide +kernel)) (LC_as (as_124 yoc_Om hm) hE (by decide +kernel))
theorem lw_case29 {E : yE} (hE : yEok E) (hm : yman Om) (hmAC : yman OmAC) {L : Nat} {xs : Nat → Int32} : LK E L xs 1260 := LK_of (n := 2) (mi1 := 29) (mi2 := 226) (po := 10) (t := 0) (M1 := xm_29) (M2 := xm_226) hE (by decide +kernel) (by decide) (Or.inl ⟨rfl, rfl⟩) rfl rfl (by decide) (by decide) (LC_as (as_69 yoc_Om hm) hE (by decide +kernel)) (LC_as (as_126 yoc_Om hm) hE (by decide +kernel))
theorem lw_case30 {E : yE} (hE : yEok E) (hm : yman Om) (hmAC : yman OmAC) {L : Nat} {xs : Nat → Int32} : LK E L xs 1297 := LK_px (n := 1) (mi1 := 24) (mi2 := 215) (M1 := xm_24) (M2 := xm_215) hE (by decide +kernel) (by decide) rfl rfl (by decide) (by decide) (lx_pay hE hm)
theorem lc_250 {E : yE} (hE : yEok E) (hm : yman Om) (hmAC : yman OmAC) : LC E 1000 250 95 3 4 := fun M' hM k X mem Q hI hQ => by
  have e : xm_250 = M' := Option.some.inj (show some xm_250 = some M' from hM)
  subst e
  exact c_whole hE hm (by decide) hI.1 hI.2.1 (fun r m h => hQ r m (LI_R (Nat.le_refl k) hI h))
theorem lw_case31 {E : yE} (hE : yEok E) (hm : yman Om) (hmAC : yman OmAC) {L : Nat} {xs : Nat → Int32} : LK E L xs 1322 := LK_of (n := 3) (mi1 := 45) (mi2 := 250) (po := 69) (t := 4) (M1 := xm_45) (M2 := xm_250) hE (by decide +kernel) (by decide) (Or.inr ⟨rfl, rfl⟩) rfl rfl (by decide) (by decide) (LC_as (as_81 yoc_Om hm) hE (by decide +kernel)) (lc_250 hE hm hmAC)
theorem lw_case32 {E : yE} (hE : yEok E) (hm : yman Om) (hmAC : yman OmAC) {L : Nat} {xs : Nat → Int32} : LK E L xs 1371 := LK_px (n := 0) (mi1 := 18) (mi2 := 199) (M1 := xm_18) (M2 := xm_199) hE (by decide +kernel) (by decide) rfl rfl (by decide) (by decide) (lx_keep hE hm)
theorem lw_case33 {E : yE} (hE : yEok E) (hm : yman Om) (hmAC : yman OmAC) {L : Nat} {xs : Nat → Int32} : LK E L xs 1384 := LK_px (n := 0) (mi1 := 1) (mi2 := 144) (M1 := xm_1) (M2 := xm_144) hE (by decide +kernel) (by decide) rfl rfl (by decide) (by decide) (lx_back hE hm)
theorem lw_case34 {E : yE} (hE : yEok E) (hm : yman Om) (hmAC : yman OmAC) {L : Nat} {xs : Nat → Int32} : LK E L xs 1397 := LK_of (n := 1) (mi1 := 7) (mi2 := 157) (po := 10) (t := 0) (M1 := xm_7) (M2 := xm_157) hE (by decide +kernel) (by decide) (Or.inl ⟨rfl, rfl⟩) rfl rfl (by decide) (by decide) (LC_as (as_32 yoc_Om hm) hE (by decide +kernel)) (LC_as (as_128 yoc_Om hm) hE (by decide +kernel))
theorem dLk_370 : decode cL_law 370 = .ok (.invokestatic 39, 3) := by decide +kernel
theorem l_look {E : yE} (hE : yEok E) (hnc : ∀ s, yEX E s → va_Nc "java/util/NoSuchElementException" "java/lang/IndexOutOfBoundsException" s) {lv : yL} {st : List yV} {mem : yMem} {ce sl : Nat} {Post : Option yV → yMem → Prop} {x y : Int} (hG : aGok mem) (hR : yRm room_1 1000 (ce + 1) (sl + 6)) (hst : ysum st ≤ 8) (h : ∀ v m', (m' = mem ∨ ∃ w, m' = yset mem 143 0 w) → yG E room_1 xm_L1 373 lv ((0, v) :: st) m' (ce + 1) (sl + 6) Post) : yG E room_1 xm_L1 370 lv ((1, 143) :: (0, y) :: (0, x) :: (1, 0) :: st) mem ce sl Post := by
  intro p e s m args below meth c A Qc hC hQ H locs ls hl hP hS
  have C := hC.1.1
  have hGw : ∀ w ∈ va_wsS RL 39 yL_look xLW, w ∈ xgt := fun w hw => by
    rcases List.mem_append.mp hw with hw | hw
    · simp only [List.mem_cons, List.not_mem_nil, or_false] at hw
      rcases hw with rfl | rfl | rfl
      · exact (xwm 1294 (by decide +kernel) (by decide +kernel))
      · exact (xwm 1295 (by decide +kernel) (by decide +kernel))
      · exact (xwm 115 (by decide +kernel) (by decide +kernel))
    · rcases List.mem_cons.mp hw with rfl | hw
      · exact (xwm 1296 (by decide +kernel) (by decide +kernel))
      · exact hw
  refine yw_call (st := (1, 143) :: (0, y) :: (0, x) :: (1, 0) :: st) (rest := st) (Pc := lkP mem) (mc := 1) (ms := 6) hC hS (vx_runSW (As := llAs E x y) (rest := st.map (ydv E)) (nL := 7) (n := 4) (index := 39) ⟨C.1, C.2.1, hC.1.2.1, C.2.2.1, C.2.2.2⟩ (y_lklaw hE hnc hG x y H.size (yP_size hP)) (vx_cwSW 4 C.2.2.2 (xgt_in' hGw) rfl rfl rfl ⟨by decide, by decide, by decide +kernel⟩ ⟨by decide, by decide⟩) ⟨yPp_blind hE, fun U hU hW => ⟨rfl, yPp_at hC hE hP hS U hU hW⟩⟩ rfl rfl hl.1 rfl (lv_room (by rw [ysum_ok]; exact hst)) dLk_370 hR.2) (fun r mem' H1 locs1 hr hP1 hS1 => ?_)
  obtain ⟨⟨v, rfl⟩, hm'⟩ := hr
  exact h v mem' hm' p e s m args below meth c A Qc hC hQ H1 locs1 ls hl hP1 hS1
theorem lw_case4 {E : yE} (hE : yEok E) (hm : yman Om) (hnc : ∀ s, yEX E s → va_Nc "java/util/NoSuchElementException" "java/lang/IndexOutOfBoundsException" s) {L : Nat} {xs : Nat → Int32} : LK E L xs 356 := by
  intro i mem ce sl Post hR hS hL h0 h6 hI nx
  have hR' := yRm_le hR (show ce ≤ ce + 1 by (first | exact Nat.le_of_ble_eq_true rfl | exact (fun h => absurd h.1 (by decide)) | omega)) (show sl ≤ sl + 6 by (first | exact Nat.le_of_ble_eq_true rfl | exact (fun h => absurd h.1 (by decide)) | omega))
  refine yo_ld (nx := 357) (k := 1) (i := 1) (v := (1, 0)) hE hR' (lo1 (by decide +kernel)) rfl rfl ?_
  refine l_args hE hR' hS hL h0 h6 2 1 357 _ (by decide +kernel) (by decide) ?_
  refine yo_ld (pc := 369) (nx := 370) (k := 1) (i := 3) (v := (1, 143)) hE hR' (lo1 (by decide +kernel)) rfl rfl ?_
  refine l_look (x := lX xs i 1) (y := lX xs i 2) (st := []) hE hnc hI.1 hR (by decide) (fun v m' hm' => ?_)
  have hI' : LI (w32 i).toNat m' := by
    rcases hm' with rfl | ⟨w, rfl⟩
    · exact hI
    · exact LI_fr (Nat.le_refl _) hI (aGok_set hI.1 (ag_32 (agam_A ae_143))) (yoc_Om mem _ (fun i j hi => yset_o (fun e => by subst e; exact absurd hi (by decide))) hI.2.1) (fun i j h => yset_o (by unfold tpP at h; (first | exact Nat.le_of_ble_eq_true rfl | exact (fun h => absurd h.1 (by decide)) | omega)))
  refine yo_st (nx := 375) (k := 0) (i := 5) hE hR (lo1 (by decide +kernel)) rfl (by decide) (zG_sub (lv' := llaw i) (fun q hq => List.mem_cons_of_mem _ hq) ?_)
  refine l_seg (pc := 375) (d := 1000) (r := 2) (n := 2) (mi := 207) (ci := 12) (z := 95) (M' := xm_207) (rest := []) hE hR hS hL h0 h6 (by decide +kernel) (by decide) rfl rfl rfl (by decide) (by decide) rfl (by decide) ?_
  refine (LC_as (as_89 yoc_Om hm) hE (by decide +kernel) : LC E 1000 207 95 2 0) xm_207 rfl _ _ m' _ hI' (fun x m2 hI2 => ?_)
  refine yo_st (pc := 391) (nx := 393) (k := 0) (i := 6) hE hR (lo1 (by decide +kernel)) rfl (by decide) (zG_sub (lv' := llaw i) (fun q hq => List.mem_cons_of_mem _ hq) ?_)
  exact yo_go (nx := 1422) hE hR (lo1 (by decide +kernel)) (nx m2 (ce + 1) (sl + 6) (LI_le (Nat.le_add_right _ 6) hI2) (Nat.le_refl _) (Nat.le_refl _))
section LOOP
variable {E : yE} {L : Nat} {xs : Nat → Int32} {mem : yMem} {ce sl : Nat} {Post : Option yV → yMem → Prop} {i : Int}
theorem l_rm {ce sl : Nat} (h1 : ce ≤ 601024) (h2 : sl ≤ 7293034) : yRm room_1 1000 ce sl := ⟨⟨by decide, by decide⟩, h1, h2⟩
theorem l_head (hE : yEok E) (hR : yRm room_1 1000 ce sl) (hS : lSc E L xs) (hL : L ≤ 3072) (h0 : 0 ≤ w32 i) (hP : ∀ m, Post (some (0, cI 1)) m) (h : w32 i + 6 ≤ (L : Int) → LG E i 33 [] mem ce sl Post) : LG E i 23 [] mem ce sl Post := by
  refine yo_ld (nx := 25) (k := 0) (i := 4) (v := (0, i)) hE hR (lo1 (by decide +kernel)) rfl rfl ?_
  refine yo_ld (nx := 26) (k := 1) (i := 0) (v := (5, 50)) hE hR (lo1 (by decide +kernel)) rfl rfl ?_
  refine l_slen (nx := 27) hS (lo1 (by decide +kernel)) ?_
  refine yo_c (nx := 29) (a := 6) hE hR (lo1 (by decide +kernel)) ?_
  refine yo_bin (nx := 30) (o := 1) hE hR (lo1 (by decide +kernel)) (by decide) ?_
  have eL : w32 (L : Int) = (L : Int) := w32_of (by (first | exact Nat.le_of_ble_eq_true rfl | exact (fun h => absurd h.1 (by decide)) | omega)) (by (first | exact Nat.le_of_ble_eq_true rfl | exact (fun h => absurd h.1 (by decide)) | omega))
  have e6 : w32 ((L : Int) - cI 6) = (L : Int) - 6 := by
    rw [l_cI (show 6 < 100 by decide)]
    exact (w32_of (by (first | exact Nat.le_of_ble_eq_true rfl | exact (fun h => absurd h.1 (by decide)) | omega)) (by (first | exact Nat.le_of_ble_eq_true rfl | exact (fun h => absurd h.1 (by decide)) | omega))).trans (by rfl)
  refine yo_cmp (nx := 33) (t := 1428) (c := 4) hE hR (lo1 (by decide +kernel)) (fun _ => ?_) (fun hn => h ?_)
  · refine yo_c (nx := 1429) (a := 1) hE hR (lo1 (by decide +kernel)) ?_
    exact yo_rt (nx := 0) (b := 3) hE hR (lo1 (by decide +kernel)) (Or.inr ⟨rfl, Or.inr (by decide)⟩) (hP _)
  · have hn' : ¬ w32 ((L : Int) - cI 6) < w32 i := hn
    (first | exact Nat.le_of_ble_eq_true rfl | exact (fun h => absurd h.1 (by decide)) | omega)
theorem l_body (hE : yEok E) (hm : yman Om) (hmAC : yman OmAC) (hnc : ∀ s, yEX E s → va_Nc "java/util/NoSuchElementException" "java/lang/IndexOutOfBoundsException" s) (hR : yRm room_1 1000 (ce + 1) (sl + 6)) (hS : lSc E L xs) (hL : L ≤ 3072) (h0 : 0 ≤ w32 i) (h6 : w32 i + 6 ≤ (L : Int)) (hI : LI (w32 i).toNat mem) (nx : ∀ m ce' sl', LI ((w32 i).toNat + 6) m → ce' ≤ ce + 1 → sl' ≤ sl + 6 → LG E i 1422 [] m ce' sl' Post) : LG E i 33 [] mem ce sl Post := by
  have hR' := yRm_le hR (show ce ≤ ce + 1 by (first | exact Nat.le_of_ble_eq_true rfl | exact (fun h => absurd h.1 (by decide)) | omega)) (show sl ≤ sl + 6 by (first | exact Nat.le_of_ble_eq_true rfl | exact (fun h => absurd h.1 (by decide)) | omega))
  refine yo_ld (nx := 34) (k := 1) (i := 0) (v := (5, 50)) hE hR' (lo1 (by decide +kernel)) rfl rfl ?_
  refine yo_ld (nx := 36) (k := 0) (i := 4) (v := (0, i)) hE hR' (lo1 (by decide +kernel)) rfl rfl ?_
  refine l_sld (nx := 37) hS hL (lo1 (by decide +kernel)) h0 (by (first | exact Nat.le_of_ble_eq_true rfl | exact (fun h => absurd h.1 (by decide)) | omega)) ?_
  refine yo_c (nx := 39) (a := 63) hE hR' (lo1 (by decide +kernel)) ?_
  refine yo_bin (nx := 40) (o := 3) hE hR' (lo1 (by decide +kernel)) (by decide) ?_
  have k4 := lw_case4 hE hm hnc i mem ce sl Post hR hS hL h0 h6 hI nx
  refine yo_sw (t := 1422) (cs := [(0, 196), (1, 269), (2, 294), (3, 319), (4, 356), (5, 396), (6, 433), (7, 470), (8, 519), (9, 568), (10, 617), (11, 654), (12, 679), (13, 728), (14, 741), (15, 778), (16, 815), (17, 828), (18, 865), (19, 914), (20, 963), (21, 988), (22, 1013), (23, 1038), (24, 1063), (25, 1076), (26, 1113), (27, 1126), (28, 1187), (29, 1260), (30, 1297), (31, 1322), (32, 1371), (33, 1384), (34, 1397)]) hE hR' (l1o rfl) ?_ (fun _ => nx mem ce sl (LI_le (Nat.le_add_right _ 6) hI) (by (first | exact Nat.le_of_ble_eq_true rfl | exact (fun h => absurd h.1 (by decide)) | omega)) (by (first | exact Nat.le_of_ble_eq_true rfl | exact (fun h => absurd h.1 (by decide)) | omega))) (by decide)
  exact xcns (fun _ => lw_case0 hE hm hmAC i mem ce sl Post hR hS hL h0 h6 hI nx) <| xcns (fun _ => lw_case1 hE hm hmAC i mem ce sl Post hR hS hL h0 h6 hI nx) <| xcns (fun _ => lw_case2 hE hm hmAC i mem ce sl Post hR hS hL h0 h6 hI nx) <| xcns (fun _ => lw_case3 hE hm hmAC i mem ce sl Post hR hS hL h0 h6 hI nx) <| xcns (fun _ => k4) <| xcns (fun _ => lw_case5 hE hm hmAC i mem ce sl Post hR hS hL h0 h6 hI nx) <| xcns (fun _ => lw_case6 hE hm hmAC i mem ce sl Post hR hS hL h0 h6 hI nx) <| xcns (fun _ => lw_case7 hE hm hmAC i mem ce sl Post hR hS hL h0 h6 hI nx) <| xcns (fun _ => lw_case8 hE hm hmAC i mem ce sl Post hR hS hL h0 h6 hI nx) <| xcns (fun _ => lw_case9 hE hm hmAC i mem ce sl Post hR hS hL h0 h6 hI nx) <| xcns (fun _ => lw_case10 hE hm hmAC i mem ce sl Post hR hS hL h0 h6 hI nx) <| xcns (fun _ => lw_case11 hE hm hmAC i mem ce sl Post hR hS hL h0 h6 hI nx) <| xcns (fun _ => lw_case12 hE hm hmAC i mem ce sl Post hR hS hL h0 h6 hI nx) <| xcns (fun _ => lw_case13 hE hm hmAC i mem ce sl Post hR hS hL h0 h6 hI nx) <| xcns (fun _ => lw_case14 hE hm hmAC i mem ce sl Post hR hS hL h0 h6 hI nx) <| xcns (fun _ => lw_case15 hE hm hmAC i mem ce sl Post hR hS hL h0 h6 hI nx) <| xcns (fun _ => lw_case16 hE hm hmAC i mem ce sl Post hR hS hL h0 h6 hI nx) <| xcns (fun _ => lw_case17 hE hm hmAC i mem ce sl Post hR hS hL h0 h6 hI nx) <| xcns (fun _ => lw_case18 hE hm hmAC i mem ce sl Post hR hS hL h0 h6 hI nx) <| xcns (fun _ => lw_case19 hE hm hmAC i mem ce sl Post hR hS hL h0 h6 hI nx) <| xcns (fun _ => lw_case20 hE hm hmAC i mem ce sl Post hR hS hL h0 h6 hI nx) <| xcns (fun _ => lw_case21 hE hm hmAC i mem ce sl Post hR hS hL h0 h6 hI nx) <| xcns (fun _ => lw_case22 hE hm hmAC i mem ce sl Post hR hS hL h0 h6 hI nx) <| xcns (fun _ => lw_case23 hE hm hmAC i mem ce sl Post hR hS hL h0 h6 hI nx) <| xcns (fun _ => lw_case24 hE hm hmAC i mem ce sl Post hR hS hL h0 h6 hI nx) <| xcns (fun _ => lw_case25 hE hm hmAC i mem ce sl Post hR hS hL h0 h6 hI nx) <| xcns (fun _ => lw_case26 hE hm hmAC i mem ce sl Post hR hS hL h0 h6 hI nx) <| xcns (fun _ => lw_case27 hE hm hmAC i mem ce sl Post hR hS hL h0 h6 hI nx) <| xcns (fun _ => lw_case28 hE hm hmAC i mem ce sl Post hR hS hL h0 h6 hI nx) <| xcns (fun _ => lw_case29 hE hm hmAC i mem ce sl Post hR hS hL h0 h6 hI nx) <| xcns (fun _ => lw_case30 hE hm hmAC i mem ce sl Post hR hS hL h0 h6 hI nx) <| xcns (fun _ => lw_case31 hE hm hmAC i mem ce sl Post hR hS hL h0 h6 hI nx) <| xcns (fun _ => lw_case32 hE hm hmAC i mem ce sl Post hR hS hL h0 h6 hI nx) <| xcns (fun _ => lw_case33 hE hm hmAC i mem ce sl Post hR hS hL h0 h6 hI nx) <| xcns (fun _ => lw_case34 hE hm hmAC i mem ce sl Post hR hS hL h0 h6 hI nx) <| xnl
theorem l_loop (hE : yEok E) (hm : yman Om) (hmAC : yman OmAC) (hnc : ∀ s, yEX E s → va_Nc "java/util/NoSuchElementException" "java/lang/IndexOutOfBoundsException" s) (hS : lSc E L xs) (hL : L ≤ 3072) (hP : ∀ m, Post (some (0, cI 1)) m) : ∀ (n : Nat) (i : Int) (mem : yMem) (ce sl : Nat), L ≤ (w32 i).toNat + n → 0 ≤ w32 i → w32 i ≤ 4000 → LI (w32 i).toNat mem → ce ≤ 144 + (w32 i).toNat → sl ≤ 14558 + (w32 i).toNat → LG E i 23 [] mem ce sl Post := by
  intro n
  induction n with
  | zero =>
    intro i mem ce sl hn h0 h4 hI hc hs
    exact l_head hE (l_rm (by (first | exact Nat.le_of_ble_eq_true rfl | exact (fun h => absurd h.1 (by decide)) | omega)) (by (first | exact Nat.le_of_ble_eq_true rfl | exact (fun h => absurd h.1 (by decide)) | omega))) hS hL h0 hP (fun h6 => by (first | exact Nat.le_of_ble_eq_true rfl | exact (fun h => absurd h.1 (by decide)) | omega))
  | succ n ih =>
    intro i mem ce sl hn h0 h4 hI hc hs
    refine l_head hE (l_rm (by (first | exact Nat.le_of_ble_eq_true rfl | exact (fun h => absurd h.1 (by decide)) | omega)) (by (first | exact Nat.le_of_ble_eq_true rfl | exact (fun h => absurd h.1 (by decide)) | omega))) hS hL h0 hP (fun h6 => ?_)
    refine l_body hE hm hmAC hnc (l_rm (by (first | exact Nat.le_of_ble_eq_true rfl | exact (fun h => absurd h.1 (by decide)) | omega)) (by (first | exact Nat.le_of_ble_eq_true rfl | exact (fun h => absurd h.1 (by decide)) | omega))) hS hL h0 h6 hI (fun m ce' sl' hI' hc' hs' => ?_)
    have e6 : w32 (i + cI 6) = w32 i + 6 := by
      rw [l_cI (show 6 < 100 by decide), w32_ad (by rw [w32_of (x := ((6 : Nat) : Int)) (by decide) (by decide)]; (first | exact Nat.le_of_ble_eq_true rfl | exact (fun h => absurd h.1 (by decide)) | omega)) (by rw [w32_of (x := ((6 : Nat) : Int)) (by decide) (by decide)]; (first | exact Nat.le_of_ble_eq_true rfl | exact (fun h => absurd h.1 (by decide)) | omega)), w32_of (x := ((6 : Nat) : Int)) (by decide) (by decide)]
      rfl
    refine yo_inc (d := 1000) (nx := 1425) (i := 4) (a := 6) hE (l_rm (by (first | exact Nat.le_of_ble_eq_true rfl | exact (fun h => absurd h.1 (by decide)) | omega)) (by (first | exact Nat.le_of_ble_eq_true rfl | exact (fun h => absurd h.1 (by decide)) | omega))) (lo1 (by decide +kernel)) rfl (by decide) ?_
    refine yo_go (d := 1000) (nx := 23) hE (l_rm (by (first | exact Nat.le_of_ble_eq_true rfl | exact (fun h => absurd h.1 (by decide)) | omega)) (by (first | exact Nat.le_of_ble_eq_true rfl | exact (fun h => absurd h.1 (by decide)) | omega))) (lo1 (by decide +kernel)) ?_
    exact ih (i + cI 6) m ce' sl' (by (first | exact Nat.le_of_ble_eq_true rfl | exact (fun h => absurd h.1 (by decide)) | omega)) (by (first | exact Nat.le_of_ble_eq_true rfl | exact (fun h => absurd h.1 (by decide)) | omega)) (by (first | exact Nat.le_of_ble_eq_true rfl | exact (fun h => absurd h.1 (by decide)) | omega)) (by rw [e6, show (w32 i + 6).toNat = (w32 i).toNat + 6 by (first | exact Nat.le_of_ble_eq_true rfl | exact (fun h => absurd h.1 (by decide)) | omega)]; exact hI') (by (first | exact Nat.le_of_ble_eq_true rfl | exact (fun h => absurd h.1 (by decide)) | omega)) (by (first | exact Nat.le_of_ble_eq_true rfl | exact (fun h => absurd h.1 (by decide)) | omega))
end LOOP
end
section
/-! THE CLAIM OUT OF ONE WALK OF THE LAW'S BODY. Your part is whole_start (and what it stands on); all else here is the same for every law, but numbers. -/
def R_law : String := "RansomHymnLaw"
def lw_P (b : Addr) (xs : List Int32) (args : Array Value) (s : State) : Prop := args = #[.ref b] ∧ s.IntsAt b xs ∧ xs.length ≤ 3072 ∧ (Jvm.Cond.and given_1 narrow_1).before args s = true
def lw_Q (_ : Array Value) (s : State) (o : Outcome) (t : State) : Prop := o = .returned (some (.int 1)) ∧ Framed s o t [] 601024 7293034
def lw_Z (below : List Frame) (a : Array Value) (s : State) : State → Prop := fun t => ∃ o, t.status = .running ∧ Ended t below o ∧ lw_Q a s o t
/-- what holds at the law's entry: the machine, the code, the tables' words (any of lw_tbl by 'hts w (by decide +kernel)'), the script of L ints xs at the cell b, what the Statement gives of the start (any of its parts by flat_of_before) -/
def lw_At (p : Program) (s : State) (m : MethodId) (meth : Method) (c : Code) (b L : Nat) (xs : Nat → Int32) : Prop :=
  p.tables.exec = Jvm.exec ∧ c.code = code ∧ meth.sig.returnType = ret ∧ c.maxLocals = 7 ∧ s.vm.findClass R_law = some m.cls ∧ (∀ w ∈ lw_tbl, w.before #[Value.ref b] s = true) ∧ va_X b L xs s s.heap ∧ b < s.heap.size ∧ meth.locks = false ∧ (Jvm.Cond.and given_1 narrow_1).before #[Value.ref b] s = true
end
section
/-! the two objects as the constructors leave them: the memory -/
def ymv (v : xV) : Int := match v with
  | (0, n) => cI n
  | (4, n) => cL n
  | _ => 0
def ymc (c : xC) (j : Nat) : Int := match c with
  | .inl (_, vs) => ymv (vs.getD j (0, 0))
  | .inr (_, fs) => ymv (fs.getD j (0, 0))
def ym0 : yMem := fun i j => match xK0[i]? with
  | some c => ymc c j
  | none => 0
def yfr : List xV → List yV → Bool
  | [], [] => true
  | f :: r, g :: s => ((Nat.beq f.1 0 && Nat.beq g.1 0) || (Nat.beq f.1 1 && (Nat.beq g.1 1 && decide (((f.2 : Nat) : Int) = g.2)))) && yfr r s
  | _, _ => false
def yrel (c : xC) (S : yS) : Bool := match c, S with
  | .inl (k, vs), .inl (k', n, rs) => Nat.beq k k' && (Nat.beq vs.length n && (match k with
    | 2 => vs.all (fun v => Nat.beq v.1 4)
    | 4 => decide (vs = rs.map (fun q => (1, q)))
    | _ => vs.all (fun v => Nat.beq v.1 0)))
  | .inr (ci, fs), .inr (ci', gs) => Nat.beq ci ci' && yfr fs gs
  | _, _ => false
def yrelL : List xC → List yS → Bool
  | [], [] => true
  | c :: K, S :: L => yrel c S && yrelL K L
  | _, _ => false
theorem getD_all {α : Type} {p : α → Bool} {d : α} (hd : p d = true) : ∀ (l : List α) (j : Nat), l.all p = true → p (l.getD j d) = true
  | [], j, _ => by simpa using hd
  | a :: r, 0, h => by
    simp only [List.all_cons, Bool.and_eq_true] at h
    simpa using h.1
  | a :: r, j + 1, h => by
    simp only [List.all_cons, Bool.and_eq_true] at h
    have := getD_all hd r j h.2
    simpa using this
theorem ymv0 {v : xV} (h : v.1 = 0) : ymv v = cI v.2 := by
  obtain ⟨a, n⟩ := v
  dsimp only at h
  subst h
  rfl
theorem ymv4 {v : xV} (h : v.1 = 4) : ymv v = cL v.2 := by
  obtain ⟨a, n⟩ := v
  dsimp only at h
  subst h
  rfl
section WD
variable {E : yE} {ρ : Nat → Int32}
theorem yarr_i {vs : List xV} (h : vs.all (fun v => Nat.beq v.1 0) = true) (j : Nat) : xdi ρ (vs.getD j (0, 0)) = iI (ymv (vs.getD j (0, 0))) := by
  have := getD_all (p := fun v : xV => Nat.beq v.1 0) (d := (0, 0)) rfl vs j h
  rw [Nat.beq_eq] at this
  rw [ymv0 this, iI_c]
  generalize vs.getD j (0, 0) = v at this ⊢
  obtain ⟨a, n⟩ := v
  dsimp only at this
  subst this
  rfl
theorem yarr_l {vs : List xV} (h : vs.all (fun v => Nat.beq v.1 4) = true) (j : Nat) : xdl (vs.getD j (4, 0)) = lI (ymv (vs.getD j (0, 0))) := by
  have h1 := getD_all (p := fun v : xV => Nat.beq v.1 4) (d := (4, 0)) rfl vs j h
  by_cases hj : j < vs.length
  · have e : vs.getD j (4, 0) = vs.getD j (0, 0) := by
      rw [List.getD_eq_getElem?_getD, List.getD_eq_getElem?_getD, List.getElem?_eq_getElem hj]
      rfl
    rw [e] at h1 ⊢
    rw [Nat.beq_eq] at h1
    rw [ymv4 h1, lI_c]
    rfl
  · have e : ∀ d : xV, vs.getD j d = d := fun d => by
      rw [List.getD_eq_getElem?_getD, List.getElem?_eq_none (by (first | exact Nat.le_of_ble_eq_true rfl | exact (fun h => absurd h.1 (by decide)) | omega))]
      rfl
    rw [e, e]
    decide
theorem yfr_ok {f : Nat → Int} : ∀ (fs : List xV) (gs : List yV) (o : Nat), yfr fs gs = true → (∀ j, f (o + j) = ymv (fs.getD j (0, 0))) → fs.map (xdv (yb E) ρ (ysa E)) = yfs E o gs f
  | [], [], o, _, _ => rfl
  | v :: r, g :: s, o, h, hf => by
    simp only [yfr, Bool.and_eq_true, Bool.or_eq_true, Nat.beq_eq, decide_eq_true_eq] at h
    obtain ⟨h1, h2⟩ := h
    simp only [List.map_cons, yfs]
    have hv : f o = ymv v := by
      have := hf 0
      simpa using this
    congr 1
    · obtain ⟨a, n⟩ := v
      obtain ⟨t, x⟩ := g
      rcases h1 with ⟨e1, e2⟩ | ⟨e1, e2, e3⟩
      · dsimp only at e1 e2
        subst e1; subst e2
        rw [hv]
        show Value.int (nI n) = Value.int (iI (cI n))
        rw [iI_c]
      · dsimp only at e1 e2 e3
        subst e1; subst e2; subst e3
        show Value.ref (yb E + n) = Value.ref (yb E + ((n : Nat) : Int).toNat)
        rw [Int.toNat_natCast]
    · refine yfr_ok r s (o + 1) h2 (fun j => ?_)
      have := hf (j + 1)
      rw [show o + 1 + j = o + (j + 1) by (first | exact Nat.le_of_ble_eq_true rfl | exact (fun h => absurd h.1 (by decide)) | omega), this]
      simp
  | [], _ :: _, _, h, _ => by cases h
  | _ :: _, [], _, h, _ => by cases h
theorem yrel_ok {c : xC} {S : yS} (h : yrel c S = true) : xce (yb E) ρ (ysa E) (yda E) c = yce E S (ymc c) := by
  match c, S, h with
  | .inr (ci, fs), .inr (ci', gs), h =>
    simp only [yrel, Bool.and_eq_true, Nat.beq_eq] at h
    obtain ⟨rfl, h2⟩ := h
    show Sum.inr (ci, fs.map (xdv (yb E) ρ (ysa E))) = Sum.inr (ci, yfs E 0 gs (ymc (.inr (ci, fs))))
    rw [yfr_ok (f := ymc (.inr (ci, fs))) fs gs 0 h2 (fun j => by rw [Nat.zero_add]; rfl)]
  | .inl (k, vs), .inl (k', n, rs), h =>
    simp only [yrel, Bool.and_eq_true, Nat.beq_eq] at h
    obtain ⟨rfl, rfl, h3⟩ := h
    match k, h3 with
    | 2, h3 =>
      show Sum.inl (yda E 2, vs.length, _) = Sum.inl (yda E 2, vs.length, _)
      congr 5
      funext j
      exact yarr_l h3 j
    | 4, h3 =>
      have h3 : vs = rs.map (fun q => (1, q)) := of_decide_eq_true h3
      show Sum.inl (yda E 4, vs.length, Sum.inr (Sum.inr (Sum.inr (Sum.inr (fun j => xdr (yb E) (vs.getD j (2, 0))))))) = Sum.inl (yda E 4, vs.length, Sum.inr (Sum.inr (Sum.inr (Sum.inr (fun j => (rs[j]?).map (fun q => yb E + q))))))
      congr 7
      funext j
      rw [h3, List.getD_eq_getElem?_getD, List.getElem?_map]
      cases rs[j]? <;> rfl
    | 0, h3 =>
      show Sum.inl (yda E 0, vs.length, _) = Sum.inl (yda E 0, vs.length, _)
      congr 4
      funext j
      exact yarr_i h3 j
    | 1, h3 =>
      show Sum.inl (yda E 1, vs.length, _) = Sum.inl (yda E 1, vs.length, _)
      congr 4
      funext j
      exact yarr_i h3 j
    | 3, h3 =>
      show Sum.inl (yda E 3, vs.length, _) = Sum.inl (yda E 3, vs.length, _)
      congr 4
      funext j
      exact yarr_i h3 j
    | k + 5, h3 =>
      show Sum.inl (yda E (k + 5), vs.length, _) = Sum.inl (yda E (k + 5), vs.length, _)
      congr 4
      funext j
      exact yarr_i h3 j
  | .inl _, .inr _, h => cases h
  | .inr _, .inl _, h => cases h
theorem ycx_of {mem : yMem} : ∀ (K : xH) (L : List yS) (o : Nat), yrelL K L = true → (∀ i c, K[i]? = some c → mem (o + i) = ymc c) → xcx (yb E) ρ (ysa E) (yda E) o K = ycx E mem o L
  | [], [], _, _, _ => rfl
  | c :: K, S :: L, o, h, hm => by
    simp only [yrelL, Bool.and_eq_true] at h
    simp only [xcx, ycx]
    have h0 : mem o = ymc c := hm 0 c rfl
    rw [yrel_ok h.1, h0, ycx_of K L (o + 1) h.2 (fun i c' hc => by rw [show o + 1 + i = o + (i + 1) by (first | exact Nat.le_of_ble_eq_true rfl | exact (fun h => absurd h.1 (by decide)) | omega)]; exact hm (i + 1) c' (by simpa using hc))]
  | [], _ :: _, _, h, _ => by cases h
  | _ :: _, [], _, h, _ => by cases h
end WD
set_option maxRecDepth 1000000 in
theorem yrel_0 : yrelL xK0 ysh = true := by decide +kernel
theorem yworld {E : yE} {ρ : Nat → Int32} : xcx (yb E) ρ (ysa E) (yda E) 0 xK0 = yW E ym0 := ycx_of xK0 ysh 0 yrel_0 (fun i c hc => by
  funext j
  show (match xK0[0 + i]? with
    | some c => ymc c j
    | none => 0) = ymc c j
  rw [Nat.zero_add, hc])
/-! it is within the intervals -/
def yinb (v : xV) (q : Int × Int) : Bool := if Nat.beq v.2 0 then decide (q.1 ≤ 0) && decide (0 ≤ q.2) else decide (q.1 ≤ w32 (ymv v)) && decide (w32 (ymv v) ≤ q.2)
theorem yinb_ok {v : xV} {q : Int × Int} (h : yinb v q = true) : q.1 ≤ w32 (ymv v) ∧ w32 (ymv v) ≤ q.2 := by
  unfold yinb at h
  split at h
  · next e =>
    simp only [Bool.and_eq_true, decide_eq_true_eq] at h
    rw [Nat.beq_eq] at e
    have e0 : ymv v = 0 := by
      obtain ⟨a, n⟩ := v
      dsimp only at e
      subst e
      unfold ymv
      split
      · next h' => cases h'; rfl
      · next h' => cases h'; rfl
      · rfl
    rw [e0, w32c_0]
    exact h
  · simp only [Bool.and_eq_true, decide_eq_true_eq] at h
    exact h
def ygl : List xV → List (Int × Int) → Int × Int → Bool
  | [], l, d => l.all (fun q => yinb (0, 0) q) && yinb (0, 0) d
  | v :: r, [], d => yinb v d && ygl r [] d
  | v :: r, q :: l, d => yinb v q && ygl r l d
theorem ygl_ok {d : Int × Int} : ∀ (vs : List xV) (l : List (Int × Int)) (j : Nat), ygl vs l d = true → yinb (vs.getD j (0, 0)) (l.getD j d) = true
  | [], l, j, h => by
    simp only [ygl, Bool.and_eq_true] at h
    have := getD_all (p := fun q => yinb (0, 0) q) (d := d) h.2 l j h.1
    simpa using this
  | v :: r, [], 0, h => by
    simp only [ygl, Bool.and_eq_true] at h
    simpa using h.1
  | v :: r, [], j + 1, h => by
    simp only [ygl, Bool.and_eq_true] at h
    have := ygl_ok r [] j h.2
    simpa using this
  | v :: r, q :: l, 0, h => by
    simp only [ygl, Bool.and_eq_true] at h
    simpa using h.1
  | v :: r, q :: l, j + 1, h => by
    simp only [ygl, Bool.and_eq_true] at h
    have := ygl_ok r l j h.2
    simpa using this
def yvs (c : xC) : List xV := match c with
  | .inl (_, vs) => vs
  | .inr (_, fs) => fs
theorem ymc_vs (c : xC) (j : Nat) : ymc c j = ymv ((yvs c).getD j (0, 0)) := by
  match c with
  | .inl (_, vs) => rfl
  | .inr (_, fs) => rfl
def yglL : List xC → List ((Int × Int) × List (Int × Int)) → Bool
  | [], [] => true
  | c :: K, e :: L => ygl (yvs c) e.2 e.1 && yglL K L
  | _, _ => false
theorem yglL_ok : ∀ (K : List xC) (L : List ((Int × Int) × List (Int × Int))) (i j : Nat) (c : xC), yglL K L = true → K[i]? = some c → ∃ e, L[i]? = some e ∧ e.2.getD j e.1 = e.2.getD j e.1 ∧ yinb ((yvs c).getD j (0, 0)) (e.2.getD j e.1) = true
  | c :: K, e :: L, 0, j, c', h, hc => by
    simp only [List.getElem?_cons_zero, Option.some.injEq] at hc
    subst hc
    simp only [yglL, Bool.and_eq_true] at h
    exact ⟨e, rfl, rfl, ygl_ok _ _ j h.1⟩
  | c :: K, e :: L, i + 1, j, c', h, hc => by
    simp only [yglL, Bool.and_eq_true] at h
    obtain ⟨e', h1, h2⟩ := yglL_ok K L i j c' h.2 (by simpa using hc)
    exact ⟨e', by simpa using h1, h2⟩
  | [], _, i, j, c, _, hc => by simp at hc
  | _ :: _, [], _, _, _, h, _ => by cases h
set_option maxRecDepth 1000000 in
theorem ygl_0 : yglL xK0 ygam = true := by decide +kernel
set_option maxRecDepth 1000000 in
theorem yk_len : xK0.length = 144 ∧ ygam.length = 144 := by decide +kernel
theorem ym0_ok : aGok ym0 := by
  intro i j
  show (agam i j).1 ≤ w32 (match xK0[i]? with
    | some c => ymc c j
    | none => 0) ∧ w32 (match xK0[i]? with
    | some c => ymc c j
    | none => 0) ≤ (agam i j).2
  cases hc : xK0[i]? with
  | none =>
    dsimp only
    have hi : ¬ i < 144 := fun hi => by
      rw [List.getElem?_eq_getElem (by rw [yk_len.1]; exact hi)] at hc
      cases hc
    have e : ygam[i]? = none := List.getElem?_eq_none (by rw [yk_len.2]; (first | exact Nat.le_of_ble_eq_true rfl | exact (fun h => absurd h.1 (by decide)) | omega))
    rw [w32c_0]
    unfold agam aent
    rw [e]
    show (([] : List (Int × Int)).getD j a32).1 ≤ 0 ∧ 0 ≤ (([] : List (Int × Int)).getD j a32).2
    rw [show ([] : List (Int × Int)).getD j a32 = a32 by simp]
    decide
  | some c =>
    dsimp only
    obtain ⟨e, h1, -, h2⟩ := yglL_ok xK0 ygam i j c ygl_0 hc
    have := yinb_ok h2
    rw [ymc_vs]
    unfold agam aent
    rw [h1]
    exact this
theorem ym0_Om : Om ym0 := by
  have a : ∀ s, s < 5 → ym0 114 s = 0 ∧ ym0 115 s = 0 := by decide +kernel
  have b : ym0 127 0 = 0 ∧ ym0 127 1 = 0 := by decide +kernel
  have c : ym0 97 1 = 0 := by decide +kernel
  refine ⟨fun s hs => ?_, ⟨⟨fun i hi => ?_, fun i j _ hj => ?_⟩, ⟨fun i hi => ?_, fun i j _ hj => ?_⟩⟩, fun v hv => ?_⟩
  · rw [(a s hs).1, (a s hs).2]
    exact ⟨_, rfl⟩
  · rw [b.1, w32c_0] at hi; (first | exact Nat.le_of_ble_eq_true rfl | exact (fun h => absurd h.1 (by decide)) | omega)
  · rw [b.1, w32c_0] at hj; (first | exact Nat.le_of_ble_eq_true rfl | exact (fun h => absurd h.1 (by decide)) | omega)
  · rw [b.2, w32c_0] at hi; (first | exact Nat.le_of_ble_eq_true rfl | exact (fun h => absurd h.1 (by decide)) | omega)
  · rw [b.2, w32c_0] at hj; (first | exact Nat.le_of_ble_eq_true rfl | exact (fun h => absurd h.1 (by decide)) | omega)
  · rw [c, w32c_0] at hv; (first | exact Nat.le_of_ble_eq_true rfl | exact (fun h => absurd h.1 (by decide)) | omega)
theorem ym0_tp (j : Nat) : ym0 1 j = 0 ∧ ym0 96 j = 0 := by
  have e1 : xK0[1]? = some (.inl (1, List.replicate 800 (0, 0))) := by decide +kernel
  have e2 : xK0[96]? = some (.inl (0, List.replicate 800 (0, 0))) := by decide +kernel
  have r : ymv ((List.replicate 800 ((0 : Nat), (0 : Nat))).getD j (0, 0)) = 0 := by
    rw [List.getD_eq_getElem?_getD, List.getElem?_replicate]
    split <;> decide
  refine ⟨?_, ?_⟩
  · show (match xK0[1]? with
    | some c => ymc c j
    | none => 0) = 0
    rw [e1]
    exact r
  · show (match xK0[96]? with
    | some c => ymc c j
    | none => 0) = 0
    rw [e2]
    exact r
theorem ym0_wd : cWd ym0 := by
  have : ∀ i, i < 23 → w32 (ym0 56 i) = sWd.getD i 0 := by decide +kernel
  exact this
theorem ym0_LIw : LIw 0 ym0 := by
  have h0 : w32 (ym0 3 1) = 0 ∧ w32 (ym0 5 1) = 0 ∧ w32 (ym0 7 1) = 0 ∧ w32 (ym0 9 1) = 0 ∧ w32 (ym0 2 16) = 0 ∧ w32 (ym0 2 17) = 0 ∧ w32 (ym0 2 18) = 0 ∧ w32 (ym0 22 4) = 0 := by decide +kernel
  have h1 : ∀ j, j < 7 → w32 (ym0 97 j) = 0 := by decide +kernel
  have h2 : ∀ j, j < 5 → w32 (ym0 25 j) = 0 ∧ w32 (ym0 26 j) = 0 ∧ w32 (ym0 114 j) = 0 ∧ w32 (ym0 115 j) = 0 := by decide +kernel
  obtain ⟨a1, a2, a3, a4, a5, a6, a7, a8⟩ := h0
  have n1 : ∀ {z mx : Nat}, w32 (ym0 z 1) = 0 → cNm ym0 z mx [] := fun h => ⟨h, Nat.zero_le _, fun j hj => absurd hj (Nat.not_lt_zero j)⟩
  have n2 : ∀ {z q mx : Nat}, q < 7 → rNl ym0 z q mx [] := fun h => ⟨h1 _ h, Nat.zero_le _, fun j hj => absurd hj (Nat.not_lt_zero j)⟩
  let W : dU := ((fun _ => 0, fun _ => 0, fun _ => 0, fun _ => -1, fun _ => 0, fun _ => 0), 0, 0, 0, 0, 0, 0)
  let V : dU := ((fun _ => 0, fun _ => 0, fun _ => 0, fun _ => 0, fun _ => 0, fun _ => 0), 0, 0, 0, 0, 0, 0)
  have hc : cDh ym0 dD0 := ⟨⟨n1 a1, fun j t h => (by cases h)⟩, ⟨n1 a2, a5, fun t h => (by cases h), fun j t h => (by cases h)⟩, ⟨n1 a3, fun j t h => (by cases h)⟩, ⟨n1 a4, fun j t h => (by cases h)⟩, ⟨a6, a7⟩, fun j hj => ⟨(h2 j hj).1, (h2 j hj).2.1⟩, ⟨a8, Nat.zero_le _⟩, trivial⟩
  have hr : rDl ym0 dD0 := ⟨⟨n2 (by decide), fun j t h => (by cases h)⟩, ⟨n2 (by decide), fun j t h => (by cases h)⟩, ⟨n2 (by decide), fun j t h => (by cases h)⟩, ⟨n2 (by decide), fun j t h => (by cases h)⟩, ⟨h1 4 (by decide), h1 5 (by decide)⟩, fun j hj => (h2 j hj).2.2, ⟨h1 6 (by decide), Nat.zero_le _⟩, trivial⟩
  have w1 : cW ym0 57 W := by
    have k1 : ∀ j, j < 3 → w32 (ym0 58 j) = 0 ∧ w32 (ym0 60 j) = 0 := by decide +kernel
    have k2 : ∀ j, j < 6 → w32 (ym0 59 j) = 0 := by decide +kernel
    have k3 : ∀ j, j < 12 → w32 (ym0 61 j) = -1 ∧ w32 (ym0 62 j) = 0 ∧ w32 (ym0 63 j) = 0 := by decide +kernel
    have k4 : w32 (ym0 57 6) = 0 ∧ w32 (ym0 57 7) = 0 ∧ w32 (ym0 57 8) = 0 ∧ w32 (ym0 57 9) = 0 ∧ w32 (ym0 57 10) = 0 ∧ w32 (ym0 57 12) = 0 := by decide +kernel
    exact ⟨fun j hj => (k1 j hj).1, k2, fun j hj => (k1 j hj).2, fun j hj => (k3 j hj).1, fun j hj => (k3 j hj).2.1, fun j hj => (k3 j hj).2.2, k4⟩
  have w2 : cW ym0 64 V := by
    have k1 : ∀ j, j < 3 → w32 (ym0 65 j) = 0 ∧ w32 (ym0 67 j) = 0 := by decide +kernel
    have k2 : ∀ j, j < 6 → w32 (ym0 66 j) = 0 := by decide +kernel
    have k3 : ∀ j, j < 12 → w32 (ym0 68 j) = 0 ∧ w32 (ym0 69 j) = 0 ∧ w32 (ym0 70 j) = 0 := by decide +kernel
    have k4 : w32 (ym0 64 6) = 0 ∧ w32 (ym0 64 7) = 0 ∧ w32 (ym0 64 8) = 0 ∧ w32 (ym0 64 9) = 0 ∧ w32 (ym0 64 10) = 0 ∧ w32 (ym0 64 12) = 0 := by decide +kernel
    exact ⟨fun j hj => (k1 j hj).1, k2, fun j hj => (k1 j hj).2, fun j hj => (k3 j hj).1, fun j hj => (k3 j hj).2.1, fun j hj => (k3 j hj).2.2, k4⟩
  have g3 : ∀ j, j < 3 → w32 (ym0 123 j) = 0 ∧ w32 (ym0 124 j) = 0 ∧ w32 (ym0 123 (3 * 1 + j)) = 0 ∧ w32 (ym0 124 (3 * 1 + j)) = 0 := by decide +kernel
  have g6 : ∀ j, j < 6 → w32 (ym0 125 j) = 0 ∧ w32 (ym0 125 (6 * 1 + j)) = 0 := by decide +kernel
  have g12 : ∀ j, j < 12 → w32 (ym0 126 j) = -1 ∧ w32 (ym0 128 j) = 0 ∧ w32 (ym0 129 j) = 0 ∧ w32 (ym0 126 (12 * 1 + j)) = 0 ∧ w32 (ym0 128 (12 * 1 + j)) = 0 ∧ w32 (ym0 129 (12 * 1 + j)) = 0 := by decide +kernel
  have g0 : w32 (ym0 127 0) = 0 ∧ w32 (ym0 118 0) = 0 ∧ w32 (ym0 119 0) = 0 ∧ w32 (ym0 121 0) = 0 ∧ w32 (ym0 122 0) = 0 ∧ w32 (ym0 120 0) = 0 := by decide +kernel
  have g1 : w32 (ym0 127 1) = 0 ∧ w32 (ym0 118 1) = 0 ∧ w32 (ym0 119 1) = 0 ∧ w32 (ym0 121 1) = 0 ∧ w32 (ym0 122 1) = 0 ∧ w32 (ym0 120 1) = 0 := by decide +kernel
  have e0 : w32 (ym0 0 14) = 0 ∧ w32 (ym0 95 49) = 0 ∧ w32 (ym0 71 1) = 0 ∧ w32 (ym0 95 61) = 0 := by decide +kernel
  have w3 : rW ym0 0 W := rW0_of ⟨fun j hj => (g3 j hj).1, fun j hj => (g6 j hj).1, fun j hj => (g3 j hj).2.1, fun j hj => (g12 j hj).1, fun j hj => (g12 j hj).2.1, fun j hj => (g12 j hj).2.2.1, g0⟩
  have w4 : rW ym0 1 V := ⟨fun j hj => (g3 j hj).2.2.1, fun j hj => (g6 j hj).2, fun j hj => (g3 j hj).2.2.2, fun j hj => (g12 j hj).2.2.2.1, fun j hj => (g12 j hj).2.2.2.2.1, fun j hj => (g12 j hj).2.2.2.2.2, g1⟩
  have w5 : uOk dD0 0 W := ⟨⟨Int.le_refl _, show (0 : Int) ≤ 12 by decide⟩, fun p _ => Or.inl rfl, fun i hi => absurd (show (i : Int) < 0 from hi) (by (first | exact Nat.le_of_ble_eq_true rfl | exact (fun h => absurd h.1 (by decide)) | omega)), fun i j _ hj => absurd (show (j : Int) < 0 from hj) (by (first | exact Nat.le_of_ble_eq_true rfl | exact (fun h => absurd h.1 (by decide)) | omega)), fun p _ h => absurd rfl h, fun j _ => ⟨Int.le_refl _, show (0 : Int) ≤ 10000 + 1000 * ((0 : Nat) : Int) by decide⟩, fun j _ => ⟨Int.le_refl _, show (0 : Int) ≤ 100 * ((0 : Nat) : Int) by decide⟩, fun j _ => ⟨Int.le_refl _, show (0 : Int) ≤ 999 by decide⟩, Int.le_refl _, show (0 : Int) < 64 by decide, show (0 : Int) < ((2 ^ 0 : Nat) : Int) by decide⟩
  exact ⟨dD0, W, V, ⟨hc, hr, dOk_0⟩, ⟨w1, w3, w5⟩, ⟨w2, w4, fun z => absurd e0.1 z⟩, by rw [e0.1, e0.2.1], by rw [e0.2.2.1, e0.2.2.2]⟩
theorem ym0_LI : LI 0 ym0 := ⟨ym0_ok, ym0_Om, by
  have : ym0 0 11 = ym0 95 2 := by decide +kernel
  rw [this], fun j => by rw [(ym0_tp j).1, (ym0_tp j).2]; decide +kernel, ym0_wd, ⟨by
  have : ym0 0 12 = ym0 95 33 := by decide +kernel
  rw [this], by
  have : ym0 0 13 = ym0 95 34 := by decide +kernel
  rw [this]⟩, ym0_LIw⟩
end
section
theorem xstp0_ok {pc : Nat} {lv : xL} {st : List xV} {K : xH} {ce sl : Nat} {κ : xK} {Ls : List xR} (h : xstp0 pc lv st K ce sl κ = some Ls) : pc = 23 ∧ lv = xlv0 ∧ st = [] ∧ K = xK0 ∧ ce = 144 ∧ sl = 14558 ∧ κ = ([], []) := by
  simp only [xstp0] at h
  split at h
  · next hc =>
    simp only [Bool.and_eq_true, Nat.beq_eq, decide_eq_true_eq] at hc
    exact hc
  · cases h
theorem xnil_ok {r : Option (List xR)} (h : xnil r = true) : r = some [] := by
  cases r with
  | none => cases h
  | some L =>
    cases L with
    | nil => rfl
    | cons a L => cases h
theorem xK1 {ρ : Nat → Int32} : xKok ρ ([], []) := ⟨fun q hq => (by cases hq), fun k a c h => (by cases h)⟩
/-- facts that stay: the script, what isn't castable -/
def xEX2 (b : Nat) (sa : Nat → Nat) (L : Nat) (xs : Nat → Int32) (U : State) : Prop := xFx b sa U ∧ va_X (sa 50) L xs U U.heap ∧ sa 50 < b ∧ va_Nc "java/util/NoSuchElementException" "java/lang/IndexOutOfBoundsException" U
theorem xEX2_ok (b : Nat) (sa : Nat → Nat) (L : Nat) (xs : Nat → Int32) : xEok b sa (xEX2 b sa L xs) := by
  have warm : ∀ s U : State, xEX2 b sa L xs s → s.WarmedH U.vm → (∀ q, q < b → U.heap[q]? = s.heap[q]?) → xEX2 b sa L xs U := fun s U h hW hq => ⟨xFx_warm h.1 hW hq, (va_X.moved hW.alike h.2.1).kept (hq _ h.2.2.1), h.2.2.1, va_Nc.moved hW.alike h.2.2.2⟩
  exact ⟨fun U g mk a h => warm U _ h (State.WarmedH.refl U) (fun _ _ => rfl), warm, fun s h => h.1⟩
set_option maxHeartbeats 4000000 in
set_option maxRecDepth 100000 in
/-- THE LAW, from its entry -/
theorem whole_start {p : Program} {e : Env} {s : State} {m : MethodId} {below : List Frame} {meth : Method} {c : Code} (l : Launch) (hls : l.stackTraces = false) {b L : Nat} {xs : Nat → Int32} (hL : L ≤ 3072) (C0 : lw_At p s m meth c b L xs) : W p l e room_1 s m #[Value.ref b] below meth c s.heap [] 0 0 (lw_Z below #[Value.ref b] s) (entryFrame m ([Value.ref b] : List Value).toArray 7) := by
  obtain ⟨hx, hb, hr, hml, hown, hts, hX, hbl, hlocks, hgv⟩ := C0
  obtain ⟨D, dA, hK⟩ := xworld hts
  obtain ⟨sa, hF, hsa⟩ := xfacts hts hgv
  have hX0 : va_X (sa 50) L xs s s.heap := by rw [hsa]; exact hX
  have hnc : va_Nc "java/util/NoSuchElementException" "java/lang/IndexOutOfBoundsException" s := va_Nc.of (flat_of_before _ hgv _ (by decide +kernel))
  have hEk := xEX2_ok s.heap.size sa L xs
  have hEX : xEX2 s.heap.size sa L xs s := ⟨hF, hX0, by rw [hsa]; exact hbl, hnc⟩
  obtain ⟨E, hEe⟩ : ∃ E : yE, E = (s.heap.size, sa, dA, D, l, xEX2 s.heap.size sa L xs) := ⟨_, rfl⟩
  have hE : yEok E := by
    rw [hEe]
    exact ⟨hls, hEk⟩
  have hctx : ∀ M : xM, xMc M = code → xMo M = RL → xMl M = 7 → xMr M = some .boolean → (xMy M).name = "law" → xCtx s.heap.size dA D M p s m #[Value.ref b] meth c (fun q => s.heap.size ≤ q) (xEX2 s.heap.size sa L xs) := fun M h1 h2 h3 h4 h5 =>
    ⟨⟨hx, by rw [h1]; exact hb, by rw [h2]; exact hown, fun w hw => hts w (xgt_in w hw)⟩, by rw [h3]; exact hml, hK, fun _ h => h, fun _ h => h, by rw [h4]; exact hr, hlocks, (fun h => by rw [h5] at h; exact absurd h (by decide)), hEX, Nat.le_refl _⟩
  have hloopG : LG E 0 23 [] ym0 144 14558 (fun r _ => r = some (0, cI 1)) := l_loop hE yman_Om (yman_of OmAC_F2 (fun _ h => h.1)) (L := L) (xs := xs) (fun s' h' => by rw [hEe] at h'; exact h'.2.2.2) (fun s' h' => by rw [hEe] at h' ⊢; exact ⟨h'.2.1, h'.2.2.1⟩) hL (fun _ => rfl) 3072 0 ym0 144 14558 (by (first | exact Nat.le_of_ble_eq_true rfl | exact (fun h => absurd h.1 (by decide)) | omega)) (by decide) (by decide) (by rw [w32c_0]; exact ym0_LI) (by decide) (by decide)
  refine W.mono (Q := MQ below (fun _ _ o _ => o = .returned (some (.int 1))) #[Value.ref b] s 601024 7293034 (fun q => s.heap.size ≤ q)) ?_ ?_
  · have hloop : xSnd true s.heap.size (fun _ => 0) sa dA D xm_L0 p l e s m #[Value.ref b] below meth c (fun q => s.heap.size ≤ q) (fun _ _ o _ => o = .returned (some (.int 1))) xstp0 := by
      intro pc lv st K ce sl κ0 Ls0 h0
      obtain ⟨rfl, rfl, rfl, rfl, rfl, rfl, rfl⟩ := xstp0_ok h0
      intro H locs ls hl hP hS hz hA0 _ _
      subst hEe
      have hw := yworld (E := (s.heap.size, sa, dA, D, l, xEX2 s.heap.size sa L xs)) (ρ := fun _ => 0)
      exact hloopG p e s m #[Value.ref b] below meth c (fun q => s.heap.size ≤ q) (fun _ _ o _ => o = .returned (some (.int 1))) ⟨hctx xm_L1 rfl rfl rfl rfl rfl, fun i _ => Nat.le_add_right _ _⟩ (fun r m9 t k1 k2 k3 => by rw [k1]; rfl) H locs ls hl (by rw [← hw]; exact hP) hS
    have hpro := xeT_ok (al := true) hls hEk (ds := []) (ρ := fun _ => 0) (fun k o x y h => by simp at h) (fun U hU L' hL' => by cases hL') xmt_ok (M := xm_L0) xo_L0 (hctx xm_L0 rfl rfl rfl rfl rfl) hloop 50 _ _ _ _ _ _ _ _ (xnil_ok xpro)
    have hl := lv_entry ([.ref b]) (n := 7) (Nat.le_of_ble_eq_true rfl)
    rw [lg_entry_eq]
    exact hpro s.heap [] _ (by rw [← hsa] at hl ⊢; exact hl) (fun k q h => by simp [xcx] at h) va_S.rf (fun _ => rfl) (fun i hi => absurd hi (by simp)) xK1 (fun lf hlf => (by cases hlf))
  · rintro t ⟨o, h1, h2, h3, LL, ⟨g1, g2, g3⟩, h5⟩
    exact ⟨o, h1, h2, h3, g1, g2, g3.weaken (fun y hy hlt => absurd hlt (Nat.not_lt.mpr (h5 y hy))) (Nat.le_refl _) (Nat.le_refl _)⟩
end
