/-! THE REFERENCE'S TOKENS, as they are -/
theorem iI_natE {x : Int} {a : Nat} (h : w32 x = (a : Int)) : iI x = nI a := by rw [← iI_n, ← h, iI_w]
theorem w32_nI {a : Nat} (h : a < 2147483648) : w32 (nI a).toInt = (a : Int) := by
  show (Int32.ofInt (nI a).toInt).toInt = _
  rw [Int32.ofInt_toInt, ← iI_n]
  exact w32_of (by omega) (by omega)
theorem bb31 : ∀ s : Nat, s < 32 → (nI s &&& 31) = nI s ∧ ((nI s).toBitVec.smod 32).toNat = s := by decide +kernel
theorem yb_shl {x y : Int} {a s : Nat} (hx : w32 x = (a : Int)) (hy : w32 y = (s : Int)) (hs : s < 32) (h : a * 2 ^ s < 2147483648) : w32 (ybin 6 x y) = ((a * 2 ^ s : Nat) : Int) := by
  show w32 (fbin 6 (iI x) (iI y)).toInt = _
  rw [iI_natE hx, iI_natE hy]
  show w32 (nI a <<< (nI s &&& 31)).toInt = _
  rw [(bb31 s hs).1, pk_shlN (nI s) s (bb31 s hs).2 (by omega), w32_nI h]
theorem nI_or {p q : Nat} (hp : p < 2 ^ 32) (hq : q < 2 ^ 32) : nI p ||| nI q = nI (p ||| q) := by
  apply Int32.toBitVec_inj.mp
  apply BitVec.eq_of_toNat_eq
  rw [Int32.toBitVec_or, BitVec.toNat_or, pk_tn hp, pk_tn hq, pk_tn (Nat.or_lt_two_pow hp hq)]
theorem yb_or {x y : Int} {a b k : Nat} (hx : w32 x = ((2 ^ k * a : Nat) : Int)) (hy : w32 y = (b : Int)) (hb : b < 2 ^ k) (h : 2 ^ k * a + b < 2147483648) : w32 (ybin 4 x y) = ((2 ^ k * a + b : Nat) : Int) := by
  show w32 (fbin 4 (iI x) (iI y)).toInt = _
  rw [iI_natE hx, iI_natE hy]
  show w32 (nI (2 ^ k * a) ||| nI b).toInt = _
  rw [nI_or (by omega) (by omega), ← Nat.two_pow_add_eq_or_of_lt hb, w32_nI h]
/-- the reference's bytes -/
abbrev rch (mem : yMem) : Nat → Int := fun j => w32 (mem 96 j)
abbrev rpl (mem : yMem) : Nat := (w32 (mem 95 28)).toNat
abbrev rat (mem : yMem) : Nat := (w32 (mem 95 27)).toNat
theorem fw_cmp {E : yE} (hE : yEok E) {d : Nat} {mem : yMem} {Q : Option yV → yMem → Prop} (hp : 0 ≤ w32 (mem 95 28)) (hpe : w32 (mem 95 28) ≤ w32 (mem 95 27)) (ha : w32 (mem 95 27) ≤ 800) {m : Nat} (hm : m < 23) {n k : Int} (hk : w32 k = ((zws.getD m 0 : Nat) : Int)) (hn : sMt (rch mem) (rpl mem) (rat mem) m → Q (some (0, n)) mem) (go : ¬ sMt (rch mem) (rpl mem) (rat mem) m → ∀ r3, zG E (d + 4) xm_252 97 [some (1, 95), some (0, n), some (0, k), r3] [] mem Q) : ∀ (c : Nat) (i : Int), zwe.getD m 0 - (w32 k + w32 i).toNat = c → 0 ≤ w32 i → (w32 k + w32 i).toNat ≤ zwe.getD m 0 → w32 (mem 95 28) + w32 i ≤ w32 (mem 95 27) → (∀ j : Nat, (j : Int) < w32 i → rch mem (rpl mem + j) = ((zW (zws.getD m 0 + j) : Nat) : Int)) → zG E (d + 4) xm_252 15 [some (1, 95), some (0, n), some (0, k), some (0, i)] [] mem Q := by
  obtain ⟨z1, z2, z3⟩ := zword_ok m hm
  have rp : rpl mem = (w32 (mem 95 28)).toNat := rfl
  have ra : rat mem = (w32 (mem 95 27)).toNat := rfl
  intro c
  induction c with
  | zero =>
    intro i hc h0 h2 hpi hM
    refine zgo_ok (n := 60) hE xmo_252 (cs := zc_252) ?_
    have eki : w32 (k + i) = w32 k + w32 i := w32_ad (by omega) (by omega)
    have epi : w32 (mem 95 28 + i) = w32 (mem 95 28) + w32 i := w32_ad (by omega) (by omega)
    have e := (zword_sp m hm (w32 (k + i)).toNat (by omega) (by omega) (by omega)).mpr (by omega)
    have tail : yCon E (d + 4) xm_257 [(5, 2), (0, k + i)] mem (fun v mem' => zgk E (d + 4) xm_252 77 [some (1, 95), some (0, n), some (0, k), some (0, i)] [] v mem' Q) := by
      refine c_charAt hE (by omega) (by omega) (by omega) ?_
      refine zgk_s hE xmo_252 60 zc_252 ?_
      simp only [ynok_30, ynok_31, w32c_0, w32c_1, w32c_2, w32c_3, w32c_4, w32c_5, w32c_6, w32c_7, w32c_8, w32c_9, w32c_10, w32c_11, w32c_12, w32c_13, w32c_14, w32c_m1, w32c_m2, w32c_118, Int.reduceAdd, Int.reduceSub, Int.reduceMul, yput_s, yput_n, znl_n, znl_0, znl_1, znl_4, ysum_n, ysum_0, ysum_1, ysum_4, true_and, and_true, Nat.reduceAdd, Nat.reduceLeDiff, true_implies, eq_self, true_or, or_true, or_false, false_or, not_true_eq_false, not_false_eq_true, false_implies, implies_true, yset_s, yset_o, yset_d, ne_eq, Nat.reduceEqDiff, Int.reduceToNat, Int.reduceEq, Int.reduceLE, Int.reduceLT, Classical.not_not, Nat.reduceLT, ↓zvk_s, ↓zvk_n, ↓s_252_0, ↓s_252_1n, ↓s_252_1i, ↓s_252_1p, ↓s_252_2, ↓s_252_3n, ↓s_252_3i, ↓s_252_3p, ↓g_252_4, ↓k_252_4, ↓s_252_5, ↓s_252_7, ↓s_252_10, ↓s_252_13, ↓s_252_14n, ↓s_252_14i, ↓s_252_14p, ↓g_252_15, ↓k_252_15, ↓s_252_17, ↓s_252_18, ↓s_252_19, ↓s_252_20, ↓s_252_23, ↓s_252_25, ↓s_252_28, ↓s_252_29, ↓s_252_32, ↓s_252_33, ↓s_252_34, ↓s_252_35, ↓s_252_38, ↓s_252_41, ↓s_252_42, ↓s_252_45, ↓s_252_46, ↓s_252_49, ↓s_252_50, ↓s_252_51, ↓s_252_52, ↓s_252_54, ↓s_252_55, ↓s_252_56, ↓s_252_57, ↓s_252_60, ↓s_252_63n, ↓s_252_63i, ↓s_252_63p, ↓s_252_66, ↓s_252_69, ↓s_252_71, ↓s_252_72, ↓s_252_73, ↓s_252_74, ↓s_252_77, ↓s_252_79, ↓s_252_82, ↓s_252_83, ↓s_252_86, ↓s_252_87, ↓s_252_88, ↓s_252_89, ↓s_252_92, ↓s_252_95, ↓s_252_96, ↓g_252_97, ↓k_252_97, ↓s_252_99, ↓s_252_100, ↓s_252_103, ↓s_252_105, ↓s_252_108n, ↓s_252_108i, ↓s_252_108p, ↓s_252_111, ↓s_252_114n, ↓s_252_114i, ↓s_252_114p, ↓s_252_117n, ↓s_252_117i, ↓s_252_117p, ↓s_252_120, ↓s_252_123, ↓s_252_124, w32c_32, zar_96, zia_96, zln_96, zit_96, zio_95]
      rw [e, epi]
      refine ⟨fun h => absurd (show w32 ((32 : Nat) : Int) = 32 by decide) h, fun _ => ⟨fun h => go (fun z => h ?_) _, fun h => hn ⟨?_, fun j hj => hM j (by omega)⟩⟩⟩
      · have := z.1
        omega
      · omega
    simp only [ynok_30, ynok_31, w32c_0, w32c_1, w32c_2, w32c_3, w32c_4, w32c_5, w32c_6, w32c_7, w32c_8, w32c_9, w32c_10, w32c_11, w32c_12, w32c_13, w32c_14, w32c_m1, w32c_m2, w32c_118, Int.reduceAdd, Int.reduceSub, Int.reduceMul, yput_s, yput_n, znl_n, znl_0, znl_1, znl_4, ysum_n, ysum_0, ysum_1, ysum_4, true_and, and_true, Nat.reduceAdd, Nat.reduceLeDiff, true_implies, eq_self, true_or, or_true, or_false, false_or, not_true_eq_false, not_false_eq_true, false_implies, implies_true, yset_s, yset_o, yset_d, ne_eq, Nat.reduceEqDiff, Int.reduceToNat, Int.reduceEq, Int.reduceLE, Int.reduceLT, Classical.not_not, Nat.reduceLT, ↓zvk_s, ↓zvk_n, ↓s_252_0, ↓s_252_1n, ↓s_252_1i, ↓s_252_1p, ↓s_252_2, ↓s_252_3n, ↓s_252_3i, ↓s_252_3p, ↓g_252_4, ↓k_252_4, ↓s_252_5, ↓s_252_7, ↓s_252_10, ↓s_252_13, ↓s_252_14n, ↓s_252_14i, ↓s_252_14p, ↓g_252_15, ↓k_252_15, ↓s_252_17, ↓s_252_18, ↓s_252_19, ↓s_252_20, ↓s_252_23, ↓s_252_25, ↓s_252_28, ↓s_252_29, ↓s_252_32, ↓s_252_33, ↓s_252_34, ↓s_252_35, ↓s_252_38, ↓s_252_41, ↓s_252_42, ↓s_252_45, ↓s_252_46, ↓s_252_49, ↓s_252_50, ↓s_252_51, ↓s_252_52, ↓s_252_54, ↓s_252_55, ↓s_252_56, ↓s_252_57, ↓s_252_60, ↓s_252_63n, ↓s_252_63i, ↓s_252_63p, ↓s_252_66, ↓s_252_69, ↓s_252_71, ↓s_252_72, ↓s_252_73, ↓s_252_74, ↓s_252_77, ↓s_252_79, ↓s_252_82, ↓s_252_83, ↓s_252_86, ↓s_252_87, ↓s_252_88, ↓s_252_89, ↓s_252_92, ↓s_252_95, ↓s_252_96, ↓g_252_97, ↓k_252_97, ↓s_252_99, ↓s_252_100, ↓s_252_103, ↓s_252_105, ↓s_252_108n, ↓s_252_108i, ↓s_252_108p, ↓s_252_111, ↓s_252_114n, ↓s_252_114i, ↓s_252_114p, ↓s_252_117n, ↓s_252_117i, ↓s_252_117p, ↓s_252_120, ↓s_252_123, ↓s_252_124, w32c_32, zar_96, zia_96, zln_96, zit_96, zio_95]
    refine c_charAt hE (by omega) (by omega) (by omega) ?_
    refine zgk_s hE xmo_252 60 zc_252 ?_
    rw [e]
    simp only [ynok_30, ynok_31, w32c_0, w32c_1, w32c_2, w32c_3, w32c_4, w32c_5, w32c_6, w32c_7, w32c_8, w32c_9, w32c_10, w32c_11, w32c_12, w32c_13, w32c_14, w32c_m1, w32c_m2, w32c_118, Int.reduceAdd, Int.reduceSub, Int.reduceMul, yput_s, yput_n, znl_n, znl_0, znl_1, znl_4, ysum_n, ysum_0, ysum_1, ysum_4, true_and, and_true, Nat.reduceAdd, Nat.reduceLeDiff, true_implies, eq_self, true_or, or_true, or_false, false_or, not_true_eq_false, not_false_eq_true, false_implies, implies_true, yset_s, yset_o, yset_d, ne_eq, Nat.reduceEqDiff, Int.reduceToNat, Int.reduceEq, Int.reduceLE, Int.reduceLT, Classical.not_not, Nat.reduceLT, ↓zvk_s, ↓zvk_n, ↓s_252_0, ↓s_252_1n, ↓s_252_1i, ↓s_252_1p, ↓s_252_2, ↓s_252_3n, ↓s_252_3i, ↓s_252_3p, ↓g_252_4, ↓k_252_4, ↓s_252_5, ↓s_252_7, ↓s_252_10, ↓s_252_13, ↓s_252_14n, ↓s_252_14i, ↓s_252_14p, ↓g_252_15, ↓k_252_15, ↓s_252_17, ↓s_252_18, ↓s_252_19, ↓s_252_20, ↓s_252_23, ↓s_252_25, ↓s_252_28, ↓s_252_29, ↓s_252_32, ↓s_252_33, ↓s_252_34, ↓s_252_35, ↓s_252_38, ↓s_252_41, ↓s_252_42, ↓s_252_45, ↓s_252_46, ↓s_252_49, ↓s_252_50, ↓s_252_51, ↓s_252_52, ↓s_252_54, ↓s_252_55, ↓s_252_56, ↓s_252_57, ↓s_252_60, ↓s_252_63n, ↓s_252_63i, ↓s_252_63p, ↓s_252_66, ↓s_252_69, ↓s_252_71, ↓s_252_72, ↓s_252_73, ↓s_252_74, ↓s_252_77, ↓s_252_79, ↓s_252_82, ↓s_252_83, ↓s_252_86, ↓s_252_87, ↓s_252_88, ↓s_252_89, ↓s_252_92, ↓s_252_95, ↓s_252_96, ↓g_252_97, ↓k_252_97, ↓s_252_99, ↓s_252_100, ↓s_252_103, ↓s_252_105, ↓s_252_108n, ↓s_252_108i, ↓s_252_108p, ↓s_252_111, ↓s_252_114n, ↓s_252_114i, ↓s_252_114p, ↓s_252_117n, ↓s_252_117i, ↓s_252_117p, ↓s_252_120, ↓s_252_123, ↓s_252_124, w32c_32, zar_96, zia_96, zln_96, zit_96, zio_95]
    exact ⟨fun _ => tail, fun h => absurd (show w32 ((32 : Nat) : Int) = 32 by decide) h⟩
  | succ c ih =>
    intro i hc h0 h2 hpi hM
    have hi1 : w32 (i + 1) = w32 i + 1 := by rw [w32_ad (by rw [w32c_1]; omega) (by rw [w32c_1]; omega), w32c_1]
    refine zgo_ok (n := 60) hE xmo_252 (cs := zc_252) ?_
    have eki : w32 (k + i) = w32 k + w32 i := w32_ad (by omega) (by omega)
    have epi : w32 (mem 95 28 + i) = w32 (mem 95 28) + w32 i := w32_ad (by omega) (by omega)
    have hz := zW_lt (w32 (k + i)).toNat (by omega)
    have wz : w32 ((zW (w32 (k + i)).toNat : Nat) : Int) = ((zW (w32 (k + i)).toNat : Nat) : Int) := w32_of (by omega) (by omega)
    have e : ¬ zW (w32 (k + i)).toNat = 32 := fun h => by
      have := (zword_sp m hm (w32 (k + i)).toNat (by omega) (by omega) (by omega)).mp h
      omega
    have tail : ¬ sMt (rch mem) (rpl mem) (rat mem) m → yCon E (d + 4) xm_257 [(5, 2), (0, k + i)] mem (fun v mem' => zgk E (d + 4) xm_252 77 [some (1, 95), some (0, n), some (0, k), some (0, i)] [] v mem' Q) := fun hno => by
      refine c_charAt hE (by omega) (by omega) (by omega) ?_
      refine zgk_s hE xmo_252 60 zc_252 ?_
      simp only [ynok_30, ynok_31, w32c_0, w32c_1, w32c_2, w32c_3, w32c_4, w32c_5, w32c_6, w32c_7, w32c_8, w32c_9, w32c_10, w32c_11, w32c_12, w32c_13, w32c_14, w32c_m1, w32c_m2, w32c_118, Int.reduceAdd, Int.reduceSub, Int.reduceMul, yput_s, yput_n, znl_n, znl_0, znl_1, znl_4, ysum_n, ysum_0, ysum_1, ysum_4, true_and, and_true, Nat.reduceAdd, Nat.reduceLeDiff, true_implies, eq_self, true_or, or_true, or_false, false_or, not_true_eq_false, not_false_eq_true, false_implies, implies_true, yset_s, yset_o, yset_d, ne_eq, Nat.reduceEqDiff, Int.reduceToNat, Int.reduceEq, Int.reduceLE, Int.reduceLT, Classical.not_not, Nat.reduceLT, ↓zvk_s, ↓zvk_n, ↓s_252_0, ↓s_252_1n, ↓s_252_1i, ↓s_252_1p, ↓s_252_2, ↓s_252_3n, ↓s_252_3i, ↓s_252_3p, ↓g_252_4, ↓k_252_4, ↓s_252_5, ↓s_252_7, ↓s_252_10, ↓s_252_13, ↓s_252_14n, ↓s_252_14i, ↓s_252_14p, ↓g_252_15, ↓k_252_15, ↓s_252_17, ↓s_252_18, ↓s_252_19, ↓s_252_20, ↓s_252_23, ↓s_252_25, ↓s_252_28, ↓s_252_29, ↓s_252_32, ↓s_252_33, ↓s_252_34, ↓s_252_35, ↓s_252_38, ↓s_252_41, ↓s_252_42, ↓s_252_45, ↓s_252_46, ↓s_252_49, ↓s_252_50, ↓s_252_51, ↓s_252_52, ↓s_252_54, ↓s_252_55, ↓s_252_56, ↓s_252_57, ↓s_252_60, ↓s_252_63n, ↓s_252_63i, ↓s_252_63p, ↓s_252_66, ↓s_252_69, ↓s_252_71, ↓s_252_72, ↓s_252_73, ↓s_252_74, ↓s_252_77, ↓s_252_79, ↓s_252_82, ↓s_252_83, ↓s_252_86, ↓s_252_87, ↓s_252_88, ↓s_252_89, ↓s_252_92, ↓s_252_95, ↓s_252_96, ↓g_252_97, ↓k_252_97, ↓s_252_99, ↓s_252_100, ↓s_252_103, ↓s_252_105, ↓s_252_108n, ↓s_252_108i, ↓s_252_108p, ↓s_252_111, ↓s_252_114n, ↓s_252_114i, ↓s_252_114p, ↓s_252_117n, ↓s_252_117i, ↓s_252_117p, ↓s_252_120, ↓s_252_123, ↓s_252_124, w32c_32, zar_96, zia_96, zln_96, zit_96, zio_95]
      rw [wz]
      exact ⟨fun _ => go hno _, fun h => absurd h (by omega)⟩
    simp only [ynok_30, ynok_31, w32c_0, w32c_1, w32c_2, w32c_3, w32c_4, w32c_5, w32c_6, w32c_7, w32c_8, w32c_9, w32c_10, w32c_11, w32c_12, w32c_13, w32c_14, w32c_m1, w32c_m2, w32c_118, Int.reduceAdd, Int.reduceSub, Int.reduceMul, yput_s, yput_n, znl_n, znl_0, znl_1, znl_4, ysum_n, ysum_0, ysum_1, ysum_4, true_and, and_true, Nat.reduceAdd, Nat.reduceLeDiff, true_implies, eq_self, true_or, or_true, or_false, false_or, not_true_eq_false, not_false_eq_true, false_implies, implies_true, yset_s, yset_o, yset_d, ne_eq, Nat.reduceEqDiff, Int.reduceToNat, Int.reduceEq, Int.reduceLE, Int.reduceLT, Classical.not_not, Nat.reduceLT, ↓zvk_s, ↓zvk_n, ↓s_252_0, ↓s_252_1n, ↓s_252_1i, ↓s_252_1p, ↓s_252_2, ↓s_252_3n, ↓s_252_3i, ↓s_252_3p, ↓g_252_4, ↓k_252_4, ↓s_252_5, ↓s_252_7, ↓s_252_10, ↓s_252_13, ↓s_252_14n, ↓s_252_14i, ↓s_252_14p, ↓g_252_15, ↓k_252_15, ↓s_252_17, ↓s_252_18, ↓s_252_19, ↓s_252_20, ↓s_252_23, ↓s_252_25, ↓s_252_28, ↓s_252_29, ↓s_252_32, ↓s_252_33, ↓s_252_34, ↓s_252_35, ↓s_252_38, ↓s_252_41, ↓s_252_42, ↓s_252_45, ↓s_252_46, ↓s_252_49, ↓s_252_50, ↓s_252_51, ↓s_252_52, ↓s_252_54, ↓s_252_55, ↓s_252_56, ↓s_252_57, ↓s_252_60, ↓s_252_63n, ↓s_252_63i, ↓s_252_63p, ↓s_252_66, ↓s_252_69, ↓s_252_71, ↓s_252_72, ↓s_252_73, ↓s_252_74, ↓s_252_77, ↓s_252_79, ↓s_252_82, ↓s_252_83, ↓s_252_86, ↓s_252_87, ↓s_252_88, ↓s_252_89, ↓s_252_92, ↓s_252_95, ↓s_252_96, ↓g_252_97, ↓k_252_97, ↓s_252_99, ↓s_252_100, ↓s_252_103, ↓s_252_105, ↓s_252_108n, ↓s_252_108i, ↓s_252_108p, ↓s_252_111, ↓s_252_114n, ↓s_252_114i, ↓s_252_114p, ↓s_252_117n, ↓s_252_117i, ↓s_252_117p, ↓s_252_120, ↓s_252_123, ↓s_252_124, w32c_32, zar_96, zia_96, zln_96, zit_96, zio_95]
    refine c_charAt hE (by omega) (by omega) (by omega) ?_
    refine zgk_s hE xmo_252 60 zc_252 ?_
    simp only [ynok_30, ynok_31, w32c_0, w32c_1, w32c_2, w32c_3, w32c_4, w32c_5, w32c_6, w32c_7, w32c_8, w32c_9, w32c_10, w32c_11, w32c_12, w32c_13, w32c_14, w32c_m1, w32c_m2, w32c_118, Int.reduceAdd, Int.reduceSub, Int.reduceMul, yput_s, yput_n, znl_n, znl_0, znl_1, znl_4, ysum_n, ysum_0, ysum_1, ysum_4, true_and, and_true, Nat.reduceAdd, Nat.reduceLeDiff, true_implies, eq_self, true_or, or_true, or_false, false_or, not_true_eq_false, not_false_eq_true, false_implies, implies_true, yset_s, yset_o, yset_d, ne_eq, Nat.reduceEqDiff, Int.reduceToNat, Int.reduceEq, Int.reduceLE, Int.reduceLT, Classical.not_not, Nat.reduceLT, ↓zvk_s, ↓zvk_n, ↓s_252_0, ↓s_252_1n, ↓s_252_1i, ↓s_252_1p, ↓s_252_2, ↓s_252_3n, ↓s_252_3i, ↓s_252_3p, ↓g_252_4, ↓k_252_4, ↓s_252_5, ↓s_252_7, ↓s_252_10, ↓s_252_13, ↓s_252_14n, ↓s_252_14i, ↓s_252_14p, ↓g_252_15, ↓k_252_15, ↓s_252_17, ↓s_252_18, ↓s_252_19, ↓s_252_20, ↓s_252_23, ↓s_252_25, ↓s_252_28, ↓s_252_29, ↓s_252_32, ↓s_252_33, ↓s_252_34, ↓s_252_35, ↓s_252_38, ↓s_252_41, ↓s_252_42, ↓s_252_45, ↓s_252_46, ↓s_252_49, ↓s_252_50, ↓s_252_51, ↓s_252_52, ↓s_252_54, ↓s_252_55, ↓s_252_56, ↓s_252_57, ↓s_252_60, ↓s_252_63n, ↓s_252_63i, ↓s_252_63p, ↓s_252_66, ↓s_252_69, ↓s_252_71, ↓s_252_72, ↓s_252_73, ↓s_252_74, ↓s_252_77, ↓s_252_79, ↓s_252_82, ↓s_252_83, ↓s_252_86, ↓s_252_87, ↓s_252_88, ↓s_252_89, ↓s_252_92, ↓s_252_95, ↓s_252_96, ↓g_252_97, ↓k_252_97, ↓s_252_99, ↓s_252_100, ↓s_252_103, ↓s_252_105, ↓s_252_108n, ↓s_252_108i, ↓s_252_108p, ↓s_252_111, ↓s_252_114n, ↓s_252_114i, ↓s_252_114p, ↓s_252_117n, ↓s_252_117i, ↓s_252_117p, ↓s_252_120, ↓s_252_123, ↓s_252_124, w32c_32, zar_96, zia_96, zln_96, zit_96, zio_95]
    rw [wz, epi]
    have eidx : (w32 (mem 95 28) + w32 i).toNat = rpl mem + (w32 i).toNat := by
      show _ = (w32 (mem 95 28)).toNat + _
      omega
    have ezx : zW (w32 (k + i)).toNat = zW (zws.getD m 0 + (w32 i).toNat) := by rw [show (w32 (k + i)).toNat = zws.getD m 0 + (w32 i).toNat by omega]
    refine ⟨fun h => absurd h (by omega), fun _ => ⟨fun hge => tail (fun z => ?_), fun hlt => ⟨⟨by omega, by omega⟩, ?_⟩⟩⟩
    · have := z.1
      omega
    refine c_charAt hE (by omega) (by omega) (by omega) ?_
    refine zgk_s hE xmo_252 60 zc_252 ?_
    simp only [ynok_30, ynok_31, w32c_0, w32c_1, w32c_2, w32c_3, w32c_4, w32c_5, w32c_6, w32c_7, w32c_8, w32c_9, w32c_10, w32c_11, w32c_12, w32c_13, w32c_14, w32c_m1, w32c_m2, w32c_118, Int.reduceAdd, Int.reduceSub, Int.reduceMul, yput_s, yput_n, znl_n, znl_0, znl_1, znl_4, ysum_n, ysum_0, ysum_1, ysum_4, true_and, and_true, Nat.reduceAdd, Nat.reduceLeDiff, true_implies, eq_self, true_or, or_true, or_false, false_or, not_true_eq_false, not_false_eq_true, false_implies, implies_true, yset_s, yset_o, yset_d, ne_eq, Nat.reduceEqDiff, Int.reduceToNat, Int.reduceEq, Int.reduceLE, Int.reduceLT, Classical.not_not, Nat.reduceLT, ↓zvk_s, ↓zvk_n, ↓s_252_0, ↓s_252_1n, ↓s_252_1i, ↓s_252_1p, ↓s_252_2, ↓s_252_3n, ↓s_252_3i, ↓s_252_3p, ↓g_252_4, ↓k_252_4, ↓s_252_5, ↓s_252_7, ↓s_252_10, ↓s_252_13, ↓s_252_14n, ↓s_252_14i, ↓s_252_14p, ↓g_252_15, ↓k_252_15, ↓s_252_17, ↓s_252_18, ↓s_252_19, ↓s_252_20, ↓s_252_23, ↓s_252_25, ↓s_252_28, ↓s_252_29, ↓s_252_32, ↓s_252_33, ↓s_252_34, ↓s_252_35, ↓s_252_38, ↓s_252_41, ↓s_252_42, ↓s_252_45, ↓s_252_46, ↓s_252_49, ↓s_252_50, ↓s_252_51, ↓s_252_52, ↓s_252_54, ↓s_252_55, ↓s_252_56, ↓s_252_57, ↓s_252_60, ↓s_252_63n, ↓s_252_63i, ↓s_252_63p, ↓s_252_66, ↓s_252_69, ↓s_252_71, ↓s_252_72, ↓s_252_73, ↓s_252_74, ↓s_252_77, ↓s_252_79, ↓s_252_82, ↓s_252_83, ↓s_252_86, ↓s_252_87, ↓s_252_88, ↓s_252_89, ↓s_252_92, ↓s_252_95, ↓s_252_96, ↓g_252_97, ↓k_252_97, ↓s_252_99, ↓s_252_100, ↓s_252_103, ↓s_252_105, ↓s_252_108n, ↓s_252_108i, ↓s_252_108p, ↓s_252_111, ↓s_252_114n, ↓s_252_114i, ↓s_252_114p, ↓s_252_117n, ↓s_252_117i, ↓s_252_117p, ↓s_252_120, ↓s_252_123, ↓s_252_124, w32c_32, zar_96, zia_96, zln_96, zit_96, zio_95]
    rw [wz, eidx]
    refine ⟨fun hne => tail (fun z => hne ?_), fun heq => ih (i + 1) (by omega) (by omega) (by omega) (by omega) (fun j hj => ?_)⟩
    · have := z.2 (w32 i).toNat (by omega)
      rw [ezx]
      exact this
    · by_cases hj2 : j = (w32 i).toNat
      · subst hj2
        rw [ezx] at heq
        exact heq
      · exact hM j (by omega)
theorem fw_loop {E : yE} (hE : yEok E) {d : Nat} {mem : yMem} {Q : Option yV → yMem → Prop} (hp : 0 ≤ w32 (mem 95 28)) (hpe : w32 (mem 95 28) ≤ w32 (mem 95 27)) (ha : w32 (mem 95 27) ≤ 800) (yes : ∀ (m : Nat) (r : Int), m < 23 → w32 r = (m : Int) → sMt (rch mem) (rpl mem) (rat mem) m → Q (some (0, r)) mem) (no : (∀ m, m < 23 → ¬ sMt (rch mem) (rpl mem) (rat mem) m) → Q (some (0, -1)) mem) : ∀ (c m : Nat), m + c = 23 → ∀ (n k : Int) (r3 : Option yV), w32 n = (m : Int) → w32 k = ((zws.getD m 0 : Nat) : Int) → (∀ m', m' < m → ¬ sMt (rch mem) (rpl mem) (rat mem) m') → zG E (d + 4) xm_252 4 [some (1, 95), some (0, n), some (0, k), r3] [] mem Q := by
  intro c
  induction c with
  | zero =>
    intro m hm n k r3 hn hk hA
    have hz := zws_lt m (by omega)
    refine zgo_ok (n := 60) hE xmo_252 (cs := zc_252) ?_
    simp only [ynok_30, ynok_31, w32c_0, w32c_1, w32c_2, w32c_3, w32c_4, w32c_5, w32c_6, w32c_7, w32c_8, w32c_9, w32c_10, w32c_11, w32c_12, w32c_13, w32c_14, w32c_m1, w32c_m2, w32c_118, Int.reduceAdd, Int.reduceSub, Int.reduceMul, yput_s, yput_n, znl_n, znl_0, znl_1, znl_4, ysum_n, ysum_0, ysum_1, ysum_4, true_and, and_true, Nat.reduceAdd, Nat.reduceLeDiff, true_implies, eq_self, true_or, or_true, or_false, false_or, not_true_eq_false, not_false_eq_true, false_implies, implies_true, yset_s, yset_o, yset_d, ne_eq, Nat.reduceEqDiff, Int.reduceToNat, Int.reduceEq, Int.reduceLE, Int.reduceLT, Classical.not_not, Nat.reduceLT, ↓zvk_s, ↓zvk_n, ↓s_252_0, ↓s_252_1n, ↓s_252_1i, ↓s_252_1p, ↓s_252_2, ↓s_252_3n, ↓s_252_3i, ↓s_252_3p, ↓g_252_4, ↓k_252_4, ↓s_252_5, ↓s_252_7, ↓s_252_10, ↓s_252_13, ↓s_252_14n, ↓s_252_14i, ↓s_252_14p, ↓g_252_15, ↓k_252_15, ↓s_252_17, ↓s_252_18, ↓s_252_19, ↓s_252_20, ↓s_252_23, ↓s_252_25, ↓s_252_28, ↓s_252_29, ↓s_252_32, ↓s_252_33, ↓s_252_34, ↓s_252_35, ↓s_252_38, ↓s_252_41, ↓s_252_42, ↓s_252_45, ↓s_252_46, ↓s_252_49, ↓s_252_50, ↓s_252_51, ↓s_252_52, ↓s_252_54, ↓s_252_55, ↓s_252_56, ↓s_252_57, ↓s_252_60, ↓s_252_63n, ↓s_252_63i, ↓s_252_63p, ↓s_252_66, ↓s_252_69, ↓s_252_71, ↓s_252_72, ↓s_252_73, ↓s_252_74, ↓s_252_77, ↓s_252_79, ↓s_252_82, ↓s_252_83, ↓s_252_86, ↓s_252_87, ↓s_252_88, ↓s_252_89, ↓s_252_92, ↓s_252_95, ↓s_252_96, ↓g_252_97, ↓k_252_97, ↓s_252_99, ↓s_252_100, ↓s_252_103, ↓s_252_105, ↓s_252_108n, ↓s_252_108i, ↓s_252_108p, ↓s_252_111, ↓s_252_114n, ↓s_252_114i, ↓s_252_114p, ↓s_252_117n, ↓s_252_117i, ↓s_252_117p, ↓s_252_120, ↓s_252_123, ↓s_252_124, w32c_32, zar_96, zia_96, zln_96, zit_96, zio_95]
    refine c_strlen hE (by omega) ?_
    refine zgk_s hE xmo_252 60 zc_252 ?_
    simp only [ynok_30, ynok_31, w32c_0, w32c_1, w32c_2, w32c_3, w32c_4, w32c_5, w32c_6, w32c_7, w32c_8, w32c_9, w32c_10, w32c_11, w32c_12, w32c_13, w32c_14, w32c_m1, w32c_m2, w32c_118, Int.reduceAdd, Int.reduceSub, Int.reduceMul, yput_s, yput_n, znl_n, znl_0, znl_1, znl_4, ysum_n, ysum_0, ysum_1, ysum_4, true_and, and_true, Nat.reduceAdd, Nat.reduceLeDiff, true_implies, eq_self, true_or, or_true, or_false, false_or, not_true_eq_false, not_false_eq_true, false_implies, implies_true, yset_s, yset_o, yset_d, ne_eq, Nat.reduceEqDiff, Int.reduceToNat, Int.reduceEq, Int.reduceLE, Int.reduceLT, Classical.not_not, Nat.reduceLT, ↓zvk_s, ↓zvk_n, ↓s_252_0, ↓s_252_1n, ↓s_252_1i, ↓s_252_1p, ↓s_252_2, ↓s_252_3n, ↓s_252_3i, ↓s_252_3p, ↓g_252_4, ↓k_252_4, ↓s_252_5, ↓s_252_7, ↓s_252_10, ↓s_252_13, ↓s_252_14n, ↓s_252_14i, ↓s_252_14p, ↓g_252_15, ↓k_252_15, ↓s_252_17, ↓s_252_18, ↓s_252_19, ↓s_252_20, ↓s_252_23, ↓s_252_25, ↓s_252_28, ↓s_252_29, ↓s_252_32, ↓s_252_33, ↓s_252_34, ↓s_252_35, ↓s_252_38, ↓s_252_41, ↓s_252_42, ↓s_252_45, ↓s_252_46, ↓s_252_49, ↓s_252_50, ↓s_252_51, ↓s_252_52, ↓s_252_54, ↓s_252_55, ↓s_252_56, ↓s_252_57, ↓s_252_60, ↓s_252_63n, ↓s_252_63i, ↓s_252_63p, ↓s_252_66, ↓s_252_69, ↓s_252_71, ↓s_252_72, ↓s_252_73, ↓s_252_74, ↓s_252_77, ↓s_252_79, ↓s_252_82, ↓s_252_83, ↓s_252_86, ↓s_252_87, ↓s_252_88, ↓s_252_89, ↓s_252_92, ↓s_252_95, ↓s_252_96, ↓g_252_97, ↓k_252_97, ↓s_252_99, ↓s_252_100, ↓s_252_103, ↓s_252_105, ↓s_252_108n, ↓s_252_108i, ↓s_252_108p, ↓s_252_111, ↓s_252_114n, ↓s_252_114i, ↓s_252_114p, ↓s_252_117n, ↓s_252_117i, ↓s_252_117p, ↓s_252_120, ↓s_252_123, ↓s_252_124, w32c_32, zar_96, zia_96, zln_96, zit_96, zio_95]
    exact ⟨fun _ => no (fun m' hm' => hA m' (by omega)), fun h => absurd (show 118 ≤ w32 k by omega) h⟩
  | succ c ih =>
    intro m hm n k r3 hn hk hA
    have hz := zws_lt m (by omega)
    obtain ⟨z1, z2, z3⟩ := zword_ok m (by omega)
    have hn1 : w32 (n + 1) = w32 n + 1 := by rw [w32_ad (by rw [w32c_1]; omega) (by rw [w32c_1]; omega), w32c_1]
    refine zgo_ok (n := 60) hE xmo_252 (cs := zc_252) ?_
    simp only [ynok_30, ynok_31, w32c_0, w32c_1, w32c_2, w32c_3, w32c_4, w32c_5, w32c_6, w32c_7, w32c_8, w32c_9, w32c_10, w32c_11, w32c_12, w32c_13, w32c_14, w32c_m1, w32c_m2, w32c_118, Int.reduceAdd, Int.reduceSub, Int.reduceMul, yput_s, yput_n, znl_n, znl_0, znl_1, znl_4, ysum_n, ysum_0, ysum_1, ysum_4, true_and, and_true, Nat.reduceAdd, Nat.reduceLeDiff, true_implies, eq_self, true_or, or_true, or_false, false_or, not_true_eq_false, not_false_eq_true, false_implies, implies_true, yset_s, yset_o, yset_d, ne_eq, Nat.reduceEqDiff, Int.reduceToNat, Int.reduceEq, Int.reduceLE, Int.reduceLT, Classical.not_not, Nat.reduceLT, ↓zvk_s, ↓zvk_n, ↓s_252_0, ↓s_252_1n, ↓s_252_1i, ↓s_252_1p, ↓s_252_2, ↓s_252_3n, ↓s_252_3i, ↓s_252_3p, ↓g_252_4, ↓k_252_4, ↓s_252_5, ↓s_252_7, ↓s_252_10, ↓s_252_13, ↓s_252_14n, ↓s_252_14i, ↓s_252_14p, ↓g_252_15, ↓k_252_15, ↓s_252_17, ↓s_252_18, ↓s_252_19, ↓s_252_20, ↓s_252_23, ↓s_252_25, ↓s_252_28, ↓s_252_29, ↓s_252_32, ↓s_252_33, ↓s_252_34, ↓s_252_35, ↓s_252_38, ↓s_252_41, ↓s_252_42, ↓s_252_45, ↓s_252_46, ↓s_252_49, ↓s_252_50, ↓s_252_51, ↓s_252_52, ↓s_252_54, ↓s_252_55, ↓s_252_56, ↓s_252_57, ↓s_252_60, ↓s_252_63n, ↓s_252_63i, ↓s_252_63p, ↓s_252_66, ↓s_252_69, ↓s_252_71, ↓s_252_72, ↓s_252_73, ↓s_252_74, ↓s_252_77, ↓s_252_79, ↓s_252_82, ↓s_252_83, ↓s_252_86, ↓s_252_87, ↓s_252_88, ↓s_252_89, ↓s_252_92, ↓s_252_95, ↓s_252_96, ↓g_252_97, ↓k_252_97, ↓s_252_99, ↓s_252_100, ↓s_252_103, ↓s_252_105, ↓s_252_108n, ↓s_252_108i, ↓s_252_108p, ↓s_252_111, ↓s_252_114n, ↓s_252_114i, ↓s_252_114p, ↓s_252_117n, ↓s_252_117i, ↓s_252_117p, ↓s_252_120, ↓s_252_123, ↓s_252_124, w32c_32, zar_96, zia_96, zln_96, zit_96, zio_95]
    refine c_strlen hE (by omega) ?_
    refine zgk_s hE xmo_252 60 zc_252 ?_
    simp only [ynok_30, ynok_31, w32c_0, w32c_1, w32c_2, w32c_3, w32c_4, w32c_5, w32c_6, w32c_7, w32c_8, w32c_9, w32c_10, w32c_11, w32c_12, w32c_13, w32c_14, w32c_m1, w32c_m2, w32c_118, Int.reduceAdd, Int.reduceSub, Int.reduceMul, yput_s, yput_n, znl_n, znl_0, znl_1, znl_4, ysum_n, ysum_0, ysum_1, ysum_4, true_and, and_true, Nat.reduceAdd, Nat.reduceLeDiff, true_implies, eq_self, true_or, or_true, or_false, false_or, not_true_eq_false, not_false_eq_true, false_implies, implies_true, yset_s, yset_o, yset_d, ne_eq, Nat.reduceEqDiff, Int.reduceToNat, Int.reduceEq, Int.reduceLE, Int.reduceLT, Classical.not_not, Nat.reduceLT, ↓zvk_s, ↓zvk_n, ↓s_252_0, ↓s_252_1n, ↓s_252_1i, ↓s_252_1p, ↓s_252_2, ↓s_252_3n, ↓s_252_3i, ↓s_252_3p, ↓g_252_4, ↓k_252_4, ↓s_252_5, ↓s_252_7, ↓s_252_10, ↓s_252_13, ↓s_252_14n, ↓s_252_14i, ↓s_252_14p, ↓g_252_15, ↓k_252_15, ↓s_252_17, ↓s_252_18, ↓s_252_19, ↓s_252_20, ↓s_252_23, ↓s_252_25, ↓s_252_28, ↓s_252_29, ↓s_252_32, ↓s_252_33, ↓s_252_34, ↓s_252_35, ↓s_252_38, ↓s_252_41, ↓s_252_42, ↓s_252_45, ↓s_252_46, ↓s_252_49, ↓s_252_50, ↓s_252_51, ↓s_252_52, ↓s_252_54, ↓s_252_55, ↓s_252_56, ↓s_252_57, ↓s_252_60, ↓s_252_63n, ↓s_252_63i, ↓s_252_63p, ↓s_252_66, ↓s_252_69, ↓s_252_71, ↓s_252_72, ↓s_252_73, ↓s_252_74, ↓s_252_77, ↓s_252_79, ↓s_252_82, ↓s_252_83, ↓s_252_86, ↓s_252_87, ↓s_252_88, ↓s_252_89, ↓s_252_92, ↓s_252_95, ↓s_252_96, ↓g_252_97, ↓k_252_97, ↓s_252_99, ↓s_252_100, ↓s_252_103, ↓s_252_105, ↓s_252_108n, ↓s_252_108i, ↓s_252_108p, ↓s_252_111, ↓s_252_114n, ↓s_252_114i, ↓s_252_114p, ↓s_252_117n, ↓s_252_117i, ↓s_252_117p, ↓s_252_120, ↓s_252_123, ↓s_252_124, w32c_32, zar_96, zia_96, zln_96, zit_96, zio_95]
    refine ⟨fun h => absurd h (by omega), fun _ => ?_⟩
    refine fw_cmp hE hp hpe ha (m := m) (by omega) hk (yes m n (by omega) hn) (fun hno r3 => ?_) _ _ rfl (by rw [w32c_0]; omega) (by rw [w32c_0]; omega) (by rw [w32c_0]; omega) (fun j hj => absurd hj (by rw [w32c_0]; omega))
    exact word_skip hE (m := m) (by omega) (fun k' r3' hk' => ih (m + 1) (by omega) (n + 1) k' r3' (by omega) hk' (fun m' hm' => by
      by_cases h : m' = m
      · subst h; exact hno
      · exact hA m' (by omega))) _ _ rfl (by omega) (by omega) (by omega)
theorem f_word {E : yE} (hE : yEok E) {D : Nat} (hD : 5 ≤ D) {mem : yMem} {Q : Option yV → yMem → Prop} (hp : 0 ≤ w32 (mem 95 28)) (hpe : w32 (mem 95 28) ≤ w32 (mem 95 27)) (ha : w32 (mem 95 27) ≤ 800) (yes : ∀ (m : Nat) (r : Int), m < 23 → w32 r = (m : Int) → sMt (rch mem) (rpl mem) (rat mem) m → Q (some (0, r)) mem) (no : (∀ m, m < 23 → ¬ sMt (rch mem) (rpl mem) (rat mem) m) → Q (some (0, -1)) mem) : yCon E D xm_252 [(1, 95)] mem Q := by
  obtain ⟨d, rfl⟩ := Nat.exists_eq_add_of_le' hD
  refine e_252 ?_
  refine zvc_ok hE 60 zc_252 _ _ _ _ _ _ _ xmo_252 ?_
  simp only [ynok_30, ynok_31, w32c_0, w32c_1, w32c_2, w32c_3, w32c_4, w32c_5, w32c_6, w32c_7, w32c_8, w32c_9, w32c_10, w32c_11, w32c_12, w32c_13, w32c_14, w32c_m1, w32c_m2, w32c_118, Int.reduceAdd, Int.reduceSub, Int.reduceMul, yput_s, yput_n, znl_n, znl_0, znl_1, znl_4, ysum_n, ysum_0, ysum_1, ysum_4, true_and, and_true, Nat.reduceAdd, Nat.reduceLeDiff, true_implies, eq_self, true_or, or_true, or_false, false_or, not_true_eq_false, not_false_eq_true, false_implies, implies_true, yset_s, yset_o, yset_d, ne_eq, Nat.reduceEqDiff, Int.reduceToNat, Int.reduceEq, Int.reduceLE, Int.reduceLT, Classical.not_not, Nat.reduceLT, ↓zvk_s, ↓zvk_n, ↓s_252_0, ↓s_252_1n, ↓s_252_1i, ↓s_252_1p, ↓s_252_2, ↓s_252_3n, ↓s_252_3i, ↓s_252_3p, ↓g_252_4, ↓k_252_4, ↓s_252_5, ↓s_252_7, ↓s_252_10, ↓s_252_13, ↓s_252_14n, ↓s_252_14i, ↓s_252_14p, ↓g_252_15, ↓k_252_15, ↓s_252_17, ↓s_252_18, ↓s_252_19, ↓s_252_20, ↓s_252_23, ↓s_252_25, ↓s_252_28, ↓s_252_29, ↓s_252_32, ↓s_252_33, ↓s_252_34, ↓s_252_35, ↓s_252_38, ↓s_252_41, ↓s_252_42, ↓s_252_45, ↓s_252_46, ↓s_252_49, ↓s_252_50, ↓s_252_51, ↓s_252_52, ↓s_252_54, ↓s_252_55, ↓s_252_56, ↓s_252_57, ↓s_252_60, ↓s_252_63n, ↓s_252_63i, ↓s_252_63p, ↓s_252_66, ↓s_252_69, ↓s_252_71, ↓s_252_72, ↓s_252_73, ↓s_252_74, ↓s_252_77, ↓s_252_79, ↓s_252_82, ↓s_252_83, ↓s_252_86, ↓s_252_87, ↓s_252_88, ↓s_252_89, ↓s_252_92, ↓s_252_95, ↓s_252_96, ↓g_252_97, ↓k_252_97, ↓s_252_99, ↓s_252_100, ↓s_252_103, ↓s_252_105, ↓s_252_108n, ↓s_252_108i, ↓s_252_108p, ↓s_252_111, ↓s_252_114n, ↓s_252_114i, ↓s_252_114p, ↓s_252_117n, ↓s_252_117i, ↓s_252_117p, ↓s_252_120, ↓s_252_123, ↓s_252_124, w32c_32, zar_96, zia_96, zln_96, zit_96, zio_95]
  exact fw_loop hE hp hpe ha yes no 23 0 rfl 0 0 _ (by decide) (by decide) (fun m' hm' => absurd hm' (by omega))
theorem zix_b32 {f : Nat → Int} (hf : ∀ j, 0 ≤ w32 (f j) ∧ w32 (f j) < 32) : ∀ n : Nat, 0 ≤ zix f 32 n ∧ zix f 32 n < 32 ^ n := fun n => zix_lt (by decide) n (fun j _ => hf j)
theorem fn_loop {E : yE} (hE : yEok E) {d : Nat} {mem : yMem} {Q : Option yV → yMem → Prop} (hp : 0 ≤ w32 (mem 95 28)) (hpe : w32 (mem 95 28) ≤ w32 (mem 95 27)) (ha : w32 (mem 95 27) ≤ 800) (hl : ∀ j, rpl mem ≤ j → j < rat mem → 97 ≤ rch mem j ∧ rch mem j ≤ 122) (hQ : ∀ m, aFrm [(95, 31)] mem m → w32 (m 95 30) = sPk (rch mem) (rpl mem) (rat mem) → Q none m) : ∀ (c : Nat) (k : Int) (m : yMem), (6 - w32 k).toNat = c → 0 ≤ w32 k → w32 k ≤ 6 → aFrm [(95, 31)] mem m → w32 (m 95 30) = zix (sLt (rch mem) (rpl mem) (rat mem)) 32 (w32 k).toNat → zG E d xm_209 7 [some (1, 95), some (0, k)] [] m Q := by
  have sd := fun j => sLt_d hl j
  have sw : ∀ j, w32 (sLt (rch mem) (rpl mem) (rat mem) j) = sLt (rch mem) (rpl mem) (rat mem) j := fun j => w32_of (by have := sd j; omega) (by have := sd j; omega)
  intro c
  induction c with
  | zero =>
    intro k m hc h0 h1 hF hv
    refine zgo_ok (n := 60) hE xmo_209 (cs := zc_209) ?_
    simp only [ynok_30, ynok_31, w32c_0, w32c_1, w32c_2, w32c_3, w32c_4, w32c_5, w32c_6, w32c_7, w32c_8, w32c_9, w32c_10, w32c_11, w32c_12, w32c_13, w32c_14, w32c_m1, w32c_m2, w32c_118, Int.reduceAdd, Int.reduceSub, Int.reduceMul, yput_s, yput_n, znl_n, znl_0, znl_1, znl_4, ysum_n, ysum_0, ysum_1, ysum_4, true_and, and_true, Nat.reduceAdd, Nat.reduceLeDiff, true_implies, eq_self, true_or, or_true, or_false, false_or, not_true_eq_false, not_false_eq_true, false_implies, implies_true, yset_s, yset_o, yset_d, ne_eq, Nat.reduceEqDiff, Int.reduceToNat, Int.reduceEq, Int.reduceLE, Int.reduceLT, Classical.not_not, Nat.reduceLT, ↓zvk_s, ↓zvk_n, ↓s_209_0, ↓s_209_1, ↓s_209_2, ↓s_209_5, ↓s_209_6n, ↓s_209_6i, ↓s_209_6p, ↓g_209_7, ↓k_209_7, ↓s_209_8, ↓s_209_10, ↓s_209_13, ↓s_209_14, ↓s_209_15, ↓s_209_18, ↓s_209_19, ↓s_209_20, ↓s_209_21, ↓s_209_24, ↓s_209_25, ↓s_209_26, ↓s_209_27, ↓s_209_30, ↓s_209_33, ↓s_209_34, ↓s_209_37, ↓s_209_38, ↓s_209_41, ↓s_209_42, ↓s_209_43, ↓s_209_44, ↓s_209_46, ↓s_209_47, ↓s_209_48, ↓s_209_49, ↓s_209_52, ↓s_209_53, ↓s_209_54, ↓s_209_57n, ↓s_209_57i, ↓s_209_57p, ↓s_209_60, ↓s_209_63, w32c_97, zar_96, zia_96, zln_96, zit_96, zio_95]
    refine ⟨fun _ => hQ m hF ?_, fun h => absurd (show 6 ≤ w32 k by omega) h⟩
    rw [hv, show (w32 k).toNat = 6 by omega]
    rfl
  | succ c ih =>
    intro k m hc h0 h1 hF hv
    refine zgo_ok (n := 60) hE xmo_209 (cs := zc_209) ?_
    have e28 : m 95 28 = mem 95 28 := hF 95 28 rfl
    have e27 : m 95 27 = mem 95 27 := hF 95 27 rfl
    have hk1 : w32 (k + 1) = w32 k + 1 := by rw [w32_ad (by rw [w32c_1]; omega) (by rw [w32c_1]; omega), w32c_1]
    have epk : w32 (mem 95 28 + k) = w32 (mem 95 28) + w32 k := w32_ad (by omega) (by omega)
    have zb := zix_b32 (f := sLt (rch mem) (rpl mem) (rat mem)) (fun j => by rw [sw j]; exact ⟨(sd j).1, (sd j).2.1⟩) (w32 k).toNat
    have hb : zix (sLt (rch mem) (rpl mem) (rat mem)) 32 (w32 k).toNat < 33554432 := by
      have : ∀ q : Nat, q ≤ 5 → (32 : Int) ^ q ≤ 33554432 := by decide
      have := this (w32 k).toNat (by omega)
      omega
    have s1 : w32 (ybin 6 (m 95 30) 5) = ((32 * (zix (sLt (rch mem) (rpl mem) (rat mem)) 32 (w32 k).toNat).toNat : Nat) : Int) := by
      have := yb_shl (x := m 95 30) (y := 5) (a := (zix (sLt (rch mem) (rpl mem) (rat mem)) 32 (w32 k).toNat).toNat) (s := 5) (by rw [hv]; omega) (by decide) (by decide) (by omega)
      rw [this]
      omega
    have step : ∀ x : Int, w32 x = sLt (rch mem) (rpl mem) (rat mem) (w32 k).toNat → w32 (ybin 4 (ybin 6 (m 95 30) 5) x) = zix (sLt (rch mem) (rpl mem) (rat mem)) 32 ((w32 k).toNat + 1) := fun x hx => by
      have sk := sd (w32 k).toNat
      have := yb_or (x := ybin 6 (m 95 30) 5) (y := x) (a := (zix (sLt (rch mem) (rpl mem) (rat mem)) 32 (w32 k).toNat).toNat) (b := (sLt (rch mem) (rpl mem) (rat mem) (w32 k).toNat).toNat) (k := 5) s1 (by rw [hx]; omega) (by omega) (by omega)
      rw [this]
      simp only [zix]
      rw [sw]
      omega
    have go : ∀ v, w32 v = zix (sLt (rch mem) (rpl mem) (rat mem)) 32 ((w32 k).toNat + 1) → zG E d xm_209 7 [some (1, 95), some (0, k + 1)] [] (yset m 95 30 v) Q := fun v hv' => ih (k + 1) _ (by omega) (by omega) (by omega) (aFrm_set hF rfl) (by rw [yset_s, hv', show (w32 (k + 1)).toNat = (w32 k).toNat + 1 by omega])
    simp only [ynok_30, ynok_31, w32c_0, w32c_1, w32c_2, w32c_3, w32c_4, w32c_5, w32c_6, w32c_7, w32c_8, w32c_9, w32c_10, w32c_11, w32c_12, w32c_13, w32c_14, w32c_m1, w32c_m2, w32c_118, Int.reduceAdd, Int.reduceSub, Int.reduceMul, yput_s, yput_n, znl_n, znl_0, znl_1, znl_4, ysum_n, ysum_0, ysum_1, ysum_4, true_and, and_true, Nat.reduceAdd, Nat.reduceLeDiff, true_implies, eq_self, true_or, or_true, or_false, false_or, not_true_eq_false, not_false_eq_true, false_implies, implies_true, yset_s, yset_o, yset_d, ne_eq, Nat.reduceEqDiff, Int.reduceToNat, Int.reduceEq, Int.reduceLE, Int.reduceLT, Classical.not_not, Nat.reduceLT, ↓zvk_s, ↓zvk_n, ↓s_209_0, ↓s_209_1, ↓s_209_2, ↓s_209_5, ↓s_209_6n, ↓s_209_6i, ↓s_209_6p, ↓g_209_7, ↓k_209_7, ↓s_209_8, ↓s_209_10, ↓s_209_13, ↓s_209_14, ↓s_209_15, ↓s_209_18, ↓s_209_19, ↓s_209_20, ↓s_209_21, ↓s_209_24, ↓s_209_25, ↓s_209_26, ↓s_209_27, ↓s_209_30, ↓s_209_33, ↓s_209_34, ↓s_209_37, ↓s_209_38, ↓s_209_41, ↓s_209_42, ↓s_209_43, ↓s_209_44, ↓s_209_46, ↓s_209_47, ↓s_209_48, ↓s_209_49, ↓s_209_52, ↓s_209_53, ↓s_209_54, ↓s_209_57n, ↓s_209_57i, ↓s_209_57p, ↓s_209_60, ↓s_209_63, w32c_97, zar_96, zia_96, zln_96, zit_96, zio_95]
    rw [e28, e27, hF 96 _ rfl]
    refine ⟨fun h => absurd h (by omega), fun _ => ⟨fun hge => go _ (step _ ?_), fun hlt => ⟨⟨by omega, by omega⟩, go _ (step _ ?_)⟩⟩⟩
    · unfold sLt
      rw [if_neg (by show ¬ (w32 (mem 95 28)).toNat + (w32 k).toNat < (w32 (mem 95 27)).toNat; omega)]
      decide
    · have hin : rpl mem + (w32 k).toNat < rat mem := by show (w32 (mem 95 28)).toNat + (w32 k).toNat < (w32 (mem 95 27)).toNat; omega
      have hlk := hl (rpl mem + (w32 k).toNat) (by omega) hin
      have ei : (w32 (mem 95 28 + k)).toNat = rpl mem + (w32 k).toNat := by show _ = (w32 (mem 95 28)).toNat + (w32 k).toNat; omega
      unfold sLt
      rw [if_pos hin, ei]
      have e97 : w32 97 = 97 := by decide
      have h1' : w32 (mem 96 (rpl mem + (w32 k).toNat) - 97) = w32 (mem 96 (rpl mem + (w32 k).toNat)) - 97 := by rw [w32_sb (by rw [e97]; have := hlk.1; have := hlk.2; show -2147483648 ≤ rch mem (rpl mem + (w32 k).toNat) - 97; omega) (by rw [e97]; have := hlk.2; show rch mem (rpl mem + (w32 k).toNat) - 97 < 2147483648; omega), e97]
      rw [w32_ad (by rw [w32c_1, h1']; have := hlk.1; show -2147483648 ≤ rch mem (rpl mem + (w32 k).toNat) - 97 + 1; omega) (by rw [w32c_1, h1']; have := hlk.2; show rch mem (rpl mem + (w32 k).toNat) - 97 + 1 < 2147483648; omega), w32c_1, h1']
      show rch mem (rpl mem + (w32 k).toNat) - 97 + 1 = rch mem (rpl mem + (w32 k).toNat) - 96
      omega
theorem f_name {E : yE} (hE : yEok E) {D : Nat} (hD : 1 ≤ D) {mem : yMem} {Q : Option yV → yMem → Prop} (hp : 0 ≤ w32 (mem 95 28)) (hpe : w32 (mem 95 28) ≤ w32 (mem 95 27)) (ha : w32 (mem 95 27) ≤ 800) (hl : ∀ j, rpl mem ≤ j → j < rat mem → 97 ≤ rch mem j ∧ rch mem j ≤ 122) (hQ : ∀ m, aFrm [(95, 31)] mem m → w32 (m 95 30) = sPk (rch mem) (rpl mem) (rat mem) → Q none m) : yCon E D xm_209 [(1, 95)] mem Q := by
  obtain ⟨d, rfl⟩ := Nat.exists_eq_add_of_le' hD
  refine e_209 ?_
  refine zvc_ok hE 60 zc_209 _ _ _ _ _ _ _ xmo_209 ?_
  simp only [ynok_30, ynok_31, w32c_0, w32c_1, w32c_2, w32c_3, w32c_4, w32c_5, w32c_6, w32c_7, w32c_8, w32c_9, w32c_10, w32c_11, w32c_12, w32c_13, w32c_14, w32c_m1, w32c_m2, w32c_118, Int.reduceAdd, Int.reduceSub, Int.reduceMul, yput_s, yput_n, znl_n, znl_0, znl_1, znl_4, ysum_n, ysum_0, ysum_1, ysum_4, true_and, and_true, Nat.reduceAdd, Nat.reduceLeDiff, true_implies, eq_self, true_or, or_true, or_false, false_or, not_true_eq_false, not_false_eq_true, false_implies, implies_true, yset_s, yset_o, yset_d, ne_eq, Nat.reduceEqDiff, Int.reduceToNat, Int.reduceEq, Int.reduceLE, Int.reduceLT, Classical.not_not, Nat.reduceLT, ↓zvk_s, ↓zvk_n, ↓s_209_0, ↓s_209_1, ↓s_209_2, ↓s_209_5, ↓s_209_6n, ↓s_209_6i, ↓s_209_6p, ↓g_209_7, ↓k_209_7, ↓s_209_8, ↓s_209_10, ↓s_209_13, ↓s_209_14, ↓s_209_15, ↓s_209_18, ↓s_209_19, ↓s_209_20, ↓s_209_21, ↓s_209_24, ↓s_209_25, ↓s_209_26, ↓s_209_27, ↓s_209_30, ↓s_209_33, ↓s_209_34, ↓s_209_37, ↓s_209_38, ↓s_209_41, ↓s_209_42, ↓s_209_43, ↓s_209_44, ↓s_209_46, ↓s_209_47, ↓s_209_48, ↓s_209_49, ↓s_209_52, ↓s_209_53, ↓s_209_54, ↓s_209_57n, ↓s_209_57i, ↓s_209_57p, ↓s_209_60, ↓s_209_63, w32c_97, zar_96, zia_96, zln_96, zit_96, zio_95]
  exact fn_loop hE hp hpe ha hl hQ _ _ _ rfl (by decide) (by decide) (aFrm_set aFrm_rf rfl) (by rw [yset_s, w32c_0]; rfl)
