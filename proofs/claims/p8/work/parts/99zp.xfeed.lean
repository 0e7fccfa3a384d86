/-! feed: the bytes, on both sides -/
theorem bm8 (a : Nat) (h : a < 4294967296) : ((a : Int).bmod (2^32)).bmod (2^8) = (if ((a % 256 : Nat) : Int) < 128 then ((a % 256 : Nat) : Int) else ((a % 256 : Nat) : Int) - 256) := by
  have e1 : (a : Int).bmod (2^32) = (a : Int) ∨ (a : Int).bmod (2^32) = (a : Int) - 4294967296 := by
    simp only [Int.bmod]
    split <;> omega
  have e2 : ∀ x : Int, x.bmod (2^8) = (if x % 256 < 128 then x % 256 else x % 256 - 256) := fun x => by
    simp only [Int.bmod]
    rfl
  rw [e2]
  rcases e1 with e | e <;> rw [e]
  · rw [show (a : Int) % 256 = ((a % 256 : Nat) : Int) by omega]
  · rw [show ((a : Int) - 4294967296) % 256 = ((a % 256 : Nat) : Int) by omega]
theorem i8_sBs (y : Int) : w32 ((iI y).toInt8.toInt32.toInt) = sBs (w32 (ybin 3 y 255)) := by
  have e : w32 ((iI y).toInt8.toInt32.toInt) = (iI y).toInt8.toInt := by
    show (Int32.ofInt ((iI y).toInt8.toInt32.toInt)).toInt = _
    rw [Int32.ofInt_toInt, Int8.toInt_toInt32]
  have hb : (iI y).toBitVec.toNat < 4294967296 := (iI y).toBitVec.isLt
  have e1 : iI y = nI ((iI y).toBitVec.toNat) := by
    apply Int32.toBitVec_inj.mp
    rw [nI_bv]
    simp
  have e3 : (iI y).toInt = ((iI y).toBitVec.toNat : Int).bmod (2^32) := BitVec.toInt_eq_toNat_bmod _
  have e4 : w32 (ybin 3 y 255) = (((iI y).toBitVec.toNat % 256 : Nat) : Int) := by
    show w32 (fbin 3 (iI y) (iI 255)).toInt = _
    have e5 : fbin 3 (iI y) (iI 255) = nI (Nat.land (iI y).toBitVec.toNat 255) := by
      rw [show iI 255 = nI 255 from iI_n 255]
      have : fbin 3 (nI (iI y).toBitVec.toNat) (nI 255) = nI (Nat.land (iI y).toBitVec.toNat 255) := xbin_ok (o := 3) rfl
      rw [← e1] at this
      exact this
    rw [e5, show Nat.land (iI y).toBitVec.toNat 255 = (iI y).toBitVec.toNat % 256 from Nat.and_two_pow_sub_one_eq_mod _ 8, w32_nI (by omega)]
  rw [e, Int32.toInt_toInt8, e3, bm8 _ hb, e4]
  rfl
def fb (v : Int) (q : Nat) : Int := w32 (ybin 3 (ybin 7 v (24 - 8 * (q : Int))) 255)
theorem fb_of {v s : Int} {q : Nat} (hq : q < 4) (h : w32 s = 24 - 8 * (q : Int)) : w32 (ybin 3 (ybin 7 v s) 255) = fb v q := by
  unfold fb
  rw [ybin7_ext (y' := 24 - 8 * (q : Int)) (h.trans (w32_of (by omega) (by omega)).symm)]
/-- so many bytes more, these -/
def FcX (mem : yMem) (k : Nat) (g : Nat → Int) (m : yMem) : Prop := TnQ mem (k : Int) m ∧ (∀ j, (j < (w32 (mem 0 11)).toNat ∨ (w32 (mem 0 11)).toNat + k ≤ j) → m 1 j = mem 1 j) ∧ (∀ q, q < k → w32 (m 1 ((w32 (mem 0 11)).toNat + q)) = sBs (g q))
theorem FcX_tr {mem m m' : yMem} {k : Nat} {g h : Nat → Int} (h0 : 0 ≤ w32 (mem 0 11)) (h1 : FcX mem k g m) (h2 : FcX m 4 h m') : FcX mem (k + 4) (fun q => if q < k then g q else h (q - k)) m' := by
  obtain ⟨a1, a2, a3⟩ := h1
  obtain ⟨b1, b2, b3⟩ := h2
  have e : (w32 (m 0 11)).toNat = (w32 (mem 0 11)).toNat + k := by rw [a1.2.2]; omega
  have T := TnQ_tr a1 b1
  refine ⟨⟨T.1, T.2.1, by rw [T.2.2]; push_cast; omega⟩, fun j hj => ?_, fun q hq => ?_⟩
  · rw [b2 j (by omega), a2 j (by omega)]
  · dsimp only
    by_cases hqk : q < k
    · rw [if_pos hqk, b2 _ (by omega)]
      exact a3 q hqk
    · rw [if_neg hqk]
      have := b3 (q - k) (by omega)
      rw [e, show (w32 (mem 0 11)).toNat + k + (q - k) = (w32 (mem 0 11)).toNat + q by omega] at this
      exact this
theorem tnx_loop {E : yE} (hE : yEok E) {d : Nat} {mem : yMem} {Q : Option yV → yMem → Prop} {x : Int} (h0 : 0 ≤ w32 (mem 0 11)) (h7 : w32 (mem 0 11) ≤ 796) (hQ : ∀ m, FcX mem 4 (fb x) m → Q none m) : ∀ (n : Nat) (s : Int) (k : Nat) (m : yMem), k + n = 4 → w32 s = 8 * (n : Int) - 8 → FcX mem k (fb x) m → zG E d xm_39 3 [some (1, 0), some (0, x), some (0, s)] [] m Q := by
  intro n
  induction n with
  | zero =>
    intro s k m h4 hs hT
    refine zgo_ok (n := 60) hE xmo_39 (cs := zc_39) ?_
    simp only [ynok_30, ynok_31, w32c_0, w32c_1, w32c_2, w32c_3, w32c_4, w32c_5, w32c_6, w32c_7, w32c_8, w32c_9, w32c_10, w32c_11, w32c_12, w32c_13, w32c_14, w32c_m1, w32c_m2, w32c_118, Int.reduceAdd, Int.reduceSub, Int.reduceMul, yput_s, yput_n, znl_n, znl_0, znl_1, znl_4, ysum_n, ysum_0, ysum_1, ysum_4, true_and, and_true, Nat.reduceAdd, Nat.reduceLeDiff, true_implies, eq_self, true_or, or_true, or_false, false_or, not_true_eq_false, not_false_eq_true, false_implies, implies_true, yset_s, yset_o, yset_d, ne_eq, Nat.reduceEqDiff, Int.reduceToNat, Int.reduceEq, Int.reduceLE, Int.reduceLT, Classical.not_not, Nat.reduceLT, ↓zvk_s, ↓zvk_n, ↓s_39_0, ↓s_39_2n, ↓s_39_2i, ↓s_39_2p, ↓g_39_3, ↓k_39_3, ↓s_39_4, ↓s_39_7, ↓s_39_8, ↓s_39_11, ↓s_39_14, ↓s_39_17, ↓s_39_18, ↓s_39_21, ↓s_39_22, ↓s_39_25, ↓s_39_26, ↓s_39_27, ↓s_39_28, ↓s_39_29, ↓s_39_30, ↓s_39_31a, ↓s_39_31b, ↓s_39_32, ↓s_39_35, ↓s_39_36, ↓s_39_37, ↓s_39_40n, ↓s_39_40i, ↓s_39_40p, ↓s_39_43, ↓s_39_46, w32c_24, w32c_800, zio_0, zar_1, zia_1, zln_1, zit_1]
    have e4 : k = 4 := by omega
    subst e4
    repeat' first | exact hQ _ hT | omega | refine And.intro ?_ ?_ | intro _
  | succ n ih =>
    intro s k m h4 hs hT
    have e11 := hT.1.2.2
    have e8 : w32 (s + -8) = w32 s - 8 := by rw [w32_ad (by rw [w32_of (x := -8) (by decide) (by decide)]; omega) (by rw [w32_of (x := -8) (by decide) (by decide)]; omega), w32_of (x := -8) (by decide) (by decide)]; omega
    have e1 : w32 (m 0 11 + 1) = w32 (m 0 11) + 1 := by rw [w32_ad (by rw [w32c_1]; omega) (by rw [w32c_1]; omega), w32c_1]
    have hb := i8_b (ybin 7 x s)
    have hv : w32 ((iI (ybin 7 x s)).toInt8.toInt32.toInt) = sBs (fb x k) := by
      rw [i8_sBs, fb_of (q := k) (by omega) (by omega)]
    have et : (w32 (m 0 11)).toNat = (w32 (mem 0 11)).toNat + k := by rw [e11]; omega
    have hT' : ∀ y, -128 ≤ w32 y → w32 y ≤ 127 → w32 y = sBs (fb x k) → FcX mem (k + 1) (fb x) (yset (yset m 1 (w32 (m 0 11)).toNat y) 0 11 (m 0 11 + 1)) := fun y y1 y2 y3 => by
      refine ⟨⟨aGok_set (aGok_set hT.1.1 (by rw [agam_A ae_1]; exact ⟨y1, y2⟩)) (by rw [ag_0_11, e1]; exact ⟨by dsimp only; omega, by dsimp only; omega⟩), fun i j h h' => ?_, by rw [yset_s, e1]; push_cast; omega⟩, fun j hj => ?_, fun q hq => ?_⟩
      · rw [yset_a]
        split
        · next e =>
          subst e
          rw [if_neg (by omega), yset_o h]
          exact hT.1.2.1 0 j h h'
        · rw [yset_o h]
          exact hT.1.2.1 i j h h'
      · rw [yset_o (by decide), yset_d (by omega)]
        exact hT.2.1 j (by omega)
      · rw [yset_o (by decide), et]
        by_cases hqk : q = k
        · subst hqk
          rw [yset_s]
          exact y3
        · rw [yset_d (by omega)]
          exact hT.2.2 q (by omega)
    refine zgo_ok (n := 60) hE xmo_39 (cs := zc_39) ?_
    simp only [ynok_30, ynok_31, w32c_0, w32c_1, w32c_2, w32c_3, w32c_4, w32c_5, w32c_6, w32c_7, w32c_8, w32c_9, w32c_10, w32c_11, w32c_12, w32c_13, w32c_14, w32c_m1, w32c_m2, w32c_118, Int.reduceAdd, Int.reduceSub, Int.reduceMul, yput_s, yput_n, znl_n, znl_0, znl_1, znl_4, ysum_n, ysum_0, ysum_1, ysum_4, true_and, and_true, Nat.reduceAdd, Nat.reduceLeDiff, true_implies, eq_self, true_or, or_true, or_false, false_or, not_true_eq_false, not_false_eq_true, false_implies, implies_true, yset_s, yset_o, yset_d, ne_eq, Nat.reduceEqDiff, Int.reduceToNat, Int.reduceEq, Int.reduceLE, Int.reduceLT, Classical.not_not, Nat.reduceLT, ↓zvk_s, ↓zvk_n, ↓s_39_0, ↓s_39_2n, ↓s_39_2i, ↓s_39_2p, ↓g_39_3, ↓k_39_3, ↓s_39_4, ↓s_39_7, ↓s_39_8, ↓s_39_11, ↓s_39_14, ↓s_39_17, ↓s_39_18, ↓s_39_21, ↓s_39_22, ↓s_39_25, ↓s_39_26, ↓s_39_27, ↓s_39_28, ↓s_39_29, ↓s_39_30, ↓s_39_31a, ↓s_39_31b, ↓s_39_32, ↓s_39_35, ↓s_39_36, ↓s_39_37, ↓s_39_40n, ↓s_39_40i, ↓s_39_40p, ↓s_39_43, ↓s_39_46, w32c_24, w32c_800, zio_0, zar_1, zia_1, zln_1, zit_1]
    exact ⟨fun h => absurd h (by omega), fun _ => ⟨fun h => absurd h (by omega), fun _ => ⟨⟨by omega, by omega⟩, hb, ih (s + -8) (k + 1) _ (by omega) (by omega) (hT' _ hb.1 hb.2 hv)⟩⟩⟩
theorem x_tapeNumber {E : yE} (hE : yEok E) {D : Nat} (hD : 1 ≤ D) {mem : yMem} {Q : Option yV → yMem → Prop} {x : Int} (hG : aGok mem) (h7 : w32 (mem 0 11) ≤ 796) (hQ : ∀ m, FcX mem 4 (fb x) m → Q none m) : yCon E D xm_39 [(1, 0), (0, x)] mem Q := by
  obtain ⟨d, rfl⟩ := Nat.exists_eq_add_of_le' hD
  refine e_39 ?_
  refine zvc_ok hE 90 zc_39 _ _ _ _ _ _ _ xmo_39 ?_
  have g11 := ag hG 0 11 ag_0_11
  simp only [ynok_30, ynok_31, w32c_0, w32c_1, w32c_2, w32c_3, w32c_4, w32c_5, w32c_6, w32c_7, w32c_8, w32c_9, w32c_10, w32c_11, w32c_12, w32c_13, w32c_14, w32c_m1, w32c_m2, w32c_118, Int.reduceAdd, Int.reduceSub, Int.reduceMul, yput_s, yput_n, znl_n, znl_0, znl_1, znl_4, ysum_n, ysum_0, ysum_1, ysum_4, true_and, and_true, Nat.reduceAdd, Nat.reduceLeDiff, true_implies, eq_self, true_or, or_true, or_false, false_or, not_true_eq_false, not_false_eq_true, false_implies, implies_true, yset_s, yset_o, yset_d, ne_eq, Nat.reduceEqDiff, Int.reduceToNat, Int.reduceEq, Int.reduceLE, Int.reduceLT, Classical.not_not, Nat.reduceLT, ↓zvk_s, ↓zvk_n, ↓s_39_0, ↓s_39_2n, ↓s_39_2i, ↓s_39_2p, ↓g_39_3, ↓k_39_3, ↓s_39_4, ↓s_39_7, ↓s_39_8, ↓s_39_11, ↓s_39_14, ↓s_39_17, ↓s_39_18, ↓s_39_21, ↓s_39_22, ↓s_39_25, ↓s_39_26, ↓s_39_27, ↓s_39_28, ↓s_39_29, ↓s_39_30, ↓s_39_31a, ↓s_39_31b, ↓s_39_32, ↓s_39_35, ↓s_39_36, ↓s_39_37, ↓s_39_40n, ↓s_39_40i, ↓s_39_40p, ↓s_39_43, ↓s_39_46, w32c_24, w32c_800, zio_0, zar_1, zia_1, zln_1, zit_1]
  exact tnx_loop hE g11.1 h7 hQ 4 _ 0 mem rfl (by decide) ⟨⟨hG, fun _ _ _ _ => rfl, by show w32 (mem 0 11) = w32 (mem 0 11) + 0; omega⟩, fun _ _ => rfl, fun q hq => absurd hq (Nat.not_lt_zero _)⟩
/-- the twenty bytes -/
def gx (a b c e f : Int) (q : Nat) : Int := if q < 16 then (if q < 12 then (if q < 8 then (if q < 4 then fb a q else fb b (q - 4)) else fb c (q - 8)) else fb e (q - 12)) else fb f (q - 16)
def FxX (mem : yMem) (g : Nat → Int) (r : Int) (m : yMem) : Prop := FxQ mem r m ∧ (∀ i j, i ≠ 1 → (i ≠ 0 ∨ j ≠ 11) → m i j = mem i j) ∧ (w32 (mem 0 11) ≤ 780 → (∀ j, (j < (w32 (mem 0 11)).toNat ∨ (w32 (mem 0 11)).toNat + 20 ≤ j) → m 1 j = mem 1 j) ∧ (∀ q, q < 20 → w32 (m 1 ((w32 (mem 0 11)).toNat + q)) = sBs (g q))) ∧ (¬ w32 (mem 0 11) ≤ 780 → ∀ j, m 1 j = mem 1 j)
theorem x_feed {E : yE} (hE : yEok E) {D : Nat} (hD : 2 ≤ D) {mem : yMem} {Q : Option yV → yMem → Prop} {a b c e f : Int} (hG : aGok mem) (hQ : ∀ r m, FxX mem (gx a b c e f) r m → Q (some (0, r)) m) : yCon E D xm_14 [(1, 0), (0, a), (0, b), (0, c), (0, e), (0, f)] mem Q := by
  obtain ⟨d, rfl⟩ := Nat.exists_eq_add_of_le' hD
  refine e_14 ?_
  refine zvc_ok hE 90 [] _ _ _ _ _ _ _ xmo_14 ?_
  have g11 := ag hG 0 11 ag_0_11
  have h0 : 0 ≤ w32 (mem 0 11) := g11.1
  have e20 : w32 (mem 0 11 + 20) = w32 (mem 0 11) + 20 := by rw [w32_ad (by rw [w32c_20]; omega) (by rw [w32c_20]; omega), w32c_20]
  simp only [ynok_30, ynok_31, w32c_0, w32c_1, w32c_2, w32c_3, w32c_4, w32c_5, w32c_6, w32c_7, w32c_8, w32c_9, w32c_10, w32c_11, w32c_12, w32c_13, w32c_14, w32c_m1, w32c_m2, w32c_118, Int.reduceAdd, Int.reduceSub, Int.reduceMul, yput_s, yput_n, znl_n, znl_0, znl_1, znl_4, ysum_n, ysum_0, ysum_1, ysum_4, true_and, and_true, Nat.reduceAdd, Nat.reduceLeDiff, true_implies, eq_self, true_or, or_true, or_false, false_or, not_true_eq_false, not_false_eq_true, false_implies, implies_true, yset_s, yset_o, yset_d, ne_eq, Nat.reduceEqDiff, Int.reduceToNat, Int.reduceEq, Int.reduceLE, Int.reduceLT, Classical.not_not, Nat.reduceLT, ↓zvk_s, ↓zvk_n, ↓s_14_0, ↓s_14_1, ↓s_14_4, ↓s_14_6, ↓s_14_7, ↓s_14_10, ↓s_14_13, ↓s_14_14, ↓s_14_15, ↓s_14_16, ↓s_14_17, ↓s_14_20, ↓s_14_21, ↓s_14_22, ↓s_14_25, ↓s_14_26, ↓s_14_27, ↓s_14_30, ↓s_14_31, ↓s_14_33, ↓s_14_36, ↓s_14_37, ↓s_14_39, ↓s_14_42, ↓s_14_43, ↓s_14_46, w32c_20, w32c_800, zio_0]
  refine ⟨fun h => ?_, fun h => hQ _ _ ⟨⟨hG, fun _ _ _ => rfl, by rw [if_neg (by omega)]; exact ⟨by decide, rfl⟩⟩, fun _ _ _ _ => rfl, fun z => absurd z (by omega), fun _ _ => rfl⟩⟩
  refine x_tapeNumber hE (by omega) hG (by omega) (fun m1 T1 => ?_)
  refine zgk_n hE xmo_14 60 [] ?_
  simp only [ynok_30, ynok_31, w32c_0, w32c_1, w32c_2, w32c_3, w32c_4, w32c_5, w32c_6, w32c_7, w32c_8, w32c_9, w32c_10, w32c_11, w32c_12, w32c_13, w32c_14, w32c_m1, w32c_m2, w32c_118, Int.reduceAdd, Int.reduceSub, Int.reduceMul, yput_s, yput_n, znl_n, znl_0, znl_1, znl_4, ysum_n, ysum_0, ysum_1, ysum_4, true_and, and_true, Nat.reduceAdd, Nat.reduceLeDiff, true_implies, eq_self, true_or, or_true, or_false, false_or, not_true_eq_false, not_false_eq_true, false_implies, implies_true, yset_s, yset_o, yset_d, ne_eq, Nat.reduceEqDiff, Int.reduceToNat, Int.reduceEq, Int.reduceLE, Int.reduceLT, Classical.not_not, Nat.reduceLT, ↓zvk_s, ↓zvk_n, ↓s_14_0, ↓s_14_1, ↓s_14_4, ↓s_14_6, ↓s_14_7, ↓s_14_10, ↓s_14_13, ↓s_14_14, ↓s_14_15, ↓s_14_16, ↓s_14_17, ↓s_14_20, ↓s_14_21, ↓s_14_22, ↓s_14_25, ↓s_14_26, ↓s_14_27, ↓s_14_30, ↓s_14_31, ↓s_14_33, ↓s_14_36, ↓s_14_37, ↓s_14_39, ↓s_14_42, ↓s_14_43, ↓s_14_46, w32c_20, w32c_800, zio_0]
  refine x_tapeNumber hE (by omega) T1.1.1 (by have := T1.1.2.2; omega) (fun m2 T2 => ?_)
  have T2 := FcX_tr h0 T1 T2
  refine zgk_n hE xmo_14 60 [] ?_
  simp only [ynok_30, ynok_31, w32c_0, w32c_1, w32c_2, w32c_3, w32c_4, w32c_5, w32c_6, w32c_7, w32c_8, w32c_9, w32c_10, w32c_11, w32c_12, w32c_13, w32c_14, w32c_m1, w32c_m2, w32c_118, Int.reduceAdd, Int.reduceSub, Int.reduceMul, yput_s, yput_n, znl_n, znl_0, znl_1, znl_4, ysum_n, ysum_0, ysum_1, ysum_4, true_and, and_true, Nat.reduceAdd, Nat.reduceLeDiff, true_implies, eq_self, true_or, or_true, or_false, false_or, not_true_eq_false, not_false_eq_true, false_implies, implies_true, yset_s, yset_o, yset_d, ne_eq, Nat.reduceEqDiff, Int.reduceToNat, Int.reduceEq, Int.reduceLE, Int.reduceLT, Classical.not_not, Nat.reduceLT, ↓zvk_s, ↓zvk_n, ↓s_14_0, ↓s_14_1, ↓s_14_4, ↓s_14_6, ↓s_14_7, ↓s_14_10, ↓s_14_13, ↓s_14_14, ↓s_14_15, ↓s_14_16, ↓s_14_17, ↓s_14_20, ↓s_14_21, ↓s_14_22, ↓s_14_25, ↓s_14_26, ↓s_14_27, ↓s_14_30, ↓s_14_31, ↓s_14_33, ↓s_14_36, ↓s_14_37, ↓s_14_39, ↓s_14_42, ↓s_14_43, ↓s_14_46, w32c_20, w32c_800, zio_0]
  refine x_tapeNumber hE (by omega) T2.1.1 (by have := T2.1.2.2; omega) (fun m3 T3 => ?_)
  have T3 := FcX_tr h0 T2 T3
  refine zgk_n hE xmo_14 60 [] ?_
  simp only [ynok_30, ynok_31, w32c_0, w32c_1, w32c_2, w32c_3, w32c_4, w32c_5, w32c_6, w32c_7, w32c_8, w32c_9, w32c_10, w32c_11, w32c_12, w32c_13, w32c_14, w32c_m1, w32c_m2, w32c_118, Int.reduceAdd, Int.reduceSub, Int.reduceMul, yput_s, yput_n, znl_n, znl_0, znl_1, znl_4, ysum_n, ysum_0, ysum_1, ysum_4, true_and, and_true, Nat.reduceAdd, Nat.reduceLeDiff, true_implies, eq_self, true_or, or_true, or_false, false_or, not_true_eq_false, not_false_eq_true, false_implies, implies_true, yset_s, yset_o, yset_d, ne_eq, Nat.reduceEqDiff, Int.reduceToNat, Int.reduceEq, Int.reduceLE, Int.reduceLT, Classical.not_not, Nat.reduceLT, ↓zvk_s, ↓zvk_n, ↓s_14_0, ↓s_14_1, ↓s_14_4, ↓s_14_6, ↓s_14_7, ↓s_14_10, ↓s_14_13, ↓s_14_14, ↓s_14_15, ↓s_14_16, ↓s_14_17, ↓s_14_20, ↓s_14_21, ↓s_14_22, ↓s_14_25, ↓s_14_26, ↓s_14_27, ↓s_14_30, ↓s_14_31, ↓s_14_33, ↓s_14_36, ↓s_14_37, ↓s_14_39, ↓s_14_42, ↓s_14_43, ↓s_14_46, w32c_20, w32c_800, zio_0]
  refine x_tapeNumber hE (by omega) T3.1.1 (by have := T3.1.2.2; omega) (fun m4 T4 => ?_)
  have T4 := FcX_tr h0 T3 T4
  refine zgk_n hE xmo_14 60 [] ?_
  simp only [ynok_30, ynok_31, w32c_0, w32c_1, w32c_2, w32c_3, w32c_4, w32c_5, w32c_6, w32c_7, w32c_8, w32c_9, w32c_10, w32c_11, w32c_12, w32c_13, w32c_14, w32c_m1, w32c_m2, w32c_118, Int.reduceAdd, Int.reduceSub, Int.reduceMul, yput_s, yput_n, znl_n, znl_0, znl_1, znl_4, ysum_n, ysum_0, ysum_1, ysum_4, true_and, and_true, Nat.reduceAdd, Nat.reduceLeDiff, true_implies, eq_self, true_or, or_true, or_false, false_or, not_true_eq_false, not_false_eq_true, false_implies, implies_true, yset_s, yset_o, yset_d, ne_eq, Nat.reduceEqDiff, Int.reduceToNat, Int.reduceEq, Int.reduceLE, Int.reduceLT, Classical.not_not, Nat.reduceLT, ↓zvk_s, ↓zvk_n, ↓s_14_0, ↓s_14_1, ↓s_14_4, ↓s_14_6, ↓s_14_7, ↓s_14_10, ↓s_14_13, ↓s_14_14, ↓s_14_15, ↓s_14_16, ↓s_14_17, ↓s_14_20, ↓s_14_21, ↓s_14_22, ↓s_14_25, ↓s_14_26, ↓s_14_27, ↓s_14_30, ↓s_14_31, ↓s_14_33, ↓s_14_36, ↓s_14_37, ↓s_14_39, ↓s_14_42, ↓s_14_43, ↓s_14_46, w32c_20, w32c_800, zio_0]
  refine x_tapeNumber hE (by omega) T4.1.1 (by have := T4.1.2.2; omega) (fun m5 T5 => ?_)
  have T5 := FcX_tr h0 T4 T5
  refine zgk_n hE xmo_14 60 [] ?_
  simp only [ynok_30, ynok_31, w32c_0, w32c_1, w32c_2, w32c_3, w32c_4, w32c_5, w32c_6, w32c_7, w32c_8, w32c_9, w32c_10, w32c_11, w32c_12, w32c_13, w32c_14, w32c_m1, w32c_m2, w32c_118, Int.reduceAdd, Int.reduceSub, Int.reduceMul, yput_s, yput_n, znl_n, znl_0, znl_1, znl_4, ysum_n, ysum_0, ysum_1, ysum_4, true_and, and_true, Nat.reduceAdd, Nat.reduceLeDiff, true_implies, eq_self, true_or, or_true, or_false, false_or, not_true_eq_false, not_false_eq_true, false_implies, implies_true, yset_s, yset_o, yset_d, ne_eq, Nat.reduceEqDiff, Int.reduceToNat, Int.reduceEq, Int.reduceLE, Int.reduceLT, Classical.not_not, Nat.reduceLT, ↓zvk_s, ↓zvk_n, ↓s_14_0, ↓s_14_1, ↓s_14_4, ↓s_14_6, ↓s_14_7, ↓s_14_10, ↓s_14_13, ↓s_14_14, ↓s_14_15, ↓s_14_16, ↓s_14_17, ↓s_14_20, ↓s_14_21, ↓s_14_22, ↓s_14_25, ↓s_14_26, ↓s_14_27, ↓s_14_30, ↓s_14_31, ↓s_14_33, ↓s_14_36, ↓s_14_37, ↓s_14_39, ↓s_14_42, ↓s_14_43, ↓s_14_46, w32c_20, w32c_800, zio_0]
  have e5 := T5.1.2.2
  exact hQ _ _ ⟨⟨T5.1.1, fun i j hi => T5.1.2.1 i j (by omega) (Or.inl (by omega)), by rw [if_pos (by omega)]; omega⟩, T5.1.2.1, fun _ => ⟨T5.2.1, T5.2.2⟩, fun z => absurd (show w32 (mem 0 11) ≤ 780 by omega) z⟩
/-- feed of the reference, its bytes -/
def FrX (mem : yMem) (g : Nat → Int) (r : Int) (m : yMem) : Prop := FrQ mem r m ∧ (w32 (mem 95 2) ≤ 780 → (∀ j, (j < (w32 (mem 95 2)).toNat ∨ (w32 (mem 95 2)).toNat + 20 ≤ j) → m 96 j = mem 96 j) ∧ (∀ q, q < 20 → w32 (m 96 ((w32 (mem 95 2)).toNat + q)) = g q)) ∧ (¬ w32 (mem 95 2) ≤ 780 → ∀ j, m 96 j = mem 96 j) ∧ (∀ j, j ≠ 0 → j ≠ 2 → m 95 j = mem 95 j)
theorem fex_loop {E : yE} (hE : yEok E) {d : Nat} {mem : yMem} {Q : Option yV → yMem → Prop} {a b c e f : Int} (hG : aGok mem) (h7 : w32 (mem 95 2) ≤ 780) (hQ : ∀ r m, FrX mem (gx a b c e f) r m → Q (some (0, r)) m) : ∀ (n : Nat) (k : Int) (r7 : Option yV) (m : yMem), (20 - w32 k).toNat = n → 0 ≤ w32 k → w32 k ≤ 20 → aGok m → (∀ i j, i ≠ 96 → m i j = mem i j) → (∀ j, (j < (w32 (mem 95 2)).toNat ∨ (w32 (mem 95 2)).toNat + (w32 k).toNat ≤ j) → m 96 j = mem 96 j) → (∀ q, q < (w32 k).toNat → w32 (m 96 ((w32 (mem 95 2)).toNat + q)) = gx a b c e f q) → zG E d xm_167 20 [some (1, 95), some (0, a), some (0, b), some (0, c), some (0, e), some (0, f), some (0, k), r7] [] m Q := by
  have g2 := ag hG 95 2 ag_95_2
  have g20 : 0 ≤ w32 (mem 95 2) := g2.1
  intro n
  induction n with
  | zero =>
    intro k r7 m hn h0 h1 hGm hF hO hC
    have e2 : m 95 2 = mem 95 2 := hF 95 2 (by decide)
    have e20 : w32 (mem 95 2 + 20) = w32 (mem 95 2) + 20 := by rw [w32_ad (by rw [w32c_20]; omega) (by rw [w32c_20]; omega), w32c_20]
    have ek : (w32 k).toNat = 20 := by omega
    rw [ek] at hO hC
    refine zgo_ok (n := 60) hE xmo_167 (cs := zc_167) ?_
    simp only [ynok_30, ynok_31, w32c_0, w32c_1, w32c_2, w32c_3, w32c_4, w32c_5, w32c_6, w32c_7, w32c_8, w32c_9, w32c_10, w32c_11, w32c_12, w32c_13, w32c_14, w32c_m1, w32c_m2, w32c_118, Int.reduceAdd, Int.reduceSub, Int.reduceMul, yput_s, yput_n, znl_n, znl_0, znl_1, znl_4, ysum_n, ysum_0, ysum_1, ysum_4, true_and, and_true, Nat.reduceAdd, Nat.reduceLeDiff, true_implies, eq_self, true_or, or_true, or_false, false_or, not_true_eq_false, not_false_eq_true, false_implies, implies_true, yset_s, yset_o, yset_d, ne_eq, Nat.reduceEqDiff, Int.reduceToNat, Int.reduceEq, Int.reduceLE, Int.reduceLT, Classical.not_not, Nat.reduceLT, ↓zvk_s, ↓zvk_n, ↓s_167_0, ↓s_167_1, ↓s_167_2, ↓s_167_5, ↓s_167_6, ↓s_167_9, ↓s_167_12, ↓s_167_15, ↓s_167_16, ↓s_167_17, ↓s_167_18n, ↓s_167_18i, ↓s_167_18p, ↓g_167_20, ↓k_167_20, ↓s_167_22, ↓s_167_24, ↓s_167_27, ↓s_167_29, ↓s_167_30, ↓s_167_33, ↓s_167_34, ↓s_167_37, ↓s_167_39, ↓s_167_41, ↓s_167_44, ↓s_167_45, ↓s_167_48, ↓s_167_50, ↓s_167_52, ↓s_167_55, ↓s_167_56, ↓s_167_59, ↓s_167_61, ↓s_167_63, ↓s_167_66, ↓s_167_68, ↓s_167_71, ↓g_167_73n, ↓g_167_73i, ↓g_167_73p, ↓k_167_73, ↓s_167_75, ↓s_167_76, ↓s_167_79, ↓s_167_80, ↓s_167_83, ↓s_167_85, ↓s_167_86, ↓s_167_88, ↓s_167_90, ↓s_167_92, ↓s_167_94, ↓s_167_95, ↓s_167_96, ↓s_167_97, ↓s_167_98, ↓s_167_99, ↓s_167_102, ↓s_167_103, ↓s_167_104n, ↓s_167_104i, ↓s_167_104p, ↓s_167_107, ↓s_167_110, ↓s_167_111a, ↓s_167_111b, ↓s_167_112, ↓s_167_115, ↓s_167_117, ↓s_167_118, ↓s_167_121, ↓s_167_122, ↓s_167_125, w32c_780, w32c_20, w32c_16, w32c_24, w32c_255, zar_96, zia_96, zln_96, zit_96, zio_95]
    rw [e2]
    refine ⟨fun _ => hQ _ _ ⟨⟨aGok_set hGm (by rw [ag_95_2, e20]; exact ⟨by dsimp only; omega, by dsimp only; omega⟩), fun i j i1 i2 => by rw [yset_o i1]; exact hF i j i2, by rw [if_pos h7]; exact ⟨e20, by rw [yset_s]; exact e20⟩⟩, fun _ => ⟨fun j hj => by rw [yset_o (by decide)]; exact hO j hj, fun q hq => by rw [yset_o (by decide)]; exact hC q hq⟩, fun z => absurd h7 z, fun j _ j2 => by rw [yset_d j2]; exact hF 95 j (by decide)⟩, fun h => absurd (show (20 : Int) ≤ w32 k by omega) h⟩
  | succ n ih =>
    intro k r7 m hn h0 h1 hGm hF hO hC
    have e2 : m 95 2 = mem 95 2 := hF 95 2 (by decide)
    have e1 : w32 (k + 1) = w32 k + 1 := by rw [w32_ad (by rw [w32c_1]; omega) (by rw [w32c_1]; omega), w32c_1]
    have e1n : (w32 (k + 1)).toNat = (w32 k).toNat + 1 := by rw [e1]; omega
    have ek : w32 (mem 95 2 + k) = w32 (mem 95 2) + w32 k := w32_ad (by omega) (by omega)
    have ekn : (w32 (mem 95 2 + k)).toNat = (w32 (mem 95 2)).toNat + (w32 k).toNat := by rw [ek]; omega
    have e4 : w32 4 = 4 := by decide
    have er : w32 (ybin 10 k 4) = (((w32 k).toNat % 4 : Nat) : Int) := by
      have wt : w32 (ybin 10 k 4) = (fbin 10 (iI k) (iI 4)).toInt := by
        show (Int32.ofInt (fbin 10 (iI k) (iI 4)).toInt).toInt = _
        rw [Int32.ofInt_toInt]
      rw [wt, y_rem h0 (by rw [e4]; decide), e4]
      omega
    have e8r : w32 (8 * ybin 10 k 4) = 8 * (((w32 k).toNat % 4 : Nat) : Int) := by rw [w32_k (by decide) (by rw [er]; omega) (by rw [er]; omega), er]
    have es : w32 (24 - 8 * ybin 10 k 4) = 24 - 8 * (((w32 k).toNat % 4 : Nat) : Int) := by
      rw [w32_sb (by rw [show w32 24 = 24 by decide, e8r]; omega) (by rw [show w32 24 = 24 by decide, e8r]; omega), show w32 24 = 24 by decide, e8r]
    have f73 : ∀ (v : Int) (r7 : Option yV), fb v ((w32 k).toNat % 4) = gx a b c e f (w32 k).toNat → zG E d xm_167 73 [some (1, 95), some (0, a), some (0, b), some (0, c), some (0, e), some (0, f), some (0, k), r7] [(0, v)] m Q := fun v r7 hv => by
      refine zgo_ok (n := 60) hE xmo_167 (cs := zc_167) ?_
      simp only [ynok_30, ynok_31, w32c_0, w32c_1, w32c_2, w32c_3, w32c_4, w32c_5, w32c_6, w32c_7, w32c_8, w32c_9, w32c_10, w32c_11, w32c_12, w32c_13, w32c_14, w32c_m1, w32c_m2, w32c_118, Int.reduceAdd, Int.reduceSub, Int.reduceMul, yput_s, yput_n, znl_n, znl_0, znl_1, znl_4, ysum_n, ysum_0, ysum_1, ysum_4, true_and, and_true, Nat.reduceAdd, Nat.reduceLeDiff, true_implies, eq_self, true_or, or_true, or_false, false_or, not_true_eq_false, not_false_eq_true, false_implies, implies_true, yset_s, yset_o, yset_d, ne_eq, Nat.reduceEqDiff, Int.reduceToNat, Int.reduceEq, Int.reduceLE, Int.reduceLT, Classical.not_not, Nat.reduceLT, ↓zvk_s, ↓zvk_n, ↓s_167_0, ↓s_167_1, ↓s_167_2, ↓s_167_5, ↓s_167_6, ↓s_167_9, ↓s_167_12, ↓s_167_15, ↓s_167_16, ↓s_167_17, ↓s_167_18n, ↓s_167_18i, ↓s_167_18p, ↓s_167_18j, ↓g_167_20, ↓k_167_20, ↓s_167_22, ↓s_167_24, ↓s_167_27, ↓s_167_29, ↓s_167_30, ↓s_167_33, ↓s_167_34, ↓s_167_37, ↓s_167_39, ↓s_167_41, ↓s_167_44, ↓s_167_45, ↓s_167_48, ↓s_167_50, ↓s_167_52, ↓s_167_55, ↓s_167_56, ↓s_167_59, ↓s_167_61, ↓s_167_63, ↓s_167_66, ↓s_167_68, ↓s_167_71, ↓g_167_73n, ↓g_167_73i, ↓g_167_73p, ↓g_167_73j, ↓k_167_73, ↓s_167_75, ↓s_167_76, ↓s_167_79, ↓s_167_80, ↓s_167_83, ↓s_167_85, ↓s_167_86, ↓s_167_88, ↓s_167_90, ↓s_167_92, ↓s_167_94, ↓s_167_95, ↓s_167_96, ↓s_167_97, ↓s_167_98, ↓s_167_99, ↓s_167_102, ↓s_167_103, ↓s_167_104n, ↓s_167_104i, ↓s_167_104p, ↓s_167_104j, ↓s_167_107, ↓s_167_110, ↓s_167_111a, ↓s_167_111b, ↓s_167_112, ↓s_167_115, ↓s_167_117, ↓s_167_118, ↓s_167_121, ↓s_167_122, ↓s_167_125, w32c_780, w32c_20, w32c_16, w32c_24, w32c_255, zar_96, zia_96, zln_96, zit_96, zio_95]
      rw [e2]
      refine ⟨⟨by omega, by omega⟩, ih (k + 1) _ _ (by omega) (by omega) (by omega) (aGok_set hGm (by rw [agam_A ae_96]; exact and255 _)) (fun i j hi => by rw [yset_o hi]; exact hF i j hi) (fun j hj => ?_) (fun q hq => ?_)⟩
      · rw [ekn, yset_d (by omega)]
        exact hO j (by omega)
      · rw [ekn]
        by_cases hqk : q = (w32 k).toNat
        · subst hqk
          rw [yset_s, fb_of (q := (w32 k).toNat % 4) (by omega) es]
          exact hv
        · rw [yset_d (by omega)]
          exact hC q (by omega)
    have g1 : w32 k < 4 → fb a ((w32 k).toNat % 4) = gx a b c e f (w32 k).toNat := fun z => by
      unfold gx
      rw [if_pos (by omega), if_pos (by omega), if_pos (by omega), if_pos (by omega), show (w32 k).toNat % 4 = (w32 k).toNat by omega]
    have g2' : 4 ≤ w32 k → w32 k < 8 → fb b ((w32 k).toNat % 4) = gx a b c e f (w32 k).toNat := fun z1 z2 => by
      unfold gx
      rw [if_pos (by omega), if_pos (by omega), if_pos (by omega), if_neg (by omega), show (w32 k).toNat % 4 = (w32 k).toNat - 4 by omega]
    have g3 : 8 ≤ w32 k → w32 k < 12 → fb c ((w32 k).toNat % 4) = gx a b c e f (w32 k).toNat := fun z1 z2 => by
      unfold gx
      rw [if_pos (by omega), if_pos (by omega), if_neg (by omega), show (w32 k).toNat % 4 = (w32 k).toNat - 8 by omega]
    have g4 : 12 ≤ w32 k → w32 k < 16 → fb e ((w32 k).toNat % 4) = gx a b c e f (w32 k).toNat := fun z1 z2 => by
      unfold gx
      rw [if_pos (by omega), if_neg (by omega), show (w32 k).toNat % 4 = (w32 k).toNat - 12 by omega]
    have g5 : 16 ≤ w32 k → fb f ((w32 k).toNat % 4) = gx a b c e f (w32 k).toNat := fun z1 => by
      unfold gx
      rw [if_neg (by omega), show (w32 k).toNat % 4 = (w32 k).toNat - 16 by omega]
    refine zgo_ok (n := 60) hE xmo_167 (cs := zc_167) ?_
    simp only [ynok_30, ynok_31, w32c_0, w32c_1, w32c_2, w32c_3, w32c_4, w32c_5, w32c_6, w32c_7, w32c_8, w32c_9, w32c_10, w32c_11, w32c_12, w32c_13, w32c_14, w32c_m1, w32c_m2, w32c_118, Int.reduceAdd, Int.reduceSub, Int.reduceMul, yput_s, yput_n, znl_n, znl_0, znl_1, znl_4, ysum_n, ysum_0, ysum_1, ysum_4, true_and, and_true, Nat.reduceAdd, Nat.reduceLeDiff, true_implies, eq_self, true_or, or_true, or_false, false_or, not_true_eq_false, not_false_eq_true, false_implies, implies_true, yset_s, yset_o, yset_d, ne_eq, Nat.reduceEqDiff, Int.reduceToNat, Int.reduceEq, Int.reduceLE, Int.reduceLT, Classical.not_not, Nat.reduceLT, ↓zvk_s, ↓zvk_n, ↓s_167_0, ↓s_167_1, ↓s_167_2, ↓s_167_5, ↓s_167_6, ↓s_167_9, ↓s_167_12, ↓s_167_15, ↓s_167_16, ↓s_167_17, ↓s_167_18n, ↓s_167_18i, ↓s_167_18p, ↓g_167_20, ↓k_167_20, ↓s_167_22, ↓s_167_24, ↓s_167_27, ↓s_167_29, ↓s_167_30, ↓s_167_33, ↓s_167_34, ↓s_167_37, ↓s_167_39, ↓s_167_41, ↓s_167_44, ↓s_167_45, ↓s_167_48, ↓s_167_50, ↓s_167_52, ↓s_167_55, ↓s_167_56, ↓s_167_59, ↓s_167_61, ↓s_167_63, ↓s_167_66, ↓s_167_68, ↓s_167_71, ↓g_167_73n, ↓g_167_73i, ↓g_167_73p, ↓k_167_73, ↓s_167_75, ↓s_167_76, ↓s_167_79, ↓s_167_80, ↓s_167_83, ↓s_167_85, ↓s_167_86, ↓s_167_88, ↓s_167_90, ↓s_167_92, ↓s_167_94, ↓s_167_95, ↓s_167_96, ↓s_167_97, ↓s_167_98, ↓s_167_99, ↓s_167_102, ↓s_167_103, ↓s_167_104n, ↓s_167_104i, ↓s_167_104p, ↓s_167_107, ↓s_167_110, ↓s_167_111a, ↓s_167_111b, ↓s_167_112, ↓s_167_115, ↓s_167_117, ↓s_167_118, ↓s_167_121, ↓s_167_122, ↓s_167_125, w32c_780, w32c_20, w32c_16, w32c_24, w32c_255, zar_96, zia_96, zln_96, zit_96, zio_95]
    repeat' first | exact f73 a _ (g1 (by omega)) | exact f73 b _ (g2' (by omega) (by omega)) | exact f73 c _ (g3 (by omega) (by omega)) | exact f73 e _ (g4 (by omega) (by omega)) | exact f73 f _ (g5 (by omega)) | omega | refine And.intro ?_ ?_ | intro _
theorem rx_feed {E : yE} (hE : yEok E) {D : Nat} (hD : 1 ≤ D) {mem : yMem} {Q : Option yV → yMem → Prop} {a b c e f : Int} (hG : aGok mem) (hQ : ∀ r m, FrX mem (gx a b c e f) r m → Q (some (0, r)) m) : yCon E D xm_167 [(1, 95), (0, a), (0, b), (0, c), (0, e), (0, f)] mem Q := by
  obtain ⟨d, rfl⟩ := Nat.exists_eq_add_of_le' hD
  refine e_167 ?_
  refine zvc_ok hE 90 zc_167 _ _ _ _ _ _ _ xmo_167 ?_
  have hG0 : aGok (yset mem 95 0 0) := aGok_set hG (ag_32 ag_95_0)
  have e2 : yset mem 95 0 0 95 2 = mem 95 2 := yset_d (by decide)
  have e6 : ∀ j, yset mem 95 0 0 96 j = mem 96 j := fun j => yset_o (by decide)
  simp only [ynok_30, ynok_31, w32c_0, w32c_1, w32c_2, w32c_3, w32c_4, w32c_5, w32c_6, w32c_7, w32c_8, w32c_9, w32c_10, w32c_11, w32c_12, w32c_13, w32c_14, w32c_m1, w32c_m2, w32c_118, Int.reduceAdd, Int.reduceSub, Int.reduceMul, yput_s, yput_n, znl_n, znl_0, znl_1, znl_4, ysum_n, ysum_0, ysum_1, ysum_4, true_and, and_true, Nat.reduceAdd, Nat.reduceLeDiff, true_implies, eq_self, true_or, or_true, or_false, false_or, not_true_eq_false, not_false_eq_true, false_implies, implies_true, yset_s, yset_o, yset_d, ne_eq, Nat.reduceEqDiff, Int.reduceToNat, Int.reduceEq, Int.reduceLE, Int.reduceLT, Classical.not_not, Nat.reduceLT, ↓zvk_s, ↓zvk_n, ↓s_167_0, ↓s_167_1, ↓s_167_2, ↓s_167_5, ↓s_167_6, ↓s_167_9, ↓s_167_12, ↓s_167_15, ↓s_167_16, ↓s_167_17, ↓s_167_18n, ↓s_167_18i, ↓s_167_18p, ↓g_167_20, ↓k_167_20, ↓s_167_22, ↓s_167_24, ↓s_167_27, ↓s_167_29, ↓s_167_30, ↓s_167_33, ↓s_167_34, ↓s_167_37, ↓s_167_39, ↓s_167_41, ↓s_167_44, ↓s_167_45, ↓s_167_48, ↓s_167_50, ↓s_167_52, ↓s_167_55, ↓s_167_56, ↓s_167_59, ↓s_167_61, ↓s_167_63, ↓s_167_66, ↓s_167_68, ↓s_167_71, ↓g_167_73n, ↓g_167_73i, ↓g_167_73p, ↓k_167_73, ↓s_167_75, ↓s_167_76, ↓s_167_79, ↓s_167_80, ↓s_167_83, ↓s_167_85, ↓s_167_86, ↓s_167_88, ↓s_167_90, ↓s_167_92, ↓s_167_94, ↓s_167_95, ↓s_167_96, ↓s_167_97, ↓s_167_98, ↓s_167_99, ↓s_167_102, ↓s_167_103, ↓s_167_104n, ↓s_167_104i, ↓s_167_104p, ↓s_167_107, ↓s_167_110, ↓s_167_111a, ↓s_167_111b, ↓s_167_112, ↓s_167_115, ↓s_167_117, ↓s_167_118, ↓s_167_121, ↓s_167_122, ↓s_167_125, w32c_780, w32c_20, w32c_16, w32c_24, w32c_255, zar_96, zia_96, zln_96, zit_96, zio_95]
  refine ⟨fun h => fex_loop hE hG0 (by rw [e2]; exact h) (fun r m hf => ?_) _ _ _ _ rfl (by decide) (by decide) hG0 (fun _ _ _ => rfl) (fun _ _ => rfl) (fun q hq => absurd hq (by rw [w32c_0]; exact Nat.not_lt_zero _)), fun h => hQ _ _ ⟨⟨hG0, fun i j i1 _ => yset_o i1, by rw [if_neg h]; exact ⟨by decide, by rw [e2]⟩⟩, fun z => absurd z h, fun _ j => e6 j, fun j j0 _ => yset_d j0⟩⟩
  obtain ⟨hq, h1, h2, h3⟩ := hf
  rw [e2] at h1 h2
  exact hQ r m ⟨⟨hq.1, fun i j i1 i2 => by rw [hq.2.1 i j i1 i2, yset_o i1], by have := hq.2.2; rw [e2] at this; exact this⟩, fun z => ⟨fun j hj => by rw [(h1 z).1 j hj]; exact e6 j, (h1 z).2⟩, fun z => absurd h z, fun j j0 j2 => by rw [h3 j j0 j2]; exact yset_d j0⟩
