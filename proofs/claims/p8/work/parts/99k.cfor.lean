/-! THE CLASS'S E: what it holds back, what it has put -/
def cWt (m : yMem) : List Nat → Prop
  | [] => True
  | k :: w => w32 (m 53 w.length) = (k : Int) ∧ cWt m w ∧ (k = 5 ∨ sLv k ≠ 0)
def cKs (m : yMem) : sK → Prop
  | [] => True
  | t :: o => w32 (m 49 o.length) = (t.1 : Int) ∧ (t.1 = 2 → w32 (m 50 o.length) = t.2) ∧ cKs m o
def sNs : List Nat → Nat
  | [] => 0
  | k :: w => sNs w + if k = 5 then 0 else 1
def sOs : List Nat → Nat
  | [] => 0
  | k :: w => sOs w + if k = 5 then 1 else 0
theorem sNO : ∀ w : List Nat, sNs w + sOs w = w.length
  | [] => rfl
  | k :: w => by
    have := sNO w
    simp only [sNs, sOs, List.length_cons]
    split <;> omega
theorem cWt_eq {m m' : yMem} : ∀ {w : List Nat}, cWt m w → (∀ j, j < w.length → m' 53 j = m 53 j) → cWt m' w
  | [], _, _ => trivial
  | k :: w, h, hE => ⟨by rw [hE _ (Nat.lt_succ_self _)]; exact h.1, cWt_eq h.2.1 (fun j hj => hE j (Nat.lt_succ_of_lt hj)), h.2.2⟩
theorem cKs_eq {m m' : yMem} : ∀ {o : sK}, cKs m o → (∀ j, j < o.length → m' 49 j = m 49 j) → (∀ j, j < o.length → m' 50 j = m 50 j) → cKs m' o
  | [], _, _, _ => trivial
  | t :: o, h, h1, h2 => ⟨by rw [h1 _ (Nat.lt_succ_self _)]; exact h.1, fun q => by rw [h2 _ (Nat.lt_succ_self _)]; exact h.2.1 q, cKs_eq h.2.2 (fun j hj => h1 j (Nat.lt_succ_of_lt hj)) (fun j hj => h2 j (Nat.lt_succ_of_lt hj))⟩
def cFo (m : yMem) (w : List Nat) (cn op : Nat) (o : sK) : Prop := (w32 (m 48 6) = (w.length : Int) ∧ cWt m w) ∧ (w32 (m 48 8) = (cn : Int) ∧ w32 (m 48 7) = (op : Int)) ∧ (w32 (m 48 4) = (o.length : Int) ∧ cKs m o) ∧ o.length + sNs w ≤ cn ∧ cn ≤ 64 ∧ op ≤ 8 ∧ sOs w = op
theorem cFo_of {m m' : yMem} {w : List Nat} {cn op : Nat} {o : sK} (h : cFo m w cn op o) (h48 : ∀ j, j ≠ 9 → m' 48 j = m 48 j) (h49 : ∀ j, m' 49 j = m 49 j) (h50 : ∀ j, m' 50 j = m 50 j) (h53 : ∀ j, m' 53 j = m 53 j) : cFo m' w cn op o := by
  obtain ⟨⟨a1, a2⟩, ⟨a3, a4⟩, ⟨a5, a6⟩, a7⟩ := h
  exact ⟨⟨by rw [h48 6 (by decide)]; exact a1, cWt_eq a2 (fun j _ => h53 j)⟩, ⟨by rw [h48 8 (by decide)]; exact a3, by rw [h48 7 (by decide)]; exact a4⟩, ⟨by rw [h48 4 (by decide)]; exact a5, cKs_eq a6 (fun j _ => h49 j) (fun j _ => h50 j)⟩, a7⟩
theorem cKs_put {m : yMem} {o : sK} {K V : Int} {k : Nat} {v : Int} (h : cKs m o) (hK : w32 K = (k : Int)) (hV : k = 2 → w32 V = v) : cKs (yset (yset m 49 o.length K) 50 o.length V) ((k, v) :: o) :=
  ⟨by rw [yset_o (by decide), yset_s]; exact hK, fun q => by rw [yset_s]; exact hV q, cKs_eq h (fun j hj => by rw [yset_o (by decide), yset_d (by omega)]) (fun j hj => by rw [yset_d (by omega), yset_o (by decide)])⟩
section CP
variable {E : yE} {mem : yMem} {Q : Option yV → yMem → Prop}
theorem sLv_n0 {k : Nat} (h : ¬ k = 30) (h1 : ¬ k = 31) (h2 : ¬ k = 32) (h3 : ¬ (7 ≤ k ∧ k ≤ 12)) (h4 : ¬ (k = 13 ∨ k = 14)) (h5 : ¬ (k = 15 ∨ k = 16)) : sLv k = 0 := by
  unfold sLv
  rw [if_neg h, if_neg h1, if_neg h2, if_neg h3, if_neg h4, if_neg h5]
theorem g_levelOf (hE : yEok E) {D : Nat} (hD : 1 ≤ D) {k : Int} {q : Nat} (hk : w32 k = (q : Int)) (hQ : ∀ x, w32 x = (sLv q : Int) → Q (some (0, x)) mem) : yCon E D xm_65 [(0, k)] mem Q := by
  obtain ⟨d, rfl⟩ := Nat.exists_eq_add_of_le' hD
  refine e_65 ?_
  refine zvc_ok hE 40 [] _ _ _ _ _ _ _ xmo_65 ?_
  simp only [ynok_30, ynok_31, w32c_0, w32c_1, w32c_2, w32c_3, w32c_4, w32c_5, w32c_6, w32c_7, w32c_8, w32c_9, w32c_10, w32c_11, w32c_12, w32c_13, w32c_14, w32c_m1, w32c_m2, w32c_118, Int.reduceAdd, Int.reduceSub, Int.reduceMul, yput_s, yput_n, znl_n, znl_0, znl_1, znl_4, ysum_n, ysum_0, ysum_1, ysum_4, true_and, and_true, Nat.reduceAdd, Nat.reduceLeDiff, true_implies, eq_self, true_or, or_true, or_false, false_or, not_true_eq_false, not_false_eq_true, false_implies, implies_true, yset_s, yset_o, yset_d, ne_eq, Nat.reduceEqDiff, Int.reduceToNat, Int.reduceEq, Int.reduceLE, Int.reduceLT, Classical.not_not, Nat.reduceLT, ↓zvk_s, ↓zvk_n, ↓s_65_0, ↓s_65_1, ↓s_65_96, ↓s_65_97, ↓s_65_98, ↓s_65_99, ↓s_65_100, ↓s_65_101, ↓s_65_102, ↓s_65_103, ↓s_65_104, ↓s_65_106, ↓s_65_107, ↓s_65_108, ↓s_65_110, ↓s_65_113, ↓s_65_114, ↓s_65_116, ↓s_65_119, ↓s_65_120, ↓s_65_123, ↓s_65_124]
  rw [hk]
  have H : ∀ x : Int, ∀ y : Nat, w32 x = (y : Int) → sLv q = y → Q (some (0, x)) mem := fun x y h1 h2 => hQ x (by rw [h1, h2])
  have L0 : ((q < 7 ∨ 16 < q) ∧ q ≠ 30 ∧ q ≠ 31 ∧ q ≠ 32) → sLv q = 0 := fun h => sLv_n0 (by omega) (by omega) (by omega) (by omega) (by omega) (by omega)
  have L4 : (7 ≤ q ∧ q ≤ 12) → sLv q = 4 := fun h => by unfold sLv; rw [if_neg (by omega), if_neg (by omega), if_neg (by omega), if_pos h]
  have L5 : (q = 13 ∨ q = 14) → sLv q = 5 := fun h => by unfold sLv; rw [if_neg (by omega), if_neg (by omega), if_neg (by omega), if_neg (by omega), if_pos h]
  have L6 : (q = 15 ∨ q = 16) → sLv q = 6 := fun h => by unfold sLv; rw [if_neg (by omega), if_neg (by omega), if_neg (by omega), if_neg (by omega), if_neg (by omega), if_pos h]
  have L1 : q = 30 → sLv q = 1 := fun h => by rw [h]; rfl
  have L2 : q = 31 → sLv q = 2 := fun h => by rw [h]; rfl
  have L3 : q = 32 → sLv q = 3 := fun h => by rw [h]; rfl
  repeat' (first | (refine ⟨?_, ?_⟩) | (intro _))
  all_goals first | exact H 0 0 w32c_0 (L0 (by omega)) | exact H 4 4 w32c_4 (L4 (by omega)) | exact H 5 5 w32c_5 (L5 (by omega)) | exact H 6 6 w32c_6 (L6 (by omega)) | exact H 1 1 w32c_1 (L1 (by omega)) | exact H 2 2 w32c_2 (L2 (by omega)) | exact H 3 3 w32c_3 (L3 (by omega)) | omega
abbrev seW : List (Nat × Nat) := [(48, 5), (48, 7), (49, 0), (50, 0)]
theorem g_se (hE : yEok E) {d : Nat} (hd : 1 ≤ d) {b : yMem} {l : Int} {L : Nat} (hl : w32 l = (L : Int)) (hL : 1 ≤ L) {cn op : Nat} : ∀ (w : List Nat) (o : sK) (i : Int) (m : yMem), w32 i = (w.length : Int) - 1 → aFrm seW b m → cFo m w cn op o → (∀ m', aFrm seW b m' → cFo m' (sSt L w o).1 cn op (sSt L w o).2 → Q none m') → zG E (d + 1) xm_69 7 [some (1, 48), some (0, l), some (0, i)] [] m Q
  | [], o, i, m, hi, F, h, fin => by
    refine zgo_ok (n := 60) hE xmo_69 (cs := zc_69) ?_
    simp only [ynok_30, ynok_31, w32c_0, w32c_1, w32c_2, w32c_3, w32c_4, w32c_5, w32c_6, w32c_7, w32c_8, w32c_9, w32c_10, w32c_11, w32c_12, w32c_13, w32c_14, w32c_m1, w32c_m2, w32c_118, Int.reduceAdd, Int.reduceSub, Int.reduceMul, yput_s, yput_n, znl_n, znl_0, znl_1, znl_4, ysum_n, ysum_0, ysum_1, ysum_4, true_and, and_true, Nat.reduceAdd, Nat.reduceLeDiff, true_implies, eq_self, true_or, or_true, or_false, false_or, not_true_eq_false, not_false_eq_true, false_implies, implies_true, yset_s, yset_o, yset_d, ne_eq, Nat.reduceEqDiff, Int.reduceToNat, Int.reduceEq, Int.reduceLE, Int.reduceLT, Classical.not_not, Nat.reduceLT, ↓zvk_s, ↓zvk_n, ↓s_69_0, ↓s_69_1_22, ↓s_69_1_48, ↓s_69_4, ↓s_69_5, ↓s_69_6n, ↓s_69_6i, ↓s_69_6p, ↓g_69_7, ↓k_69_7, ↓s_69_8, ↓s_69_11, ↓s_69_12_22, ↓s_69_12_48, ↓s_69_15, ↓s_69_16, ↓s_69_17, ↓s_69_20, ↓s_69_21, ↓s_69_24, ↓s_69_25, ↓s_69_26_22, ↓s_69_26_48, ↓s_69_29, ↓s_69_30, ↓s_69_31, ↓s_69_32, ↓s_69_35a, ↓s_69_35b, ↓s_69_36, ↓s_69_37, ↓s_69_38_22, ↓s_69_38_48, ↓s_69_41n, ↓s_69_41i, ↓s_69_41p, ↓s_69_44, ↓s_69_47, zio_48, zar_53, zia_53, zln_53, zit_53, zio_22, zar_27, zia_27, zln_27, zit_27]
    exact ⟨fun _ => fin m F h, fun hn => absurd (show w32 i < 0 by rw [hi]; decide) hn⟩
  | k :: w, o, i, m, hi, F, h, fin => by
    obtain ⟨⟨a1, a2⟩, ⟨a3, a4⟩, ⟨a5, a6⟩, a7, a8, a9, a10⟩ := h
    have hlen : (k :: w).length = w.length + 1 := rfl
    have hno := sNO (k :: w)
    rw [hlen] at hi hno
    have hi' : w32 i = (w.length : Int) := by omega
    have hit : (w32 i).toNat = w.length := by rw [hi']; exact Int.toNat_natCast _
    have e1 : w32 (i + -1) = w32 i - 1 := by rw [w32_ad (by rw [w32c_m1]; omega) (by rw [w32c_m1]; omega), w32c_m1]; omega
    refine zgo_ok (n := 60) hE xmo_69 (cs := zc_69) ?_
    simp only [ynok_30, ynok_31, w32c_0, w32c_1, w32c_2, w32c_3, w32c_4, w32c_5, w32c_6, w32c_7, w32c_8, w32c_9, w32c_10, w32c_11, w32c_12, w32c_13, w32c_14, w32c_m1, w32c_m2, w32c_118, Int.reduceAdd, Int.reduceSub, Int.reduceMul, yput_s, yput_n, znl_n, znl_0, znl_1, znl_4, ysum_n, ysum_0, ysum_1, ysum_4, true_and, and_true, Nat.reduceAdd, Nat.reduceLeDiff, true_implies, eq_self, true_or, or_true, or_false, false_or, not_true_eq_false, not_false_eq_true, false_implies, implies_true, yset_s, yset_o, yset_d, ne_eq, Nat.reduceEqDiff, Int.reduceToNat, Int.reduceEq, Int.reduceLE, Int.reduceLT, Classical.not_not, Nat.reduceLT, ↓zvk_s, ↓zvk_n, ↓s_69_0, ↓s_69_1_22, ↓s_69_1_48, ↓s_69_4, ↓s_69_5, ↓s_69_6n, ↓s_69_6i, ↓s_69_6p, ↓g_69_7, ↓k_69_7, ↓s_69_8, ↓s_69_11, ↓s_69_12_22, ↓s_69_12_48, ↓s_69_15, ↓s_69_16, ↓s_69_17, ↓s_69_20, ↓s_69_21, ↓s_69_24, ↓s_69_25, ↓s_69_26_22, ↓s_69_26_48, ↓s_69_29, ↓s_69_30, ↓s_69_31, ↓s_69_32, ↓s_69_35a, ↓s_69_35b, ↓s_69_36, ↓s_69_37, ↓s_69_38_22, ↓s_69_38_48, ↓s_69_41n, ↓s_69_41i, ↓s_69_41p, ↓s_69_44, ↓s_69_47, zio_48, zar_53, zia_53, zln_53, zit_53, zio_22, zar_27, zia_27, zln_27, zit_27]
    refine ⟨fun h => absurd h (by omega), fun _ => ⟨⟨by omega, by omega⟩, ?_⟩⟩
    rw [hit]
    refine g_levelOf hE (by omega) a2.1 (fun x hx => ?_)
    refine zgk_s hE xmo_69 60 zc_69 ?_
    simp only [ynok_30, ynok_31, w32c_0, w32c_1, w32c_2, w32c_3, w32c_4, w32c_5, w32c_6, w32c_7, w32c_8, w32c_9, w32c_10, w32c_11, w32c_12, w32c_13, w32c_14, w32c_m1, w32c_m2, w32c_118, Int.reduceAdd, Int.reduceSub, Int.reduceMul, yput_s, yput_n, znl_n, znl_0, znl_1, znl_4, ysum_n, ysum_0, ysum_1, ysum_4, true_and, and_true, Nat.reduceAdd, Nat.reduceLeDiff, true_implies, eq_self, true_or, or_true, or_false, false_or, not_true_eq_false, not_false_eq_true, false_implies, implies_true, yset_s, yset_o, yset_d, ne_eq, Nat.reduceEqDiff, Int.reduceToNat, Int.reduceEq, Int.reduceLE, Int.reduceLT, Classical.not_not, Nat.reduceLT, ↓zvk_s, ↓zvk_n, ↓s_69_0, ↓s_69_1_22, ↓s_69_1_48, ↓s_69_4, ↓s_69_5, ↓s_69_6n, ↓s_69_6i, ↓s_69_6p, ↓g_69_7, ↓k_69_7, ↓s_69_8, ↓s_69_11, ↓s_69_12_22, ↓s_69_12_48, ↓s_69_15, ↓s_69_16, ↓s_69_17, ↓s_69_20, ↓s_69_21, ↓s_69_24, ↓s_69_25, ↓s_69_26_22, ↓s_69_26_48, ↓s_69_29, ↓s_69_30, ↓s_69_31, ↓s_69_32, ↓s_69_35a, ↓s_69_35b, ↓s_69_36, ↓s_69_37, ↓s_69_38_22, ↓s_69_38_48, ↓s_69_41n, ↓s_69_41i, ↓s_69_41p, ↓s_69_44, ↓s_69_47, ↓s_66_0, ↓s_66_1_22, ↓s_66_1_48, ↓s_66_4, ↓s_66_6, ↓s_66_9, ↓s_66_10_22, ↓s_66_10_48, ↓s_66_13, ↓s_66_14_22, ↓s_66_14_48, ↓s_66_17, ↓s_66_18, ↓s_66_19, ↓s_66_20_22, ↓s_66_20_48, ↓s_66_23, ↓s_66_24_22, ↓s_66_24_48, ↓s_66_27, ↓s_66_28, ↓s_66_29, ↓s_66_30a, ↓s_66_30b, ↓s_66_31_22, ↓s_66_31_48, ↓s_66_34, ↓s_66_35, ↓s_66_36_22, ↓s_66_36_48, ↓s_66_39, ↓s_66_40, w32c_64, zio_48, zar_49, zia_49, zln_49, zit_49, zar_50, zia_50, zln_50, zit_50, zar_53, zia_53, zln_53, zit_53, zio_22, zar_23, zia_23, zln_23, zit_23, zar_24, zia_24, zln_24, zit_24, zar_27, zia_27, zln_27, zit_27]
    rw [hx, hl]
    refine ⟨fun hlt => ?_, fun hlt => ?_⟩
    · have e : sSt L (k :: w) o = (k :: w, o) := by
        show (if _ then _ else _) = _
        rw [if_neg (by omega)]
      rw [e] at fin
      exact fin m F ⟨⟨a1, a2⟩, ⟨a3, a4⟩, ⟨a5, a6⟩, a7, a8, a9, a10⟩
    · have e : sSt L (k :: w) o = sSt L w ((k, 0) :: o) := by
        show (if _ then _ else _) = _
        rw [if_pos (by omega)]
      rw [e] at fin
      have k5 : k ≠ 5 := fun e5 => by
        rw [e5] at hlt
        have : sLv 5 = 0 := rfl
        omega
      have n1 : sNs (k :: w) = sNs w + 1 := by show sNs w + (if _ then _ else _) = _; rw [if_neg k5]
      have o1 : sOs (k :: w) = sOs w := by show sOs w + (if _ then _ else _) = _; rw [if_neg k5]; rfl
      have ho : o.length < 64 := by omega
      have e4 : w32 (m 48 4 + 1) = w32 (m 48 4) + 1 := by rw [w32_ad (by rw [w32c_1]; omega) (by rw [w32c_1]; omega), w32c_1]
      have h4t : (w32 (m 48 4)).toNat = o.length := by rw [a5]; exact Int.toNat_natCast _
      rw [hit, h4t]
      refine ⟨⟨by omega, by omega⟩, fun h => absurd h (by omega), fun _ => ⟨⟨by omega, by omega⟩, ⟨by omega, by omega⟩, ?_⟩⟩
      refine g_se hE hd hl hL w ((k, 0) :: o) (i + -1) _ (by omega) (aFrm_set (aFrm_set (aFrm_set (aFrm_set F rfl) rfl) rfl) rfl) ⟨⟨by rw [yset_s]; exact hi', cWt_eq a2.2.1 (fun j _ => by rw [yset_o (by decide), yset_o (by decide), yset_o (by decide), yset_o (by decide)])⟩, ⟨by rw [yset_d (by decide), yset_d (by decide), yset_o (by decide), yset_o (by decide)]; exact a3, by rw [yset_d (by decide), yset_d (by decide), yset_o (by decide), yset_o (by decide)]; exact a4⟩, ⟨by rw [yset_d (by decide), yset_s, e4, a5]; rfl, cKs_eq (cKs_put a6 a2.1 (fun _ => w32c_0)) (fun j _ => by rw [yset_o (by decide), yset_o (by decide)]) (fun j _ => by rw [yset_o (by decide), yset_o (by decide)])⟩, by show o.length + 1 + sNs w ≤ cn; omega, a8, a9, by omega⟩ fin
theorem g_settle (hE : yEok E) {D : Nat} (hD : 3 ≤ D) {l : Int} {L : Nat} (hl : w32 l = (L : Int)) (hL : 1 ≤ L) {w : List Nat} {cn op : Nat} {o : sK} (h : cFo mem w cn op o) (hQ : ∀ m', aFrm seW mem m' → cFo m' (sSt L w o).1 cn op (sSt L w o).2 → Q none m') : yCon E D xm_69 [(1, 48), (0, l)] mem Q := by
  obtain ⟨d, rfl⟩ := Nat.exists_eq_add_of_le' (show 2 ≤ D by omega)
  refine e_69 ?_
  refine zvc_ok hE 60 zc_69 _ _ _ _ _ _ _ xmo_69 ?_
  have hno := sNO w
  have e1 : w32 (mem 48 6 - 1) = (w.length : Int) - 1 := by rw [w32_sb (by rw [w32c_1, h.1.1]; have := h.2.2.2; omega) (by rw [w32c_1, h.1.1]; have := h.2.2.2; omega), w32c_1, h.1.1]
  simp only [ynok_30, ynok_31, w32c_0, w32c_1, w32c_2, w32c_3, w32c_4, w32c_5, w32c_6, w32c_7, w32c_8, w32c_9, w32c_10, w32c_11, w32c_12, w32c_13, w32c_14, w32c_m1, w32c_m2, w32c_118, Int.reduceAdd, Int.reduceSub, Int.reduceMul, yput_s, yput_n, znl_n, znl_0, znl_1, znl_4, ysum_n, ysum_0, ysum_1, ysum_4, true_and, and_true, Nat.reduceAdd, Nat.reduceLeDiff, true_implies, eq_self, true_or, or_true, or_false, false_or, not_true_eq_false, not_false_eq_true, false_implies, implies_true, yset_s, yset_o, yset_d, ne_eq, Nat.reduceEqDiff, Int.reduceToNat, Int.reduceEq, Int.reduceLE, Int.reduceLT, Classical.not_not, Nat.reduceLT, ↓zvk_s, ↓zvk_n, ↓s_69_0, ↓s_69_1_22, ↓s_69_1_48, ↓s_69_4, ↓s_69_5, ↓s_69_6n, ↓s_69_6i, ↓s_69_6p, ↓g_69_7, ↓k_69_7, ↓s_69_8, ↓s_69_11, ↓s_69_12_22, ↓s_69_12_48, ↓s_69_15, ↓s_69_16, ↓s_69_17, ↓s_69_20, ↓s_69_21, ↓s_69_24, ↓s_69_25, ↓s_69_26_22, ↓s_69_26_48, ↓s_69_29, ↓s_69_30, ↓s_69_31, ↓s_69_32, ↓s_69_35a, ↓s_69_35b, ↓s_69_36, ↓s_69_37, ↓s_69_38_22, ↓s_69_38_48, ↓s_69_41n, ↓s_69_41i, ↓s_69_41p, ↓s_69_44, ↓s_69_47, zio_48, zar_53, zia_53, zln_53, zit_53, zio_22, zar_27, zia_27, zln_27, zit_27]
  exact g_se hE (by omega) hl hL w o _ _ e1 aFrm_rf h hQ
end CP
