section
/-! THE CLASS'S E: what it holds back, what it has put -/
def cWt (m : yMem) : List Nat → Prop
  | [] => True
  | k :: w => w32 (m 53 w.length) = (k : Int) ∧ cWt m w ∧ (k = 5 ∨ sLv k ≠ 0)
def cKs (m : yMem) : sK → Prop
  | [] => True
  | t :: o => w32 (m 49 o.length) = (t.1 : Int) ∧ (t.1 = 2 → w32 (m 50 o.length) = t.2) ∧ cKs m o
def sNs : List Nat → Nat
  | [] => 0
  | k :: w => sNs w + if k = 5 then 0 else 1
def sOs : List Nat → Nat
  | [] => 0
  | k :: w => sOs w + if k = 5 then 1 else 0
theorem sNO : ∀ w : List Nat, sNs w + sOs w = w.length
  | [] => rfl
  | k :: w => by
    have := sNO w
    simp only [sNs, sOs, List.length_cons]
    split <;> omega
theorem cWt_eq {m m' : yMem} : ∀ {w : List Nat}, cWt m w → (∀ j, j < w.length → m' 53 j = m 53 j) → cWt m' w
  | [], _, _ => trivial
  | k :: w, h, hE => ⟨by rw [hE _ (Nat.lt_succ_self _)]; exact h.1, cWt_eq h.2.1 (fun j hj => hE j (Nat.lt_succ_of_lt hj)), h.2.2⟩
theorem cKs_eq {m m' : yMem} : ∀ {o : sK}, cKs m o → (∀ j, j < o.length → m' 49 j = m 49 j) → (∀ j, j < o.length → m' 50 j = m 50 j) → cKs m' o
  | [], _, _, _ => trivial
  | t :: o, h, h1, h2 => ⟨by rw [h1 _ (Nat.lt_succ_self _)]; exact h.1, fun q => by rw [h2 _ (Nat.lt_succ_self _)]; exact h.2.1 q, cKs_eq h.2.2 (fun j hj => h1 j (Nat.lt_succ_of_lt hj)) (fun j hj => h2 j (Nat.lt_succ_of_lt hj))⟩
def cFo (m : yMem) (w : List Nat) (cn op : Nat) (o : sK) : Prop := (w32 (m 48 6) = (w.length : Int) ∧ cWt m w) ∧ (w32 (m 48 8) = (cn : Int) ∧ w32 (m 48 7) = (op : Int)) ∧ (w32 (m 48 4) = (o.length : Int) ∧ cKs m o) ∧ o.length + sNs w ≤ cn ∧ cn ≤ 64 ∧ op ≤ 8 ∧ sOs w = op
theorem cFo_of {m m' : yMem} {w : List Nat} {cn op : Nat} {o : sK} (h : cFo m w cn op o) (h48 : ∀ j, j ≠ 9 → m' 48 j = m 48 j) (h49 : ∀ j, m' 49 j = m 49 j) (h50 : ∀ j, m' 50 j = m 50 j) (h53 : ∀ j, m' 53 j = m 53 j) : cFo m' w cn op o := by
  obtain ⟨⟨a1, a2⟩, ⟨a3, a4⟩, ⟨a5, a6⟩, a7⟩ := h
  exact ⟨⟨by rw [h48 6 (by decide)]; exact a1, cWt_eq a2 (fun j _ => h53 j)⟩, ⟨by rw [h48 8 (by decide)]; exact a3, by rw [h48 7 (by decide)]; exact a4⟩, ⟨by rw [h48 4 (by decide)]; exact a5, cKs_eq a6 (fun j _ => h49 j) (fun j _ => h50 j)⟩, a7⟩
theorem cKs_put {m : yMem} {o : sK} {K V : Int} {k : Nat} {v : Int} (h : cKs m o) (hK : w32 K = (k : Int)) (hV : k = 2 → w32 V = v) : cKs (yset (yset m 49 o.length K) 50 o.length V) ((k, v) :: o) :=
  ⟨by rw [yset_o (by decide), yset_s]; exact hK, fun q => by rw [yset_s]; exact hV q, cKs_eq h (fun j hj => by rw [yset_o (by decide), yset_d (by omega)]) (fun j hj => by rw [yset_d (by omega), yset_o (by decide)])⟩
section CP
variable {E : yE} {mem : yMem} {Q : Option yV → yMem → Prop}
theorem sLv_n0 {k : Nat} (h : ¬ k = 30) (h1 : ¬ k = 31) (h2 : ¬ k = 32) (h3 : ¬ (7 ≤ k ∧ k ≤ 12)) (h4 : ¬ (k = 13 ∨ k = 14)) (h5 : ¬ (k = 15 ∨ k = 16)) : sLv k = 0 := by
  unfold sLv
  rw [if_neg h, if_neg h1, if_neg h2, if_neg h3, if_neg h4, if_neg h5]
theorem g_levelOf (hE : yEok E) {D : Nat} (hD : 1 ≤ D) {k : Int} {q : Nat} (hk : w32 k = (q : Int)) (hQ : ∀ x, w32 x = (sLv q : Int) → Q (some (0, x)) mem) : yCon E D xm_65 [(0, k)] mem Q := by
  obtain ⟨d, rfl⟩ := Nat.exists_eq_add_of_le' hD
  refine e_65 ?_
  refine zvc_ok hE 40 [] _ _ _ _ _ _ _ xmo_65 ?_
  simp only [ynok_30, ynok_31, w32c_0, w32c_1, w32c_2, w32c_3, w32c_4, w32c_5, w32c_6, w32c_7, w32c_8, w32c_9, w32c_10, w32c_11, w32c_12, w32c_13, w32c_14, w32c_m1, w32c_m2, w32c_118, Int.reduceAdd, Int.reduceSub, Int.reduceMul, yput_s, yput_n, znl_n, znl_0, znl_1, znl_4, ysum_n, ysum_0, ysum_1, ysum_4, true_and, and_true, Nat.reduceAdd, Nat.reduceLeDiff, true_implies, eq_self, true_or, or_true, or_false, false_or, not_true_eq_false, not_false_eq_true, false_implies, implies_true, yset_s, yset_o, yset_d, ne_eq, Nat.reduceEqDiff, Int.reduceToNat, Int.reduceEq, Int.reduceLE, Int.reduceLT, Classical.not_not, Nat.reduceLT, ↓zvk_s, ↓zvk_n, ↓s_65_0, ↓s_65_1, ↓s_65_96, ↓s_65_97, ↓s_65_98, ↓s_65_99, ↓s_65_100, ↓s_65_101, ↓s_65_102, ↓s_65_103, ↓s_65_104, ↓s_65_106, ↓s_65_107, ↓s_65_108, ↓s_65_110, ↓s_65_113, ↓s_65_114, ↓s_65_116, ↓s_65_119, ↓s_65_120, ↓s_65_123, ↓s_65_124]
  rw [hk]
  have H : ∀ x : Int, ∀ y : Nat, w32 x = (y : Int) → sLv q = y → Q (some (0, x)) mem := fun x y h1 h2 => hQ x (by rw [h1, h2])
  have L0 : ((q < 7 ∨ 16 < q) ∧ q ≠ 30 ∧ q ≠ 31 ∧ q ≠ 32) → sLv q = 0 := fun h => sLv_n0 (by omega) (by omega) (by omega) (by omega) (by omega) (by omega)
  have L4 : (7 ≤ q ∧ q ≤ 12) → sLv q = 4 := fun h => by unfold sLv; rw [if_neg (by omega), if_neg (by omega), if_neg (by omega), if_pos h]
  have L5 : (q = 13 ∨ q = 14) → sLv q = 5 := fun h => by unfold sLv; rw [if_neg (by omega), if_neg (by omega), if_neg (by omega), if_neg (by omega), if_pos h]
  have L6 : (q = 15 ∨ q = 16) → sLv q = 6 := fun h => by unfold sLv; rw [if_neg (by omega), if_neg (by omega), if_neg (by omega), if_neg (by omega), if_neg (by omega), if_pos h]
  have L1 : q = 30 → sLv q = 1 := fun h => by rw [h]; rfl
  have L2 : q = 31 → sLv q = 2 := fun h => by rw [h]; rfl
  have L3 : q = 32 → sLv q = 3 := fun h => by rw [h]; rfl
  repeat' (first | (refine ⟨?_, ?_⟩) | (intro _))
  all_goals first | exact H 0 0 w32c_0 (L0 (by omega)) | exact H 4 4 w32c_4 (L4 (by omega)) | exact H 5 5 w32c_5 (L5 (by omega)) | exact H 6 6 w32c_6 (L6 (by omega)) | exact H 1 1 w32c_1 (L1 (by omega)) | exact H 2 2 w32c_2 (L2 (by omega)) | exact H 3 3 w32c_3 (L3 (by omega)) | omega
abbrev seW : List (Nat × Nat) := [(48, 5), (48, 7), (49, 0), (50, 0)]
theorem g_se (hE : yEok E) {d : Nat} (hd : 1 ≤ d) {b : yMem} {l : Int} {L : Nat} (hl : w32 l = (L : Int)) (hL : 1 ≤ L) {cn op : Nat} : ∀ (w : List Nat) (o : sK) (i : Int) (m : yMem), w32 i = (w.length : Int) - 1 → aFrm seW b m → cFo m w cn op o → (∀ m', aFrm seW b m' → cFo m' (sSt L w o).1 cn op (sSt L w o).2 → Q none m') → zG E (d + 1) xm_69 7 [some (1, 48), some (0, l), some (0, i)] [] m Q
  | [], o, i, m, hi, F, h, fin => by
    refine zgo_ok (n := 60) hE xmo_69 (cs := zc_69) ?_
    simp only [ynok_30, ynok_31, w32c_0, w32c_1, w32c_2, w32c_3, w32c_4, w32c_5, w32c_6, w32c_7, w32c_8, w32c_9, w32c_10, w32c_11, w32c_12, w32c_13, w32c_14, w32c_m1, w32c_m2, w32c_118, Int.reduceAdd, Int.reduceSub, Int.reduceMul, yput_s, yput_n, znl_n, znl_0, znl_1, znl_4, ysum_n, ysum_0, ysum_1, ysum_4, true_and, and_true, Nat.reduceAdd, Nat.reduceLeDiff, true_implies, eq_self, true_or, or_true, or_false, false_or, not_true_eq_false, not_false_eq_true, false_implies, implies_true, yset_s, yset_o, yset_d, ne_eq, Nat.reduceEqDiff, Int.reduceToNat, Int.reduceEq, Int.reduceLE, Int.reduceLT, Classical.not_not, Nat.reduceLT, ↓zvk_s, ↓zvk_n, ↓s_69_0, ↓s_69_1_22, ↓s_69_1_48, ↓s_69_4, ↓s_69_5, ↓s_69_6n, ↓s_69_6i, ↓s_69_6p, ↓g_69_7, ↓k_69_7, ↓s_69_8, ↓s_69_11, ↓s_69_12_22, ↓s_69_12_48, ↓s_69_15, ↓s_69_16, ↓s_69_17, ↓s_69_20, ↓s_69_21, ↓s_69_24, ↓s_69_25, ↓s_69_26_22, ↓s_69_26_48, ↓s_69_29, ↓s_69_30, ↓s_69_31, ↓s_69_32, ↓s_69_35a, ↓s_69_35b, ↓s_69_36, ↓s_69_37, ↓s_69_38_22, ↓s_69_38_48, ↓s_69_41n, ↓s_69_41i, ↓s_69_41p, ↓s_69_44, ↓s_69_47, zio_48, zar_53, zia_53, zln_53, zit_53, zio_22, zar_27, zia_27, zln_27, zit_27]
    exact ⟨fun _ => fin m F h, fun hn => absurd (show w32 i < 0 by rw [hi]; decide) hn⟩
  | k :: w, o, i, m, hi, F, h, fin => by
    obtain ⟨⟨a1, a2⟩, ⟨a3, a4⟩, ⟨a5, a6⟩, a7, a8, a9, a10⟩ := h
    have hlen : (k :: w).length = w.length + 1 := rfl
    have hno := sNO (k :: w)
    rw [hlen] at hi hno
    have hi' : w32 i = (w.length : Int) := by omega
    have hit : (w32 i).toNat = w.length := by rw [hi']; exact Int.toNat_natCast _
    have e1 : w32 (i + -1) = w32 i - 1 := by rw [w32_ad (by rw [w32c_m1]; omega) (by rw [w32c_m1]; omega), w32c_m1]; omega
    refine zgo_ok (n := 60) hE xmo_69 (cs := zc_69) ?_
    simp only [ynok_30, ynok_31, w32c_0, w32c_1, w32c_2, w32c_3, w32c_4, w32c_5, w32c_6, w32c_7, w32c_8, w32c_9, w32c_10, w32c_11, w32c_12, w32c_13, w32c_14, w32c_m1, w32c_m2, w32c_118, Int.reduceAdd, Int.reduceSub, Int.reduceMul, yput_s, yput_n, znl_n, znl_0, znl_1, znl_4, ysum_n, ysum_0, ysum_1, ysum_4, true_and, and_true, Nat.reduceAdd, Nat.reduceLeDiff, true_implies, eq_self, true_or, or_true, or_false, false_or, not_true_eq_false, not_false_eq_true, false_implies, implies_true, yset_s, yset_o, yset_d, ne_eq, Nat.reduceEqDiff, Int.reduceToNat, Int.reduceEq, Int.reduceLE, Int.reduceLT, Classical.not_not, Nat.reduceLT, ↓zvk_s, ↓zvk_n, ↓s_69_0, ↓s_69_1_22, ↓s_69_1_48, ↓s_69_4, ↓s_69_5, ↓s_69_6n, ↓s_69_6i, ↓s_69_6p, ↓g_69_7, ↓k_69_7, ↓s_69_8, ↓s_69_11, ↓s_69_12_22, ↓s_69_12_48, ↓s_69_15, ↓s_69_16, ↓s_69_17, ↓s_69_20, ↓s_69_21, ↓s_69_24, ↓s_69_25, ↓s_69_26_22, ↓s_69_26_48, ↓s_69_29, ↓s_69_30, ↓s_69_31, ↓s_69_32, ↓s_69_35a, ↓s_69_35b, ↓s_69_36, ↓s_69_37, ↓s_69_38_22, ↓s_69_38_48, ↓s_69_41n, ↓s_69_41i, ↓s_69_41p, ↓s_69_44, ↓s_69_47, zio_48, zar_53, zia_53, zln_53, zit_53, zio_22, zar_27, zia_27, zln_27, zit_27]
    refine ⟨fun h => absurd h (by omega), fun _ => ⟨⟨by omega, by omega⟩, ?_⟩⟩
    rw [hit]
    refine g_levelOf hE (by omega) a2.1 (fun x hx => ?_)
    refine zgk_s hE xmo_69 60 zc_69 ?_
    simp only [ynok_30, ynok_31, w32c_0, w32c_1, w32c_2, w32c_3, w32c_4, w32c_5, w32c_6, w32c_7, w32c_8, w32c_9, w32c_10, w32c_11, w32c_12, w32c_13, w32c_14, w32c_m1, w32c_m2, w32c_118, Int.reduceAdd, Int.reduceSub, Int.reduceMul, yput_s, yput_n, znl_n, znl_0, znl_1, znl_4, ysum_n, ysum_0, ysum_1, ysum_4, true_and, and_true, Nat.reduceAdd, Nat.reduceLeDiff, true_implies, eq_self, true_or, or_true, or_false, false_or, not_true_eq_false, not_false_eq_true, false_implies, implies_true, yset_s, yset_o, yset_d, ne_eq, Nat.reduceEqDiff, Int.reduceToNat, Int.reduceEq, Int.reduceLE, Int.reduceLT, Classical.not_not, Nat.reduceLT, ↓zvk_s, ↓zvk_n, ↓s_69_0, ↓s_69_1_22, ↓s_69_1_48, ↓s_69_4, ↓s_69_5, ↓s_69_6n, ↓s_69_6i, ↓s_69_6p, ↓g_69_7, ↓k_69_7, ↓s_69_8, ↓s_69_11, ↓s_69_12_22, ↓s_69_12_48, ↓s_69_15, ↓s_69_16, ↓s_69_17, ↓s_69_20, ↓s_69_21, ↓s_69_24, ↓s_69_25, ↓s_69_26_22, ↓s_69_26_48, ↓s_69_29, ↓s_69_30, ↓s_69_31, ↓s_69_32, ↓s_69_35a, ↓s_69_35b, ↓s_69_36, ↓s_69_37, ↓s_69_38_22, ↓s_69_38_48, ↓s_69_41n, ↓s_69_41i, ↓s_69_41p, ↓s_69_44, ↓s_69_47, ↓s_66_0, ↓s_66_1_22, ↓s_66_1_48, ↓s_66_4, ↓s_66_6, ↓s_66_9, ↓s_66_10_22, ↓s_66_10_48, ↓s_66_13, ↓s_66_14_22, ↓s_66_14_48, ↓s_66_17, ↓s_66_18, ↓s_66_19, ↓s_66_20_22, ↓s_66_20_48, ↓s_66_23, ↓s_66_24_22, ↓s_66_24_48, ↓s_66_27, ↓s_66_28, ↓s_66_29, ↓s_66_30a, ↓s_66_30b, ↓s_66_31_22, ↓s_66_31_48, ↓s_66_34, ↓s_66_35, ↓s_66_36_22, ↓s_66_36_48, ↓s_66_39, ↓s_66_40, w32c_64, zio_48, zar_49, zia_49, zln_49, zit_49, zar_50, zia_50, zln_50, zit_50, zar_53, zia_53, zln_53, zit_53, zio_22, zar_23, zia_23, zln_23, zit_23, zar_24, zia_24, zln_24, zit_24, zar_27, zia_27, zln_27, zit_27]
    rw [hx, hl]
    refine ⟨fun hlt => ?_, fun hlt => ?_⟩
    · have e : sSt L (k :: w) o = (k :: w, o) := by
        show (if _ then _ else _) = _
        rw [if_neg (by omega)]
      rw [e] at fin
      exact fin m F ⟨⟨a1, a2⟩, ⟨a3, a4⟩, ⟨a5, a6⟩, a7, a8, a9, a10⟩
    · have e : sSt L (k :: w) o = sSt L w ((k, 0) :: o) := by
        show (if _ then _ else _) = _
        rw [if_pos (by omega)]
      rw [e] at fin
      have k5 : k ≠ 5 := fun e5 => by
        rw [e5] at hlt
        have : sLv 5 = 0 := rfl
        omega
      have n1 : sNs (k :: w) = sNs w + 1 := by show sNs w + (if _ then _ else _) = _; rw [if_neg k5]
      have o1 : sOs (k :: w) = sOs w := by show sOs w + (if _ then _ else _) = _; rw [if_neg k5]; rfl
      have ho : o.length < 64 := by omega
      have e4 : w32 (m 48 4 + 1) = w32 (m 48 4) + 1 := by rw [w32_ad (by rw [w32c_1]; omega) (by rw [w32c_1]; omega), w32c_1]
      have h4t : (w32 (m 48 4)).toNat = o.length := by rw [a5]; exact Int.toNat_natCast _
      rw [hit, h4t]
      refine ⟨⟨by omega, by omega⟩, fun h => absurd h (by omega), fun _ => ⟨⟨by omega, by omega⟩, ⟨by omega, by omega⟩, ?_⟩⟩
      refine g_se hE hd hl hL w ((k, 0) :: o) (i + -1) _ (by omega) (aFrm_set (aFrm_set (aFrm_set (aFrm_set F rfl) rfl) rfl) rfl) ⟨⟨by rw [yset_s]; exact hi', cWt_eq a2.2.1 (fun j _ => by rw [yset_o (by decide), yset_o (by decide), yset_o (by decide), yset_o (by decide)])⟩, ⟨by rw [yset_d (by decide), yset_d (by decide), yset_o (by decide), yset_o (by decide)]; exact a3, by rw [yset_d (by decide), yset_d (by decide), yset_o (by decide), yset_o (by decide)]; exact a4⟩, ⟨by rw [yset_d (by decide), yset_s, e4, a5]; rfl, cKs_eq (cKs_put a6 a2.1 (fun _ => w32c_0)) (fun j _ => by rw [yset_o (by decide), yset_o (by decide)]) (fun j _ => by rw [yset_o (by decide), yset_o (by decide)])⟩, by show o.length + 1 + sNs w ≤ cn; omega, a8, a9, by omega⟩ fin
theorem g_settle (hE : yEok E) {D : Nat} (hD : 3 ≤ D) {l : Int} {L : Nat} (hl : w32 l = (L : Int)) (hL : 1 ≤ L) {w : List Nat} {cn op : Nat} {o : sK} (h : cFo mem w cn op o) (hQ : ∀ m', aFrm seW mem m' → cFo m' (sSt L w o).1 cn op (sSt L w o).2 → Q none m') : yCon E D xm_69 [(1, 48), (0, l)] mem Q := by
  obtain ⟨d, rfl⟩ := Nat.exists_eq_add_of_le' (show 2 ≤ D by omega)
  refine e_69 ?_
  refine zvc_ok hE 60 zc_69 _ _ _ _ _ _ _ xmo_69 ?_
  have hno := sNO w
  have e1 : w32 (mem 48 6 - 1) = (w.length : Int) - 1 := by rw [w32_sb (by rw [w32c_1, h.1.1]; have := h.2.2.2; omega) (by rw [w32c_1, h.1.1]; have := h.2.2.2; omega), w32c_1, h.1.1]
  simp only [ynok_30, ynok_31, w32c_0, w32c_1, w32c_2, w32c_3, w32c_4, w32c_5, w32c_6, w32c_7, w32c_8, w32c_9, w32c_10, w32c_11, w32c_12, w32c_13, w32c_14, w32c_m1, w32c_m2, w32c_118, Int.reduceAdd, Int.reduceSub, Int.reduceMul, yput_s, yput_n, znl_n, znl_0, znl_1, znl_4, ysum_n, ysum_0, ysum_1, ysum_4, true_and, and_true, Nat.reduceAdd, Nat.reduceLeDiff, true_implies, eq_self, true_or, or_true, or_false, false_or, not_true_eq_false, not_false_eq_true, false_implies, implies_true, yset_s, yset_o, yset_d, ne_eq, Nat.reduceEqDiff, Int.reduceToNat, Int.reduceEq, Int.reduceLE, Int.reduceLT, Classical.not_not, Nat.reduceLT, ↓zvk_s, ↓zvk_n, ↓s_69_0, ↓s_69_1_22, ↓s_69_1_48, ↓s_69_4, ↓s_69_5, ↓s_69_6n, ↓s_69_6i, ↓s_69_6p, ↓g_69_7, ↓k_69_7, ↓s_69_8, ↓s_69_11, ↓s_69_12_22, ↓s_69_12_48, ↓s_69_15, ↓s_69_16, ↓s_69_17, ↓s_69_20, ↓s_69_21, ↓s_69_24, ↓s_69_25, ↓s_69_26_22, ↓s_69_26_48, ↓s_69_29, ↓s_69_30, ↓s_69_31, ↓s_69_32, ↓s_69_35a, ↓s_69_35b, ↓s_69_36, ↓s_69_37, ↓s_69_38_22, ↓s_69_38_48, ↓s_69_41n, ↓s_69_41i, ↓s_69_41p, ↓s_69_44, ↓s_69_47, zio_48, zar_53, zia_53, zln_53, zit_53, zio_22, zar_27, zia_27, zln_27, zit_27]
  exact g_se hE (by omega) hl hL w o _ _ e1 aFrm_rf h hQ
end CP
end
section
abbrev fvW : List (Nat × Nat) := [(55, 0), (48, 5), (48, 7), (48, 8), (48, 9), (48, 10), (49, 0), (50, 0), (53, 0)]
/-- a FAULT while an E is told -/
def hFa (ch : Nat → Int) (n : Nat) (Q : Option yV → yMem → Prop) (b : yMem) (v : Bool) (w : List Nat) (u : sU) : Prop := ∀ (f : Nat) m', aFrm fvW b m' → cTk ch n m' (.inl (f, (sHd u.1).2.1)) → (∃ w' cn' op' o', cFo m' w' cn' op' o') → (∀ N, sy (N + 1) v w u = .inl (f, (sHd u.1).2.1)) → Q (some (0, 0)) m'
/-- a step -/
def hGo (ch : Nat → Int) (n : Nat) (Q : Option yV → yMem → Prop) (b : yMem) (v : Bool) (w : List Nat) (u : sU) : Prop := ∀ (v' : Bool) (w' : List Nat) (cn' op' : Nat) (o' : sK) m', aFrm fvW b m' → cTk ch n m' (.inr u.1) → cFo m' w' cn' op' o' → w32 (m' 48 9) = (if v' then 1 else 0) → (sHd u.1).1 ≠ 0 → (∀ N, sy (N + 1) v w u = sy N v' w' (u.1.tail, cn', op', o')) → Q (some (0, 1)) m'
theorem cf_fv {a b : yMem} (h : aFrm cfF a b) : aFrm fvW a b := aFrm_w h (by decide)
theorem cFo_cf {m m' : yMem} {w : List Nat} {cn op : Nat} {o : sK} (h : cFo m w cn op o) (hF : aFrm cfF m m') : cFo m' w cn op o := cFo_of h (fun j _ => hF 48 j (amod_n55 (by decide))) (fun j => hF 49 j (amod_n55 (by decide))) (fun j => hF 50 j (amod_n55 (by decide))) (fun j => hF 53 j (amod_n55 (by decide)))
theorem cWt_push {m : yMem} {w : List Nat} {K : Int} {k : Nat} (h : cWt m w) (hK : w32 K = (k : Int)) (hk : k = 5 ∨ sLv k ≠ 0) : cWt (yset m 53 w.length K) (k :: w) := ⟨by rw [yset_s]; exact hK, cWt_eq h (fun j hj => yset_d (by omega)), hk⟩
theorem cFo_hold {m : yMem} {w : List Nat} {cn op : Nat} {o : sK} {K : Int} {k : Nat} (C : cFo m w cn op o) (hc : cn < 64) (hK : w32 K = (k : Int)) (h5 : ¬ k = 5) (hk : sLv k ≠ 0) : cFo (yset (yset (yset m 48 8 (m 48 8 + 1)) 53 w.length K) 48 6 (m 48 6 + 1)) (k :: w) (cn + 1) op o := by
  have hno := sNO w
  obtain ⟨⟨a1, a2⟩, ⟨a3, a4⟩, ⟨a5, a6⟩, a7, a8, a9, a10⟩ := C
  have e6 : w32 (m 48 6 + 1) = w32 (m 48 6) + 1 := by rw [w32_ad (by rw [w32c_1]; omega) (by rw [w32c_1]; omega), w32c_1]
  have e8 : w32 (m 48 8 + 1) = w32 (m 48 8) + 1 := by rw [w32_ad (by rw [w32c_1]; omega) (by rw [w32c_1]; omega), w32c_1]
  have n1 : sNs (k :: w) = sNs w + 1 := by show sNs w + (if _ then _ else _) = _; rw [if_neg h5]
  have o1 : sOs (k :: w) = sOs w := by show sOs w + (if _ then _ else _) = _; rw [if_neg h5]; rfl
  refine ⟨⟨?_, cWt_eq (cWt_push (m := yset m 48 8 (m 48 8 + 1)) (cWt_eq a2 (fun j _ => yset_o (by decide))) hK (Or.inr hk)) (fun j _ => yset_o (by decide))⟩, ⟨?_, ?_⟩, ⟨?_, cKs_eq a6 (fun j _ => by rw [yset_o (by decide), yset_o (by decide), yset_o (by decide)]) (fun j _ => by rw [yset_o (by decide), yset_o (by decide), yset_o (by decide)])⟩, by omega, by omega, a9, by omega⟩
  · rw [yset_s, e6, a1]; rfl
  · rw [yset_d (by decide), yset_o (by decide), yset_s, e8, a3]; rfl
  · rw [yset_d (by decide), yset_o (by decide), yset_d (by decide)]; exact a4
  · rw [yset_d (by decide), yset_o (by decide), yset_d (by decide)]; exact a5
theorem cFo_open {m : yMem} {w : List Nat} {cn op : Nat} {o : sK} {K : Int} (C : cFo m w cn op o) (hc : op < 8) (hK : w32 K = 5) : cFo (yset (yset (yset m 53 w.length K) 48 6 (m 48 6 + 1)) 48 7 (m 48 7 + 1)) (5 :: w) cn (op + 1) o := by
  have hno := sNO w
  obtain ⟨⟨a1, a2⟩, ⟨a3, a4⟩, ⟨a5, a6⟩, a7, a8, a9, a10⟩ := C
  have e6 : w32 (m 48 6 + 1) = w32 (m 48 6) + 1 := by rw [w32_ad (by rw [w32c_1]; omega) (by rw [w32c_1]; omega), w32c_1]
  have e7 : w32 (m 48 7 + 1) = w32 (m 48 7) + 1 := by rw [w32_ad (by rw [w32c_1]; omega) (by rw [w32c_1]; omega), w32c_1]
  have n1 : sNs (5 :: w) = sNs w := rfl
  have o1 : sOs (5 :: w) = sOs w + 1 := rfl
  refine ⟨⟨?_, cWt_eq (cWt_push (m := m) a2 hK (Or.inl rfl)) (fun j _ => by rw [yset_o (by decide), yset_o (by decide)])⟩, ⟨?_, ?_⟩, ⟨?_, cKs_eq a6 (fun j _ => by rw [yset_o (by decide), yset_o (by decide), yset_o (by decide)]) (fun j _ => by rw [yset_o (by decide), yset_o (by decide), yset_o (by decide)])⟩, by omega, by omega, by omega, by omega⟩
  · rw [yset_d (by decide), yset_s, e6, a1]; rfl
  · rw [yset_d (by decide), yset_d (by decide), yset_o (by decide)]; exact a3
  · rw [yset_s, e7, a4]; rfl
  · rw [yset_d (by decide), yset_d (by decide), yset_o (by decide)]; exact a5
section CQ
variable {E : yE} {b m : yMem} {Q : Option yV → yMem → Prop} {ch : Nat → Int} {n : Nat} {l : List sT} {w : List Nat} {cn op d : Nat} {o : sK} {K : Int}
/-- fail, on both ways -/
theorem hFa_fl {v : Bool} {f : Nat} {F : Int} (hf : hFa ch n Q b v w (l, cn, op, o)) (F0 : aFrm fvW b m) (T : cTk ch n m (.inr l)) (C : ∃ w' cn' op' o', cFo m w' cn' op' o') (hs : ∀ N, sy (N + 1) v w (l, cn, op, o) = .inl (f, (sHd l).2.1)) (hF : w32 F = (f : Int)) (h0 : f ≠ 0) : (¬ w32 (m 55 7) = 0 → Q (some (0, 0)) (yset m 55 4 0)) ∧ (w32 (m 55 7) = 0 → Q (some (0, 0)) (yset (yset (yset m 55 7 F) 55 8 (m 55 5)) 55 4 0)) := by
  obtain ⟨w', cn', op', o', C⟩ := C
  refine ⟨fun hz => ?_, fun hz => ?_⟩
  · have g := g_fl1 (f := f) T hz
    exact hf f _ (aFrm_tt F0 (cf_fv g.1)) g.2 ⟨w', cn', op', o', cFo_cf C g.1⟩ hs
  · have g := g_fl0 (f := f) T hF h0 hz
    exact hf f _ (aFrm_tt F0 (cf_fv g.1)) g.2 ⟨w', cn', op', o', cFo_cf C g.1⟩ hs
theorem gv113 (hE : yEok E) (F0 : aFrm fvW b m) (T : cTk ch n m (.inr l)) (C : cFo m w cn op o) (hK : w32 K = ((sHd l).1 : Int)) (h5 : ¬ (sHd l).1 = 5) (h32 : ¬ ((sHd l).1 = 32 ∧ sTp w ≤ 3)) (h2 : (sHd l).1 = 2 ∨ (33 ≤ (sHd l).1 ∧ (sHd l).1 ≤ 39)) (h9 : ¬ ((sHd l).1 = 2 ∧ 9999 < (sHd l).2.2)) (hf : hFa ch n Q b true w (l, cn, op, o)) (hg : hGo ch n Q b true w (l, cn, op, o)) : zG E (d + 3) xm_68 113 [some (1, 48), some (1, 55), some (0, K)] [] m Q := by
  have es : ∀ N, sy (N + 1) true w (l, cn, op, o) = sKn (sHd l).2.1 (l, cn, op, o) (fun u => sy N false w (u.1.tail, u.2.1, u.2.2.1, ((sHd l).1, if (sHd l).1 = 2 then (sHd l).2.2 else 0) :: u.2.2.2)) := fun N => by
    simp only [sy]
    rw [if_neg h5, if_neg h32, if_neg (fun q => q h2), if_neg h9]
  refine zgo_ok (n := 80) hE xmo_68 (cs := zc_68) ?_
  simp only [ynok_30, ynok_31, w32c_0, w32c_1, w32c_2, w32c_3, w32c_4, w32c_5, w32c_6, w32c_7, w32c_8, w32c_9, w32c_10, w32c_11, w32c_12, w32c_13, w32c_14, w32c_m1, w32c_m2, w32c_118, Int.reduceAdd, Int.reduceSub, Int.reduceMul, yput_s, yput_n, znl_n, znl_0, znl_1, znl_4, ysum_n, ysum_0, ysum_1, ysum_4, true_and, and_true, Nat.reduceAdd, Nat.reduceLeDiff, true_implies, eq_self, true_or, or_true, or_false, false_or, not_true_eq_false, not_false_eq_true, false_implies, implies_true, yset_s, yset_o, yset_d, ne_eq, Nat.reduceEqDiff, Int.reduceToNat, Int.reduceEq, Int.reduceLE, Int.reduceLT, Classical.not_not, Nat.reduceLT, ↓zvk_s, ↓zvk_n, ↓s_68_0, ↓s_68_1, ↓s_68_4n, ↓s_68_4i, ↓s_68_4p, ↓s_68_5, ↓s_68_6, ↓s_68_7, ↓s_68_10, ↓s_68_11_22, ↓s_68_11_48, ↓s_68_14, ↓s_68_16, ↓s_68_19, ↓s_68_20, ↓s_68_21, ↓s_68_24, ↓s_68_27, ↓s_68_28, ↓s_68_29, ↓s_68_32, ↓g_68_33, ↓k_68_33, ↓s_68_34, ↓s_68_36, ↓s_68_39, ↓s_68_40, ↓s_68_43, ↓s_68_44, ↓g_68_47, ↓k_68_47, ↓s_68_48, ↓s_68_49, ↓s_68_52, ↓s_68_55, ↓s_68_56, ↓s_68_57, ↓s_68_60, ↓s_68_63, ↓s_68_64, ↓s_68_67, ↓s_68_68, ↓g_68_69, ↓k_68_69, ↓s_68_70, ↓s_68_71, ↓s_68_74, ↓s_68_75, ↓s_68_77, ↓s_68_80, ↓s_68_81, ↓s_68_83, ↓s_68_86, ↓s_68_87, ↓s_68_88, ↓s_68_91, ↓g_68_92, ↓k_68_92, ↓s_68_93, ↓s_68_96, ↓s_68_99, ↓s_68_102, ↓s_68_103, ↓s_68_104, ↓s_68_107, ↓s_68_108, ↓s_68_109, ↓s_68_112, ↓g_68_113, ↓k_68_113, ↓s_68_114, ↓s_68_115_22, ↓s_68_115_48, ↓s_68_118, ↓s_68_119, ↓s_68_120, ↓s_68_123, ↓s_68_126, ↓s_68_127, ↓s_68_128, ↓s_68_129, ↓s_68_132, ↓s_68_135, ↓s_68_138, ↓s_68_139, ↓s_68_142, ↓s_68_143, w32c_32, w32c_33, w32c_39, w32c_9999, ↓s_62_0, ↓s_62_1_22, ↓s_62_1_48, ↓s_62_4, ↓s_62_5_22, ↓s_62_5_48, ↓s_62_8, ↓s_62_9, ↓s_62_12, ↓s_62_13_22, ↓s_62_13_48, ↓s_62_16, ↓s_62_17_22, ↓s_62_17_48, ↓s_62_20, ↓s_62_21, ↓s_62_22, ↓s_62_23a, ↓s_62_23b, ↓s_62_24_22, ↓s_62_24_48, ↓s_62_27, ↓s_62_28, ↓s_62_29_22, ↓s_62_29_48, ↓s_62_32, ↓s_62_33, ↓s_62_34, ↓s_62_37, ↓s_62_38a, ↓s_62_38b, ↓s_62_39_22, ↓s_62_39_48, ↓s_62_42, ↓s_62_43, ↓s_62_44_22, ↓s_62_44_48, ↓s_62_47, ↓s_62_48, ↓s_63_0, ↓s_63_1_22, ↓s_63_1_48, ↓s_63_4, ↓s_63_6, ↓s_63_9, ↓s_63_10, ↓s_63_11, ↓s_63_14, ↓s_63_15, ↓s_63_16a, ↓s_63_16b, ↓s_63_17_22, ↓s_63_17_48, ↓s_63_20, ↓s_63_21, ↓s_63_22_22, ↓s_63_22_48, ↓s_63_25, ↓s_63_26, w32c_64, ↓s_66_0, ↓s_66_1_22, ↓s_66_1_48, ↓s_66_4, ↓s_66_6, ↓s_66_9, ↓s_66_10_22, ↓s_66_10_48, ↓s_66_13, ↓s_66_14_22, ↓s_66_14_48, ↓s_66_17, ↓s_66_18, ↓s_66_19, ↓s_66_20_22, ↓s_66_20_48, ↓s_66_23, ↓s_66_24_22, ↓s_66_24_48, ↓s_66_27, ↓s_66_28, ↓s_66_29, ↓s_66_30a, ↓s_66_30b, ↓s_66_31_22, ↓s_66_31_48, ↓s_66_34, ↓s_66_35, ↓s_66_36_22, ↓s_66_36_48, ↓s_66_39, ↓s_66_40, ↓s_72_0, ↓s_72_1_22, ↓s_72_1_48, ↓s_72_4, ↓s_72_7, ↓s_72_8, ↓s_72_11, ↓s_72_12_22, ↓s_72_12_48, ↓s_72_15, ↓s_72_16_22, ↓s_72_16_48, ↓s_72_19, ↓s_72_20, ↓s_72_21, ↓s_72_22, ↓s_72_25, ↓s_123_0, ↓s_123_1, ↓s_123_4, ↓s_123_7, ↓s_123_8, ↓s_123_9, ↓s_123_12, ↓s_123_13, ↓s_123_14, ↓s_123_17, ↓s_123_20, ↓s_123_21, ↓s_123_22, ↓s_123_25, ↓s_123_26, zio_48, zar_49, zia_49, zln_49, zit_49, zar_50, zia_50, zln_50, zit_50, zar_53, zia_53, zln_53, zit_53, zio_22, zar_23, zia_23, zln_23, zit_23, zio_55, zar_24, zia_24, zln_24, zit_24, zar_27, zia_27, zln_27, zit_27]
  have C9 : cFo (yset m 48 9 0) w cn op o := cFo_of C (fun j hj => yset_d hj) (fun j => yset_o (by decide)) (fun j => yset_o (by decide)) (fun j => yset_o (by decide))
  have T9 : cTk ch n (yset m 48 9 0) (.inr l) := cTk_of T (fun j => yset_o (by decide)) (fun j => yset_o (by decide)) (fun j => yset_o (by decide))
  have F9 : aFrm fvW b (yset m 48 9 0) := aFrm_set F0 rfl
  obtain ⟨⟨a1, a2⟩, ⟨a3, a4⟩, ⟨a5, a6⟩, a7, a8, a9, a10⟩ := C
  have h4t : (w32 (m 48 4)).toNat = o.length := by rw [a5]; exact Int.toNat_natCast _
  rw [h4t, a3, a5]
  refine ⟨fun hc => ⟨fun h => absurd h (by omega), fun _ => ⟨⟨by omega, by omega⟩, ⟨by omega, by omega⟩, ?_⟩⟩, fun hc => ?_⟩
  · have e4 : w32 (m 48 4 + 1) = w32 (m 48 4) + 1 := by rw [w32_ad (by rw [w32c_1]; omega) (by rw [w32c_1]; omega), w32c_1]
    have e8 : w32 (m 48 8 + 1) = w32 (m 48 8) + 1 := by rw [w32_ad (by rw [w32c_1]; omega) (by rw [w32c_1]; omega), w32c_1]
    have hv : (sHd l).1 = 2 → w32 (m 55 6) = (if (sHd l).1 = 2 then (sHd l).2.2 else 0) := fun h => by
      rw [if_pos h]
      obtain ⟨v0, v1⟩ := cTk_vl T h
      have v2 : yVl (.inr l) = (sHd l).2.2 := rfl
      have v3 : ¬ 9999 < (sHd l).2.2 := fun q => h9 ⟨h, q⟩
      omega
    refine hg false w (cn + 1) op (((sHd l).1, if (sHd l).1 = 2 then (sHd l).2.2 else 0) :: o) _ (aFrm_set (aFrm_set (aFrm_set (aFrm_set F9 rfl) rfl) rfl) rfl) (cTk_of T9 (fun j => by rw [yset_o (by decide), yset_o (by decide), yset_o (by decide), yset_o (by decide)]) (fun j => by rw [yset_o (by decide), yset_o (by decide), yset_o (by decide), yset_o (by decide)]) (fun j => by rw [yset_o (by decide), yset_o (by decide), yset_o (by decide), yset_o (by decide)])) ⟨⟨?_, cWt_eq a2 (fun j _ => by rw [yset_o (by decide), yset_o (by decide), yset_o (by decide), yset_o (by decide), yset_o (by decide)])⟩, ⟨?_, ?_⟩, ⟨?_, ?_⟩, ?_, ?_, a9, a10⟩ ?_ (by show (sHd l).1 ≠ 0; omega) (fun N => ?_)
    · rw [yset_d (by decide), yset_o (by decide), yset_o (by decide), yset_d (by decide), yset_d (by decide)]; exact a1
    · rw [yset_d (by decide), yset_o (by decide), yset_o (by decide), yset_s, e8, a3]; rfl
    · rw [yset_d (by decide), yset_o (by decide), yset_o (by decide), yset_d (by decide), yset_d (by decide)]; exact a4
    · rw [yset_s, e4, a5]; rfl
    · exact cKs_eq (cKs_put (m := yset (yset m 48 9 0) 48 8 (m 48 8 + 1)) (cKs_eq a6 (fun j _ => by rw [yset_o (by decide), yset_o (by decide)]) (fun j _ => by rw [yset_o (by decide), yset_o (by decide)])) hK hv) (fun j _ => yset_o (by decide)) (fun j _ => yset_o (by decide))
    · show o.length + 1 + sNs w ≤ cn + 1
      omega
    · omega
    · rw [yset_d (by decide), yset_o (by decide), yset_o (by decide), yset_d (by decide), yset_s]
      exact w32c_0
    · rw [es N]
      unfold sKn
      rw [if_neg (show ¬ cn = 64 by omega)]
  · have e57 : yset m 48 9 0 55 7 = m 55 7 := yset_o (by decide)
    have e55 : yset m 48 9 0 55 5 = m 55 5 := yset_o (by decide)
    have := hFa_fl (f := 2) (F := 2) hf F9 T9 ⟨_, _, _, _, C9⟩ (fun N => by rw [es N]; unfold sKn; rw [if_pos (show cn = 64 by omega)]) (by decide) (by decide)
    rw [e57, e55] at this
    exact this
theorem gv92 (hE : yEok E) (F0 : aFrm fvW b m) (T : cTk ch n m (.inr l)) (C : cFo m w cn op o) (hK : w32 K = ((sHd l).1 : Int)) (h5 : ¬ (sHd l).1 = 5) (h32 : ¬ ((sHd l).1 = 32 ∧ sTp w ≤ 3)) (h2 : (sHd l).1 = 2 ∨ (33 ≤ (sHd l).1 ∧ (sHd l).1 ≤ 39)) (hf : hFa ch n Q b true w (l, cn, op, o)) (hg : hGo ch n Q b true w (l, cn, op, o)) : zG E (d + 3) xm_68 92 [some (1, 48), some (1, 55), some (0, K)] [] m Q := by
  have vl : (sHd l).1 = 2 → 0 ≤ w32 (m 55 6) ∧ min (w32 (m 55 6)) 100000 = (sHd l).2.2 := fun h => cTk_vl T h
  refine zgo_ok (n := 80) hE xmo_68 (cs := zc_68) ?_
  simp only [ynok_30, ynok_31, w32c_0, w32c_1, w32c_2, w32c_3, w32c_4, w32c_5, w32c_6, w32c_7, w32c_8, w32c_9, w32c_10, w32c_11, w32c_12, w32c_13, w32c_14, w32c_m1, w32c_m2, w32c_118, Int.reduceAdd, Int.reduceSub, Int.reduceMul, yput_s, yput_n, znl_n, znl_0, znl_1, znl_4, ysum_n, ysum_0, ysum_1, ysum_4, true_and, and_true, Nat.reduceAdd, Nat.reduceLeDiff, true_implies, eq_self, true_or, or_true, or_false, false_or, not_true_eq_false, not_false_eq_true, false_implies, implies_true, yset_s, yset_o, yset_d, ne_eq, Nat.reduceEqDiff, Int.reduceToNat, Int.reduceEq, Int.reduceLE, Int.reduceLT, Classical.not_not, Nat.reduceLT, ↓zvk_s, ↓zvk_n, ↓s_68_0, ↓s_68_1, ↓s_68_4n, ↓s_68_4i, ↓s_68_4p, ↓s_68_5, ↓s_68_6, ↓s_68_7, ↓s_68_10, ↓s_68_11_22, ↓s_68_11_48, ↓s_68_14, ↓s_68_16, ↓s_68_19, ↓s_68_20, ↓s_68_21, ↓s_68_24, ↓s_68_27, ↓s_68_28, ↓s_68_29, ↓s_68_32, ↓g_68_33, ↓k_68_33, ↓s_68_34, ↓s_68_36, ↓s_68_39, ↓s_68_40, ↓s_68_43, ↓s_68_44, ↓g_68_47, ↓k_68_47, ↓s_68_48, ↓s_68_49, ↓s_68_52, ↓s_68_55, ↓s_68_56, ↓s_68_57, ↓s_68_60, ↓s_68_63, ↓s_68_64, ↓s_68_67, ↓s_68_68, ↓g_68_69, ↓k_68_69, ↓s_68_70, ↓s_68_71, ↓s_68_74, ↓s_68_75, ↓s_68_77, ↓s_68_80, ↓s_68_81, ↓s_68_83, ↓s_68_86, ↓s_68_87, ↓s_68_88, ↓s_68_91, ↓g_68_92, ↓k_68_92, ↓s_68_93, ↓s_68_96, ↓s_68_99, ↓s_68_102, ↓s_68_103, ↓s_68_104, ↓s_68_107, ↓s_68_108, ↓s_68_109, ↓s_68_112, ↓g_68_113, ↓k_68_113, ↓s_68_114, ↓s_68_115_22, ↓s_68_115_48, ↓s_68_118, ↓s_68_119, ↓s_68_120, ↓s_68_123, ↓s_68_126, ↓s_68_127, ↓s_68_128, ↓s_68_129, ↓s_68_132, ↓s_68_135, ↓s_68_138, ↓s_68_139, ↓s_68_142, ↓s_68_143, w32c_32, w32c_33, w32c_39, w32c_9999, ↓s_62_0, ↓s_62_1_22, ↓s_62_1_48, ↓s_62_4, ↓s_62_5_22, ↓s_62_5_48, ↓s_62_8, ↓s_62_9, ↓s_62_12, ↓s_62_13_22, ↓s_62_13_48, ↓s_62_16, ↓s_62_17_22, ↓s_62_17_48, ↓s_62_20, ↓s_62_21, ↓s_62_22, ↓s_62_23a, ↓s_62_23b, ↓s_62_24_22, ↓s_62_24_48, ↓s_62_27, ↓s_62_28, ↓s_62_29_22, ↓s_62_29_48, ↓s_62_32, ↓s_62_33, ↓s_62_34, ↓s_62_37, ↓s_62_38a, ↓s_62_38b, ↓s_62_39_22, ↓s_62_39_48, ↓s_62_42, ↓s_62_43, ↓s_62_44_22, ↓s_62_44_48, ↓s_62_47, ↓s_62_48, ↓s_63_0, ↓s_63_1_22, ↓s_63_1_48, ↓s_63_4, ↓s_63_6, ↓s_63_9, ↓s_63_10, ↓s_63_11, ↓s_63_14, ↓s_63_15, ↓s_63_16a, ↓s_63_16b, ↓s_63_17_22, ↓s_63_17_48, ↓s_63_20, ↓s_63_21, ↓s_63_22_22, ↓s_63_22_48, ↓s_63_25, ↓s_63_26, w32c_64, ↓s_66_0, ↓s_66_1_22, ↓s_66_1_48, ↓s_66_4, ↓s_66_6, ↓s_66_9, ↓s_66_10_22, ↓s_66_10_48, ↓s_66_13, ↓s_66_14_22, ↓s_66_14_48, ↓s_66_17, ↓s_66_18, ↓s_66_19, ↓s_66_20_22, ↓s_66_20_48, ↓s_66_23, ↓s_66_24_22, ↓s_66_24_48, ↓s_66_27, ↓s_66_28, ↓s_66_29, ↓s_66_30a, ↓s_66_30b, ↓s_66_31_22, ↓s_66_31_48, ↓s_66_34, ↓s_66_35, ↓s_66_36_22, ↓s_66_36_48, ↓s_66_39, ↓s_66_40, ↓s_72_0, ↓s_72_1_22, ↓s_72_1_48, ↓s_72_4, ↓s_72_7, ↓s_72_8, ↓s_72_11, ↓s_72_12_22, ↓s_72_12_48, ↓s_72_15, ↓s_72_16_22, ↓s_72_16_48, ↓s_72_19, ↓s_72_20, ↓s_72_21, ↓s_72_22, ↓s_72_25, ↓s_123_0, ↓s_123_1, ↓s_123_4, ↓s_123_7, ↓s_123_8, ↓s_123_9, ↓s_123_12, ↓s_123_13, ↓s_123_14, ↓s_123_17, ↓s_123_20, ↓s_123_21, ↓s_123_22, ↓s_123_25, ↓s_123_26, zio_48, zar_49, zia_49, zln_49, zit_49, zar_50, zia_50, zln_50, zit_50, zar_53, zia_53, zln_53, zit_53, zio_22, zar_23, zia_23, zln_23, zit_23, zio_55, zar_24, zia_24, zln_24, zit_24, zar_27, zia_27, zln_27, zit_27]
  rw [hK]
  have A : ¬ ((sHd l).1 = 2 ∧ 9999 < (sHd l).2.2) → zG E (d + 3) xm_68 113 [some (1, 48), some (1, 55), some (0, K)] [] m Q := fun h9 => gv113 hE F0 T C hK h5 h32 h2 h9 hf hg
  refine ⟨fun h => A (fun q => by have := vl q.1; omega), fun h => ⟨fun q => A (fun q' => q (by have := q'.1; omega)), fun q => ?_⟩⟩
  refine hFa_fl (f := 2) (F := 2) hf F0 T ⟨_, _, _, _, C⟩ (fun N => ?_) (by decide) (by decide)
  have q' : (sHd l).1 = 2 := by omega
  have := vl q'
  simp only [sy]
  rw [if_neg h5, if_neg h32, if_neg (fun q => q h2), if_pos ⟨q', by omega⟩]
theorem gv69 (hE : yEok E) (F0 : aFrm fvW b m) (T : cTk ch n m (.inr l)) (C : cFo m w cn op o) (hK : w32 K = ((sHd l).1 : Int)) (h5 : ¬ (sHd l).1 = 5) (h32 : ¬ ((sHd l).1 = 32 ∧ sTp w ≤ 3)) (hf : hFa ch n Q b true w (l, cn, op, o)) (hg : hGo ch n Q b true w (l, cn, op, o)) : zG E (d + 3) xm_68 69 [some (1, 48), some (1, 55), some (0, K)] [] m Q := by
  refine zgo_ok (n := 80) hE xmo_68 (cs := zc_68) ?_
  simp only [ynok_30, ynok_31, w32c_0, w32c_1, w32c_2, w32c_3, w32c_4, w32c_5, w32c_6, w32c_7, w32c_8, w32c_9, w32c_10, w32c_11, w32c_12, w32c_13, w32c_14, w32c_m1, w32c_m2, w32c_118, Int.reduceAdd, Int.reduceSub, Int.reduceMul, yput_s, yput_n, znl_n, znl_0, znl_1, znl_4, ysum_n, ysum_0, ysum_1, ysum_4, true_and, and_true, Nat.reduceAdd, Nat.reduceLeDiff, true_implies, eq_self, true_or, or_true, or_false, false_or, not_true_eq_false, not_false_eq_true, false_implies, implies_true, yset_s, yset_o, yset_d, ne_eq, Nat.reduceEqDiff, Int.reduceToNat, Int.reduceEq, Int.reduceLE, Int.reduceLT, Classical.not_not, Nat.reduceLT, ↓zvk_s, ↓zvk_n, ↓s_68_0, ↓s_68_1, ↓s_68_4n, ↓s_68_4i, ↓s_68_4p, ↓s_68_5, ↓s_68_6, ↓s_68_7, ↓s_68_10, ↓s_68_11_22, ↓s_68_11_48, ↓s_68_14, ↓s_68_16, ↓s_68_19, ↓s_68_20, ↓s_68_21, ↓s_68_24, ↓s_68_27, ↓s_68_28, ↓s_68_29, ↓s_68_32, ↓g_68_33, ↓k_68_33, ↓s_68_34, ↓s_68_36, ↓s_68_39, ↓s_68_40, ↓s_68_43, ↓s_68_44, ↓g_68_47, ↓k_68_47, ↓s_68_48, ↓s_68_49, ↓s_68_52, ↓s_68_55, ↓s_68_56, ↓s_68_57, ↓s_68_60, ↓s_68_63, ↓s_68_64, ↓s_68_67, ↓s_68_68, ↓g_68_69, ↓k_68_69, ↓s_68_70, ↓s_68_71, ↓s_68_74, ↓s_68_75, ↓s_68_77, ↓s_68_80, ↓s_68_81, ↓s_68_83, ↓s_68_86, ↓s_68_87, ↓s_68_88, ↓s_68_91, ↓g_68_92, ↓k_68_92, ↓s_68_93, ↓s_68_96, ↓s_68_99, ↓s_68_102, ↓s_68_103, ↓s_68_104, ↓s_68_107, ↓s_68_108, ↓s_68_109, ↓s_68_112, ↓g_68_113, ↓k_68_113, ↓s_68_114, ↓s_68_115_22, ↓s_68_115_48, ↓s_68_118, ↓s_68_119, ↓s_68_120, ↓s_68_123, ↓s_68_126, ↓s_68_127, ↓s_68_128, ↓s_68_129, ↓s_68_132, ↓s_68_135, ↓s_68_138, ↓s_68_139, ↓s_68_142, ↓s_68_143, w32c_32, w32c_33, w32c_39, w32c_9999, ↓s_62_0, ↓s_62_1_22, ↓s_62_1_48, ↓s_62_4, ↓s_62_5_22, ↓s_62_5_48, ↓s_62_8, ↓s_62_9, ↓s_62_12, ↓s_62_13_22, ↓s_62_13_48, ↓s_62_16, ↓s_62_17_22, ↓s_62_17_48, ↓s_62_20, ↓s_62_21, ↓s_62_22, ↓s_62_23a, ↓s_62_23b, ↓s_62_24_22, ↓s_62_24_48, ↓s_62_27, ↓s_62_28, ↓s_62_29_22, ↓s_62_29_48, ↓s_62_32, ↓s_62_33, ↓s_62_34, ↓s_62_37, ↓s_62_38a, ↓s_62_38b, ↓s_62_39_22, ↓s_62_39_48, ↓s_62_42, ↓s_62_43, ↓s_62_44_22, ↓s_62_44_48, ↓s_62_47, ↓s_62_48, ↓s_63_0, ↓s_63_1_22, ↓s_63_1_48, ↓s_63_4, ↓s_63_6, ↓s_63_9, ↓s_63_10, ↓s_63_11, ↓s_63_14, ↓s_63_15, ↓s_63_16a, ↓s_63_16b, ↓s_63_17_22, ↓s_63_17_48, ↓s_63_20, ↓s_63_21, ↓s_63_22_22, ↓s_63_22_48, ↓s_63_25, ↓s_63_26, w32c_64, ↓s_66_0, ↓s_66_1_22, ↓s_66_1_48, ↓s_66_4, ↓s_66_6, ↓s_66_9, ↓s_66_10_22, ↓s_66_10_48, ↓s_66_13, ↓s_66_14_22, ↓s_66_14_48, ↓s_66_17, ↓s_66_18, ↓s_66_19, ↓s_66_20_22, ↓s_66_20_48, ↓s_66_23, ↓s_66_24_22, ↓s_66_24_48, ↓s_66_27, ↓s_66_28, ↓s_66_29, ↓s_66_30a, ↓s_66_30b, ↓s_66_31_22, ↓s_66_31_48, ↓s_66_34, ↓s_66_35, ↓s_66_36_22, ↓s_66_36_48, ↓s_66_39, ↓s_66_40, ↓s_72_0, ↓s_72_1_22, ↓s_72_1_48, ↓s_72_4, ↓s_72_7, ↓s_72_8, ↓s_72_11, ↓s_72_12_22, ↓s_72_12_48, ↓s_72_15, ↓s_72_16_22, ↓s_72_16_48, ↓s_72_19, ↓s_72_20, ↓s_72_21, ↓s_72_22, ↓s_72_25, ↓s_123_0, ↓s_123_1, ↓s_123_4, ↓s_123_7, ↓s_123_8, ↓s_123_9, ↓s_123_12, ↓s_123_13, ↓s_123_14, ↓s_123_17, ↓s_123_20, ↓s_123_21, ↓s_123_22, ↓s_123_25, ↓s_123_26, zio_48, zar_49, zia_49, zln_49, zit_49, zar_50, zia_50, zln_50, zit_50, zar_53, zia_53, zln_53, zit_53, zio_22, zar_23, zia_23, zln_23, zit_23, zio_55, zar_24, zia_24, zln_24, zit_24, zar_27, zia_27, zln_27, zit_27]
  rw [hK]
  have A : ((sHd l).1 = 2 ∨ (33 ≤ (sHd l).1 ∧ (sHd l).1 ≤ 39)) → zG E (d + 3) xm_68 92 [some (1, 48), some (1, 55), some (0, K)] [] m Q := fun h2 => gv92 hE F0 T C hK h5 h32 h2 hf hg
  have B : ¬ ((sHd l).1 = 2 ∨ (33 ≤ (sHd l).1 ∧ (sHd l).1 ≤ 39)) → (¬ w32 (m 55 7) = 0 → Q (some (0, 0)) (yset m 55 4 0)) ∧ (w32 (m 55 7) = 0 → Q (some (0, 0)) (yset (yset (yset m 55 7 1) 55 8 (m 55 5)) 55 4 0)) := fun h2 => hFa_fl (f := 1) (F := 1) hf F0 T ⟨_, _, _, _, C⟩ (fun N => by
    simp only [sy]
    rw [if_neg h5, if_neg h32, if_pos h2]) (by decide) (by decide)
  exact ⟨fun h => A (by omega), fun h => ⟨fun h1 => B (by omega), fun h1 => ⟨fun h2 => A (by omega), fun h2 => B (by omega)⟩⟩⟩
theorem gv47 (hE : yEok E) (F0 : aFrm fvW b m) (T : cTk ch n m (.inr l)) (C : cFo m w cn op o) (hK : w32 K = ((sHd l).1 : Int)) (h32 : (sHd l).1 = 32 ∧ sTp w ≤ 3) (h9 : w32 (m 48 9) = 1) (hf : hFa ch n Q b true w (l, cn, op, o)) (hg : hGo ch n Q b true w (l, cn, op, o)) : zG E (d + 3) xm_68 47 [some (1, 48), some (1, 55), some (0, K)] [] m Q := by
  have e72 : w32 ((72 : Nat) : Int) = 72 := by decide
  have hno := sNO w
  refine zgo_ok (n := 80) hE xmo_68 (cs := zc_68) ?_
  simp only [ynok_30, ynok_31, w32c_0, w32c_1, w32c_2, w32c_3, w32c_4, w32c_5, w32c_6, w32c_7, w32c_8, w32c_9, w32c_10, w32c_11, w32c_12, w32c_13, w32c_14, w32c_m1, w32c_m2, w32c_118, Int.reduceAdd, Int.reduceSub, Int.reduceMul, yput_s, yput_n, znl_n, znl_0, znl_1, znl_4, ysum_n, ysum_0, ysum_1, ysum_4, true_and, and_true, Nat.reduceAdd, Nat.reduceLeDiff, true_implies, eq_self, true_or, or_true, or_false, false_or, not_true_eq_false, not_false_eq_true, false_implies, implies_true, yset_s, yset_o, yset_d, ne_eq, Nat.reduceEqDiff, Int.reduceToNat, Int.reduceEq, Int.reduceLE, Int.reduceLT, Classical.not_not, Nat.reduceLT, ↓zvk_s, ↓zvk_n, ↓s_68_0, ↓s_68_1, ↓s_68_4n, ↓s_68_4i, ↓s_68_4p, ↓s_68_5, ↓s_68_6, ↓s_68_7, ↓s_68_10, ↓s_68_11_22, ↓s_68_11_48, ↓s_68_14, ↓s_68_16, ↓s_68_19, ↓s_68_20, ↓s_68_21, ↓s_68_24, ↓s_68_27, ↓s_68_28, ↓s_68_29, ↓s_68_32, ↓g_68_33, ↓k_68_33, ↓s_68_34, ↓s_68_36, ↓s_68_39, ↓s_68_40, ↓s_68_43, ↓s_68_44, ↓g_68_47, ↓k_68_47, ↓s_68_48, ↓s_68_49, ↓s_68_52, ↓s_68_55, ↓s_68_56, ↓s_68_57, ↓s_68_60, ↓s_68_63, ↓s_68_64, ↓s_68_67, ↓s_68_68, ↓g_68_69, ↓k_68_69, ↓s_68_70, ↓s_68_71, ↓s_68_74, ↓s_68_75, ↓s_68_77, ↓s_68_80, ↓s_68_81, ↓s_68_83, ↓s_68_86, ↓s_68_87, ↓s_68_88, ↓s_68_91, ↓g_68_92, ↓k_68_92, ↓s_68_93, ↓s_68_96, ↓s_68_99, ↓s_68_102, ↓s_68_103, ↓s_68_104, ↓s_68_107, ↓s_68_108, ↓s_68_109, ↓s_68_112, ↓g_68_113, ↓k_68_113, ↓s_68_114, ↓s_68_115_22, ↓s_68_115_48, ↓s_68_118, ↓s_68_119, ↓s_68_120, ↓s_68_123, ↓s_68_126, ↓s_68_127, ↓s_68_128, ↓s_68_129, ↓s_68_132, ↓s_68_135, ↓s_68_138, ↓s_68_139, ↓s_68_142, ↓s_68_143, w32c_32, w32c_33, w32c_39, w32c_9999, ↓s_62_0, ↓s_62_1_22, ↓s_62_1_48, ↓s_62_4, ↓s_62_5_22, ↓s_62_5_48, ↓s_62_8, ↓s_62_9, ↓s_62_12, ↓s_62_13_22, ↓s_62_13_48, ↓s_62_16, ↓s_62_17_22, ↓s_62_17_48, ↓s_62_20, ↓s_62_21, ↓s_62_22, ↓s_62_23a, ↓s_62_23b, ↓s_62_24_22, ↓s_62_24_48, ↓s_62_27, ↓s_62_28, ↓s_62_29_22, ↓s_62_29_48, ↓s_62_32, ↓s_62_33, ↓s_62_34, ↓s_62_37, ↓s_62_38a, ↓s_62_38b, ↓s_62_39_22, ↓s_62_39_48, ↓s_62_42, ↓s_62_43, ↓s_62_44_22, ↓s_62_44_48, ↓s_62_47, ↓s_62_48, ↓s_63_0, ↓s_63_1_22, ↓s_63_1_48, ↓s_63_4, ↓s_63_6, ↓s_63_9, ↓s_63_10, ↓s_63_11, ↓s_63_14, ↓s_63_15, ↓s_63_16a, ↓s_63_16b, ↓s_63_17_22, ↓s_63_17_48, ↓s_63_20, ↓s_63_21, ↓s_63_22_22, ↓s_63_22_48, ↓s_63_25, ↓s_63_26, w32c_64, ↓s_66_0, ↓s_66_1_22, ↓s_66_1_48, ↓s_66_4, ↓s_66_6, ↓s_66_9, ↓s_66_10_22, ↓s_66_10_48, ↓s_66_13, ↓s_66_14_22, ↓s_66_14_48, ↓s_66_17, ↓s_66_18, ↓s_66_19, ↓s_66_20_22, ↓s_66_20_48, ↓s_66_23, ↓s_66_24_22, ↓s_66_24_48, ↓s_66_27, ↓s_66_28, ↓s_66_29, ↓s_66_30a, ↓s_66_30b, ↓s_66_31_22, ↓s_66_31_48, ↓s_66_34, ↓s_66_35, ↓s_66_36_22, ↓s_66_36_48, ↓s_66_39, ↓s_66_40, ↓s_72_0, ↓s_72_1_22, ↓s_72_1_48, ↓s_72_4, ↓s_72_7, ↓s_72_8, ↓s_72_11, ↓s_72_12_22, ↓s_72_12_48, ↓s_72_15, ↓s_72_16_22, ↓s_72_16_48, ↓s_72_19, ↓s_72_20, ↓s_72_21, ↓s_72_22, ↓s_72_25, ↓s_123_0, ↓s_123_1, ↓s_123_4, ↓s_123_7, ↓s_123_8, ↓s_123_9, ↓s_123_12, ↓s_123_13, ↓s_123_14, ↓s_123_17, ↓s_123_20, ↓s_123_21, ↓s_123_22, ↓s_123_25, ↓s_123_26, zio_48, zar_49, zia_49, zln_49, zit_49, zar_50, zia_50, zln_50, zit_50, zar_53, zia_53, zln_53, zit_53, zio_22, zar_23, zia_23, zln_23, zit_23, zio_55, zar_24, zia_24, zln_24, zit_24, zar_27, zia_27, zln_27, zit_27]
  have es : ∀ N, sy (N + 1) true w (l, cn, op, o) = sKn (sHd l).2.1 (l, cn, op, o) (fun u => sy N true (32 :: w) (u.1.tail, u.2)) := fun N => by
    simp only [sy]
    rw [if_neg (by omega), if_pos h32]
  have B : ¬ cn < 64 → (¬ w32 (m 55 7) = 0 → Q (some (0, 0)) (yset m 55 4 0)) ∧ (w32 (m 55 7) = 0 → Q (some (0, 0)) (yset (yset (yset m 55 7 2) 55 8 (m 55 5)) 55 4 0)) := fun h2 => hFa_fl (f := 2) (F := 2) hf F0 T ⟨_, _, _, _, C⟩ (fun N => by
    rw [es N]
    unfold sKn
    rw [if_pos (show cn = 64 by have := C.2.2.2; omega)]) (by decide) (by decide)
  have C' := C
  obtain ⟨⟨a1, a2⟩, ⟨a3, a4⟩, ⟨a5, a6⟩, a7, a8, a9, a10⟩ := C
  have h6t : (w32 (m 48 6)).toNat = w.length := by rw [a1]; exact Int.toNat_natCast _
  rw [h6t, a3, a1, hK, e72]
  refine ⟨fun hc => ⟨fun h => absurd h (by omega), fun _ => ⟨⟨by omega, by omega⟩, fun _ => ?_, fun h => absurd h (by omega)⟩⟩, fun hc => B (by omega)⟩
  refine hg true (32 :: w) (cn + 1) op o _ (aFrm_set (aFrm_set (aFrm_set F0 rfl) rfl) rfl) (cTk_of T (fun j => by rw [yset_o (by decide), yset_o (by decide), yset_o (by decide)]) (fun j => by rw [yset_o (by decide), yset_o (by decide), yset_o (by decide)]) (fun j => by rw [yset_o (by decide), yset_o (by decide), yset_o (by decide)])) (cFo_hold C' (by omega) (by rw [hK, h32.1]) (by decide) (by decide)) ?_ (by show (sHd l).1 ≠ 0; omega) (fun N => ?_)
  · rw [yset_d (by decide), yset_o (by decide), yset_d (by decide)]
    exact h9
  · rw [es N]
    unfold sKn
    rw [if_neg (show ¬ cn = 64 by omega)]
theorem sTp_cons (k : Nat) (w : List Nat) : sTp (k :: w) = sLv k := rfl
theorem gv33 (hE : yEok E) (F0 : aFrm fvW b m) (T : cTk ch n m (.inr l)) (C : cFo m w cn op o) (hK : w32 K = ((sHd l).1 : Int)) (h5 : ¬ (sHd l).1 = 5) (h9 : w32 (m 48 9) = 1) (hf : hFa ch n Q b true w (l, cn, op, o)) (hg : hGo ch n Q b true w (l, cn, op, o)) : zG E (d + 3) xm_68 33 [some (1, 48), some (1, 55), some (0, K)] [] m Q := by
  have hno := sNO w
  refine zgo_ok (n := 80) hE xmo_68 (cs := zc_68) ?_
  simp only [ynok_30, ynok_31, w32c_0, w32c_1, w32c_2, w32c_3, w32c_4, w32c_5, w32c_6, w32c_7, w32c_8, w32c_9, w32c_10, w32c_11, w32c_12, w32c_13, w32c_14, w32c_m1, w32c_m2, w32c_118, Int.reduceAdd, Int.reduceSub, Int.reduceMul, yput_s, yput_n, znl_n, znl_0, znl_1, znl_4, ysum_n, ysum_0, ysum_1, ysum_4, true_and, and_true, Nat.reduceAdd, Nat.reduceLeDiff, true_implies, eq_self, true_or, or_true, or_false, false_or, not_true_eq_false, not_false_eq_true, false_implies, implies_true, yset_s, yset_o, yset_d, ne_eq, Nat.reduceEqDiff, Int.reduceToNat, Int.reduceEq, Int.reduceLE, Int.reduceLT, Classical.not_not, Nat.reduceLT, ↓zvk_s, ↓zvk_n, ↓s_68_0, ↓s_68_1, ↓s_68_4n, ↓s_68_4i, ↓s_68_4p, ↓s_68_5, ↓s_68_6, ↓s_68_7, ↓s_68_10, ↓s_68_11_22, ↓s_68_11_48, ↓s_68_14, ↓s_68_16, ↓s_68_19, ↓s_68_20, ↓s_68_21, ↓s_68_24, ↓s_68_27, ↓s_68_28, ↓s_68_29, ↓s_68_32, ↓g_68_33, ↓k_68_33, ↓s_68_34, ↓s_68_36, ↓s_68_39, ↓s_68_40, ↓s_68_43, ↓s_68_44, ↓g_68_47, ↓k_68_47, ↓s_68_48, ↓s_68_49, ↓s_68_52, ↓s_68_55, ↓s_68_56, ↓s_68_57, ↓s_68_60, ↓s_68_63, ↓s_68_64, ↓s_68_67, ↓s_68_68, ↓g_68_69, ↓k_68_69, ↓s_68_70, ↓s_68_71, ↓s_68_74, ↓s_68_75, ↓s_68_77, ↓s_68_80, ↓s_68_81, ↓s_68_83, ↓s_68_86, ↓s_68_87, ↓s_68_88, ↓s_68_91, ↓g_68_92, ↓k_68_92, ↓s_68_93, ↓s_68_96, ↓s_68_99, ↓s_68_102, ↓s_68_103, ↓s_68_104, ↓s_68_107, ↓s_68_108, ↓s_68_109, ↓s_68_112, ↓g_68_113, ↓k_68_113, ↓s_68_114, ↓s_68_115_22, ↓s_68_115_48, ↓s_68_118, ↓s_68_119, ↓s_68_120, ↓s_68_123, ↓s_68_126, ↓s_68_127, ↓s_68_128, ↓s_68_129, ↓s_68_132, ↓s_68_135, ↓s_68_138, ↓s_68_139, ↓s_68_142, ↓s_68_143, w32c_32, w32c_33, w32c_39, w32c_9999, ↓s_62_0, ↓s_62_1_22, ↓s_62_1_48, ↓s_62_4, ↓s_62_5_22, ↓s_62_5_48, ↓s_62_8, ↓s_62_9, ↓s_62_12, ↓s_62_13_22, ↓s_62_13_48, ↓s_62_16, ↓s_62_17_22, ↓s_62_17_48, ↓s_62_20, ↓s_62_21, ↓s_62_22, ↓s_62_23a, ↓s_62_23b, ↓s_62_24_22, ↓s_62_24_48, ↓s_62_27, ↓s_62_28, ↓s_62_29_22, ↓s_62_29_48, ↓s_62_32, ↓s_62_33, ↓s_62_34, ↓s_62_37, ↓s_62_38a, ↓s_62_38b, ↓s_62_39_22, ↓s_62_39_48, ↓s_62_42, ↓s_62_43, ↓s_62_44_22, ↓s_62_44_48, ↓s_62_47, ↓s_62_48, ↓s_63_0, ↓s_63_1_22, ↓s_63_1_48, ↓s_63_4, ↓s_63_6, ↓s_63_9, ↓s_63_10, ↓s_63_11, ↓s_63_14, ↓s_63_15, ↓s_63_16a, ↓s_63_16b, ↓s_63_17_22, ↓s_63_17_48, ↓s_63_20, ↓s_63_21, ↓s_63_22_22, ↓s_63_22_48, ↓s_63_25, ↓s_63_26, w32c_64, ↓s_66_0, ↓s_66_1_22, ↓s_66_1_48, ↓s_66_4, ↓s_66_6, ↓s_66_9, ↓s_66_10_22, ↓s_66_10_48, ↓s_66_13, ↓s_66_14_22, ↓s_66_14_48, ↓s_66_17, ↓s_66_18, ↓s_66_19, ↓s_66_20_22, ↓s_66_20_48, ↓s_66_23, ↓s_66_24_22, ↓s_66_24_48, ↓s_66_27, ↓s_66_28, ↓s_66_29, ↓s_66_30a, ↓s_66_30b, ↓s_66_31_22, ↓s_66_31_48, ↓s_66_34, ↓s_66_35, ↓s_66_36_22, ↓s_66_36_48, ↓s_66_39, ↓s_66_40, ↓s_72_0, ↓s_72_1_22, ↓s_72_1_48, ↓s_72_4, ↓s_72_7, ↓s_72_8, ↓s_72_11, ↓s_72_12_22, ↓s_72_12_48, ↓s_72_15, ↓s_72_16_22, ↓s_72_16_48, ↓s_72_19, ↓s_72_20, ↓s_72_21, ↓s_72_22, ↓s_72_25, ↓s_123_0, ↓s_123_1, ↓s_123_4, ↓s_123_7, ↓s_123_8, ↓s_123_9, ↓s_123_12, ↓s_123_13, ↓s_123_14, ↓s_123_17, ↓s_123_20, ↓s_123_21, ↓s_123_22, ↓s_123_25, ↓s_123_26, zio_48, zar_49, zia_49, zln_49, zit_49, zar_50, zia_50, zln_50, zit_50, zar_53, zia_53, zln_53, zit_53, zio_22, zar_23, zia_23, zln_23, zit_23, zio_55, zar_24, zia_24, zln_24, zit_24, zar_27, zia_27, zln_27, zit_27]
  rw [hK]
  have A : ¬ ((sHd l).1 = 32 ∧ sTp w ≤ 3) → zG E (d + 3) xm_68 69 [some (1, 48), some (1, 55), some (0, K)] [] m Q := fun h2 => gv69 hE F0 T C hK h5 h2 hf hg
  have B : ((sHd l).1 = 32 ∧ sTp w ≤ 3) → zG E (d + 3) xm_68 47 [some (1, 48), some (1, 55), some (0, K)] [] m Q := fun h2 => gv47 hE F0 T C hK h2 h9 hf hg
  refine ⟨fun h => A (fun q => h (by have := q.1; omega)), fun h => ?_⟩
  have a1 := C.1.1
  have a7 := C.2.2.2
  cases w with
  | nil =>
    have a1' : w32 (m 48 6) = 0 := a1
    exact ⟨fun q => absurd a1' q, fun _ => B ⟨by omega, by decide⟩⟩
  | cons k w =>
    have hlen : (k :: w).length = w.length + 1 := rfl
    rw [hlen] at a1 hno
    have e1 : w32 (m 48 6 - 1) = (w.length : Int) := by rw [w32_sb (by rw [w32c_1]; omega) (by rw [w32c_1]; omega), w32c_1]; omega
    have e1t : (w32 (m 48 6 - 1)).toNat = w.length := by rw [e1]; exact Int.toNat_natCast _
    refine ⟨fun _ => ⟨⟨by omega, by omega⟩, ?_⟩, fun q => absurd q (by omega)⟩
    rw [e1t]
    refine g_levelOf hE (by omega) C.1.2.1 (fun x hx => ?_)
    refine zgk_s hE xmo_72 60 [] ?_
    simp only [ynok_30, ynok_31, w32c_0, w32c_1, w32c_2, w32c_3, w32c_4, w32c_5, w32c_6, w32c_7, w32c_8, w32c_9, w32c_10, w32c_11, w32c_12, w32c_13, w32c_14, w32c_m1, w32c_m2, w32c_118, Int.reduceAdd, Int.reduceSub, Int.reduceMul, yput_s, yput_n, znl_n, znl_0, znl_1, znl_4, ysum_n, ysum_0, ysum_1, ysum_4, true_and, and_true, Nat.reduceAdd, Nat.reduceLeDiff, true_implies, eq_self, true_or, or_true, or_false, false_or, not_true_eq_false, not_false_eq_true, false_implies, implies_true, yset_s, yset_o, yset_d, ne_eq, Nat.reduceEqDiff, Int.reduceToNat, Int.reduceEq, Int.reduceLE, Int.reduceLT, Classical.not_not, Nat.reduceLT, ↓zvk_s, ↓zvk_n, ↓s_68_0, ↓s_68_1, ↓s_68_4n, ↓s_68_4i, ↓s_68_4p, ↓s_68_5, ↓s_68_6, ↓s_68_7, ↓s_68_10, ↓s_68_11_22, ↓s_68_11_48, ↓s_68_14, ↓s_68_16, ↓s_68_19, ↓s_68_20, ↓s_68_21, ↓s_68_24, ↓s_68_27, ↓s_68_28, ↓s_68_29, ↓s_68_32, ↓g_68_33, ↓k_68_33, ↓s_68_34, ↓s_68_36, ↓s_68_39, ↓s_68_40, ↓s_68_43, ↓s_68_44, ↓g_68_47, ↓k_68_47, ↓s_68_48, ↓s_68_49, ↓s_68_52, ↓s_68_55, ↓s_68_56, ↓s_68_57, ↓s_68_60, ↓s_68_63, ↓s_68_64, ↓s_68_67, ↓s_68_68, ↓g_68_69, ↓k_68_69, ↓s_68_70, ↓s_68_71, ↓s_68_74, ↓s_68_75, ↓s_68_77, ↓s_68_80, ↓s_68_81, ↓s_68_83, ↓s_68_86, ↓s_68_87, ↓s_68_88, ↓s_68_91, ↓g_68_92, ↓k_68_92, ↓s_68_93, ↓s_68_96, ↓s_68_99, ↓s_68_102, ↓s_68_103, ↓s_68_104, ↓s_68_107, ↓s_68_108, ↓s_68_109, ↓s_68_112, ↓g_68_113, ↓k_68_113, ↓s_68_114, ↓s_68_115_22, ↓s_68_115_48, ↓s_68_118, ↓s_68_119, ↓s_68_120, ↓s_68_123, ↓s_68_126, ↓s_68_127, ↓s_68_128, ↓s_68_129, ↓s_68_132, ↓s_68_135, ↓s_68_138, ↓s_68_139, ↓s_68_142, ↓s_68_143, w32c_32, w32c_33, w32c_39, w32c_9999, ↓s_62_0, ↓s_62_1_22, ↓s_62_1_48, ↓s_62_4, ↓s_62_5_22, ↓s_62_5_48, ↓s_62_8, ↓s_62_9, ↓s_62_12, ↓s_62_13_22, ↓s_62_13_48, ↓s_62_16, ↓s_62_17_22, ↓s_62_17_48, ↓s_62_20, ↓s_62_21, ↓s_62_22, ↓s_62_23a, ↓s_62_23b, ↓s_62_24_22, ↓s_62_24_48, ↓s_62_27, ↓s_62_28, ↓s_62_29_22, ↓s_62_29_48, ↓s_62_32, ↓s_62_33, ↓s_62_34, ↓s_62_37, ↓s_62_38a, ↓s_62_38b, ↓s_62_39_22, ↓s_62_39_48, ↓s_62_42, ↓s_62_43, ↓s_62_44_22, ↓s_62_44_48, ↓s_62_47, ↓s_62_48, ↓s_63_0, ↓s_63_1_22, ↓s_63_1_48, ↓s_63_4, ↓s_63_6, ↓s_63_9, ↓s_63_10, ↓s_63_11, ↓s_63_14, ↓s_63_15, ↓s_63_16a, ↓s_63_16b, ↓s_63_17_22, ↓s_63_17_48, ↓s_63_20, ↓s_63_21, ↓s_63_22_22, ↓s_63_22_48, ↓s_63_25, ↓s_63_26, w32c_64, ↓s_66_0, ↓s_66_1_22, ↓s_66_1_48, ↓s_66_4, ↓s_66_6, ↓s_66_9, ↓s_66_10_22, ↓s_66_10_48, ↓s_66_13, ↓s_66_14_22, ↓s_66_14_48, ↓s_66_17, ↓s_66_18, ↓s_66_19, ↓s_66_20_22, ↓s_66_20_48, ↓s_66_23, ↓s_66_24_22, ↓s_66_24_48, ↓s_66_27, ↓s_66_28, ↓s_66_29, ↓s_66_30a, ↓s_66_30b, ↓s_66_31_22, ↓s_66_31_48, ↓s_66_34, ↓s_66_35, ↓s_66_36_22, ↓s_66_36_48, ↓s_66_39, ↓s_66_40, ↓s_72_0, ↓s_72_1_22, ↓s_72_1_48, ↓s_72_4, ↓s_72_7, ↓s_72_8, ↓s_72_11, ↓s_72_12_22, ↓s_72_12_48, ↓s_72_15, ↓s_72_16_22, ↓s_72_16_48, ↓s_72_19, ↓s_72_20, ↓s_72_21, ↓s_72_22, ↓s_72_25, ↓s_123_0, ↓s_123_1, ↓s_123_4, ↓s_123_7, ↓s_123_8, ↓s_123_9, ↓s_123_12, ↓s_123_13, ↓s_123_14, ↓s_123_17, ↓s_123_20, ↓s_123_21, ↓s_123_22, ↓s_123_25, ↓s_123_26, zio_48, zar_49, zia_49, zln_49, zit_49, zar_50, zia_50, zln_50, zit_50, zar_53, zia_53, zln_53, zit_53, zio_22, zar_23, zia_23, zln_23, zit_23, zio_55, zar_24, zia_24, zln_24, zit_24, zar_27, zia_27, zln_27, zit_27]
    rw [hx]
    rw [sTp_cons] at A B
    exact ⟨fun q => A (by omega), fun q => B (by omega)⟩
theorem g_readValue (hE : yEok E) {D : Nat} (hD : 4 ≤ D) (T : cTk ch n b (.inr l)) (C : cFo b w cn op o) (h9 : w32 (b 48 9) = 1) (hf : hFa ch n Q b true w (l, cn, op, o)) (hg : hGo ch n Q b true w (l, cn, op, o)) : yCon E D xm_68 [(1, 48), (1, 55)] b Q := by
  obtain ⟨d, rfl⟩ := Nat.exists_eq_add_of_le' hD
  have hK : w32 (b 55 4) = ((sHd l).1 : Int) := cTk_kd T
  have e72 : w32 ((72 : Nat) : Int) = 72 := by decide
  have hno := sNO w
  refine e_68 ?_
  refine zvc_ok hE 60 zc_68 _ _ _ _ _ _ _ xmo_68 ?_
  simp only [ynok_30, ynok_31, w32c_0, w32c_1, w32c_2, w32c_3, w32c_4, w32c_5, w32c_6, w32c_7, w32c_8, w32c_9, w32c_10, w32c_11, w32c_12, w32c_13, w32c_14, w32c_m1, w32c_m2, w32c_118, Int.reduceAdd, Int.reduceSub, Int.reduceMul, yput_s, yput_n, znl_n, znl_0, znl_1, znl_4, ysum_n, ysum_0, ysum_1, ysum_4, true_and, and_true, Nat.reduceAdd, Nat.reduceLeDiff, true_implies, eq_self, true_or, or_true, or_false, false_or, not_true_eq_false, not_false_eq_true, false_implies, implies_true, yset_s, yset_o, yset_d, ne_eq, Nat.reduceEqDiff, Int.reduceToNat, Int.reduceEq, Int.reduceLE, Int.reduceLT, Classical.not_not, Nat.reduceLT, ↓zvk_s, ↓zvk_n, ↓s_68_0, ↓s_68_1, ↓s_68_4n, ↓s_68_4i, ↓s_68_4p, ↓s_68_5, ↓s_68_6, ↓s_68_7, ↓s_68_10, ↓s_68_11_22, ↓s_68_11_48, ↓s_68_14, ↓s_68_16, ↓s_68_19, ↓s_68_20, ↓s_68_21, ↓s_68_24, ↓s_68_27, ↓s_68_28, ↓s_68_29, ↓s_68_32, ↓g_68_33, ↓k_68_33, ↓s_68_34, ↓s_68_36, ↓s_68_39, ↓s_68_40, ↓s_68_43, ↓s_68_44, ↓g_68_47, ↓k_68_47, ↓s_68_48, ↓s_68_49, ↓s_68_52, ↓s_68_55, ↓s_68_56, ↓s_68_57, ↓s_68_60, ↓s_68_63, ↓s_68_64, ↓s_68_67, ↓s_68_68, ↓g_68_69, ↓k_68_69, ↓s_68_70, ↓s_68_71, ↓s_68_74, ↓s_68_75, ↓s_68_77, ↓s_68_80, ↓s_68_81, ↓s_68_83, ↓s_68_86, ↓s_68_87, ↓s_68_88, ↓s_68_91, ↓g_68_92, ↓k_68_92, ↓s_68_93, ↓s_68_96, ↓s_68_99, ↓s_68_102, ↓s_68_103, ↓s_68_104, ↓s_68_107, ↓s_68_108, ↓s_68_109, ↓s_68_112, ↓g_68_113, ↓k_68_113, ↓s_68_114, ↓s_68_115_22, ↓s_68_115_48, ↓s_68_118, ↓s_68_119, ↓s_68_120, ↓s_68_123, ↓s_68_126, ↓s_68_127, ↓s_68_128, ↓s_68_129, ↓s_68_132, ↓s_68_135, ↓s_68_138, ↓s_68_139, ↓s_68_142, ↓s_68_143, w32c_32, w32c_33, w32c_39, w32c_9999, ↓s_62_0, ↓s_62_1_22, ↓s_62_1_48, ↓s_62_4, ↓s_62_5_22, ↓s_62_5_48, ↓s_62_8, ↓s_62_9, ↓s_62_12, ↓s_62_13_22, ↓s_62_13_48, ↓s_62_16, ↓s_62_17_22, ↓s_62_17_48, ↓s_62_20, ↓s_62_21, ↓s_62_22, ↓s_62_23a, ↓s_62_23b, ↓s_62_24_22, ↓s_62_24_48, ↓s_62_27, ↓s_62_28, ↓s_62_29_22, ↓s_62_29_48, ↓s_62_32, ↓s_62_33, ↓s_62_34, ↓s_62_37, ↓s_62_38a, ↓s_62_38b, ↓s_62_39_22, ↓s_62_39_48, ↓s_62_42, ↓s_62_43, ↓s_62_44_22, ↓s_62_44_48, ↓s_62_47, ↓s_62_48, ↓s_63_0, ↓s_63_1_22, ↓s_63_1_48, ↓s_63_4, ↓s_63_6, ↓s_63_9, ↓s_63_10, ↓s_63_11, ↓s_63_14, ↓s_63_15, ↓s_63_16a, ↓s_63_16b, ↓s_63_17_22, ↓s_63_17_48, ↓s_63_20, ↓s_63_21, ↓s_63_22_22, ↓s_63_22_48, ↓s_63_25, ↓s_63_26, w32c_64, ↓s_66_0, ↓s_66_1_22, ↓s_66_1_48, ↓s_66_4, ↓s_66_6, ↓s_66_9, ↓s_66_10_22, ↓s_66_10_48, ↓s_66_13, ↓s_66_14_22, ↓s_66_14_48, ↓s_66_17, ↓s_66_18, ↓s_66_19, ↓s_66_20_22, ↓s_66_20_48, ↓s_66_23, ↓s_66_24_22, ↓s_66_24_48, ↓s_66_27, ↓s_66_28, ↓s_66_29, ↓s_66_30a, ↓s_66_30b, ↓s_66_31_22, ↓s_66_31_48, ↓s_66_34, ↓s_66_35, ↓s_66_36_22, ↓s_66_36_48, ↓s_66_39, ↓s_66_40, ↓s_72_0, ↓s_72_1_22, ↓s_72_1_48, ↓s_72_4, ↓s_72_7, ↓s_72_8, ↓s_72_11, ↓s_72_12_22, ↓s_72_12_48, ↓s_72_15, ↓s_72_16_22, ↓s_72_16_48, ↓s_72_19, ↓s_72_20, ↓s_72_21, ↓s_72_22, ↓s_72_25, ↓s_123_0, ↓s_123_1, ↓s_123_4, ↓s_123_7, ↓s_123_8, ↓s_123_9, ↓s_123_12, ↓s_123_13, ↓s_123_14, ↓s_123_17, ↓s_123_20, ↓s_123_21, ↓s_123_22, ↓s_123_25, ↓s_123_26, zio_48, zar_49, zia_49, zln_49, zit_49, zar_50, zia_50, zln_50, zit_50, zar_53, zia_53, zln_53, zit_53, zio_22, zar_23, zia_23, zln_23, zit_23, zio_55, zar_24, zia_24, zln_24, zit_24, zar_27, zia_27, zln_27, zit_27]
  have B : (sHd l).1 = 5 → ¬ op < 8 → (¬ w32 (b 55 7) = 0 → Q (some (0, 0)) (yset b 55 4 0)) ∧ (w32 (b 55 7) = 0 → Q (some (0, 0)) (yset (yset (yset b 55 7 2) 55 8 (b 55 5)) 55 4 0)) := fun h5 h2 => hFa_fl (f := 2) (F := 2) hf aFrm_rf T ⟨_, _, _, _, C⟩ (fun N => by
    simp only [sy]
    rw [if_pos h5, if_pos (show op = 8 by have := C.2.2.2; omega)]) (by decide) (by decide)
  have A := fun h5 => gv33 (d := d) (K := b 55 4) hE aFrm_rf T C hK h5 h9 hf hg
  have C' := C
  obtain ⟨⟨a1, a2⟩, ⟨a3, a4⟩, ⟨a5, a6⟩, a7, a8, a9, a10⟩ := C
  have h6t : (w32 (b 48 6)).toNat = w.length := by rw [a1]; exact Int.toNat_natCast _
  rw [h6t, a1, a4, hK, e72]
  refine ⟨fun h => A (by omega), fun h5 => ⟨fun h8 => B (by omega) (by omega), fun h8 => ⟨fun q => absurd q (by omega), fun _ => ⟨⟨by omega, by omega⟩, fun q => absurd h5 q, fun _ => ?_⟩⟩⟩⟩
  refine hg true (5 :: w) cn (op + 1) o _ (aFrm_set (aFrm_set (aFrm_set aFrm_rf rfl) rfl) rfl) (cTk_of T (fun j => by rw [yset_o (by decide), yset_o (by decide), yset_o (by decide)]) (fun j => by rw [yset_o (by decide), yset_o (by decide), yset_o (by decide)]) (fun j => by rw [yset_o (by decide), yset_o (by decide), yset_o (by decide)])) (cFo_open C' (by omega) (by rw [hK]; exact h5)) ?_ (by show (sHd l).1 ≠ 0; omega) (fun N => ?_)
  · rw [yset_d (by decide), yset_d (by decide), yset_o (by decide)]
    exact h9
  · simp only [sy]
    rw [if_pos (show (sHd l).1 = 5 by omega), if_neg (show ¬ op = 8 by omega)]
end CQ
end
section
/-- an E ends ahead of what stands there -/
def hEn (ch : Nat → Int) (n : Nat) (Q : Option yV → yMem → Prop) (b : yMem) (w : List Nat) (u : sU) : Prop := ∀ m', aFrm fvW b m' → cTk ch n m' (.inr u.1) → cFo m' w u.2.1 u.2.2.1 u.2.2.2 → (∀ N, sy (N + 1) false w u = .inr (u.1, u.2.1, u.2.2.1, (sSt 1 w u.2.2.2).2)) → Q (some (0, 0)) m'
theorem se_fv {a b : yMem} (h : aFrm seW a b) : aFrm fvW a b := aFrm_w h (by decide)
theorem cTk_se {ch : Nat → Int} {n : Nat} {a b : yMem} {x : sY} (h : cTk ch n a x) (hF : aFrm seW a b) : cTk ch n b x := cTk_of h (fun j => hF 55 j rfl) (fun j => hF 1 j rfl) (fun j => hF 56 j rfl)
theorem cFo_close {m : yMem} {w : List Nat} {cn op : Nat} {o : sK} (C : cFo m w cn op o) (h0 : 0 < op) (hw : ∀ k r, w = k :: r → sLv k < 1) : cFo (yset (yset m 48 6 (m 48 6 - 1)) 48 7 (m 48 7 - 1)) w.tail cn (op - 1) o := by
  have hno := sNO w
  obtain ⟨⟨a1, a2⟩, ⟨a3, a4⟩, ⟨a5, a6⟩, a7, a8, a9, a10⟩ := C
  cases w with
  | nil =>
    have : sOs [] = 0 := rfl
    omega
  | cons k r =>
    have hk : k = 5 := by
      have h1 := hw k r rfl
      rcases a2.2.2 with h2 | h2
      · exact h2
      · omega
    subst hk
    have n1 : sNs (5 :: r) = sNs r := rfl
    have o1 : sOs (5 :: r) = sOs r + 1 := rfl
    have hlen : (5 :: r).length = r.length + 1 := rfl
    rw [hlen] at a1 hno
    have e6 : w32 (m 48 6 - 1) = w32 (m 48 6) - 1 := by rw [w32_sb (by rw [w32c_1]; omega) (by rw [w32c_1]; omega), w32c_1]
    have e7 : w32 (m 48 7 - 1) = w32 (m 48 7) - 1 := by rw [w32_sb (by rw [w32c_1]; omega) (by rw [w32c_1]; omega), w32c_1]
    refine ⟨⟨?_, cWt_eq a2.2.1 (fun j _ => by rw [yset_o (by decide), yset_o (by decide)])⟩, ⟨?_, ?_⟩, ⟨?_, cKs_eq a6 (fun j _ => by rw [yset_o (by decide), yset_o (by decide)]) (fun j _ => by rw [yset_o (by decide), yset_o (by decide)])⟩, by show o.length + sNs r ≤ cn; omega, a8, by omega, by show sOs r = op - 1; omega⟩
    · rw [yset_d (by decide), yset_s, e6, a1]
      show _ = (r.length : Int)
      omega
    · rw [yset_d (by decide), yset_d (by decide)]; exact a3
    · rw [yset_s, e7, a4]; omega
    · rw [yset_d (by decide), yset_d (by decide)]; exact a5
theorem sSt_top {L : Nat} (hL : 1 ≤ L) : ∀ (w : List Nat) (o : sK), ∀ k r, (sSt L w o).1 = k :: r → sLv k < L
  | [], o, k, r, h => by cases h
  | q :: w, o, k, r, h => by
    revert h
    show (if _ then _ else _ : List Nat × sK).1 = _ → _
    split
    · intro h
      exact sSt_top hL w _ k r h
    · intro h
      injection h with h1 h2
      subst h1
      omega
section CR
variable {E : yE} {b m : yMem} {Q : Option yV → yMem → Prop} {ch : Nat → Int} {n : Nat} {l : List sT} {w w1 : List Nat} {cn op d : Nat} {o o1 : sK} {K G : Int}
theorem gs113 (hE : yEok E) (F0 : aFrm fvW b m) (T : cTk ch n m (.inr l)) (C : cFo m w1 cn op o1) (hK : w32 K = ((sHd l).1 : Int)) (h5 : ¬ (sHd l).1 = 5) (hn0 : (sHd l).1 ≠ 0) (hlv : sLv (sHd l).1 ≠ 0) (es : ∀ N, sy (N + 1) false w (l, cn, op, o) = sKn (sHd l).2.1 (l, cn, op, o1) (fun u => sy N true ((sHd l).1 :: w1) (u.1.tail, u.2))) (hf : hFa ch n Q b false w (l, cn, op, o)) (hg : hGo ch n Q b false w (l, cn, op, o)) : zG E (d + 3) xm_67 113 [some (1, 48), some (1, 55), some (0, K), some (0, G)] [] m Q := by
  have e72 : w32 ((72 : Nat) : Int) = 72 := by decide
  have hno := sNO w1
  refine zgo_ok (n := 80) hE xmo_67 (cs := zc_67) ?_
  simp only [ynok_30, ynok_31, w32c_0, w32c_1, w32c_2, w32c_3, w32c_4, w32c_5, w32c_6, w32c_7, w32c_8, w32c_9, w32c_10, w32c_11, w32c_12, w32c_13, w32c_14, w32c_m1, w32c_m2, w32c_118, Int.reduceAdd, Int.reduceSub, Int.reduceMul, yput_s, yput_n, znl_n, znl_0, znl_1, znl_4, ysum_n, ysum_0, ysum_1, ysum_4, true_and, and_true, Nat.reduceAdd, Nat.reduceLeDiff, true_implies, eq_self, true_or, or_true, or_false, false_or, not_true_eq_false, not_false_eq_true, false_implies, implies_true, yset_s, yset_o, yset_d, ne_eq, Nat.reduceEqDiff, Int.reduceToNat, Int.reduceEq, Int.reduceLE, Int.reduceLT, Classical.not_not, Nat.reduceLT, ↓zvk_s, ↓zvk_n, ↓s_67_0, ↓s_67_1, ↓s_67_4n, ↓s_67_4i, ↓s_67_4p, ↓s_67_5, ↓s_67_6, ↓s_67_8, ↓s_67_11, ↓s_67_12_22, ↓s_67_12_48, ↓s_67_15, ↓s_67_18, ↓s_67_19, ↓s_67_20, ↓s_67_23, ↓s_67_24a, ↓s_67_24b, ↓s_67_25_22, ↓s_67_25_48, ↓s_67_28, ↓s_67_29, ↓s_67_30_22, ↓s_67_30_48, ↓s_67_33, ↓s_67_34a, ↓s_67_34b, ↓s_67_35_22, ↓s_67_35_48, ↓s_67_38, ↓s_67_39, ↓s_67_40_22, ↓s_67_40_48, ↓s_67_43, ↓s_67_44, ↓g_67_45, ↓k_67_45, ↓s_67_46, ↓s_67_49n, ↓s_67_49i, ↓s_67_49p, ↓s_67_50, ↓s_67_51, ↓s_67_54, ↓s_67_55, ↓s_67_56, ↓s_67_59, ↓s_67_60_22, ↓s_67_60_48, ↓s_67_63, ↓s_67_66, ↓s_67_67, ↓s_67_68, ↓s_67_71, ↓s_67_74, ↓s_67_75, ↓s_67_78, ↓s_67_79, ↓g_67_80, ↓k_67_80, ↓s_67_81, ↓s_67_82, ↓s_67_83, ↓s_67_86, ↓s_67_87, ↓s_67_90, ↓s_67_91, ↓g_67_94, ↓k_67_94, ↓s_67_95, ↓s_67_96, ↓s_67_99, ↓s_67_100, ↓s_67_103, ↓s_67_104, ↓s_67_107, ↓s_67_108, ↓s_67_109, ↓s_67_112, ↓g_67_113, ↓k_67_113, ↓s_67_114, ↓s_67_115_22, ↓s_67_115_48, ↓s_67_118, ↓s_67_119, ↓s_67_120, ↓s_67_123, ↓s_67_126, ↓s_67_127, ↓s_67_128, ↓s_67_131, ↓s_67_134, ↓s_67_135, ↓s_67_138, ↓s_67_139, ↓s_62_0, ↓s_62_1_22, ↓s_62_1_48, ↓s_62_4, ↓s_62_5_22, ↓s_62_5_48, ↓s_62_8, ↓s_62_9, ↓s_62_12, ↓s_62_13_22, ↓s_62_13_48, ↓s_62_16, ↓s_62_17_22, ↓s_62_17_48, ↓s_62_20, ↓s_62_21, ↓s_62_22, ↓s_62_23a, ↓s_62_23b, ↓s_62_24_22, ↓s_62_24_48, ↓s_62_27, ↓s_62_28, ↓s_62_29_22, ↓s_62_29_48, ↓s_62_32, ↓s_62_33, ↓s_62_34, ↓s_62_37, ↓s_62_38a, ↓s_62_38b, ↓s_62_39_22, ↓s_62_39_48, ↓s_62_42, ↓s_62_43, ↓s_62_44_22, ↓s_62_44_48, ↓s_62_47, ↓s_62_48, ↓s_63_0, ↓s_63_1_22, ↓s_63_1_48, ↓s_63_4, ↓s_63_6, ↓s_63_9, ↓s_63_10, ↓s_63_11, ↓s_63_14, ↓s_63_15, ↓s_63_16a, ↓s_63_16b, ↓s_63_17_22, ↓s_63_17_48, ↓s_63_20, ↓s_63_21, ↓s_63_22_22, ↓s_63_22_48, ↓s_63_25, ↓s_63_26, w32c_64, ↓s_72_0, ↓s_72_1_22, ↓s_72_1_48, ↓s_72_4, ↓s_72_7, ↓s_72_8, ↓s_72_11, ↓s_72_12_22, ↓s_72_12_48, ↓s_72_15, ↓s_72_16_22, ↓s_72_16_48, ↓s_72_19, ↓s_72_20, ↓s_72_21, ↓s_72_22, ↓s_72_25, ↓s_123_0, ↓s_123_1, ↓s_123_4, ↓s_123_7, ↓s_123_8, ↓s_123_9, ↓s_123_12, ↓s_123_13, ↓s_123_14, ↓s_123_17, ↓s_123_20, ↓s_123_21, ↓s_123_22, ↓s_123_25, ↓s_123_26, zio_48, zar_53, zia_53, zln_53, zit_53, zio_22, zio_55, zar_27, zia_27, zln_27, zit_27]
  have C9 : cFo (yset m 48 9 1) w1 cn op o1 := cFo_of C (fun j hj => yset_d hj) (fun j => yset_o (by decide)) (fun j => yset_o (by decide)) (fun j => yset_o (by decide))
  have T9 : cTk ch n (yset m 48 9 1) (.inr l) := cTk_of T (fun j => yset_o (by decide)) (fun j => yset_o (by decide)) (fun j => yset_o (by decide))
  have F9 : aFrm fvW b (yset m 48 9 1) := aFrm_set F0 rfl
  have e57 : yset m 48 9 1 55 7 = m 55 7 := yset_o (by decide)
  have e55 : yset m 48 9 1 55 5 = m 55 5 := yset_o (by decide)
  have B : ¬ cn < 64 → (¬ w32 (m 55 7) = 0 → Q (some (0, 0)) (yset (yset m 48 9 1) 55 4 0)) ∧ (w32 (m 55 7) = 0 → Q (some (0, 0)) (yset (yset (yset (yset m 48 9 1) 55 7 2) 55 8 (m 55 5)) 55 4 0)) := fun h2 => by
    have := hFa_fl (f := 2) (F := 2) hf F9 T9 ⟨_, _, _, _, C9⟩ (fun N => by rw [es N]; unfold sKn; rw [if_pos (show cn = 64 by have := C.2.2.2; omega)]) (by decide) (by decide)
    rw [e57, e55] at this
    exact this
  obtain ⟨⟨a1, a2⟩, ⟨a3, a4⟩, ⟨a5, a6⟩, a7, a8, a9, a10⟩ := C
  have h6t : (w32 (m 48 6)).toNat = w1.length := by rw [a1]; exact Int.toNat_natCast _
  rw [h6t, a3, a1, hK, e72]
  refine ⟨fun hc => ⟨fun h => absurd h (by omega), fun _ => ⟨⟨by omega, by omega⟩, fun _ => ?_, fun h => absurd h (by omega)⟩⟩, fun hc => B (by omega)⟩
  have e8 : yset m 48 9 1 48 8 = m 48 8 := yset_d (by decide)
  have e6 : yset m 48 9 1 48 6 = m 48 6 := yset_d (by decide)
  have CH := cFo_hold C9 (by omega) hK h5 hlv
  rw [e8, e6] at CH
  refine hg true ((sHd l).1 :: w1) (cn + 1) op o1 _ (aFrm_set (aFrm_set (aFrm_set F9 rfl) rfl) rfl) (cTk_of T9 (fun j => by rw [yset_o (by decide), yset_o (by decide), yset_o (by decide)]) (fun j => by rw [yset_o (by decide), yset_o (by decide), yset_o (by decide)]) (fun j => by rw [yset_o (by decide), yset_o (by decide), yset_o (by decide)])) CH ?_ hn0 (fun N => ?_)
  · rw [yset_d (by decide), yset_o (by decide), yset_d (by decide), yset_s]
    exact w32c_1
  · rw [es N]
    unfold sKn
    rw [if_neg (show ¬ cn = 64 by omega)]
theorem gs94 (hE : yEok E) (F0 : aFrm fvW b m) (T : cTk ch n m (.inr l)) (C : cFo m w1 cn op o1) (hK : w32 K = ((sHd l).1 : Int)) (hG : w32 G = (sLv (sHd l).1 : Int)) (h5 : ¬ (sHd l).1 = 5) (hn0 : (sHd l).1 ≠ 0) (hlv : sLv (sHd l).1 ≠ 0) (es : ¬ (sLv (sHd l).1 = 4 ∧ sTp w1 = 4) → ∀ N, sy (N + 1) false w (l, cn, op, o) = sKn (sHd l).2.1 (l, cn, op, o1) (fun u => sy N true ((sHd l).1 :: w1) (u.1.tail, u.2))) (ef : sLv (sHd l).1 = 4 → sTp w1 = 4 → ∀ N, sy (N + 1) false w (l, cn, op, o) = .inl (1, (sHd l).2.1)) (hf : hFa ch n Q b false w (l, cn, op, o)) (hg : hGo ch n Q b false w (l, cn, op, o)) : zG E (d + 3) xm_67 94 [some (1, 48), some (1, 55), some (0, K), some (0, G)] [] m Q := by
  have hno := sNO w1
  have A : ¬ (sLv (sHd l).1 = 4 ∧ sTp w1 = 4) → zG E (d + 3) xm_67 113 [some (1, 48), some (1, 55), some (0, K), some (0, G)] [] m Q := fun h => gs113 hE F0 T C hK h5 hn0 hlv (es h) hf hg
  have B : sLv (sHd l).1 = 4 → sTp w1 = 4 → (¬ w32 (m 55 7) = 0 → Q (some (0, 0)) (yset m 55 4 0)) ∧ (w32 (m 55 7) = 0 → Q (some (0, 0)) (yset (yset (yset m 55 7 1) 55 8 (m 55 5)) 55 4 0)) := fun h1 h2 => hFa_fl (f := 1) (F := 1) hf F0 T ⟨_, _, _, _, C⟩ (ef h1 h2) (by decide) (by decide)
  refine zgo_ok (n := 80) hE xmo_67 (cs := zc_67) ?_
  simp only [ynok_30, ynok_31, w32c_0, w32c_1, w32c_2, w32c_3, w32c_4, w32c_5, w32c_6, w32c_7, w32c_8, w32c_9, w32c_10, w32c_11, w32c_12, w32c_13, w32c_14, w32c_m1, w32c_m2, w32c_118, Int.reduceAdd, Int.reduceSub, Int.reduceMul, yput_s, yput_n, znl_n, znl_0, znl_1, znl_4, ysum_n, ysum_0, ysum_1, ysum_4, true_and, and_true, Nat.reduceAdd, Nat.reduceLeDiff, true_implies, eq_self, true_or, or_true, or_false, false_or, not_true_eq_false, not_false_eq_true, false_implies, implies_true, yset_s, yset_o, yset_d, ne_eq, Nat.reduceEqDiff, Int.reduceToNat, Int.reduceEq, Int.reduceLE, Int.reduceLT, Classical.not_not, Nat.reduceLT, ↓zvk_s, ↓zvk_n, ↓s_67_0, ↓s_67_1, ↓s_67_4n, ↓s_67_4i, ↓s_67_4p, ↓s_67_5, ↓s_67_6, ↓s_67_8, ↓s_67_11, ↓s_67_12_22, ↓s_67_12_48, ↓s_67_15, ↓s_67_18, ↓s_67_19, ↓s_67_20, ↓s_67_23, ↓s_67_24a, ↓s_67_24b, ↓s_67_25_22, ↓s_67_25_48, ↓s_67_28, ↓s_67_29, ↓s_67_30_22, ↓s_67_30_48, ↓s_67_33, ↓s_67_34a, ↓s_67_34b, ↓s_67_35_22, ↓s_67_35_48, ↓s_67_38, ↓s_67_39, ↓s_67_40_22, ↓s_67_40_48, ↓s_67_43, ↓s_67_44, ↓g_67_45, ↓k_67_45, ↓s_67_46, ↓s_67_49n, ↓s_67_49i, ↓s_67_49p, ↓s_67_50, ↓s_67_51, ↓s_67_54, ↓s_67_55, ↓s_67_56, ↓s_67_59, ↓s_67_60_22, ↓s_67_60_48, ↓s_67_63, ↓s_67_66, ↓s_67_67, ↓s_67_68, ↓s_67_71, ↓s_67_74, ↓s_67_75, ↓s_67_78, ↓s_67_79, ↓g_67_80, ↓k_67_80, ↓s_67_81, ↓s_67_82, ↓s_67_83, ↓s_67_86, ↓s_67_87, ↓s_67_90, ↓s_67_91, ↓g_67_94, ↓k_67_94, ↓s_67_95, ↓s_67_96, ↓s_67_99, ↓s_67_100, ↓s_67_103, ↓s_67_104, ↓s_67_107, ↓s_67_108, ↓s_67_109, ↓s_67_112, ↓g_67_113, ↓k_67_113, ↓s_67_114, ↓s_67_115_22, ↓s_67_115_48, ↓s_67_118, ↓s_67_119, ↓s_67_120, ↓s_67_123, ↓s_67_126, ↓s_67_127, ↓s_67_128, ↓s_67_131, ↓s_67_134, ↓s_67_135, ↓s_67_138, ↓s_67_139, ↓s_62_0, ↓s_62_1_22, ↓s_62_1_48, ↓s_62_4, ↓s_62_5_22, ↓s_62_5_48, ↓s_62_8, ↓s_62_9, ↓s_62_12, ↓s_62_13_22, ↓s_62_13_48, ↓s_62_16, ↓s_62_17_22, ↓s_62_17_48, ↓s_62_20, ↓s_62_21, ↓s_62_22, ↓s_62_23a, ↓s_62_23b, ↓s_62_24_22, ↓s_62_24_48, ↓s_62_27, ↓s_62_28, ↓s_62_29_22, ↓s_62_29_48, ↓s_62_32, ↓s_62_33, ↓s_62_34, ↓s_62_37, ↓s_62_38a, ↓s_62_38b, ↓s_62_39_22, ↓s_62_39_48, ↓s_62_42, ↓s_62_43, ↓s_62_44_22, ↓s_62_44_48, ↓s_62_47, ↓s_62_48, ↓s_63_0, ↓s_63_1_22, ↓s_63_1_48, ↓s_63_4, ↓s_63_6, ↓s_63_9, ↓s_63_10, ↓s_63_11, ↓s_63_14, ↓s_63_15, ↓s_63_16a, ↓s_63_16b, ↓s_63_17_22, ↓s_63_17_48, ↓s_63_20, ↓s_63_21, ↓s_63_22_22, ↓s_63_22_48, ↓s_63_25, ↓s_63_26, w32c_64, ↓s_72_0, ↓s_72_1_22, ↓s_72_1_48, ↓s_72_4, ↓s_72_7, ↓s_72_8, ↓s_72_11, ↓s_72_12_22, ↓s_72_12_48, ↓s_72_15, ↓s_72_16_22, ↓s_72_16_48, ↓s_72_19, ↓s_72_20, ↓s_72_21, ↓s_72_22, ↓s_72_25, ↓s_123_0, ↓s_123_1, ↓s_123_4, ↓s_123_7, ↓s_123_8, ↓s_123_9, ↓s_123_12, ↓s_123_13, ↓s_123_14, ↓s_123_17, ↓s_123_20, ↓s_123_21, ↓s_123_22, ↓s_123_25, ↓s_123_26, zio_48, zar_53, zia_53, zln_53, zit_53, zio_22, zio_55, zar_27, zia_27, zln_27, zit_27]
  rw [hG]
  refine ⟨fun h => A (fun q => h (by have := q.1; omega)), fun h => ?_⟩
  have a1 := C.1.1
  have a7 := C.2.2.2
  cases w1 with
  | nil =>
    have a1' : w32 (m 48 6) = 0 := a1
    refine ⟨fun q => absurd a1' q, fun _ => ?_⟩
    exact A (fun q => absurd q.2 (by decide))
  | cons k w1 =>
    have hlen : (k :: w1).length = w1.length + 1 := rfl
    rw [hlen] at a1 hno
    have e1 : w32 (m 48 6 - 1) = (w1.length : Int) := by rw [w32_sb (by rw [w32c_1]; omega) (by rw [w32c_1]; omega), w32c_1]; omega
    have e1t : (w32 (m 48 6 - 1)).toNat = w1.length := by rw [e1]; exact Int.toNat_natCast _
    refine ⟨fun _ => ⟨⟨by omega, by omega⟩, ?_⟩, fun q => absurd q (by omega)⟩
    rw [e1t]
    refine g_levelOf hE (by omega) C.1.2.1 (fun x hx => ?_)
    refine zgk_s hE xmo_72 60 [] ?_
    simp only [ynok_30, ynok_31, w32c_0, w32c_1, w32c_2, w32c_3, w32c_4, w32c_5, w32c_6, w32c_7, w32c_8, w32c_9, w32c_10, w32c_11, w32c_12, w32c_13, w32c_14, w32c_m1, w32c_m2, w32c_118, Int.reduceAdd, Int.reduceSub, Int.reduceMul, yput_s, yput_n, znl_n, znl_0, znl_1, znl_4, ysum_n, ysum_0, ysum_1, ysum_4, true_and, and_true, Nat.reduceAdd, Nat.reduceLeDiff, true_implies, eq_self, true_or, or_true, or_false, false_or, not_true_eq_false, not_false_eq_true, false_implies, implies_true, yset_s, yset_o, yset_d, ne_eq, Nat.reduceEqDiff, Int.reduceToNat, Int.reduceEq, Int.reduceLE, Int.reduceLT, Classical.not_not, Nat.reduceLT, ↓zvk_s, ↓zvk_n, ↓s_67_0, ↓s_67_1, ↓s_67_4n, ↓s_67_4i, ↓s_67_4p, ↓s_67_5, ↓s_67_6, ↓s_67_8, ↓s_67_11, ↓s_67_12_22, ↓s_67_12_48, ↓s_67_15, ↓s_67_18, ↓s_67_19, ↓s_67_20, ↓s_67_23, ↓s_67_24a, ↓s_67_24b, ↓s_67_25_22, ↓s_67_25_48, ↓s_67_28, ↓s_67_29, ↓s_67_30_22, ↓s_67_30_48, ↓s_67_33, ↓s_67_34a, ↓s_67_34b, ↓s_67_35_22, ↓s_67_35_48, ↓s_67_38, ↓s_67_39, ↓s_67_40_22, ↓s_67_40_48, ↓s_67_43, ↓s_67_44, ↓g_67_45, ↓k_67_45, ↓s_67_46, ↓s_67_49n, ↓s_67_49i, ↓s_67_49p, ↓s_67_50, ↓s_67_51, ↓s_67_54, ↓s_67_55, ↓s_67_56, ↓s_67_59, ↓s_67_60_22, ↓s_67_60_48, ↓s_67_63, ↓s_67_66, ↓s_67_67, ↓s_67_68, ↓s_67_71, ↓s_67_74, ↓s_67_75, ↓s_67_78, ↓s_67_79, ↓g_67_80, ↓k_67_80, ↓s_67_81, ↓s_67_82, ↓s_67_83, ↓s_67_86, ↓s_67_87, ↓s_67_90, ↓s_67_91, ↓g_67_94, ↓k_67_94, ↓s_67_95, ↓s_67_96, ↓s_67_99, ↓s_67_100, ↓s_67_103, ↓s_67_104, ↓s_67_107, ↓s_67_108, ↓s_67_109, ↓s_67_112, ↓g_67_113, ↓k_67_113, ↓s_67_114, ↓s_67_115_22, ↓s_67_115_48, ↓s_67_118, ↓s_67_119, ↓s_67_120, ↓s_67_123, ↓s_67_126, ↓s_67_127, ↓s_67_128, ↓s_67_131, ↓s_67_134, ↓s_67_135, ↓s_67_138, ↓s_67_139, ↓s_62_0, ↓s_62_1_22, ↓s_62_1_48, ↓s_62_4, ↓s_62_5_22, ↓s_62_5_48, ↓s_62_8, ↓s_62_9, ↓s_62_12, ↓s_62_13_22, ↓s_62_13_48, ↓s_62_16, ↓s_62_17_22, ↓s_62_17_48, ↓s_62_20, ↓s_62_21, ↓s_62_22, ↓s_62_23a, ↓s_62_23b, ↓s_62_24_22, ↓s_62_24_48, ↓s_62_27, ↓s_62_28, ↓s_62_29_22, ↓s_62_29_48, ↓s_62_32, ↓s_62_33, ↓s_62_34, ↓s_62_37, ↓s_62_38a, ↓s_62_38b, ↓s_62_39_22, ↓s_62_39_48, ↓s_62_42, ↓s_62_43, ↓s_62_44_22, ↓s_62_44_48, ↓s_62_47, ↓s_62_48, ↓s_63_0, ↓s_63_1_22, ↓s_63_1_48, ↓s_63_4, ↓s_63_6, ↓s_63_9, ↓s_63_10, ↓s_63_11, ↓s_63_14, ↓s_63_15, ↓s_63_16a, ↓s_63_16b, ↓s_63_17_22, ↓s_63_17_48, ↓s_63_20, ↓s_63_21, ↓s_63_22_22, ↓s_63_22_48, ↓s_63_25, ↓s_63_26, w32c_64, ↓s_72_0, ↓s_72_1_22, ↓s_72_1_48, ↓s_72_4, ↓s_72_7, ↓s_72_8, ↓s_72_11, ↓s_72_12_22, ↓s_72_12_48, ↓s_72_15, ↓s_72_16_22, ↓s_72_16_48, ↓s_72_19, ↓s_72_20, ↓s_72_21, ↓s_72_22, ↓s_72_25, ↓s_123_0, ↓s_123_1, ↓s_123_4, ↓s_123_7, ↓s_123_8, ↓s_123_9, ↓s_123_12, ↓s_123_13, ↓s_123_14, ↓s_123_17, ↓s_123_20, ↓s_123_21, ↓s_123_22, ↓s_123_25, ↓s_123_26, zio_48, zar_53, zia_53, zln_53, zit_53, zio_22, zio_55, zar_27, zia_27, zln_27, zit_27]
    rw [hx]
    rw [sTp_cons] at A B
    exact ⟨fun q => A (by omega), fun q => B (by omega) (by omega)⟩
theorem gs80 (hE : yEok E) (hd : 1 ≤ d) (F0 : aFrm fvW b m) (T : cTk ch n m (.inr l)) (C : cFo m w cn op o) (hK : w32 K = ((sHd l).1 : Int)) (hG : w32 G = (sLv (sHd l).1 : Int)) (h0 : sLv (sHd l).1 ≠ 0) (h3 : sLv (sHd l).1 ≠ 3) (hf : hFa ch n Q b false w (l, cn, op, o)) (hg : hGo ch n Q b false w (l, cn, op, o)) : zG E (d + 3) xm_67 80 [some (1, 48), some (1, 55), some (0, K), some (0, G)] [] m Q := by
  have k5 : ¬ (sHd l).1 = 5 := fun e => h0 (by rw [e]; rfl)
  have k6 : ¬ (sHd l).1 = 6 := fun e => h0 (by rw [e]; rfl)
  have k0 : (sHd l).1 ≠ 0 := fun e => h0 (by rw [e]; rfl)
  refine zgo_ok (n := 80) hE xmo_67 (cs := zc_67) ?_
  simp only [ynok_30, ynok_31, w32c_0, w32c_1, w32c_2, w32c_3, w32c_4, w32c_5, w32c_6, w32c_7, w32c_8, w32c_9, w32c_10, w32c_11, w32c_12, w32c_13, w32c_14, w32c_m1, w32c_m2, w32c_118, Int.reduceAdd, Int.reduceSub, Int.reduceMul, yput_s, yput_n, znl_n, znl_0, znl_1, znl_4, ysum_n, ysum_0, ysum_1, ysum_4, true_and, and_true, Nat.reduceAdd, Nat.reduceLeDiff, true_implies, eq_self, true_or, or_true, or_false, false_or, not_true_eq_false, not_false_eq_true, false_implies, implies_true, yset_s, yset_o, yset_d, ne_eq, Nat.reduceEqDiff, Int.reduceToNat, Int.reduceEq, Int.reduceLE, Int.reduceLT, Classical.not_not, Nat.reduceLT, ↓zvk_s, ↓zvk_n, ↓s_67_0, ↓s_67_1, ↓s_67_4n, ↓s_67_4i, ↓s_67_4p, ↓s_67_5, ↓s_67_6, ↓s_67_8, ↓s_67_11, ↓s_67_12_22, ↓s_67_12_48, ↓s_67_15, ↓s_67_18, ↓s_67_19, ↓s_67_20, ↓s_67_23, ↓s_67_24a, ↓s_67_24b, ↓s_67_25_22, ↓s_67_25_48, ↓s_67_28, ↓s_67_29, ↓s_67_30_22, ↓s_67_30_48, ↓s_67_33, ↓s_67_34a, ↓s_67_34b, ↓s_67_35_22, ↓s_67_35_48, ↓s_67_38, ↓s_67_39, ↓s_67_40_22, ↓s_67_40_48, ↓s_67_43, ↓s_67_44, ↓g_67_45, ↓k_67_45, ↓s_67_46, ↓s_67_49n, ↓s_67_49i, ↓s_67_49p, ↓s_67_50, ↓s_67_51, ↓s_67_54, ↓s_67_55, ↓s_67_56, ↓s_67_59, ↓s_67_60_22, ↓s_67_60_48, ↓s_67_63, ↓s_67_66, ↓s_67_67, ↓s_67_68, ↓s_67_71, ↓s_67_74, ↓s_67_75, ↓s_67_78, ↓s_67_79, ↓g_67_80, ↓k_67_80, ↓s_67_81, ↓s_67_82, ↓s_67_83, ↓s_67_86, ↓s_67_87, ↓s_67_90, ↓s_67_91, ↓g_67_94, ↓k_67_94, ↓s_67_95, ↓s_67_96, ↓s_67_99, ↓s_67_100, ↓s_67_103, ↓s_67_104, ↓s_67_107, ↓s_67_108, ↓s_67_109, ↓s_67_112, ↓g_67_113, ↓k_67_113, ↓s_67_114, ↓s_67_115_22, ↓s_67_115_48, ↓s_67_118, ↓s_67_119, ↓s_67_120, ↓s_67_123, ↓s_67_126, ↓s_67_127, ↓s_67_128, ↓s_67_131, ↓s_67_134, ↓s_67_135, ↓s_67_138, ↓s_67_139, ↓s_62_0, ↓s_62_1_22, ↓s_62_1_48, ↓s_62_4, ↓s_62_5_22, ↓s_62_5_48, ↓s_62_8, ↓s_62_9, ↓s_62_12, ↓s_62_13_22, ↓s_62_13_48, ↓s_62_16, ↓s_62_17_22, ↓s_62_17_48, ↓s_62_20, ↓s_62_21, ↓s_62_22, ↓s_62_23a, ↓s_62_23b, ↓s_62_24_22, ↓s_62_24_48, ↓s_62_27, ↓s_62_28, ↓s_62_29_22, ↓s_62_29_48, ↓s_62_32, ↓s_62_33, ↓s_62_34, ↓s_62_37, ↓s_62_38a, ↓s_62_38b, ↓s_62_39_22, ↓s_62_39_48, ↓s_62_42, ↓s_62_43, ↓s_62_44_22, ↓s_62_44_48, ↓s_62_47, ↓s_62_48, ↓s_63_0, ↓s_63_1_22, ↓s_63_1_48, ↓s_63_4, ↓s_63_6, ↓s_63_9, ↓s_63_10, ↓s_63_11, ↓s_63_14, ↓s_63_15, ↓s_63_16a, ↓s_63_16b, ↓s_63_17_22, ↓s_63_17_48, ↓s_63_20, ↓s_63_21, ↓s_63_22_22, ↓s_63_22_48, ↓s_63_25, ↓s_63_26, w32c_64, ↓s_72_0, ↓s_72_1_22, ↓s_72_1_48, ↓s_72_4, ↓s_72_7, ↓s_72_8, ↓s_72_11, ↓s_72_12_22, ↓s_72_12_48, ↓s_72_15, ↓s_72_16_22, ↓s_72_16_48, ↓s_72_19, ↓s_72_20, ↓s_72_21, ↓s_72_22, ↓s_72_25, ↓s_123_0, ↓s_123_1, ↓s_123_4, ↓s_123_7, ↓s_123_8, ↓s_123_9, ↓s_123_12, ↓s_123_13, ↓s_123_14, ↓s_123_17, ↓s_123_20, ↓s_123_21, ↓s_123_22, ↓s_123_25, ↓s_123_26, zio_48, zar_53, zia_53, zln_53, zit_53, zio_22, zio_55, zar_27, zia_27, zln_27, zit_27]
  rw [hG]
  refine ⟨fun h4 => ?_, fun h4 => ?_⟩
  · have n4 : ¬ sLv (sHd l).1 = 4 := by omega
    refine g_settle hE (by omega) hG (by omega) C (fun m' F1 C1 => ?_)
    refine zgk_n hE xmo_67 60 zc_67 ?_
    simp only [ynok_30, ynok_31, w32c_0, w32c_1, w32c_2, w32c_3, w32c_4, w32c_5, w32c_6, w32c_7, w32c_8, w32c_9, w32c_10, w32c_11, w32c_12, w32c_13, w32c_14, w32c_m1, w32c_m2, w32c_118, Int.reduceAdd, Int.reduceSub, Int.reduceMul, yput_s, yput_n, znl_n, znl_0, znl_1, znl_4, ysum_n, ysum_0, ysum_1, ysum_4, true_and, and_true, Nat.reduceAdd, Nat.reduceLeDiff, true_implies, eq_self, true_or, or_true, or_false, false_or, not_true_eq_false, not_false_eq_true, false_implies, implies_true, yset_s, yset_o, yset_d, ne_eq, Nat.reduceEqDiff, Int.reduceToNat, Int.reduceEq, Int.reduceLE, Int.reduceLT, Classical.not_not, Nat.reduceLT, ↓zvk_s, ↓zvk_n, ↓s_67_0, ↓s_67_1, ↓s_67_4n, ↓s_67_4i, ↓s_67_4p, ↓s_67_5, ↓s_67_6, ↓s_67_8, ↓s_67_11, ↓s_67_12_22, ↓s_67_12_48, ↓s_67_15, ↓s_67_18, ↓s_67_19, ↓s_67_20, ↓s_67_23, ↓s_67_24a, ↓s_67_24b, ↓s_67_25_22, ↓s_67_25_48, ↓s_67_28, ↓s_67_29, ↓s_67_30_22, ↓s_67_30_48, ↓s_67_33, ↓s_67_34a, ↓s_67_34b, ↓s_67_35_22, ↓s_67_35_48, ↓s_67_38, ↓s_67_39, ↓s_67_40_22, ↓s_67_40_48, ↓s_67_43, ↓s_67_44, ↓g_67_45, ↓k_67_45, ↓s_67_46, ↓s_67_49n, ↓s_67_49i, ↓s_67_49p, ↓s_67_50, ↓s_67_51, ↓s_67_54, ↓s_67_55, ↓s_67_56, ↓s_67_59, ↓s_67_60_22, ↓s_67_60_48, ↓s_67_63, ↓s_67_66, ↓s_67_67, ↓s_67_68, ↓s_67_71, ↓s_67_74, ↓s_67_75, ↓s_67_78, ↓s_67_79, ↓g_67_80, ↓k_67_80, ↓s_67_81, ↓s_67_82, ↓s_67_83, ↓s_67_86, ↓s_67_87, ↓s_67_90, ↓s_67_91, ↓g_67_94, ↓k_67_94, ↓s_67_95, ↓s_67_96, ↓s_67_99, ↓s_67_100, ↓s_67_103, ↓s_67_104, ↓s_67_107, ↓s_67_108, ↓s_67_109, ↓s_67_112, ↓g_67_113, ↓k_67_113, ↓s_67_114, ↓s_67_115_22, ↓s_67_115_48, ↓s_67_118, ↓s_67_119, ↓s_67_120, ↓s_67_123, ↓s_67_126, ↓s_67_127, ↓s_67_128, ↓s_67_131, ↓s_67_134, ↓s_67_135, ↓s_67_138, ↓s_67_139, ↓s_62_0, ↓s_62_1_22, ↓s_62_1_48, ↓s_62_4, ↓s_62_5_22, ↓s_62_5_48, ↓s_62_8, ↓s_62_9, ↓s_62_12, ↓s_62_13_22, ↓s_62_13_48, ↓s_62_16, ↓s_62_17_22, ↓s_62_17_48, ↓s_62_20, ↓s_62_21, ↓s_62_22, ↓s_62_23a, ↓s_62_23b, ↓s_62_24_22, ↓s_62_24_48, ↓s_62_27, ↓s_62_28, ↓s_62_29_22, ↓s_62_29_48, ↓s_62_32, ↓s_62_33, ↓s_62_34, ↓s_62_37, ↓s_62_38a, ↓s_62_38b, ↓s_62_39_22, ↓s_62_39_48, ↓s_62_42, ↓s_62_43, ↓s_62_44_22, ↓s_62_44_48, ↓s_62_47, ↓s_62_48, ↓s_63_0, ↓s_63_1_22, ↓s_63_1_48, ↓s_63_4, ↓s_63_6, ↓s_63_9, ↓s_63_10, ↓s_63_11, ↓s_63_14, ↓s_63_15, ↓s_63_16a, ↓s_63_16b, ↓s_63_17_22, ↓s_63_17_48, ↓s_63_20, ↓s_63_21, ↓s_63_22_22, ↓s_63_22_48, ↓s_63_25, ↓s_63_26, w32c_64, ↓s_72_0, ↓s_72_1_22, ↓s_72_1_48, ↓s_72_4, ↓s_72_7, ↓s_72_8, ↓s_72_11, ↓s_72_12_22, ↓s_72_12_48, ↓s_72_15, ↓s_72_16_22, ↓s_72_16_48, ↓s_72_19, ↓s_72_20, ↓s_72_21, ↓s_72_22, ↓s_72_25, ↓s_123_0, ↓s_123_1, ↓s_123_4, ↓s_123_7, ↓s_123_8, ↓s_123_9, ↓s_123_12, ↓s_123_13, ↓s_123_14, ↓s_123_17, ↓s_123_20, ↓s_123_21, ↓s_123_22, ↓s_123_25, ↓s_123_26, zio_48, zar_53, zia_53, zln_53, zit_53, zio_22, zio_55, zar_27, zia_27, zln_27, zit_27]
    refine gs94 hE (aFrm_tt F0 (se_fv F1)) (cTk_se T F1) C1 hK hG k5 k0 h0 (fun _ N => ?_) (fun q => absurd q n4) hf hg
    exact sy_sg rfl h0 h3 n4
  · have e4 : sLv (sHd l).1 = 4 := by omega
    refine g_settle hE (by omega) (l := 5) (L := 5) (by decide) (by decide) C (fun m' F1 C1 => ?_)
    refine zgk_n hE xmo_67 60 zc_67 ?_
    simp only [ynok_30, ynok_31, w32c_0, w32c_1, w32c_2, w32c_3, w32c_4, w32c_5, w32c_6, w32c_7, w32c_8, w32c_9, w32c_10, w32c_11, w32c_12, w32c_13, w32c_14, w32c_m1, w32c_m2, w32c_118, Int.reduceAdd, Int.reduceSub, Int.reduceMul, yput_s, yput_n, znl_n, znl_0, znl_1, znl_4, ysum_n, ysum_0, ysum_1, ysum_4, true_and, and_true, Nat.reduceAdd, Nat.reduceLeDiff, true_implies, eq_self, true_or, or_true, or_false, false_or, not_true_eq_false, not_false_eq_true, false_implies, implies_true, yset_s, yset_o, yset_d, ne_eq, Nat.reduceEqDiff, Int.reduceToNat, Int.reduceEq, Int.reduceLE, Int.reduceLT, Classical.not_not, Nat.reduceLT, ↓zvk_s, ↓zvk_n, ↓s_67_0, ↓s_67_1, ↓s_67_4n, ↓s_67_4i, ↓s_67_4p, ↓s_67_5, ↓s_67_6, ↓s_67_8, ↓s_67_11, ↓s_67_12_22, ↓s_67_12_48, ↓s_67_15, ↓s_67_18, ↓s_67_19, ↓s_67_20, ↓s_67_23, ↓s_67_24a, ↓s_67_24b, ↓s_67_25_22, ↓s_67_25_48, ↓s_67_28, ↓s_67_29, ↓s_67_30_22, ↓s_67_30_48, ↓s_67_33, ↓s_67_34a, ↓s_67_34b, ↓s_67_35_22, ↓s_67_35_48, ↓s_67_38, ↓s_67_39, ↓s_67_40_22, ↓s_67_40_48, ↓s_67_43, ↓s_67_44, ↓g_67_45, ↓k_67_45, ↓s_67_46, ↓s_67_49n, ↓s_67_49i, ↓s_67_49p, ↓s_67_50, ↓s_67_51, ↓s_67_54, ↓s_67_55, ↓s_67_56, ↓s_67_59, ↓s_67_60_22, ↓s_67_60_48, ↓s_67_63, ↓s_67_66, ↓s_67_67, ↓s_67_68, ↓s_67_71, ↓s_67_74, ↓s_67_75, ↓s_67_78, ↓s_67_79, ↓g_67_80, ↓k_67_80, ↓s_67_81, ↓s_67_82, ↓s_67_83, ↓s_67_86, ↓s_67_87, ↓s_67_90, ↓s_67_91, ↓g_67_94, ↓k_67_94, ↓s_67_95, ↓s_67_96, ↓s_67_99, ↓s_67_100, ↓s_67_103, ↓s_67_104, ↓s_67_107, ↓s_67_108, ↓s_67_109, ↓s_67_112, ↓g_67_113, ↓k_67_113, ↓s_67_114, ↓s_67_115_22, ↓s_67_115_48, ↓s_67_118, ↓s_67_119, ↓s_67_120, ↓s_67_123, ↓s_67_126, ↓s_67_127, ↓s_67_128, ↓s_67_131, ↓s_67_134, ↓s_67_135, ↓s_67_138, ↓s_67_139, ↓s_62_0, ↓s_62_1_22, ↓s_62_1_48, ↓s_62_4, ↓s_62_5_22, ↓s_62_5_48, ↓s_62_8, ↓s_62_9, ↓s_62_12, ↓s_62_13_22, ↓s_62_13_48, ↓s_62_16, ↓s_62_17_22, ↓s_62_17_48, ↓s_62_20, ↓s_62_21, ↓s_62_22, ↓s_62_23a, ↓s_62_23b, ↓s_62_24_22, ↓s_62_24_48, ↓s_62_27, ↓s_62_28, ↓s_62_29_22, ↓s_62_29_48, ↓s_62_32, ↓s_62_33, ↓s_62_34, ↓s_62_37, ↓s_62_38a, ↓s_62_38b, ↓s_62_39_22, ↓s_62_39_48, ↓s_62_42, ↓s_62_43, ↓s_62_44_22, ↓s_62_44_48, ↓s_62_47, ↓s_62_48, ↓s_63_0, ↓s_63_1_22, ↓s_63_1_48, ↓s_63_4, ↓s_63_6, ↓s_63_9, ↓s_63_10, ↓s_63_11, ↓s_63_14, ↓s_63_15, ↓s_63_16a, ↓s_63_16b, ↓s_63_17_22, ↓s_63_17_48, ↓s_63_20, ↓s_63_21, ↓s_63_22_22, ↓s_63_22_48, ↓s_63_25, ↓s_63_26, w32c_64, ↓s_72_0, ↓s_72_1_22, ↓s_72_1_48, ↓s_72_4, ↓s_72_7, ↓s_72_8, ↓s_72_11, ↓s_72_12_22, ↓s_72_12_48, ↓s_72_15, ↓s_72_16_22, ↓s_72_16_48, ↓s_72_19, ↓s_72_20, ↓s_72_21, ↓s_72_22, ↓s_72_25, ↓s_123_0, ↓s_123_1, ↓s_123_4, ↓s_123_7, ↓s_123_8, ↓s_123_9, ↓s_123_12, ↓s_123_13, ↓s_123_14, ↓s_123_17, ↓s_123_20, ↓s_123_21, ↓s_123_22, ↓s_123_25, ↓s_123_26, zio_48, zar_53, zia_53, zln_53, zit_53, zio_22, zio_55, zar_27, zia_27, zln_27, zit_27]
    refine gs94 hE (aFrm_tt F0 (se_fv F1)) (cTk_se T F1) C1 hK hG k5 k0 h0 (fun q N => ?_) (fun _ q N => ?_) hf hg
    · simp only [sy]
      rw [if_neg (fun z => k6 z.1), if_neg (by omega), if_pos e4, if_neg (fun z => q ⟨e4, z⟩)]
    · simp only [sy]
      rw [if_neg (fun z => k6 z.1), if_neg (by omega), if_pos e4, if_pos q]
theorem gs45 (hE : yEok E) (hd : 1 ≤ d) (F0 : aFrm fvW b m) (T : cTk ch n m (.inr l)) (C : cFo m w cn op o) (hK : w32 K = ((sHd l).1 : Int)) (h6 : ¬ ((sHd l).1 = 6 ∧ 0 < op)) (hf : hFa ch n Q b false w (l, cn, op, o)) (hg : hGo ch n Q b false w (l, cn, op, o)) (he : hEn ch n Q b w (l, cn, op, o)) : zG E (d + 3) xm_67 45 [some (1, 48), some (1, 55), some (0, K), none] [] m Q := by
  refine zgo_ok (n := 80) hE xmo_67 (cs := zc_67) ?_
  simp only [ynok_30, ynok_31, w32c_0, w32c_1, w32c_2, w32c_3, w32c_4, w32c_5, w32c_6, w32c_7, w32c_8, w32c_9, w32c_10, w32c_11, w32c_12, w32c_13, w32c_14, w32c_m1, w32c_m2, w32c_118, Int.reduceAdd, Int.reduceSub, Int.reduceMul, yput_s, yput_n, znl_n, znl_0, znl_1, znl_4, ysum_n, ysum_0, ysum_1, ysum_4, true_and, and_true, Nat.reduceAdd, Nat.reduceLeDiff, true_implies, eq_self, true_or, or_true, or_false, false_or, not_true_eq_false, not_false_eq_true, false_implies, implies_true, yset_s, yset_o, yset_d, ne_eq, Nat.reduceEqDiff, Int.reduceToNat, Int.reduceEq, Int.reduceLE, Int.reduceLT, Classical.not_not, Nat.reduceLT, ↓zvk_s, ↓zvk_n, ↓s_67_0, ↓s_67_1, ↓s_67_4n, ↓s_67_4i, ↓s_67_4p, ↓s_67_5, ↓s_67_6, ↓s_67_8, ↓s_67_11, ↓s_67_12_22, ↓s_67_12_48, ↓s_67_15, ↓s_67_18, ↓s_67_19, ↓s_67_20, ↓s_67_23, ↓s_67_24a, ↓s_67_24b, ↓s_67_25_22, ↓s_67_25_48, ↓s_67_28, ↓s_67_29, ↓s_67_30_22, ↓s_67_30_48, ↓s_67_33, ↓s_67_34a, ↓s_67_34b, ↓s_67_35_22, ↓s_67_35_48, ↓s_67_38, ↓s_67_39, ↓s_67_40_22, ↓s_67_40_48, ↓s_67_43, ↓s_67_44, ↓g_67_45, ↓k_67_45, ↓s_67_46, ↓s_67_49n, ↓s_67_49i, ↓s_67_49p, ↓s_67_50, ↓s_67_51, ↓s_67_54, ↓s_67_55, ↓s_67_56, ↓s_67_59, ↓s_67_60_22, ↓s_67_60_48, ↓s_67_63, ↓s_67_66, ↓s_67_67, ↓s_67_68, ↓s_67_71, ↓s_67_74, ↓s_67_75, ↓s_67_78, ↓s_67_79, ↓g_67_80, ↓k_67_80, ↓s_67_81, ↓s_67_82, ↓s_67_83, ↓s_67_86, ↓s_67_87, ↓s_67_90, ↓s_67_91, ↓g_67_94, ↓k_67_94, ↓s_67_95, ↓s_67_96, ↓s_67_99, ↓s_67_100, ↓s_67_103, ↓s_67_104, ↓s_67_107, ↓s_67_108, ↓s_67_109, ↓s_67_112, ↓g_67_113, ↓k_67_113, ↓s_67_114, ↓s_67_115_22, ↓s_67_115_48, ↓s_67_118, ↓s_67_119, ↓s_67_120, ↓s_67_123, ↓s_67_126, ↓s_67_127, ↓s_67_128, ↓s_67_131, ↓s_67_134, ↓s_67_135, ↓s_67_138, ↓s_67_139, ↓s_62_0, ↓s_62_1_22, ↓s_62_1_48, ↓s_62_4, ↓s_62_5_22, ↓s_62_5_48, ↓s_62_8, ↓s_62_9, ↓s_62_12, ↓s_62_13_22, ↓s_62_13_48, ↓s_62_16, ↓s_62_17_22, ↓s_62_17_48, ↓s_62_20, ↓s_62_21, ↓s_62_22, ↓s_62_23a, ↓s_62_23b, ↓s_62_24_22, ↓s_62_24_48, ↓s_62_27, ↓s_62_28, ↓s_62_29_22, ↓s_62_29_48, ↓s_62_32, ↓s_62_33, ↓s_62_34, ↓s_62_37, ↓s_62_38a, ↓s_62_38b, ↓s_62_39_22, ↓s_62_39_48, ↓s_62_42, ↓s_62_43, ↓s_62_44_22, ↓s_62_44_48, ↓s_62_47, ↓s_62_48, ↓s_63_0, ↓s_63_1_22, ↓s_63_1_48, ↓s_63_4, ↓s_63_6, ↓s_63_9, ↓s_63_10, ↓s_63_11, ↓s_63_14, ↓s_63_15, ↓s_63_16a, ↓s_63_16b, ↓s_63_17_22, ↓s_63_17_48, ↓s_63_20, ↓s_63_21, ↓s_63_22_22, ↓s_63_22_48, ↓s_63_25, ↓s_63_26, w32c_64, ↓s_72_0, ↓s_72_1_22, ↓s_72_1_48, ↓s_72_4, ↓s_72_7, ↓s_72_8, ↓s_72_11, ↓s_72_12_22, ↓s_72_12_48, ↓s_72_15, ↓s_72_16_22, ↓s_72_16_48, ↓s_72_19, ↓s_72_20, ↓s_72_21, ↓s_72_22, ↓s_72_25, ↓s_123_0, ↓s_123_1, ↓s_123_4, ↓s_123_7, ↓s_123_8, ↓s_123_9, ↓s_123_12, ↓s_123_13, ↓s_123_14, ↓s_123_17, ↓s_123_20, ↓s_123_21, ↓s_123_22, ↓s_123_25, ↓s_123_26, zio_48, zar_53, zia_53, zln_53, zit_53, zio_22, zio_55, zar_27, zia_27, zln_27, zit_27]
  refine g_levelOf hE (by omega) hK (fun G hG => ?_)
  refine zgk_s hE xmo_67 60 zc_67 ?_
  simp only [ynok_30, ynok_31, w32c_0, w32c_1, w32c_2, w32c_3, w32c_4, w32c_5, w32c_6, w32c_7, w32c_8, w32c_9, w32c_10, w32c_11, w32c_12, w32c_13, w32c_14, w32c_m1, w32c_m2, w32c_118, Int.reduceAdd, Int.reduceSub, Int.reduceMul, yput_s, yput_n, znl_n, znl_0, znl_1, znl_4, ysum_n, ysum_0, ysum_1, ysum_4, true_and, and_true, Nat.reduceAdd, Nat.reduceLeDiff, true_implies, eq_self, true_or, or_true, or_false, false_or, not_true_eq_false, not_false_eq_true, false_implies, implies_true, yset_s, yset_o, yset_d, ne_eq, Nat.reduceEqDiff, Int.reduceToNat, Int.reduceEq, Int.reduceLE, Int.reduceLT, Classical.not_not, Nat.reduceLT, ↓zvk_s, ↓zvk_n, ↓s_67_0, ↓s_67_1, ↓s_67_4n, ↓s_67_4i, ↓s_67_4p, ↓s_67_5, ↓s_67_6, ↓s_67_8, ↓s_67_11, ↓s_67_12_22, ↓s_67_12_48, ↓s_67_15, ↓s_67_18, ↓s_67_19, ↓s_67_20, ↓s_67_23, ↓s_67_24a, ↓s_67_24b, ↓s_67_25_22, ↓s_67_25_48, ↓s_67_28, ↓s_67_29, ↓s_67_30_22, ↓s_67_30_48, ↓s_67_33, ↓s_67_34a, ↓s_67_34b, ↓s_67_35_22, ↓s_67_35_48, ↓s_67_38, ↓s_67_39, ↓s_67_40_22, ↓s_67_40_48, ↓s_67_43, ↓s_67_44, ↓g_67_45, ↓k_67_45, ↓s_67_46, ↓s_67_49n, ↓s_67_49i, ↓s_67_49p, ↓s_67_50, ↓s_67_51, ↓s_67_54, ↓s_67_55, ↓s_67_56, ↓s_67_59, ↓s_67_60_22, ↓s_67_60_48, ↓s_67_63, ↓s_67_66, ↓s_67_67, ↓s_67_68, ↓s_67_71, ↓s_67_74, ↓s_67_75, ↓s_67_78, ↓s_67_79, ↓g_67_80, ↓k_67_80, ↓s_67_81, ↓s_67_82, ↓s_67_83, ↓s_67_86, ↓s_67_87, ↓s_67_90, ↓s_67_91, ↓g_67_94, ↓k_67_94, ↓s_67_95, ↓s_67_96, ↓s_67_99, ↓s_67_100, ↓s_67_103, ↓s_67_104, ↓s_67_107, ↓s_67_108, ↓s_67_109, ↓s_67_112, ↓g_67_113, ↓k_67_113, ↓s_67_114, ↓s_67_115_22, ↓s_67_115_48, ↓s_67_118, ↓s_67_119, ↓s_67_120, ↓s_67_123, ↓s_67_126, ↓s_67_127, ↓s_67_128, ↓s_67_131, ↓s_67_134, ↓s_67_135, ↓s_67_138, ↓s_67_139, ↓s_62_0, ↓s_62_1_22, ↓s_62_1_48, ↓s_62_4, ↓s_62_5_22, ↓s_62_5_48, ↓s_62_8, ↓s_62_9, ↓s_62_12, ↓s_62_13_22, ↓s_62_13_48, ↓s_62_16, ↓s_62_17_22, ↓s_62_17_48, ↓s_62_20, ↓s_62_21, ↓s_62_22, ↓s_62_23a, ↓s_62_23b, ↓s_62_24_22, ↓s_62_24_48, ↓s_62_27, ↓s_62_28, ↓s_62_29_22, ↓s_62_29_48, ↓s_62_32, ↓s_62_33, ↓s_62_34, ↓s_62_37, ↓s_62_38a, ↓s_62_38b, ↓s_62_39_22, ↓s_62_39_48, ↓s_62_42, ↓s_62_43, ↓s_62_44_22, ↓s_62_44_48, ↓s_62_47, ↓s_62_48, ↓s_63_0, ↓s_63_1_22, ↓s_63_1_48, ↓s_63_4, ↓s_63_6, ↓s_63_9, ↓s_63_10, ↓s_63_11, ↓s_63_14, ↓s_63_15, ↓s_63_16a, ↓s_63_16b, ↓s_63_17_22, ↓s_63_17_48, ↓s_63_20, ↓s_63_21, ↓s_63_22_22, ↓s_63_22_48, ↓s_63_25, ↓s_63_26, w32c_64, ↓s_72_0, ↓s_72_1_22, ↓s_72_1_48, ↓s_72_4, ↓s_72_7, ↓s_72_8, ↓s_72_11, ↓s_72_12_22, ↓s_72_12_48, ↓s_72_15, ↓s_72_16_22, ↓s_72_16_48, ↓s_72_19, ↓s_72_20, ↓s_72_21, ↓s_72_22, ↓s_72_25, ↓s_123_0, ↓s_123_1, ↓s_123_4, ↓s_123_7, ↓s_123_8, ↓s_123_9, ↓s_123_12, ↓s_123_13, ↓s_123_14, ↓s_123_17, ↓s_123_20, ↓s_123_21, ↓s_123_22, ↓s_123_25, ↓s_123_26, zio_48, zar_53, zia_53, zln_53, zit_53, zio_22, zio_55, zar_27, zia_27, zln_27, zit_27]
  rw [hG, C.2.1.2]
  have D : (sLv (sHd l).1 = 0 ∨ sLv (sHd l).1 = 3) → (((op : Nat) : Int) ≤ 0 → Q (some (0, 0)) m) ∧ (¬ ((op : Nat) : Int) ≤ 0 → (¬ w32 (m 55 7) = 0 → Q (some (0, 0)) (yset m 55 4 0)) ∧ (w32 (m 55 7) = 0 → Q (some (0, 0)) (yset (yset (yset m 55 7 1) 55 8 (m 55 5)) 55 4 0))) := fun hz => by
    refine ⟨fun h => he m F0 T C (fun N => ?_), fun h => hFa_fl (f := 1) (F := 1) hf F0 T ⟨_, _, _, _, C⟩ (fun N => ?_) (by decide) (by decide)⟩
    · simp only [sy]
      rw [if_neg h6, if_pos hz, if_neg (by omega)]
    · simp only [sy]
      rw [if_neg h6, if_pos hz, if_pos (by omega)]
  exact ⟨fun h => D (by omega), fun h => ⟨fun h3 => gs80 hE hd F0 T C hK hG (by omega) (by omega) hf hg, fun h3 => D (by omega)⟩⟩
theorem g_readSign (hE : yEok E) {D : Nat} (hD : 5 ≤ D) (T : cTk ch n b (.inr l)) (C : cFo b w cn op o) (h9 : w32 (b 48 9) = 0) (hf : hFa ch n Q b false w (l, cn, op, o)) (hg : hGo ch n Q b false w (l, cn, op, o)) (he : hEn ch n Q b w (l, cn, op, o)) : yCon E D xm_67 [(1, 48), (1, 55)] b Q := by
  obtain ⟨d, rfl⟩ := Nat.exists_eq_add_of_le' hD
  have hK : w32 (b 55 4) = ((sHd l).1 : Int) := cTk_kd T
  refine e_67 ?_
  refine zvc_ok hE 60 zc_67 _ _ _ _ _ _ _ xmo_67 ?_
  simp only [ynok_30, ynok_31, w32c_0, w32c_1, w32c_2, w32c_3, w32c_4, w32c_5, w32c_6, w32c_7, w32c_8, w32c_9, w32c_10, w32c_11, w32c_12, w32c_13, w32c_14, w32c_m1, w32c_m2, w32c_118, Int.reduceAdd, Int.reduceSub, Int.reduceMul, yput_s, yput_n, znl_n, znl_0, znl_1, znl_4, ysum_n, ysum_0, ysum_1, ysum_4, true_and, and_true, Nat.reduceAdd, Nat.reduceLeDiff, true_implies, eq_self, true_or, or_true, or_false, false_or, not_true_eq_false, not_false_eq_true, false_implies, implies_true, yset_s, yset_o, yset_d, ne_eq, Nat.reduceEqDiff, Int.reduceToNat, Int.reduceEq, Int.reduceLE, Int.reduceLT, Classical.not_not, Nat.reduceLT, ↓zvk_s, ↓zvk_n, ↓s_67_0, ↓s_67_1, ↓s_67_4n, ↓s_67_4i, ↓s_67_4p, ↓s_67_5, ↓s_67_6, ↓s_67_8, ↓s_67_11, ↓s_67_12_22, ↓s_67_12_48, ↓s_67_15, ↓s_67_18, ↓s_67_19, ↓s_67_20, ↓s_67_23, ↓s_67_24a, ↓s_67_24b, ↓s_67_25_22, ↓s_67_25_48, ↓s_67_28, ↓s_67_29, ↓s_67_30_22, ↓s_67_30_48, ↓s_67_33, ↓s_67_34a, ↓s_67_34b, ↓s_67_35_22, ↓s_67_35_48, ↓s_67_38, ↓s_67_39, ↓s_67_40_22, ↓s_67_40_48, ↓s_67_43, ↓s_67_44, ↓g_67_45, ↓k_67_45, ↓s_67_46, ↓s_67_49n, ↓s_67_49i, ↓s_67_49p, ↓s_67_50, ↓s_67_51, ↓s_67_54, ↓s_67_55, ↓s_67_56, ↓s_67_59, ↓s_67_60_22, ↓s_67_60_48, ↓s_67_63, ↓s_67_66, ↓s_67_67, ↓s_67_68, ↓s_67_71, ↓s_67_74, ↓s_67_75, ↓s_67_78, ↓s_67_79, ↓g_67_80, ↓k_67_80, ↓s_67_81, ↓s_67_82, ↓s_67_83, ↓s_67_86, ↓s_67_87, ↓s_67_90, ↓s_67_91, ↓g_67_94, ↓k_67_94, ↓s_67_95, ↓s_67_96, ↓s_67_99, ↓s_67_100, ↓s_67_103, ↓s_67_104, ↓s_67_107, ↓s_67_108, ↓s_67_109, ↓s_67_112, ↓g_67_113, ↓k_67_113, ↓s_67_114, ↓s_67_115_22, ↓s_67_115_48, ↓s_67_118, ↓s_67_119, ↓s_67_120, ↓s_67_123, ↓s_67_126, ↓s_67_127, ↓s_67_128, ↓s_67_131, ↓s_67_134, ↓s_67_135, ↓s_67_138, ↓s_67_139, ↓s_62_0, ↓s_62_1_22, ↓s_62_1_48, ↓s_62_4, ↓s_62_5_22, ↓s_62_5_48, ↓s_62_8, ↓s_62_9, ↓s_62_12, ↓s_62_13_22, ↓s_62_13_48, ↓s_62_16, ↓s_62_17_22, ↓s_62_17_48, ↓s_62_20, ↓s_62_21, ↓s_62_22, ↓s_62_23a, ↓s_62_23b, ↓s_62_24_22, ↓s_62_24_48, ↓s_62_27, ↓s_62_28, ↓s_62_29_22, ↓s_62_29_48, ↓s_62_32, ↓s_62_33, ↓s_62_34, ↓s_62_37, ↓s_62_38a, ↓s_62_38b, ↓s_62_39_22, ↓s_62_39_48, ↓s_62_42, ↓s_62_43, ↓s_62_44_22, ↓s_62_44_48, ↓s_62_47, ↓s_62_48, ↓s_63_0, ↓s_63_1_22, ↓s_63_1_48, ↓s_63_4, ↓s_63_6, ↓s_63_9, ↓s_63_10, ↓s_63_11, ↓s_63_14, ↓s_63_15, ↓s_63_16a, ↓s_63_16b, ↓s_63_17_22, ↓s_63_17_48, ↓s_63_20, ↓s_63_21, ↓s_63_22_22, ↓s_63_22_48, ↓s_63_25, ↓s_63_26, w32c_64, ↓s_72_0, ↓s_72_1_22, ↓s_72_1_48, ↓s_72_4, ↓s_72_7, ↓s_72_8, ↓s_72_11, ↓s_72_12_22, ↓s_72_12_48, ↓s_72_15, ↓s_72_16_22, ↓s_72_16_48, ↓s_72_19, ↓s_72_20, ↓s_72_21, ↓s_72_22, ↓s_72_25, ↓s_123_0, ↓s_123_1, ↓s_123_4, ↓s_123_7, ↓s_123_8, ↓s_123_9, ↓s_123_12, ↓s_123_13, ↓s_123_14, ↓s_123_17, ↓s_123_20, ↓s_123_21, ↓s_123_22, ↓s_123_25, ↓s_123_26, zio_48, zar_53, zia_53, zln_53, zit_53, zio_22, zio_55, zar_27, zia_27, zln_27, zit_27]
  rw [hK, C.2.1.2]
  have A : ¬ ((sHd l).1 = 6 ∧ 0 < op) → zG E (d + 4) xm_67 45 [some (1, 48), some (1, 55), some (0, b 55 4), none] [] b Q := fun h => gs45 (d := d + 1) hE (by omega) aFrm_rf T C hK h hf hg he
  refine ⟨fun h => A (fun q => h (by have := q.1; omega)), fun h => ⟨fun q => A (by omega), fun q => ?_⟩⟩
  refine g_settle hE (by omega) (l := 1) (L := 1) (by decide) (by decide) C (fun m' F1 C1 => ?_)
  refine zgk_n hE xmo_67 60 zc_67 ?_
  simp only [ynok_30, ynok_31, w32c_0, w32c_1, w32c_2, w32c_3, w32c_4, w32c_5, w32c_6, w32c_7, w32c_8, w32c_9, w32c_10, w32c_11, w32c_12, w32c_13, w32c_14, w32c_m1, w32c_m2, w32c_118, Int.reduceAdd, Int.reduceSub, Int.reduceMul, yput_s, yput_n, znl_n, znl_0, znl_1, znl_4, ysum_n, ysum_0, ysum_1, ysum_4, true_and, and_true, Nat.reduceAdd, Nat.reduceLeDiff, true_implies, eq_self, true_or, or_true, or_false, false_or, not_true_eq_false, not_false_eq_true, false_implies, implies_true, yset_s, yset_o, yset_d, ne_eq, Nat.reduceEqDiff, Int.reduceToNat, Int.reduceEq, Int.reduceLE, Int.reduceLT, Classical.not_not, Nat.reduceLT, ↓zvk_s, ↓zvk_n, ↓s_67_0, ↓s_67_1, ↓s_67_4n, ↓s_67_4i, ↓s_67_4p, ↓s_67_5, ↓s_67_6, ↓s_67_8, ↓s_67_11, ↓s_67_12_22, ↓s_67_12_48, ↓s_67_15, ↓s_67_18, ↓s_67_19, ↓s_67_20, ↓s_67_23, ↓s_67_24a, ↓s_67_24b, ↓s_67_25_22, ↓s_67_25_48, ↓s_67_28, ↓s_67_29, ↓s_67_30_22, ↓s_67_30_48, ↓s_67_33, ↓s_67_34a, ↓s_67_34b, ↓s_67_35_22, ↓s_67_35_48, ↓s_67_38, ↓s_67_39, ↓s_67_40_22, ↓s_67_40_48, ↓s_67_43, ↓s_67_44, ↓g_67_45, ↓k_67_45, ↓s_67_46, ↓s_67_49n, ↓s_67_49i, ↓s_67_49p, ↓s_67_50, ↓s_67_51, ↓s_67_54, ↓s_67_55, ↓s_67_56, ↓s_67_59, ↓s_67_60_22, ↓s_67_60_48, ↓s_67_63, ↓s_67_66, ↓s_67_67, ↓s_67_68, ↓s_67_71, ↓s_67_74, ↓s_67_75, ↓s_67_78, ↓s_67_79, ↓g_67_80, ↓k_67_80, ↓s_67_81, ↓s_67_82, ↓s_67_83, ↓s_67_86, ↓s_67_87, ↓s_67_90, ↓s_67_91, ↓g_67_94, ↓k_67_94, ↓s_67_95, ↓s_67_96, ↓s_67_99, ↓s_67_100, ↓s_67_103, ↓s_67_104, ↓s_67_107, ↓s_67_108, ↓s_67_109, ↓s_67_112, ↓g_67_113, ↓k_67_113, ↓s_67_114, ↓s_67_115_22, ↓s_67_115_48, ↓s_67_118, ↓s_67_119, ↓s_67_120, ↓s_67_123, ↓s_67_126, ↓s_67_127, ↓s_67_128, ↓s_67_131, ↓s_67_134, ↓s_67_135, ↓s_67_138, ↓s_67_139, ↓s_62_0, ↓s_62_1_22, ↓s_62_1_48, ↓s_62_4, ↓s_62_5_22, ↓s_62_5_48, ↓s_62_8, ↓s_62_9, ↓s_62_12, ↓s_62_13_22, ↓s_62_13_48, ↓s_62_16, ↓s_62_17_22, ↓s_62_17_48, ↓s_62_20, ↓s_62_21, ↓s_62_22, ↓s_62_23a, ↓s_62_23b, ↓s_62_24_22, ↓s_62_24_48, ↓s_62_27, ↓s_62_28, ↓s_62_29_22, ↓s_62_29_48, ↓s_62_32, ↓s_62_33, ↓s_62_34, ↓s_62_37, ↓s_62_38a, ↓s_62_38b, ↓s_62_39_22, ↓s_62_39_48, ↓s_62_42, ↓s_62_43, ↓s_62_44_22, ↓s_62_44_48, ↓s_62_47, ↓s_62_48, ↓s_63_0, ↓s_63_1_22, ↓s_63_1_48, ↓s_63_4, ↓s_63_6, ↓s_63_9, ↓s_63_10, ↓s_63_11, ↓s_63_14, ↓s_63_15, ↓s_63_16a, ↓s_63_16b, ↓s_63_17_22, ↓s_63_17_48, ↓s_63_20, ↓s_63_21, ↓s_63_22_22, ↓s_63_22_48, ↓s_63_25, ↓s_63_26, w32c_64, ↓s_72_0, ↓s_72_1_22, ↓s_72_1_48, ↓s_72_4, ↓s_72_7, ↓s_72_8, ↓s_72_11, ↓s_72_12_22, ↓s_72_12_48, ↓s_72_15, ↓s_72_16_22, ↓s_72_16_48, ↓s_72_19, ↓s_72_20, ↓s_72_21, ↓s_72_22, ↓s_72_25, ↓s_123_0, ↓s_123_1, ↓s_123_4, ↓s_123_7, ↓s_123_8, ↓s_123_9, ↓s_123_12, ↓s_123_13, ↓s_123_14, ↓s_123_17, ↓s_123_20, ↓s_123_21, ↓s_123_22, ↓s_123_25, ↓s_123_26, zio_48, zar_53, zia_53, zln_53, zit_53, zio_22, zio_55, zar_27, zia_27, zln_27, zit_27]
  have hlv : ∀ k r, (sSt 1 w o).1 = k :: r → sLv k < 1 := sSt_top (by decide) w o
  refine hg false (sSt 1 w o).1.tail cn (op - 1) (sSt 1 w o).2 _ (aFrm_set (aFrm_set (se_fv F1) rfl) rfl) (cTk_of (cTk_se T F1) (fun j => by rw [yset_o (by decide), yset_o (by decide)]) (fun j => by rw [yset_o (by decide), yset_o (by decide)]) (fun j => by rw [yset_o (by decide), yset_o (by decide)])) (cFo_close C1 (by omega) hlv) ?_ (by show (sHd l).1 ≠ 0; omega) (fun N => ?_)
  · rw [yset_d (by decide), yset_d (by decide), F1 48 9 rfl]
    exact h9
  · simp only [sy]
    rw [if_pos (show (sHd l).1 = 6 ∧ 0 < op by omega)]
end CR
end
section
theorem sTl_len {ch : Nat → Int} {n a : Nat} {l : List sT} (ha : a ≤ n) (h : sTl ch n l a) : l.length ≤ n - a + 1 := by
  obtain ⟨l', h1, h2⟩ := sTl_ex ch n (n - a) a rfl ha
  rw [sTl_u h h1]
  exact h2
theorem sTl_a {ch : Nat → Int} {n a : Nat} {l : List sT} (h : sTl ch n l a) : 1 ≤ l.length := by
  cases l with
  | nil => exact h.elim
  | cons t r => exact Nat.succ_le_succ (Nat.zero_le _)
theorem cTk_ne {ch : Nat → Int} {n : Nat} {m : yMem} {l : List sT} (h : cTk ch n m (.inr l)) : 1 ≤ l.length := by
  obtain ⟨_, _, _, _, _, e, _, ⟨a, h1, _⟩, _⟩ := h
  exact sTl_a h1
/-- an E has been told -/
def FoE (m : yMem) (f : Nat) (u : sU) : Prop := (w32 (m 48 4) = (u.2.2.2.length : Int) ∧ cKs m u.2.2.2) ∧ w32 (m 48 8) = (u.2.1 : Int) ∧ u.2.2.2.length ≤ u.2.1 ∧ u.2.1 ≤ 64 ∧ w32 (m 52 f) = (u.2.2.2.length : Int)
def ftF (b m : yMem) (f : Nat) : Prop := ∀ i j, amod fvW i j = false → ¬ (i = 52 ∧ j = f) → m i j = b i j
def yOf (x : sX) : sY := match x with
  | .inl e => .inl e
  | .inr u => .inr u.1
section CS
variable {E : yE} {b m : yMem} {Q : Option yV → yMem → Prop} {ch : Nat → Int} {n : Nat} {d f : Nat} {F : Int} {x : sX}
/-- behind the loop -/
theorem gt77 (hE : yEok E) (hd : 6 ≤ d) (hf : f < 5) (hF : w32 F = (f : Int)) {w : List Nat} {cn op : Nat} {o : sK} {g i : Int} (F0 : aFrm fvW b m) (T : cTk ch n m (yOf x)) (C : cFo m w cn op o) (hx : ∀ u, x = .inr u → u = (u.1, cn, op, (sSt 1 w o).2)) (fin : ∀ m', ftF b m' f → cTk ch n m' (yOf x) → (∀ u, x = .inr u → FoE m' f u) → Q none m') : zG E (d + 1) xm_71 77 [some (1, 48), some (0, F), some (1, 55), some (0, g), some (0, i)] [] m Q := by
  have hFt : (w32 F).toNat = f := by rw [hF]; exact Int.toNat_natCast _
  refine zgo_ok (n := 60) hE xmo_71 (cs := zc_71) ?_
  simp only [ynok_30, ynok_31, w32c_0, w32c_1, w32c_2, w32c_3, w32c_4, w32c_5, w32c_6, w32c_7, w32c_8, w32c_9, w32c_10, w32c_11, w32c_12, w32c_13, w32c_14, w32c_m1, w32c_m2, w32c_118, Int.reduceAdd, Int.reduceSub, Int.reduceMul, yput_s, yput_n, znl_n, znl_0, znl_1, znl_4, ysum_n, ysum_0, ysum_1, ysum_4, true_and, and_true, Nat.reduceAdd, Nat.reduceLeDiff, true_implies, eq_self, true_or, or_true, or_false, false_or, not_true_eq_false, not_false_eq_true, false_implies, implies_true, yset_s, yset_o, yset_d, ne_eq, Nat.reduceEqDiff, Int.reduceToNat, Int.reduceEq, Int.reduceLE, Int.reduceLT, Classical.not_not, Nat.reduceLT, ↓zvk_s, ↓zvk_n, ↓s_71_0, ↓s_71_1_22, ↓s_71_1_48, ↓s_71_4, ↓s_71_5, ↓s_71_6_22, ↓s_71_6_48, ↓s_71_9, ↓s_71_10, ↓s_71_11, ↓s_71_12_22, ↓s_71_12_48, ↓s_71_15, ↓s_71_16, ↓s_71_17_22, ↓s_71_17_48, ↓s_71_20, ↓s_71_21, ↓s_71_22_22, ↓s_71_22_48, ↓s_71_25, ↓s_71_26n, ↓s_71_26i, ↓s_71_26p, ↓s_71_27, ↓s_71_28n, ↓s_71_28i, ↓s_71_28p, ↓g_71_30, ↓k_71_30, ↓s_71_32, ↓s_71_35, ↓s_71_38, ↓s_71_39, ↓s_71_42, ↓s_71_43_22, ↓s_71_43_48, ↓s_71_46, ↓s_71_49, ↓s_71_50, ↓s_71_51, ↓s_71_54, ↓s_71_57, ↓s_71_58, ↓s_71_59, ↓g_71_62n, ↓g_71_62i, ↓g_71_62p, ↓k_71_62, ↓s_71_63, ↓s_71_64, ↓s_71_67, ↓s_71_68, ↓g_71_71n, ↓g_71_71i, ↓g_71_71p, ↓k_71_71, ↓s_71_74, ↓g_71_77, ↓k_71_77, ↓s_71_78, ↓s_71_79, ↓s_71_82, ↓s_71_83_22, ↓s_71_83_48, ↓s_71_86, ↓s_71_87, ↓s_71_88_22, ↓s_71_88_48, ↓s_71_91, ↓s_71_92, w32c_800, zio_48, zar_51, zia_51, zln_51, zit_51, zar_52, zia_52, zln_52, zit_52, zio_22, zio_55, zar_25, zia_25, zln_25, zit_25, zar_26, zia_26, zln_26, zit_26]
  refine g_settle hE (by omega) (l := 1) (L := 1) (by decide) (by decide) C (fun m' F1 C1 => ?_)
  refine zgk_n hE xmo_71 60 zc_71 ?_
  simp only [ynok_30, ynok_31, w32c_0, w32c_1, w32c_2, w32c_3, w32c_4, w32c_5, w32c_6, w32c_7, w32c_8, w32c_9, w32c_10, w32c_11, w32c_12, w32c_13, w32c_14, w32c_m1, w32c_m2, w32c_118, Int.reduceAdd, Int.reduceSub, Int.reduceMul, yput_s, yput_n, znl_n, znl_0, znl_1, znl_4, ysum_n, ysum_0, ysum_1, ysum_4, true_and, and_true, Nat.reduceAdd, Nat.reduceLeDiff, true_implies, eq_self, true_or, or_true, or_false, false_or, not_true_eq_false, not_false_eq_true, false_implies, implies_true, yset_s, yset_o, yset_d, ne_eq, Nat.reduceEqDiff, Int.reduceToNat, Int.reduceEq, Int.reduceLE, Int.reduceLT, Classical.not_not, Nat.reduceLT, ↓zvk_s, ↓zvk_n, ↓s_71_0, ↓s_71_1_22, ↓s_71_1_48, ↓s_71_4, ↓s_71_5, ↓s_71_6_22, ↓s_71_6_48, ↓s_71_9, ↓s_71_10, ↓s_71_11, ↓s_71_12_22, ↓s_71_12_48, ↓s_71_15, ↓s_71_16, ↓s_71_17_22, ↓s_71_17_48, ↓s_71_20, ↓s_71_21, ↓s_71_22_22, ↓s_71_22_48, ↓s_71_25, ↓s_71_26n, ↓s_71_26i, ↓s_71_26p, ↓s_71_27, ↓s_71_28n, ↓s_71_28i, ↓s_71_28p, ↓g_71_30, ↓k_71_30, ↓s_71_32, ↓s_71_35, ↓s_71_38, ↓s_71_39, ↓s_71_42, ↓s_71_43_22, ↓s_71_43_48, ↓s_71_46, ↓s_71_49, ↓s_71_50, ↓s_71_51, ↓s_71_54, ↓s_71_57, ↓s_71_58, ↓s_71_59, ↓g_71_62n, ↓g_71_62i, ↓g_71_62p, ↓k_71_62, ↓s_71_63, ↓s_71_64, ↓s_71_67, ↓s_71_68, ↓g_71_71n, ↓g_71_71i, ↓g_71_71p, ↓k_71_71, ↓s_71_74, ↓g_71_77, ↓k_71_77, ↓s_71_78, ↓s_71_79, ↓s_71_82, ↓s_71_83_22, ↓s_71_83_48, ↓s_71_86, ↓s_71_87, ↓s_71_88_22, ↓s_71_88_48, ↓s_71_91, ↓s_71_92, w32c_800, zio_48, zar_51, zia_51, zln_51, zit_51, zar_52, zia_52, zln_52, zit_52, zio_22, zio_55, zar_25, zia_25, zln_25, zit_25, zar_26, zia_26, zln_26, zit_26]
  rw [hFt]
  refine ⟨⟨by omega, by omega⟩, fin _ (fun i j h1 h2 => ?_) (cTk_of (cTk_se T F1) (fun j => yset_o (by decide)) (fun j => yset_o (by decide)) (fun j => yset_o (by decide))) (fun u hu => ?_)⟩
  · rw [yset_a]
    split
    · next e1 =>
      rw [if_neg (fun e2 => h2 ⟨e1, e2⟩)]
      exact aFrm_tt F0 (se_fv F1) i j h1
    · exact aFrm_tt F0 (se_fv F1) i j h1
  · obtain ⟨u1, u2, u3, u4⟩ := u
    have := hx _ hu
    injection this with _ this
    injection this with q1 this
    injection this with q2 q3
    subst q1 q2 q3
    obtain ⟨⟨a1, a2⟩, ⟨a3, a4⟩, ⟨a5, a6⟩, a7, a8, a9, a10⟩ := C1
    exact ⟨⟨by rw [yset_o (by decide)]; exact a5, cKs_eq a6 (fun j _ => yset_o (by decide)) (fun j _ => yset_o (by decide))⟩, by rw [yset_o (by decide)]; exact a3, by show (sSt 1 w o).2.length ≤ u2; omega, a8, by rw [yset_s]; exact a5⟩
theorem gt62_0 (hE : yEok E) {g i : Int} (h0 : 0 ≤ w32 i) (h1 : w32 i ≤ 800) (h : ∀ g i, zG E (d + 1) xm_71 77 [some (1, 48), some (0, F), some (1, 55), some (0, g), some (0, i)] [] m Q) : zG E (d + 1) xm_71 62 [some (1, 48), some (0, F), some (1, 55), some (0, g), some (0, i)] [(0, 0)] m Q := by
  refine zgo_ok (n := 60) hE xmo_71 (cs := zc_71) ?_
  simp only [ynok_30, ynok_31, w32c_0, w32c_1, w32c_2, w32c_3, w32c_4, w32c_5, w32c_6, w32c_7, w32c_8, w32c_9, w32c_10, w32c_11, w32c_12, w32c_13, w32c_14, w32c_m1, w32c_m2, w32c_118, Int.reduceAdd, Int.reduceSub, Int.reduceMul, yput_s, yput_n, znl_n, znl_0, znl_1, znl_4, ysum_n, ysum_0, ysum_1, ysum_4, true_and, and_true, Nat.reduceAdd, Nat.reduceLeDiff, true_implies, eq_self, true_or, or_true, or_false, false_or, not_true_eq_false, not_false_eq_true, false_implies, implies_true, yset_s, yset_o, yset_d, ne_eq, Nat.reduceEqDiff, Int.reduceToNat, Int.reduceEq, Int.reduceLE, Int.reduceLT, Classical.not_not, Nat.reduceLT, ↓zvk_s, ↓zvk_n, ↓s_71_0, ↓s_71_1_22, ↓s_71_1_48, ↓s_71_4, ↓s_71_5, ↓s_71_6_22, ↓s_71_6_48, ↓s_71_9, ↓s_71_10, ↓s_71_11, ↓s_71_12_22, ↓s_71_12_48, ↓s_71_15, ↓s_71_16, ↓s_71_17_22, ↓s_71_17_48, ↓s_71_20, ↓s_71_21, ↓s_71_22_22, ↓s_71_22_48, ↓s_71_25, ↓s_71_26n, ↓s_71_26i, ↓s_71_26p, ↓s_71_27, ↓s_71_28n, ↓s_71_28i, ↓s_71_28p, ↓g_71_30, ↓k_71_30, ↓s_71_32, ↓s_71_35, ↓s_71_38, ↓s_71_39, ↓s_71_42, ↓s_71_43_22, ↓s_71_43_48, ↓s_71_46, ↓s_71_49, ↓s_71_50, ↓s_71_51, ↓s_71_54, ↓s_71_57, ↓s_71_58, ↓s_71_59, ↓g_71_62n, ↓g_71_62i, ↓g_71_62p, ↓k_71_62, ↓s_71_63, ↓s_71_64, ↓s_71_67, ↓s_71_68, ↓g_71_71n, ↓g_71_71i, ↓g_71_71p, ↓k_71_71, ↓s_71_74, ↓g_71_77, ↓k_71_77, ↓s_71_78, ↓s_71_79, ↓s_71_82, ↓s_71_83_22, ↓s_71_83_48, ↓s_71_86, ↓s_71_87, ↓s_71_88_22, ↓s_71_88_48, ↓s_71_91, ↓s_71_92, w32c_800, zio_48, zar_51, zia_51, zln_51, zit_51, zar_52, zia_52, zln_52, zit_52, zio_22, zio_55, zar_25, zia_25, zln_25, zit_25, zar_26, zia_26, zln_26, zit_26]
  refine zgo_ok (n := 60) hE xmo_71 (cs := zc_71) ?_
  simp only [ynok_30, ynok_31, w32c_0, w32c_1, w32c_2, w32c_3, w32c_4, w32c_5, w32c_6, w32c_7, w32c_8, w32c_9, w32c_10, w32c_11, w32c_12, w32c_13, w32c_14, w32c_m1, w32c_m2, w32c_118, Int.reduceAdd, Int.reduceSub, Int.reduceMul, yput_s, yput_n, znl_n, znl_0, znl_1, znl_4, ysum_n, ysum_0, ysum_1, ysum_4, true_and, and_true, Nat.reduceAdd, Nat.reduceLeDiff, true_implies, eq_self, true_or, or_true, or_false, false_or, not_true_eq_false, not_false_eq_true, false_implies, implies_true, yset_s, yset_o, yset_d, ne_eq, Nat.reduceEqDiff, Int.reduceToNat, Int.reduceEq, Int.reduceLE, Int.reduceLT, Classical.not_not, Nat.reduceLT, ↓zvk_s, ↓zvk_n, ↓s_71_0, ↓s_71_1_22, ↓s_71_1_48, ↓s_71_4, ↓s_71_5, ↓s_71_6_22, ↓s_71_6_48, ↓s_71_9, ↓s_71_10, ↓s_71_11, ↓s_71_12_22, ↓s_71_12_48, ↓s_71_15, ↓s_71_16, ↓s_71_17_22, ↓s_71_17_48, ↓s_71_20, ↓s_71_21, ↓s_71_22_22, ↓s_71_22_48, ↓s_71_25, ↓s_71_26n, ↓s_71_26i, ↓s_71_26p, ↓s_71_27, ↓s_71_28n, ↓s_71_28i, ↓s_71_28p, ↓g_71_30, ↓k_71_30, ↓s_71_32, ↓s_71_35, ↓s_71_38, ↓s_71_39, ↓s_71_42, ↓s_71_43_22, ↓s_71_43_48, ↓s_71_46, ↓s_71_49, ↓s_71_50, ↓s_71_51, ↓s_71_54, ↓s_71_57, ↓s_71_58, ↓s_71_59, ↓g_71_62n, ↓g_71_62i, ↓g_71_62p, ↓k_71_62, ↓s_71_63, ↓s_71_64, ↓s_71_67, ↓s_71_68, ↓g_71_71n, ↓g_71_71i, ↓g_71_71p, ↓k_71_71, ↓s_71_74, ↓g_71_77, ↓k_71_77, ↓s_71_78, ↓s_71_79, ↓s_71_82, ↓s_71_83_22, ↓s_71_83_48, ↓s_71_86, ↓s_71_87, ↓s_71_88_22, ↓s_71_88_48, ↓s_71_91, ↓s_71_92, w32c_800, zio_48, zar_51, zia_51, zln_51, zit_51, zar_52, zia_52, zln_52, zit_52, zio_22, zio_55, zar_25, zia_25, zln_25, zit_25, zar_26, zia_26, zln_26, zit_26]
  refine zgo_ok (n := 60) hE xmo_71 (cs := zc_71) ?_
  simp only [ynok_30, ynok_31, w32c_0, w32c_1, w32c_2, w32c_3, w32c_4, w32c_5, w32c_6, w32c_7, w32c_8, w32c_9, w32c_10, w32c_11, w32c_12, w32c_13, w32c_14, w32c_m1, w32c_m2, w32c_118, Int.reduceAdd, Int.reduceSub, Int.reduceMul, yput_s, yput_n, znl_n, znl_0, znl_1, znl_4, ysum_n, ysum_0, ysum_1, ysum_4, true_and, and_true, Nat.reduceAdd, Nat.reduceLeDiff, true_implies, eq_self, true_or, or_true, or_false, false_or, not_true_eq_false, not_false_eq_true, false_implies, implies_true, yset_s, yset_o, yset_d, ne_eq, Nat.reduceEqDiff, Int.reduceToNat, Int.reduceEq, Int.reduceLE, Int.reduceLT, Classical.not_not, Nat.reduceLT, ↓zvk_s, ↓zvk_n, ↓s_71_0, ↓s_71_1_22, ↓s_71_1_48, ↓s_71_4, ↓s_71_5, ↓s_71_6_22, ↓s_71_6_48, ↓s_71_9, ↓s_71_10, ↓s_71_11, ↓s_71_12_22, ↓s_71_12_48, ↓s_71_15, ↓s_71_16, ↓s_71_17_22, ↓s_71_17_48, ↓s_71_20, ↓s_71_21, ↓s_71_22_22, ↓s_71_22_48, ↓s_71_25, ↓s_71_26n, ↓s_71_26i, ↓s_71_26p, ↓s_71_27, ↓s_71_28n, ↓s_71_28i, ↓s_71_28p, ↓g_71_30, ↓k_71_30, ↓s_71_32, ↓s_71_35, ↓s_71_38, ↓s_71_39, ↓s_71_42, ↓s_71_43_22, ↓s_71_43_48, ↓s_71_46, ↓s_71_49, ↓s_71_50, ↓s_71_51, ↓s_71_54, ↓s_71_57, ↓s_71_58, ↓s_71_59, ↓g_71_62n, ↓g_71_62i, ↓g_71_62p, ↓k_71_62, ↓s_71_63, ↓s_71_64, ↓s_71_67, ↓s_71_68, ↓g_71_71n, ↓g_71_71i, ↓g_71_71p, ↓k_71_71, ↓s_71_74, ↓g_71_77, ↓k_71_77, ↓s_71_78, ↓s_71_79, ↓s_71_82, ↓s_71_83_22, ↓s_71_83_48, ↓s_71_86, ↓s_71_87, ↓s_71_88_22, ↓s_71_88_48, ↓s_71_91, ↓s_71_92, w32c_800, zio_48, zar_51, zia_51, zln_51, zit_51, zar_52, zia_52, zln_52, zit_52, zio_22, zio_55, zar_25, zia_25, zln_25, zit_25, zar_26, zia_26, zln_26, zit_26]
  exact ⟨fun _ => h _ _, fun _ => h _ _⟩
theorem gt62_1 (hE : yEok E) (hd : 4 ≤ d) {y : sY} {g i : Int} (T : cTk ch n m y) (h : ∀ m', aFrm cfF m m' → cTk ch n m' (yNx y) → zG E (d + 1) xm_71 30 [some (1, 48), some (0, F), some (1, 55), some (0, 1), some (0, i + 1)] [] m' Q) : zG E (d + 1) xm_71 62 [some (1, 48), some (0, F), some (1, 55), some (0, g), some (0, i)] [(0, 1)] m Q := by
  refine zgo_ok (n := 60) hE xmo_71 (cs := zc_71) ?_
  simp only [ynok_30, ynok_31, w32c_0, w32c_1, w32c_2, w32c_3, w32c_4, w32c_5, w32c_6, w32c_7, w32c_8, w32c_9, w32c_10, w32c_11, w32c_12, w32c_13, w32c_14, w32c_m1, w32c_m2, w32c_118, Int.reduceAdd, Int.reduceSub, Int.reduceMul, yput_s, yput_n, znl_n, znl_0, znl_1, znl_4, ysum_n, ysum_0, ysum_1, ysum_4, true_and, and_true, Nat.reduceAdd, Nat.reduceLeDiff, true_implies, eq_self, true_or, or_true, or_false, false_or, not_true_eq_false, not_false_eq_true, false_implies, implies_true, yset_s, yset_o, yset_d, ne_eq, Nat.reduceEqDiff, Int.reduceToNat, Int.reduceEq, Int.reduceLE, Int.reduceLT, Classical.not_not, Nat.reduceLT, ↓zvk_s, ↓zvk_n, ↓s_71_0, ↓s_71_1_22, ↓s_71_1_48, ↓s_71_4, ↓s_71_5, ↓s_71_6_22, ↓s_71_6_48, ↓s_71_9, ↓s_71_10, ↓s_71_11, ↓s_71_12_22, ↓s_71_12_48, ↓s_71_15, ↓s_71_16, ↓s_71_17_22, ↓s_71_17_48, ↓s_71_20, ↓s_71_21, ↓s_71_22_22, ↓s_71_22_48, ↓s_71_25, ↓s_71_26n, ↓s_71_26i, ↓s_71_26p, ↓s_71_27, ↓s_71_28n, ↓s_71_28i, ↓s_71_28p, ↓g_71_30, ↓k_71_30, ↓s_71_32, ↓s_71_35, ↓s_71_38, ↓s_71_39, ↓s_71_42, ↓s_71_43_22, ↓s_71_43_48, ↓s_71_46, ↓s_71_49, ↓s_71_50, ↓s_71_51, ↓s_71_54, ↓s_71_57, ↓s_71_58, ↓s_71_59, ↓g_71_62n, ↓g_71_62i, ↓g_71_62p, ↓k_71_62, ↓s_71_63, ↓s_71_64, ↓s_71_67, ↓s_71_68, ↓g_71_71n, ↓g_71_71i, ↓g_71_71p, ↓k_71_71, ↓s_71_74, ↓g_71_77, ↓k_71_77, ↓s_71_78, ↓s_71_79, ↓s_71_82, ↓s_71_83_22, ↓s_71_83_48, ↓s_71_86, ↓s_71_87, ↓s_71_88_22, ↓s_71_88_48, ↓s_71_91, ↓s_71_92, w32c_800, zio_48, zar_51, zia_51, zln_51, zit_51, zar_52, zia_52, zln_52, zit_52, zio_22, zio_55, zar_25, zia_25, zln_25, zit_25, zar_26, zia_26, zln_26, zit_26]
  refine g_next hE (by omega) T (fun m' F1 T1 => ?_)
  refine zgo_ok (n := 60) hE xmo_71 (cs := zc_71) ?_
  simp only [ynok_30, ynok_31, w32c_0, w32c_1, w32c_2, w32c_3, w32c_4, w32c_5, w32c_6, w32c_7, w32c_8, w32c_9, w32c_10, w32c_11, w32c_12, w32c_13, w32c_14, w32c_m1, w32c_m2, w32c_118, Int.reduceAdd, Int.reduceSub, Int.reduceMul, yput_s, yput_n, znl_n, znl_0, znl_1, znl_4, ysum_n, ysum_0, ysum_1, ysum_4, true_and, and_true, Nat.reduceAdd, Nat.reduceLeDiff, true_implies, eq_self, true_or, or_true, or_false, false_or, not_true_eq_false, not_false_eq_true, false_implies, implies_true, yset_s, yset_o, yset_d, ne_eq, Nat.reduceEqDiff, Int.reduceToNat, Int.reduceEq, Int.reduceLE, Int.reduceLT, Classical.not_not, Nat.reduceLT, ↓zvk_s, ↓zvk_n, ↓s_71_0, ↓s_71_1_22, ↓s_71_1_48, ↓s_71_4, ↓s_71_5, ↓s_71_6_22, ↓s_71_6_48, ↓s_71_9, ↓s_71_10, ↓s_71_11, ↓s_71_12_22, ↓s_71_12_48, ↓s_71_15, ↓s_71_16, ↓s_71_17_22, ↓s_71_17_48, ↓s_71_20, ↓s_71_21, ↓s_71_22_22, ↓s_71_22_48, ↓s_71_25, ↓s_71_26n, ↓s_71_26i, ↓s_71_26p, ↓s_71_27, ↓s_71_28n, ↓s_71_28i, ↓s_71_28p, ↓g_71_30, ↓k_71_30, ↓s_71_32, ↓s_71_35, ↓s_71_38, ↓s_71_39, ↓s_71_42, ↓s_71_43_22, ↓s_71_43_48, ↓s_71_46, ↓s_71_49, ↓s_71_50, ↓s_71_51, ↓s_71_54, ↓s_71_57, ↓s_71_58, ↓s_71_59, ↓g_71_62n, ↓g_71_62i, ↓g_71_62p, ↓k_71_62, ↓s_71_63, ↓s_71_64, ↓s_71_67, ↓s_71_68, ↓g_71_71n, ↓g_71_71i, ↓g_71_71p, ↓k_71_71, ↓s_71_74, ↓g_71_77, ↓k_71_77, ↓s_71_78, ↓s_71_79, ↓s_71_82, ↓s_71_83_22, ↓s_71_83_48, ↓s_71_86, ↓s_71_87, ↓s_71_88_22, ↓s_71_88_48, ↓s_71_91, ↓s_71_92, w32c_800, zio_48, zar_51, zia_51, zln_51, zit_51, zar_52, zia_52, zln_52, zit_52, zio_22, zio_55, zar_25, zia_25, zln_25, zit_25, zar_26, zia_26, zln_26, zit_26]
  exact h m' F1 T1
theorem gt30 (hE : yEok E) (hd : 6 ≤ d) (hf : f < 5) (hF : w32 F = (f : Int)) (hx0 : ∀ e, x = .inl e → e.1 ≠ 0) (fin : ∀ m', ftF b m' f → cTk ch n m' (yOf x) → (∀ u, x = .inr u → FoE m' f u) → Q none m') : ∀ (N : Nat) (v : Bool) (w : List Nat) (l : List sT) (cn op : Nat) (o : sK) (m : yMem) (g i : Int), sy N v w (l, cn, op, o) = x → aFrm fvW b m → cTk ch n m (.inr l) → cFo m w cn op o → w32 (m 48 9) = (if v then 1 else 0) → w32 g = 1 → 0 ≤ w32 i → w32 i + (l.length : Int) ≤ 801 → zG E (d + 1) xm_71 30 [some (1, 48), some (0, F), some (1, 55), some (0, g), some (0, i)] [] m Q := by
  intro N
  induction N with
  | zero =>
    intro v w l cn op o m g i hs
    exact absurd rfl (hx0 (0, 0) (by rw [← hs]; rfl))
  | succ N ih =>
    intro v w l cn op o m g i hs F0 T C h9 hg h0 hi
    have hl := cTk_ne T
    refine zgo_ok (n := 60) hE xmo_71 (cs := zc_71) ?_
    simp only [ynok_30, ynok_31, w32c_0, w32c_1, w32c_2, w32c_3, w32c_4, w32c_5, w32c_6, w32c_7, w32c_8, w32c_9, w32c_10, w32c_11, w32c_12, w32c_13, w32c_14, w32c_m1, w32c_m2, w32c_118, Int.reduceAdd, Int.reduceSub, Int.reduceMul, yput_s, yput_n, znl_n, znl_0, znl_1, znl_4, ysum_n, ysum_0, ysum_1, ysum_4, true_and, and_true, Nat.reduceAdd, Nat.reduceLeDiff, true_implies, eq_self, true_or, or_true, or_false, false_or, not_true_eq_false, not_false_eq_true, false_implies, implies_true, yset_s, yset_o, yset_d, ne_eq, Nat.reduceEqDiff, Int.reduceToNat, Int.reduceEq, Int.reduceLE, Int.reduceLT, Classical.not_not, Nat.reduceLT, ↓zvk_s, ↓zvk_n, ↓s_71_0, ↓s_71_1_22, ↓s_71_1_48, ↓s_71_4, ↓s_71_5, ↓s_71_6_22, ↓s_71_6_48, ↓s_71_9, ↓s_71_10, ↓s_71_11, ↓s_71_12_22, ↓s_71_12_48, ↓s_71_15, ↓s_71_16, ↓s_71_17_22, ↓s_71_17_48, ↓s_71_20, ↓s_71_21, ↓s_71_22_22, ↓s_71_22_48, ↓s_71_25, ↓s_71_26n, ↓s_71_26i, ↓s_71_26p, ↓s_71_27, ↓s_71_28n, ↓s_71_28i, ↓s_71_28p, ↓g_71_30, ↓k_71_30, ↓s_71_32, ↓s_71_35, ↓s_71_38, ↓s_71_39, ↓s_71_42, ↓s_71_43_22, ↓s_71_43_48, ↓s_71_46, ↓s_71_49, ↓s_71_50, ↓s_71_51, ↓s_71_54, ↓s_71_57, ↓s_71_58, ↓s_71_59, ↓g_71_62n, ↓g_71_62i, ↓g_71_62p, ↓k_71_62, ↓s_71_63, ↓s_71_64, ↓s_71_67, ↓s_71_68, ↓g_71_71n, ↓g_71_71i, ↓g_71_71p, ↓k_71_71, ↓s_71_74, ↓g_71_77, ↓k_71_77, ↓s_71_78, ↓s_71_79, ↓s_71_82, ↓s_71_83_22, ↓s_71_83_48, ↓s_71_86, ↓s_71_87, ↓s_71_88_22, ↓s_71_88_48, ↓s_71_91, ↓s_71_92, w32c_800, zio_48, zar_51, zia_51, zln_51, zit_51, zar_52, zia_52, zln_52, zit_52, zio_22, zio_55, zar_25, zia_25, zln_25, zit_25, zar_26, zia_26, zln_26, zit_26]
    rw [h9, hg]
    have hf0 : ∀ v, sy (N + 1) v w (l, cn, op, o) = x → hFa ch n (fun r m' => ∀ r', r = some (0, r') → zG E (d + 1) xm_71 62 [some (1, 48), some (0, F), some (1, 55), some (0, g), some (0, i)] [(0, r')] m' Q) m v w (l, cn, op, o) := fun v hs ff m' F1 T1 C1 es r' hr => by
      injection hr with hr
      injection hr with _ hr
      subst hr
      obtain ⟨w', cn', op', o', C1⟩ := C1
      have ex : x = .inl (ff, (sHd l).2.1) := by rw [← hs]; exact es N
      refine gt62_0 hE h0 (by omega) (fun g i => gt77 hE hd hf hF (aFrm_tt F0 F1) (by rw [ex]; exact T1) C1 (fun u hu => ?_) fin)
      rw [ex] at hu
      cases hu
    have hg0 : ∀ v, sy (N + 1) v w (l, cn, op, o) = x → hGo ch n (fun r m' => ∀ r', r = some (0, r') → zG E (d + 1) xm_71 62 [some (1, 48), some (0, F), some (1, 55), some (0, g), some (0, i)] [(0, r')] m' Q) m v w (l, cn, op, o) := fun v hs v' w' cn' op' o' m' F1 T1 C1 h9' hn0 es r' hr => by
      injection hr with hr
      injection hr with _ hr
      subst hr
      refine gt62_1 hE (by omega) T1 (fun m2 F2 T2 => ?_)
      have e1 : w32 (i + 1) = w32 i + 1 := by rw [w32_ad (by rw [w32c_1]; omega) (by rw [w32c_1]; omega), w32c_1]
      have en : yNx (.inr l) = .inr l.tail := by
        show Sum.inr (if _ then _ else _) = _
        rw [if_neg hn0]
      rw [en] at T2
      have ht : l.tail.length = l.length - 1 := List.length_tail
      refine ih v' w' l.tail cn' op' o' m2 1 (i + 1) (by rw [← hs, es N]) (aFrm_tt (aFrm_tt F0 F1) (cf_fv F2)) T2 (cFo_cf C1 F2) (by rw [F2 48 9 (amod_n55 (by decide))]; exact h9') w32c_1 (by omega) (by omega)
    refine ⟨fun h => absurd h (by omega), fun _ => ⟨fun h => absurd h (by decide), fun _ => ⟨fun hv => ?_, fun hv => ?_⟩⟩⟩
    · have hv' : v = false := by
        cases v with
        | false => rfl
        | true => exact absurd hv (by decide)
      subst hv'
      refine g_readSign hE (by omega) T C h9 (fun ff m' q1 q2 q3 q4 => hf0 false hs ff m' q1 q2 q3 q4 0 rfl) (fun v' w' cn' op' o' m' q1 q2 q3 q4 q5 q6 => hg0 false hs v' w' cn' op' o' m' q1 q2 q3 q4 q5 q6 1 rfl) (fun m' F1 T1 C1 es => ?_)
      have ex : x = .inr (l, cn, op, (sSt 1 w o).2) := by rw [← hs]; exact es N
      refine gt62_0 hE h0 (by omega) (fun g i => gt77 hE hd hf hF (aFrm_tt F0 F1) (by rw [ex]; exact T1) C1 (fun u hu => ?_) fin)
      rw [ex] at hu
      injection hu with hu
      rw [← hu]
    · have hv' : v = true := by
        cases v with
        | true => rfl
        | false => exact absurd (by decide) hv
      subst hv'
      refine g_readValue hE (by omega) T C h9 (fun ff m' q1 q2 q3 q4 => ?_) (fun v' w' cn' op' o' m' q1 q2 q3 q4 q5 q6 => ?_)
      · refine zgk_s hE xmo_71 60 zc_71 ?_
        simp only [ynok_30, ynok_31, w32c_0, w32c_1, w32c_2, w32c_3, w32c_4, w32c_5, w32c_6, w32c_7, w32c_8, w32c_9, w32c_10, w32c_11, w32c_12, w32c_13, w32c_14, w32c_m1, w32c_m2, w32c_118, Int.reduceAdd, Int.reduceSub, Int.reduceMul, yput_s, yput_n, znl_n, znl_0, znl_1, znl_4, ysum_n, ysum_0, ysum_1, ysum_4, true_and, and_true, Nat.reduceAdd, Nat.reduceLeDiff, true_implies, eq_self, true_or, or_true, or_false, false_or, not_true_eq_false, not_false_eq_true, false_implies, implies_true, yset_s, yset_o, yset_d, ne_eq, Nat.reduceEqDiff, Int.reduceToNat, Int.reduceEq, Int.reduceLE, Int.reduceLT, Classical.not_not, Nat.reduceLT, ↓zvk_s, ↓zvk_n, ↓s_71_0, ↓s_71_1_22, ↓s_71_1_48, ↓s_71_4, ↓s_71_5, ↓s_71_6_22, ↓s_71_6_48, ↓s_71_9, ↓s_71_10, ↓s_71_11, ↓s_71_12_22, ↓s_71_12_48, ↓s_71_15, ↓s_71_16, ↓s_71_17_22, ↓s_71_17_48, ↓s_71_20, ↓s_71_21, ↓s_71_22_22, ↓s_71_22_48, ↓s_71_25, ↓s_71_26n, ↓s_71_26i, ↓s_71_26p, ↓s_71_27, ↓s_71_28n, ↓s_71_28i, ↓s_71_28p, ↓g_71_30, ↓k_71_30, ↓s_71_32, ↓s_71_35, ↓s_71_38, ↓s_71_39, ↓s_71_42, ↓s_71_43_22, ↓s_71_43_48, ↓s_71_46, ↓s_71_49, ↓s_71_50, ↓s_71_51, ↓s_71_54, ↓s_71_57, ↓s_71_58, ↓s_71_59, ↓g_71_62n, ↓g_71_62i, ↓g_71_62p, ↓k_71_62, ↓s_71_63, ↓s_71_64, ↓s_71_67, ↓s_71_68, ↓g_71_71n, ↓g_71_71i, ↓g_71_71p, ↓k_71_71, ↓s_71_74, ↓g_71_77, ↓k_71_77, ↓s_71_78, ↓s_71_79, ↓s_71_82, ↓s_71_83_22, ↓s_71_83_48, ↓s_71_86, ↓s_71_87, ↓s_71_88_22, ↓s_71_88_48, ↓s_71_91, ↓s_71_92, w32c_800, zio_48, zar_51, zia_51, zln_51, zit_51, zar_52, zia_52, zln_52, zit_52, zio_22, zio_55, zar_25, zia_25, zln_25, zit_25, zar_26, zia_26, zln_26, zit_26]
        exact hf0 true hs ff m' q1 q2 q3 q4 0 rfl
      · refine zgk_s hE xmo_71 60 zc_71 ?_
        simp only [ynok_30, ynok_31, w32c_0, w32c_1, w32c_2, w32c_3, w32c_4, w32c_5, w32c_6, w32c_7, w32c_8, w32c_9, w32c_10, w32c_11, w32c_12, w32c_13, w32c_14, w32c_m1, w32c_m2, w32c_118, Int.reduceAdd, Int.reduceSub, Int.reduceMul, yput_s, yput_n, znl_n, znl_0, znl_1, znl_4, ysum_n, ysum_0, ysum_1, ysum_4, true_and, and_true, Nat.reduceAdd, Nat.reduceLeDiff, true_implies, eq_self, true_or, or_true, or_false, false_or, not_true_eq_false, not_false_eq_true, false_implies, implies_true, yset_s, yset_o, yset_d, ne_eq, Nat.reduceEqDiff, Int.reduceToNat, Int.reduceEq, Int.reduceLE, Int.reduceLT, Classical.not_not, Nat.reduceLT, ↓zvk_s, ↓zvk_n, ↓s_71_0, ↓s_71_1_22, ↓s_71_1_48, ↓s_71_4, ↓s_71_5, ↓s_71_6_22, ↓s_71_6_48, ↓s_71_9, ↓s_71_10, ↓s_71_11, ↓s_71_12_22, ↓s_71_12_48, ↓s_71_15, ↓s_71_16, ↓s_71_17_22, ↓s_71_17_48, ↓s_71_20, ↓s_71_21, ↓s_71_22_22, ↓s_71_22_48, ↓s_71_25, ↓s_71_26n, ↓s_71_26i, ↓s_71_26p, ↓s_71_27, ↓s_71_28n, ↓s_71_28i, ↓s_71_28p, ↓g_71_30, ↓k_71_30, ↓s_71_32, ↓s_71_35, ↓s_71_38, ↓s_71_39, ↓s_71_42, ↓s_71_43_22, ↓s_71_43_48, ↓s_71_46, ↓s_71_49, ↓s_71_50, ↓s_71_51, ↓s_71_54, ↓s_71_57, ↓s_71_58, ↓s_71_59, ↓g_71_62n, ↓g_71_62i, ↓g_71_62p, ↓k_71_62, ↓s_71_63, ↓s_71_64, ↓s_71_67, ↓s_71_68, ↓g_71_71n, ↓g_71_71i, ↓g_71_71p, ↓k_71_71, ↓s_71_74, ↓g_71_77, ↓k_71_77, ↓s_71_78, ↓s_71_79, ↓s_71_82, ↓s_71_83_22, ↓s_71_83_48, ↓s_71_86, ↓s_71_87, ↓s_71_88_22, ↓s_71_88_48, ↓s_71_91, ↓s_71_92, w32c_800, zio_48, zar_51, zia_51, zln_51, zit_51, zar_52, zia_52, zln_52, zit_52, zio_22, zio_55, zar_25, zia_25, zln_25, zit_25, zar_26, zia_26, zln_26, zit_26]
        exact hg0 true hs v' w' cn' op' o' m' q1 q2 q3 q4 q5 q6 1 rfl
end CS
end
section
theorem sKn_z {p : Nat} {u : sU} {k : sU → sX} (h : ∀ e, k (u.1, u.2.1 + 1, u.2.2) = .inl e → e.1 ≠ 0) : ∀ e, sKn p u k = .inl e → e.1 ≠ 0 := by
  unfold sKn
  split
  · intro e he
    injection he with he
    rw [← he]
    exact (by decide : (2 : Nat) ≠ 0)
  · exact h
theorem inl_z {f p : Nat} (hf : f ≠ 0) : ∀ e, (Sum.inl (f, p) : sX) = .inl e → e.1 ≠ 0 := fun e he => by
  injection he with he
  rw [← he]
  exact hf
theorem tail_lt {l : List sT} {f : Nat} (h : l.length < f + 1) (hk : (sHd l).1 ≠ 0) : l.tail.length < f := by
  cases l with
  | nil => exact absurd rfl hk
  | cons t r =>
    have : (t :: r).length = r.length + 1 := rfl
    show r.length < f
    omega
/-- a step a token: fuel enough -/
theorem sy_fuel : ∀ (f : Nat) (v : Bool) (w : List Nat) (l : List sT) (cn op : Nat) (o : sK), l.length < f → ∀ e, sy f v w (l, cn, op, o) = .inl e → e.1 ≠ 0
  | 0, v, w, l, cn, op, o, h => absurd h (Nat.not_lt_zero _)
  | f + 1, true, w, l, cn, op, o, h => by
    simp only [sy]
    split
    · next h5 =>
      split
      · exact inl_z (by decide)
      · exact sy_fuel f true _ l.tail _ _ _ (tail_lt h (by omega))
    · split
      · next h32 =>
        exact sKn_z (sy_fuel f true _ l.tail _ _ _ (tail_lt h (by omega)))
      · split
        · exact inl_z (by decide)
        · next h2 =>
          split
          · exact inl_z (by decide)
          · exact sKn_z (sy_fuel f false _ l.tail _ _ _ (tail_lt h (by omega)))
  | f + 1, false, w, l, cn, op, o, h => by
    simp only [sy]
    split
    · next h6 => exact sy_fuel f false _ l.tail _ _ _ (tail_lt h (by omega))
    · split
      · split
        · exact inl_z (by decide)
        · intro e he
          cases he
      · next h0 =>
        have hk : (sHd l).1 ≠ 0 := fun e => h0 (Or.inl (by rw [e]; rfl))
        split
        · split
          · exact inl_z (by decide)
          · exact sKn_z (sy_fuel f true _ l.tail _ _ _ (tail_lt h hk))
        · exact sKn_z (sy_fuel f true _ l.tail _ _ _ (tail_lt h hk))
theorem sKn_m {p : Nat} {u : sU} {k k' : sU → sX} {x : sX} (h : ∀ v, k v = x → k' v = x) : sKn p u k = x → sKn p u k' = x := by
  unfold sKn
  split
  · exact fun e => e
  · exact h _
theorem sy_t (f : Nat) (w : List Nat) (l : List sT) (cn op : Nat) (o : sK) : sy (f + 1) true w (l, cn, op, o) = (if (sHd l).1 = 5 then (if op = 8 then .inl (2, (sHd l).2.1) else sy f true (5 :: w) (l.tail, cn, op + 1, o))
    else if (sHd l).1 = 32 ∧ sTp w ≤ 3 then sKn (sHd l).2.1 (l, cn, op, o) (fun u => sy f true (32 :: w) (u.1.tail, u.2))
    else if ¬ ((sHd l).1 = 2 ∨ (33 ≤ (sHd l).1 ∧ (sHd l).1 ≤ 39)) then .inl (1, (sHd l).2.1)
    else if (sHd l).1 = 2 ∧ 9999 < (sHd l).2.2 then .inl (2, (sHd l).2.1)
    else sKn (sHd l).2.1 (l, cn, op, o) (fun u => sy f false w (u.1.tail, u.2.1, u.2.2.1, ((sHd l).1, if (sHd l).1 = 2 then (sHd l).2.2 else 0) :: u.2.2.2))) := rfl
theorem sy_f (f : Nat) (w : List Nat) (l : List sT) (cn op : Nat) (o : sK) : sy (f + 1) false w (l, cn, op, o) = (if (sHd l).1 = 6 ∧ 0 < op then sy f false (sSt 1 w o).1.tail (l.tail, cn, op - 1, (sSt 1 w o).2)
    else if sLv (sHd l).1 = 0 ∨ sLv (sHd l).1 = 3 then (if 0 < op then .inl (1, (sHd l).2.1) else .inr (l, cn, op, (sSt 1 w o).2))
    else if sLv (sHd l).1 = 4 then (if sTp (sSt 5 w o).1 = 4 then .inl (1, (sHd l).2.1) else sKn (sHd l).2.1 (l, cn, op, (sSt 5 w o).2) (fun u => sy f true ((sHd l).1 :: (sSt 5 w o).1) (u.1.tail, u.2)))
    else sKn (sHd l).2.1 (l, cn, op, (sSt (sLv (sHd l).1) w o).2) (fun u => sy f true ((sHd l).1 :: (sSt (sLv (sHd l).1) w o).1) (u.1.tail, u.2))) := rfl
theorem sy_mono {x : sX} (hx : ∀ e, x = .inl e → e.1 ≠ 0) : ∀ (f : Nat) (v : Bool) (w : List Nat) (u : sU), sy f v w u = x → sy (f + 1) v w u = x
  | 0, v, w, u, h => absurd rfl (hx (0, 0) (by rw [← h]; rfl))
  | f + 1, true, w, (l, cn, op, o), h => by
    rw [sy_t] at h ⊢
    by_cases h5 : (sHd l).1 = 5
    · rw [if_pos h5] at h ⊢
      by_cases h8 : op = 8
      · rw [if_pos h8] at h ⊢; exact h
      · rw [if_neg h8] at h ⊢; exact sy_mono hx f _ _ _ h
    · rw [if_neg h5] at h ⊢
      by_cases h32 : (sHd l).1 = 32 ∧ sTp w ≤ 3
      · rw [if_pos h32] at h ⊢; exact sKn_m (fun v => sy_mono hx f _ _ _) h
      · rw [if_neg h32] at h ⊢
        by_cases h2 : ¬ ((sHd l).1 = 2 ∨ (33 ≤ (sHd l).1 ∧ (sHd l).1 ≤ 39))
        · rw [if_pos h2] at h ⊢; exact h
        · rw [if_neg h2] at h ⊢
          by_cases h9 : (sHd l).1 = 2 ∧ 9999 < (sHd l).2.2
          · rw [if_pos h9] at h ⊢; exact h
          · rw [if_neg h9] at h ⊢; exact sKn_m (fun v => sy_mono hx f _ _ _) h
  | f + 1, false, w, (l, cn, op, o), h => by
    rw [sy_f] at h ⊢
    by_cases h6 : (sHd l).1 = 6 ∧ 0 < op
    · rw [if_pos h6] at h ⊢; exact sy_mono hx f _ _ _ h
    · rw [if_neg h6] at h ⊢
      by_cases h0 : sLv (sHd l).1 = 0 ∨ sLv (sHd l).1 = 3
      · rw [if_pos h0] at h ⊢; exact h
      · rw [if_neg h0] at h ⊢
        by_cases h4 : sLv (sHd l).1 = 4
        · rw [if_pos h4] at h ⊢
          by_cases h44 : sTp (sSt 5 w o).1 = 4
          · rw [if_pos h44] at h ⊢; exact h
          · rw [if_neg h44] at h ⊢; exact sKn_m (fun v => sy_mono hx f _ _ _) h
        · rw [if_neg h4] at h ⊢; exact sKn_m (fun v => sy_mono hx f _ _ _) h
theorem sy_add {x : sX} (hx : ∀ e, x = .inl e → e.1 ≠ 0) {f : Nat} {v : Bool} {w : List Nat} {u : sU} (h : sy f v w u = x) : ∀ c, sy (f + c) v w u = x
  | 0 => h
  | c + 1 => sy_mono hx _ _ _ _ (sy_add hx h c)
/-- an E, as the class reads it -/
def pE (y : sY) (cn : Nat) (o : sK) : sX := match y with
  | .inl e => .inl e
  | .inr l => sy (l.length + 1) true [] (l, cn, 0, o)
theorem pE_en {l : List sT} {cn : Nat} {o : sK} {x : sX} (h : sEn true [] (l, cn, 0, o) x) : pE (.inr l) cn o = x := by
  obtain ⟨c, h⟩ := h
  have h1 := h (l.length + 1)
  rw [← h1]
  exact (sy_add (sy_fuel (l.length + 1) true [] l cn 0 o (Nat.lt_succ_self _)) rfl c).symm
section CT
variable {E : yE} {mem b m : yMem} {Q : Option yV → yMem → Prop} {ch : Nat → Int} {n : Nat} {d f : Nat} {F : Int} {x : sX}
theorem g_readValue0 (hE : yEok E) {D : Nat} (hD : 4 ≤ D) {e : Nat × Nat} (T : cTk ch n m (.inl e)) (hQ : Q (some (0, 0)) (yset m 55 4 0)) : yCon E D xm_68 [(1, 48), (1, 55)] m Q := by
  obtain ⟨d, rfl⟩ := Nat.exists_eq_add_of_le' hD
  have hK : w32 (m 55 4) = 0 := T.2.2.2.2.2.2.2
  have h7 : ¬ w32 (m 55 7) = 0 := fun h => T.2.2.2.2.2.1 (by have := T.2.2.2.2.1; omega)
  refine e_68 ?_
  refine zvc_ok hE 60 zc_68 _ _ _ _ _ _ _ xmo_68 ?_
  simp only [ynok_30, ynok_31, w32c_0, w32c_1, w32c_2, w32c_3, w32c_4, w32c_5, w32c_6, w32c_7, w32c_8, w32c_9, w32c_10, w32c_11, w32c_12, w32c_13, w32c_14, w32c_m1, w32c_m2, w32c_118, Int.reduceAdd, Int.reduceSub, Int.reduceMul, yput_s, yput_n, znl_n, znl_0, znl_1, znl_4, ysum_n, ysum_0, ysum_1, ysum_4, true_and, and_true, Nat.reduceAdd, Nat.reduceLeDiff, true_implies, eq_self, true_or, or_true, or_false, false_or, not_true_eq_false, not_false_eq_true, false_implies, implies_true, yset_s, yset_o, yset_d, ne_eq, Nat.reduceEqDiff, Int.reduceToNat, Int.reduceEq, Int.reduceLE, Int.reduceLT, Classical.not_not, Nat.reduceLT, ↓zvk_s, ↓zvk_n, ↓s_68_0, ↓s_68_1, ↓s_68_4n, ↓s_68_4i, ↓s_68_4p, ↓s_68_5, ↓s_68_6, ↓s_68_7, ↓s_68_10, ↓s_68_11_22, ↓s_68_11_48, ↓s_68_14, ↓s_68_16, ↓s_68_19, ↓s_68_20, ↓s_68_21, ↓s_68_24, ↓s_68_27, ↓s_68_28, ↓s_68_29, ↓s_68_32, ↓g_68_33, ↓k_68_33, ↓s_68_34, ↓s_68_36, ↓s_68_39, ↓s_68_40, ↓s_68_43, ↓s_68_44, ↓g_68_47, ↓k_68_47, ↓s_68_48, ↓s_68_49, ↓s_68_52, ↓s_68_55, ↓s_68_56, ↓s_68_57, ↓s_68_60, ↓s_68_63, ↓s_68_64, ↓s_68_67, ↓s_68_68, ↓g_68_69, ↓k_68_69, ↓s_68_70, ↓s_68_71, ↓s_68_74, ↓s_68_75, ↓s_68_77, ↓s_68_80, ↓s_68_81, ↓s_68_83, ↓s_68_86, ↓s_68_87, ↓s_68_88, ↓s_68_91, ↓g_68_92, ↓k_68_92, ↓s_68_93, ↓s_68_96, ↓s_68_99, ↓s_68_102, ↓s_68_103, ↓s_68_104, ↓s_68_107, ↓s_68_108, ↓s_68_109, ↓s_68_112, ↓g_68_113, ↓k_68_113, ↓s_68_114, ↓s_68_115_22, ↓s_68_115_48, ↓s_68_118, ↓s_68_119, ↓s_68_120, ↓s_68_123, ↓s_68_126, ↓s_68_127, ↓s_68_128, ↓s_68_129, ↓s_68_132, ↓s_68_135, ↓s_68_138, ↓s_68_139, ↓s_68_142, ↓s_68_143, w32c_32, w32c_33, w32c_39, w32c_9999, ↓s_62_0, ↓s_62_1_22, ↓s_62_1_48, ↓s_62_4, ↓s_62_5_22, ↓s_62_5_48, ↓s_62_8, ↓s_62_9, ↓s_62_12, ↓s_62_13_22, ↓s_62_13_48, ↓s_62_16, ↓s_62_17_22, ↓s_62_17_48, ↓s_62_20, ↓s_62_21, ↓s_62_22, ↓s_62_23a, ↓s_62_23b, ↓s_62_24_22, ↓s_62_24_48, ↓s_62_27, ↓s_62_28, ↓s_62_29_22, ↓s_62_29_48, ↓s_62_32, ↓s_62_33, ↓s_62_34, ↓s_62_37, ↓s_62_38a, ↓s_62_38b, ↓s_62_39_22, ↓s_62_39_48, ↓s_62_42, ↓s_62_43, ↓s_62_44_22, ↓s_62_44_48, ↓s_62_47, ↓s_62_48, ↓s_63_0, ↓s_63_1_22, ↓s_63_1_48, ↓s_63_4, ↓s_63_6, ↓s_63_9, ↓s_63_10, ↓s_63_11, ↓s_63_14, ↓s_63_15, ↓s_63_16a, ↓s_63_16b, ↓s_63_17_22, ↓s_63_17_48, ↓s_63_20, ↓s_63_21, ↓s_63_22_22, ↓s_63_22_48, ↓s_63_25, ↓s_63_26, w32c_64, ↓s_66_0, ↓s_66_1_22, ↓s_66_1_48, ↓s_66_4, ↓s_66_6, ↓s_66_9, ↓s_66_10_22, ↓s_66_10_48, ↓s_66_13, ↓s_66_14_22, ↓s_66_14_48, ↓s_66_17, ↓s_66_18, ↓s_66_19, ↓s_66_20_22, ↓s_66_20_48, ↓s_66_23, ↓s_66_24_22, ↓s_66_24_48, ↓s_66_27, ↓s_66_28, ↓s_66_29, ↓s_66_30a, ↓s_66_30b, ↓s_66_31_22, ↓s_66_31_48, ↓s_66_34, ↓s_66_35, ↓s_66_36_22, ↓s_66_36_48, ↓s_66_39, ↓s_66_40, ↓s_72_0, ↓s_72_1_22, ↓s_72_1_48, ↓s_72_4, ↓s_72_7, ↓s_72_8, ↓s_72_11, ↓s_72_12_22, ↓s_72_12_48, ↓s_72_15, ↓s_72_16_22, ↓s_72_16_48, ↓s_72_19, ↓s_72_20, ↓s_72_21, ↓s_72_22, ↓s_72_25, ↓s_123_0, ↓s_123_1, ↓s_123_4, ↓s_123_7, ↓s_123_8, ↓s_123_9, ↓s_123_12, ↓s_123_13, ↓s_123_14, ↓s_123_17, ↓s_123_20, ↓s_123_21, ↓s_123_22, ↓s_123_25, ↓s_123_26, zio_48, zar_49, zia_49, zln_49, zit_49, zar_50, zia_50, zln_50, zit_50, zar_53, zia_53, zln_53, zit_53, zio_22, zar_23, zia_23, zln_23, zit_23, zio_55, zar_24, zia_24, zln_24, zit_24, zar_27, zia_27, zln_27, zit_27]
  refine ⟨fun _ => ?_, fun h => absurd h (by omega)⟩
  refine zgo_ok (n := 80) hE xmo_68 (cs := zc_68) ?_
  simp only [ynok_30, ynok_31, w32c_0, w32c_1, w32c_2, w32c_3, w32c_4, w32c_5, w32c_6, w32c_7, w32c_8, w32c_9, w32c_10, w32c_11, w32c_12, w32c_13, w32c_14, w32c_m1, w32c_m2, w32c_118, Int.reduceAdd, Int.reduceSub, Int.reduceMul, yput_s, yput_n, znl_n, znl_0, znl_1, znl_4, ysum_n, ysum_0, ysum_1, ysum_4, true_and, and_true, Nat.reduceAdd, Nat.reduceLeDiff, true_implies, eq_self, true_or, or_true, or_false, false_or, not_true_eq_false, not_false_eq_true, false_implies, implies_true, yset_s, yset_o, yset_d, ne_eq, Nat.reduceEqDiff, Int.reduceToNat, Int.reduceEq, Int.reduceLE, Int.reduceLT, Classical.not_not, Nat.reduceLT, ↓zvk_s, ↓zvk_n, ↓s_68_0, ↓s_68_1, ↓s_68_4n, ↓s_68_4i, ↓s_68_4p, ↓s_68_5, ↓s_68_6, ↓s_68_7, ↓s_68_10, ↓s_68_11_22, ↓s_68_11_48, ↓s_68_14, ↓s_68_16, ↓s_68_19, ↓s_68_20, ↓s_68_21, ↓s_68_24, ↓s_68_27, ↓s_68_28, ↓s_68_29, ↓s_68_32, ↓g_68_33, ↓k_68_33, ↓s_68_34, ↓s_68_36, ↓s_68_39, ↓s_68_40, ↓s_68_43, ↓s_68_44, ↓g_68_47, ↓k_68_47, ↓s_68_48, ↓s_68_49, ↓s_68_52, ↓s_68_55, ↓s_68_56, ↓s_68_57, ↓s_68_60, ↓s_68_63, ↓s_68_64, ↓s_68_67, ↓s_68_68, ↓g_68_69, ↓k_68_69, ↓s_68_70, ↓s_68_71, ↓s_68_74, ↓s_68_75, ↓s_68_77, ↓s_68_80, ↓s_68_81, ↓s_68_83, ↓s_68_86, ↓s_68_87, ↓s_68_88, ↓s_68_91, ↓g_68_92, ↓k_68_92, ↓s_68_93, ↓s_68_96, ↓s_68_99, ↓s_68_102, ↓s_68_103, ↓s_68_104, ↓s_68_107, ↓s_68_108, ↓s_68_109, ↓s_68_112, ↓g_68_113, ↓k_68_113, ↓s_68_114, ↓s_68_115_22, ↓s_68_115_48, ↓s_68_118, ↓s_68_119, ↓s_68_120, ↓s_68_123, ↓s_68_126, ↓s_68_127, ↓s_68_128, ↓s_68_129, ↓s_68_132, ↓s_68_135, ↓s_68_138, ↓s_68_139, ↓s_68_142, ↓s_68_143, w32c_32, w32c_33, w32c_39, w32c_9999, ↓s_62_0, ↓s_62_1_22, ↓s_62_1_48, ↓s_62_4, ↓s_62_5_22, ↓s_62_5_48, ↓s_62_8, ↓s_62_9, ↓s_62_12, ↓s_62_13_22, ↓s_62_13_48, ↓s_62_16, ↓s_62_17_22, ↓s_62_17_48, ↓s_62_20, ↓s_62_21, ↓s_62_22, ↓s_62_23a, ↓s_62_23b, ↓s_62_24_22, ↓s_62_24_48, ↓s_62_27, ↓s_62_28, ↓s_62_29_22, ↓s_62_29_48, ↓s_62_32, ↓s_62_33, ↓s_62_34, ↓s_62_37, ↓s_62_38a, ↓s_62_38b, ↓s_62_39_22, ↓s_62_39_48, ↓s_62_42, ↓s_62_43, ↓s_62_44_22, ↓s_62_44_48, ↓s_62_47, ↓s_62_48, ↓s_63_0, ↓s_63_1_22, ↓s_63_1_48, ↓s_63_4, ↓s_63_6, ↓s_63_9, ↓s_63_10, ↓s_63_11, ↓s_63_14, ↓s_63_15, ↓s_63_16a, ↓s_63_16b, ↓s_63_17_22, ↓s_63_17_48, ↓s_63_20, ↓s_63_21, ↓s_63_22_22, ↓s_63_22_48, ↓s_63_25, ↓s_63_26, w32c_64, ↓s_66_0, ↓s_66_1_22, ↓s_66_1_48, ↓s_66_4, ↓s_66_6, ↓s_66_9, ↓s_66_10_22, ↓s_66_10_48, ↓s_66_13, ↓s_66_14_22, ↓s_66_14_48, ↓s_66_17, ↓s_66_18, ↓s_66_19, ↓s_66_20_22, ↓s_66_20_48, ↓s_66_23, ↓s_66_24_22, ↓s_66_24_48, ↓s_66_27, ↓s_66_28, ↓s_66_29, ↓s_66_30a, ↓s_66_30b, ↓s_66_31_22, ↓s_66_31_48, ↓s_66_34, ↓s_66_35, ↓s_66_36_22, ↓s_66_36_48, ↓s_66_39, ↓s_66_40, ↓s_72_0, ↓s_72_1_22, ↓s_72_1_48, ↓s_72_4, ↓s_72_7, ↓s_72_8, ↓s_72_11, ↓s_72_12_22, ↓s_72_12_48, ↓s_72_15, ↓s_72_16_22, ↓s_72_16_48, ↓s_72_19, ↓s_72_20, ↓s_72_21, ↓s_72_22, ↓s_72_25, ↓s_123_0, ↓s_123_1, ↓s_123_4, ↓s_123_7, ↓s_123_8, ↓s_123_9, ↓s_123_12, ↓s_123_13, ↓s_123_14, ↓s_123_17, ↓s_123_20, ↓s_123_21, ↓s_123_22, ↓s_123_25, ↓s_123_26, zio_48, zar_49, zia_49, zln_49, zit_49, zar_50, zia_50, zln_50, zit_50, zar_53, zia_53, zln_53, zit_53, zio_22, zar_23, zia_23, zln_23, zit_23, zio_55, zar_24, zia_24, zln_24, zit_24, zar_27, zia_27, zln_27, zit_27]
  refine ⟨fun _ => ?_, fun h => absurd h (by omega)⟩
  refine zgo_ok (n := 80) hE xmo_68 (cs := zc_68) ?_
  simp only [ynok_30, ynok_31, w32c_0, w32c_1, w32c_2, w32c_3, w32c_4, w32c_5, w32c_6, w32c_7, w32c_8, w32c_9, w32c_10, w32c_11, w32c_12, w32c_13, w32c_14, w32c_m1, w32c_m2, w32c_118, Int.reduceAdd, Int.reduceSub, Int.reduceMul, yput_s, yput_n, znl_n, znl_0, znl_1, znl_4, ysum_n, ysum_0, ysum_1, ysum_4, true_and, and_true, Nat.reduceAdd, Nat.reduceLeDiff, true_implies, eq_self, true_or, or_true, or_false, false_or, not_true_eq_false, not_false_eq_true, false_implies, implies_true, yset_s, yset_o, yset_d, ne_eq, Nat.reduceEqDiff, Int.reduceToNat, Int.reduceEq, Int.reduceLE, Int.reduceLT, Classical.not_not, Nat.reduceLT, ↓zvk_s, ↓zvk_n, ↓s_68_0, ↓s_68_1, ↓s_68_4n, ↓s_68_4i, ↓s_68_4p, ↓s_68_5, ↓s_68_6, ↓s_68_7, ↓s_68_10, ↓s_68_11_22, ↓s_68_11_48, ↓s_68_14, ↓s_68_16, ↓s_68_19, ↓s_68_20, ↓s_68_21, ↓s_68_24, ↓s_68_27, ↓s_68_28, ↓s_68_29, ↓s_68_32, ↓g_68_33, ↓k_68_33, ↓s_68_34, ↓s_68_36, ↓s_68_39, ↓s_68_40, ↓s_68_43, ↓s_68_44, ↓g_68_47, ↓k_68_47, ↓s_68_48, ↓s_68_49, ↓s_68_52, ↓s_68_55, ↓s_68_56, ↓s_68_57, ↓s_68_60, ↓s_68_63, ↓s_68_64, ↓s_68_67, ↓s_68_68, ↓g_68_69, ↓k_68_69, ↓s_68_70, ↓s_68_71, ↓s_68_74, ↓s_68_75, ↓s_68_77, ↓s_68_80, ↓s_68_81, ↓s_68_83, ↓s_68_86, ↓s_68_87, ↓s_68_88, ↓s_68_91, ↓g_68_92, ↓k_68_92, ↓s_68_93, ↓s_68_96, ↓s_68_99, ↓s_68_102, ↓s_68_103, ↓s_68_104, ↓s_68_107, ↓s_68_108, ↓s_68_109, ↓s_68_112, ↓g_68_113, ↓k_68_113, ↓s_68_114, ↓s_68_115_22, ↓s_68_115_48, ↓s_68_118, ↓s_68_119, ↓s_68_120, ↓s_68_123, ↓s_68_126, ↓s_68_127, ↓s_68_128, ↓s_68_129, ↓s_68_132, ↓s_68_135, ↓s_68_138, ↓s_68_139, ↓s_68_142, ↓s_68_143, w32c_32, w32c_33, w32c_39, w32c_9999, ↓s_62_0, ↓s_62_1_22, ↓s_62_1_48, ↓s_62_4, ↓s_62_5_22, ↓s_62_5_48, ↓s_62_8, ↓s_62_9, ↓s_62_12, ↓s_62_13_22, ↓s_62_13_48, ↓s_62_16, ↓s_62_17_22, ↓s_62_17_48, ↓s_62_20, ↓s_62_21, ↓s_62_22, ↓s_62_23a, ↓s_62_23b, ↓s_62_24_22, ↓s_62_24_48, ↓s_62_27, ↓s_62_28, ↓s_62_29_22, ↓s_62_29_48, ↓s_62_32, ↓s_62_33, ↓s_62_34, ↓s_62_37, ↓s_62_38a, ↓s_62_38b, ↓s_62_39_22, ↓s_62_39_48, ↓s_62_42, ↓s_62_43, ↓s_62_44_22, ↓s_62_44_48, ↓s_62_47, ↓s_62_48, ↓s_63_0, ↓s_63_1_22, ↓s_63_1_48, ↓s_63_4, ↓s_63_6, ↓s_63_9, ↓s_63_10, ↓s_63_11, ↓s_63_14, ↓s_63_15, ↓s_63_16a, ↓s_63_16b, ↓s_63_17_22, ↓s_63_17_48, ↓s_63_20, ↓s_63_21, ↓s_63_22_22, ↓s_63_22_48, ↓s_63_25, ↓s_63_26, w32c_64, ↓s_66_0, ↓s_66_1_22, ↓s_66_1_48, ↓s_66_4, ↓s_66_6, ↓s_66_9, ↓s_66_10_22, ↓s_66_10_48, ↓s_66_13, ↓s_66_14_22, ↓s_66_14_48, ↓s_66_17, ↓s_66_18, ↓s_66_19, ↓s_66_20_22, ↓s_66_20_48, ↓s_66_23, ↓s_66_24_22, ↓s_66_24_48, ↓s_66_27, ↓s_66_28, ↓s_66_29, ↓s_66_30a, ↓s_66_30b, ↓s_66_31_22, ↓s_66_31_48, ↓s_66_34, ↓s_66_35, ↓s_66_36_22, ↓s_66_36_48, ↓s_66_39, ↓s_66_40, ↓s_72_0, ↓s_72_1_22, ↓s_72_1_48, ↓s_72_4, ↓s_72_7, ↓s_72_8, ↓s_72_11, ↓s_72_12_22, ↓s_72_12_48, ↓s_72_15, ↓s_72_16_22, ↓s_72_16_48, ↓s_72_19, ↓s_72_20, ↓s_72_21, ↓s_72_22, ↓s_72_25, ↓s_123_0, ↓s_123_1, ↓s_123_4, ↓s_123_7, ↓s_123_8, ↓s_123_9, ↓s_123_12, ↓s_123_13, ↓s_123_14, ↓s_123_17, ↓s_123_20, ↓s_123_21, ↓s_123_22, ↓s_123_25, ↓s_123_26, zio_48, zar_49, zia_49, zln_49, zit_49, zar_50, zia_50, zln_50, zit_50, zar_53, zia_53, zln_53, zit_53, zio_22, zar_23, zia_23, zln_23, zit_23, zio_55, zar_24, zia_24, zln_24, zit_24, zar_27, zia_27, zln_27, zit_27]
  exact ⟨fun h => absurd h (by omega), fun _ => ⟨fun _ => ⟨fun _ => hQ, fun h => absurd h h7⟩, fun h => absurd (show w32 (m 55 4) < 33 by omega) h⟩⟩
def FoS (m : yMem) (cn : Nat) (o : sK) : Prop := (w32 (m 48 4) = (o.length : Int) ∧ cKs m o) ∧ w32 (m 48 8) = (cn : Int) ∧ o.length ≤ cn ∧ cn ≤ 64
def ftG (b m : yMem) (f : Nat) : Prop := ∀ i j, amod fvW i j = false → ¬ (i = 52 ∧ j = f) → ¬ (i = 51 ∧ j = f) → m i j = b i j
theorem g_ftell (hE : yEok E) {D : Nat} (hD : 8 ≤ D) (hf : f < 5) (hF : w32 F = (f : Int)) {y : sY} {cn : Nat} {o : sK} (T : cTk ch n mem y) (S : FoS mem cn o) (hQ : ∀ m', ftG mem m' f → cTk ch n m' (yOf (pE y cn o)) → (∀ u, pE y cn o = .inr u → FoE m' f u ∧ w32 (m' 51 f) = (o.length : Int)) → Q none m') : yCon E D xm_71 [(1, 48), (0, F), (1, 55)] mem Q := by
  obtain ⟨d, rfl⟩ := Nat.exists_eq_add_of_le' hD
  have hFt : (w32 F).toNat = f := by rw [hF]; exact Int.toNat_natCast _
  refine e_71 ?_
  refine zvc_ok hE 60 zc_71 _ _ _ _ _ _ _ xmo_71 ?_
  simp only [ynok_30, ynok_31, w32c_0, w32c_1, w32c_2, w32c_3, w32c_4, w32c_5, w32c_6, w32c_7, w32c_8, w32c_9, w32c_10, w32c_11, w32c_12, w32c_13, w32c_14, w32c_m1, w32c_m2, w32c_118, Int.reduceAdd, Int.reduceSub, Int.reduceMul, yput_s, yput_n, znl_n, znl_0, znl_1, znl_4, ysum_n, ysum_0, ysum_1, ysum_4, true_and, and_true, Nat.reduceAdd, Nat.reduceLeDiff, true_implies, eq_self, true_or, or_true, or_false, false_or, not_true_eq_false, not_false_eq_true, false_implies, implies_true, yset_s, yset_o, yset_d, ne_eq, Nat.reduceEqDiff, Int.reduceToNat, Int.reduceEq, Int.reduceLE, Int.reduceLT, Classical.not_not, Nat.reduceLT, ↓zvk_s, ↓zvk_n, ↓s_71_0, ↓s_71_1_22, ↓s_71_1_48, ↓s_71_4, ↓s_71_5, ↓s_71_6_22, ↓s_71_6_48, ↓s_71_9, ↓s_71_10, ↓s_71_11, ↓s_71_12_22, ↓s_71_12_48, ↓s_71_15, ↓s_71_16, ↓s_71_17_22, ↓s_71_17_48, ↓s_71_20, ↓s_71_21, ↓s_71_22_22, ↓s_71_22_48, ↓s_71_25, ↓s_71_26n, ↓s_71_26i, ↓s_71_26p, ↓s_71_27, ↓s_71_28n, ↓s_71_28i, ↓s_71_28p, ↓g_71_30, ↓k_71_30, ↓s_71_32, ↓s_71_35, ↓s_71_38, ↓s_71_39, ↓s_71_42, ↓s_71_43_22, ↓s_71_43_48, ↓s_71_46, ↓s_71_49, ↓s_71_50, ↓s_71_51, ↓s_71_54, ↓s_71_57, ↓s_71_58, ↓s_71_59, ↓g_71_62n, ↓g_71_62i, ↓g_71_62p, ↓k_71_62, ↓s_71_63, ↓s_71_64, ↓s_71_67, ↓s_71_68, ↓g_71_71n, ↓g_71_71i, ↓g_71_71p, ↓k_71_71, ↓s_71_74, ↓g_71_77, ↓k_71_77, ↓s_71_78, ↓s_71_79, ↓s_71_82, ↓s_71_83_22, ↓s_71_83_48, ↓s_71_86, ↓s_71_87, ↓s_71_88_22, ↓s_71_88_48, ↓s_71_91, ↓s_71_92, w32c_800, zio_48, zar_51, zia_51, zln_51, zit_51, zar_52, zia_52, zln_52, zit_52, zio_22, zio_55, zar_25, zia_25, zln_25, zit_25, zar_26, zia_26, zln_26, zit_26]
  rw [hFt]
  refine ⟨⟨by omega, by omega⟩, ?_⟩
  have e48 : ∀ j, j ≠ 6 → j ≠ 7 → j ≠ 9 → yset (yset (yset (yset mem 51 f (mem 48 4)) 48 6 0) 48 7 0) 48 9 1 48 j = mem 48 j := fun j q6 q7 q9 => by rw [yset_d q9, yset_d q7, yset_d q6, yset_o (by decide)]
  have C : cFo (yset (yset (yset (yset mem 51 f (mem 48 4)) 48 6 0) 48 7 0) 48 9 1) [] cn 0 o := by
    obtain ⟨⟨a5, a6⟩, a3, a7, a8⟩ := S
    refine ⟨⟨by rw [yset_d (by decide), yset_d (by decide), yset_s]; exact w32c_0, trivial⟩, ⟨by rw [e48 8 (by decide) (by decide) (by decide)]; exact a3, by rw [yset_d (by decide), yset_s]; exact w32c_0⟩, ⟨by rw [e48 4 (by decide) (by decide) (by decide)]; exact a5, cKs_eq a6 (fun j _ => by rw [yset_o (by decide), yset_o (by decide), yset_o (by decide), yset_o (by decide)]) (fun j _ => by rw [yset_o (by decide), yset_o (by decide), yset_o (by decide), yset_o (by decide)])⟩, a7, a8, by decide, rfl⟩
  have T0 : cTk ch n (yset (yset (yset (yset mem 51 f (mem 48 4)) 48 6 0) 48 7 0) 48 9 1) y := cTk_of T (fun j => by rw [yset_o (by decide), yset_o (by decide), yset_o (by decide), yset_o (by decide)]) (fun j => by rw [yset_o (by decide), yset_o (by decide), yset_o (by decide), yset_o (by decide)]) (fun j => by rw [yset_o (by decide), yset_o (by decide), yset_o (by decide), yset_o (by decide)])
  have h9 : w32 (yset (yset (yset (yset mem 51 f (mem 48 4)) 48 6 0) 48 7 0) 48 9 1 48 9) = 1 := by rw [yset_s]; exact w32c_1
  have h51 : w32 (yset (yset (yset (yset mem 51 f (mem 48 4)) 48 6 0) 48 7 0) 48 9 1 51 f) = (o.length : Int) := by rw [yset_o (by decide), yset_o (by decide), yset_o (by decide), yset_s]; exact S.1.1
  have fr : ∀ i j, amod fvW i j = false → ¬ (i = 51 ∧ j = f) → yset (yset (yset (yset mem 51 f (mem 48 4)) 48 6 0) 48 7 0) 48 9 1 i j = mem i j := fun i j q1 q2 => by
    have z : aFrm fvW (yset mem 51 f (mem 48 4)) (yset (yset (yset (yset mem 51 f (mem 48 4)) 48 6 0) 48 7 0) 48 9 1) := aFrm_set (aFrm_set (aFrm_set aFrm_rf rfl) rfl) rfl
    rw [z i j q1, yset_a]
    split
    · next e1 => rw [if_neg (fun e2 => q2 ⟨e1, e2⟩)]
    · rfl
  revert C T0 h9 h51 fr
  generalize yset (yset (yset (yset mem 51 f (mem 48 4)) 48 6 0) 48 7 0) 48 9 1 = b
  intro C T0 h9 h51 fr
  have fin : ∀ m', ftF b m' f → cTk ch n m' (yOf (pE y cn o)) → (∀ u, pE y cn o = .inr u → FoE m' f u) → Q none m' := fun m' g1 g2 g3 => hQ m' (fun i j q1 q2 q3 => by rw [g1 i j q1 q2]; exact fr i j q1 q3) g2 (fun u hu => ⟨g3 u hu, by rw [g1 51 f rfl (fun q => absurd q.1 (by decide))]; exact h51⟩)
  cases y with
  | inl e =>
    refine zgo_ok (n := 60) hE xmo_71 (cs := zc_71) ?_
    simp only [ynok_30, ynok_31, w32c_0, w32c_1, w32c_2, w32c_3, w32c_4, w32c_5, w32c_6, w32c_7, w32c_8, w32c_9, w32c_10, w32c_11, w32c_12, w32c_13, w32c_14, w32c_m1, w32c_m2, w32c_118, Int.reduceAdd, Int.reduceSub, Int.reduceMul, yput_s, yput_n, znl_n, znl_0, znl_1, znl_4, ysum_n, ysum_0, ysum_1, ysum_4, true_and, and_true, Nat.reduceAdd, Nat.reduceLeDiff, true_implies, eq_self, true_or, or_true, or_false, false_or, not_true_eq_false, not_false_eq_true, false_implies, implies_true, yset_s, yset_o, yset_d, ne_eq, Nat.reduceEqDiff, Int.reduceToNat, Int.reduceEq, Int.reduceLE, Int.reduceLT, Classical.not_not, Nat.reduceLT, ↓zvk_s, ↓zvk_n, ↓s_71_0, ↓s_71_1_22, ↓s_71_1_48, ↓s_71_4, ↓s_71_5, ↓s_71_6_22, ↓s_71_6_48, ↓s_71_9, ↓s_71_10, ↓s_71_11, ↓s_71_12_22, ↓s_71_12_48, ↓s_71_15, ↓s_71_16, ↓s_71_17_22, ↓s_71_17_48, ↓s_71_20, ↓s_71_21, ↓s_71_22_22, ↓s_71_22_48, ↓s_71_25, ↓s_71_26n, ↓s_71_26i, ↓s_71_26p, ↓s_71_27, ↓s_71_28n, ↓s_71_28i, ↓s_71_28p, ↓g_71_30, ↓k_71_30, ↓s_71_32, ↓s_71_35, ↓s_71_38, ↓s_71_39, ↓s_71_42, ↓s_71_43_22, ↓s_71_43_48, ↓s_71_46, ↓s_71_49, ↓s_71_50, ↓s_71_51, ↓s_71_54, ↓s_71_57, ↓s_71_58, ↓s_71_59, ↓g_71_62n, ↓g_71_62i, ↓g_71_62p, ↓k_71_62, ↓s_71_63, ↓s_71_64, ↓s_71_67, ↓s_71_68, ↓g_71_71n, ↓g_71_71i, ↓g_71_71p, ↓k_71_71, ↓s_71_74, ↓g_71_77, ↓k_71_77, ↓s_71_78, ↓s_71_79, ↓s_71_82, ↓s_71_83_22, ↓s_71_83_48, ↓s_71_86, ↓s_71_87, ↓s_71_88_22, ↓s_71_88_48, ↓s_71_91, ↓s_71_92, w32c_800, zio_48, zar_51, zia_51, zln_51, zit_51, zar_52, zia_52, zln_52, zit_52, zio_22, zio_55, zar_25, zia_25, zln_25, zit_25, zar_26, zia_26, zln_26, zit_26]
    rw [h9]
    refine ⟨fun h => absurd h (by decide), fun _ => ?_⟩
    have h7 : ¬ w32 (b 55 7) = 0 := fun h => T0.2.2.2.2.2.1 (by have := T0.2.2.2.2.1; omega)
    have g := g_fl1 (f := 1) T0 h7
    refine g_readValue0 hE (by omega) T0 ?_
    refine zgk_s hE xmo_71 60 zc_71 ?_
    simp only [ynok_30, ynok_31, w32c_0, w32c_1, w32c_2, w32c_3, w32c_4, w32c_5, w32c_6, w32c_7, w32c_8, w32c_9, w32c_10, w32c_11, w32c_12, w32c_13, w32c_14, w32c_m1, w32c_m2, w32c_118, Int.reduceAdd, Int.reduceSub, Int.reduceMul, yput_s, yput_n, znl_n, znl_0, znl_1, znl_4, ysum_n, ysum_0, ysum_1, ysum_4, true_and, and_true, Nat.reduceAdd, Nat.reduceLeDiff, true_implies, eq_self, true_or, or_true, or_false, false_or, not_true_eq_false, not_false_eq_true, false_implies, implies_true, yset_s, yset_o, yset_d, ne_eq, Nat.reduceEqDiff, Int.reduceToNat, Int.reduceEq, Int.reduceLE, Int.reduceLT, Classical.not_not, Nat.reduceLT, ↓zvk_s, ↓zvk_n, ↓s_71_0, ↓s_71_1_22, ↓s_71_1_48, ↓s_71_4, ↓s_71_5, ↓s_71_6_22, ↓s_71_6_48, ↓s_71_9, ↓s_71_10, ↓s_71_11, ↓s_71_12_22, ↓s_71_12_48, ↓s_71_15, ↓s_71_16, ↓s_71_17_22, ↓s_71_17_48, ↓s_71_20, ↓s_71_21, ↓s_71_22_22, ↓s_71_22_48, ↓s_71_25, ↓s_71_26n, ↓s_71_26i, ↓s_71_26p, ↓s_71_27, ↓s_71_28n, ↓s_71_28i, ↓s_71_28p, ↓g_71_30, ↓k_71_30, ↓s_71_32, ↓s_71_35, ↓s_71_38, ↓s_71_39, ↓s_71_42, ↓s_71_43_22, ↓s_71_43_48, ↓s_71_46, ↓s_71_49, ↓s_71_50, ↓s_71_51, ↓s_71_54, ↓s_71_57, ↓s_71_58, ↓s_71_59, ↓g_71_62n, ↓g_71_62i, ↓g_71_62p, ↓k_71_62, ↓s_71_63, ↓s_71_64, ↓s_71_67, ↓s_71_68, ↓g_71_71n, ↓g_71_71i, ↓g_71_71p, ↓k_71_71, ↓s_71_74, ↓g_71_77, ↓k_71_77, ↓s_71_78, ↓s_71_79, ↓s_71_82, ↓s_71_83_22, ↓s_71_83_48, ↓s_71_86, ↓s_71_87, ↓s_71_88_22, ↓s_71_88_48, ↓s_71_91, ↓s_71_92, w32c_800, zio_48, zar_51, zia_51, zln_51, zit_51, zar_52, zia_52, zln_52, zit_52, zio_22, zio_55, zar_25, zia_25, zln_25, zit_25, zar_26, zia_26, zln_26, zit_26]
    refine gt62_0 hE (by decide) (by decide) (fun g' i' => gt77 (x := .inl e) hE (by omega) hf hF (cf_fv g.1) g.2 (cFo_cf C g.1) (fun u hu => by cases hu) fin)
  | inr l =>
    have hl : l.length ≤ 801 := by
      obtain ⟨_, h8, _, _, _, e, _, ⟨a, h1, h2⟩, _⟩ := T0
      have h3 := sTl_len (Nat.le_trans h2.1.1 h2.1.2.1) h1
      omega
    exact gt30 hE (by omega) hf hF (sy_fuel (l.length + 1) true [] l cn 0 o (Nat.lt_succ_self _)) fin (l.length + 1) true [] l cn 0 o b 1 0 rfl aFrm_rf T0 C h9 w32c_1 (by decide) (by rw [w32c_0]; omega)
end CT
end
section
theorem s_111_0 {E : yE} {n d : Nat} {mem : yMem} {Post : Option yV → yMem → Prop} {st : List yV} {r0 r2 : Option yV} {x : Int} : zvc E (n + 1) [] d xm_111 0 [r0, some (0, x), r2] (st) mem Post = (zvc E n [] d xm_111 1 [r0, some (0, x), r2] ((0, x) :: st) mem Post) := zrf rfl
theorem s_111_1 {E : yE} {n d : Nat} {mem : yMem} {Post : Option yV → yMem → Prop} {st : List yV} {r0 r1 r2 : Option yV} {x : Int} : zvc E (n + 1) [] d xm_111 1 [r0, r1, r2] ((0, x) :: st) mem Post = ((w32 x = w32 0 → zvc E n [] d xm_111 15 [r0, r1, r2] (st) mem Post) ∧ (¬ (w32 x = w32 0) → zvc E n [] d xm_111 4 [r0, r1, r2] (st) mem Post)) := zrf rfl
theorem s_111_4 {E : yE} {n d : Nat} {mem : yMem} {Post : Option yV → yMem → Prop} {st : List yV} {r1 r2 : Option yV} {x : Int} : zvc E (n + 1) [] d xm_111 4 [some (1, x), r1, r2] (st) mem Post = (zvc E n [] d xm_111 5 [some (1, x), r1, r2] ((1, x) :: st) mem Post) := zrf rfl
theorem s_111_5 {E : yE} {n d : Nat} {mem : yMem} {Post : Option yV → yMem → Prop} {st : List yV} {r0 r1 r2 : Option yV} : zvc E (n + 1) [] d xm_111 5 [r0, r1, r2] ((1, 54) :: st) mem Post = (zvc E n [] d xm_111 8 [r0, r1, r2] ((1, 55) :: st) mem Post) := zrf rfl
theorem s_111_8 {E : yE} {n d : Nat} {mem : yMem} {Post : Option yV → yMem → Prop} {st : List yV} {r0 r1 r2 : Option yV} : zvc E (n + 1) [] d xm_111 8 [r0, r1, r2] (st) mem Post = (zvc E n [] d xm_111 9 [r0, r1, r2] ((0, 3) :: st) mem Post) := zrf rfl
theorem s_111_9 {E : yE} {n d : Nat} {mem : yMem} {Post : Option yV → yMem → Prop} {st : List yV} {r0 r1 r2 : Option yV} {z a0 : Int} : zvc E (n + 1) [] (d + 1) xm_111 9 [r0, r1, r2] ((0, a0) :: (1, z) :: st) mem Post = (zio z 9 = true ∧ ysum st ≤ 8 ∧ zvc E n [] d xm_123 0 [some (1, z), some (0, a0)] [] mem (fun v mem' => zvk E n [] (d + 1) xm_111 12 [r0, r1, r2] st v mem' Post)) := zrf rfl
theorem s_111_12a {E : yE} {n d : Nat} {mem : yMem} {Post : Option yV → yMem → Prop} {st : List yV} {r0 r1 r2 : Option yV} {x : Int} : zvc E (n + 1) [] d xm_111 12 [r0, r1, r2] ((0, x) :: st) mem Post = (zvc E n [] d xm_111 13 [r0, r1, r2] (st) mem Post) := zrf rfl
theorem s_111_12b {E : yE} {n d : Nat} {mem : yMem} {Post : Option yV → yMem → Prop} {st : List yV} {r0 r1 r2 : Option yV} {x : Int} : zvc E (n + 1) [] d xm_111 12 [r0, r1, r2] ((1, x) :: st) mem Post = (zvc E n [] d xm_111 13 [r0, r1, r2] (st) mem Post) := zrf rfl
theorem s_111_13 {E : yE} {n d : Nat} {mem : yMem} {Post : Option yV → yMem → Prop} {st : List yV} {r0 r1 r2 : Option yV} : zvc E (n + 1) [] d xm_111 13 [r0, r1, r2] (st) mem Post = (zvc E n [] d xm_111 14 [r0, r1, r2] ((0, 0) :: st) mem Post) := zrf rfl
theorem s_111_14 {E : yE} {n d : Nat} {mem : yMem} {Post : Option yV → yMem → Prop} {r0 r1 r2 : Option yV} {x : Int} : zvc E (n + 1) [] d xm_111 14 [r0, r1, r2] ([(0, x)]) mem Post = (Post (some (0, x)) mem) := zrf rfl
theorem s_111_15 {E : yE} {n d : Nat} {mem : yMem} {Post : Option yV → yMem → Prop} {st : List yV} {r1 r2 : Option yV} {x : Int} : zvc E (n + 1) [] d xm_111 15 [some (1, x), r1, r2] (st) mem Post = (zvc E n [] d xm_111 16 [some (1, x), r1, r2] ((1, x) :: st) mem Post) := zrf rfl
theorem s_111_16 {E : yE} {n d : Nat} {mem : yMem} {Post : Option yV → yMem → Prop} {st : List yV} {r0 r1 r2 : Option yV} : zvc E (n + 1) [] d xm_111 16 [r0, r1, r2] ((1, 54) :: st) mem Post = (zvc E n [] d xm_111 19 [r0, r1, r2] ((1, 55) :: st) mem Post) := zrf rfl
theorem s_111_19 {E : yE} {n d : Nat} {mem : yMem} {Post : Option yV → yMem → Prop} {st : List yV} {r0 r1 r2 : Option yV} {z : Int} : zvc E (n + 1) [] d xm_111 19 [r0, r1, r2] ((1, z) :: st) mem Post = (zio z 9 = true ∧ ysum st ≤ 8 ∧ yCon E d xm_126 [(1, z)] mem (fun v mem' => zgk E d xm_111 22 [r0, r1, r2] st v mem' Post)) := zrf rfl
theorem s_111_22 {E : yE} {n d : Nat} {mem : yMem} {Post : Option yV → yMem → Prop} {st : List yV} {r1 r2 : Option yV} {x : Int} : zvc E (n + 1) [] d xm_111 22 [some (1, x), r1, r2] (st) mem Post = (zvc E n [] d xm_111 23 [some (1, x), r1, r2] ((1, x) :: st) mem Post) := zrf rfl
theorem s_111_23 {E : yE} {n d : Nat} {mem : yMem} {Post : Option yV → yMem → Prop} {st : List yV} {r0 r1 r2 : Option yV} : zvc E (n + 1) [] d xm_111 23 [r0, r1, r2] (st) mem Post = (zvc E n [] d xm_111 24 [r0, r1, r2] ((0, 0) :: st) mem Post) := zrf rfl
theorem s_111_24 {E : yE} {n d : Nat} {mem : yMem} {Post : Option yV → yMem → Prop} {st : List yV} {r0 r1 : Option yV} {x : Int} : zvc E (n + 1) [] d xm_111 24 [r0, r1, some (0, x)] (st) mem Post = (zvc E n [] d xm_111 25 [r0, r1, some (0, x)] ((0, x) :: st) mem Post) := zrf rfl
theorem s_111_25 {E : yE} {n d : Nat} {mem : yMem} {Post : Option yV → yMem → Prop} {st : List yV} {r0 r1 r2 : Option yV} {z a0 a1 : Int} : zvc E (n + 1) [] d xm_111 25 [r0, r1, r2] ((0, a1) :: (0, a0) :: (1, z) :: st) mem Post = (zio z 8 = true ∧ ysum st ≤ 8 ∧ yCon E d xm_112 [(1, z), (0, a0), (0, a1)] mem (fun v mem' => zgk E d xm_111 28 [r0, r1, r2] st v mem' Post)) := zrf rfl
theorem s_111_28 {E : yE} {n d : Nat} {mem : yMem} {Post : Option yV → yMem → Prop} {r0 r1 r2 : Option yV} {x : Int} : zvc E (n + 1) [] d xm_111 28 [r0, r1, r2] ([(0, x)]) mem Post = (Post (some (0, x)) mem) := zrf rfl
theorem s_113_0 {E : yE} {n d : Nat} {mem : yMem} {Post : Option yV → yMem → Prop} {st : List yV} {r1 : Option yV} {x : Int} : zvc E (n + 1) [] d xm_113 0 [some (1, x), r1] (st) mem Post = (zvc E n [] d xm_113 1 [some (1, x), r1] ((1, x) :: st) mem Post) := zrf rfl
theorem s_113_1 {E : yE} {n d : Nat} {mem : yMem} {Post : Option yV → yMem → Prop} {st : List yV} {r1 : Option yV} {x : Int} : zvc E (n + 1) [] d xm_113 1 [some (1, x), r1] (st) mem Post = (zvc E n [] d xm_113 2 [some (1, x), r1] ((1, x) :: st) mem Post) := zrf rfl
theorem s_113_2 {E : yE} {n d : Nat} {mem : yMem} {Post : Option yV → yMem → Prop} {st : List yV} {r0 r1 : Option yV} : zvc E (n + 1) [] d xm_113 2 [r0, r1] ((1, 54) :: st) mem Post = (zvc E n [] d xm_113 5 [r0, r1] ((1, 28) :: st) mem Post) := zrf rfl
theorem s_113_5_2 {E : yE} {n d : Nat} {mem : yMem} {Post : Option yV → yMem → Prop} {st : List yV} {r0 r1 : Option yV} : zvc E (n + 1) [] d xm_113 5 [r0, r1] ((1, 2) :: st) mem Post = (zvc E n [] d xm_113 8 [r0, r1] ((1, 9) :: st) mem Post) := zrf rfl
theorem s_113_5_28 {E : yE} {n d : Nat} {mem : yMem} {Post : Option yV → yMem → Prop} {st : List yV} {r0 r1 : Option yV} : zvc E (n + 1) [] d xm_113 5 [r0, r1] ((1, 28) :: st) mem Post = (zvc E n [] d xm_113 8 [r0, r1] ((1, 35) :: st) mem Post) := zrf rfl
theorem s_113_8 {E : yE} {n d : Nat} {mem : yMem} {Post : Option yV → yMem → Prop} {st : List yV} {r0 r1 : Option yV} {z a0 : Int} : zvc E (n + 1) [] d xm_113 8 [r0, r1] ((1, a0) :: (1, z) :: st) mem Post = (zio z 8 = true ∧ ysum st ≤ 8 ∧ yCon E d xm_110 [(1, z), (1, a0)] mem (fun v mem' => zgk E d xm_113 11 [r0, r1] st v mem' Post)) := zrf rfl
theorem s_113_11n {E : yE} {n d : Nat} {mem : yMem} {Post : Option yV → yMem → Prop} {st : List yV} {r1 : Option yV} {x : Int} : zvc E (n + 1) [] d xm_113 11 [none, r1] ((0, x) :: st) mem Post = (zvc E n [] d xm_113 12 [none, some (0, x)] (st) mem Post) := zrf rfl
theorem s_113_11i {E : yE} {n d : Nat} {mem : yMem} {Post : Option yV → yMem → Prop} {st : List yV} {r1 : Option yV} {x w : Int} : zvc E (n + 1) [] d xm_113 11 [some (0, w), r1] ((0, x) :: st) mem Post = (zvc E n [] d xm_113 12 [some (0, w), some (0, x)] (st) mem Post) := zrf rfl
theorem s_113_11p {E : yE} {n d : Nat} {mem : yMem} {Post : Option yV → yMem → Prop} {st : List yV} {r1 : Option yV} {x w : Int} : zvc E (n + 1) [] d xm_113 11 [some (1, w), r1] ((0, x) :: st) mem Post = (zvc E n [] d xm_113 12 [some (1, w), some (0, x)] (st) mem Post) := zrf rfl
theorem s_113_12 {E : yE} {n d : Nat} {mem : yMem} {Post : Option yV → yMem → Prop} {st : List yV} {r0 : Option yV} {x : Int} : zvc E (n + 1) [] d xm_113 12 [r0, some (0, x)] (st) mem Post = (zvc E n [] d xm_113 13 [r0, some (0, x)] ((0, x) :: st) mem Post) := zrf rfl
theorem s_113_13 {E : yE} {n d : Nat} {mem : yMem} {Post : Option yV → yMem → Prop} {st : List yV} {r0 r1 : Option yV} : zvc E (n + 1) [] d xm_113 13 [r0, r1] (st) mem Post = (zvc E n [] d xm_113 14 [r0, r1] ((0, (-1)) :: st) mem Post) := zrf rfl
theorem s_113_14 {E : yE} {n d : Nat} {mem : yMem} {Post : Option yV → yMem → Prop} {st : List yV} {r0 r1 : Option yV} {x y : Int} : zvc E (n + 1) [] d xm_113 14 [r0, r1] ((0, y) :: (0, x) :: st) mem Post = ((¬ w32 x = w32 y → zvc E n [] d xm_113 18 [r0, r1] (st) mem Post) ∧ (¬ (¬ w32 x = w32 y) → zvc E n [] d xm_113 17 [r0, r1] (st) mem Post)) := zrf rfl
theorem s_113_17 {E : yE} {n d : Nat} {mem : yMem} {Post : Option yV → yMem → Prop} {r0 r1 : Option yV} : zvc E (n + 1) [] d xm_113 17 [r0, r1] ([]) mem Post = (Post none mem) := zrf rfl
theorem s_113_18 {E : yE} {n d : Nat} {mem : yMem} {Post : Option yV → yMem → Prop} {st : List yV} {r1 : Option yV} {x : Int} : zvc E (n + 1) [] d xm_113 18 [some (1, x), r1] (st) mem Post = (zvc E n [] d xm_113 19 [some (1, x), r1] ((1, x) :: st) mem Post) := zrf rfl
theorem s_113_19 {E : yE} {n d : Nat} {mem : yMem} {Post : Option yV → yMem → Prop} {st : List yV} {r0 r1 : Option yV} : zvc E (n + 1) [] d xm_113 19 [r0, r1] ((1, 54) :: st) mem Post = (zvc E n [] d xm_113 22 [r0, r1] ((1, 28) :: st) mem Post) := zrf rfl
theorem s_113_22_2 {E : yE} {n d : Nat} {mem : yMem} {Post : Option yV → yMem → Prop} {st : List yV} {r0 r1 : Option yV} : zvc E (n + 1) [] d xm_113 22 [r0, r1] ((1, 2) :: st) mem Post = (zvc E n [] d xm_113 25 [r0, r1] ((1, 21) :: st) mem Post) := zrf rfl
theorem s_113_22_28 {E : yE} {n d : Nat} {mem : yMem} {Post : Option yV → yMem → Prop} {st : List yV} {r0 r1 : Option yV} : zvc E (n + 1) [] d xm_113 22 [r0, r1] ((1, 28) :: st) mem Post = (zvc E n [] d xm_113 25 [r0, r1] ((1, 47) :: st) mem Post) := zrf rfl
theorem s_113_25 {E : yE} {n d : Nat} {mem : yMem} {Post : Option yV → yMem → Prop} {st : List yV} {r0 : Option yV} {x : Int} : zvc E (n + 1) [] d xm_113 25 [r0, some (0, x)] (st) mem Post = (zvc E n [] d xm_113 26 [r0, some (0, x)] ((0, x) :: st) mem Post) := zrf rfl
theorem s_113_26 {E : yE} {n d : Nat} {mem : yMem} {Post : Option yV → yMem → Prop} {st : List yV} {r1 : Option yV} {x : Int} : zvc E (n + 1) [] d xm_113 26 [some (1, x), r1] (st) mem Post = (zvc E n [] d xm_113 27 [some (1, x), r1] ((1, x) :: st) mem Post) := zrf rfl
theorem s_113_27 {E : yE} {n d : Nat} {mem : yMem} {Post : Option yV → yMem → Prop} {st : List yV} {r0 r1 : Option yV} : zvc E (n + 1) [] d xm_113 27 [r0, r1] (st) mem Post = (zvc E n [] d xm_113 28 [r0, r1] ((0, 0) :: st) mem Post) := zrf rfl
theorem s_113_28 {E : yE} {n d : Nat} {mem : yMem} {Post : Option yV → yMem → Prop} {st : List yV} {r0 r1 : Option yV} : zvc E (n + 1) [] d xm_113 28 [r0, r1] (st) mem Post = (zvc E n [] d xm_113 31 [r0, r1] ((0, 999) :: st) mem Post) := zrf rfl
theorem s_113_31 {E : yE} {n d : Nat} {mem : yMem} {Post : Option yV → yMem → Prop} {st : List yV} {r0 r1 : Option yV} {z a0 a1 : Int} : zvc E (n + 1) [] d xm_113 31 [r0, r1] ((0, a1) :: (0, a0) :: (1, z) :: st) mem Post = (zio z 8 = true ∧ ysum st ≤ 8 ∧ yCon E d xm_112 [(1, z), (0, a0), (0, a1)] mem (fun v mem' => zgk E d xm_113 34 [r0, r1] st v mem' Post)) := zrf rfl
theorem s_113_34 {E : yE} {n d : Nat} {mem : yMem} {Post : Option yV → yMem → Prop} {st : List yV} {r0 r1 : Option yV} {x z j : Int} : zvc E (n + 1) [] d xm_113 34 [r0, r1] ((0, x) :: (0, j) :: (1, z) :: st) mem Post = ((0 ≤ w32 j ∧ w32 j < ((zar z 0 : Nat) : Int)) ∧ zvc E n [] d xm_113 35 [r0, r1] (st) (yset mem z.toNat (w32 j).toNat x) Post) := zrf rfl
theorem s_113_35 {E : yE} {n d : Nat} {mem : yMem} {Post : Option yV → yMem → Prop} {st : List yV} {r1 : Option yV} {x : Int} : zvc E (n + 1) [] d xm_113 35 [some (1, x), r1] (st) mem Post = (zvc E n [] d xm_113 36 [some (1, x), r1] ((1, x) :: st) mem Post) := zrf rfl
theorem s_113_36 {E : yE} {n d : Nat} {mem : yMem} {Post : Option yV → yMem → Prop} {st : List yV} {r0 r1 : Option yV} : zvc E (n + 1) [] d xm_113 36 [r0, r1] ((1, 54) :: st) mem Post = (zvc E n [] d xm_113 39 [r0, r1] ((1, 28) :: st) mem Post) := zrf rfl
theorem s_113_39_2 {E : yE} {n d : Nat} {mem : yMem} {Post : Option yV → yMem → Prop} {st : List yV} {r0 r1 : Option yV} : zvc E (n + 1) [] d xm_113 39 [r0, r1] ((1, 2) :: st) mem Post = (zvc E n [] d xm_113 42 [r0, r1] ((1, 22) :: st) mem Post) := zrf rfl
theorem s_113_39_28 {E : yE} {n d : Nat} {mem : yMem} {Post : Option yV → yMem → Prop} {st : List yV} {r0 r1 : Option yV} : zvc E (n + 1) [] d xm_113 39 [r0, r1] ((1, 28) :: st) mem Post = (zvc E n [] d xm_113 42 [r0, r1] ((1, 48) :: st) mem Post) := zrf rfl
theorem s_113_42 {E : yE} {n d : Nat} {mem : yMem} {Post : Option yV → yMem → Prop} {st : List yV} {r0 r1 : Option yV} : zvc E (n + 1) [] d xm_113 42 [r0, r1] (st) mem Post = (zvc E n [] d xm_113 43 [r0, r1] ((0, 2) :: st) mem Post) := zrf rfl
theorem s_113_43 {E : yE} {n d : Nat} {mem : yMem} {Post : Option yV → yMem → Prop} {st : List yV} {r0 : Option yV} {x : Int} : zvc E (n + 1) [] d xm_113 43 [r0, some (0, x)] (st) mem Post = (zvc E n [] d xm_113 44 [r0, some (0, x)] ((0, x) :: st) mem Post) := zrf rfl
theorem s_113_44 {E : yE} {n d : Nat} {mem : yMem} {Post : Option yV → yMem → Prop} {st : List yV} {r0 r1 : Option yV} {x y : Int} : zvc E (n + 1) [] d xm_113 44 [r0, r1] ((0, y) :: (0, x) :: st) mem Post = (zvc E n [] d xm_113 45 [r0, r1] ((0, x + y) :: st) mem Post) := zrf rfl
theorem s_113_45 {E : yE} {n d : Nat} {mem : yMem} {Post : Option yV → yMem → Prop} {st : List yV} {r1 : Option yV} {x : Int} : zvc E (n + 1) [] d xm_113 45 [some (1, x), r1] (st) mem Post = (zvc E n [] d xm_113 46 [some (1, x), r1] ((1, x) :: st) mem Post) := zrf rfl
theorem s_113_46 {E : yE} {n d : Nat} {mem : yMem} {Post : Option yV → yMem → Prop} {st : List yV} {r0 r1 : Option yV} : zvc E (n + 1) [] d xm_113 46 [r0, r1] ((1, 54) :: st) mem Post = (zvc E n [] d xm_113 49 [r0, r1] ((1, 55) :: st) mem Post) := zrf rfl
theorem s_113_49 {E : yE} {n d : Nat} {mem : yMem} {Post : Option yV → yMem → Prop} {st : List yV} {r0 r1 : Option yV} {z a0 a1 : Int} : zvc E (n + 1) [] d xm_113 49 [r0, r1] ((1, a1) :: (0, a0) :: (1, z) :: st) mem Post = (zio z 2 = true ∧ ysum st ≤ 8 ∧ yCon E d xm_71 [(1, z), (0, a0), (1, a1)] mem (fun v mem' => zgk E d xm_113 52 [r0, r1] st v mem' Post)) := zrf rfl
theorem s_113_52 {E : yE} {n d : Nat} {mem : yMem} {Post : Option yV → yMem → Prop} {r0 r1 : Option yV} : zvc E (n + 1) [] d xm_113 52 [r0, r1] ([]) mem Post = (Post none mem) := zrf rfl
def zc_114 : List Nat := [59]
theorem s_114_0 {E : yE} {n d : Nat} {mem : yMem} {Post : Option yV → yMem → Prop} {st : List yV} {r1 : Option yV} {x : Int} : zvc E (n + 1) zc_114 d xm_114 0 [some (1, x), r1] (st) mem Post = (zvc E n zc_114 d xm_114 1 [some (1, x), r1] ((1, x) :: st) mem Post) := zrf rfl
theorem s_114_1 {E : yE} {n d : Nat} {mem : yMem} {Post : Option yV → yMem → Prop} {st : List yV} {r0 r1 : Option yV} : zvc E (n + 1) zc_114 d xm_114 1 [r0, r1] ((1, 54) :: st) mem Post = (zvc E n zc_114 d xm_114 4 [r0, r1] ((1, 55) :: st) mem Post) := zrf rfl
theorem s_114_4 {E : yE} {n d : Nat} {mem : yMem} {Post : Option yV → yMem → Prop} {st : List yV} {r0 r1 : Option yV} {z : Int} : zvc E (n + 1) zc_114 d xm_114 4 [r0, r1] ((1, z) :: st) mem Post = (zio z 9 = true ∧ ysum st ≤ 8 ∧ yCon E d xm_126 [(1, z)] mem (fun v mem' => zgk E d xm_114 7 [r0, r1] st v mem' Post)) := zrf rfl
theorem s_114_7 {E : yE} {n d : Nat} {mem : yMem} {Post : Option yV → yMem → Prop} {st : List yV} {r1 : Option yV} {x : Int} : zvc E (n + 1) zc_114 d xm_114 7 [some (1, x), r1] (st) mem Post = (zvc E n zc_114 d xm_114 8 [some (1, x), r1] ((1, x) :: st) mem Post) := zrf rfl
theorem s_114_8 {E : yE} {n d : Nat} {mem : yMem} {Post : Option yV → yMem → Prop} {st : List yV} {r0 r1 : Option yV} : zvc E (n + 1) zc_114 d xm_114 8 [r0, r1] ((1, 54) :: st) mem Post = (zvc E n zc_114 d xm_114 11 [r0, r1] ((1, 55) :: st) mem Post) := zrf rfl
theorem s_114_11 {E : yE} {n d : Nat} {mem : yMem} {Post : Option yV → yMem → Prop} {st : List yV} {r0 r1 : Option yV} : zvc E (n + 1) zc_114 d xm_114 11 [r0, r1] ((1, 55) :: st) mem Post = (zvc E n zc_114 d xm_114 14 [r0, r1] ((0, mem 55 4) :: st) mem Post) := zrf rfl
theorem s_114_14 {E : yE} {n d : Nat} {mem : yMem} {Post : Option yV → yMem → Prop} {st : List yV} {r0 r1 : Option yV} : zvc E (n + 1) zc_114 d xm_114 14 [r0, r1] (st) mem Post = (zvc E n zc_114 d xm_114 16 [r0, r1] ((0, 28) :: st) mem Post) := zrf rfl
theorem s_114_16 {E : yE} {n d : Nat} {mem : yMem} {Post : Option yV → yMem → Prop} {st : List yV} {r0 r1 : Option yV} {x y : Int} : zvc E (n + 1) zc_114 d xm_114 16 [r0, r1] ((0, y) :: (0, x) :: st) mem Post = ((w32 x = w32 y → zvc E n zc_114 d xm_114 41 [r0, r1] (st) mem Post) ∧ (¬ (w32 x = w32 y) → zvc E n zc_114 d xm_114 19 [r0, r1] (st) mem Post)) := zrf rfl
theorem s_114_19 {E : yE} {n d : Nat} {mem : yMem} {Post : Option yV → yMem → Prop} {st : List yV} {r1 : Option yV} {x : Int} : zvc E (n + 1) zc_114 d xm_114 19 [some (1, x), r1] (st) mem Post = (zvc E n zc_114 d xm_114 20 [some (1, x), r1] ((1, x) :: st) mem Post) := zrf rfl
theorem s_114_20 {E : yE} {n d : Nat} {mem : yMem} {Post : Option yV → yMem → Prop} {st : List yV} {r0 r1 : Option yV} : zvc E (n + 1) zc_114 d xm_114 20 [r0, r1] ((1, 54) :: st) mem Post = (zvc E n zc_114 d xm_114 23 [r0, r1] ((1, 55) :: st) mem Post) := zrf rfl
theorem s_114_23 {E : yE} {n d : Nat} {mem : yMem} {Post : Option yV → yMem → Prop} {st : List yV} {r0 r1 : Option yV} : zvc E (n + 1) zc_114 d xm_114 23 [r0, r1] ((1, 55) :: st) mem Post = (zvc E n zc_114 d xm_114 26 [r0, r1] ((0, mem 55 4) :: st) mem Post) := zrf rfl
theorem s_114_26 {E : yE} {n d : Nat} {mem : yMem} {Post : Option yV → yMem → Prop} {st : List yV} {r0 r1 : Option yV} : zvc E (n + 1) zc_114 d xm_114 26 [r0, r1] (st) mem Post = (zvc E n zc_114 d xm_114 28 [r0, r1] ((0, 29) :: st) mem Post) := zrf rfl
theorem s_114_28 {E : yE} {n d : Nat} {mem : yMem} {Post : Option yV → yMem → Prop} {st : List yV} {r0 r1 : Option yV} {x y : Int} : zvc E (n + 1) zc_114 d xm_114 28 [r0, r1] ((0, y) :: (0, x) :: st) mem Post = ((w32 x = w32 y → zvc E n zc_114 d xm_114 41 [r0, r1] (st) mem Post) ∧ (¬ (w32 x = w32 y) → zvc E n zc_114 d xm_114 31 [r0, r1] (st) mem Post)) := zrf rfl
theorem s_114_31 {E : yE} {n d : Nat} {mem : yMem} {Post : Option yV → yMem → Prop} {st : List yV} {r1 : Option yV} {x : Int} : zvc E (n + 1) zc_114 d xm_114 31 [some (1, x), r1] (st) mem Post = (zvc E n zc_114 d xm_114 32 [some (1, x), r1] ((1, x) :: st) mem Post) := zrf rfl
theorem s_114_32 {E : yE} {n d : Nat} {mem : yMem} {Post : Option yV → yMem → Prop} {st : List yV} {r0 r1 : Option yV} : zvc E (n + 1) zc_114 d xm_114 32 [r0, r1] ((1, 54) :: st) mem Post = (zvc E n zc_114 d xm_114 35 [r0, r1] ((1, 55) :: st) mem Post) := zrf rfl
theorem s_114_35 {E : yE} {n d : Nat} {mem : yMem} {Post : Option yV → yMem → Prop} {st : List yV} {r0 r1 : Option yV} : zvc E (n + 1) zc_114 d xm_114 35 [r0, r1] (st) mem Post = (zvc E n zc_114 d xm_114 36 [r0, r1] ((0, 1) :: st) mem Post) := zrf rfl
theorem s_114_36 {E : yE} {n d : Nat} {mem : yMem} {Post : Option yV → yMem → Prop} {st : List yV} {r0 r1 : Option yV} {z a0 : Int} : zvc E (n + 1) zc_114 (d + 1) xm_114 36 [r0, r1] ((0, a0) :: (1, z) :: st) mem Post = (zio z 9 = true ∧ ysum st ≤ 8 ∧ zvc E n [] d xm_123 0 [some (1, z), some (0, a0)] [] mem (fun v mem' => zvk E n zc_114 (d + 1) xm_114 39 [r0, r1] st v mem' Post)) := zrf rfl
theorem s_114_39a {E : yE} {n d : Nat} {mem : yMem} {Post : Option yV → yMem → Prop} {st : List yV} {r0 r1 : Option yV} {x : Int} : zvc E (n + 1) zc_114 d xm_114 39 [r0, r1] ((0, x) :: st) mem Post = (zvc E n zc_114 d xm_114 40 [r0, r1] (st) mem Post) := zrf rfl
theorem s_114_39b {E : yE} {n d : Nat} {mem : yMem} {Post : Option yV → yMem → Prop} {st : List yV} {r0 r1 : Option yV} {x : Int} : zvc E (n + 1) zc_114 d xm_114 39 [r0, r1] ((1, x) :: st) mem Post = (zvc E n zc_114 d xm_114 40 [r0, r1] (st) mem Post) := zrf rfl
theorem s_114_40 {E : yE} {n d : Nat} {mem : yMem} {Post : Option yV → yMem → Prop} {r0 r1 : Option yV} : zvc E (n + 1) zc_114 d xm_114 40 [r0, r1] ([]) mem Post = (Post none mem) := zrf rfl
theorem s_114_41 {E : yE} {n d : Nat} {mem : yMem} {Post : Option yV → yMem → Prop} {st : List yV} {r1 : Option yV} {x : Int} : zvc E (n + 1) zc_114 d xm_114 41 [some (1, x), r1] (st) mem Post = (zvc E n zc_114 d xm_114 42 [some (1, x), r1] ((1, x) :: st) mem Post) := zrf rfl
theorem s_114_42 {E : yE} {n d : Nat} {mem : yMem} {Post : Option yV → yMem → Prop} {st : List yV} {r0 r1 : Option yV} : zvc E (n + 1) zc_114 d xm_114 42 [r0, r1] ((1, 54) :: st) mem Post = (zvc E n zc_114 d xm_114 45 [r0, r1] ((1, 55) :: st) mem Post) := zrf rfl
theorem s_114_45 {E : yE} {n d : Nat} {mem : yMem} {Post : Option yV → yMem → Prop} {st : List yV} {r0 r1 : Option yV} : zvc E (n + 1) zc_114 d xm_114 45 [r0, r1] ((1, 55) :: st) mem Post = (zvc E n zc_114 d xm_114 48 [r0, r1] ((0, mem 55 4) :: st) mem Post) := zrf rfl
theorem s_114_48 {E : yE} {n d : Nat} {mem : yMem} {Post : Option yV → yMem → Prop} {st : List yV} {r0 r1 : Option yV} : zvc E (n + 1) zc_114 d xm_114 48 [r0, r1] (st) mem Post = (zvc E n zc_114 d xm_114 50 [r0, r1] ((0, 28) :: st) mem Post) := zrf rfl
theorem s_114_50 {E : yE} {n d : Nat} {mem : yMem} {Post : Option yV → yMem → Prop} {st : List yV} {r0 r1 : Option yV} {x y : Int} : zvc E (n + 1) zc_114 d xm_114 50 [r0, r1] ((0, y) :: (0, x) :: st) mem Post = ((¬ w32 x = w32 y → zvc E n zc_114 d xm_114 57 [r0, r1] (st) mem Post) ∧ (¬ (¬ w32 x = w32 y) → zvc E n zc_114 d xm_114 53 [r0, r1] (st) mem Post)) := zrf rfl
theorem s_114_53 {E : yE} {n d : Nat} {mem : yMem} {Post : Option yV → yMem → Prop} {st : List yV} {r0 r1 : Option yV} : zvc E (n + 1) zc_114 d xm_114 53 [r0, r1] (st) mem Post = (zvc E n zc_114 d xm_114 54 [r0, r1] ((0, 0) :: st) mem Post) := zrf rfl
theorem s_114_54 {E : yE} {n d : Nat} {mem : yMem} {Post : Option yV → yMem → Prop} {st : List yV} {r0 r1 : Option yV} : zvc E (n + 1) zc_114 d xm_114 54 [r0, r1] (st) mem Post = (zvc E n zc_114 d xm_114 58 [r0, r1] (st) mem Post) := zrf rfl
theorem s_114_57 {E : yE} {n d : Nat} {mem : yMem} {Post : Option yV → yMem → Prop} {st : List yV} {r0 r1 : Option yV} : zvc E (n + 1) zc_114 d xm_114 57 [r0, r1] (st) mem Post = (zvc E n zc_114 d xm_114 58 [r0, r1] ((0, 1) :: st) mem Post) := zrf rfl
theorem s_114_58n {E : yE} {n d : Nat} {mem : yMem} {Post : Option yV → yMem → Prop} {st : List yV} {r1 : Option yV} {x : Int} : zvc E (n + 1) zc_114 d xm_114 58 [none, r1] ((0, x) :: st) mem Post = (zvc E n zc_114 d xm_114 59 [none, some (0, x)] (st) mem Post) := zrf rfl
theorem s_114_58i {E : yE} {n d : Nat} {mem : yMem} {Post : Option yV → yMem → Prop} {st : List yV} {r1 : Option yV} {x w : Int} : zvc E (n + 1) zc_114 d xm_114 58 [some (0, w), r1] ((0, x) :: st) mem Post = (zvc E n zc_114 d xm_114 59 [some (0, w), some (0, x)] (st) mem Post) := zrf rfl
theorem s_114_58p {E : yE} {n d : Nat} {mem : yMem} {Post : Option yV → yMem → Prop} {st : List yV} {r1 : Option yV} {x w : Int} : zvc E (n + 1) zc_114 d xm_114 58 [some (1, w), r1] ((0, x) :: st) mem Post = (zvc E n zc_114 d xm_114 59 [some (1, w), some (0, x)] (st) mem Post) := zrf rfl
theorem g_114_59 {E : yE} {n d : Nat} {mem : yMem} {Post : Option yV → yMem → Prop} {st : List yV} {r1 : Option yV} {x : Int} : zgo E n zc_114 d xm_114 59 [some (1, x), r1] (st) mem Post = (zvc E n zc_114 d xm_114 60 [some (1, x), r1] ((1, x) :: st) mem Post) := zrf rfl
theorem k_114_59 {E : yE} {n d : Nat} {mem : yMem} {Post : Option yV → yMem → Prop} {st : List yV} {rg : zR} : zvc E (n + 1) zc_114 d xm_114 59 rg st mem Post = zG E d xm_114 59 rg st mem Post := zrf rfl
theorem s_114_60 {E : yE} {n d : Nat} {mem : yMem} {Post : Option yV → yMem → Prop} {st : List yV} {r0 r1 : Option yV} : zvc E (n + 1) zc_114 d xm_114 60 [r0, r1] ((1, 54) :: st) mem Post = (zvc E n zc_114 d xm_114 63 [r0, r1] ((1, 28) :: st) mem Post) := zrf rfl
theorem s_114_63_2 {E : yE} {n d : Nat} {mem : yMem} {Post : Option yV → yMem → Prop} {st : List yV} {r0 r1 : Option yV} : zvc E (n + 1) zc_114 d xm_114 63 [r0, r1] ((1, 2) :: st) mem Post = (zvc E n zc_114 d xm_114 66 [r0, r1] ((1, 22) :: st) mem Post) := zrf rfl
theorem s_114_63_28 {E : yE} {n d : Nat} {mem : yMem} {Post : Option yV → yMem → Prop} {st : List yV} {r0 r1 : Option yV} : zvc E (n + 1) zc_114 d xm_114 63 [r0, r1] ((1, 28) :: st) mem Post = (zvc E n zc_114 d xm_114 66 [r0, r1] ((1, 48) :: st) mem Post) := zrf rfl
theorem s_114_66 {E : yE} {n d : Nat} {mem : yMem} {Post : Option yV → yMem → Prop} {st : List yV} {r0 : Option yV} {x : Int} : zvc E (n + 1) zc_114 d xm_114 66 [r0, some (0, x)] (st) mem Post = (zvc E n zc_114 d xm_114 67 [r0, some (0, x)] ((0, x) :: st) mem Post) := zrf rfl
theorem s_114_67 {E : yE} {n d : Nat} {mem : yMem} {Post : Option yV → yMem → Prop} {st : List yV} {r0 r1 : Option yV} {z a0 : Int} : zvc E (n + 1) zc_114 (d + 1) xm_114 67 [r0, r1] ((0, a0) :: (1, z) :: st) mem Post = (zio z 2 = true ∧ ysum st ≤ 8 ∧ zvc E n [] d xm_64 0 [some (1, z), some (0, a0)] [] mem (fun v mem' => zvk E n zc_114 (d + 1) xm_114 70 [r0, r1] st v mem' Post)) := zrf rfl
theorem s_114_70 {E : yE} {n d : Nat} {mem : yMem} {Post : Option yV → yMem → Prop} {st : List yV} {r0 r1 : Option yV} {x : Int} : zvc E (n + 1) zc_114 d xm_114 70 [r0, r1] ((0, x) :: st) mem Post = ((w32 x = w32 0 → zvc E n zc_114 d xm_114 83 [r0, r1] (st) mem Post) ∧ (¬ (w32 x = w32 0) → zvc E n zc_114 d xm_114 73 [r0, r1] (st) mem Post)) := zrf rfl
theorem s_114_73 {E : yE} {n d : Nat} {mem : yMem} {Post : Option yV → yMem → Prop} {st : List yV} {r1 : Option yV} {x : Int} : zvc E (n + 1) zc_114 d xm_114 73 [some (1, x), r1] (st) mem Post = (zvc E n zc_114 d xm_114 74 [some (1, x), r1] ((1, x) :: st) mem Post) := zrf rfl
theorem s_114_74 {E : yE} {n d : Nat} {mem : yMem} {Post : Option yV → yMem → Prop} {st : List yV} {r0 r1 : Option yV} : zvc E (n + 1) zc_114 d xm_114 74 [r0, r1] ((1, 54) :: st) mem Post = (zvc E n zc_114 d xm_114 77 [r0, r1] ((1, 55) :: st) mem Post) := zrf rfl
theorem s_114_77 {E : yE} {n d : Nat} {mem : yMem} {Post : Option yV → yMem → Prop} {st : List yV} {r0 r1 : Option yV} : zvc E (n + 1) zc_114 d xm_114 77 [r0, r1] (st) mem Post = (zvc E n zc_114 d xm_114 78 [r0, r1] ((0, 3) :: st) mem Post) := zrf rfl
theorem s_114_78 {E : yE} {n d : Nat} {mem : yMem} {Post : Option yV → yMem → Prop} {st : List yV} {r0 r1 : Option yV} {z a0 : Int} : zvc E (n + 1) zc_114 (d + 1) xm_114 78 [r0, r1] ((0, a0) :: (1, z) :: st) mem Post = (zio z 9 = true ∧ ysum st ≤ 8 ∧ zvc E n [] d xm_123 0 [some (1, z), some (0, a0)] [] mem (fun v mem' => zvk E n zc_114 (d + 1) xm_114 81 [r0, r1] st v mem' Post)) := zrf rfl
theorem s_114_81a {E : yE} {n d : Nat} {mem : yMem} {Post : Option yV → yMem → Prop} {st : List yV} {r0 r1 : Option yV} {x : Int} : zvc E (n + 1) zc_114 d xm_114 81 [r0, r1] ((0, x) :: st) mem Post = (zvc E n zc_114 d xm_114 82 [r0, r1] (st) mem Post) := zrf rfl
theorem s_114_81b {E : yE} {n d : Nat} {mem : yMem} {Post : Option yV → yMem → Prop} {st : List yV} {r0 r1 : Option yV} {x : Int} : zvc E (n + 1) zc_114 d xm_114 81 [r0, r1] ((1, x) :: st) mem Post = (zvc E n zc_114 d xm_114 82 [r0, r1] (st) mem Post) := zrf rfl
theorem s_114_82 {E : yE} {n d : Nat} {mem : yMem} {Post : Option yV → yMem → Prop} {r0 r1 : Option yV} : zvc E (n + 1) zc_114 d xm_114 82 [r0, r1] ([]) mem Post = (Post none mem) := zrf rfl
theorem s_114_83 {E : yE} {n d : Nat} {mem : yMem} {Post : Option yV → yMem → Prop} {st : List yV} {r1 : Option yV} {x : Int} : zvc E (n + 1) zc_114 d xm_114 83 [some (1, x), r1] (st) mem Post = (zvc E n zc_114 d xm_114 84 [some (1, x), r1] ((1, x) :: st) mem Post) := zrf rfl
theorem s_114_84 {E : yE} {n d : Nat} {mem : yMem} {Post : Option yV → yMem → Prop} {st : List yV} {r0 r1 : Option yV} : zvc E (n + 1) zc_114 d xm_114 84 [r0, r1] ((1, 54) :: st) mem Post = (zvc E n zc_114 d xm_114 87 [r0, r1] ((1, 55) :: st) mem Post) := zrf rfl
theorem s_114_87 {E : yE} {n d : Nat} {mem : yMem} {Post : Option yV → yMem → Prop} {st : List yV} {r0 r1 : Option yV} {z : Int} : zvc E (n + 1) zc_114 d xm_114 87 [r0, r1] ((1, z) :: st) mem Post = (zio z 9 = true ∧ ysum st ≤ 8 ∧ yCon E d xm_126 [(1, z)] mem (fun v mem' => zgk E d xm_114 90 [r0, r1] st v mem' Post)) := zrf rfl
theorem s_114_90 {E : yE} {n d : Nat} {mem : yMem} {Post : Option yV → yMem → Prop} {st : List yV} {r1 : Option yV} {x : Int} : zvc E (n + 1) zc_114 d xm_114 90 [some (1, x), r1] (st) mem Post = (zvc E n zc_114 d xm_114 91 [some (1, x), r1] ((1, x) :: st) mem Post) := zrf rfl
theorem s_114_91 {E : yE} {n d : Nat} {mem : yMem} {Post : Option yV → yMem → Prop} {st : List yV} {r0 r1 : Option yV} : zvc E (n + 1) zc_114 d xm_114 91 [r0, r1] ((1, 54) :: st) mem Post = (zvc E n zc_114 d xm_114 94 [r0, r1] ((1, 28) :: st) mem Post) := zrf rfl
theorem s_114_94_2 {E : yE} {n d : Nat} {mem : yMem} {Post : Option yV → yMem → Prop} {st : List yV} {r0 r1 : Option yV} : zvc E (n + 1) zc_114 d xm_114 94 [r0, r1] ((1, 2) :: st) mem Post = (zvc E n zc_114 d xm_114 97 [r0, r1] ((1, 22) :: st) mem Post) := zrf rfl
theorem s_114_94_28 {E : yE} {n d : Nat} {mem : yMem} {Post : Option yV → yMem → Prop} {st : List yV} {r0 r1 : Option yV} : zvc E (n + 1) zc_114 d xm_114 94 [r0, r1] ((1, 28) :: st) mem Post = (zvc E n zc_114 d xm_114 97 [r0, r1] ((1, 48) :: st) mem Post) := zrf rfl
theorem s_114_97 {E : yE} {n d : Nat} {mem : yMem} {Post : Option yV → yMem → Prop} {st : List yV} {r0 : Option yV} {x : Int} : zvc E (n + 1) zc_114 d xm_114 97 [r0, some (0, x)] (st) mem Post = (zvc E n zc_114 d xm_114 98 [r0, some (0, x)] ((0, x) :: st) mem Post) := zrf rfl
theorem s_114_98 {E : yE} {n d : Nat} {mem : yMem} {Post : Option yV → yMem → Prop} {st : List yV} {r1 : Option yV} {x : Int} : zvc E (n + 1) zc_114 d xm_114 98 [some (1, x), r1] (st) mem Post = (zvc E n zc_114 d xm_114 99 [some (1, x), r1] ((1, x) :: st) mem Post) := zrf rfl
theorem s_114_99 {E : yE} {n d : Nat} {mem : yMem} {Post : Option yV → yMem → Prop} {st : List yV} {r0 r1 : Option yV} : zvc E (n + 1) zc_114 d xm_114 99 [r0, r1] ((1, 54) :: st) mem Post = (zvc E n zc_114 d xm_114 102 [r0, r1] ((1, 55) :: st) mem Post) := zrf rfl
theorem s_114_102 {E : yE} {n d : Nat} {mem : yMem} {Post : Option yV → yMem → Prop} {st : List yV} {r0 r1 : Option yV} {z a0 a1 : Int} : zvc E (n + 1) zc_114 d xm_114 102 [r0, r1] ((1, a1) :: (0, a0) :: (1, z) :: st) mem Post = (zio z 2 = true ∧ ysum st ≤ 8 ∧ yCon E d xm_71 [(1, z), (0, a0), (1, a1)] mem (fun v mem' => zgk E d xm_114 105 [r0, r1] st v mem' Post)) := zrf rfl
theorem s_114_105 {E : yE} {n d : Nat} {mem : yMem} {Post : Option yV → yMem → Prop} {r0 r1 : Option yV} : zvc E (n + 1) zc_114 d xm_114 105 [r0, r1] ([]) mem Post = (Post none mem) := zrf rfl
theorem s_64_0 {E : yE} {n d : Nat} {mem : yMem} {Post : Option yV → yMem → Prop} {st : List yV} {r1 : Option yV} {x : Int} : zvc E (n + 1) [] d xm_64 0 [some (1, x), r1] (st) mem Post = (zvc E n [] d xm_64 1 [some (1, x), r1] ((1, x) :: st) mem Post) := zrf rfl
theorem s_64_1_22 {E : yE} {n d : Nat} {mem : yMem} {Post : Option yV → yMem → Prop} {st : List yV} {r0 r1 : Option yV} : zvc E (n + 1) [] d xm_64 1 [r0, r1] ((1, 22) :: st) mem Post = (zvc E n [] d xm_64 4 [r0, r1] ((1, 26) :: st) mem Post) := zrf rfl
theorem s_64_1_48 {E : yE} {n d : Nat} {mem : yMem} {Post : Option yV → yMem → Prop} {st : List yV} {r0 r1 : Option yV} : zvc E (n + 1) [] d xm_64 1 [r0, r1] ((1, 48) :: st) mem Post = (zvc E n [] d xm_64 4 [r0, r1] ((1, 52) :: st) mem Post) := zrf rfl
theorem s_64_4 {E : yE} {n d : Nat} {mem : yMem} {Post : Option yV → yMem → Prop} {st : List yV} {r0 : Option yV} {x : Int} : zvc E (n + 1) [] d xm_64 4 [r0, some (0, x)] (st) mem Post = (zvc E n [] d xm_64 5 [r0, some (0, x)] ((0, x) :: st) mem Post) := zrf rfl
theorem s_64_5 {E : yE} {n d : Nat} {mem : yMem} {Post : Option yV → yMem → Prop} {st : List yV} {r0 r1 : Option yV} {z j : Int} : zvc E (n + 1) [] d xm_64 5 [r0, r1] ((0, j) :: (1, z) :: st) mem Post = ((0 ≤ w32 j ∧ w32 j < ((zar z 0 : Nat) : Int)) ∧ zvc E n [] d xm_64 6 [r0, r1] ((0, mem z.toNat (w32 j).toNat) :: st) mem Post) := zrf rfl
theorem s_64_6 {E : yE} {n d : Nat} {mem : yMem} {Post : Option yV → yMem → Prop} {st : List yV} {r1 : Option yV} {x : Int} : zvc E (n + 1) [] d xm_64 6 [some (1, x), r1] (st) mem Post = (zvc E n [] d xm_64 7 [some (1, x), r1] ((1, x) :: st) mem Post) := zrf rfl
theorem s_64_7_22 {E : yE} {n d : Nat} {mem : yMem} {Post : Option yV → yMem → Prop} {st : List yV} {r0 r1 : Option yV} : zvc E (n + 1) [] d xm_64 7 [r0, r1] ((1, 22) :: st) mem Post = (zvc E n [] d xm_64 10 [r0, r1] ((1, 25) :: st) mem Post) := zrf rfl
theorem s_64_7_48 {E : yE} {n d : Nat} {mem : yMem} {Post : Option yV → yMem → Prop} {st : List yV} {r0 r1 : Option yV} : zvc E (n + 1) [] d xm_64 7 [r0, r1] ((1, 48) :: st) mem Post = (zvc E n [] d xm_64 10 [r0, r1] ((1, 51) :: st) mem Post) := zrf rfl
theorem s_64_10 {E : yE} {n d : Nat} {mem : yMem} {Post : Option yV → yMem → Prop} {st : List yV} {r0 : Option yV} {x : Int} : zvc E (n + 1) [] d xm_64 10 [r0, some (0, x)] (st) mem Post = (zvc E n [] d xm_64 11 [r0, some (0, x)] ((0, x) :: st) mem Post) := zrf rfl
theorem s_64_11 {E : yE} {n d : Nat} {mem : yMem} {Post : Option yV → yMem → Prop} {st : List yV} {r0 r1 : Option yV} {z j : Int} : zvc E (n + 1) [] d xm_64 11 [r0, r1] ((0, j) :: (1, z) :: st) mem Post = ((0 ≤ w32 j ∧ w32 j < ((zar z 0 : Nat) : Int)) ∧ zvc E n [] d xm_64 12 [r0, r1] ((0, mem z.toNat (w32 j).toNat) :: st) mem Post) := zrf rfl
theorem s_64_12 {E : yE} {n d : Nat} {mem : yMem} {Post : Option yV → yMem → Prop} {st : List yV} {r0 r1 : Option yV} {x y : Int} : zvc E (n + 1) [] d xm_64 12 [r0, r1] ((0, y) :: (0, x) :: st) mem Post = ((w32 x ≤ w32 y → zvc E n [] d xm_64 19 [r0, r1] (st) mem Post) ∧ (¬ (w32 x ≤ w32 y) → zvc E n [] d xm_64 15 [r0, r1] (st) mem Post)) := zrf rfl
theorem s_64_15 {E : yE} {n d : Nat} {mem : yMem} {Post : Option yV → yMem → Prop} {st : List yV} {r0 r1 : Option yV} : zvc E (n + 1) [] d xm_64 15 [r0, r1] (st) mem Post = (zvc E n [] d xm_64 16 [r0, r1] ((0, 1) :: st) mem Post) := zrf rfl
theorem s_64_16 {E : yE} {n d : Nat} {mem : yMem} {Post : Option yV → yMem → Prop} {st : List yV} {r0 r1 : Option yV} : zvc E (n + 1) [] d xm_64 16 [r0, r1] (st) mem Post = (zvc E n [] d xm_64 20 [r0, r1] (st) mem Post) := zrf rfl
theorem s_64_19 {E : yE} {n d : Nat} {mem : yMem} {Post : Option yV → yMem → Prop} {st : List yV} {r0 r1 : Option yV} : zvc E (n + 1) [] d xm_64 19 [r0, r1] (st) mem Post = (zvc E n [] d xm_64 20 [r0, r1] ((0, 0) :: st) mem Post) := zrf rfl
theorem s_64_20 {E : yE} {n d : Nat} {mem : yMem} {Post : Option yV → yMem → Prop} {r0 r1 : Option yV} {x : Int} : zvc E (n + 1) [] d xm_64 20 [r0, r1] ([(0, x)]) mem Post = ((w32 x = 0 ∨ w32 x = 1) ∧ Post (some (0, x)) mem) := zrf rfl
theorem e_111 {E : yE} {d : Nat} {mem : yMem} {Q : Option yV → yMem → Prop} {z a0 a1 : Int} (h : zG E d xm_111 0 [some (1, z), some (0, a0), some (0, a1)] [] mem Q) : yCon E (d + 1) xm_111 [(1, z), (0, a0), (0, a1)] mem Q := zcon_of xmo_111 (Nat.le_of_ble_eq_true rfl) h
theorem e_113 {E : yE} {d : Nat} {mem : yMem} {Q : Option yV → yMem → Prop} {z : Int} (h : zG E d xm_113 0 [some (1, z), none] [] mem Q) : yCon E (d + 1) xm_113 [(1, z)] mem Q := zcon_of xmo_113 (Nat.le_of_ble_eq_true rfl) h
theorem e_114 {E : yE} {d : Nat} {mem : yMem} {Q : Option yV → yMem → Prop} {z : Int} (h : zG E d xm_114 0 [some (1, z), none] [] mem Q) : yCon E (d + 1) xm_114 [(1, z)] mem Q := zcon_of xmo_114 (Nat.le_of_ble_eq_true rfl) h
def pLn (told : Bool) (mx : Int) (y : sY) : Int × sY := if told then (0, yFl 3 y) else yNm 0 mx (yNx y)
section CU
variable {E : yE} {mem : yMem} {Q : Option yV → yMem → Prop} {ch : Nat → Int} {n : Nat} {x : sY}
theorem g_lone (hE : yEok E) {D : Nat} (hD : 6 ≤ D) {a b : Int} {told : Bool} (ha : w32 a = if told then 1 else 0) (hb : w32 b ≤ 99999) (h : cTk ch n mem x) (hQ : ∀ r m, aFrm cfF mem m → w32 r = (pLn told (w32 b) x).1 → cTk ch n m (pLn told (w32 b) x).2 → Q (some (0, r)) m) : yCon E D xm_111 [(1, 54), (0, a), (0, b)] mem Q := by
  obtain ⟨d, rfl⟩ := Nat.exists_eq_add_of_le' hD
  refine e_111 ?_
  refine zvc_ok hE 90 [] _ _ _ _ _ _ _ xmo_111 ?_
  simp only [ynok_30, ynok_31, w32c_0, w32c_1, w32c_2, w32c_3, w32c_4, w32c_5, w32c_6, w32c_7, w32c_8, w32c_9, w32c_10, w32c_11, w32c_12, w32c_13, w32c_14, w32c_m1, w32c_m2, w32c_118, Int.reduceAdd, Int.reduceSub, Int.reduceMul, yput_s, yput_n, znl_n, znl_0, znl_1, znl_4, ysum_n, ysum_0, ysum_1, ysum_4, true_and, and_true, Nat.reduceAdd, Nat.reduceLeDiff, true_implies, eq_self, true_or, or_true, or_false, false_or, not_true_eq_false, not_false_eq_true, false_implies, implies_true, yset_s, yset_o, yset_d, ne_eq, Nat.reduceEqDiff, Int.reduceToNat, Int.reduceEq, Int.reduceLE, Int.reduceLT, Classical.not_not, Nat.reduceLT, ↓zvk_s, ↓zvk_n, ↓s_111_0, ↓s_111_1, ↓s_111_4, ↓s_111_5, ↓s_111_8, ↓s_111_9, ↓s_111_12a, ↓s_111_12b, ↓s_111_13, ↓s_111_14, ↓s_111_15, ↓s_111_16, ↓s_111_19, ↓s_111_22, ↓s_111_23, ↓s_111_24, ↓s_111_25, ↓s_111_28, ↓s_123_0, ↓s_123_1, ↓s_123_4, ↓s_123_7, ↓s_123_8, ↓s_123_9, ↓s_123_12, ↓s_123_13, ↓s_123_14, ↓s_123_17, ↓s_123_20, ↓s_123_21, ↓s_123_22, ↓s_123_25, ↓s_123_26, zio_54, zio_55]
  rw [ha]
  cases told with
  | false =>
    refine ⟨fun _ => ?_, fun h => absurd rfl h⟩
    refine g_next hE (by omega) h (fun m1 F1 T1 => ?_)
    refine zgk_n hE xmo_111 60 [] ?_
    simp only [ynok_30, ynok_31, w32c_0, w32c_1, w32c_2, w32c_3, w32c_4, w32c_5, w32c_6, w32c_7, w32c_8, w32c_9, w32c_10, w32c_11, w32c_12, w32c_13, w32c_14, w32c_m1, w32c_m2, w32c_118, Int.reduceAdd, Int.reduceSub, Int.reduceMul, yput_s, yput_n, znl_n, znl_0, znl_1, znl_4, ysum_n, ysum_0, ysum_1, ysum_4, true_and, and_true, Nat.reduceAdd, Nat.reduceLeDiff, true_implies, eq_self, true_or, or_true, or_false, false_or, not_true_eq_false, not_false_eq_true, false_implies, implies_true, yset_s, yset_o, yset_d, ne_eq, Nat.reduceEqDiff, Int.reduceToNat, Int.reduceEq, Int.reduceLE, Int.reduceLT, Classical.not_not, Nat.reduceLT, ↓zvk_s, ↓zvk_n, ↓s_111_0, ↓s_111_1, ↓s_111_4, ↓s_111_5, ↓s_111_8, ↓s_111_9, ↓s_111_12a, ↓s_111_12b, ↓s_111_13, ↓s_111_14, ↓s_111_15, ↓s_111_16, ↓s_111_19, ↓s_111_22, ↓s_111_23, ↓s_111_24, ↓s_111_25, ↓s_111_28, ↓s_123_0, ↓s_123_1, ↓s_123_4, ↓s_123_7, ↓s_123_8, ↓s_123_9, ↓s_123_12, ↓s_123_13, ↓s_123_14, ↓s_123_17, ↓s_123_20, ↓s_123_21, ↓s_123_22, ↓s_123_25, ↓s_123_26, zio_54, zio_55]
    refine g_number hE (by omega) T1 (by decide) hb (fun r m2 F2 e2 T2 => ?_)
    rw [w32c_0] at e2 T2
    refine zgk_s hE xmo_111 60 [] ?_
    simp only [ynok_30, ynok_31, w32c_0, w32c_1, w32c_2, w32c_3, w32c_4, w32c_5, w32c_6, w32c_7, w32c_8, w32c_9, w32c_10, w32c_11, w32c_12, w32c_13, w32c_14, w32c_m1, w32c_m2, w32c_118, Int.reduceAdd, Int.reduceSub, Int.reduceMul, yput_s, yput_n, znl_n, znl_0, znl_1, znl_4, ysum_n, ysum_0, ysum_1, ysum_4, true_and, and_true, Nat.reduceAdd, Nat.reduceLeDiff, true_implies, eq_self, true_or, or_true, or_false, false_or, not_true_eq_false, not_false_eq_true, false_implies, implies_true, yset_s, yset_o, yset_d, ne_eq, Nat.reduceEqDiff, Int.reduceToNat, Int.reduceEq, Int.reduceLE, Int.reduceLT, Classical.not_not, Nat.reduceLT, ↓zvk_s, ↓zvk_n, ↓s_111_0, ↓s_111_1, ↓s_111_4, ↓s_111_5, ↓s_111_8, ↓s_111_9, ↓s_111_12a, ↓s_111_12b, ↓s_111_13, ↓s_111_14, ↓s_111_15, ↓s_111_16, ↓s_111_19, ↓s_111_22, ↓s_111_23, ↓s_111_24, ↓s_111_25, ↓s_111_28, ↓s_123_0, ↓s_123_1, ↓s_123_4, ↓s_123_7, ↓s_123_8, ↓s_123_9, ↓s_123_12, ↓s_123_13, ↓s_123_14, ↓s_123_17, ↓s_123_20, ↓s_123_21, ↓s_123_22, ↓s_123_25, ↓s_123_26, zio_54, zio_55]
    exact hQ r m2 (aFrm_tt F1 F2) e2 T2
  | true =>
    refine ⟨fun h => absurd h (by decide), fun _ => ⟨fun hz => ?_, fun hz => ?_⟩⟩
    · exact hQ 0 _ (g_fl1 (f := 3) h hz).1 w32c_0 (g_fl1 h hz).2
    · exact hQ 0 _ (g_fl0 (f := 3) h (by decide) (by decide) hz).1 w32c_0 (g_fl0 h (by decide) (by decide) hz).2
/-! BAKERS: name, purse -/
abbrev dBk : Type := List (Int × Int)
def cBk (m : yMem) (bk : dBk) : Prop := cNm m 35 3 (bk.map (fun t => t.1)) ∧ ∀ j t, bk[j]? = some t → w32 (m 47 j) = t.2
/-- a baker's LINE: the state, his purse, what his E says -/
def pBk (bk : dBk) (cn : Nat) (o : sK) (x : sY) : sX × (Int × Int) := if (yBg (bk.map (fun t => t.1)) 3 x).1 = -1 then (match (yBg (bk.map (fun t => t.1)) 3 x).2 with | .inl e => .inl e | .inr _ => .inl (0, 0), (0, 0)) else (pE (yNm 0 999 (yBg (bk.map (fun t => t.1)) 3 x).2).2 cn o, (yVl (yNx x), (yNm 0 999 (yBg (bk.map (fun t => t.1)) 3 x).2).1))
abbrev bkW : List (Nat × Nat) := [(55, 0), (35, 2), (36, 0), (47, 0), (48, 5), (48, 7), (48, 8), (48, 9), (48, 10), (49, 0), (50, 0), (53, 0)]
def bkG (b m : yMem) (f : Nat) : Prop := ∀ i j, amod bkW i j = false → ¬ (i = 52 ∧ j = f) → ¬ (i = 51 ∧ j = f) → m i j = b i j
theorem g_readBaker (hE : yEok E) {D : Nat} (hD : 10 ≤ D) {bk : dBk} {cn : Nat} {o : sK} (h : cTk ch n mem x) (hV : cBk mem bk) (hS : FoS mem cn o) (hQ : ∀ m, bkG mem m (2 + bk.length) → cTk ch n m (yOf (pBk bk cn o x).1) → (∀ u, (pBk bk cn o x).1 = .inr u → bk.length < 3 ∧ cBk m (bk ++ [(pBk bk cn o x).2]) ∧ FoE m (2 + bk.length) u ∧ w32 (m 51 (2 + bk.length)) = (o.length : Int)) → Q none m) : yCon E D xm_113 [(1, 54)] mem Q := by
  obtain ⟨d, rfl⟩ := Nat.exists_eq_add_of_le' hD
  refine e_113 ?_
  refine zvc_ok hE 90 [] _ _ _ _ _ _ _ xmo_113 ?_
  simp only [ynok_30, ynok_31, w32c_0, w32c_1, w32c_2, w32c_3, w32c_4, w32c_5, w32c_6, w32c_7, w32c_8, w32c_9, w32c_10, w32c_11, w32c_12, w32c_13, w32c_14, w32c_m1, w32c_m2, w32c_118, Int.reduceAdd, Int.reduceSub, Int.reduceMul, yput_s, yput_n, znl_n, znl_0, znl_1, znl_4, ysum_n, ysum_0, ysum_1, ysum_4, true_and, and_true, Nat.reduceAdd, Nat.reduceLeDiff, true_implies, eq_self, true_or, or_true, or_false, false_or, not_true_eq_false, not_false_eq_true, false_implies, implies_true, yset_s, yset_o, yset_d, ne_eq, Nat.reduceEqDiff, Int.reduceToNat, Int.reduceEq, Int.reduceLE, Int.reduceLT, Classical.not_not, Nat.reduceLT, ↓zvk_s, ↓zvk_n, ↓s_113_0, ↓s_113_1, ↓s_113_2, ↓s_113_5_2, ↓s_113_5_28, ↓s_113_8, ↓s_113_11n, ↓s_113_11i, ↓s_113_11p, ↓s_113_12, ↓s_113_13, ↓s_113_14, ↓s_113_17, ↓s_113_18, ↓s_113_19, ↓s_113_22_2, ↓s_113_22_28, ↓s_113_25, ↓s_113_26, ↓s_113_27, ↓s_113_28, ↓s_113_31, ↓s_113_34, ↓s_113_35, ↓s_113_36, ↓s_113_39_2, ↓s_113_39_28, ↓s_113_42, ↓s_113_43, ↓s_113_44, ↓s_113_45, ↓s_113_46, ↓s_113_49, ↓s_113_52, w32c_999, zio_2, zio_35, zio_9, zar_47, zia_47, zln_47, zit_47, zio_48, zar_21, zia_21, zln_21, zit_21, zio_54, zio_22, zio_55, zio_28]
  refine g_begin_35 hE (by omega) h hV.1 (fun r m1 F1 h1 T1 k1 kk => ?_)
  have G1 : aFrm bkW mem m1 := aFrm_w F1 (by decide)
  have hb := yBg_1 (nm := bk.map (fun t => t.1)) (mx := 3) (x := x)
  have hlen : (bk.map (fun t => t.1)).length = bk.length := List.length_map _
  rw [hlen] at hb
  refine zgk_s hE xmo_113 60 [] ?_
  simp only [ynok_30, ynok_31, w32c_0, w32c_1, w32c_2, w32c_3, w32c_4, w32c_5, w32c_6, w32c_7, w32c_8, w32c_9, w32c_10, w32c_11, w32c_12, w32c_13, w32c_14, w32c_m1, w32c_m2, w32c_118, Int.reduceAdd, Int.reduceSub, Int.reduceMul, yput_s, yput_n, znl_n, znl_0, znl_1, znl_4, ysum_n, ysum_0, ysum_1, ysum_4, true_and, and_true, Nat.reduceAdd, Nat.reduceLeDiff, true_implies, eq_self, true_or, or_true, or_false, false_or, not_true_eq_false, not_false_eq_true, false_implies, implies_true, yset_s, yset_o, yset_d, ne_eq, Nat.reduceEqDiff, Int.reduceToNat, Int.reduceEq, Int.reduceLE, Int.reduceLT, Classical.not_not, Nat.reduceLT, ↓zvk_s, ↓zvk_n, ↓s_113_0, ↓s_113_1, ↓s_113_2, ↓s_113_5_2, ↓s_113_5_28, ↓s_113_8, ↓s_113_11n, ↓s_113_11i, ↓s_113_11p, ↓s_113_12, ↓s_113_13, ↓s_113_14, ↓s_113_17, ↓s_113_18, ↓s_113_19, ↓s_113_22_2, ↓s_113_22_28, ↓s_113_25, ↓s_113_26, ↓s_113_27, ↓s_113_28, ↓s_113_31, ↓s_113_34, ↓s_113_35, ↓s_113_36, ↓s_113_39_2, ↓s_113_39_28, ↓s_113_42, ↓s_113_43, ↓s_113_44, ↓s_113_45, ↓s_113_46, ↓s_113_49, ↓s_113_52, w32c_999, zio_2, zio_35, zio_9, zar_47, zia_47, zln_47, zit_47, zio_48, zar_21, zia_21, zln_21, zit_21, zio_54, zio_22, zio_55, zio_28]
  refine ⟨fun hr => ?_, fun hr => ?_⟩
  · obtain ⟨hb1, hb2⟩ : (yBg (bk.map (fun t => t.1)) 3 x).1 = (bk.length : Int) ∧ bk.length < 3 := by
      rcases hb with ⟨h0, _⟩ | hb
      · exact absurd (h1.trans h0) hr
      · exact hb
    have hrl : w32 r = (bk.length : Int) := h1.trans hb1
    have hrt : (w32 r).toNat = bk.length := by rw [hrl]; exact Int.toNat_natCast _
    have e0 : ¬ (yBg (bk.map (fun t => t.1)) 3 x).1 = -1 := by omega
    have ep : pBk bk cn o x = (pE (yNm 0 999 (yBg (bk.map (fun t => t.1)) 3 x).2).2 cn o, (yVl (yNx x), (yNm 0 999 (yBg (bk.map (fun t => t.1)) 3 x).2).1)) := by unfold pBk; rw [if_neg e0]
    rw [ep] at hQ
    revert T1 hQ
    generalize (yBg (bk.map (fun t => t.1)) 3 x).2 = y
    intro hQ T1
    refine g_number hE (by omega) T1 (by decide) (by decide) (fun r1 m2 F2 e2 T2 => ?_)
    rw [w32c_0, show w32 999 = 999 by decide] at e2 T2
    refine zgk_s hE xmo_113 60 [] ?_
    simp only [ynok_30, ynok_31, w32c_0, w32c_1, w32c_2, w32c_3, w32c_4, w32c_5, w32c_6, w32c_7, w32c_8, w32c_9, w32c_10, w32c_11, w32c_12, w32c_13, w32c_14, w32c_m1, w32c_m2, w32c_118, Int.reduceAdd, Int.reduceSub, Int.reduceMul, yput_s, yput_n, znl_n, znl_0, znl_1, znl_4, ysum_n, ysum_0, ysum_1, ysum_4, true_and, and_true, Nat.reduceAdd, Nat.reduceLeDiff, true_implies, eq_self, true_or, or_true, or_false, false_or, not_true_eq_false, not_false_eq_true, false_implies, implies_true, yset_s, yset_o, yset_d, ne_eq, Nat.reduceEqDiff, Int.reduceToNat, Int.reduceEq, Int.reduceLE, Int.reduceLT, Classical.not_not, Nat.reduceLT, ↓zvk_s, ↓zvk_n, ↓s_113_0, ↓s_113_1, ↓s_113_2, ↓s_113_5_2, ↓s_113_5_28, ↓s_113_8, ↓s_113_11n, ↓s_113_11i, ↓s_113_11p, ↓s_113_12, ↓s_113_13, ↓s_113_14, ↓s_113_17, ↓s_113_18, ↓s_113_19, ↓s_113_22_2, ↓s_113_22_28, ↓s_113_25, ↓s_113_26, ↓s_113_27, ↓s_113_28, ↓s_113_31, ↓s_113_34, ↓s_113_35, ↓s_113_36, ↓s_113_39_2, ↓s_113_39_28, ↓s_113_42, ↓s_113_43, ↓s_113_44, ↓s_113_45, ↓s_113_46, ↓s_113_49, ↓s_113_52, w32c_999, zio_2, zio_35, zio_9, zar_47, zia_47, zln_47, zit_47, zio_48, zar_21, zia_21, zln_21, zit_21, zio_54, zio_22, zio_55, zio_28]
    refine ⟨⟨by omega, by omega⟩, ?_⟩
    rw [hrt]
    have er : w32 (2 + r) = ((2 + bk.length : Nat) : Int) := by rw [w32_ad (by rw [w32c_2]; omega) (by rw [w32c_2]; omega), w32c_2]; omega
    have q2 : ∀ i j, i ≠ 55 → m2 i j = m1 i j := fun i j q => F2 i j (amod_n55 q)
    have S2 : FoS (yset m2 47 bk.length r1) cn o := by
      obtain ⟨⟨s1, s2⟩, s3, s4⟩ := hS
      have z : ∀ i j, i ≠ 55 → i ≠ 47 → amod (cfF ++ [(35, 2), (36, 0)]) i j = false → yset m2 47 bk.length r1 i j = mem i j := fun i j z1 z2 z3 => by rw [yset_o z2, q2 i j z1, F1 i j z3]
      exact ⟨⟨by rw [z 48 4 (by decide) (by decide) rfl]; exact s1, cKs_eq s2 (fun j _ => z 49 j (by decide) (by decide) rfl) (fun j _ => z 50 j (by decide) (by decide) rfl)⟩, by rw [z 48 8 (by decide) (by decide) rfl]; exact s3, s4⟩
    refine g_ftell hE (by omega) (f := 2 + bk.length) (by omega) er (cTk_of T2 (fun j => yset_o (by decide)) (fun j => yset_o (by decide)) (fun j => yset_o (by decide))) S2 (fun m3 F3 T3 U3 => ?_)
    refine zgk_n hE xmo_113 60 [] ?_
    simp only [ynok_30, ynok_31, w32c_0, w32c_1, w32c_2, w32c_3, w32c_4, w32c_5, w32c_6, w32c_7, w32c_8, w32c_9, w32c_10, w32c_11, w32c_12, w32c_13, w32c_14, w32c_m1, w32c_m2, w32c_118, Int.reduceAdd, Int.reduceSub, Int.reduceMul, yput_s, yput_n, znl_n, znl_0, znl_1, znl_4, ysum_n, ysum_0, ysum_1, ysum_4, true_and, and_true, Nat.reduceAdd, Nat.reduceLeDiff, true_implies, eq_self, true_or, or_true, or_false, false_or, not_true_eq_false, not_false_eq_true, false_implies, implies_true, yset_s, yset_o, yset_d, ne_eq, Nat.reduceEqDiff, Int.reduceToNat, Int.reduceEq, Int.reduceLE, Int.reduceLT, Classical.not_not, Nat.reduceLT, ↓zvk_s, ↓zvk_n, ↓s_113_0, ↓s_113_1, ↓s_113_2, ↓s_113_5_2, ↓s_113_5_28, ↓s_113_8, ↓s_113_11n, ↓s_113_11i, ↓s_113_11p, ↓s_113_12, ↓s_113_13, ↓s_113_14, ↓s_113_17, ↓s_113_18, ↓s_113_19, ↓s_113_22_2, ↓s_113_22_28, ↓s_113_25, ↓s_113_26, ↓s_113_27, ↓s_113_28, ↓s_113_31, ↓s_113_34, ↓s_113_35, ↓s_113_36, ↓s_113_39_2, ↓s_113_39_28, ↓s_113_42, ↓s_113_43, ↓s_113_44, ↓s_113_45, ↓s_113_46, ↓s_113_49, ↓s_113_52, w32c_999, zio_2, zio_35, zio_9, zar_47, zia_47, zln_47, zit_47, zio_48, zar_21, zia_21, zln_21, zit_21, zio_54, zio_22, zio_55, zio_28]
    refine hQ m3 (fun i j z1 z2 z3 => ?_) T3 (fun u hu => ⟨hb2, ⟨?_, fun j t ht => ?_⟩, U3 u hu⟩)
    · rw [F3 i j (amod_sub (by decide) z1) z2 z3]
      have G2 : aFrm bkW mem (yset m2 47 bk.length r1) := aFrm_set (aFrm_tt G1 (aFrm_w F2 (by decide))) rfl
      exact G2 i j z1
    · rw [List.map_append]
      refine cNm_fr (kk hr) ?_ (fun j => ?_)
      · rw [F3 35 1 rfl (fun z => absurd z.1 (by decide)) (fun z => absurd z.1 (by decide)), yset_o (by decide), q2 35 1 (by decide)]
      · show m3 36 j = m1 36 j
        rw [F3 36 j rfl (fun z => absurd z.1 (by decide)) (fun z => absurd z.1 (by decide)), yset_o (by decide), q2 36 j (by decide)]
    · rw [F3 47 j rfl (fun z => absurd z.1 (by decide)) (fun z => absurd z.1 (by decide)), yset_a, if_pos rfl]
      rcases app_get ht with ht | ⟨rfl, rfl⟩
      · have hj := get_lt ht
        rw [if_neg (by omega), q2 47 j (by decide), F1 47 j rfl]
        exact hV.2 j t ht
      · rw [if_pos rfl]
        exact e2
  · have e0 : (yBg (bk.map (fun t => t.1)) 3 x).1 = -1 := by rw [← h1]; exact hr
    rcases hb with ⟨_, e, he⟩ | ⟨hb, _⟩
    · have ep : pBk bk cn o x = (.inl e, (0, 0)) := by unfold pBk; rw [if_pos e0, he]
      rw [ep] at hQ
      rw [he] at T1
      refine hQ m1 (fun i j z1 _ _ => G1 i j z1) T1 (fun u hu => by cases hu)
    · omega
def xFl (f : Nat) (y : sY) : sX := match y with
  | .inl e => .inl e
  | .inr l => .inl (f, (sHd l).2.1)
theorem yOf_fl (f : Nat) (y : sY) : yOf (xFl f y) = yFl f y := by cases y <;> rfl
theorem xFl_r {f : Nat} {y : sY} {u : sU} (h : xFl f y = .inr u) : False := by
  cases y <;> cases h
/-- one of the two laws -/
def pL1 (tl : Bool) (cn : Nat) (o : sK) (y : sY) : sX := if tl then xFl 3 y else pE (yNx y) cn o
def pLw (tl : Nat → Bool) (cn : Nat) (o : sK) (x : sY) : sX × Nat := if yKd (yNx x) = 28 then (pL1 (tl 0) cn o (yNx x), 0) else if yKd (yNx x) = 29 then (pL1 (tl 1) cn o (yNx x), 1) else (xFl 1 (yNx x), 0)
theorem FoS_cf {m m' : yMem} {cn : Nat} {o : sK} (h : FoS m cn o) (hF : aFrm cfF m m') : FoS m' cn o := by
  obtain ⟨⟨s1, s2⟩, s3, s4⟩ := h
  exact ⟨⟨by rw [hF 48 4 (amod_n55 (by decide))]; exact s1, cKs_eq s2 (fun j _ => hF 49 j (amod_n55 (by decide))) (fun j _ => hF 50 j (amod_n55 (by decide)))⟩, by rw [hF 48 8 (amod_n55 (by decide))]; exact s3, s4⟩
theorem ftG_cf {b m m' : yMem} {f : Nat} (h : aFrm cfF b m) (h2 : ftG m m' f) : ftG b m' f := fun i j q1 q2 q3 => by
  rw [h2 i j q1 q2 q3]
  exact cf_fv h i j q1
theorem gl59 (hE : yEok E) {d f : Nat} {m : yMem} {y : sY} {F : Int} (hd : 8 ≤ d) (hf : f < 2) (hF : w32 F = (f : Int)) {tl : Bool} {cn : Nat} {o : sK} (T : cTk ch n m y) (S : FoS m cn o) (ht : tl = true ↔ w32 (m 51 f) < w32 (m 52 f)) (hQ : ∀ m', ftG m m' f → cTk ch n m' (yOf (pL1 tl cn o y)) → (∀ u, pL1 tl cn o y = .inr u → FoE m' f u ∧ w32 (m' 51 f) = (o.length : Int)) → Q none m') : zG E (d + 1) xm_114 59 [some (1, 54), some (0, F)] [] m Q := by
  have hFt : (w32 F).toNat = f := by rw [hF]; exact Int.toNat_natCast _
  refine zgo_ok (n := 60) hE xmo_114 (cs := zc_114) ?_
  simp only [ynok_30, ynok_31, w32c_0, w32c_1, w32c_2, w32c_3, w32c_4, w32c_5, w32c_6, w32c_7, w32c_8, w32c_9, w32c_10, w32c_11, w32c_12, w32c_13, w32c_14, w32c_m1, w32c_m2, w32c_118, Int.reduceAdd, Int.reduceSub, Int.reduceMul, yput_s, yput_n, znl_n, znl_0, znl_1, znl_4, ysum_n, ysum_0, ysum_1, ysum_4, true_and, and_true, Nat.reduceAdd, Nat.reduceLeDiff, true_implies, eq_self, true_or, or_true, or_false, false_or, not_true_eq_false, not_false_eq_true, false_implies, implies_true, yset_s, yset_o, yset_d, ne_eq, Nat.reduceEqDiff, Int.reduceToNat, Int.reduceEq, Int.reduceLE, Int.reduceLT, Classical.not_not, Nat.reduceLT, ↓zvk_s, ↓zvk_n, ↓s_114_0, ↓s_114_1, ↓s_114_4, ↓s_114_7, ↓s_114_8, ↓s_114_11, ↓s_114_14, ↓s_114_16, ↓s_114_19, ↓s_114_20, ↓s_114_23, ↓s_114_26, ↓s_114_28, ↓s_114_31, ↓s_114_32, ↓s_114_35, ↓s_114_36, ↓s_114_39a, ↓s_114_39b, ↓s_114_40, ↓s_114_41, ↓s_114_42, ↓s_114_45, ↓s_114_48, ↓s_114_50, ↓s_114_53, ↓s_114_54, ↓s_114_57, ↓s_114_58n, ↓s_114_58i, ↓s_114_58p, ↓g_114_59, ↓k_114_59, ↓s_114_60, ↓s_114_63_2, ↓s_114_63_28, ↓s_114_66, ↓s_114_67, ↓s_114_70, ↓s_114_73, ↓s_114_74, ↓s_114_77, ↓s_114_78, ↓s_114_81a, ↓s_114_81b, ↓s_114_82, ↓s_114_83, ↓s_114_84, ↓s_114_87, ↓s_114_90, ↓s_114_91, ↓s_114_94_2, ↓s_114_94_28, ↓s_114_97, ↓s_114_98, ↓s_114_99, ↓s_114_102, ↓s_114_105, w32c_28, w32c_29, ↓s_64_0, ↓s_64_1_22, ↓s_64_1_48, ↓s_64_4, ↓s_64_5, ↓s_64_6, ↓s_64_7_22, ↓s_64_7_48, ↓s_64_10, ↓s_64_11, ↓s_64_12, ↓s_64_15, ↓s_64_16, ↓s_64_19, ↓s_64_20, ↓s_123_0, ↓s_123_1, ↓s_123_4, ↓s_123_7, ↓s_123_8, ↓s_123_9, ↓s_123_12, ↓s_123_13, ↓s_123_14, ↓s_123_17, ↓s_123_20, ↓s_123_21, ↓s_123_22, ↓s_123_25, ↓s_123_26, zio_2, zio_48, zar_51, zia_51, zln_51, zit_51, zar_52, zia_52, zln_52, zit_52, zio_55, zio_22, zio_54, zar_25, zia_25, zln_25, zit_25, zar_26, zia_26, zln_26, zit_26, zio_28]
  rw [hFt]
  refine ⟨⟨by omega, by omega⟩, ⟨by omega, by omega⟩, fun hle => ?_, fun hle => ?_⟩
  · have et : tl = false := by
      cases tl with
      | false => rfl
      | true => have := ht.mp rfl; omega
    subst et
    refine g_next hE (by omega) T (fun m1 F1 T1 => ?_)
    refine zgk_n hE xmo_114 60 zc_114 ?_
    simp only [ynok_30, ynok_31, w32c_0, w32c_1, w32c_2, w32c_3, w32c_4, w32c_5, w32c_6, w32c_7, w32c_8, w32c_9, w32c_10, w32c_11, w32c_12, w32c_13, w32c_14, w32c_m1, w32c_m2, w32c_118, Int.reduceAdd, Int.reduceSub, Int.reduceMul, yput_s, yput_n, znl_n, znl_0, znl_1, znl_4, ysum_n, ysum_0, ysum_1, ysum_4, true_and, and_true, Nat.reduceAdd, Nat.reduceLeDiff, true_implies, eq_self, true_or, or_true, or_false, false_or, not_true_eq_false, not_false_eq_true, false_implies, implies_true, yset_s, yset_o, yset_d, ne_eq, Nat.reduceEqDiff, Int.reduceToNat, Int.reduceEq, Int.reduceLE, Int.reduceLT, Classical.not_not, Nat.reduceLT, ↓zvk_s, ↓zvk_n, ↓s_114_0, ↓s_114_1, ↓s_114_4, ↓s_114_7, ↓s_114_8, ↓s_114_11, ↓s_114_14, ↓s_114_16, ↓s_114_19, ↓s_114_20, ↓s_114_23, ↓s_114_26, ↓s_114_28, ↓s_114_31, ↓s_114_32, ↓s_114_35, ↓s_114_36, ↓s_114_39a, ↓s_114_39b, ↓s_114_40, ↓s_114_41, ↓s_114_42, ↓s_114_45, ↓s_114_48, ↓s_114_50, ↓s_114_53, ↓s_114_54, ↓s_114_57, ↓s_114_58n, ↓s_114_58i, ↓s_114_58p, ↓g_114_59, ↓k_114_59, ↓s_114_60, ↓s_114_63_2, ↓s_114_63_28, ↓s_114_66, ↓s_114_67, ↓s_114_70, ↓s_114_73, ↓s_114_74, ↓s_114_77, ↓s_114_78, ↓s_114_81a, ↓s_114_81b, ↓s_114_82, ↓s_114_83, ↓s_114_84, ↓s_114_87, ↓s_114_90, ↓s_114_91, ↓s_114_94_2, ↓s_114_94_28, ↓s_114_97, ↓s_114_98, ↓s_114_99, ↓s_114_102, ↓s_114_105, w32c_28, w32c_29, zio_2, zio_48, zio_55, zio_22, zio_54, zio_28]
    refine g_ftell hE (by omega) (f := f) (by omega) hF T1 (FoS_cf S F1) (fun m3 F3 T3 U3 => ?_)
    refine zgk_n hE xmo_114 60 zc_114 ?_
    simp only [ynok_30, ynok_31, w32c_0, w32c_1, w32c_2, w32c_3, w32c_4, w32c_5, w32c_6, w32c_7, w32c_8, w32c_9, w32c_10, w32c_11, w32c_12, w32c_13, w32c_14, w32c_m1, w32c_m2, w32c_118, Int.reduceAdd, Int.reduceSub, Int.reduceMul, yput_s, yput_n, znl_n, znl_0, znl_1, znl_4, ysum_n, ysum_0, ysum_1, ysum_4, true_and, and_true, Nat.reduceAdd, Nat.reduceLeDiff, true_implies, eq_self, true_or, or_true, or_false, false_or, not_true_eq_false, not_false_eq_true, false_implies, implies_true, yset_s, yset_o, yset_d, ne_eq, Nat.reduceEqDiff, Int.reduceToNat, Int.reduceEq, Int.reduceLE, Int.reduceLT, Classical.not_not, Nat.reduceLT, ↓zvk_s, ↓zvk_n, ↓s_114_0, ↓s_114_1, ↓s_114_4, ↓s_114_7, ↓s_114_8, ↓s_114_11, ↓s_114_14, ↓s_114_16, ↓s_114_19, ↓s_114_20, ↓s_114_23, ↓s_114_26, ↓s_114_28, ↓s_114_31, ↓s_114_32, ↓s_114_35, ↓s_114_36, ↓s_114_39a, ↓s_114_39b, ↓s_114_40, ↓s_114_41, ↓s_114_42, ↓s_114_45, ↓s_114_48, ↓s_114_50, ↓s_114_53, ↓s_114_54, ↓s_114_57, ↓s_114_58n, ↓s_114_58i, ↓s_114_58p, ↓g_114_59, ↓k_114_59, ↓s_114_60, ↓s_114_63_2, ↓s_114_63_28, ↓s_114_66, ↓s_114_67, ↓s_114_70, ↓s_114_73, ↓s_114_74, ↓s_114_77, ↓s_114_78, ↓s_114_81a, ↓s_114_81b, ↓s_114_82, ↓s_114_83, ↓s_114_84, ↓s_114_87, ↓s_114_90, ↓s_114_91, ↓s_114_94_2, ↓s_114_94_28, ↓s_114_97, ↓s_114_98, ↓s_114_99, ↓s_114_102, ↓s_114_105, w32c_28, w32c_29, zio_2, zio_48, zio_55, zio_22, zio_54, zio_28]
    exact hQ m3 (ftG_cf F1 F3) T3 U3
  · have et : tl = true := ht.mpr (by omega)
    subst et
    have go : ∀ m', aFrm cfF m m' → cTk ch n m' (yFl 3 y) → Q none m' := fun m' g1 g2 => hQ m' (fun i j z _ _ => cf_fv g1 i j z) (by show cTk ch n m' (yOf (xFl 3 y)); rw [yOf_fl]; exact g2) (fun u hu => (xFl_r hu).elim)
    exact ⟨fun hz => go _ (g_fl1 (f := 3) T hz).1 (g_fl1 T hz).2, fun hz => go _ (g_fl0 (f := 3) T (by decide) (by decide) hz).1 (g_fl0 T (by decide) (by decide) hz).2⟩
theorem g_readLaw (hE : yEok E) {D : Nat} (hD : 10 ≤ D) {tl : Nat → Bool} {cn : Nat} {o : sK} (h : cTk ch n mem x) (hS : FoS mem cn o) (ht : ∀ f, f < 2 → (tl f = true ↔ w32 (mem 51 f) < w32 (mem 52 f))) (hQ : ∀ m', ftG mem m' (pLw tl cn o x).2 → cTk ch n m' (yOf (pLw tl cn o x).1) → (∀ u, (pLw tl cn o x).1 = .inr u → FoE m' (pLw tl cn o x).2 u ∧ w32 (m' 51 (pLw tl cn o x).2) = (o.length : Int)) → Q none m') : yCon E D xm_114 [(1, 54)] mem Q := by
  obtain ⟨d, rfl⟩ := Nat.exists_eq_add_of_le' hD
  refine e_114 ?_
  refine zvc_ok hE 90 zc_114 _ _ _ _ _ _ _ xmo_114 ?_
  simp only [ynok_30, ynok_31, w32c_0, w32c_1, w32c_2, w32c_3, w32c_4, w32c_5, w32c_6, w32c_7, w32c_8, w32c_9, w32c_10, w32c_11, w32c_12, w32c_13, w32c_14, w32c_m1, w32c_m2, w32c_118, Int.reduceAdd, Int.reduceSub, Int.reduceMul, yput_s, yput_n, znl_n, znl_0, znl_1, znl_4, ysum_n, ysum_0, ysum_1, ysum_4, true_and, and_true, Nat.reduceAdd, Nat.reduceLeDiff, true_implies, eq_self, true_or, or_true, or_false, false_or, not_true_eq_false, not_false_eq_true, false_implies, implies_true, yset_s, yset_o, yset_d, ne_eq, Nat.reduceEqDiff, Int.reduceToNat, Int.reduceEq, Int.reduceLE, Int.reduceLT, Classical.not_not, Nat.reduceLT, ↓zvk_s, ↓zvk_n, ↓s_114_0, ↓s_114_1, ↓s_114_4, ↓s_114_7, ↓s_114_8, ↓s_114_11, ↓s_114_14, ↓s_114_16, ↓s_114_19, ↓s_114_20, ↓s_114_23, ↓s_114_26, ↓s_114_28, ↓s_114_31, ↓s_114_32, ↓s_114_35, ↓s_114_36, ↓s_114_39a, ↓s_114_39b, ↓s_114_40, ↓s_114_41, ↓s_114_42, ↓s_114_45, ↓s_114_48, ↓s_114_50, ↓s_114_53, ↓s_114_54, ↓s_114_57, ↓s_114_58n, ↓s_114_58i, ↓s_114_58p, ↓g_114_59, ↓k_114_59, ↓s_114_60, ↓s_114_63_2, ↓s_114_63_28, ↓s_114_66, ↓s_114_67, ↓s_114_70, ↓s_114_73, ↓s_114_74, ↓s_114_77, ↓s_114_78, ↓s_114_81a, ↓s_114_81b, ↓s_114_82, ↓s_114_83, ↓s_114_84, ↓s_114_87, ↓s_114_90, ↓s_114_91, ↓s_114_94_2, ↓s_114_94_28, ↓s_114_97, ↓s_114_98, ↓s_114_99, ↓s_114_102, ↓s_114_105, w32c_28, w32c_29, zio_2, zio_48, zio_55, zio_22, zio_54, zio_28]
  refine g_next hE (by omega) h (fun m1 F1 T1 => ?_)
  refine zgk_n hE xmo_114 60 zc_114 ?_
  simp only [ynok_30, ynok_31, w32c_0, w32c_1, w32c_2, w32c_3, w32c_4, w32c_5, w32c_6, w32c_7, w32c_8, w32c_9, w32c_10, w32c_11, w32c_12, w32c_13, w32c_14, w32c_m1, w32c_m2, w32c_118, Int.reduceAdd, Int.reduceSub, Int.reduceMul, yput_s, yput_n, znl_n, znl_0, znl_1, znl_4, ysum_n, ysum_0, ysum_1, ysum_4, true_and, and_true, Nat.reduceAdd, Nat.reduceLeDiff, true_implies, eq_self, true_or, or_true, or_false, false_or, not_true_eq_false, not_false_eq_true, false_implies, implies_true, yset_s, yset_o, yset_d, ne_eq, Nat.reduceEqDiff, Int.reduceToNat, Int.reduceEq, Int.reduceLE, Int.reduceLT, Classical.not_not, Nat.reduceLT, ↓zvk_s, ↓zvk_n, ↓s_114_0, ↓s_114_1, ↓s_114_4, ↓s_114_7, ↓s_114_8, ↓s_114_11, ↓s_114_14, ↓s_114_16, ↓s_114_19, ↓s_114_20, ↓s_114_23, ↓s_114_26, ↓s_114_28, ↓s_114_31, ↓s_114_32, ↓s_114_35, ↓s_114_36, ↓s_114_39a, ↓s_114_39b, ↓s_114_40, ↓s_114_41, ↓s_114_42, ↓s_114_45, ↓s_114_48, ↓s_114_50, ↓s_114_53, ↓s_114_54, ↓s_114_57, ↓s_114_58n, ↓s_114_58i, ↓s_114_58p, ↓g_114_59, ↓k_114_59, ↓s_114_60, ↓s_114_63_2, ↓s_114_63_28, ↓s_114_66, ↓s_114_67, ↓s_114_70, ↓s_114_73, ↓s_114_74, ↓s_114_77, ↓s_114_78, ↓s_114_81a, ↓s_114_81b, ↓s_114_82, ↓s_114_83, ↓s_114_84, ↓s_114_87, ↓s_114_90, ↓s_114_91, ↓s_114_94_2, ↓s_114_94_28, ↓s_114_97, ↓s_114_98, ↓s_114_99, ↓s_114_102, ↓s_114_105, w32c_28, w32c_29, ↓s_64_0, ↓s_64_1_22, ↓s_64_1_48, ↓s_64_4, ↓s_64_5, ↓s_64_6, ↓s_64_7_22, ↓s_64_7_48, ↓s_64_10, ↓s_64_11, ↓s_64_12, ↓s_64_15, ↓s_64_16, ↓s_64_19, ↓s_64_20, ↓s_123_0, ↓s_123_1, ↓s_123_4, ↓s_123_7, ↓s_123_8, ↓s_123_9, ↓s_123_12, ↓s_123_13, ↓s_123_14, ↓s_123_17, ↓s_123_20, ↓s_123_21, ↓s_123_22, ↓s_123_25, ↓s_123_26, zio_2, zio_48, zar_51, zia_51, zln_51, zit_51, zar_52, zia_52, zln_52, zit_52, zio_55, zio_22, zio_54, zar_25, zia_25, zln_25, zit_25, zar_26, zia_26, zln_26, zit_26, zio_28]
  rw [cTk_kd T1]
  have q51 : ∀ j, m1 51 j = mem 51 j := fun j => F1 51 j (amod_n55 (by decide))
  have q52 : ∀ j, m1 52 j = mem 52 j := fun j => F1 52 j (amod_n55 (by decide))
  have A0 : yKd (yNx x) = 28 → zG E (d + 9) xm_114 59 [some (1, 54), some (0, 0)] [] m1 Q := fun hk => by
    have ep : pLw tl cn o x = (pL1 (tl 0) cn o (yNx x), 0) := by unfold pLw; rw [if_pos hk]
    rw [ep] at hQ
    exact gl59 hE (by omega) (f := 0) (by decide) w32c_0 T1 (FoS_cf hS F1) (by rw [q51, q52]; exact ht 0 (by decide)) (fun m' g1 g2 g3 => hQ m' (ftG_cf F1 g1) g2 g3)
  have A1 : yKd (yNx x) = 29 → zG E (d + 9) xm_114 59 [some (1, 54), some (0, 1)] [] m1 Q := fun hk => by
    have ep : pLw tl cn o x = (pL1 (tl 1) cn o (yNx x), 1) := by unfold pLw; rw [if_neg (by omega), if_pos hk]
    rw [ep] at hQ
    exact gl59 hE (by omega) (f := 1) (by decide) w32c_1 T1 (FoS_cf hS F1) (by rw [q51, q52]; exact ht 1 (by decide)) (fun m' g1 g2 g3 => hQ m' (ftG_cf F1 g1) g2 g3)
  refine ⟨fun hk => ⟨fun q => absurd hk q, fun _ => A0 (by omega)⟩, fun hk => ⟨fun hk2 => ⟨fun _ => A1 (by omega), fun q => absurd q hk⟩, fun hk2 => ?_⟩⟩
  have ep : pLw tl cn o x = (xFl 1 (yNx x), 0) := by unfold pLw; rw [if_neg (by omega), if_neg (by omega)]
  rw [ep] at hQ
  have go : ∀ m', aFrm cfF m1 m' → cTk ch n m' (yFl 1 (yNx x)) → Q none m' := fun m' g1 g2 => hQ m' (fun i j z _ _ => aFrm_tt (cf_fv F1) (cf_fv g1) i j z) (by rw [yOf_fl]; exact g2) (fun u hu => (xFl_r hu).elim)
  exact ⟨fun hz => go _ (g_fl1 (f := 1) T1 hz).1 (g_fl1 T1 hz).2, fun hz => go _ (g_fl0 (f := 1) T1 (by decide) (by decide) hz).1 (g_fl0 T1 (by decide) (by decide) hz).2⟩
end CU
end
section
/-! A DOCUMENT: taverns, voices, verses, bakers, purse, seed, formulas (from, to), knots counted, knots -/
abbrev dFs : Type := (Nat → Int × Int) × Nat × sK
abbrev dDc : Type := dTv × dVo × dVe × dBk × (Bool × Int) × (Bool × Int) × dFs
def cFs (m : yMem) (fs : dFs) : Prop := (∀ j, j < 5 → w32 (m 51 j) = (fs.1 j).1 ∧ w32 (m 52 j) = (fs.1 j).2) ∧ FoS m fs.2.1 fs.2.2
def cDc (m : yMem) (D : dDc) : Prop := cTv m D.1 ∧ cVo m D.2.1 ∧ cVe m D.2.2.1 ∧ cBk m D.2.2.2.1 ∧ (w32 (m 54 2) = (if D.2.2.2.2.1.1 then 1 else 0) ∧ w32 (m 28 17) = D.2.2.2.2.1.2) ∧ (w32 (m 54 3) = (if D.2.2.2.2.2.1.1 then 1 else 0) ∧ w32 (m 28 18) = D.2.2.2.2.2.1.2) ∧ cFs m D.2.2.2.2.2.2
/-- a formula more -/
def dFu (fs : dFs) (f : Nat) (u : sU) : dFs := (fun j => if j = f then ((fs.2.2.length : Int), (u.2.2.2.length : Int)) else fs.1 j, u.2.1, u.2.2.2)
def dFx (fs : dFs) (f : Nat) (x : sX) : dFs := match x with
  | .inl _ => fs
  | .inr u => dFu fs f u
def tlF (fs : dFs) (f : Nat) : Bool := decide ((fs.1 f).1 < (fs.1 f).2)
/-- a LINE ahead of its ';' -/
def pLine (x : sY) (D : dDc) : sY × dDc :=
  if yKd x = 17 then ((pTv D.1 x).1, (D.1 ++ [(pTv D.1 x).2], D.2))
  else if yKd x = 18 then ((pVo (D.1.map (fun t => t.1)) D.2.1 x).1, (D.1, D.2.1 ++ [(pVo (D.1.map (fun t => t.1)) D.2.1 x).2], D.2.2))
  else if yKd x = 19 then ((pVe D.2.2.1 x).1, (D.1, D.2.1, D.2.2.1 ++ [(pVe D.2.2.1 x).2], D.2.2.2))
  else if yKd x = 20 then (yOf (pBk D.2.2.2.1 D.2.2.2.2.2.2.2.1 D.2.2.2.2.2.2.2.2 x).1, (D.1, D.2.1, D.2.2.1, D.2.2.2.1 ++ [(pBk D.2.2.2.1 D.2.2.2.2.2.2.2.1 D.2.2.2.2.2.2.2.2 x).2], D.2.2.2.2.1, D.2.2.2.2.2.1, dFx D.2.2.2.2.2.2 (2 + D.2.2.2.1.length) (pBk D.2.2.2.1 D.2.2.2.2.2.2.2.1 D.2.2.2.2.2.2.2.2 x).1))
  else if yKd x = 21 then ((pLn D.2.2.2.2.1.1 999 x).2, (D.1, D.2.1, D.2.2.1, D.2.2.2.1, (true, (pLn D.2.2.2.2.1.1 999 x).1), D.2.2.2.2.2))
  else if yKd x = 22 then ((pLn D.2.2.2.2.2.1.1 99999 x).2, (D.1, D.2.1, D.2.2.1, D.2.2.2.1, D.2.2.2.2.1, (true, (pLn D.2.2.2.2.2.1.1 99999 x).1), D.2.2.2.2.2.2))
  else if yKd x = 23 then (yOf (pLw (tlF D.2.2.2.2.2.2) D.2.2.2.2.2.2.2.1 D.2.2.2.2.2.2.2.2 x).1, (D.1, D.2.1, D.2.2.1, D.2.2.2.1, D.2.2.2.2.1, D.2.2.2.2.2.1, dFx D.2.2.2.2.2.2 (pLw (tlF D.2.2.2.2.2.2) D.2.2.2.2.2.2.2.1 D.2.2.2.2.2.2.2.2 x).2 (pLw (tlF D.2.2.2.2.2.2) D.2.2.2.2.2.2.2.1 D.2.2.2.2.2.2.2.2 x).1))
  else (yFl 1 x, D)
/-- a TEXT: LINES, each with its ';' -/
def pTx : Nat → sY → dDc → Int → sY × dDc × Int
  | 0, x, D, k => (x, D, k)
  | f + 1, x, D, k => if yKd x = 0 then (x, D, k) else if yKd (pLine x D).1 = 4 then pTx f (yNx (pLine x D).1) (pLine x D).2 (k + 1) else pTx f (yFl 1 (pLine x D).1) (pLine x D).2 k
/-! how many tokens are left -/
def ySz (x : sY) : Nat := match x with
  | .inl _ => 0
  | .inr l => l.length
theorem ySz_nx (x : sY) : ySz (yNx x) ≤ ySz x := by
  cases x with
  | inl e => exact Nat.le_refl _
  | inr l =>
    show (if _ then _ else _ : List sT).length ≤ l.length
    split
    · exact Nat.le_refl _
    · rw [List.length_tail]; omega
theorem ySz_nl {x : sY} (h : yKd x ≠ 0) : ySz (yNx x) + 1 ≤ ySz x := by
  cases x with
  | inl e => exact absurd rfl h
  | inr l =>
    show (if _ then _ else _ : List sT).length + 1 ≤ l.length
    rw [if_neg (show ¬ (sHd l).1 = 0 from h)]
    cases l with
    | nil => exact absurd rfl h
    | cons t r => exact Nat.le_refl _
theorem ySz_fl (f : Nat) (x : sY) : ySz (yFl f x) ≤ ySz x := by
  cases x with
  | inl e => exact Nat.le_refl _
  | inr l => exact Nat.zero_le _
theorem ySz_nm (a b : Int) (x : sY) : ySz (yNm a b x).2 ≤ ySz x := by
  unfold yNm
  split
  · split
    · exact ySz_fl _ _
    · exact ySz_nx _
  · exact ySz_fl _ _
theorem ySz_bg (nm : List Int) (mx : Nat) (x : sY) : ySz (yBg nm mx x).2 ≤ ySz x := by
  have h1 := ySz_nx x
  have h2 := ySz_nx (yNx x)
  have h3 := fun f => ySz_fl f (yNx x)
  unfold yBg
  split
  · exact ySz_fl _ _
  · split
    · exact Nat.le_trans (h3 1) h1
    · split
      · exact Nat.le_trans (h3 3) h1
      · exact Nat.le_trans h2 h1
theorem ySz_tt (nm : List Int) (x : sY) : ySz (yTt nm x).2 ≤ ySz x := by
  unfold yTt
  split
  · split
    · exact ySz_fl _ _
    · exact ySz_nx _
  · exact ySz_fl _ _
theorem ySz_tv (t : dTv) (x : sY) : ySz (pTv t x).1 ≤ ySz x := by
  have h1 := ySz_bg (t.map (fun t => t.1)) 3 x
  unfold pTv
  split
  · exact h1
  · exact Nat.le_trans (ySz_nm _ _ _) (Nat.le_trans (ySz_nm _ _ _) h1)
theorem ySz_v1 (x : sY) : ySz (pV1 x).1 ≤ ySz x := by
  unfold pV1
  split
  · exact ySz_nx _
  · exact Nat.le_refl _
theorem ySz_v2 (nm : List Int) (x : sY) : ySz (pV2 nm x).1 ≤ ySz x := by
  unfold pV2
  split
  · exact Nat.le_trans (ySz_nm _ _ _) (Nat.le_trans (ySz_tt _ _) (ySz_nx _))
  · exact Nat.le_refl _
theorem ySz_v3 (x : sY) : ySz (pV3 x).1 ≤ ySz x := by
  unfold pV3
  split
  · exact Nat.le_trans (ySz_nm _ _ _) (ySz_nx _)
  · exact Nat.le_refl _
theorem ySz_vo (tn : List Int) (vo : dVo) (x : sY) : ySz (pVo tn vo x).1 ≤ ySz x := by
  have h1 := ySz_bg (vo.map (fun t => t.1)) 6 x
  unfold pVo
  split
  · exact h1
  · exact Nat.le_trans (ySz_v3 _) (Nat.le_trans (ySz_v2 _ _) (Nat.le_trans (ySz_v1 _) (Nat.le_trans (ySz_nm _ _ _) (Nat.le_trans (ySz_nm _ _ _) h1))))
theorem ySz_bars : ∀ (c : Nat) (x : sY), ySz (pBars c x).2 ≤ ySz x
  | 0, x => Nat.le_refl _
  | 1, x => by
    show ySz (if _ then _ else _) ≤ _
    split
    · exact Nat.le_trans (ySz_fl _ _) (ySz_nm _ _ _)
    · exact ySz_nm _ _ _
  | c + 2, x => by
    show ySz (if _ then _ else _ : List Int × sY).2 ≤ _
    split
    · exact Nat.le_trans (ySz_bars (c + 1) _) (ySz_nm _ _ _)
    · exact ySz_nm _ _ _
theorem ySz_pt (x : sY) : ySz (pPt x).2 ≤ ySz x := by
  unfold pPt
  refine Nat.le_trans (ySz_bars 8 _) ?_
  split
  · exact ySz_nx _
  · exact ySz_fl _ _
theorem ySz_pts : ∀ (c : Nat) (x : sY), ySz (pPts c x).2 ≤ ySz x
  | 0, x => Nat.le_refl _
  | 1, x => by
    show ySz (if _ then _ else _) ≤ _
    split
    · exact Nat.le_trans (ySz_fl _ _) (ySz_pt _)
    · exact ySz_pt _
  | c + 2, x => by
    show ySz (if _ then _ else _ : List (List Int) × sY).2 ≤ _
    split
    · exact Nat.le_trans (ySz_pts (c + 1) _) (ySz_pt _)
    · exact ySz_pt _
theorem ySz_ve (ve : dVe) (x : sY) : ySz (pVe ve x).1 ≤ ySz x := by
  have h1 := ySz_bg (ve.map (fun t => t.1)) 4 x
  unfold pVe
  split
  · exact h1
  · exact Nat.le_trans (ySz_pts _ _) h1
theorem ySz_ln (t : Bool) (mx : Int) (x : sY) : ySz (pLn t mx x).2 ≤ ySz x := by
  unfold pLn
  split
  · exact ySz_fl _ _
  · exact Nat.le_trans (ySz_nm _ _ _) (ySz_nx _)
theorem tail_le (l : List sT) : l.tail.length ≤ l.length := by rw [List.length_tail]; omega
theorem inl_s {f p c : Nat} : ySz (yOf (Sum.inl (f, p) : sX)) ≤ c := Nat.zero_le _
theorem sKn_s {p c : Nat} {u : sU} {k : sU → sX} (h : ySz (yOf (k (u.1, u.2.1 + 1, u.2.2))) ≤ c) : ySz (yOf (sKn p u k)) ≤ c := by
  unfold sKn
  split
  · exact inl_s
  · exact h
theorem ySz_sy : ∀ (f : Nat) (v : Bool) (w : List Nat) (l : List sT) (cn op : Nat) (o : sK), ySz (yOf (sy f v w (l, cn, op, o))) ≤ l.length
  | 0, v, w, l, cn, op, o => Nat.zero_le _
  | f + 1, true, w, l, cn, op, o => by
    have ht := tail_le l
    rw [sy_t]
    split
    · split
      · exact inl_s
      · exact Nat.le_trans (ySz_sy f true _ l.tail _ _ _) ht
    · split
      · exact sKn_s (Nat.le_trans (ySz_sy f true _ l.tail _ _ _) ht)
      · split
        · exact inl_s
        · split
          · exact inl_s
          · exact sKn_s (Nat.le_trans (ySz_sy f false _ l.tail _ _ _) ht)
  | f + 1, false, w, l, cn, op, o => by
    have ht := tail_le l
    rw [sy_f]
    split
    · exact Nat.le_trans (ySz_sy f false _ l.tail _ _ _) ht
    · split
      · split
        · exact inl_s
        · exact Nat.le_refl _
      · split
        · split
          · exact inl_s
          · exact sKn_s (Nat.le_trans (ySz_sy f true _ l.tail _ _ _) ht)
        · exact sKn_s (Nat.le_trans (ySz_sy f true _ l.tail _ _ _) ht)
theorem ySz_pE (y : sY) (cn : Nat) (o : sK) : ySz (yOf (pE y cn o)) ≤ ySz y := by
  cases y with
  | inl e => exact Nat.le_refl _
  | inr l => exact ySz_sy _ _ _ _ _ _ _
theorem ySz_xf (f : Nat) (y : sY) : ySz (yOf (xFl f y)) ≤ ySz y := by rw [yOf_fl]; exact ySz_fl _ _
theorem ySz_l1 (tl : Bool) (cn : Nat) (o : sK) (y : sY) : ySz (yOf (pL1 tl cn o y)) ≤ ySz y := by
  unfold pL1
  split
  · exact ySz_xf _ _
  · exact Nat.le_trans (ySz_pE _ _ _) (ySz_nx _)
theorem ySz_lw (tl : Nat → Bool) (cn : Nat) (o : sK) (x : sY) : ySz (yOf (pLw tl cn o x).1) ≤ ySz x := by
  unfold pLw
  split
  · exact Nat.le_trans (ySz_l1 _ _ _ _) (ySz_nx _)
  · split
    · exact Nat.le_trans (ySz_l1 _ _ _ _) (ySz_nx _)
    · exact Nat.le_trans (ySz_xf _ _) (ySz_nx _)
theorem ySz_bk (bk : dBk) (cn : Nat) (o : sK) (x : sY) : ySz (yOf (pBk bk cn o x).1) ≤ ySz x := by
  have h1 := ySz_bg (bk.map (fun t => t.1)) 3 x
  unfold pBk
  split
  · show ySz (yOf (match (yBg (bk.map (fun t => t.1)) 3 x).2 with | .inl e => .inl e | .inr _ => .inl (0, 0))) ≤ _
    split
    · exact Nat.zero_le _
    · exact Nat.zero_le _
  · exact Nat.le_trans (ySz_pE _ _ _) (Nat.le_trans (ySz_nm _ _ _) h1)
theorem ySz_line (x : sY) (D : dDc) : ySz (pLine x D).1 ≤ ySz x := by
  unfold pLine
  split
  · exact ySz_tv _ _
  · split
    · exact ySz_vo _ _ _
    · split
      · exact ySz_ve _ _
      · split
        · exact ySz_bk _ _ _ _
        · split
          · exact ySz_ln _ _ _
          · split
            · exact ySz_ln _ _ _
            · split
              · exact ySz_lw _ _ _ _
              · exact ySz_fl _ _
end
section
def zc_120 : List Nat := [29, 191, 214, 220]
theorem s_120_0 {E : yE} {n d : Nat} {mem : yMem} {Post : Option yV → yMem → Prop} {st : List yV} {r1 r2 r3 : Option yV} {x : Int} : zvc E (n + 1) zc_120 d xm_120 0 [some (1, x), r1, r2, r3] (st) mem Post = (zvc E n zc_120 d xm_120 1 [some (1, x), r1, r2, r3] ((1, x) :: st) mem Post) := zrf rfl
theorem s_120_1 {E : yE} {n d : Nat} {mem : yMem} {Post : Option yV → yMem → Prop} {st : List yV} {r0 r1 r2 r3 : Option yV} : zvc E (n + 1) zc_120 d xm_120 1 [r0, r1, r2, r3] ((1, 54) :: st) mem Post = (zvc E n zc_120 d xm_120 4 [r0, r1, r2, r3] ((1, 28) :: st) mem Post) := zrf rfl
theorem s_120_4 {E : yE} {n d : Nat} {mem : yMem} {Post : Option yV → yMem → Prop} {st : List yV} {r0 r1 r2 r3 : Option yV} {z : Int} : zvc E (n + 1) zc_120 d xm_120 4 [r0, r1, r2, r3] ((1, z) :: st) mem Post = (zio z 4 = true ∧ ysum st ≤ 8 ∧ yCon E d xm_77 [(1, z)] mem (fun v mem' => zgk E d xm_120 7 [r0, r1, r2, r3] st v mem' Post)) := zrf rfl
theorem s_120_7 {E : yE} {n d : Nat} {mem : yMem} {Post : Option yV → yMem → Prop} {st : List yV} {r1 r2 r3 : Option yV} {x : Int} : zvc E (n + 1) zc_120 d xm_120 7 [some (1, x), r1, r2, r3] (st) mem Post = (zvc E n zc_120 d xm_120 8 [some (1, x), r1, r2, r3] ((1, x) :: st) mem Post) := zrf rfl
theorem s_120_8 {E : yE} {n d : Nat} {mem : yMem} {Post : Option yV → yMem → Prop} {st : List yV} {r0 r1 r2 r3 : Option yV} : zvc E (n + 1) zc_120 d xm_120 8 [r0, r1, r2, r3] (st) mem Post = (zvc E n zc_120 d xm_120 9 [r0, r1, r2, r3] ((0, 0) :: st) mem Post) := zrf rfl
theorem s_120_9 {E : yE} {n d : Nat} {mem : yMem} {Post : Option yV → yMem → Prop} {st : List yV} {r0 r1 r2 r3 : Option yV} {x : Int} : zvc E (n + 1) zc_120 d xm_120 9 [r0, r1, r2, r3] ((0, x) :: (1, 54) :: st) mem Post = ((w32 x = 0 ∨ w32 x = 1) ∧ zvc E n zc_120 d xm_120 12 [r0, r1, r2, r3] (st) (yset mem 54 2 x) Post) := zrf rfl
theorem s_120_12 {E : yE} {n d : Nat} {mem : yMem} {Post : Option yV → yMem → Prop} {st : List yV} {r1 r2 r3 : Option yV} {x : Int} : zvc E (n + 1) zc_120 d xm_120 12 [some (1, x), r1, r2, r3] (st) mem Post = (zvc E n zc_120 d xm_120 13 [some (1, x), r1, r2, r3] ((1, x) :: st) mem Post) := zrf rfl
theorem s_120_13 {E : yE} {n d : Nat} {mem : yMem} {Post : Option yV → yMem → Prop} {st : List yV} {r0 r1 r2 r3 : Option yV} : zvc E (n + 1) zc_120 d xm_120 13 [r0, r1, r2, r3] (st) mem Post = (zvc E n zc_120 d xm_120 14 [r0, r1, r2, r3] ((0, 0) :: st) mem Post) := zrf rfl
theorem s_120_14 {E : yE} {n d : Nat} {mem : yMem} {Post : Option yV → yMem → Prop} {st : List yV} {r0 r1 r2 r3 : Option yV} {x : Int} : zvc E (n + 1) zc_120 d xm_120 14 [r0, r1, r2, r3] ((0, x) :: (1, 54) :: st) mem Post = ((w32 x = 0 ∨ w32 x = 1) ∧ zvc E n zc_120 d xm_120 17 [r0, r1, r2, r3] (st) (yset mem 54 3 x) Post) := zrf rfl
theorem s_120_17 {E : yE} {n d : Nat} {mem : yMem} {Post : Option yV → yMem → Prop} {st : List yV} {r1 r2 r3 : Option yV} {x : Int} : zvc E (n + 1) zc_120 d xm_120 17 [some (1, x), r1, r2, r3] (st) mem Post = (zvc E n zc_120 d xm_120 18 [some (1, x), r1, r2, r3] ((1, x) :: st) mem Post) := zrf rfl
theorem s_120_18 {E : yE} {n d : Nat} {mem : yMem} {Post : Option yV → yMem → Prop} {st : List yV} {r0 r1 r2 r3 : Option yV} : zvc E (n + 1) zc_120 d xm_120 18 [r0, r1, r2, r3] ((1, 54) :: st) mem Post = (zvc E n zc_120 d xm_120 21 [r0, r1, r2, r3] ((1, 55) :: st) mem Post) := zrf rfl
theorem s_120_21 {E : yE} {n d : Nat} {mem : yMem} {Post : Option yV → yMem → Prop} {st : List yV} {r0 r2 r3 : Option yV} {x : Int} : zvc E (n + 1) zc_120 d xm_120 21 [r0, some (0, x), r2, r3] (st) mem Post = (zvc E n zc_120 d xm_120 22 [r0, some (0, x), r2, r3] ((0, x) :: st) mem Post) := zrf rfl
theorem s_120_22 {E : yE} {n d : Nat} {mem : yMem} {Post : Option yV → yMem → Prop} {st : List yV} {r0 r1 r2 r3 : Option yV} {z a0 : Int} : zvc E (n + 1) zc_120 d xm_120 22 [r0, r1, r2, r3] ((0, a0) :: (1, z) :: st) mem Post = (zio z 9 = true ∧ ysum st ≤ 8 ∧ yCon E d xm_132 [(1, z), (0, a0)] mem (fun v mem' => zgk E d xm_120 25 [r0, r1, r2, r3] st v mem' Post)) := zrf rfl
theorem s_120_25 {E : yE} {n d : Nat} {mem : yMem} {Post : Option yV → yMem → Prop} {st : List yV} {r0 r1 r2 r3 : Option yV} : zvc E (n + 1) zc_120 d xm_120 25 [r0, r1, r2, r3] (st) mem Post = (zvc E n zc_120 d xm_120 26 [r0, r1, r2, r3] ((0, 0) :: st) mem Post) := zrf rfl
theorem s_120_26n {E : yE} {n d : Nat} {mem : yMem} {Post : Option yV → yMem → Prop} {st : List yV} {r0 r2 r3 : Option yV} {x : Int} : zvc E (n + 1) zc_120 d xm_120 26 [r0, none, r2, r3] ((0, x) :: st) mem Post = (zvc E n zc_120 d xm_120 27 [r0, none, some (0, x), r3] (st) mem Post) := zrf rfl
theorem s_120_26i {E : yE} {n d : Nat} {mem : yMem} {Post : Option yV → yMem → Prop} {st : List yV} {r0 r2 r3 : Option yV} {x w : Int} : zvc E (n + 1) zc_120 d xm_120 26 [r0, some (0, w), r2, r3] ((0, x) :: st) mem Post = (zvc E n zc_120 d xm_120 27 [r0, some (0, w), some (0, x), r3] (st) mem Post) := zrf rfl
theorem s_120_26p {E : yE} {n d : Nat} {mem : yMem} {Post : Option yV → yMem → Prop} {st : List yV} {r0 r2 r3 : Option yV} {x w : Int} : zvc E (n + 1) zc_120 d xm_120 26 [r0, some (1, w), r2, r3] ((0, x) :: st) mem Post = (zvc E n zc_120 d xm_120 27 [r0, some (1, w), some (0, x), r3] (st) mem Post) := zrf rfl
theorem s_120_27 {E : yE} {n d : Nat} {mem : yMem} {Post : Option yV → yMem → Prop} {st : List yV} {r0 r1 r2 r3 : Option yV} : zvc E (n + 1) zc_120 d xm_120 27 [r0, r1, r2, r3] (st) mem Post = (zvc E n zc_120 d xm_120 28 [r0, r1, r2, r3] ((0, 0) :: st) mem Post) := zrf rfl
theorem s_120_28n {E : yE} {n d : Nat} {mem : yMem} {Post : Option yV → yMem → Prop} {st : List yV} {r0 r1 r3 : Option yV} {x : Int} : zvc E (n + 1) zc_120 d xm_120 28 [r0, r1, none, r3] ((0, x) :: st) mem Post = (zvc E n zc_120 d xm_120 29 [r0, r1, none, some (0, x)] (st) mem Post) := zrf rfl
theorem s_120_28i {E : yE} {n d : Nat} {mem : yMem} {Post : Option yV → yMem → Prop} {st : List yV} {r0 r1 r3 : Option yV} {x w : Int} : zvc E (n + 1) zc_120 d xm_120 28 [r0, r1, some (0, w), r3] ((0, x) :: st) mem Post = (zvc E n zc_120 d xm_120 29 [r0, r1, some (0, w), some (0, x)] (st) mem Post) := zrf rfl
theorem s_120_28p {E : yE} {n d : Nat} {mem : yMem} {Post : Option yV → yMem → Prop} {st : List yV} {r0 r1 r3 : Option yV} {x w : Int} : zvc E (n + 1) zc_120 d xm_120 28 [r0, r1, some (1, w), r3] ((0, x) :: st) mem Post = (zvc E n zc_120 d xm_120 29 [r0, r1, some (1, w), some (0, x)] (st) mem Post) := zrf rfl
theorem g_120_29 {E : yE} {n d : Nat} {mem : yMem} {Post : Option yV → yMem → Prop} {st : List yV} {r0 r1 r2 : Option yV} {x : Int} : zgo E n zc_120 d xm_120 29 [r0, r1, r2, some (0, x)] (st) mem Post = (zvc E n zc_120 d xm_120 30 [r0, r1, r2, some (0, x)] ((0, x) :: st) mem Post) := zrf rfl
theorem k_120_29 {E : yE} {n d : Nat} {mem : yMem} {Post : Option yV → yMem → Prop} {st : List yV} {rg : zR} : zvc E (n + 1) zc_120 d xm_120 29 rg st mem Post = zG E d xm_120 29 rg st mem Post := zrf rfl
theorem s_120_30 {E : yE} {n d : Nat} {mem : yMem} {Post : Option yV → yMem → Prop} {st : List yV} {r0 r1 r2 r3 : Option yV} : zvc E (n + 1) zc_120 d xm_120 30 [r0, r1, r2, r3] (st) mem Post = (zvc E n zc_120 d xm_120 33 [r0, r1, r2, r3] ((0, 800) :: st) mem Post) := zrf rfl
theorem s_120_33 {E : yE} {n d : Nat} {mem : yMem} {Post : Option yV → yMem → Prop} {st : List yV} {r0 r1 r2 r3 : Option yV} {x y : Int} : zvc E (n + 1) zc_120 d xm_120 33 [r0, r1, r2, r3] ((0, y) :: (0, x) :: st) mem Post = ((w32 y < w32 x → zvc E n zc_120 d xm_120 220 [r0, r1, r2, r3] (st) mem Post) ∧ (¬ (w32 y < w32 x) → zvc E n zc_120 d xm_120 36 [r0, r1, r2, r3] (st) mem Post)) := zrf rfl
theorem s_120_36 {E : yE} {n d : Nat} {mem : yMem} {Post : Option yV → yMem → Prop} {st : List yV} {r1 r2 r3 : Option yV} {x : Int} : zvc E (n + 1) zc_120 d xm_120 36 [some (1, x), r1, r2, r3] (st) mem Post = (zvc E n zc_120 d xm_120 37 [some (1, x), r1, r2, r3] ((1, x) :: st) mem Post) := zrf rfl
theorem s_120_37 {E : yE} {n d : Nat} {mem : yMem} {Post : Option yV → yMem → Prop} {st : List yV} {r0 r1 r2 r3 : Option yV} : zvc E (n + 1) zc_120 d xm_120 37 [r0, r1, r2, r3] ((1, 54) :: st) mem Post = (zvc E n zc_120 d xm_120 40 [r0, r1, r2, r3] ((1, 55) :: st) mem Post) := zrf rfl
theorem s_120_40 {E : yE} {n d : Nat} {mem : yMem} {Post : Option yV → yMem → Prop} {st : List yV} {r0 r1 r2 r3 : Option yV} : zvc E (n + 1) zc_120 d xm_120 40 [r0, r1, r2, r3] ((1, 55) :: st) mem Post = (zvc E n zc_120 d xm_120 43 [r0, r1, r2, r3] ((0, mem 55 4) :: st) mem Post) := zrf rfl
theorem s_120_43 {E : yE} {n d : Nat} {mem : yMem} {Post : Option yV → yMem → Prop} {st : List yV} {r0 r1 r2 r3 : Option yV} {x : Int} : zvc E (n + 1) zc_120 d xm_120 43 [r0, r1, r2, r3] ((0, x) :: st) mem Post = ((w32 x = w32 0 → zvc E n zc_120 d xm_120 220 [r0, r1, r2, r3] (st) mem Post) ∧ (¬ (w32 x = w32 0) → zvc E n zc_120 d xm_120 46 [r0, r1, r2, r3] (st) mem Post)) := zrf rfl
theorem s_120_46 {E : yE} {n d : Nat} {mem : yMem} {Post : Option yV → yMem → Prop} {st : List yV} {r1 r2 r3 : Option yV} {x : Int} : zvc E (n + 1) zc_120 d xm_120 46 [some (1, x), r1, r2, r3] (st) mem Post = (zvc E n zc_120 d xm_120 47 [some (1, x), r1, r2, r3] ((1, x) :: st) mem Post) := zrf rfl
theorem s_120_47 {E : yE} {n d : Nat} {mem : yMem} {Post : Option yV → yMem → Prop} {st : List yV} {r0 r1 r2 r3 : Option yV} : zvc E (n + 1) zc_120 d xm_120 47 [r0, r1, r2, r3] ((1, 54) :: st) mem Post = (zvc E n zc_120 d xm_120 50 [r0, r1, r2, r3] ((1, 55) :: st) mem Post) := zrf rfl
theorem s_120_50 {E : yE} {n d : Nat} {mem : yMem} {Post : Option yV → yMem → Prop} {st : List yV} {r0 r1 r2 r3 : Option yV} : zvc E (n + 1) zc_120 d xm_120 50 [r0, r1, r2, r3] ((1, 55) :: st) mem Post = (zvc E n zc_120 d xm_120 53 [r0, r1, r2, r3] ((0, mem 55 4) :: st) mem Post) := zrf rfl
theorem s_120_53 {E : yE} {n d : Nat} {mem : yMem} {Post : Option yV → yMem → Prop} {st : List yV} {r0 r1 r2 r3 : Option yV} {x : Int} : zvc E (n + 1) zc_120 d xm_120 53 [r0, r1, r2, r3] ((0, x) :: st) mem Post = ((w32 x = 17 → zvc E n zc_120 d xm_120 96 [r0, r1, r2, r3] (st) mem Post) ∧ (¬ w32 x = 17 → (w32 x = 18 → zvc E n zc_120 d xm_120 103 [r0, r1, r2, r3] (st) mem Post) ∧ (¬ w32 x = 18 → (w32 x = 19 → zvc E n zc_120 d xm_120 110 [r0, r1, r2, r3] (st) mem Post) ∧ (¬ w32 x = 19 → (w32 x = 20 → zvc E n zc_120 d xm_120 117 [r0, r1, r2, r3] (st) mem Post) ∧ (¬ w32 x = 20 → (w32 x = 21 → zvc E n zc_120 d xm_120 124 [r0, r1, r2, r3] (st) mem Post) ∧ (¬ w32 x = 21 → (w32 x = 22 → zvc E n zc_120 d xm_120 150 [r0, r1, r2, r3] (st) mem Post) ∧ (¬ w32 x = 22 → (w32 x = 23 → zvc E n zc_120 d xm_120 175 [r0, r1, r2, r3] (st) mem Post) ∧ (¬ w32 x = 23 → zvc E n zc_120 d xm_120 182 [r0, r1, r2, r3] (st) mem Post)))))))) := zrf rfl
theorem s_120_96 {E : yE} {n d : Nat} {mem : yMem} {Post : Option yV → yMem → Prop} {st : List yV} {r1 r2 r3 : Option yV} {x : Int} : zvc E (n + 1) zc_120 d xm_120 96 [some (1, x), r1, r2, r3] (st) mem Post = (zvc E n zc_120 d xm_120 97 [some (1, x), r1, r2, r3] ((1, x) :: st) mem Post) := zrf rfl
theorem s_120_97 {E : yE} {n d : Nat} {mem : yMem} {Post : Option yV → yMem → Prop} {st : List yV} {r0 r1 r2 r3 : Option yV} {z : Int} : zvc E (n + 1) zc_120 d xm_120 97 [r0, r1, r2, r3] ((1, z) :: st) mem Post = (zio z 8 = true ∧ ysum st ≤ 8 ∧ yCon E d xm_116 [(1, z)] mem (fun v mem' => zgk E d xm_120 100 [r0, r1, r2, r3] st v mem' Post)) := zrf rfl
theorem s_120_100 {E : yE} {n d : Nat} {mem : yMem} {Post : Option yV → yMem → Prop} {st : List yV} {r0 r1 r2 r3 : Option yV} : zvc E (n + 1) zc_120 d xm_120 100 [r0, r1, r2, r3] (st) mem Post = (zvc E n zc_120 d xm_120 191 [r0, r1, r2, r3] (st) mem Post) := zrf rfl
theorem s_120_103 {E : yE} {n d : Nat} {mem : yMem} {Post : Option yV → yMem → Prop} {st : List yV} {r1 r2 r3 : Option yV} {x : Int} : zvc E (n + 1) zc_120 d xm_120 103 [some (1, x), r1, r2, r3] (st) mem Post = (zvc E n zc_120 d xm_120 104 [some (1, x), r1, r2, r3] ((1, x) :: st) mem Post) := zrf rfl
theorem s_120_104 {E : yE} {n d : Nat} {mem : yMem} {Post : Option yV → yMem → Prop} {st : List yV} {r0 r1 r2 r3 : Option yV} {z : Int} : zvc E (n + 1) zc_120 d xm_120 104 [r0, r1, r2, r3] ((1, z) :: st) mem Post = (zio z 8 = true ∧ ysum st ≤ 8 ∧ yCon E d xm_118 [(1, z)] mem (fun v mem' => zgk E d xm_120 107 [r0, r1, r2, r3] st v mem' Post)) := zrf rfl
theorem s_120_107 {E : yE} {n d : Nat} {mem : yMem} {Post : Option yV → yMem → Prop} {st : List yV} {r0 r1 r2 r3 : Option yV} : zvc E (n + 1) zc_120 d xm_120 107 [r0, r1, r2, r3] (st) mem Post = (zvc E n zc_120 d xm_120 191 [r0, r1, r2, r3] (st) mem Post) := zrf rfl
theorem s_120_110 {E : yE} {n d : Nat} {mem : yMem} {Post : Option yV → yMem → Prop} {st : List yV} {r1 r2 r3 : Option yV} {x : Int} : zvc E (n + 1) zc_120 d xm_120 110 [some (1, x), r1, r2, r3] (st) mem Post = (zvc E n zc_120 d xm_120 111 [some (1, x), r1, r2, r3] ((1, x) :: st) mem Post) := zrf rfl
theorem s_120_111 {E : yE} {n d : Nat} {mem : yMem} {Post : Option yV → yMem → Prop} {st : List yV} {r0 r1 r2 r3 : Option yV} {z : Int} : zvc E (n + 1) zc_120 d xm_120 111 [r0, r1, r2, r3] ((1, z) :: st) mem Post = (zio z 8 = true ∧ ysum st ≤ 8 ∧ yCon E d xm_117 [(1, z)] mem (fun v mem' => zgk E d xm_120 114 [r0, r1, r2, r3] st v mem' Post)) := zrf rfl
theorem s_120_114 {E : yE} {n d : Nat} {mem : yMem} {Post : Option yV → yMem → Prop} {st : List yV} {r0 r1 r2 r3 : Option yV} : zvc E (n + 1) zc_120 d xm_120 114 [r0, r1, r2, r3] (st) mem Post = (zvc E n zc_120 d xm_120 191 [r0, r1, r2, r3] (st) mem Post) := zrf rfl
theorem s_120_117 {E : yE} {n d : Nat} {mem : yMem} {Post : Option yV → yMem → Prop} {st : List yV} {r1 r2 r3 : Option yV} {x : Int} : zvc E (n + 1) zc_120 d xm_120 117 [some (1, x), r1, r2, r3] (st) mem Post = (zvc E n zc_120 d xm_120 118 [some (1, x), r1, r2, r3] ((1, x) :: st) mem Post) := zrf rfl
theorem s_120_118 {E : yE} {n d : Nat} {mem : yMem} {Post : Option yV → yMem → Prop} {st : List yV} {r0 r1 r2 r3 : Option yV} {z : Int} : zvc E (n + 1) zc_120 d xm_120 118 [r0, r1, r2, r3] ((1, z) :: st) mem Post = (zio z 8 = true ∧ ysum st ≤ 8 ∧ yCon E d xm_113 [(1, z)] mem (fun v mem' => zgk E d xm_120 121 [r0, r1, r2, r3] st v mem' Post)) := zrf rfl
theorem s_120_121 {E : yE} {n d : Nat} {mem : yMem} {Post : Option yV → yMem → Prop} {st : List yV} {r0 r1 r2 r3 : Option yV} : zvc E (n + 1) zc_120 d xm_120 121 [r0, r1, r2, r3] (st) mem Post = (zvc E n zc_120 d xm_120 191 [r0, r1, r2, r3] (st) mem Post) := zrf rfl
theorem s_120_124 {E : yE} {n d : Nat} {mem : yMem} {Post : Option yV → yMem → Prop} {st : List yV} {r1 r2 r3 : Option yV} {x : Int} : zvc E (n + 1) zc_120 d xm_120 124 [some (1, x), r1, r2, r3] (st) mem Post = (zvc E n zc_120 d xm_120 125 [some (1, x), r1, r2, r3] ((1, x) :: st) mem Post) := zrf rfl
theorem s_120_125 {E : yE} {n d : Nat} {mem : yMem} {Post : Option yV → yMem → Prop} {st : List yV} {r0 r1 r2 r3 : Option yV} : zvc E (n + 1) zc_120 d xm_120 125 [r0, r1, r2, r3] ((1, 54) :: st) mem Post = (zvc E n zc_120 d xm_120 128 [r0, r1, r2, r3] ((1, 28) :: st) mem Post) := zrf rfl
theorem s_120_128 {E : yE} {n d : Nat} {mem : yMem} {Post : Option yV → yMem → Prop} {st : List yV} {r1 r2 r3 : Option yV} {x : Int} : zvc E (n + 1) zc_120 d xm_120 128 [some (1, x), r1, r2, r3] (st) mem Post = (zvc E n zc_120 d xm_120 129 [some (1, x), r1, r2, r3] ((1, x) :: st) mem Post) := zrf rfl
theorem s_120_129 {E : yE} {n d : Nat} {mem : yMem} {Post : Option yV → yMem → Prop} {st : List yV} {r1 r2 r3 : Option yV} {x : Int} : zvc E (n + 1) zc_120 d xm_120 129 [some (1, x), r1, r2, r3] (st) mem Post = (zvc E n zc_120 d xm_120 130 [some (1, x), r1, r2, r3] ((1, x) :: st) mem Post) := zrf rfl
theorem s_120_130 {E : yE} {n d : Nat} {mem : yMem} {Post : Option yV → yMem → Prop} {st : List yV} {r0 r1 r2 r3 : Option yV} : zvc E (n + 1) zc_120 d xm_120 130 [r0, r1, r2, r3] ((1, 54) :: st) mem Post = (zvc E n zc_120 d xm_120 133 [r0, r1, r2, r3] ((0, mem 54 2) :: st) mem Post) := zrf rfl
theorem s_120_133 {E : yE} {n d : Nat} {mem : yMem} {Post : Option yV → yMem → Prop} {st : List yV} {r0 r1 r2 r3 : Option yV} : zvc E (n + 1) zc_120 d xm_120 133 [r0, r1, r2, r3] (st) mem Post = (zvc E n zc_120 d xm_120 136 [r0, r1, r2, r3] ((0, 999) :: st) mem Post) := zrf rfl
theorem s_120_136 {E : yE} {n d : Nat} {mem : yMem} {Post : Option yV → yMem → Prop} {st : List yV} {r0 r1 r2 r3 : Option yV} {z a0 a1 : Int} : zvc E (n + 1) zc_120 d xm_120 136 [r0, r1, r2, r3] ((0, a1) :: (0, a0) :: (1, z) :: st) mem Post = (zio z 8 = true ∧ ysum st ≤ 8 ∧ yCon E d xm_111 [(1, z), (0, a0), (0, a1)] mem (fun v mem' => zgk E d xm_120 139 [r0, r1, r2, r3] st v mem' Post)) := zrf rfl
theorem s_120_139_2 {E : yE} {n d : Nat} {mem : yMem} {Post : Option yV → yMem → Prop} {st : List yV} {r0 r1 r2 r3 : Option yV} {x : Int} : zvc E (n + 1) zc_120 d xm_120 139 [r0, r1, r2, r3] ((0, x) :: (1, 2) :: st) mem Post = (zvc E n zc_120 d xm_120 142 [r0, r1, r2, r3] (st) (yset mem 2 17 x) Post) := zrf rfl
theorem s_120_139_28 {E : yE} {n d : Nat} {mem : yMem} {Post : Option yV → yMem → Prop} {st : List yV} {r0 r1 r2 r3 : Option yV} {x : Int} : zvc E (n + 1) zc_120 d xm_120 139 [r0, r1, r2, r3] ((0, x) :: (1, 28) :: st) mem Post = (zvc E n zc_120 d xm_120 142 [r0, r1, r2, r3] (st) (yset mem 28 17 x) Post) := zrf rfl
theorem s_120_142 {E : yE} {n d : Nat} {mem : yMem} {Post : Option yV → yMem → Prop} {st : List yV} {r1 r2 r3 : Option yV} {x : Int} : zvc E (n + 1) zc_120 d xm_120 142 [some (1, x), r1, r2, r3] (st) mem Post = (zvc E n zc_120 d xm_120 143 [some (1, x), r1, r2, r3] ((1, x) :: st) mem Post) := zrf rfl
theorem s_120_143 {E : yE} {n d : Nat} {mem : yMem} {Post : Option yV → yMem → Prop} {st : List yV} {r0 r1 r2 r3 : Option yV} : zvc E (n + 1) zc_120 d xm_120 143 [r0, r1, r2, r3] (st) mem Post = (zvc E n zc_120 d xm_120 144 [r0, r1, r2, r3] ((0, 1) :: st) mem Post) := zrf rfl
theorem s_120_144 {E : yE} {n d : Nat} {mem : yMem} {Post : Option yV → yMem → Prop} {st : List yV} {r0 r1 r2 r3 : Option yV} {x : Int} : zvc E (n + 1) zc_120 d xm_120 144 [r0, r1, r2, r3] ((0, x) :: (1, 54) :: st) mem Post = ((w32 x = 0 ∨ w32 x = 1) ∧ zvc E n zc_120 d xm_120 147 [r0, r1, r2, r3] (st) (yset mem 54 2 x) Post) := zrf rfl
theorem s_120_147 {E : yE} {n d : Nat} {mem : yMem} {Post : Option yV → yMem → Prop} {st : List yV} {r0 r1 r2 r3 : Option yV} : zvc E (n + 1) zc_120 d xm_120 147 [r0, r1, r2, r3] (st) mem Post = (zvc E n zc_120 d xm_120 191 [r0, r1, r2, r3] (st) mem Post) := zrf rfl
theorem s_120_150 {E : yE} {n d : Nat} {mem : yMem} {Post : Option yV → yMem → Prop} {st : List yV} {r1 r2 r3 : Option yV} {x : Int} : zvc E (n + 1) zc_120 d xm_120 150 [some (1, x), r1, r2, r3] (st) mem Post = (zvc E n zc_120 d xm_120 151 [some (1, x), r1, r2, r3] ((1, x) :: st) mem Post) := zrf rfl
theorem s_120_151 {E : yE} {n d : Nat} {mem : yMem} {Post : Option yV → yMem → Prop} {st : List yV} {r0 r1 r2 r3 : Option yV} : zvc E (n + 1) zc_120 d xm_120 151 [r0, r1, r2, r3] ((1, 54) :: st) mem Post = (zvc E n zc_120 d xm_120 154 [r0, r1, r2, r3] ((1, 28) :: st) mem Post) := zrf rfl
theorem s_120_154 {E : yE} {n d : Nat} {mem : yMem} {Post : Option yV → yMem → Prop} {st : List yV} {r1 r2 r3 : Option yV} {x : Int} : zvc E (n + 1) zc_120 d xm_120 154 [some (1, x), r1, r2, r3] (st) mem Post = (zvc E n zc_120 d xm_120 155 [some (1, x), r1, r2, r3] ((1, x) :: st) mem Post) := zrf rfl
theorem s_120_155 {E : yE} {n d : Nat} {mem : yMem} {Post : Option yV → yMem → Prop} {st : List yV} {r1 r2 r3 : Option yV} {x : Int} : zvc E (n + 1) zc_120 d xm_120 155 [some (1, x), r1, r2, r3] (st) mem Post = (zvc E n zc_120 d xm_120 156 [some (1, x), r1, r2, r3] ((1, x) :: st) mem Post) := zrf rfl
theorem s_120_156 {E : yE} {n d : Nat} {mem : yMem} {Post : Option yV → yMem → Prop} {st : List yV} {r0 r1 r2 r3 : Option yV} : zvc E (n + 1) zc_120 d xm_120 156 [r0, r1, r2, r3] ((1, 54) :: st) mem Post = (zvc E n zc_120 d xm_120 159 [r0, r1, r2, r3] ((0, mem 54 3) :: st) mem Post) := zrf rfl
theorem s_120_159 {E : yE} {n d : Nat} {mem : yMem} {Post : Option yV → yMem → Prop} {st : List yV} {r0 r1 r2 r3 : Option yV} : zvc E (n + 1) zc_120 d xm_120 159 [r0, r1, r2, r3] (st) mem Post = (zvc E n zc_120 d xm_120 161 [r0, r1, r2, r3] ((0, 99999) :: st) mem Post) := zrf rfl
theorem s_120_161 {E : yE} {n d : Nat} {mem : yMem} {Post : Option yV → yMem → Prop} {st : List yV} {r0 r1 r2 r3 : Option yV} {z a0 a1 : Int} : zvc E (n + 1) zc_120 d xm_120 161 [r0, r1, r2, r3] ((0, a1) :: (0, a0) :: (1, z) :: st) mem Post = (zio z 8 = true ∧ ysum st ≤ 8 ∧ yCon E d xm_111 [(1, z), (0, a0), (0, a1)] mem (fun v mem' => zgk E d xm_120 164 [r0, r1, r2, r3] st v mem' Post)) := zrf rfl
theorem s_120_164_2 {E : yE} {n d : Nat} {mem : yMem} {Post : Option yV → yMem → Prop} {st : List yV} {r0 r1 r2 r3 : Option yV} {x : Int} : zvc E (n + 1) zc_120 d xm_120 164 [r0, r1, r2, r3] ((0, x) :: (1, 2) :: st) mem Post = (zvc E n zc_120 d xm_120 167 [r0, r1, r2, r3] (st) (yset mem 2 18 x) Post) := zrf rfl
theorem s_120_164_28 {E : yE} {n d : Nat} {mem : yMem} {Post : Option yV → yMem → Prop} {st : List yV} {r0 r1 r2 r3 : Option yV} {x : Int} : zvc E (n + 1) zc_120 d xm_120 164 [r0, r1, r2, r3] ((0, x) :: (1, 28) :: st) mem Post = (zvc E n zc_120 d xm_120 167 [r0, r1, r2, r3] (st) (yset mem 28 18 x) Post) := zrf rfl
theorem s_120_167 {E : yE} {n d : Nat} {mem : yMem} {Post : Option yV → yMem → Prop} {st : List yV} {r1 r2 r3 : Option yV} {x : Int} : zvc E (n + 1) zc_120 d xm_120 167 [some (1, x), r1, r2, r3] (st) mem Post = (zvc E n zc_120 d xm_120 168 [some (1, x), r1, r2, r3] ((1, x) :: st) mem Post) := zrf rfl
theorem s_120_168 {E : yE} {n d : Nat} {mem : yMem} {Post : Option yV → yMem → Prop} {st : List yV} {r0 r1 r2 r3 : Option yV} : zvc E (n + 1) zc_120 d xm_120 168 [r0, r1, r2, r3] (st) mem Post = (zvc E n zc_120 d xm_120 169 [r0, r1, r2, r3] ((0, 1) :: st) mem Post) := zrf rfl
theorem s_120_169 {E : yE} {n d : Nat} {mem : yMem} {Post : Option yV → yMem → Prop} {st : List yV} {r0 r1 r2 r3 : Option yV} {x : Int} : zvc E (n + 1) zc_120 d xm_120 169 [r0, r1, r2, r3] ((0, x) :: (1, 54) :: st) mem Post = ((w32 x = 0 ∨ w32 x = 1) ∧ zvc E n zc_120 d xm_120 172 [r0, r1, r2, r3] (st) (yset mem 54 3 x) Post) := zrf rfl
theorem s_120_172 {E : yE} {n d : Nat} {mem : yMem} {Post : Option yV → yMem → Prop} {st : List yV} {r0 r1 r2 r3 : Option yV} : zvc E (n + 1) zc_120 d xm_120 172 [r0, r1, r2, r3] (st) mem Post = (zvc E n zc_120 d xm_120 191 [r0, r1, r2, r3] (st) mem Post) := zrf rfl
theorem s_120_175 {E : yE} {n d : Nat} {mem : yMem} {Post : Option yV → yMem → Prop} {st : List yV} {r1 r2 r3 : Option yV} {x : Int} : zvc E (n + 1) zc_120 d xm_120 175 [some (1, x), r1, r2, r3] (st) mem Post = (zvc E n zc_120 d xm_120 176 [some (1, x), r1, r2, r3] ((1, x) :: st) mem Post) := zrf rfl
theorem s_120_176 {E : yE} {n d : Nat} {mem : yMem} {Post : Option yV → yMem → Prop} {st : List yV} {r0 r1 r2 r3 : Option yV} {z : Int} : zvc E (n + 1) zc_120 d xm_120 176 [r0, r1, r2, r3] ((1, z) :: st) mem Post = (zio z 8 = true ∧ ysum st ≤ 8 ∧ yCon E d xm_114 [(1, z)] mem (fun v mem' => zgk E d xm_120 179 [r0, r1, r2, r3] st v mem' Post)) := zrf rfl
theorem s_120_179 {E : yE} {n d : Nat} {mem : yMem} {Post : Option yV → yMem → Prop} {st : List yV} {r0 r1 r2 r3 : Option yV} : zvc E (n + 1) zc_120 d xm_120 179 [r0, r1, r2, r3] (st) mem Post = (zvc E n zc_120 d xm_120 191 [r0, r1, r2, r3] (st) mem Post) := zrf rfl
theorem s_120_182 {E : yE} {n d : Nat} {mem : yMem} {Post : Option yV → yMem → Prop} {st : List yV} {r1 r2 r3 : Option yV} {x : Int} : zvc E (n + 1) zc_120 d xm_120 182 [some (1, x), r1, r2, r3] (st) mem Post = (zvc E n zc_120 d xm_120 183 [some (1, x), r1, r2, r3] ((1, x) :: st) mem Post) := zrf rfl
theorem s_120_183 {E : yE} {n d : Nat} {mem : yMem} {Post : Option yV → yMem → Prop} {st : List yV} {r0 r1 r2 r3 : Option yV} : zvc E (n + 1) zc_120 d xm_120 183 [r0, r1, r2, r3] ((1, 54) :: st) mem Post = (zvc E n zc_120 d xm_120 186 [r0, r1, r2, r3] ((1, 55) :: st) mem Post) := zrf rfl
theorem s_120_186 {E : yE} {n d : Nat} {mem : yMem} {Post : Option yV → yMem → Prop} {st : List yV} {r0 r1 r2 r3 : Option yV} : zvc E (n + 1) zc_120 d xm_120 186 [r0, r1, r2, r3] (st) mem Post = (zvc E n zc_120 d xm_120 187 [r0, r1, r2, r3] ((0, 1) :: st) mem Post) := zrf rfl
theorem s_120_187 {E : yE} {n d : Nat} {mem : yMem} {Post : Option yV → yMem → Prop} {st : List yV} {r0 r1 r2 r3 : Option yV} {z a0 : Int} : zvc E (n + 1) zc_120 (d + 1) xm_120 187 [r0, r1, r2, r3] ((0, a0) :: (1, z) :: st) mem Post = (zio z 9 = true ∧ ysum st ≤ 8 ∧ zvc E n [] d xm_123 0 [some (1, z), some (0, a0)] [] mem (fun v mem' => zvk E n zc_120 (d + 1) xm_120 190 [r0, r1, r2, r3] st v mem' Post)) := zrf rfl
theorem s_120_190a {E : yE} {n d : Nat} {mem : yMem} {Post : Option yV → yMem → Prop} {st : List yV} {r0 r1 r2 r3 : Option yV} {x : Int} : zvc E (n + 1) zc_120 d xm_120 190 [r0, r1, r2, r3] ((0, x) :: st) mem Post = (zvc E n zc_120 d xm_120 191 [r0, r1, r2, r3] (st) mem Post) := zrf rfl
theorem s_120_190b {E : yE} {n d : Nat} {mem : yMem} {Post : Option yV → yMem → Prop} {st : List yV} {r0 r1 r2 r3 : Option yV} {x : Int} : zvc E (n + 1) zc_120 d xm_120 190 [r0, r1, r2, r3] ((1, x) :: st) mem Post = (zvc E n zc_120 d xm_120 191 [r0, r1, r2, r3] (st) mem Post) := zrf rfl
theorem g_120_191 {E : yE} {n d : Nat} {mem : yMem} {Post : Option yV → yMem → Prop} {st : List yV} {r1 r2 r3 : Option yV} {x : Int} : zgo E n zc_120 d xm_120 191 [some (1, x), r1, r2, r3] (st) mem Post = (zvc E n zc_120 d xm_120 192 [some (1, x), r1, r2, r3] ((1, x) :: st) mem Post) := zrf rfl
theorem k_120_191 {E : yE} {n d : Nat} {mem : yMem} {Post : Option yV → yMem → Prop} {st : List yV} {rg : zR} : zvc E (n + 1) zc_120 d xm_120 191 rg st mem Post = zG E d xm_120 191 rg st mem Post := zrf rfl
theorem s_120_192 {E : yE} {n d : Nat} {mem : yMem} {Post : Option yV → yMem → Prop} {st : List yV} {r0 r1 r2 r3 : Option yV} : zvc E (n + 1) zc_120 d xm_120 192 [r0, r1, r2, r3] (st) mem Post = (zvc E n zc_120 d xm_120 193 [r0, r1, r2, r3] ((0, 4) :: st) mem Post) := zrf rfl
theorem s_120_193 {E : yE} {n d : Nat} {mem : yMem} {Post : Option yV → yMem → Prop} {st : List yV} {r0 r1 r2 r3 : Option yV} {z a0 : Int} : zvc E (n + 1) zc_120 (d + 1) xm_120 193 [r0, r1, r2, r3] ((0, a0) :: (1, z) :: st) mem Post = (zio z 8 = true ∧ ysum st ≤ 8 ∧ zvc E n [] d xm_119 0 [some (1, z), some (0, a0)] [] mem (fun v mem' => zvk E n zc_120 (d + 1) xm_120 196 [r0, r1, r2, r3] st v mem' Post)) := zrf rfl
theorem s_120_196 {E : yE} {n d : Nat} {mem : yMem} {Post : Option yV → yMem → Prop} {st : List yV} {r0 r1 r2 r3 : Option yV} {x : Int} : zvc E (n + 1) zc_120 d xm_120 196 [r0, r1, r2, r3] ((0, x) :: st) mem Post = ((w32 x = w32 0 → zvc E n zc_120 d xm_120 205 [r0, r1, r2, r3] (st) mem Post) ∧ (¬ (w32 x = w32 0) → zvc E n zc_120 d xm_120 199 [r0, r1, r2, r3] (st) mem Post)) := zrf rfl
theorem s_120_199n {E : yE} {n d : Nat} {mem : yMem} {Post : Option yV → yMem → Prop} {st : List yV} {r0 r3 : Option yV} {x : Int} : zvc E (n + 1) zc_120 d xm_120 199 [r0, none, some (0, x), r3] (st) mem Post = (zvc E n zc_120 d xm_120 202 [r0, none, some (0, x + 1), r3] (st) mem Post) := zrf rfl
theorem s_120_199i {E : yE} {n d : Nat} {mem : yMem} {Post : Option yV → yMem → Prop} {st : List yV} {r0 r3 : Option yV} {x w : Int} : zvc E (n + 1) zc_120 d xm_120 199 [r0, some (0, w), some (0, x), r3] (st) mem Post = (zvc E n zc_120 d xm_120 202 [r0, some (0, w), some (0, x + 1), r3] (st) mem Post) := zrf rfl
theorem s_120_199p {E : yE} {n d : Nat} {mem : yMem} {Post : Option yV → yMem → Prop} {st : List yV} {r0 r3 : Option yV} {x w : Int} : zvc E (n + 1) zc_120 d xm_120 199 [r0, some (1, w), some (0, x), r3] (st) mem Post = (zvc E n zc_120 d xm_120 202 [r0, some (1, w), some (0, x + 1), r3] (st) mem Post) := zrf rfl
theorem s_120_202 {E : yE} {n d : Nat} {mem : yMem} {Post : Option yV → yMem → Prop} {st : List yV} {r0 r1 r2 r3 : Option yV} : zvc E (n + 1) zc_120 d xm_120 202 [r0, r1, r2, r3] (st) mem Post = (zvc E n zc_120 d xm_120 214 [r0, r1, r2, r3] (st) mem Post) := zrf rfl
theorem s_120_205 {E : yE} {n d : Nat} {mem : yMem} {Post : Option yV → yMem → Prop} {st : List yV} {r1 r2 r3 : Option yV} {x : Int} : zvc E (n + 1) zc_120 d xm_120 205 [some (1, x), r1, r2, r3] (st) mem Post = (zvc E n zc_120 d xm_120 206 [some (1, x), r1, r2, r3] ((1, x) :: st) mem Post) := zrf rfl
theorem s_120_206 {E : yE} {n d : Nat} {mem : yMem} {Post : Option yV → yMem → Prop} {st : List yV} {r0 r1 r2 r3 : Option yV} : zvc E (n + 1) zc_120 d xm_120 206 [r0, r1, r2, r3] ((1, 54) :: st) mem Post = (zvc E n zc_120 d xm_120 209 [r0, r1, r2, r3] ((1, 55) :: st) mem Post) := zrf rfl
theorem s_120_209 {E : yE} {n d : Nat} {mem : yMem} {Post : Option yV → yMem → Prop} {st : List yV} {r0 r1 r2 r3 : Option yV} : zvc E (n + 1) zc_120 d xm_120 209 [r0, r1, r2, r3] (st) mem Post = (zvc E n zc_120 d xm_120 210 [r0, r1, r2, r3] ((0, 1) :: st) mem Post) := zrf rfl
theorem s_120_210 {E : yE} {n d : Nat} {mem : yMem} {Post : Option yV → yMem → Prop} {st : List yV} {r0 r1 r2 r3 : Option yV} {z a0 : Int} : zvc E (n + 1) zc_120 (d + 1) xm_120 210 [r0, r1, r2, r3] ((0, a0) :: (1, z) :: st) mem Post = (zio z 9 = true ∧ ysum st ≤ 8 ∧ zvc E n [] d xm_123 0 [some (1, z), some (0, a0)] [] mem (fun v mem' => zvk E n zc_120 (d + 1) xm_120 213 [r0, r1, r2, r3] st v mem' Post)) := zrf rfl
theorem s_120_213a {E : yE} {n d : Nat} {mem : yMem} {Post : Option yV → yMem → Prop} {st : List yV} {r0 r1 r2 r3 : Option yV} {x : Int} : zvc E (n + 1) zc_120 d xm_120 213 [r0, r1, r2, r3] ((0, x) :: st) mem Post = (zvc E n zc_120 d xm_120 214 [r0, r1, r2, r3] (st) mem Post) := zrf rfl
theorem s_120_213b {E : yE} {n d : Nat} {mem : yMem} {Post : Option yV → yMem → Prop} {st : List yV} {r0 r1 r2 r3 : Option yV} {x : Int} : zvc E (n + 1) zc_120 d xm_120 213 [r0, r1, r2, r3] ((1, x) :: st) mem Post = (zvc E n zc_120 d xm_120 214 [r0, r1, r2, r3] (st) mem Post) := zrf rfl
theorem g_120_214n {E : yE} {n d : Nat} {mem : yMem} {Post : Option yV → yMem → Prop} {st : List yV} {r0 r1 : Option yV} {x : Int} : zgo E n zc_120 d xm_120 214 [r0, r1, none, some (0, x)] (st) mem Post = (zvc E n zc_120 d xm_120 217 [r0, r1, none, some (0, x + 1)] (st) mem Post) := zrf rfl
theorem g_120_214i {E : yE} {n d : Nat} {mem : yMem} {Post : Option yV → yMem → Prop} {st : List yV} {r0 r1 : Option yV} {x w : Int} : zgo E n zc_120 d xm_120 214 [r0, r1, some (0, w), some (0, x)] (st) mem Post = (zvc E n zc_120 d xm_120 217 [r0, r1, some (0, w), some (0, x + 1)] (st) mem Post) := zrf rfl
theorem g_120_214p {E : yE} {n d : Nat} {mem : yMem} {Post : Option yV → yMem → Prop} {st : List yV} {r0 r1 : Option yV} {x w : Int} : zgo E n zc_120 d xm_120 214 [r0, r1, some (1, w), some (0, x)] (st) mem Post = (zvc E n zc_120 d xm_120 217 [r0, r1, some (1, w), some (0, x + 1)] (st) mem Post) := zrf rfl
theorem k_120_214 {E : yE} {n d : Nat} {mem : yMem} {Post : Option yV → yMem → Prop} {st : List yV} {rg : zR} : zvc E (n + 1) zc_120 d xm_120 214 rg st mem Post = zG E d xm_120 214 rg st mem Post := zrf rfl
theorem s_120_217 {E : yE} {n d : Nat} {mem : yMem} {Post : Option yV → yMem → Prop} {st : List yV} {r0 r1 r2 r3 : Option yV} : zvc E (n + 1) zc_120 d xm_120 217 [r0, r1, r2, r3] (st) mem Post = (zvc E n zc_120 d xm_120 29 [r0, r1, r2, r3] (st) mem Post) := zrf rfl
theorem g_120_220 {E : yE} {n d : Nat} {mem : yMem} {Post : Option yV → yMem → Prop} {st : List yV} {r0 r1 r3 : Option yV} {x : Int} : zgo E n zc_120 d xm_120 220 [r0, r1, some (0, x), r3] (st) mem Post = (zvc E n zc_120 d xm_120 221 [r0, r1, some (0, x), r3] ((0, x) :: st) mem Post) := zrf rfl
theorem k_120_220 {E : yE} {n d : Nat} {mem : yMem} {Post : Option yV → yMem → Prop} {st : List yV} {rg : zR} : zvc E (n + 1) zc_120 d xm_120 220 rg st mem Post = zG E d xm_120 220 rg st mem Post := zrf rfl
theorem s_120_221 {E : yE} {n d : Nat} {mem : yMem} {Post : Option yV → yMem → Prop} {r0 r1 r2 r3 : Option yV} {x : Int} : zvc E (n + 1) zc_120 d xm_120 221 [r0, r1, r2, r3] ([(0, x)]) mem Post = (Post (some (0, x)) mem) := zrf rfl
theorem s_132_0 {E : yE} {n d : Nat} {mem : yMem} {Post : Option yV → yMem → Prop} {st : List yV} {r1 : Option yV} {x : Int} : zvc E (n + 1) [] d xm_132 0 [some (1, x), r1] (st) mem Post = (zvc E n [] d xm_132 1 [some (1, x), r1] ((1, x) :: st) mem Post) := zrf rfl
theorem s_132_1 {E : yE} {n d : Nat} {mem : yMem} {Post : Option yV → yMem → Prop} {st : List yV} {r0 : Option yV} {x : Int} : zvc E (n + 1) [] d xm_132 1 [r0, some (0, x)] (st) mem Post = (zvc E n [] d xm_132 2 [r0, some (0, x)] ((0, x) :: st) mem Post) := zrf rfl
theorem s_132_2 {E : yE} {n d : Nat} {mem : yMem} {Post : Option yV → yMem → Prop} {st : List yV} {r1 : Option yV} {x : Int} : zvc E (n + 1) [] d xm_132 2 [some (1, x), r1] (st) mem Post = (zvc E n [] d xm_132 3 [some (1, x), r1] ((1, x) :: st) mem Post) := zrf rfl
theorem s_132_3 {E : yE} {n d : Nat} {mem : yMem} {Post : Option yV → yMem → Prop} {st : List yV} {r0 r1 : Option yV} : zvc E (n + 1) [] d xm_132 3 [r0, r1] ((1, 55) :: st) mem Post = (zvc E n [] d xm_132 6 [r0, r1] ((1, 1) :: st) mem Post) := zrf rfl
theorem s_132_6 {E : yE} {n d : Nat} {mem : yMem} {Post : Option yV → yMem → Prop} {st : List yV} {r0 r1 : Option yV} {z : Int} : zvc E (n + 1) [] d xm_132 6 [r0, r1] ((1, z) :: st) mem Post = (zia z = true ∧ zvc E n [] d xm_132 7 [r0, r1] ((0, ((zln z : Nat) : Int)) :: st) mem Post) := zrf rfl
theorem s_132_7 {E : yE} {n d : Nat} {mem : yMem} {Post : Option yV → yMem → Prop} {st : List yV} {r0 r1 : Option yV} {x y : Int} : zvc E (n + 1) [] d xm_132 7 [r0, r1] ((0, y) :: (0, x) :: st) mem Post = (ysum st ≤ 8 ∧ zvc E n [] d xm_132 10 [r0, r1] ((0, zmni x y) :: st) mem Post) := zrf rfl
theorem s_132_10 {E : yE} {n d : Nat} {mem : yMem} {Post : Option yV → yMem → Prop} {st : List yV} {r0 r1 : Option yV} {x : Int} : zvc E (n + 1) [] d xm_132 10 [r0, r1] ((0, x) :: (1, 55) :: st) mem Post = (zvc E n [] d xm_132 13 [r0, r1] (st) (yset mem 55 2 x) Post) := zrf rfl
theorem s_132_13 {E : yE} {n d : Nat} {mem : yMem} {Post : Option yV → yMem → Prop} {st : List yV} {r1 : Option yV} {x : Int} : zvc E (n + 1) [] d xm_132 13 [some (1, x), r1] (st) mem Post = (zvc E n [] d xm_132 14 [some (1, x), r1] ((1, x) :: st) mem Post) := zrf rfl
theorem s_132_14 {E : yE} {n d : Nat} {mem : yMem} {Post : Option yV → yMem → Prop} {st : List yV} {r0 r1 : Option yV} : zvc E (n + 1) [] d xm_132 14 [r0, r1] (st) mem Post = (zvc E n [] d xm_132 15 [r0, r1] ((0, 0) :: st) mem Post) := zrf rfl
theorem s_132_15 {E : yE} {n d : Nat} {mem : yMem} {Post : Option yV → yMem → Prop} {st : List yV} {r0 r1 : Option yV} {x : Int} : zvc E (n + 1) [] d xm_132 15 [r0, r1] ((0, x) :: (1, 55) :: st) mem Post = (zvc E n [] d xm_132 18 [r0, r1] (st) (yset mem 55 3 x) Post) := zrf rfl
theorem s_132_18 {E : yE} {n d : Nat} {mem : yMem} {Post : Option yV → yMem → Prop} {st : List yV} {r1 : Option yV} {x : Int} : zvc E (n + 1) [] d xm_132 18 [some (1, x), r1] (st) mem Post = (zvc E n [] d xm_132 19 [some (1, x), r1] ((1, x) :: st) mem Post) := zrf rfl
theorem s_132_19 {E : yE} {n d : Nat} {mem : yMem} {Post : Option yV → yMem → Prop} {st : List yV} {r0 r1 : Option yV} : zvc E (n + 1) [] d xm_132 19 [r0, r1] (st) mem Post = (zvc E n [] d xm_132 20 [r0, r1] ((0, 0) :: st) mem Post) := zrf rfl
theorem s_132_20 {E : yE} {n d : Nat} {mem : yMem} {Post : Option yV → yMem → Prop} {st : List yV} {r0 r1 : Option yV} {x : Int} : zvc E (n + 1) [] d xm_132 20 [r0, r1] ((0, x) :: (1, 55) :: st) mem Post = (zvc E n [] d xm_132 23 [r0, r1] (st) (yset mem 55 7 x) Post) := zrf rfl
theorem s_132_23 {E : yE} {n d : Nat} {mem : yMem} {Post : Option yV → yMem → Prop} {st : List yV} {r1 : Option yV} {x : Int} : zvc E (n + 1) [] d xm_132 23 [some (1, x), r1] (st) mem Post = (zvc E n [] d xm_132 24 [some (1, x), r1] ((1, x) :: st) mem Post) := zrf rfl
theorem s_132_24 {E : yE} {n d : Nat} {mem : yMem} {Post : Option yV → yMem → Prop} {st : List yV} {r0 r1 : Option yV} : zvc E (n + 1) [] d xm_132 24 [r0, r1] (st) mem Post = (zvc E n [] d xm_132 25 [r0, r1] ((0, (-1)) :: st) mem Post) := zrf rfl
theorem s_132_25 {E : yE} {n d : Nat} {mem : yMem} {Post : Option yV → yMem → Prop} {st : List yV} {r0 r1 : Option yV} {x : Int} : zvc E (n + 1) [] d xm_132 25 [r0, r1] ((0, x) :: (1, 55) :: st) mem Post = (zvc E n [] d xm_132 28 [r0, r1] (st) (yset mem 55 8 x) Post) := zrf rfl
theorem s_132_28 {E : yE} {n d : Nat} {mem : yMem} {Post : Option yV → yMem → Prop} {st : List yV} {r1 : Option yV} {x : Int} : zvc E (n + 1) [] d xm_132 28 [some (1, x), r1] (st) mem Post = (zvc E n [] d xm_132 29 [some (1, x), r1] ((1, x) :: st) mem Post) := zrf rfl
theorem s_132_29 {E : yE} {n d : Nat} {mem : yMem} {Post : Option yV → yMem → Prop} {st : List yV} {r0 r1 : Option yV} {z : Int} : zvc E (n + 1) [] d xm_132 29 [r0, r1] ((1, z) :: st) mem Post = (zio z 9 = true ∧ ysum st ≤ 8 ∧ yCon E d xm_126 [(1, z)] mem (fun v mem' => zgk E d xm_132 32 [r0, r1] st v mem' Post)) := zrf rfl
theorem s_132_32 {E : yE} {n d : Nat} {mem : yMem} {Post : Option yV → yMem → Prop} {r0 r1 : Option yV} : zvc E (n + 1) [] d xm_132 32 [r0, r1] ([]) mem Post = (Post none mem) := zrf rfl
theorem e_120 {E : yE} {d : Nat} {mem : yMem} {Q : Option yV → yMem → Prop} {z a0 : Int} (h : zG E d xm_120 0 [some (1, z), some (0, a0), none, none] [] mem Q) : yCon E (d + 1) xm_120 [(1, z), (0, a0)] mem Q := zcon_of xmo_120 (Nat.le_of_ble_eq_true rfl) h
theorem e_132 {E : yE} {d : Nat} {mem : yMem} {Q : Option yV → yMem → Prop} {z a0 : Int} (h : zG E d xm_132 0 [some (1, z), some (0, a0)] [] mem Q) : yCon E (d + 1) xm_132 [(1, z), (0, a0)] mem Q := zcon_of xmo_132 (Nat.le_of_ble_eq_true rfl) h

section CV
variable {E : yE} {mem b m : yMem} {Q : Option yV → yMem → Prop} {ch : Nat → Int} {n : Nat} {x : sY} {D : dDc} {d : Nat} {N K I : Int}
/-- what stands between LINES -/
def cAt (ch : Nat → Int) (n : Nat) (m : yMem) (x : sY) (D : dDc) : Prop := cTk ch n m x ∧ ∀ l, x = .inr l → cDc m D
/-- the cells of a draft and of what reads it -/
def tlF' (b m : yMem) : Prop := ∀ i j, (i < 28 ∨ 55 < i) → m i j = b i j
theorem tlF_w {b m m' : yMem} {w : List (Nat × Nat)} (h : tlF' b m) (hF : aFrm w m m') (hw : w.all (fun q => decide (28 ≤ q.1) && decide (q.1 ≤ 55)) = true) : tlF' b m' := fun i j hij => by
  rw [hF i j ?_]
  · exact h i j hij
  · cases hm : amod w i j with
    | false => rfl
    | true =>
      obtain ⟨q, q1, q2, q3⟩ := amod_ex hm
      have := List.all_eq_true.mp hw q q1
      simp only [Bool.and_eq_true, decide_eq_true_eq] at this
      omega
theorem cTv_fr {m m' : yMem} {t : dTv} (h : cTv m t) (e29 : m' 29 1 = m 29 1) (e30 : ∀ j, m' 30 j = m 30 j) (e37 : ∀ j, m' 37 j = m 37 j) (e38 : ∀ j, m' 38 j = m 38 j) : cTv m' t := ⟨cNm_fr h.1 e29 e30, fun j t ht => by rw [e37, e38]; exact h.2 j t ht⟩
theorem cVo_fr {m m' : yMem} {t : dVo} (h : cVo m t) (e31 : m' 31 1 = m 31 1) (e32 : ∀ j, m' 32 j = m 32 j) (e28 : m' 28 16 = m 28 16) (e39 : ∀ j, m' 39 j = m 39 j) (e40 : ∀ j, m' 40 j = m 40 j) (e41 : ∀ j, m' 41 j = m 41 j) (e42 : ∀ j, m' 42 j = m 42 j) (e43 : ∀ j, m' 43 j = m 43 j) : cVo m' t := ⟨cNm_fr h.1 e31 e32, by rw [e28]; exact h.2.1, h.2.2.1, fun j t ht => by rw [e39, e40, e41, e42, e43]; exact h.2.2.2 j t ht⟩
theorem cVe_fr {m m' : yMem} {t : dVe} (h : cVe m t) (e33 : m' 33 1 = m 33 1) (e34 : ∀ j, m' 34 j = m 34 j) (e44 : ∀ j, m' 44 j = m 44 j) (e45 : ∀ j, m' 45 j = m 45 j) (e46 : ∀ j, m' 46 j = m 46 j) : cVe m' t := ⟨cNm_fr h.1 e33 e34, fun j t ht => by rw [e44]; exact ⟨(h.2 j t ht).1, (h.2 j t ht).2.1, cPs_eq (h.2 j t ht).2.2 (fun p _ => e45 _) (fun p q _ _ => e46 _)⟩⟩
theorem cBk_fr {m m' : yMem} {t : dBk} (h : cBk m t) (e35 : m' 35 1 = m 35 1) (e36 : ∀ j, m' 36 j = m 36 j) (e47 : ∀ j, m' 47 j = m 47 j) : cBk m' t := ⟨cNm_fr h.1 e35 e36, fun j t ht => by rw [e47]; exact h.2 j t ht⟩
theorem cFs_fr {m m' : yMem} {t : dFs} (h : cFs m t) (e51 : ∀ j, m' 51 j = m 51 j) (e52 : ∀ j, m' 52 j = m 52 j) (e4 : m' 48 4 = m 48 4) (e8 : m' 48 8 = m 48 8) (e49 : ∀ j, m' 49 j = m 49 j) (e50 : ∀ j, m' 50 j = m 50 j) : cFs m' t := ⟨fun j hj => by rw [e51, e52]; exact h.1 j hj, ⟨by rw [e4]; exact h.2.1.1, cKs_eq h.2.1.2 (fun j _ => e49 j) (fun j _ => e50 j)⟩, by rw [e8]; exact h.2.2.1, h.2.2.2⟩
theorem cFs_u {m m' : yMem} {fs : dFs} {f : Nat} {u : sU} (h : cFs m fs) (e51 : ∀ j, ¬ j = f → m' 51 j = m 51 j) (e52 : ∀ j, ¬ j = f → m' 52 j = m 52 j) (hU : FoE m' f u) (hl : w32 (m' 51 f) = (fs.2.2.length : Int)) : cFs m' (dFu fs f u) := by
  obtain ⟨u1, u2, u3, u4, u5⟩ := hU
  refine ⟨fun j hj => ?_, u1, u2, u3, u4⟩
  show w32 (m' 51 j) = (if _ then _ else _ : Int × Int).1 ∧ w32 (m' 52 j) = (if _ then _ else _ : Int × Int).2
  by_cases e : j = f
  · rw [if_pos e, e]
    exact ⟨hl, u5⟩
  · rw [if_neg e, e51 j e, e52 j e]
    exact h.1 j hj
theorem tl_bk {b m m' : yMem} {f : Nat} (h : tlF' b m) (hF : bkG m m' f) : tlF' b m' := fun i j hij => by
  rw [hF i j ?_ (by omega) (by omega)]
  · exact h i j hij
  · cases hm : amod bkW i j with
    | false => rfl
    | true =>
      obtain ⟨q, q1, q2, q3⟩ := amod_ex hm
      have := (by decide : ∀ q ∈ bkW, 28 ≤ q.1 ∧ q.1 ≤ 55) q q1
      omega
theorem tl_ft {b m m' : yMem} {f : Nat} (h : tlF' b m) (hF : ftG m m' f) : tlF' b m' := tl_bk h (fun i j z1 z2 z3 => hF i j (amod_sub (by decide) z1) z2 z3)
theorem gx29 (hE : yEok E) (hd : 12 ≤ d) (hb : tlF' b m) (h : cAt ch n m x D) (hk0 : yKd x ≠ 0) (hI2 : w32 I ≤ 800) (fin : ∀ m', tlF' b m' → cAt ch n m' (pLine x D).1 (pLine x D).2 → zG E (d + 1) xm_120 191 [some (1, 54), some (0, N), some (0, K), some (0, I)] [] m' Q) : zG E (d + 1) xm_120 29 [some (1, 54), some (0, N), some (0, K), some (0, I)] [] m Q := by
  refine zgo_ok (n := 60) hE xmo_120 (cs := zc_120) ?_
  simp only [ynok_30, ynok_31, w32c_0, w32c_1, w32c_2, w32c_3, w32c_4, w32c_5, w32c_6, w32c_7, w32c_8, w32c_9, w32c_10, w32c_11, w32c_12, w32c_13, w32c_14, w32c_m1, w32c_m2, w32c_118, Int.reduceAdd, Int.reduceSub, Int.reduceMul, yput_s, yput_n, znl_n, znl_0, znl_1, znl_4, ysum_n, ysum_0, ysum_1, ysum_4, true_and, and_true, Nat.reduceAdd, Nat.reduceLeDiff, true_implies, eq_self, true_or, or_true, or_false, false_or, not_true_eq_false, not_false_eq_true, false_implies, implies_true, yset_s, yset_o, yset_d, ne_eq, Nat.reduceEqDiff, Int.reduceToNat, Int.reduceEq, Int.reduceLE, Int.reduceLT, Classical.not_not, Nat.reduceLT, ↓zvk_s, ↓zvk_n, ↓s_120_0, ↓s_120_1, ↓s_120_4, ↓s_120_7, ↓s_120_8, ↓s_120_9, ↓s_120_12, ↓s_120_13, ↓s_120_14, ↓s_120_17, ↓s_120_18, ↓s_120_21, ↓s_120_22, ↓s_120_25, ↓s_120_26n, ↓s_120_26i, ↓s_120_26p, ↓s_120_27, ↓s_120_28n, ↓s_120_28i, ↓s_120_28p, ↓g_120_29, ↓k_120_29, ↓s_120_30, ↓s_120_33, ↓s_120_36, ↓s_120_37, ↓s_120_40, ↓s_120_43, ↓s_120_46, ↓s_120_47, ↓s_120_50, ↓s_120_53, ↓s_120_96, ↓s_120_97, ↓s_120_100, ↓s_120_103, ↓s_120_104, ↓s_120_107, ↓s_120_110, ↓s_120_111, ↓s_120_114, ↓s_120_117, ↓s_120_118, ↓s_120_121, ↓s_120_124, ↓s_120_125, ↓s_120_128, ↓s_120_129, ↓s_120_130, ↓s_120_133, ↓s_120_136, ↓s_120_139_2, ↓s_120_139_28, ↓s_120_142, ↓s_120_143, ↓s_120_144, ↓s_120_147, ↓s_120_150, ↓s_120_151, ↓s_120_154, ↓s_120_155, ↓s_120_156, ↓s_120_159, ↓s_120_161, ↓s_120_164_2, ↓s_120_164_28, ↓s_120_167, ↓s_120_168, ↓s_120_169, ↓s_120_172, ↓s_120_175, ↓s_120_176, ↓s_120_179, ↓s_120_182, ↓s_120_183, ↓s_120_186, ↓s_120_187, ↓s_120_190a, ↓s_120_190b, ↓g_120_191, ↓k_120_191, ↓s_120_192, ↓s_120_193, ↓s_120_196, ↓s_120_199n, ↓s_120_199i, ↓s_120_199p, ↓s_120_202, ↓s_120_205, ↓s_120_206, ↓s_120_209, ↓s_120_210, ↓s_120_213a, ↓s_120_213b, ↓g_120_214n, ↓g_120_214i, ↓g_120_214p, ↓k_120_214, ↓s_120_217, ↓g_120_220, ↓k_120_220, ↓s_120_221, w32c_800, w32c_999, w32c_99999, ↓s_123_0, ↓s_123_1, ↓s_123_4, ↓s_123_7, ↓s_123_8, ↓s_123_9, ↓s_123_12, ↓s_123_13, ↓s_123_14, ↓s_123_17, ↓s_123_20, ↓s_123_21, ↓s_123_22, ↓s_123_25, ↓s_123_26, zio_2, zio_54, zio_55, zio_28]
  have T := h.1
  rw [cTk_kd T]
  obtain ⟨l, hx⟩ : ∃ l, x = .inr l := by
    cases x with
    | inl e => exact absurd rfl hk0
    | inr l => exact ⟨l, rfl⟩
  obtain ⟨c1, c2, c3, c4, c5, c6, c7⟩ := h.2 l hx
  refine ⟨fun q => absurd q (by omega), fun _ => ⟨fun q => absurd q (by omega), fun _ => ⟨fun k17 => ?_, fun k17 => ⟨fun k18 => ?_, fun k18 => ⟨fun k19 => ?_, fun k19 => ⟨fun k20 => ?_, fun k20 => ⟨fun k21 => ?_, fun k21 => ⟨fun k22 => ?_, fun k22 => ⟨fun k23 => ?_, fun k23 => ?_⟩⟩⟩⟩⟩⟩⟩⟩⟩
  · unfold pLine at fin
    rw [if_pos (by omega)] at fin
    refine g_readTavern hE (by omega) T c1 (fun m' F T' U => ?_)
    refine zgk_n hE xmo_120 60 zc_120 ?_
    simp only [ynok_30, ynok_31, w32c_0, w32c_1, w32c_2, w32c_3, w32c_4, w32c_5, w32c_6, w32c_7, w32c_8, w32c_9, w32c_10, w32c_11, w32c_12, w32c_13, w32c_14, w32c_m1, w32c_m2, w32c_118, Int.reduceAdd, Int.reduceSub, Int.reduceMul, yput_s, yput_n, znl_n, znl_0, znl_1, znl_4, ysum_n, ysum_0, ysum_1, ysum_4, true_and, and_true, Nat.reduceAdd, Nat.reduceLeDiff, true_implies, eq_self, true_or, or_true, or_false, false_or, not_true_eq_false, not_false_eq_true, false_implies, implies_true, yset_s, yset_o, yset_d, ne_eq, Nat.reduceEqDiff, Int.reduceToNat, Int.reduceEq, Int.reduceLE, Int.reduceLT, Classical.not_not, Nat.reduceLT, ↓zvk_s, ↓zvk_n, ↓s_120_0, ↓s_120_1, ↓s_120_4, ↓s_120_7, ↓s_120_8, ↓s_120_9, ↓s_120_12, ↓s_120_13, ↓s_120_14, ↓s_120_17, ↓s_120_18, ↓s_120_21, ↓s_120_22, ↓s_120_25, ↓s_120_26n, ↓s_120_26i, ↓s_120_26p, ↓s_120_27, ↓s_120_28n, ↓s_120_28i, ↓s_120_28p, ↓g_120_29, ↓k_120_29, ↓s_120_30, ↓s_120_33, ↓s_120_36, ↓s_120_37, ↓s_120_40, ↓s_120_43, ↓s_120_46, ↓s_120_47, ↓s_120_50, ↓s_120_53, ↓s_120_96, ↓s_120_97, ↓s_120_100, ↓s_120_103, ↓s_120_104, ↓s_120_107, ↓s_120_110, ↓s_120_111, ↓s_120_114, ↓s_120_117, ↓s_120_118, ↓s_120_121, ↓s_120_124, ↓s_120_125, ↓s_120_128, ↓s_120_129, ↓s_120_130, ↓s_120_133, ↓s_120_136, ↓s_120_139_2, ↓s_120_139_28, ↓s_120_142, ↓s_120_143, ↓s_120_144, ↓s_120_147, ↓s_120_150, ↓s_120_151, ↓s_120_154, ↓s_120_155, ↓s_120_156, ↓s_120_159, ↓s_120_161, ↓s_120_164_2, ↓s_120_164_28, ↓s_120_167, ↓s_120_168, ↓s_120_169, ↓s_120_172, ↓s_120_175, ↓s_120_176, ↓s_120_179, ↓s_120_182, ↓s_120_183, ↓s_120_186, ↓s_120_187, ↓s_120_190a, ↓s_120_190b, ↓g_120_191, ↓k_120_191, ↓s_120_192, ↓s_120_193, ↓s_120_196, ↓s_120_199n, ↓s_120_199i, ↓s_120_199p, ↓s_120_202, ↓s_120_205, ↓s_120_206, ↓s_120_209, ↓s_120_210, ↓s_120_213a, ↓s_120_213b, ↓g_120_214n, ↓g_120_214i, ↓g_120_214p, ↓k_120_214, ↓s_120_217, ↓g_120_220, ↓k_120_220, ↓s_120_221, w32c_800, w32c_999, w32c_99999, zio_2, zio_54, zio_55, zio_28]
    exact fin m' (tlF_w hb F (by decide)) ⟨T', fun l hl => ⟨U l hl, cVo_fr c2 (F 31 1 rfl) (fun j => F 32 j rfl) (F 28 16 rfl) (fun j => F 39 j rfl) (fun j => F 40 j rfl) (fun j => F 41 j rfl) (fun j => F 42 j rfl) (fun j => F 43 j rfl), cVe_fr c3 (F 33 1 rfl) (fun j => F 34 j rfl) (fun j => F 44 j rfl) (fun j => F 45 j rfl) (fun j => F 46 j rfl), cBk_fr c4 (F 35 1 rfl) (fun j => F 36 j rfl) (fun j => F 47 j rfl), ⟨by rw [F 54 2 rfl]; exact c5.1, by rw [F 28 17 rfl]; exact c5.2⟩, ⟨by rw [F 54 3 rfl]; exact c6.1, by rw [F 28 18 rfl]; exact c6.2⟩, cFs_fr c7 (fun j => F 51 j rfl) (fun j => F 52 j rfl) (F 48 4 rfl) (F 48 8 rfl) (fun j => F 49 j rfl) (fun j => F 50 j rfl)⟩⟩
  · unfold pLine at fin
    rw [if_neg (by omega), if_pos (by omega)] at fin
    refine g_readVoice hE (by omega) T c1.1 c2 (fun m' F T' U => ?_)
    refine zgk_n hE xmo_120 60 zc_120 ?_
    simp only [ynok_30, ynok_31, w32c_0, w32c_1, w32c_2, w32c_3, w32c_4, w32c_5, w32c_6, w32c_7, w32c_8, w32c_9, w32c_10, w32c_11, w32c_12, w32c_13, w32c_14, w32c_m1, w32c_m2, w32c_118, Int.reduceAdd, Int.reduceSub, Int.reduceMul, yput_s, yput_n, znl_n, znl_0, znl_1, znl_4, ysum_n, ysum_0, ysum_1, ysum_4, true_and, and_true, Nat.reduceAdd, Nat.reduceLeDiff, true_implies, eq_self, true_or, or_true, or_false, false_or, not_true_eq_false, not_false_eq_true, false_implies, implies_true, yset_s, yset_o, yset_d, ne_eq, Nat.reduceEqDiff, Int.reduceToNat, Int.reduceEq, Int.reduceLE, Int.reduceLT, Classical.not_not, Nat.reduceLT, ↓zvk_s, ↓zvk_n, ↓s_120_0, ↓s_120_1, ↓s_120_4, ↓s_120_7, ↓s_120_8, ↓s_120_9, ↓s_120_12, ↓s_120_13, ↓s_120_14, ↓s_120_17, ↓s_120_18, ↓s_120_21, ↓s_120_22, ↓s_120_25, ↓s_120_26n, ↓s_120_26i, ↓s_120_26p, ↓s_120_27, ↓s_120_28n, ↓s_120_28i, ↓s_120_28p, ↓g_120_29, ↓k_120_29, ↓s_120_30, ↓s_120_33, ↓s_120_36, ↓s_120_37, ↓s_120_40, ↓s_120_43, ↓s_120_46, ↓s_120_47, ↓s_120_50, ↓s_120_53, ↓s_120_96, ↓s_120_97, ↓s_120_100, ↓s_120_103, ↓s_120_104, ↓s_120_107, ↓s_120_110, ↓s_120_111, ↓s_120_114, ↓s_120_117, ↓s_120_118, ↓s_120_121, ↓s_120_124, ↓s_120_125, ↓s_120_128, ↓s_120_129, ↓s_120_130, ↓s_120_133, ↓s_120_136, ↓s_120_139_2, ↓s_120_139_28, ↓s_120_142, ↓s_120_143, ↓s_120_144, ↓s_120_147, ↓s_120_150, ↓s_120_151, ↓s_120_154, ↓s_120_155, ↓s_120_156, ↓s_120_159, ↓s_120_161, ↓s_120_164_2, ↓s_120_164_28, ↓s_120_167, ↓s_120_168, ↓s_120_169, ↓s_120_172, ↓s_120_175, ↓s_120_176, ↓s_120_179, ↓s_120_182, ↓s_120_183, ↓s_120_186, ↓s_120_187, ↓s_120_190a, ↓s_120_190b, ↓g_120_191, ↓k_120_191, ↓s_120_192, ↓s_120_193, ↓s_120_196, ↓s_120_199n, ↓s_120_199i, ↓s_120_199p, ↓s_120_202, ↓s_120_205, ↓s_120_206, ↓s_120_209, ↓s_120_210, ↓s_120_213a, ↓s_120_213b, ↓g_120_214n, ↓g_120_214i, ↓g_120_214p, ↓k_120_214, ↓s_120_217, ↓g_120_220, ↓k_120_220, ↓s_120_221, w32c_800, w32c_999, w32c_99999, zio_2, zio_54, zio_55, zio_28]
    exact fin m' (tlF_w hb F (by decide)) ⟨T', fun l hl => ⟨cTv_fr c1 (F 29 1 rfl) (fun j => F 30 j rfl) (fun j => F 37 j rfl) (fun j => F 38 j rfl), U l hl, cVe_fr c3 (F 33 1 rfl) (fun j => F 34 j rfl) (fun j => F 44 j rfl) (fun j => F 45 j rfl) (fun j => F 46 j rfl), cBk_fr c4 (F 35 1 rfl) (fun j => F 36 j rfl) (fun j => F 47 j rfl), ⟨by rw [F 54 2 rfl]; exact c5.1, by rw [F 28 17 rfl]; exact c5.2⟩, ⟨by rw [F 54 3 rfl]; exact c6.1, by rw [F 28 18 rfl]; exact c6.2⟩, cFs_fr c7 (fun j => F 51 j rfl) (fun j => F 52 j rfl) (F 48 4 rfl) (F 48 8 rfl) (fun j => F 49 j rfl) (fun j => F 50 j rfl)⟩⟩
  · unfold pLine at fin
    rw [if_neg (by omega), if_neg (by omega), if_pos (by omega)] at fin
    refine g_readVerse hE (by omega) T c3 (fun m' F T' U => ?_)
    refine zgk_n hE xmo_120 60 zc_120 ?_
    simp only [ynok_30, ynok_31, w32c_0, w32c_1, w32c_2, w32c_3, w32c_4, w32c_5, w32c_6, w32c_7, w32c_8, w32c_9, w32c_10, w32c_11, w32c_12, w32c_13, w32c_14, w32c_m1, w32c_m2, w32c_118, Int.reduceAdd, Int.reduceSub, Int.reduceMul, yput_s, yput_n, znl_n, znl_0, znl_1, znl_4, ysum_n, ysum_0, ysum_1, ysum_4, true_and, and_true, Nat.reduceAdd, Nat.reduceLeDiff, true_implies, eq_self, true_or, or_true, or_false, false_or, not_true_eq_false, not_false_eq_true, false_implies, implies_true, yset_s, yset_o, yset_d, ne_eq, Nat.reduceEqDiff, Int.reduceToNat, Int.reduceEq, Int.reduceLE, Int.reduceLT, Classical.not_not, Nat.reduceLT, ↓zvk_s, ↓zvk_n, ↓s_120_0, ↓s_120_1, ↓s_120_4, ↓s_120_7, ↓s_120_8, ↓s_120_9, ↓s_120_12, ↓s_120_13, ↓s_120_14, ↓s_120_17, ↓s_120_18, ↓s_120_21, ↓s_120_22, ↓s_120_25, ↓s_120_26n, ↓s_120_26i, ↓s_120_26p, ↓s_120_27, ↓s_120_28n, ↓s_120_28i, ↓s_120_28p, ↓g_120_29, ↓k_120_29, ↓s_120_30, ↓s_120_33, ↓s_120_36, ↓s_120_37, ↓s_120_40, ↓s_120_43, ↓s_120_46, ↓s_120_47, ↓s_120_50, ↓s_120_53, ↓s_120_96, ↓s_120_97, ↓s_120_100, ↓s_120_103, ↓s_120_104, ↓s_120_107, ↓s_120_110, ↓s_120_111, ↓s_120_114, ↓s_120_117, ↓s_120_118, ↓s_120_121, ↓s_120_124, ↓s_120_125, ↓s_120_128, ↓s_120_129, ↓s_120_130, ↓s_120_133, ↓s_120_136, ↓s_120_139_2, ↓s_120_139_28, ↓s_120_142, ↓s_120_143, ↓s_120_144, ↓s_120_147, ↓s_120_150, ↓s_120_151, ↓s_120_154, ↓s_120_155, ↓s_120_156, ↓s_120_159, ↓s_120_161, ↓s_120_164_2, ↓s_120_164_28, ↓s_120_167, ↓s_120_168, ↓s_120_169, ↓s_120_172, ↓s_120_175, ↓s_120_176, ↓s_120_179, ↓s_120_182, ↓s_120_183, ↓s_120_186, ↓s_120_187, ↓s_120_190a, ↓s_120_190b, ↓g_120_191, ↓k_120_191, ↓s_120_192, ↓s_120_193, ↓s_120_196, ↓s_120_199n, ↓s_120_199i, ↓s_120_199p, ↓s_120_202, ↓s_120_205, ↓s_120_206, ↓s_120_209, ↓s_120_210, ↓s_120_213a, ↓s_120_213b, ↓g_120_214n, ↓g_120_214i, ↓g_120_214p, ↓k_120_214, ↓s_120_217, ↓g_120_220, ↓k_120_220, ↓s_120_221, w32c_800, w32c_999, w32c_99999, zio_2, zio_54, zio_55, zio_28]
    exact fin m' (tlF_w hb F (by decide)) ⟨T', fun l hl => ⟨cTv_fr c1 (F 29 1 rfl) (fun j => F 30 j rfl) (fun j => F 37 j rfl) (fun j => F 38 j rfl), cVo_fr c2 (F 31 1 rfl) (fun j => F 32 j rfl) (F 28 16 rfl) (fun j => F 39 j rfl) (fun j => F 40 j rfl) (fun j => F 41 j rfl) (fun j => F 42 j rfl) (fun j => F 43 j rfl), U l hl, cBk_fr c4 (F 35 1 rfl) (fun j => F 36 j rfl) (fun j => F 47 j rfl), ⟨by rw [F 54 2 rfl]; exact c5.1, by rw [F 28 17 rfl]; exact c5.2⟩, ⟨by rw [F 54 3 rfl]; exact c6.1, by rw [F 28 18 rfl]; exact c6.2⟩, cFs_fr c7 (fun j => F 51 j rfl) (fun j => F 52 j rfl) (F 48 4 rfl) (F 48 8 rfl) (fun j => F 49 j rfl) (fun j => F 50 j rfl)⟩⟩
  · unfold pLine at fin
    rw [if_neg (by omega), if_neg (by omega), if_neg (by omega), if_pos (by omega)] at fin
    refine g_readBaker hE (by omega) T c4 c7.2 (fun m' F T' U => ?_)
    refine zgk_n hE xmo_120 60 zc_120 ?_
    simp only [ynok_30, ynok_31, w32c_0, w32c_1, w32c_2, w32c_3, w32c_4, w32c_5, w32c_6, w32c_7, w32c_8, w32c_9, w32c_10, w32c_11, w32c_12, w32c_13, w32c_14, w32c_m1, w32c_m2, w32c_118, Int.reduceAdd, Int.reduceSub, Int.reduceMul, yput_s, yput_n, znl_n, znl_0, znl_1, znl_4, ysum_n, ysum_0, ysum_1, ysum_4, true_and, and_true, Nat.reduceAdd, Nat.reduceLeDiff, true_implies, eq_self, true_or, or_true, or_false, false_or, not_true_eq_false, not_false_eq_true, false_implies, implies_true, yset_s, yset_o, yset_d, ne_eq, Nat.reduceEqDiff, Int.reduceToNat, Int.reduceEq, Int.reduceLE, Int.reduceLT, Classical.not_not, Nat.reduceLT, ↓zvk_s, ↓zvk_n, ↓s_120_0, ↓s_120_1, ↓s_120_4, ↓s_120_7, ↓s_120_8, ↓s_120_9, ↓s_120_12, ↓s_120_13, ↓s_120_14, ↓s_120_17, ↓s_120_18, ↓s_120_21, ↓s_120_22, ↓s_120_25, ↓s_120_26n, ↓s_120_26i, ↓s_120_26p, ↓s_120_27, ↓s_120_28n, ↓s_120_28i, ↓s_120_28p, ↓g_120_29, ↓k_120_29, ↓s_120_30, ↓s_120_33, ↓s_120_36, ↓s_120_37, ↓s_120_40, ↓s_120_43, ↓s_120_46, ↓s_120_47, ↓s_120_50, ↓s_120_53, ↓s_120_96, ↓s_120_97, ↓s_120_100, ↓s_120_103, ↓s_120_104, ↓s_120_107, ↓s_120_110, ↓s_120_111, ↓s_120_114, ↓s_120_117, ↓s_120_118, ↓s_120_121, ↓s_120_124, ↓s_120_125, ↓s_120_128, ↓s_120_129, ↓s_120_130, ↓s_120_133, ↓s_120_136, ↓s_120_139_2, ↓s_120_139_28, ↓s_120_142, ↓s_120_143, ↓s_120_144, ↓s_120_147, ↓s_120_150, ↓s_120_151, ↓s_120_154, ↓s_120_155, ↓s_120_156, ↓s_120_159, ↓s_120_161, ↓s_120_164_2, ↓s_120_164_28, ↓s_120_167, ↓s_120_168, ↓s_120_169, ↓s_120_172, ↓s_120_175, ↓s_120_176, ↓s_120_179, ↓s_120_182, ↓s_120_183, ↓s_120_186, ↓s_120_187, ↓s_120_190a, ↓s_120_190b, ↓g_120_191, ↓k_120_191, ↓s_120_192, ↓s_120_193, ↓s_120_196, ↓s_120_199n, ↓s_120_199i, ↓s_120_199p, ↓s_120_202, ↓s_120_205, ↓s_120_206, ↓s_120_209, ↓s_120_210, ↓s_120_213a, ↓s_120_213b, ↓g_120_214n, ↓g_120_214i, ↓g_120_214p, ↓k_120_214, ↓s_120_217, ↓g_120_220, ↓k_120_220, ↓s_120_221, w32c_800, w32c_999, w32c_99999, zio_2, zio_54, zio_55, zio_28]
    refine fin m' (tl_bk hb F) ⟨T', fun l hl => ?_⟩
    revert U hl
    generalize pBk D.2.2.2.1 D.2.2.2.2.2.2.2.1 D.2.2.2.2.2.2.2.2 x = z
    obtain ⟨z1, z2⟩ := z
    intro U hl
    cases z1 with
    | inl e => cases hl
    | inr u =>
      obtain ⟨U0, U1, U2, U3⟩ := U u rfl
      exact ⟨cTv_fr c1 (F 29 1 rfl (fun z => absurd z.1 (by decide)) (fun z => absurd z.1 (by decide))) (fun j => F 30 j rfl (fun z => absurd z.1 (by decide)) (fun z => absurd z.1 (by decide))) (fun j => F 37 j rfl (fun z => absurd z.1 (by decide)) (fun z => absurd z.1 (by decide))) (fun j => F 38 j rfl (fun z => absurd z.1 (by decide)) (fun z => absurd z.1 (by decide))), cVo_fr c2 (F 31 1 rfl (fun z => absurd z.1 (by decide)) (fun z => absurd z.1 (by decide))) (fun j => F 32 j rfl (fun z => absurd z.1 (by decide)) (fun z => absurd z.1 (by decide))) (F 28 16 rfl (fun z => absurd z.1 (by decide)) (fun z => absurd z.1 (by decide))) (fun j => F 39 j rfl (fun z => absurd z.1 (by decide)) (fun z => absurd z.1 (by decide))) (fun j => F 40 j rfl (fun z => absurd z.1 (by decide)) (fun z => absurd z.1 (by decide))) (fun j => F 41 j rfl (fun z => absurd z.1 (by decide)) (fun z => absurd z.1 (by decide))) (fun j => F 42 j rfl (fun z => absurd z.1 (by decide)) (fun z => absurd z.1 (by decide))) (fun j => F 43 j rfl (fun z => absurd z.1 (by decide)) (fun z => absurd z.1 (by decide))), cVe_fr c3 (F 33 1 rfl (fun z => absurd z.1 (by decide)) (fun z => absurd z.1 (by decide))) (fun j => F 34 j rfl (fun z => absurd z.1 (by decide)) (fun z => absurd z.1 (by decide))) (fun j => F 44 j rfl (fun z => absurd z.1 (by decide)) (fun z => absurd z.1 (by decide))) (fun j => F 45 j rfl (fun z => absurd z.1 (by decide)) (fun z => absurd z.1 (by decide))) (fun j => F 46 j rfl (fun z => absurd z.1 (by decide)) (fun z => absurd z.1 (by decide))), U1, ⟨by rw [F 54 2 rfl (fun z => absurd z.1 (by decide)) (fun z => absurd z.1 (by decide))]; exact c5.1, by rw [F 28 17 rfl (fun z => absurd z.1 (by decide)) (fun z => absurd z.1 (by decide))]; exact c5.2⟩, ⟨by rw [F 54 3 rfl (fun z => absurd z.1 (by decide)) (fun z => absurd z.1 (by decide))]; exact c6.1, by rw [F 28 18 rfl (fun z => absurd z.1 (by decide)) (fun z => absurd z.1 (by decide))]; exact c6.2⟩, cFs_u c7 (fun j hj => F 51 j rfl (fun z => absurd z.1 (by decide)) (fun z => hj z.2)) (fun j hj => F 52 j rfl (fun z => hj z.2) (fun z => absurd z.1 (by decide))) U2 U3⟩
  · unfold pLine at fin
    rw [if_neg (by omega), if_neg (by omega), if_neg (by omega), if_neg (by omega), if_pos (by omega)] at fin
    refine g_lone hE (by omega) c5.1 (by decide) T (fun r m1 F e1 T1 => ?_)
    rw [show w32 999 = 999 by decide] at e1 T1
    refine zgk_s hE xmo_120 60 zc_120 ?_
    simp only [ynok_30, ynok_31, w32c_0, w32c_1, w32c_2, w32c_3, w32c_4, w32c_5, w32c_6, w32c_7, w32c_8, w32c_9, w32c_10, w32c_11, w32c_12, w32c_13, w32c_14, w32c_m1, w32c_m2, w32c_118, Int.reduceAdd, Int.reduceSub, Int.reduceMul, yput_s, yput_n, znl_n, znl_0, znl_1, znl_4, ysum_n, ysum_0, ysum_1, ysum_4, true_and, and_true, Nat.reduceAdd, Nat.reduceLeDiff, true_implies, eq_self, true_or, or_true, or_false, false_or, not_true_eq_false, not_false_eq_true, false_implies, implies_true, yset_s, yset_o, yset_d, ne_eq, Nat.reduceEqDiff, Int.reduceToNat, Int.reduceEq, Int.reduceLE, Int.reduceLT, Classical.not_not, Nat.reduceLT, ↓zvk_s, ↓zvk_n, ↓s_120_0, ↓s_120_1, ↓s_120_4, ↓s_120_7, ↓s_120_8, ↓s_120_9, ↓s_120_12, ↓s_120_13, ↓s_120_14, ↓s_120_17, ↓s_120_18, ↓s_120_21, ↓s_120_22, ↓s_120_25, ↓s_120_26n, ↓s_120_26i, ↓s_120_26p, ↓s_120_27, ↓s_120_28n, ↓s_120_28i, ↓s_120_28p, ↓g_120_29, ↓k_120_29, ↓s_120_30, ↓s_120_33, ↓s_120_36, ↓s_120_37, ↓s_120_40, ↓s_120_43, ↓s_120_46, ↓s_120_47, ↓s_120_50, ↓s_120_53, ↓s_120_96, ↓s_120_97, ↓s_120_100, ↓s_120_103, ↓s_120_104, ↓s_120_107, ↓s_120_110, ↓s_120_111, ↓s_120_114, ↓s_120_117, ↓s_120_118, ↓s_120_121, ↓s_120_124, ↓s_120_125, ↓s_120_128, ↓s_120_129, ↓s_120_130, ↓s_120_133, ↓s_120_136, ↓s_120_139_2, ↓s_120_139_28, ↓s_120_142, ↓s_120_143, ↓s_120_144, ↓s_120_147, ↓s_120_150, ↓s_120_151, ↓s_120_154, ↓s_120_155, ↓s_120_156, ↓s_120_159, ↓s_120_161, ↓s_120_164_2, ↓s_120_164_28, ↓s_120_167, ↓s_120_168, ↓s_120_169, ↓s_120_172, ↓s_120_175, ↓s_120_176, ↓s_120_179, ↓s_120_182, ↓s_120_183, ↓s_120_186, ↓s_120_187, ↓s_120_190a, ↓s_120_190b, ↓g_120_191, ↓k_120_191, ↓s_120_192, ↓s_120_193, ↓s_120_196, ↓s_120_199n, ↓s_120_199i, ↓s_120_199p, ↓s_120_202, ↓s_120_205, ↓s_120_206, ↓s_120_209, ↓s_120_210, ↓s_120_213a, ↓s_120_213b, ↓g_120_214n, ↓g_120_214i, ↓g_120_214p, ↓k_120_214, ↓s_120_217, ↓g_120_220, ↓k_120_220, ↓s_120_221, w32c_800, w32c_999, w32c_99999, zio_2, zio_54, zio_55, zio_28]
    refine fin _ (tlF_w (tlF_w hb F (by decide)) (w := [(28, 0), (54, 0)]) (aFrm_set (aFrm_set aFrm_rf rfl) rfl) (by decide)) ⟨cTk_of T1 (fun j => by rw [yset_o (by decide), yset_o (by decide)]) (fun j => by rw [yset_o (by decide), yset_o (by decide)]) (fun j => by rw [yset_o (by decide), yset_o (by decide)]), fun l hl => ?_⟩
    exact ⟨cTv_fr c1 (by rw [yset_o (by decide), yset_o (by decide), F 29 1 (amod_n55 (by decide))]) (fun j => by rw [yset_o (by decide), yset_o (by decide), F 30 j (amod_n55 (by decide))]) (fun j => by rw [yset_o (by decide), yset_o (by decide), F 37 j (amod_n55 (by decide))]) (fun j => by rw [yset_o (by decide), yset_o (by decide), F 38 j (amod_n55 (by decide))]), cVo_fr c2 (by rw [yset_o (by decide), yset_o (by decide), F 31 1 (amod_n55 (by decide))]) (fun j => by rw [yset_o (by decide), yset_o (by decide), F 32 j (amod_n55 (by decide))]) (by rw [yset_o (by decide), yset_d (by decide), F 28 16 (amod_n55 (by decide))]) (fun j => by rw [yset_o (by decide), yset_o (by decide), F 39 j (amod_n55 (by decide))]) (fun j => by rw [yset_o (by decide), yset_o (by decide), F 40 j (amod_n55 (by decide))]) (fun j => by rw [yset_o (by decide), yset_o (by decide), F 41 j (amod_n55 (by decide))]) (fun j => by rw [yset_o (by decide), yset_o (by decide), F 42 j (amod_n55 (by decide))]) (fun j => by rw [yset_o (by decide), yset_o (by decide), F 43 j (amod_n55 (by decide))]), cVe_fr c3 (by rw [yset_o (by decide), yset_o (by decide), F 33 1 (amod_n55 (by decide))]) (fun j => by rw [yset_o (by decide), yset_o (by decide), F 34 j (amod_n55 (by decide))]) (fun j => by rw [yset_o (by decide), yset_o (by decide), F 44 j (amod_n55 (by decide))]) (fun j => by rw [yset_o (by decide), yset_o (by decide), F 45 j (amod_n55 (by decide))]) (fun j => by rw [yset_o (by decide), yset_o (by decide), F 46 j (amod_n55 (by decide))]), cBk_fr c4 (by rw [yset_o (by decide), yset_o (by decide), F 35 1 (amod_n55 (by decide))]) (fun j => by rw [yset_o (by decide), yset_o (by decide), F 36 j (amod_n55 (by decide))]) (fun j => by rw [yset_o (by decide), yset_o (by decide), F 47 j (amod_n55 (by decide))]), ⟨by rw [yset_s]; exact w32c_1, by rw [yset_o (by decide), yset_s]; exact e1⟩, ⟨by rw [yset_d (by decide), yset_o (by decide), F 54 3 (amod_n55 (by decide))]; exact c6.1, by rw [yset_o (by decide), yset_d (by decide), F 28 18 (amod_n55 (by decide))]; exact c6.2⟩, cFs_fr c7 (fun j => by rw [yset_o (by decide), yset_o (by decide), F 51 j (amod_n55 (by decide))]) (fun j => by rw [yset_o (by decide), yset_o (by decide), F 52 j (amod_n55 (by decide))]) (by rw [yset_o (by decide), yset_o (by decide), F 48 4 (amod_n55 (by decide))]) (by rw [yset_o (by decide), yset_o (by decide), F 48 8 (amod_n55 (by decide))]) (fun j => by rw [yset_o (by decide), yset_o (by decide), F 49 j (amod_n55 (by decide))]) (fun j => by rw [yset_o (by decide), yset_o (by decide), F 50 j (amod_n55 (by decide))])⟩
  · unfold pLine at fin
    rw [if_neg (by omega), if_neg (by omega), if_neg (by omega), if_neg (by omega), if_neg (by omega), if_pos (by omega)] at fin
    refine g_lone hE (by omega) c6.1 (by decide) T (fun r m1 F e1 T1 => ?_)
    rw [show w32 99999 = 99999 by decide] at e1 T1
    refine zgk_s hE xmo_120 60 zc_120 ?_
    simp only [ynok_30, ynok_31, w32c_0, w32c_1, w32c_2, w32c_3, w32c_4, w32c_5, w32c_6, w32c_7, w32c_8, w32c_9, w32c_10, w32c_11, w32c_12, w32c_13, w32c_14, w32c_m1, w32c_m2, w32c_118, Int.reduceAdd, Int.reduceSub, Int.reduceMul, yput_s, yput_n, znl_n, znl_0, znl_1, znl_4, ysum_n, ysum_0, ysum_1, ysum_4, true_and, and_true, Nat.reduceAdd, Nat.reduceLeDiff, true_implies, eq_self, true_or, or_true, or_false, false_or, not_true_eq_false, not_false_eq_true, false_implies, implies_true, yset_s, yset_o, yset_d, ne_eq, Nat.reduceEqDiff, Int.reduceToNat, Int.reduceEq, Int.reduceLE, Int.reduceLT, Classical.not_not, Nat.reduceLT, ↓zvk_s, ↓zvk_n, ↓s_120_0, ↓s_120_1, ↓s_120_4, ↓s_120_7, ↓s_120_8, ↓s_120_9, ↓s_120_12, ↓s_120_13, ↓s_120_14, ↓s_120_17, ↓s_120_18, ↓s_120_21, ↓s_120_22, ↓s_120_25, ↓s_120_26n, ↓s_120_26i, ↓s_120_26p, ↓s_120_27, ↓s_120_28n, ↓s_120_28i, ↓s_120_28p, ↓g_120_29, ↓k_120_29, ↓s_120_30, ↓s_120_33, ↓s_120_36, ↓s_120_37, ↓s_120_40, ↓s_120_43, ↓s_120_46, ↓s_120_47, ↓s_120_50, ↓s_120_53, ↓s_120_96, ↓s_120_97, ↓s_120_100, ↓s_120_103, ↓s_120_104, ↓s_120_107, ↓s_120_110, ↓s_120_111, ↓s_120_114, ↓s_120_117, ↓s_120_118, ↓s_120_121, ↓s_120_124, ↓s_120_125, ↓s_120_128, ↓s_120_129, ↓s_120_130, ↓s_120_133, ↓s_120_136, ↓s_120_139_2, ↓s_120_139_28, ↓s_120_142, ↓s_120_143, ↓s_120_144, ↓s_120_147, ↓s_120_150, ↓s_120_151, ↓s_120_154, ↓s_120_155, ↓s_120_156, ↓s_120_159, ↓s_120_161, ↓s_120_164_2, ↓s_120_164_28, ↓s_120_167, ↓s_120_168, ↓s_120_169, ↓s_120_172, ↓s_120_175, ↓s_120_176, ↓s_120_179, ↓s_120_182, ↓s_120_183, ↓s_120_186, ↓s_120_187, ↓s_120_190a, ↓s_120_190b, ↓g_120_191, ↓k_120_191, ↓s_120_192, ↓s_120_193, ↓s_120_196, ↓s_120_199n, ↓s_120_199i, ↓s_120_199p, ↓s_120_202, ↓s_120_205, ↓s_120_206, ↓s_120_209, ↓s_120_210, ↓s_120_213a, ↓s_120_213b, ↓g_120_214n, ↓g_120_214i, ↓g_120_214p, ↓k_120_214, ↓s_120_217, ↓g_120_220, ↓k_120_220, ↓s_120_221, w32c_800, w32c_999, w32c_99999, zio_2, zio_54, zio_55, zio_28]
    refine fin _ (tlF_w (tlF_w hb F (by decide)) (w := [(28, 0), (54, 0)]) (aFrm_set (aFrm_set aFrm_rf rfl) rfl) (by decide)) ⟨cTk_of T1 (fun j => by rw [yset_o (by decide), yset_o (by decide)]) (fun j => by rw [yset_o (by decide), yset_o (by decide)]) (fun j => by rw [yset_o (by decide), yset_o (by decide)]), fun l hl => ?_⟩
    exact ⟨cTv_fr c1 (by rw [yset_o (by decide), yset_o (by decide), F 29 1 (amod_n55 (by decide))]) (fun j => by rw [yset_o (by decide), yset_o (by decide), F 30 j (amod_n55 (by decide))]) (fun j => by rw [yset_o (by decide), yset_o (by decide), F 37 j (amod_n55 (by decide))]) (fun j => by rw [yset_o (by decide), yset_o (by decide), F 38 j (amod_n55 (by decide))]), cVo_fr c2 (by rw [yset_o (by decide), yset_o (by decide), F 31 1 (amod_n55 (by decide))]) (fun j => by rw [yset_o (by decide), yset_o (by decide), F 32 j (amod_n55 (by decide))]) (by rw [yset_o (by decide), yset_d (by decide), F 28 16 (amod_n55 (by decide))]) (fun j => by rw [yset_o (by decide), yset_o (by decide), F 39 j (amod_n55 (by decide))]) (fun j => by rw [yset_o (by decide), yset_o (by decide), F 40 j (amod_n55 (by decide))]) (fun j => by rw [yset_o (by decide), yset_o (by decide), F 41 j (amod_n55 (by decide))]) (fun j => by rw [yset_o (by decide), yset_o (by decide), F 42 j (amod_n55 (by decide))]) (fun j => by rw [yset_o (by decide), yset_o (by decide), F 43 j (amod_n55 (by decide))]), cVe_fr c3 (by rw [yset_o (by decide), yset_o (by decide), F 33 1 (amod_n55 (by decide))]) (fun j => by rw [yset_o (by decide), yset_o (by decide), F 34 j (amod_n55 (by decide))]) (fun j => by rw [yset_o (by decide), yset_o (by decide), F 44 j (amod_n55 (by decide))]) (fun j => by rw [yset_o (by decide), yset_o (by decide), F 45 j (amod_n55 (by decide))]) (fun j => by rw [yset_o (by decide), yset_o (by decide), F 46 j (amod_n55 (by decide))]), cBk_fr c4 (by rw [yset_o (by decide), yset_o (by decide), F 35 1 (amod_n55 (by decide))]) (fun j => by rw [yset_o (by decide), yset_o (by decide), F 36 j (amod_n55 (by decide))]) (fun j => by rw [yset_o (by decide), yset_o (by decide), F 47 j (amod_n55 (by decide))]), ⟨by rw [yset_d (by decide), yset_o (by decide), F 54 2 (amod_n55 (by decide))]; exact c5.1, by rw [yset_o (by decide), yset_d (by decide), F 28 17 (amod_n55 (by decide))]; exact c5.2⟩, ⟨by rw [yset_s]; exact w32c_1, by rw [yset_o (by decide), yset_s]; exact e1⟩, cFs_fr c7 (fun j => by rw [yset_o (by decide), yset_o (by decide), F 51 j (amod_n55 (by decide))]) (fun j => by rw [yset_o (by decide), yset_o (by decide), F 52 j (amod_n55 (by decide))]) (by rw [yset_o (by decide), yset_o (by decide), F 48 4 (amod_n55 (by decide))]) (by rw [yset_o (by decide), yset_o (by decide), F 48 8 (amod_n55 (by decide))]) (fun j => by rw [yset_o (by decide), yset_o (by decide), F 49 j (amod_n55 (by decide))]) (fun j => by rw [yset_o (by decide), yset_o (by decide), F 50 j (amod_n55 (by decide))])⟩
  · unfold pLine at fin
    rw [if_neg (by omega), if_neg (by omega), if_neg (by omega), if_neg (by omega), if_neg (by omega), if_neg (by omega), if_pos (by omega)] at fin
    refine g_readLaw hE (by omega) (tl := tlF D.2.2.2.2.2.2) T c7.2 (fun f hf => ?_) (fun m' F T' U => ?_)
    · unfold tlF
      rw [decide_eq_true_eq, (c7.1 f (by omega)).1, (c7.1 f (by omega)).2]
    refine zgk_n hE xmo_120 60 zc_120 ?_
    simp only [ynok_30, ynok_31, w32c_0, w32c_1, w32c_2, w32c_3, w32c_4, w32c_5, w32c_6, w32c_7, w32c_8, w32c_9, w32c_10, w32c_11, w32c_12, w32c_13, w32c_14, w32c_m1, w32c_m2, w32c_118, Int.reduceAdd, Int.reduceSub, Int.reduceMul, yput_s, yput_n, znl_n, znl_0, znl_1, znl_4, ysum_n, ysum_0, ysum_1, ysum_4, true_and, and_true, Nat.reduceAdd, Nat.reduceLeDiff, true_implies, eq_self, true_or, or_true, or_false, false_or, not_true_eq_false, not_false_eq_true, false_implies, implies_true, yset_s, yset_o, yset_d, ne_eq, Nat.reduceEqDiff, Int.reduceToNat, Int.reduceEq, Int.reduceLE, Int.reduceLT, Classical.not_not, Nat.reduceLT, ↓zvk_s, ↓zvk_n, ↓s_120_0, ↓s_120_1, ↓s_120_4, ↓s_120_7, ↓s_120_8, ↓s_120_9, ↓s_120_12, ↓s_120_13, ↓s_120_14, ↓s_120_17, ↓s_120_18, ↓s_120_21, ↓s_120_22, ↓s_120_25, ↓s_120_26n, ↓s_120_26i, ↓s_120_26p, ↓s_120_27, ↓s_120_28n, ↓s_120_28i, ↓s_120_28p, ↓g_120_29, ↓k_120_29, ↓s_120_30, ↓s_120_33, ↓s_120_36, ↓s_120_37, ↓s_120_40, ↓s_120_43, ↓s_120_46, ↓s_120_47, ↓s_120_50, ↓s_120_53, ↓s_120_96, ↓s_120_97, ↓s_120_100, ↓s_120_103, ↓s_120_104, ↓s_120_107, ↓s_120_110, ↓s_120_111, ↓s_120_114, ↓s_120_117, ↓s_120_118, ↓s_120_121, ↓s_120_124, ↓s_120_125, ↓s_120_128, ↓s_120_129, ↓s_120_130, ↓s_120_133, ↓s_120_136, ↓s_120_139_2, ↓s_120_139_28, ↓s_120_142, ↓s_120_143, ↓s_120_144, ↓s_120_147, ↓s_120_150, ↓s_120_151, ↓s_120_154, ↓s_120_155, ↓s_120_156, ↓s_120_159, ↓s_120_161, ↓s_120_164_2, ↓s_120_164_28, ↓s_120_167, ↓s_120_168, ↓s_120_169, ↓s_120_172, ↓s_120_175, ↓s_120_176, ↓s_120_179, ↓s_120_182, ↓s_120_183, ↓s_120_186, ↓s_120_187, ↓s_120_190a, ↓s_120_190b, ↓g_120_191, ↓k_120_191, ↓s_120_192, ↓s_120_193, ↓s_120_196, ↓s_120_199n, ↓s_120_199i, ↓s_120_199p, ↓s_120_202, ↓s_120_205, ↓s_120_206, ↓s_120_209, ↓s_120_210, ↓s_120_213a, ↓s_120_213b, ↓g_120_214n, ↓g_120_214i, ↓g_120_214p, ↓k_120_214, ↓s_120_217, ↓g_120_220, ↓k_120_220, ↓s_120_221, w32c_800, w32c_999, w32c_99999, zio_2, zio_54, zio_55, zio_28]
    refine fin m' (tl_ft hb F) ⟨T', fun l hl => ?_⟩
    revert U hl F
    generalize pLw (tlF D.2.2.2.2.2.2) D.2.2.2.2.2.2.2.1 D.2.2.2.2.2.2.2.2 x = z
    obtain ⟨z1, z2⟩ := z
    intro F U hl
    cases z1 with
    | inl e => cases hl
    | inr u =>
      obtain ⟨U2, U3⟩ := U u rfl
      exact ⟨cTv_fr c1 (F 29 1 rfl (fun z => absurd z.1 (by decide)) (fun z => absurd z.1 (by decide))) (fun j => F 30 j rfl (fun z => absurd z.1 (by decide)) (fun z => absurd z.1 (by decide))) (fun j => F 37 j rfl (fun z => absurd z.1 (by decide)) (fun z => absurd z.1 (by decide))) (fun j => F 38 j rfl (fun z => absurd z.1 (by decide)) (fun z => absurd z.1 (by decide))), cVo_fr c2 (F 31 1 rfl (fun z => absurd z.1 (by decide)) (fun z => absurd z.1 (by decide))) (fun j => F 32 j rfl (fun z => absurd z.1 (by decide)) (fun z => absurd z.1 (by decide))) (F 28 16 rfl (fun z => absurd z.1 (by decide)) (fun z => absurd z.1 (by decide))) (fun j => F 39 j rfl (fun z => absurd z.1 (by decide)) (fun z => absurd z.1 (by decide))) (fun j => F 40 j rfl (fun z => absurd z.1 (by decide)) (fun z => absurd z.1 (by decide))) (fun j => F 41 j rfl (fun z => absurd z.1 (by decide)) (fun z => absurd z.1 (by decide))) (fun j => F 42 j rfl (fun z => absurd z.1 (by decide)) (fun z => absurd z.1 (by decide))) (fun j => F 43 j rfl (fun z => absurd z.1 (by decide)) (fun z => absurd z.1 (by decide))), cVe_fr c3 (F 33 1 rfl (fun z => absurd z.1 (by decide)) (fun z => absurd z.1 (by decide))) (fun j => F 34 j rfl (fun z => absurd z.1 (by decide)) (fun z => absurd z.1 (by decide))) (fun j => F 44 j rfl (fun z => absurd z.1 (by decide)) (fun z => absurd z.1 (by decide))) (fun j => F 45 j rfl (fun z => absurd z.1 (by decide)) (fun z => absurd z.1 (by decide))) (fun j => F 46 j rfl (fun z => absurd z.1 (by decide)) (fun z => absurd z.1 (by decide))), cBk_fr c4 (F 35 1 rfl (fun z => absurd z.1 (by decide)) (fun z => absurd z.1 (by decide))) (fun j => F 36 j rfl (fun z => absurd z.1 (by decide)) (fun z => absurd z.1 (by decide))) (fun j => F 47 j rfl (fun z => absurd z.1 (by decide)) (fun z => absurd z.1 (by decide))), ⟨by rw [F 54 2 rfl (fun z => absurd z.1 (by decide)) (fun z => absurd z.1 (by decide))]; exact c5.1, by rw [F 28 17 rfl (fun z => absurd z.1 (by decide)) (fun z => absurd z.1 (by decide))]; exact c5.2⟩, ⟨by rw [F 54 3 rfl (fun z => absurd z.1 (by decide)) (fun z => absurd z.1 (by decide))]; exact c6.1, by rw [F 28 18 rfl (fun z => absurd z.1 (by decide)) (fun z => absurd z.1 (by decide))]; exact c6.2⟩, cFs_u c7 (fun j hj => F 51 j rfl (fun z => absurd z.1 (by decide)) (fun z => hj z.2)) (fun j hj => F 52 j rfl (fun z => hj z.2) (fun z => absurd z.1 (by decide))) U2 U3⟩
  · unfold pLine at fin
    rw [if_neg (by omega), if_neg (by omega), if_neg (by omega), if_neg (by omega), if_neg (by omega), if_neg (by omega), if_neg (by omega)] at fin
    have go : ∀ m', aFrm cfF m m' → cTk ch n m' (yFl 1 x) → zG E (d + 1) xm_120 191 [some (1, 54), some (0, N), some (0, K), some (0, I)] [] m' Q := fun m' g1 g2 => fin m' (tlF_w hb g1 (by decide)) ⟨g2, fun l hl => by
      rw [hx] at hl
      cases hl⟩
    exact ⟨fun hz => go _ (g_fl1 (f := 1) T hz).1 (g_fl1 T hz).2, fun hz => go _ (g_fl0 (f := 1) T (by decide) (by decide) hz).1 (g_fl0 T (by decide) (by decide) hz).2⟩
end CV
end
section
theorem cDc_cf {m m' : yMem} {D : dDc} (h : cDc m D) (F : aFrm cfF m m') : cDc m' D := by
  obtain ⟨c1, c2, c3, c4, c5, c6, c7⟩ := h
  exact ⟨cTv_fr c1 (F 29 1 (amod_n55 (by decide))) (fun j => F 30 j (amod_n55 (by decide))) (fun j => F 37 j (amod_n55 (by decide))) (fun j => F 38 j (amod_n55 (by decide))), cVo_fr c2 (F 31 1 (amod_n55 (by decide))) (fun j => F 32 j (amod_n55 (by decide))) (F 28 16 (amod_n55 (by decide))) (fun j => F 39 j (amod_n55 (by decide))) (fun j => F 40 j (amod_n55 (by decide))) (fun j => F 41 j (amod_n55 (by decide))) (fun j => F 42 j (amod_n55 (by decide))) (fun j => F 43 j (amod_n55 (by decide))), cVe_fr c3 (F 33 1 (amod_n55 (by decide))) (fun j => F 34 j (amod_n55 (by decide))) (fun j => F 44 j (amod_n55 (by decide))) (fun j => F 45 j (amod_n55 (by decide))) (fun j => F 46 j (amod_n55 (by decide))), cBk_fr c4 (F 35 1 (amod_n55 (by decide))) (fun j => F 36 j (amod_n55 (by decide))) (fun j => F 47 j (amod_n55 (by decide))), ⟨by rw [F 54 2 (amod_n55 (by decide))]; exact c5.1, by rw [F 28 17 (amod_n55 (by decide))]; exact c5.2⟩, ⟨by rw [F 54 3 (amod_n55 (by decide))]; exact c6.1, by rw [F 28 18 (amod_n55 (by decide))]; exact c6.2⟩, cFs_fr c7 (fun j => F 51 j (amod_n55 (by decide))) (fun j => F 52 j (amod_n55 (by decide))) (F 48 4 (amod_n55 (by decide))) (F 48 8 (amod_n55 (by decide))) (fun j => F 49 j (amod_n55 (by decide))) (fun j => F 50 j (amod_n55 (by decide)))⟩
section CW
variable {E : yE} {mem b m : yMem} {Q : Option yV → yMem → Prop} {ch : Nat → Int} {n : Nat} {x : sY} {D : dDc} {d : Nat} {N K I : Int}
theorem gx191 (hE : yEok E) (hd : 12 ≤ d) (hb : tlF' b m) (h : cAt ch n m x D) (fin4 : yKd x = 4 → ∀ m', tlF' b m' → cAt ch n m' (yNx x) D → zG E (d + 1) xm_120 29 [some (1, 54), some (0, N), some (0, K + 1), some (0, I + 1)] [] m' Q) (fin1 : ¬ yKd x = 4 → ∀ m', tlF' b m' → cAt ch n m' (yFl 1 x) D → zG E (d + 1) xm_120 29 [some (1, 54), some (0, N), some (0, K), some (0, I + 1)] [] m' Q) : zG E (d + 1) xm_120 191 [some (1, 54), some (0, N), some (0, K), some (0, I)] [] m Q := by
  refine zgo_ok (n := 60) hE xmo_120 (cs := zc_120) ?_
  simp only [ynok_30, ynok_31, w32c_0, w32c_1, w32c_2, w32c_3, w32c_4, w32c_5, w32c_6, w32c_7, w32c_8, w32c_9, w32c_10, w32c_11, w32c_12, w32c_13, w32c_14, w32c_m1, w32c_m2, w32c_118, Int.reduceAdd, Int.reduceSub, Int.reduceMul, yput_s, yput_n, znl_n, znl_0, znl_1, znl_4, ysum_n, ysum_0, ysum_1, ysum_4, true_and, and_true, Nat.reduceAdd, Nat.reduceLeDiff, true_implies, eq_self, true_or, or_true, or_false, false_or, not_true_eq_false, not_false_eq_true, false_implies, implies_true, yset_s, yset_o, yset_d, ne_eq, Nat.reduceEqDiff, Int.reduceToNat, Int.reduceEq, Int.reduceLE, Int.reduceLT, Classical.not_not, Nat.reduceLT, ↓zvk_s, ↓zvk_n, ↓s_120_0, ↓s_120_1, ↓s_120_4, ↓s_120_7, ↓s_120_8, ↓s_120_9, ↓s_120_12, ↓s_120_13, ↓s_120_14, ↓s_120_17, ↓s_120_18, ↓s_120_21, ↓s_120_22, ↓s_120_25, ↓s_120_26n, ↓s_120_26i, ↓s_120_26p, ↓s_120_27, ↓s_120_28n, ↓s_120_28i, ↓s_120_28p, ↓g_120_29, ↓k_120_29, ↓s_120_30, ↓s_120_33, ↓s_120_36, ↓s_120_37, ↓s_120_40, ↓s_120_43, ↓s_120_46, ↓s_120_47, ↓s_120_50, ↓s_120_53, ↓s_120_96, ↓s_120_97, ↓s_120_100, ↓s_120_103, ↓s_120_104, ↓s_120_107, ↓s_120_110, ↓s_120_111, ↓s_120_114, ↓s_120_117, ↓s_120_118, ↓s_120_121, ↓s_120_124, ↓s_120_125, ↓s_120_128, ↓s_120_129, ↓s_120_130, ↓s_120_133, ↓s_120_136, ↓s_120_139_2, ↓s_120_139_28, ↓s_120_142, ↓s_120_143, ↓s_120_144, ↓s_120_147, ↓s_120_150, ↓s_120_151, ↓s_120_154, ↓s_120_155, ↓s_120_156, ↓s_120_159, ↓s_120_161, ↓s_120_164_2, ↓s_120_164_28, ↓s_120_167, ↓s_120_168, ↓s_120_169, ↓s_120_172, ↓s_120_175, ↓s_120_176, ↓s_120_179, ↓s_120_182, ↓s_120_183, ↓s_120_186, ↓s_120_187, ↓s_120_190a, ↓s_120_190b, ↓g_120_191, ↓k_120_191, ↓s_120_192, ↓s_120_193, ↓s_120_196, ↓s_120_199n, ↓s_120_199i, ↓s_120_199p, ↓s_120_202, ↓s_120_205, ↓s_120_206, ↓s_120_209, ↓s_120_210, ↓s_120_213a, ↓s_120_213b, ↓g_120_214n, ↓g_120_214i, ↓g_120_214p, ↓k_120_214, ↓s_120_217, ↓g_120_220, ↓k_120_220, ↓s_120_221, w32c_800, w32c_999, w32c_99999, ↓s_123_0, ↓s_123_1, ↓s_123_4, ↓s_123_7, ↓s_123_8, ↓s_123_9, ↓s_123_12, ↓s_123_13, ↓s_123_14, ↓s_123_17, ↓s_123_20, ↓s_123_21, ↓s_123_22, ↓s_123_25, ↓s_123_26, ↓s_119_0, ↓s_119_1, ↓s_119_4, ↓s_119_7, ↓s_119_8, ↓s_119_11, ↓s_119_12, ↓s_119_13, ↓s_119_14, ↓s_119_17, ↓s_119_20, ↓s_119_21, zio_2, zio_54, zio_55, zio_28]
  have T := h.1
  rw [cTk_kd T]
  refine ⟨fun hk => ?_, fun hk => ?_⟩
  · refine g_next hE (by omega) T (fun m1 F1 T1 => ?_)
    refine zgk_n hE xmo_119 60 [] ?_
    simp only [ynok_30, ynok_31, w32c_0, w32c_1, w32c_2, w32c_3, w32c_4, w32c_5, w32c_6, w32c_7, w32c_8, w32c_9, w32c_10, w32c_11, w32c_12, w32c_13, w32c_14, w32c_m1, w32c_m2, w32c_118, Int.reduceAdd, Int.reduceSub, Int.reduceMul, yput_s, yput_n, znl_n, znl_0, znl_1, znl_4, ysum_n, ysum_0, ysum_1, ysum_4, true_and, and_true, Nat.reduceAdd, Nat.reduceLeDiff, true_implies, eq_self, true_or, or_true, or_false, false_or, not_true_eq_false, not_false_eq_true, false_implies, implies_true, yset_s, yset_o, yset_d, ne_eq, Nat.reduceEqDiff, Int.reduceToNat, Int.reduceEq, Int.reduceLE, Int.reduceLT, Classical.not_not, Nat.reduceLT, ↓zvk_s, ↓zvk_n, ↓s_120_0, ↓s_120_1, ↓s_120_4, ↓s_120_7, ↓s_120_8, ↓s_120_9, ↓s_120_12, ↓s_120_13, ↓s_120_14, ↓s_120_17, ↓s_120_18, ↓s_120_21, ↓s_120_22, ↓s_120_25, ↓s_120_26n, ↓s_120_26i, ↓s_120_26p, ↓s_120_27, ↓s_120_28n, ↓s_120_28i, ↓s_120_28p, ↓g_120_29, ↓k_120_29, ↓s_120_30, ↓s_120_33, ↓s_120_36, ↓s_120_37, ↓s_120_40, ↓s_120_43, ↓s_120_46, ↓s_120_47, ↓s_120_50, ↓s_120_53, ↓s_120_96, ↓s_120_97, ↓s_120_100, ↓s_120_103, ↓s_120_104, ↓s_120_107, ↓s_120_110, ↓s_120_111, ↓s_120_114, ↓s_120_117, ↓s_120_118, ↓s_120_121, ↓s_120_124, ↓s_120_125, ↓s_120_128, ↓s_120_129, ↓s_120_130, ↓s_120_133, ↓s_120_136, ↓s_120_139_2, ↓s_120_139_28, ↓s_120_142, ↓s_120_143, ↓s_120_144, ↓s_120_147, ↓s_120_150, ↓s_120_151, ↓s_120_154, ↓s_120_155, ↓s_120_156, ↓s_120_159, ↓s_120_161, ↓s_120_164_2, ↓s_120_164_28, ↓s_120_167, ↓s_120_168, ↓s_120_169, ↓s_120_172, ↓s_120_175, ↓s_120_176, ↓s_120_179, ↓s_120_182, ↓s_120_183, ↓s_120_186, ↓s_120_187, ↓s_120_190a, ↓s_120_190b, ↓g_120_191, ↓k_120_191, ↓s_120_192, ↓s_120_193, ↓s_120_196, ↓s_120_199n, ↓s_120_199i, ↓s_120_199p, ↓s_120_202, ↓s_120_205, ↓s_120_206, ↓s_120_209, ↓s_120_210, ↓s_120_213a, ↓s_120_213b, ↓g_120_214n, ↓g_120_214i, ↓g_120_214p, ↓k_120_214, ↓s_120_217, ↓g_120_220, ↓k_120_220, ↓s_120_221, w32c_800, w32c_999, w32c_99999, ↓s_123_0, ↓s_123_1, ↓s_123_4, ↓s_123_7, ↓s_123_8, ↓s_123_9, ↓s_123_12, ↓s_123_13, ↓s_123_14, ↓s_123_17, ↓s_123_20, ↓s_123_21, ↓s_123_22, ↓s_123_25, ↓s_123_26, ↓s_119_0, ↓s_119_1, ↓s_119_4, ↓s_119_7, ↓s_119_8, ↓s_119_11, ↓s_119_12, ↓s_119_13, ↓s_119_14, ↓s_119_17, ↓s_119_20, ↓s_119_21, zio_2, zio_54, zio_55, zio_28]
    refine zgo_ok (n := 60) hE xmo_120 (cs := zc_120) ?_
    simp only [ynok_30, ynok_31, w32c_0, w32c_1, w32c_2, w32c_3, w32c_4, w32c_5, w32c_6, w32c_7, w32c_8, w32c_9, w32c_10, w32c_11, w32c_12, w32c_13, w32c_14, w32c_m1, w32c_m2, w32c_118, Int.reduceAdd, Int.reduceSub, Int.reduceMul, yput_s, yput_n, znl_n, znl_0, znl_1, znl_4, ysum_n, ysum_0, ysum_1, ysum_4, true_and, and_true, Nat.reduceAdd, Nat.reduceLeDiff, true_implies, eq_self, true_or, or_true, or_false, false_or, not_true_eq_false, not_false_eq_true, false_implies, implies_true, yset_s, yset_o, yset_d, ne_eq, Nat.reduceEqDiff, Int.reduceToNat, Int.reduceEq, Int.reduceLE, Int.reduceLT, Classical.not_not, Nat.reduceLT, ↓zvk_s, ↓zvk_n, ↓s_120_0, ↓s_120_1, ↓s_120_4, ↓s_120_7, ↓s_120_8, ↓s_120_9, ↓s_120_12, ↓s_120_13, ↓s_120_14, ↓s_120_17, ↓s_120_18, ↓s_120_21, ↓s_120_22, ↓s_120_25, ↓s_120_26n, ↓s_120_26i, ↓s_120_26p, ↓s_120_27, ↓s_120_28n, ↓s_120_28i, ↓s_120_28p, ↓g_120_29, ↓k_120_29, ↓s_120_30, ↓s_120_33, ↓s_120_36, ↓s_120_37, ↓s_120_40, ↓s_120_43, ↓s_120_46, ↓s_120_47, ↓s_120_50, ↓s_120_53, ↓s_120_96, ↓s_120_97, ↓s_120_100, ↓s_120_103, ↓s_120_104, ↓s_120_107, ↓s_120_110, ↓s_120_111, ↓s_120_114, ↓s_120_117, ↓s_120_118, ↓s_120_121, ↓s_120_124, ↓s_120_125, ↓s_120_128, ↓s_120_129, ↓s_120_130, ↓s_120_133, ↓s_120_136, ↓s_120_139_2, ↓s_120_139_28, ↓s_120_142, ↓s_120_143, ↓s_120_144, ↓s_120_147, ↓s_120_150, ↓s_120_151, ↓s_120_154, ↓s_120_155, ↓s_120_156, ↓s_120_159, ↓s_120_161, ↓s_120_164_2, ↓s_120_164_28, ↓s_120_167, ↓s_120_168, ↓s_120_169, ↓s_120_172, ↓s_120_175, ↓s_120_176, ↓s_120_179, ↓s_120_182, ↓s_120_183, ↓s_120_186, ↓s_120_187, ↓s_120_190a, ↓s_120_190b, ↓g_120_191, ↓k_120_191, ↓s_120_192, ↓s_120_193, ↓s_120_196, ↓s_120_199n, ↓s_120_199i, ↓s_120_199p, ↓s_120_202, ↓s_120_205, ↓s_120_206, ↓s_120_209, ↓s_120_210, ↓s_120_213a, ↓s_120_213b, ↓g_120_214n, ↓g_120_214i, ↓g_120_214p, ↓k_120_214, ↓s_120_217, ↓g_120_220, ↓k_120_220, ↓s_120_221, w32c_800, w32c_999, w32c_99999, zio_2, zio_54, zio_55, zio_28]
    refine fin4 (by omega) m1 (tlF_w hb F1 (by decide)) ⟨T1, fun l hl => ?_⟩
    cases x with
    | inl e => cases hl
    | inr l' => exact cDc_cf (h.2 l' rfl) F1
  · have go : ∀ m', aFrm cfF m m' → cTk ch n m' (yFl 1 x) → zG E (d + 1) xm_120 214 [some (1, 54), some (0, N), some (0, K), some (0, I)] [] m' Q := fun m' g1 g2 => by
      refine zgo_ok (n := 60) hE xmo_120 (cs := zc_120) ?_
      simp only [ynok_30, ynok_31, w32c_0, w32c_1, w32c_2, w32c_3, w32c_4, w32c_5, w32c_6, w32c_7, w32c_8, w32c_9, w32c_10, w32c_11, w32c_12, w32c_13, w32c_14, w32c_m1, w32c_m2, w32c_118, Int.reduceAdd, Int.reduceSub, Int.reduceMul, yput_s, yput_n, znl_n, znl_0, znl_1, znl_4, ysum_n, ysum_0, ysum_1, ysum_4, true_and, and_true, Nat.reduceAdd, Nat.reduceLeDiff, true_implies, eq_self, true_or, or_true, or_false, false_or, not_true_eq_false, not_false_eq_true, false_implies, implies_true, yset_s, yset_o, yset_d, ne_eq, Nat.reduceEqDiff, Int.reduceToNat, Int.reduceEq, Int.reduceLE, Int.reduceLT, Classical.not_not, Nat.reduceLT, ↓zvk_s, ↓zvk_n, ↓s_120_0, ↓s_120_1, ↓s_120_4, ↓s_120_7, ↓s_120_8, ↓s_120_9, ↓s_120_12, ↓s_120_13, ↓s_120_14, ↓s_120_17, ↓s_120_18, ↓s_120_21, ↓s_120_22, ↓s_120_25, ↓s_120_26n, ↓s_120_26i, ↓s_120_26p, ↓s_120_27, ↓s_120_28n, ↓s_120_28i, ↓s_120_28p, ↓g_120_29, ↓k_120_29, ↓s_120_30, ↓s_120_33, ↓s_120_36, ↓s_120_37, ↓s_120_40, ↓s_120_43, ↓s_120_46, ↓s_120_47, ↓s_120_50, ↓s_120_53, ↓s_120_96, ↓s_120_97, ↓s_120_100, ↓s_120_103, ↓s_120_104, ↓s_120_107, ↓s_120_110, ↓s_120_111, ↓s_120_114, ↓s_120_117, ↓s_120_118, ↓s_120_121, ↓s_120_124, ↓s_120_125, ↓s_120_128, ↓s_120_129, ↓s_120_130, ↓s_120_133, ↓s_120_136, ↓s_120_139_2, ↓s_120_139_28, ↓s_120_142, ↓s_120_143, ↓s_120_144, ↓s_120_147, ↓s_120_150, ↓s_120_151, ↓s_120_154, ↓s_120_155, ↓s_120_156, ↓s_120_159, ↓s_120_161, ↓s_120_164_2, ↓s_120_164_28, ↓s_120_167, ↓s_120_168, ↓s_120_169, ↓s_120_172, ↓s_120_175, ↓s_120_176, ↓s_120_179, ↓s_120_182, ↓s_120_183, ↓s_120_186, ↓s_120_187, ↓s_120_190a, ↓s_120_190b, ↓g_120_191, ↓k_120_191, ↓s_120_192, ↓s_120_193, ↓s_120_196, ↓s_120_199n, ↓s_120_199i, ↓s_120_199p, ↓s_120_202, ↓s_120_205, ↓s_120_206, ↓s_120_209, ↓s_120_210, ↓s_120_213a, ↓s_120_213b, ↓g_120_214n, ↓g_120_214i, ↓g_120_214p, ↓k_120_214, ↓s_120_217, ↓g_120_220, ↓k_120_220, ↓s_120_221, w32c_800, w32c_999, w32c_99999, zio_2, zio_54, zio_55, zio_28]
      refine fin1 (by omega) m' (tlF_w hb g1 (by decide)) ⟨g2, fun l hl => ?_⟩
      obtain ⟨e, he⟩ := yFl_inl 1 x
      rw [he] at hl
      cases hl
    exact ⟨fun hz => go _ (g_fl1 (f := 1) T hz).1 (g_fl1 T hz).2, fun hz => go _ (g_fl0 (f := 1) T (by decide) (by decide) hz).1 (g_fl0 T (by decide) (by decide) hz).2⟩
theorem ySz_1 {x : sY} (h : yKd x ≠ 0) : 1 ≤ ySz x := by
  have := ySz_nl h
  omega
theorem gxl (hE : yEok E) (hd : 12 ≤ d) : ∀ (f : Nat) (x : sY) (D : dDc) (m : yMem) (k K I : Int), ySz x < f → tlF' b m → cAt ch n m x D → w32 K = k → 0 ≤ k → k ≤ w32 I → w32 I ≤ 801 → (yKd x ≠ 0 → w32 I + (ySz x : Int) ≤ 801) → (∀ m' r, tlF' b m' → cAt ch n m' (pTx f x D k).1 (pTx f x D k).2.1 → w32 r = (pTx f x D k).2.2 → Q (some (0, r)) m') → zG E (d + 1) xm_120 29 [some (1, 54), some (0, N), some (0, K), some (0, I)] [] m Q := by
  intro f
  induction f with
  | zero => intro x D m k K I h; exact absurd h (Nat.not_lt_zero _)
  | succ f ih =>
    intro x D m k K I hf hb h hK k0 kI hI hS fin
    by_cases hk : yKd x = 0
    · have ep : pTx (f + 1) x D k = (x, D, k) := by show (if _ then _ else _) = _; rw [if_pos hk]
      rw [ep] at fin
      have ex : zG E (d + 1) xm_120 220 [some (1, 54), some (0, N), some (0, K), some (0, I)] [] m Q := by
        refine zgo_ok (n := 60) hE xmo_120 (cs := zc_120) ?_
        simp only [ynok_30, ynok_31, w32c_0, w32c_1, w32c_2, w32c_3, w32c_4, w32c_5, w32c_6, w32c_7, w32c_8, w32c_9, w32c_10, w32c_11, w32c_12, w32c_13, w32c_14, w32c_m1, w32c_m2, w32c_118, Int.reduceAdd, Int.reduceSub, Int.reduceMul, yput_s, yput_n, znl_n, znl_0, znl_1, znl_4, ysum_n, ysum_0, ysum_1, ysum_4, true_and, and_true, Nat.reduceAdd, Nat.reduceLeDiff, true_implies, eq_self, true_or, or_true, or_false, false_or, not_true_eq_false, not_false_eq_true, false_implies, implies_true, yset_s, yset_o, yset_d, ne_eq, Nat.reduceEqDiff, Int.reduceToNat, Int.reduceEq, Int.reduceLE, Int.reduceLT, Classical.not_not, Nat.reduceLT, ↓zvk_s, ↓zvk_n, ↓s_120_0, ↓s_120_1, ↓s_120_4, ↓s_120_7, ↓s_120_8, ↓s_120_9, ↓s_120_12, ↓s_120_13, ↓s_120_14, ↓s_120_17, ↓s_120_18, ↓s_120_21, ↓s_120_22, ↓s_120_25, ↓s_120_26n, ↓s_120_26i, ↓s_120_26p, ↓s_120_27, ↓s_120_28n, ↓s_120_28i, ↓s_120_28p, ↓g_120_29, ↓k_120_29, ↓s_120_30, ↓s_120_33, ↓s_120_36, ↓s_120_37, ↓s_120_40, ↓s_120_43, ↓s_120_46, ↓s_120_47, ↓s_120_50, ↓s_120_53, ↓s_120_96, ↓s_120_97, ↓s_120_100, ↓s_120_103, ↓s_120_104, ↓s_120_107, ↓s_120_110, ↓s_120_111, ↓s_120_114, ↓s_120_117, ↓s_120_118, ↓s_120_121, ↓s_120_124, ↓s_120_125, ↓s_120_128, ↓s_120_129, ↓s_120_130, ↓s_120_133, ↓s_120_136, ↓s_120_139_2, ↓s_120_139_28, ↓s_120_142, ↓s_120_143, ↓s_120_144, ↓s_120_147, ↓s_120_150, ↓s_120_151, ↓s_120_154, ↓s_120_155, ↓s_120_156, ↓s_120_159, ↓s_120_161, ↓s_120_164_2, ↓s_120_164_28, ↓s_120_167, ↓s_120_168, ↓s_120_169, ↓s_120_172, ↓s_120_175, ↓s_120_176, ↓s_120_179, ↓s_120_182, ↓s_120_183, ↓s_120_186, ↓s_120_187, ↓s_120_190a, ↓s_120_190b, ↓g_120_191, ↓k_120_191, ↓s_120_192, ↓s_120_193, ↓s_120_196, ↓s_120_199n, ↓s_120_199i, ↓s_120_199p, ↓s_120_202, ↓s_120_205, ↓s_120_206, ↓s_120_209, ↓s_120_210, ↓s_120_213a, ↓s_120_213b, ↓g_120_214n, ↓g_120_214i, ↓g_120_214p, ↓k_120_214, ↓s_120_217, ↓g_120_220, ↓k_120_220, ↓s_120_221, w32c_800, w32c_999, w32c_99999, zio_2, zio_54, zio_55, zio_28]
        exact fin m K hb h hK
      refine zgo_ok (n := 60) hE xmo_120 (cs := zc_120) ?_
      simp only [ynok_30, ynok_31, w32c_0, w32c_1, w32c_2, w32c_3, w32c_4, w32c_5, w32c_6, w32c_7, w32c_8, w32c_9, w32c_10, w32c_11, w32c_12, w32c_13, w32c_14, w32c_m1, w32c_m2, w32c_118, Int.reduceAdd, Int.reduceSub, Int.reduceMul, yput_s, yput_n, znl_n, znl_0, znl_1, znl_4, ysum_n, ysum_0, ysum_1, ysum_4, true_and, and_true, Nat.reduceAdd, Nat.reduceLeDiff, true_implies, eq_self, true_or, or_true, or_false, false_or, not_true_eq_false, not_false_eq_true, false_implies, implies_true, yset_s, yset_o, yset_d, ne_eq, Nat.reduceEqDiff, Int.reduceToNat, Int.reduceEq, Int.reduceLE, Int.reduceLT, Classical.not_not, Nat.reduceLT, ↓zvk_s, ↓zvk_n, ↓s_120_0, ↓s_120_1, ↓s_120_4, ↓s_120_7, ↓s_120_8, ↓s_120_9, ↓s_120_12, ↓s_120_13, ↓s_120_14, ↓s_120_17, ↓s_120_18, ↓s_120_21, ↓s_120_22, ↓s_120_25, ↓s_120_26n, ↓s_120_26i, ↓s_120_26p, ↓s_120_27, ↓s_120_28n, ↓s_120_28i, ↓s_120_28p, ↓g_120_29, ↓k_120_29, ↓s_120_30, ↓s_120_33, ↓s_120_36, ↓s_120_37, ↓s_120_40, ↓s_120_43, ↓s_120_46, ↓s_120_47, ↓s_120_50, ↓s_120_53, ↓s_120_96, ↓s_120_97, ↓s_120_100, ↓s_120_103, ↓s_120_104, ↓s_120_107, ↓s_120_110, ↓s_120_111, ↓s_120_114, ↓s_120_117, ↓s_120_118, ↓s_120_121, ↓s_120_124, ↓s_120_125, ↓s_120_128, ↓s_120_129, ↓s_120_130, ↓s_120_133, ↓s_120_136, ↓s_120_139_2, ↓s_120_139_28, ↓s_120_142, ↓s_120_143, ↓s_120_144, ↓s_120_147, ↓s_120_150, ↓s_120_151, ↓s_120_154, ↓s_120_155, ↓s_120_156, ↓s_120_159, ↓s_120_161, ↓s_120_164_2, ↓s_120_164_28, ↓s_120_167, ↓s_120_168, ↓s_120_169, ↓s_120_172, ↓s_120_175, ↓s_120_176, ↓s_120_179, ↓s_120_182, ↓s_120_183, ↓s_120_186, ↓s_120_187, ↓s_120_190a, ↓s_120_190b, ↓g_120_191, ↓k_120_191, ↓s_120_192, ↓s_120_193, ↓s_120_196, ↓s_120_199n, ↓s_120_199i, ↓s_120_199p, ↓s_120_202, ↓s_120_205, ↓s_120_206, ↓s_120_209, ↓s_120_210, ↓s_120_213a, ↓s_120_213b, ↓g_120_214n, ↓g_120_214i, ↓g_120_214p, ↓k_120_214, ↓s_120_217, ↓g_120_220, ↓k_120_220, ↓s_120_221, w32c_800, w32c_999, w32c_99999, ↓s_123_0, ↓s_123_1, ↓s_123_4, ↓s_123_7, ↓s_123_8, ↓s_123_9, ↓s_123_12, ↓s_123_13, ↓s_123_14, ↓s_123_17, ↓s_123_20, ↓s_123_21, ↓s_123_22, ↓s_123_25, ↓s_123_26, zio_2, zio_54, zio_55, zio_28]
      rw [cTk_kd h.1]
      exact ⟨fun _ => ex, fun _ => ⟨fun _ => ex, fun q => absurd (show ((yKd x : Nat) : Int) = 0 by omega) q⟩⟩
    · have h1 := ySz_1 hk
      have h2 := hS hk
      have h3 := ySz_line x D
      have e1 : w32 (I + 1) = w32 I + 1 := by rw [w32_ad (by rw [w32c_1]; omega) (by rw [w32c_1]; omega), w32c_1]
      have e2 : w32 (K + 1) = k + 1 := by rw [w32_ad (by rw [w32c_1]; omega) (by rw [w32c_1]; omega), w32c_1, hK]
      refine gx29 hE hd hb h hk (by omega) (fun m1 hb1 C1 => gx191 hE hd hb1 C1 (fun k4 m2 hb2 C2 => ?_) (fun k4 m2 hb2 C2 => ?_))
      · have ep : pTx (f + 1) x D k = pTx f (yNx (pLine x D).1) (pLine x D).2 (k + 1) := by show (if _ then _ else _) = _; rw [if_neg hk, if_pos k4]
        rw [ep] at fin
        have h4 := ySz_nl (x := (pLine x D).1) (by omega)
        exact ih _ _ m2 (k + 1) (K + 1) (I + 1) (by omega) hb2 C2 e2 (by omega) (by omega) (by omega) (fun _ => by omega) fin
      · have ep : pTx (f + 1) x D k = pTx f (yFl 1 (pLine x D).1) (pLine x D).2 k := by show (if _ then _ else _) = _; rw [if_neg hk, if_neg k4]
        rw [ep] at fin
        obtain ⟨e, he⟩ := yFl_inl 1 (pLine x D).1
        have hz : ySz (yFl 1 (pLine x D).1) = 0 := by rw [he]; rfl
        have hz2 : yKd (yFl 1 (pLine x D).1) = 0 := by rw [he]; rfl
        exact ih _ _ m2 k K (I + 1) (by omega) hb2 C2 hK (by omega) (by omega) (by omega) (fun q => absurd hz2 q) fin
end CW
end
section
theorem sTl_hd {ch : Nat → Int} {n a k p e : Nat} {v : Int} (ha : a ≤ n) (h : sTk ch n a k p v e) : ∃ l, sTl ch n l a ∧ sHd l = (k, p, v) ∧ sCu ch n l e := by
  obtain ⟨l, h1, _⟩ := sTl_ex ch n (n - a) a rfl ha
  obtain ⟨h2, h3⟩ := sTl_cu h1 h
  exact ⟨l, h1, h2, h3⟩
section CX
variable {E : yE} {mem b m : yMem} {Q : Option yV → yMem → Prop} {ch : Nat → Int} {n : Nat} {N : Int}
theorem g_start (hE : yEok E) {D : Nat} (hD : 6 ≤ D) (hB : cBy mem ch) (hW : cWd mem) (hN : w32 N = (n : Int)) (hn : n ≤ 800) (hQ : ∀ m l, aFrm [(55, 0)] mem m → sTl ch n l 0 → cTk ch n m (.inr l) → Q none m) : yCon E D xm_132 [(1, 55), (0, N)] mem Q := by
  obtain ⟨d, rfl⟩ := Nat.exists_eq_add_of_le' hD
  refine e_132 ?_
  refine zvc_ok hE 60 [] _ _ _ _ _ _ _ xmo_132 ?_
  simp only [ynok_30, ynok_31, w32c_0, w32c_1, w32c_2, w32c_3, w32c_4, w32c_5, w32c_6, w32c_7, w32c_8, w32c_9, w32c_10, w32c_11, w32c_12, w32c_13, w32c_14, w32c_m1, w32c_m2, w32c_118, Int.reduceAdd, Int.reduceSub, Int.reduceMul, yput_s, yput_n, znl_n, znl_0, znl_1, znl_4, ysum_n, ysum_0, ysum_1, ysum_4, true_and, and_true, Nat.reduceAdd, Nat.reduceLeDiff, true_implies, eq_self, true_or, or_true, or_false, false_or, not_true_eq_false, not_false_eq_true, false_implies, implies_true, yset_s, yset_o, yset_d, ne_eq, Nat.reduceEqDiff, Int.reduceToNat, Int.reduceEq, Int.reduceLE, Int.reduceLT, Classical.not_not, Nat.reduceLT, ↓zvk_s, ↓zvk_n, ↓s_132_0, ↓s_132_1, ↓s_132_2, ↓s_132_3, ↓s_132_6, ↓s_132_7, ↓s_132_10, ↓s_132_13, ↓s_132_14, ↓s_132_15, ↓s_132_18, ↓s_132_19, ↓s_132_20, ↓s_132_23, ↓s_132_24, ↓s_132_25, ↓s_132_28, ↓s_132_29, ↓s_132_32, zar_1, zia_1, zln_1, zit_1, zio_55]
  have ez : zmni N ((800 : Nat) : Int) = N := by
    unfold zmni
    rw [if_neg (by rw [show w32 ((800 : Nat) : Int) = 800 by decide]; omega)]
  rw [ez]
  have e2 : w32 (yset (yset (yset (yset mem 55 2 N) 55 3 0) 55 7 0) 55 8 (-1) 55 2) = (n : Int) := by rw [yset_d (by decide), yset_d (by decide), yset_d (by decide), yset_s]; exact hN
  have e3 : w32 (yset (yset (yset (yset mem 55 2 N) 55 3 0) 55 7 0) 55 8 (-1) 55 3) = 0 := by rw [yset_d (by decide), yset_d (by decide), yset_s]; exact w32c_0
  have e7 : w32 (yset (yset (yset (yset mem 55 2 N) 55 3 0) 55 7 0) 55 8 (-1) 55 7) = 0 := by rw [yset_d (by decide), yset_s]; exact w32c_0
  have e8 : w32 (yset (yset (yset (yset mem 55 2 N) 55 3 0) 55 7 0) 55 8 (-1) 55 8) = -1 := by rw [yset_s]; exact w32c_m1
  have F0 : aFrm [(55, 0)] mem (yset (yset (yset (yset mem 55 2 N) 55 3 0) 55 7 0) 55 8 (-1)) := aFrm_set (aFrm_set (aFrm_set (aFrm_set aFrm_rf rfl) rfl) rfl) rfl
  revert e2 e3 e7 e8 F0
  generalize yset (yset (yset (yset mem 55 2 N) 55 3 0) 55 7 0) 55 8 (-1) = m1
  intro e2 e3 e7 e8 F0
  have B1 : cBy m1 ch := fun j => by rw [F0 1 j rfl]; exact hB j
  have W1 : cWd m1 := fun i hi => by rw [F0 56 i rfl]; exact hW i hi
  refine f_next hE (by omega) (by omega) (by omega) (by omega) B1 W1 e7 (fun m2 k p v e F2 ht h3 h5 h4 h6 => ?_)
  refine zgk_n hE xmo_132 60 [] ?_
  simp only [ynok_30, ynok_31, w32c_0, w32c_1, w32c_2, w32c_3, w32c_4, w32c_5, w32c_6, w32c_7, w32c_8, w32c_9, w32c_10, w32c_11, w32c_12, w32c_13, w32c_14, w32c_m1, w32c_m2, w32c_118, Int.reduceAdd, Int.reduceSub, Int.reduceMul, yput_s, yput_n, znl_n, znl_0, znl_1, znl_4, ysum_n, ysum_0, ysum_1, ysum_4, true_and, and_true, Nat.reduceAdd, Nat.reduceLeDiff, true_implies, eq_self, true_or, or_true, or_false, false_or, not_true_eq_false, not_false_eq_true, false_implies, implies_true, yset_s, yset_o, yset_d, ne_eq, Nat.reduceEqDiff, Int.reduceToNat, Int.reduceEq, Int.reduceLE, Int.reduceLT, Classical.not_not, Nat.reduceLT, ↓zvk_s, ↓zvk_n, ↓s_132_0, ↓s_132_1, ↓s_132_2, ↓s_132_3, ↓s_132_6, ↓s_132_7, ↓s_132_10, ↓s_132_13, ↓s_132_14, ↓s_132_15, ↓s_132_18, ↓s_132_19, ↓s_132_20, ↓s_132_23, ↓s_132_24, ↓s_132_25, ↓s_132_28, ↓s_132_29, ↓s_132_32, zar_1, zia_1, zln_1, zit_1, zio_55]
  have ec : cen m1 = n := by show (w32 (m1 55 2)).toNat = n; rw [e2]; exact Int.toNat_natCast _
  have ea : cat m1 = 0 := by show (w32 (m1 55 3)).toNat = 0; rw [e3]; rfl
  rw [ec, ea] at ht
  obtain ⟨l, l1, l2, l3⟩ := sTl_hd (Nat.zero_le _) ht
  refine hQ m2 l (aFrm_tt F0 (aFrm_w F2 (by decide))) l1 ⟨by rw [F2 55 2 rfl]; exact e2, hn, fun j => by rw [F2 1 j rfl]; exact B1 j, fun i hi => by rw [F2 56 i rfl]; exact W1 i hi, by rw [F2 55 7 rfl]; exact e7, e, ⟨h3, by rw [F2 55 8 rfl]; exact e8⟩, l3, ?_, ?_, ?_⟩
  · rw [l2]; exact h5
  · rw [l2]; exact h4
  · rw [l2]; exact h6
end CX
end
