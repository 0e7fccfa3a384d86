theorem sTl_hd {ch : Nat → Int} {n a k p e : Nat} {v : Int} (ha : a ≤ n) (h : sTk ch n a k p v e) : ∃ l, sTl ch n l a ∧ sHd l = (k, p, v) ∧ sCu ch n l e := by
  obtain ⟨l, h1, _⟩ := sTl_ex ch n (n - a) a rfl ha
  obtain ⟨h2, h3⟩ := sTl_cu h1 h
  exact ⟨l, h1, h2, h3⟩
section CX
variable {E : yE} {mem b m : yMem} {Q : Option yV → yMem → Prop} {ch : Nat → Int} {n : Nat} {N : Int}
theorem g_start (hE : yEok E) {D : Nat} (hD : 6 ≤ D) (hB : cBy mem ch) (hW : cWd mem) (hN : w32 N = (n : Int)) (hn : n ≤ 800) (hQ : ∀ m l, aFrm [(55, 0)] mem m → sTl ch n l 0 → cTk ch n m (.inr l) → Q none m) : yCon E D xm_132 [(1, 55), (0, N)] mem Q := by
  obtain ⟨d, rfl⟩ := Nat.exists_eq_add_of_le' hD
  refine e_132 ?_
  refine zvc_ok hE 60 [] _ _ _ _ _ _ _ xmo_132 ?_
  simp only [ynok_30, ynok_31, w32c_0, w32c_1, w32c_2, w32c_3, w32c_4, w32c_5, w32c_6, w32c_7, w32c_8, w32c_9, w32c_10, w32c_11, w32c_12, w32c_13, w32c_14, w32c_m1, w32c_m2, w32c_118, Int.reduceAdd, Int.reduceSub, Int.reduceMul, yput_s, yput_n, znl_n, znl_0, znl_1, znl_4, ysum_n, ysum_0, ysum_1, ysum_4, true_and, and_true, Nat.reduceAdd, Nat.reduceLeDiff, true_implies, eq_self, true_or, or_true, or_false, false_or, not_true_eq_false, not_false_eq_true, false_implies, implies_true, yset_s, yset_o, yset_d, ne_eq, Nat.reduceEqDiff, Int.reduceToNat, Int.reduceEq, Int.reduceLE, Int.reduceLT, Classical.not_not, Nat.reduceLT, ↓zvk_s, ↓zvk_n, ↓s_132_0, ↓s_132_1, ↓s_132_2, ↓s_132_3, ↓s_132_6, ↓s_132_7, ↓s_132_10, ↓s_132_13, ↓s_132_14, ↓s_132_15, ↓s_132_18, ↓s_132_19, ↓s_132_20, ↓s_132_23, ↓s_132_24, ↓s_132_25, ↓s_132_28, ↓s_132_29, ↓s_132_32, zar_1, zia_1, zln_1, zit_1, zio_55]
  have ez : zmni N ((800 : Nat) : Int) = N := by
    unfold zmni
    rw [if_neg (by rw [show w32 ((800 : Nat) : Int) = 800 by decide]; omega)]
  rw [ez]
  have e2 : w32 (yset (yset (yset (yset mem 55 2 N) 55 3 0) 55 7 0) 55 8 (-1) 55 2) = (n : Int) := by rw [yset_d (by decide), yset_d (by decide), yset_d (by decide), yset_s]; exact hN
  have e3 : w32 (yset (yset (yset (yset mem 55 2 N) 55 3 0) 55 7 0) 55 8 (-1) 55 3) = 0 := by rw [yset_d (by decide), yset_d (by decide), yset_s]; exact w32c_0
  have e7 : w32 (yset (yset (yset (yset mem 55 2 N) 55 3 0) 55 7 0) 55 8 (-1) 55 7) = 0 := by rw [yset_d (by decide), yset_s]; exact w32c_0
  have e8 : w32 (yset (yset (yset (yset mem 55 2 N) 55 3 0) 55 7 0) 55 8 (-1) 55 8) = -1 := by rw [yset_s]; exact w32c_m1
  have F0 : aFrm [(55, 0)] mem (yset (yset (yset (yset mem 55 2 N) 55 3 0) 55 7 0) 55 8 (-1)) := aFrm_set (aFrm_set (aFrm_set (aFrm_set aFrm_rf rfl) rfl) rfl) rfl
  revert e2 e3 e7 e8 F0
  generalize yset (yset (yset (yset mem 55 2 N) 55 3 0) 55 7 0) 55 8 (-1) = m1
  intro e2 e3 e7 e8 F0
  have B1 : cBy m1 ch := fun j => by rw [F0 1 j rfl]; exact hB j
  have W1 : cWd m1 := fun i hi => by rw [F0 56 i rfl]; exact hW i hi
  refine f_next hE (by omega) (by omega) (by omega) (by omega) B1 W1 e7 (fun m2 k p v e F2 ht h3 h5 h4 h6 => ?_)
  refine zgk_n hE xmo_132 60 [] ?_
  simp only [ynok_30, ynok_31, w32c_0, w32c_1, w32c_2, w32c_3, w32c_4, w32c_5, w32c_6, w32c_7, w32c_8, w32c_9, w32c_10, w32c_11, w32c_12, w32c_13, w32c_14, w32c_m1, w32c_m2, w32c_118, Int.reduceAdd, Int.reduceSub, Int.reduceMul, yput_s, yput_n, znl_n, znl_0, znl_1, znl_4, ysum_n, ysum_0, ysum_1, ysum_4, true_and, and_true, Nat.reduceAdd, Nat.reduceLeDiff, true_implies, eq_self, true_or, or_true, or_false, false_or, not_true_eq_false, not_false_eq_true, false_implies, implies_true, yset_s, yset_o, yset_d, ne_eq, Nat.reduceEqDiff, Int.reduceToNat, Int.reduceEq, Int.reduceLE, Int.reduceLT, Classical.not_not, Nat.reduceLT, ↓zvk_s, ↓zvk_n, ↓s_132_0, ↓s_132_1, ↓s_132_2, ↓s_132_3, ↓s_132_6, ↓s_132_7, ↓s_132_10, ↓s_132_13, ↓s_132_14, ↓s_132_15, ↓s_132_18, ↓s_132_19, ↓s_132_20, ↓s_132_23, ↓s_132_24, ↓s_132_25, ↓s_132_28, ↓s_132_29, ↓s_132_32, zar_1, zia_1, zln_1, zit_1, zio_55]
  have ec : cen m1 = n := by show (w32 (m1 55 2)).toNat = n; rw [e2]; exact Int.toNat_natCast _
  have ea : cat m1 = 0 := by show (w32 (m1 55 3)).toNat = 0; rw [e3]; rfl
  rw [ec, ea] at ht
  obtain ⟨l, l1, l2, l3⟩ := sTl_hd (Nat.zero_le _) ht
  refine hQ m2 l (aFrm_tt F0 (aFrm_w F2 (by decide))) l1 ⟨by rw [F2 55 2 rfl]; exact e2, hn, fun j => by rw [F2 1 j rfl]; exact B1 j, fun i hi => by rw [F2 56 i rfl]; exact W1 i hi, by rw [F2 55 7 rfl]; exact e7, e, ⟨h3, by rw [F2 55 8 rfl]; exact e8⟩, l3, ?_, ?_, ?_⟩
  · rw [l2]; exact h5
  · rw [l2]; exact h4
  · rw [l2]; exact h6
end CX
