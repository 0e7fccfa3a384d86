section RB
variable {E : yE} {mem : yMem} {Q : Option yV → yMem → Prop} {d : Nat}
theorem rfd3 (hE : yEok E) {z : Int} {L off : Nat} {a M v : Int} {many : Nat} (hL : zar z 0 = L) (ha : w32 a = (off : Int)) (hm : w32 M = (many : Int)) (hLm : off + many ≤ L) (hL2 : L < 1000) : ∀ (c i : Nat) (I : Int), w32 I = (i : Int) → i + c = many → (∀ r, w32 r = sFd (fun j => w32 (mem z.toNat (off + j))) (w32 v) c i → Q (some (0, r)) mem) → zG E d xm_168 3 [some (1, z), some (0, a), some (0, M), some (0, v), some (0, I)] [] mem Q := by
  intro c
  induction c with
  | zero =>
    intro i I hI hc hQ
    refine zgo_ok (n := 60) hE xmo_168 (cs := zc_168) ?_
    simp only [ynok_30, ynok_31, w32c_0, w32c_1, w32c_2, w32c_3, w32c_4, w32c_5, w32c_6, w32c_7, w32c_8, w32c_9, w32c_10, w32c_11, w32c_12, w32c_13, w32c_14, w32c_m1, w32c_m2, w32c_118, Int.reduceAdd, Int.reduceSub, Int.reduceMul, yput_s, yput_n, znl_n, znl_0, znl_1, znl_4, ysum_n, ysum_0, ysum_1, ysum_4, true_and, and_true, Nat.reduceAdd, Nat.reduceLeDiff, true_implies, eq_self, true_or, or_true, or_false, false_or, not_true_eq_false, not_false_eq_true, false_implies, implies_true, yset_s, yset_o, yset_d, ne_eq, Nat.reduceEqDiff, Int.reduceToNat, Int.reduceEq, Int.reduceLE, Int.reduceLT, Classical.not_not, Nat.reduceLT, ↓zvk_s, ↓zvk_n, ↓s_168_0, ↓s_168_1n, ↓s_168_1i, ↓s_168_1p, ↓g_168_3, ↓k_168_3, ↓s_168_5, ↓s_168_6, ↓s_168_9, ↓s_168_10, ↓s_168_11, ↓s_168_13, ↓s_168_14, ↓s_168_15, ↓s_168_16, ↓s_168_19, ↓s_168_21, ↓s_168_22n, ↓s_168_22i, ↓s_168_22p, ↓s_168_25, ↓s_168_28, ↓s_168_29]
    have hM : w32 M ≤ w32 I := by omega
    exact ⟨fun _ => hQ (-1) w32c_m1, fun h => absurd hM h⟩
  | succ c ih =>
    intro i I hI hc hQ
    refine zgo_ok (n := 60) hE xmo_168 (cs := zc_168) ?_
    simp only [ynok_30, ynok_31, w32c_0, w32c_1, w32c_2, w32c_3, w32c_4, w32c_5, w32c_6, w32c_7, w32c_8, w32c_9, w32c_10, w32c_11, w32c_12, w32c_13, w32c_14, w32c_m1, w32c_m2, w32c_118, Int.reduceAdd, Int.reduceSub, Int.reduceMul, yput_s, yput_n, znl_n, znl_0, znl_1, znl_4, ysum_n, ysum_0, ysum_1, ysum_4, true_and, and_true, Nat.reduceAdd, Nat.reduceLeDiff, true_implies, eq_self, true_or, or_true, or_false, false_or, not_true_eq_false, not_false_eq_true, false_implies, implies_true, yset_s, yset_o, yset_d, ne_eq, Nat.reduceEqDiff, Int.reduceToNat, Int.reduceEq, Int.reduceLE, Int.reduceLT, Classical.not_not, Nat.reduceLT, ↓zvk_s, ↓zvk_n, ↓s_168_0, ↓s_168_1n, ↓s_168_1i, ↓s_168_1p, ↓g_168_3, ↓k_168_3, ↓s_168_5, ↓s_168_6, ↓s_168_9, ↓s_168_10, ↓s_168_11, ↓s_168_13, ↓s_168_14, ↓s_168_15, ↓s_168_16, ↓s_168_19, ↓s_168_21, ↓s_168_22n, ↓s_168_22i, ↓s_168_22p, ↓s_168_25, ↓s_168_28, ↓s_168_29]
    have e1 : w32 (I + 1) = ((i + 1 : Nat) : Int) := by rw [w32_ad (by rw [w32c_1]; omega) (by rw [w32c_1]; omega), w32c_1]; omega
    have e2 : w32 (a + I) = ((off + i : Nat) : Int) := by rw [w32_ad (by omega) (by omega)]; omega
    have e3 : (w32 (a + I)).toNat = off + i := by rw [e2]; exact Int.toNat_natCast _
    rw [hL, e3, e2]
    refine ⟨fun h => absurd h (by omega), fun _ => ⟨⟨by omega, by omega⟩, fun hn => ?_, fun he => ?_⟩⟩
    · refine ih (i + 1) (I + 1) e1 (by omega) (fun r hr => hQ r ?_)
      rw [hr]
      simp only [sFd]
      rw [if_neg hn]
    · refine hQ I ?_
      simp only [sFd]
      rw [if_pos he]
      exact hI
theorem rf_found (hE : yEok E) {D : Nat} (hD : 1 ≤ D) {z : Int} {L off : Nat} {a M v : Int} {many : Nat} (hL : zar z 0 = L) (ha : w32 a = (off : Int)) (hm : w32 M = (many : Int)) (hLm : off + many ≤ L) (hL2 : L < 1000) (hQ : ∀ r, w32 r = sFd (fun j => w32 (mem z.toNat (off + j))) (w32 v) many 0 → Q (some (0, r)) mem) : yCon E D xm_168 [(1, z), (0, a), (0, M), (0, v)] mem Q := by
  obtain ⟨d, rfl⟩ := Nat.exists_eq_add_of_le' hD
  refine e_168 ?_
  refine zvc_ok hE 60 zc_168 _ _ _ _ _ _ _ xmo_168 ?_
  simp only [ynok_30, ynok_31, w32c_0, w32c_1, w32c_2, w32c_3, w32c_4, w32c_5, w32c_6, w32c_7, w32c_8, w32c_9, w32c_10, w32c_11, w32c_12, w32c_13, w32c_14, w32c_m1, w32c_m2, w32c_118, Int.reduceAdd, Int.reduceSub, Int.reduceMul, yput_s, yput_n, znl_n, znl_0, znl_1, znl_4, ysum_n, ysum_0, ysum_1, ysum_4, true_and, and_true, Nat.reduceAdd, Nat.reduceLeDiff, true_implies, eq_self, true_or, or_true, or_false, false_or, not_true_eq_false, not_false_eq_true, false_implies, implies_true, yset_s, yset_o, yset_d, ne_eq, Nat.reduceEqDiff, Int.reduceToNat, Int.reduceEq, Int.reduceLE, Int.reduceLT, Classical.not_not, Nat.reduceLT, ↓zvk_s, ↓zvk_n, ↓s_168_0, ↓s_168_1n, ↓s_168_1i, ↓s_168_1p, ↓g_168_3, ↓k_168_3, ↓s_168_5, ↓s_168_6, ↓s_168_9, ↓s_168_10, ↓s_168_11, ↓s_168_13, ↓s_168_14, ↓s_168_15, ↓s_168_16, ↓s_168_19, ↓s_168_21, ↓s_168_22n, ↓s_168_22i, ↓s_168_22p, ↓s_168_25, ↓s_168_28, ↓s_168_29]
  exact rfd3 hE hL ha hm hLm hL2 many 0 0 w32c_0 (by omega) hQ
/-- the draft's names in the reference: q its row in number, off where its half begins -/
def rNm (mem : yMem) (z q off : Nat) (nm : List Int) : Prop := w32 (mem 97 (7 + q)) = (nm.length : Int) ∧ nm.length ≤ off ∧ ∀ j, j < nm.length → w32 (mem z (off + j)) = nm.getD j 0
theorem rNm_fd {mem : yMem} {z q off : Nat} {nm : List Int} (h : rNm mem z q off nm) (v : Int) : sFd (fun j => w32 (mem z (off + j))) v nm.length 0 = sFd (fun j => nm.getD j 0) v nm.length 0 := sFd_ext _ _ (fun j _ j2 => h.2.2 j (by omega))
end RB
section RC
variable {E : yE} {mem : yMem} {Q : Option yV → yMem → Prop} {ch : Nat → Int} {n : Nat} {x : sY}
theorem sRk_3 {so va v : Int} {k : Nat} (h : sRk so va k v) : (so = 1 ↔ k = 3) ∧ (k = 3 → va = v) := by
  unfold sRk at h
  omega
theorem rTk_rk {l : List sT} (h : rTk ch n mem (.inr l)) : sRk (w32 (mem 95 29)) (w32 (mem 95 30)) (sHd l).1 (sHd l).2.2 := by
  obtain ⟨_, _, _, _, e, _, _, _, b5⟩ := h
  exact b5
theorem rf_wr {l : List sT} {f : Nat} {F : Int} (h : rTk ch n mem (.inr l)) (h1 : w32 F = ((f : Nat) : Int)) (h2 : f ≠ 0) : aFrm rnF mem (yset (yset mem 95 31 F) 95 32 (mem 95 28)) ∧ rTk ch n (yset (yset mem 95 31 F) 95 32 (mem 95 28)) (yFl f (.inr l)) := ⟨aFrm_set (aFrm_set aFrm_rf rfl) rfl, rf_wr0 h h1 h2 h.2.2.2.1⟩
/-- a fresh name: behind the LINE's word -/
def yFr (nm : List Int) (x : sY) : sY := if ¬ yKd x = 3 then yFl 1 x else if ¬ sFd (fun j => nm.getD j 0) (yVl x) nm.length 0 = -1 then yFl 3 x else yNx x
theorem rf_fresh (hE : yEok E) {D : Nat} (hD : 9 ≤ D) {z : Int} {L q off : Nat} {a M : Int} {nm : List Int} (hL : zar z 0 = L) (ha : w32 a = (off : Int)) (hm : w32 M = (nm.length : Int)) (hLm : off + off ≤ L) (hL2 : L < 1000) (hN : rNm mem z.toNat q off nm) (h : rTk ch n mem x) (hQ : ∀ r m, aFrm rnF mem m → rTk ch n m (yFr nm x) → (∀ l, yFr nm x = .inr l → w32 r = yVl x) → Q (some (0, r)) m) : yCon E D xm_169 [(1, 95), (1, z), (0, a), (0, M)] mem Q := by
  obtain ⟨d, rfl⟩ := Nat.exists_eq_add_of_le' hD
  refine e_169 ?_
  refine zvc_ok hE 60 [] _ _ _ _ _ _ _ xmo_169 ?_
  cases x with
  | inl e =>
    have hz : ¬ w32 (mem 95 31) = 0 := by have := h.2.2.2.1; have := h.2.2.2.2.1; omega
    simp only [ynok_30, ynok_31, w32c_0, w32c_1, w32c_2, w32c_3, w32c_4, w32c_5, w32c_6, w32c_7, w32c_8, w32c_9, w32c_10, w32c_11, w32c_12, w32c_13, w32c_14, w32c_m1, w32c_m2, w32c_118, Int.reduceAdd, Int.reduceSub, Int.reduceMul, yput_s, yput_n, znl_n, znl_0, znl_1, znl_4, ysum_n, ysum_0, ysum_1, ysum_4, true_and, and_true, Nat.reduceAdd, Nat.reduceLeDiff, true_implies, eq_self, true_or, or_true, or_false, false_or, not_true_eq_false, not_false_eq_true, false_implies, implies_true, yset_s, yset_o, yset_d, ne_eq, Nat.reduceEqDiff, Int.reduceToNat, Int.reduceEq, Int.reduceLE, Int.reduceLT, Classical.not_not, Nat.reduceLT, ↓zvk_s, ↓zvk_n, ↓s_169_0, ↓s_169_1, ↓s_169_4, ↓s_169_7, ↓s_169_8, ↓s_169_9, ↓s_169_10, ↓s_169_13, ↓s_169_14, ↓s_169_17, ↓s_169_18, ↓s_169_19, ↓s_169_22, ↓s_169_25, ↓s_169_26, ↓s_169_27, ↓s_169_28, ↓s_169_29, ↓s_169_32, ↓s_169_35, ↓s_169_36, ↓s_169_39, ↓s_169_40, ↓s_169_41, ↓s_169_44, ↓s_169_45, ↓s_169_48, ↓s_169_51, ↓s_169_52, ↓s_169_53, ↓s_169_54, ↓s_169_57n, ↓s_169_57i, ↓s_169_57p, ↓s_169_59, ↓s_169_60, ↓s_169_63, ↓s_169_65, ↓s_254_0, ↓s_254_1, ↓s_254_4, ↓s_254_7, ↓s_254_8, ↓s_254_9, ↓s_254_10, ↓s_254_13, ↓s_254_14, ↓s_254_15, ↓s_254_18, ↓s_254_21, zio_95, hz]
    exact hQ 0 mem aFrm_rf h (fun l hl => by cases hl)
  | inr l =>
    have hz : w32 (mem 95 31) = 0 := h.2.2.2.1
    simp only [ynok_30, ynok_31, w32c_0, w32c_1, w32c_2, w32c_3, w32c_4, w32c_5, w32c_6, w32c_7, w32c_8, w32c_9, w32c_10, w32c_11, w32c_12, w32c_13, w32c_14, w32c_m1, w32c_m2, w32c_118, Int.reduceAdd, Int.reduceSub, Int.reduceMul, yput_s, yput_n, znl_n, znl_0, znl_1, znl_4, ysum_n, ysum_0, ysum_1, ysum_4, true_and, and_true, Nat.reduceAdd, Nat.reduceLeDiff, true_implies, eq_self, true_or, or_true, or_false, false_or, not_true_eq_false, not_false_eq_true, false_implies, implies_true, yset_s, yset_o, yset_d, ne_eq, Nat.reduceEqDiff, Int.reduceToNat, Int.reduceEq, Int.reduceLE, Int.reduceLT, Classical.not_not, Nat.reduceLT, ↓zvk_s, ↓zvk_n, ↓s_169_0, ↓s_169_1, ↓s_169_4, ↓s_169_7, ↓s_169_8, ↓s_169_9, ↓s_169_10, ↓s_169_13, ↓s_169_14, ↓s_169_17, ↓s_169_18, ↓s_169_19, ↓s_169_22, ↓s_169_25, ↓s_169_26, ↓s_169_27, ↓s_169_28, ↓s_169_29, ↓s_169_32, ↓s_169_35, ↓s_169_36, ↓s_169_39, ↓s_169_40, ↓s_169_41, ↓s_169_44, ↓s_169_45, ↓s_169_48, ↓s_169_51, ↓s_169_52, ↓s_169_53, ↓s_169_54, ↓s_169_57n, ↓s_169_57i, ↓s_169_57p, ↓s_169_59, ↓s_169_60, ↓s_169_63, ↓s_169_65, ↓s_254_0, ↓s_254_1, ↓s_254_4, ↓s_254_7, ↓s_254_8, ↓s_254_9, ↓s_254_10, ↓s_254_13, ↓s_254_14, ↓s_254_15, ↓s_254_18, ↓s_254_21, zio_95, hz]
    obtain ⟨k3, kv⟩ := sRk_3 (rTk_rk h)
    refine ⟨fun q1 => ?_, fun q1 => ?_⟩
    · have q3 : (sHd l).1 = 3 := k3.mp q1
      refine rf_found hE (by omega) hL ha hm (by have := hN.2.1; omega) hL2 (fun r hr => ?_)
      rw [rNm_fd hN, kv q3] at hr
      refine zgk_s hE xmo_169 60 [] ?_
      simp only [ynok_30, ynok_31, w32c_0, w32c_1, w32c_2, w32c_3, w32c_4, w32c_5, w32c_6, w32c_7, w32c_8, w32c_9, w32c_10, w32c_11, w32c_12, w32c_13, w32c_14, w32c_m1, w32c_m2, w32c_118, Int.reduceAdd, Int.reduceSub, Int.reduceMul, yput_s, yput_n, znl_n, znl_0, znl_1, znl_4, ysum_n, ysum_0, ysum_1, ysum_4, true_and, and_true, Nat.reduceAdd, Nat.reduceLeDiff, true_implies, eq_self, true_or, or_true, or_false, false_or, not_true_eq_false, not_false_eq_true, false_implies, implies_true, yset_s, yset_o, yset_d, ne_eq, Nat.reduceEqDiff, Int.reduceToNat, Int.reduceEq, Int.reduceLE, Int.reduceLT, Classical.not_not, Nat.reduceLT, ↓zvk_s, ↓zvk_n, ↓s_169_0, ↓s_169_1, ↓s_169_4, ↓s_169_7, ↓s_169_8, ↓s_169_9, ↓s_169_10, ↓s_169_13, ↓s_169_14, ↓s_169_17, ↓s_169_18, ↓s_169_19, ↓s_169_22, ↓s_169_25, ↓s_169_26, ↓s_169_27, ↓s_169_28, ↓s_169_29, ↓s_169_32, ↓s_169_35, ↓s_169_36, ↓s_169_39, ↓s_169_40, ↓s_169_41, ↓s_169_44, ↓s_169_45, ↓s_169_48, ↓s_169_51, ↓s_169_52, ↓s_169_53, ↓s_169_54, ↓s_169_57n, ↓s_169_57i, ↓s_169_57p, ↓s_169_59, ↓s_169_60, ↓s_169_63, ↓s_169_65, ↓s_254_0, ↓s_254_1, ↓s_254_4, ↓s_254_7, ↓s_254_8, ↓s_254_9, ↓s_254_10, ↓s_254_13, ↓s_254_14, ↓s_254_15, ↓s_254_18, ↓s_254_21, zio_95, hz]
      rw [hr]
      refine ⟨fun e => ?_, fun e => ?_⟩
      · have ep : yFr nm (.inr l) = yNx (.inr l) := by unfold yFr; rw [if_neg (fun z => z q3), if_neg (fun z => z e)]
        rw [ep] at hQ
        refine rf_token hE (by omega) h (fun m F T => ?_)
        refine zgk_n hE xmo_169 60 [] ?_
        simp only [ynok_30, ynok_31, w32c_0, w32c_1, w32c_2, w32c_3, w32c_4, w32c_5, w32c_6, w32c_7, w32c_8, w32c_9, w32c_10, w32c_11, w32c_12, w32c_13, w32c_14, w32c_m1, w32c_m2, w32c_118, Int.reduceAdd, Int.reduceSub, Int.reduceMul, yput_s, yput_n, znl_n, znl_0, znl_1, znl_4, ysum_n, ysum_0, ysum_1, ysum_4, true_and, and_true, Nat.reduceAdd, Nat.reduceLeDiff, true_implies, eq_self, true_or, or_true, or_false, false_or, not_true_eq_false, not_false_eq_true, false_implies, implies_true, yset_s, yset_o, yset_d, ne_eq, Nat.reduceEqDiff, Int.reduceToNat, Int.reduceEq, Int.reduceLE, Int.reduceLT, Classical.not_not, Nat.reduceLT, ↓zvk_s, ↓zvk_n, ↓s_169_0, ↓s_169_1, ↓s_169_4, ↓s_169_7, ↓s_169_8, ↓s_169_9, ↓s_169_10, ↓s_169_13, ↓s_169_14, ↓s_169_17, ↓s_169_18, ↓s_169_19, ↓s_169_22, ↓s_169_25, ↓s_169_26, ↓s_169_27, ↓s_169_28, ↓s_169_29, ↓s_169_32, ↓s_169_35, ↓s_169_36, ↓s_169_39, ↓s_169_40, ↓s_169_41, ↓s_169_44, ↓s_169_45, ↓s_169_48, ↓s_169_51, ↓s_169_52, ↓s_169_53, ↓s_169_54, ↓s_169_57n, ↓s_169_57i, ↓s_169_57p, ↓s_169_59, ↓s_169_60, ↓s_169_63, ↓s_169_65, ↓s_254_0, ↓s_254_1, ↓s_254_4, ↓s_254_7, ↓s_254_8, ↓s_254_9, ↓s_254_10, ↓s_254_13, ↓s_254_14, ↓s_254_15, ↓s_254_18, ↓s_254_21, zio_95]
        exact hQ _ m (aFrm_w F (by decide)) T (fun _ _ => kv q3)
      · have ep : yFr nm (.inr l) = yFl 3 (.inr l) := by unfold yFr; rw [if_neg (fun z => z q3), if_pos (show ¬ sFd (fun j => nm.getD j 0) (yVl (.inr l)) nm.length 0 = -1 from e)]
        rw [ep] at hQ
        exact hQ 0 _ (rf_wr (f := 3) h (by decide) (by decide)).1 (rf_wr h (by decide) (by decide)).2 (fun l hl => by cases hl)
    · have q3 : ¬ (sHd l).1 = 3 := fun z => q1 (k3.mpr z)
      have ep : yFr nm (.inr l) = yFl 1 (.inr l) := by unfold yFr; rw [if_pos (show ¬ yKd (.inr l) = 3 from q3)]
      rw [ep] at hQ
      exact hQ 0 _ (rf_wr (f := 1) h (by decide) (by decide)).1 (rf_wr h (by decide) (by decide)).2 (fun l hl => by cases hl)
theorem rf_tavern (hE : yEok E) {D : Nat} (hD : 9 ≤ D) {nm : List Int} (hN : rNm mem 98 0 3 nm) (h : rTk ch n mem x) (hQ : ∀ r m, aFrm rnF mem m → rTk ch n m (yTt nm x).2 → (∀ l, (yTt nm x).2 = .inr l → w32 r = (yTt nm x).1) → Q (some (0, r)) m) : yCon E D xm_241 [(1, 95)] mem Q := by
  obtain ⟨d, rfl⟩ := Nat.exists_eq_add_of_le' hD
  refine e_241 ?_
  refine zvc_ok hE 60 [] _ _ _ _ _ _ _ xmo_241 ?_
  cases x with
  | inl e =>
    have hz : ¬ w32 (mem 95 31) = 0 := by have := h.2.2.2.1; have := h.2.2.2.2.1; omega
    simp only [ynok_30, ynok_31, w32c_0, w32c_1, w32c_2, w32c_3, w32c_4, w32c_5, w32c_6, w32c_7, w32c_8, w32c_9, w32c_10, w32c_11, w32c_12, w32c_13, w32c_14, w32c_m1, w32c_m2, w32c_118, Int.reduceAdd, Int.reduceSub, Int.reduceMul, yput_s, yput_n, znl_n, znl_0, znl_1, znl_4, ysum_n, ysum_0, ysum_1, ysum_4, true_and, and_true, Nat.reduceAdd, Nat.reduceLeDiff, true_implies, eq_self, true_or, or_true, or_false, false_or, not_true_eq_false, not_false_eq_true, false_implies, implies_true, yset_s, yset_o, yset_d, ne_eq, Nat.reduceEqDiff, Int.reduceToNat, Int.reduceEq, Int.reduceLE, Int.reduceLT, Classical.not_not, Nat.reduceLT, ↓zvk_s, ↓zvk_n, ↓s_241_0, ↓s_241_1, ↓s_241_4, ↓s_241_7, ↓s_241_8, ↓s_241_9, ↓s_241_10, ↓s_241_13, ↓s_241_14, ↓s_241_15, ↓s_241_16, ↓s_241_19, ↓s_241_20, ↓s_241_23, ↓s_241_26n, ↓s_241_26i, ↓s_241_26p, ↓s_241_27, ↓s_241_28, ↓s_241_31, ↓s_241_32, ↓s_241_35, ↓s_241_36, ↓s_241_37, ↓s_241_40, ↓s_241_43, ↓s_241_44, ↓s_241_45, ↓s_241_48, ↓s_241_49, ↓s_241_50, ↓s_241_53, ↓s_241_54, ↓s_241_57, ↓s_241_58, ↓s_170_0, ↓s_170_1, ↓s_170_4, ↓s_170_6, ↓s_170_7, ↓s_170_8, ↓s_170_9, ↓s_173_0, ↓s_173_1, ↓s_173_4, ↓s_173_7, ↓s_173_8, ↓s_173_11, ↓s_254_0, ↓s_254_1, ↓s_254_4, ↓s_254_7, ↓s_254_8, ↓s_254_9, ↓s_254_10, ↓s_254_13, ↓s_254_14, ↓s_254_15, ↓s_254_18, ↓s_254_21, zar_97, zia_97, zln_97, zit_97, zar_98, zia_98, zln_98, zit_98, zio_95, hz]
    exact hQ 0 mem aFrm_rf h (fun l hl => by cases hl)
  | inr l =>
    have hz : w32 (mem 95 31) = 0 := h.2.2.2.1
    simp only [ynok_30, ynok_31, w32c_0, w32c_1, w32c_2, w32c_3, w32c_4, w32c_5, w32c_6, w32c_7, w32c_8, w32c_9, w32c_10, w32c_11, w32c_12, w32c_13, w32c_14, w32c_m1, w32c_m2, w32c_118, Int.reduceAdd, Int.reduceSub, Int.reduceMul, yput_s, yput_n, znl_n, znl_0, znl_1, znl_4, ysum_n, ysum_0, ysum_1, ysum_4, true_and, and_true, Nat.reduceAdd, Nat.reduceLeDiff, true_implies, eq_self, true_or, or_true, or_false, false_or, not_true_eq_false, not_false_eq_true, false_implies, implies_true, yset_s, yset_o, yset_d, ne_eq, Nat.reduceEqDiff, Int.reduceToNat, Int.reduceEq, Int.reduceLE, Int.reduceLT, Classical.not_not, Nat.reduceLT, ↓zvk_s, ↓zvk_n, ↓s_241_0, ↓s_241_1, ↓s_241_4, ↓s_241_7, ↓s_241_8, ↓s_241_9, ↓s_241_10, ↓s_241_13, ↓s_241_14, ↓s_241_15, ↓s_241_16, ↓s_241_19, ↓s_241_20, ↓s_241_23, ↓s_241_26n, ↓s_241_26i, ↓s_241_26p, ↓s_241_27, ↓s_241_28, ↓s_241_31, ↓s_241_32, ↓s_241_35, ↓s_241_36, ↓s_241_37, ↓s_241_40, ↓s_241_43, ↓s_241_44, ↓s_241_45, ↓s_241_48, ↓s_241_49, ↓s_241_50, ↓s_241_53, ↓s_241_54, ↓s_241_57, ↓s_241_58, ↓s_170_0, ↓s_170_1, ↓s_170_4, ↓s_170_6, ↓s_170_7, ↓s_170_8, ↓s_170_9, ↓s_173_0, ↓s_173_1, ↓s_173_4, ↓s_173_7, ↓s_173_8, ↓s_173_11, ↓s_254_0, ↓s_254_1, ↓s_254_4, ↓s_254_7, ↓s_254_8, ↓s_254_9, ↓s_254_10, ↓s_254_13, ↓s_254_14, ↓s_254_15, ↓s_254_18, ↓s_254_21, zar_97, zia_97, zln_97, zit_97, zar_98, zia_98, zln_98, zit_98, zio_95, hz]
    obtain ⟨k3, kv⟩ := sRk_3 (rTk_rk h)
    refine ⟨by decide, ?_⟩
    refine rf_found hE (by omega) (z := 98) (L := 6) (off := 3) (by decide) w32c_3 hN.1 (by have := hN.2.1; omega) (by decide) (fun r hr => ?_)
    have hr' : w32 r = sFd (fun j => nm.getD j 0) (w32 (mem 95 30)) nm.length 0 := hr.trans (rNm_fd hN _)
    refine zgk_s hE xmo_241 60 [] ?_
    simp only [ynok_30, ynok_31, w32c_0, w32c_1, w32c_2, w32c_3, w32c_4, w32c_5, w32c_6, w32c_7, w32c_8, w32c_9, w32c_10, w32c_11, w32c_12, w32c_13, w32c_14, w32c_m1, w32c_m2, w32c_118, Int.reduceAdd, Int.reduceSub, Int.reduceMul, yput_s, yput_n, znl_n, znl_0, znl_1, znl_4, ysum_n, ysum_0, ysum_1, ysum_4, true_and, and_true, Nat.reduceAdd, Nat.reduceLeDiff, true_implies, eq_self, true_or, or_true, or_false, false_or, not_true_eq_false, not_false_eq_true, false_implies, implies_true, yset_s, yset_o, yset_d, ne_eq, Nat.reduceEqDiff, Int.reduceToNat, Int.reduceEq, Int.reduceLE, Int.reduceLT, Classical.not_not, Nat.reduceLT, ↓zvk_s, ↓zvk_n, ↓s_241_0, ↓s_241_1, ↓s_241_4, ↓s_241_7, ↓s_241_8, ↓s_241_9, ↓s_241_10, ↓s_241_13, ↓s_241_14, ↓s_241_15, ↓s_241_16, ↓s_241_19, ↓s_241_20, ↓s_241_23, ↓s_241_26n, ↓s_241_26i, ↓s_241_26p, ↓s_241_27, ↓s_241_28, ↓s_241_31, ↓s_241_32, ↓s_241_35, ↓s_241_36, ↓s_241_37, ↓s_241_40, ↓s_241_43, ↓s_241_44, ↓s_241_45, ↓s_241_48, ↓s_241_49, ↓s_241_50, ↓s_241_53, ↓s_241_54, ↓s_241_57, ↓s_241_58, ↓s_170_0, ↓s_170_1, ↓s_170_4, ↓s_170_6, ↓s_170_7, ↓s_170_8, ↓s_170_9, ↓s_173_0, ↓s_173_1, ↓s_173_4, ↓s_173_7, ↓s_173_8, ↓s_173_11, ↓s_254_0, ↓s_254_1, ↓s_254_4, ↓s_254_7, ↓s_254_8, ↓s_254_9, ↓s_254_10, ↓s_254_13, ↓s_254_14, ↓s_254_15, ↓s_254_18, ↓s_254_21, zar_97, zia_97, zln_97, zit_97, zar_98, zia_98, zln_98, zit_98, zio_95, hz]
    refine ⟨fun q1 => ?_, fun q1 => ?_⟩
    · have q3 : (sHd l).1 = 3 := k3.mp q1
      rw [kv q3] at hr'
      refine ⟨fun e => ?_, fun e => ?_⟩
      · have ep : yTt nm (.inr l) = (sFd (fun j => nm.getD j 0) (yVl (.inr l)) nm.length 0, yNx (.inr l)) := by unfold yTt; rw [if_pos (show yKd (.inr l) = 3 from q3), if_neg (show ¬ sFd (fun j => nm.getD j 0) (yVl (.inr l)) nm.length 0 = -1 from fun z => e (hr'.trans z))]
        rw [ep] at hQ
        refine rf_token hE (by omega) h (fun m F T => ?_)
        refine zgk_n hE xmo_173 60 [] ?_
        simp only [ynok_30, ynok_31, w32c_0, w32c_1, w32c_2, w32c_3, w32c_4, w32c_5, w32c_6, w32c_7, w32c_8, w32c_9, w32c_10, w32c_11, w32c_12, w32c_13, w32c_14, w32c_m1, w32c_m2, w32c_118, Int.reduceAdd, Int.reduceSub, Int.reduceMul, yput_s, yput_n, znl_n, znl_0, znl_1, znl_4, ysum_n, ysum_0, ysum_1, ysum_4, true_and, and_true, Nat.reduceAdd, Nat.reduceLeDiff, true_implies, eq_self, true_or, or_true, or_false, false_or, not_true_eq_false, not_false_eq_true, false_implies, implies_true, yset_s, yset_o, yset_d, ne_eq, Nat.reduceEqDiff, Int.reduceToNat, Int.reduceEq, Int.reduceLE, Int.reduceLT, Classical.not_not, Nat.reduceLT, ↓zvk_s, ↓zvk_n, ↓s_241_0, ↓s_241_1, ↓s_241_4, ↓s_241_7, ↓s_241_8, ↓s_241_9, ↓s_241_10, ↓s_241_13, ↓s_241_14, ↓s_241_15, ↓s_241_16, ↓s_241_19, ↓s_241_20, ↓s_241_23, ↓s_241_26n, ↓s_241_26i, ↓s_241_26p, ↓s_241_27, ↓s_241_28, ↓s_241_31, ↓s_241_32, ↓s_241_35, ↓s_241_36, ↓s_241_37, ↓s_241_40, ↓s_241_43, ↓s_241_44, ↓s_241_45, ↓s_241_48, ↓s_241_49, ↓s_241_50, ↓s_241_53, ↓s_241_54, ↓s_241_57, ↓s_241_58, ↓s_173_0, ↓s_173_1, ↓s_173_4, ↓s_173_7, ↓s_173_8, ↓s_173_11, zar_98, zia_98, zln_98, zit_98, zio_95]
        exact hQ r m (aFrm_w F (by decide)) T (fun _ _ => hr')
      · have ep : yTt nm (.inr l) = (-1, yFl 4 (.inr l)) := by unfold yTt; rw [if_pos (show yKd (.inr l) = 3 from q3), if_pos (show sFd (fun j => nm.getD j 0) (yVl (.inr l)) nm.length 0 = -1 from hr'.symm.trans e)]
        rw [ep] at hQ
        exact hQ r _ (rf_wr (f := 4) h (by decide) (by decide)).1 (rf_wr h (by decide) (by decide)).2 (fun l hl => by cases hl)
    · have q3 : ¬ (sHd l).1 = 3 := fun z => q1 (k3.mpr z)
      have ep : yTt nm (.inr l) = (-1, yFl 1 (.inr l)) := by unfold yTt; rw [if_neg (show ¬ yKd (.inr l) = 3 from q3)]
      rw [ep] at hQ
      exact hQ r _ (rf_wr (f := 1) h (by decide) (by decide)).1 (rf_wr h (by decide) (by decide)).2 (fun l hl => by cases hl)
end RC
