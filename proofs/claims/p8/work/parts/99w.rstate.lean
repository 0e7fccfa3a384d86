/-! THE REFERENCE: a state -/
def rTk (ch : Nat → Int) (n : Nat) (mem : yMem) (x : sY) : Prop := w32 (mem 95 26) = (n : Int) ∧ n ≤ 800 ∧ (∀ j, w32 (mem 96 j) = ch j ∧ 0 ≤ ch j ∧ ch j ≤ 255) ∧ match x with
  | .inl e => w32 (mem 95 31) = (e.1 : Int) ∧ e.1 ≠ 0 ∧ w32 (mem 95 32) = (e.2 : Int)
  | .inr l => w32 (mem 95 31) = 0 ∧ ∃ e : Nat, (w32 (mem 95 27) = (e : Int) ∧ w32 (mem 95 32) = -1) ∧ sCu ch n l e ∧ w32 (mem 95 28) = (((sHd l).2.1 : Nat) : Int) ∧ sRk (w32 (mem 95 29)) (w32 (mem 95 30)) (sHd l).1 (sHd l).2.2
theorem rTk_of {ch : Nat → Int} {n : Nat} {mem m : yMem} {x : sY} (h : rTk ch n mem x) (h26 : ∀ j, 26 ≤ j → j ≤ 32 → m 95 j = mem 95 j) (h96 : ∀ j, m 96 j = mem 96 j) : rTk ch n m x := by
  obtain ⟨a1, a2, a3, a4⟩ := h
  refine ⟨by rw [h26 26 (by decide) (by decide)]; exact a1, a2, fun j => by rw [h96]; exact a3 j, ?_⟩
  cases x with
  | inl e =>
    obtain ⟨b1, b2, b3⟩ := a4
    exact ⟨by rw [h26 31 (by decide) (by decide)]; exact b1, b2, by rw [h26 32 (by decide) (by decide)]; exact b3⟩
  | inr l =>
    obtain ⟨b1, e, b2, b3, b4, b5⟩ := a4
    exact ⟨by rw [h26 31 (by decide) (by decide)]; exact b1, e, ⟨by rw [h26 27 (by decide) (by decide)]; exact b2.1, by rw [h26 32 (by decide) (by decide)]; exact b2.2⟩, b3, by rw [h26 28 (by decide) (by decide)]; exact b4, by rw [h26 29 (by decide) (by decide), h26 30 (by decide) (by decide)]; exact b5⟩
section RA
variable {E : yE} {mem : yMem} {Q : Option yV → yMem → Prop} {ch : Nat → Int} {n : Nat} {x : sY} {l : List sT}
theorem rf_token (hE : yEok E) {D : Nat} (hD : 6 ≤ D) (h : rTk ch n mem (.inr l)) (hQ : ∀ m, aFrm tkF mem m → rTk ch n m (.inr (sNx l)) → Q none m) : yCon E D xm_244 [(1, 95)] mem Q := by
  obtain ⟨a1, a2, a3, b1, e, b2, b3, b4, b5⟩ := h
  obtain ⟨c1, c2⟩ := sCu_nx b3
  have ec : rsz mem = n := by show (w32 (mem 95 26)).toNat = n; rw [a1]; exact Int.toNat_natCast _
  have ea : rat mem = e := by show (w32 (mem 95 27)).toNat = e; rw [b2.1]; exact Int.toNat_natCast _
  have eh : rch mem = ch := funext fun j => (a3 j).1
  refine f_token hE hD (by omega) (by omega) (by omega) (fun j => by rw [(a3 j).1]; exact (a3 j).2) (fun m k p v e' F ht h7 h8 h9 => ?_)
  rw [ec, ea, eh] at ht
  obtain ⟨t1, t2⟩ := sTl_cu c1 ht
  refine hQ m F ⟨by rw [F 95 26 rfl]; exact a1, a2, fun j => by rw [F 96 j rfl]; exact a3 j, by rw [F 95 31 rfl]; exact b1, e', ⟨h7, by rw [F 95 32 rfl]; exact b2.2⟩, t2, by rw [t1]; exact h8, by rw [t1]; exact h9⟩
/-- wrong, on both ways -/
theorem rf_wr1 {f : Nat} (h : rTk ch n mem x) (hf : ¬ w32 (mem 95 31) = 0) : rTk ch n mem (yFl f x) := by
  cases x with
  | inl e => exact h
  | inr l => exact absurd h.2.2.2.1 hf
theorem rf_wr0 {f : Nat} {F : Int} (h : rTk ch n mem x) (hF : w32 F = (f : Int)) (h0 : f ≠ 0) (hf : w32 (mem 95 31) = 0) : rTk ch n (yset (yset mem 95 31 F) 95 32 (mem 95 28)) (yFl f x) := by
  cases x with
  | inl e => exact absurd hf (by have := h.2.2.2.1; have := h.2.2.2.2.1; omega)
  | inr l =>
    obtain ⟨a1, a2, a3, b1, e, b2, b3, b4, b5⟩ := h
    exact ⟨by rw [yset_d (by decide), yset_d (by decide)]; exact a1, a2, fun j => by rw [yset_o (by decide), yset_o (by decide)]; exact a3 j, by rw [yset_d (by decide), yset_s]; exact hF, h0, by rw [yset_s]; exact b4⟩
theorem sRk_2 {so va v : Int} {k : Nat} (h : sRk so va k v) : so = 2 ↔ k = 2 := by
  unfold sRk at h
  omega
theorem sRk_v {so va v : Int} {k : Nat} (h : sRk so va k v) (hk : k = 2) : 0 ≤ va ∧ min va 100000 = v := by
  unfold sRk at h
  omega
theorem yKd_r (l : List sT) : yKd (.inr l) = (sHd l).1 := rfl
theorem yVl_r (l : List sT) : yVl (.inr l) = (sHd l).2.2 := rfl
abbrev rnF : List (Nat × Nat) := [(95, 28), (95, 29), (95, 30), (95, 31), (95, 32), (95, 33)]
theorem rf_numeral (hE : yEok E) {D : Nat} (hD : 8 ≤ D) {a b : Int} (h : rTk ch n mem x) (ha : w32 a ≤ 99999) (hb : w32 b ≤ 99999) (hQ : ∀ r m, aFrm rnF mem m → w32 r = (yNm (w32 a) (w32 b) x).1 → rTk ch n m (yNm (w32 a) (w32 b) x).2 → Q (some (0, r)) m) : yCon E D xm_212 [(1, 95), (0, a), (0, b)] mem Q := by
  obtain ⟨d, rfl⟩ := Nat.exists_eq_add_of_le' hD
  refine e_212 ?_
  refine zvc_ok hE 60 [] _ _ _ _ _ _ _ xmo_212 ?_
  cases x with
  | inl e =>
    have hz : ¬ w32 (mem 95 31) = 0 := by have := h.2.2.2.1; have := h.2.2.2.2.1; omega
    simp only [ynok_30, ynok_31, w32c_0, w32c_1, w32c_2, w32c_3, w32c_4, w32c_5, w32c_6, w32c_7, w32c_8, w32c_9, w32c_10, w32c_11, w32c_12, w32c_13, w32c_14, w32c_m1, w32c_m2, w32c_118, Int.reduceAdd, Int.reduceSub, Int.reduceMul, yput_s, yput_n, znl_n, znl_0, znl_1, znl_4, ysum_n, ysum_0, ysum_1, ysum_4, true_and, and_true, Nat.reduceAdd, Nat.reduceLeDiff, true_implies, eq_self, true_or, or_true, or_false, false_or, not_true_eq_false, not_false_eq_true, false_implies, implies_true, yset_s, yset_o, yset_d, ne_eq, Nat.reduceEqDiff, Int.reduceToNat, Int.reduceEq, Int.reduceLE, Int.reduceLT, Classical.not_not, Nat.reduceLT, ↓zvk_s, ↓zvk_n, ↓s_212_0, ↓s_212_1, ↓s_212_4, ↓s_212_7, ↓s_212_8, ↓s_212_9, ↓s_212_10, ↓s_212_13, ↓s_212_14, ↓s_212_17, ↓s_212_18, ↓s_212_19, ↓s_212_22, ↓s_212_25, ↓s_212_26, ↓s_212_29, ↓s_212_30, ↓s_212_33, ↓s_212_34, ↓s_212_37, ↓s_212_38, ↓s_212_41, ↓s_212_42, ↓s_212_43, ↓s_212_46, ↓s_212_47, ↓s_212_50, ↓s_212_53, ↓s_212_54, ↓s_212_55, ↓s_212_56, ↓s_212_59n, ↓s_212_59i, ↓s_212_59p, ↓s_212_60, ↓s_212_61, ↓s_212_64, ↓s_212_65, ↓s_254_0, ↓s_254_1, ↓s_254_4, ↓s_254_7, ↓s_254_8, ↓s_254_9, ↓s_254_10, ↓s_254_13, ↓s_254_14, ↓s_254_15, ↓s_254_18, ↓s_254_21, zio_95, hz]
    exact hQ a mem aFrm_rf rfl h
  | inr l =>
    have hz : w32 (mem 95 31) = 0 := h.2.2.2.1
    simp only [ynok_30, ynok_31, w32c_0, w32c_1, w32c_2, w32c_3, w32c_4, w32c_5, w32c_6, w32c_7, w32c_8, w32c_9, w32c_10, w32c_11, w32c_12, w32c_13, w32c_14, w32c_m1, w32c_m2, w32c_118, Int.reduceAdd, Int.reduceSub, Int.reduceMul, yput_s, yput_n, znl_n, znl_0, znl_1, znl_4, ysum_n, ysum_0, ysum_1, ysum_4, true_and, and_true, Nat.reduceAdd, Nat.reduceLeDiff, true_implies, eq_self, true_or, or_true, or_false, false_or, not_true_eq_false, not_false_eq_true, false_implies, implies_true, yset_s, yset_o, yset_d, ne_eq, Nat.reduceEqDiff, Int.reduceToNat, Int.reduceEq, Int.reduceLE, Int.reduceLT, Classical.not_not, Nat.reduceLT, ↓zvk_s, ↓zvk_n, ↓s_212_0, ↓s_212_1, ↓s_212_4, ↓s_212_7, ↓s_212_8, ↓s_212_9, ↓s_212_10, ↓s_212_13, ↓s_212_14, ↓s_212_17, ↓s_212_18, ↓s_212_19, ↓s_212_22, ↓s_212_25, ↓s_212_26, ↓s_212_29, ↓s_212_30, ↓s_212_33, ↓s_212_34, ↓s_212_37, ↓s_212_38, ↓s_212_41, ↓s_212_42, ↓s_212_43, ↓s_212_46, ↓s_212_47, ↓s_212_50, ↓s_212_53, ↓s_212_54, ↓s_212_55, ↓s_212_56, ↓s_212_59n, ↓s_212_59i, ↓s_212_59p, ↓s_212_60, ↓s_212_61, ↓s_212_64, ↓s_212_65, ↓s_254_0, ↓s_254_1, ↓s_254_4, ↓s_254_7, ↓s_254_8, ↓s_254_9, ↓s_254_10, ↓s_254_13, ↓s_254_14, ↓s_254_15, ↓s_254_18, ↓s_254_21, zio_95, hz]
    have hR : sRk (w32 (mem 95 29)) (w32 (mem 95 30)) (sHd l).1 (sHd l).2.2 := by
      obtain ⟨_, _, _, _, e, _, _, _, b5⟩ := h
      exact b5
    have k2 := sRk_2 hR
    have kv := sRk_v hR
    have wr : ∀ f F, w32 F = ((f : Nat) : Int) → f ≠ 0 → aFrm rnF mem (yset (yset mem 95 31 F) 95 32 (mem 95 28)) ∧ rTk ch n (yset (yset mem 95 31 F) 95 32 (mem 95 28)) (yFl f (.inr l)) := fun f F h1 h2 => ⟨aFrm_set (aFrm_set aFrm_rf rfl) rfl, rf_wr0 h h1 h2 hz⟩
    have B : yKd (.inr l) = 2 → (yVl (.inr l) < w32 a ∨ w32 b < yVl (.inr l)) → Q (some (0, a)) (yset (yset mem 95 31 2) 95 32 (mem 95 28)) := fun q1 q2 => by
      have ep : yNm (w32 a) (w32 b) (.inr l) = (w32 a, yFl 2 (.inr l)) := by unfold yNm; rw [if_pos q1, if_pos q2]
      rw [ep] at hQ
      exact hQ a _ (wr 2 2 (by decide) (by decide)).1 rfl (wr 2 2 (by decide) (by decide)).2
    refine ⟨fun q => ?_, fun q => ?_⟩
    · have q1 : (sHd l).1 = 2 := k2.mp q
      have hv := kv q1
      refine ⟨fun h1 => B q1 (Or.inl (by rw [yVl_r]; omega)), fun h1 => ⟨fun h2 => ?_, fun h2 => B q1 (Or.inr (by rw [yVl_r]; omega))⟩⟩
      have ep : yNm (w32 a) (w32 b) (.inr l) = (yVl (.inr l), yNx (.inr l)) := by unfold yNm; rw [if_pos (show yKd (.inr l) = 2 from q1), if_neg (by rw [yVl_r]; omega)]
      rw [ep] at hQ
      refine rf_token hE (by omega) h (fun m F T => ?_)
      refine zgk_n hE xmo_212 60 [] ?_
      simp only [ynok_30, ynok_31, w32c_0, w32c_1, w32c_2, w32c_3, w32c_4, w32c_5, w32c_6, w32c_7, w32c_8, w32c_9, w32c_10, w32c_11, w32c_12, w32c_13, w32c_14, w32c_m1, w32c_m2, w32c_118, Int.reduceAdd, Int.reduceSub, Int.reduceMul, yput_s, yput_n, znl_n, znl_0, znl_1, znl_4, ysum_n, ysum_0, ysum_1, ysum_4, true_and, and_true, Nat.reduceAdd, Nat.reduceLeDiff, true_implies, eq_self, true_or, or_true, or_false, false_or, not_true_eq_false, not_false_eq_true, false_implies, implies_true, yset_s, yset_o, yset_d, ne_eq, Nat.reduceEqDiff, Int.reduceToNat, Int.reduceEq, Int.reduceLE, Int.reduceLT, Classical.not_not, Nat.reduceLT, ↓zvk_s, ↓zvk_n, ↓s_212_0, ↓s_212_1, ↓s_212_4, ↓s_212_7, ↓s_212_8, ↓s_212_9, ↓s_212_10, ↓s_212_13, ↓s_212_14, ↓s_212_17, ↓s_212_18, ↓s_212_19, ↓s_212_22, ↓s_212_25, ↓s_212_26, ↓s_212_29, ↓s_212_30, ↓s_212_33, ↓s_212_34, ↓s_212_37, ↓s_212_38, ↓s_212_41, ↓s_212_42, ↓s_212_43, ↓s_212_46, ↓s_212_47, ↓s_212_50, ↓s_212_53, ↓s_212_54, ↓s_212_55, ↓s_212_56, ↓s_212_59n, ↓s_212_59i, ↓s_212_59p, ↓s_212_60, ↓s_212_61, ↓s_212_64, ↓s_212_65, ↓s_254_0, ↓s_254_1, ↓s_254_4, ↓s_254_7, ↓s_254_8, ↓s_254_9, ↓s_254_10, ↓s_254_13, ↓s_254_14, ↓s_254_15, ↓s_254_18, ↓s_254_21, zio_95]
      refine hQ _ m (aFrm_w F (by decide)) (by show _ = (sHd l).2.2; omega) T
    · have q1 : ¬ (sHd l).1 = 2 := fun z => q (k2.mpr z)
      have ep : yNm (w32 a) (w32 b) (.inr l) = (w32 a, yFl 1 (.inr l)) := by unfold yNm; rw [if_neg (show ¬ yKd (.inr l) = 2 from q1)]
      rw [ep] at hQ
      exact hQ a _ (wr 1 1 (by decide) (by decide)).1 rfl (wr 1 1 (by decide) (by decide)).2
end RA
