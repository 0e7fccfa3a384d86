/-! THE REFERENCE works out an E, within bounds -/
section RY
variable {E : yE} {mem : yMem} {Q : Option yV → yMem → Prop} {nm : Nat → Int}
theorem re_within (hE : yEok E) {D0 : Nat} (hD : 4 ≤ D0) {D : dDc} {f : Nat} {F A B : Int} (hf : w32 F = (f : Int)) (hf5 : f < 5) (hA : 0 ≤ w32 A) (h : rDl mem D) (hk : dOk D) (hO : OmA mem) (hN : ∀ i, i < 7 → w64 (mem 130 i) = nm i ∧ eIn (nm i)) (hQ : ∀ r m, rzF mem m → w32 r = eWn D.2.2.2.2.2.2 f (w32 A) (w32 B) nm → Q (some (0, r)) m) : yCon E D0 xm_251 [(1, 95), (0, F), (0, A), (0, B)] mem Q := by
  obtain ⟨d, rfl⟩ := Nat.exists_eq_add_of_le' hD
  obtain ⟨-, -, -, -, -, c1, ⟨c2, c3⟩, c4⟩ := h
  obtain ⟨-, -, k1, k2⟩ := hk
  obtain ⟨a, b, k3, k4, k5, k6⟩ := k2 f hf5
  obtain ⟨e, he⟩ := hO f hf5
  have ft := w32_t hf
  have v1 : w32 (mem 114 f) = (a : Int) := by rw [(c1 f hf5).1, k3]
  have v2 : w32 (mem 115 f) = (b : Int) := by rw [(c1 f hf5).2, k3]
  rw [v1, v2, show ((b : Int) - (a : Int)).toNat = b - a by omega, Int.toNat_natCast] at he
  refine e_251 ?_
  refine zvc_ok hE 60 [] _ _ _ _ _ _ _ xmo_251 ?_
  simp only [ynok_30, ynok_31, w32c_0, w32c_1, w32c_2, w32c_3, w32c_4, w32c_5, w32c_6, w32c_7, w32c_8, w32c_9, w32c_10, w32c_11, w32c_12, w32c_13, w32c_14, w32c_m1, w32c_m2, w32c_118, Int.reduceAdd, Int.reduceSub, Int.reduceMul, yput_s, yput_n, znl_n, znl_0, znl_1, znl_4, ysum_n, ysum_0, ysum_1, ysum_4, true_and, and_true, Nat.reduceAdd, Nat.reduceLeDiff, true_implies, eq_self, true_or, or_true, or_false, false_or, not_true_eq_false, not_false_eq_true, false_implies, implies_true, yset_s, yset_o, yset_d, ne_eq, Nat.reduceEqDiff, Int.reduceToNat, Int.reduceEq, Int.reduceLE, Int.reduceLT, Classical.not_not, Nat.reduceLT, ↓zvk_s, ↓zvk_n, ↓s_251_0, ↓s_251_1, ↓s_251_4, ↓s_251_5, ↓s_251_6, ↓s_251_7, ↓s_251_10, ↓s_251_11, ↓s_251_12, ↓s_251_15, ↓s_251_16, ↓s_251_17, ↓s_251_20, ↓s_251_23, ↓s_251_24, ↓s_251_25, ↓s_251_26, ↓s_251_27, ↓s_251_28, ↓s_251_29, ↓s_251_32, ↓s_251_33, ↓s_251_34, ↓s_251_37, ↓s_251_40, ↓s_251_41, zar_114, zia_114, zln_114, zit_114, zar_115, zia_115, zln_115, zit_115, zar_131, zia_131, zln_131, zit_131, zio_95, ft, v1, v2]
  have q1 : ((D.2.2.2.2.2.2).1 f).1 = (a : Int) := by rw [k3]
  have q2 : ((D.2.2.2.2.2.2).1 f).2 = (b : Int) := by rw [k3]
  have key : ¬ (b : Int) ≤ (a : Int) → eWn D.2.2.2.2.2.2 f (w32 A) (w32 B) nm = match eRn (knD D.2.2.2.2.2.2.2.2) nm (b - a) a [] with
    | none => w32 B
    | some st => max 0 (min (w32 A) (st.headD 0)) := fun z => by
    unfold eWn
    rw [q1, q2, if_neg z, show ((b : Int) - (a : Int)).toNat = b - a by omega, Int.toNat_natCast]
    cases eRn (knD D.2.2.2.2.2.2.2.2) nm (b - a) a [] <;> rfl
  skip
end RY
