section
theorem sKn_z {p : Nat} {u : sU} {k : sU → sX} (h : ∀ e, k (u.1, u.2.1 + 1, u.2.2) = .inl e → e.1 ≠ 0) : ∀ e, sKn p u k = .inl e → e.1 ≠ 0 := by
  unfold sKn
  split
  · intro e he
    injection he with he
    rw [← he]
    exact (by decide : (2 : Nat) ≠ 0)
  · exact h
theorem inl_z {f p : Nat} (hf : f ≠ 0) : ∀ e, (Sum.inl (f, p) : sX) = .inl e → e.1 ≠ 0 := fun e he => by
  injection he with he
  rw [← he]
  exact hf
theorem tail_lt {l : List sT} {f : Nat} (h : l.length < f + 1) (hk : (sHd l).1 ≠ 0) : l.tail.length < f := by
  cases l with
  | nil => exact absurd rfl hk
  | cons t r =>
    have : (t :: r).length = r.length + 1 := rfl
    show r.length < f
    (first | exact Nat.le_of_ble_eq_true rfl | exact (fun h => absurd h.1 (by decide)) | omega)
/-- a step a token: fuel enough -/
theorem sy_fuel : ∀ (f : Nat) (v : Bool) (w : List Nat) (l : List sT) (cn op : Nat) (o : sK), l.length < f → ∀ e, sy f v w (l, cn, op, o) = .inl e → e.1 ≠ 0
  | 0, v, w, l, cn, op, o, h => absurd h (Nat.not_lt_zero _)
  | f + 1, true, w, l, cn, op, o, h => by
    simp only [sy]
    split
    · next h5 =>
      split
      · exact inl_z (by decide)
      · exact sy_fuel f true _ l.tail _ _ _ (tail_lt h (by (first | exact Nat.le_of_ble_eq_true rfl | exact (fun h => absurd h.1 (by decide)) | omega)))
    · split
      · next h32 =>
        exact sKn_z (sy_fuel f true _ l.tail _ _ _ (tail_lt h (by (first | exact Nat.le_of_ble_eq_true rfl | exact (fun h => absurd h.1 (by decide)) | omega))))
      · split
        · exact inl_z (by decide)
        · next h2 =>
          split
          · exact inl_z (by decide)
          · exact sKn_z (sy_fuel f false _ l.tail _ _ _ (tail_lt h (by (first | exact Nat.le_of_ble_eq_true rfl | exact (fun h => absurd h.1 (by decide)) | omega))))
  | f + 1, false, w, l, cn, op, o, h => by
    simp only [sy]
    split
    · next h6 => exact sy_fuel f false _ l.tail _ _ _ (tail_lt h (by (first | exact Nat.le_of_ble_eq_true rfl | exact (fun h => absurd h.1 (by decide)) | omega)))
    · split
      · split
        · exact inl_z (by decide)
        · intro e he
          cases he
      · next h0 =>
        have hk : (sHd l).1 ≠ 0 := fun e => h0 (Or.inl (by rw [e]; rfl))
        split
        · split
          · exact inl_z (by decide)
          · exact sKn_z (sy_fuel f true _ l.tail _ _ _ (tail_lt h hk))
        · exact sKn_z (sy_fuel f true _ l.tail _ _ _ (tail_lt h hk))
theorem sKn_m {p : Nat} {u : sU} {k k' : sU → sX} {x : sX} (h : ∀ v, k v = x → k' v = x) : sKn p u k = x → sKn p u k' = x := by
  unfold sKn
  split
  · exact fun e => e
  · exact h _
theorem sy_t (f : Nat) (w : List Nat) (l : List sT) (cn op : Nat) (o : sK) : sy (f + 1) true w (l, cn, op, o) = (if (sHd l).1 = 5 then (if op = 8 then .inl (2, (sHd l).2.1) else sy f true (5 :: w) (l.tail, cn, op + 1, o))
    else if (sHd l).1 = 32 ∧ sTp w ≤ 3 then sKn (sHd l).2.1 (l, cn, op, o) (fun u => sy f true (32 :: w) (u.1.tail, u.2))
    else if ¬ ((sHd l).1 = 2 ∨ (33 ≤ (sHd l).1 ∧ (sHd l).1 ≤ 39)) then .inl (1, (sHd l).2.1)
    else if (sHd l).1 = 2 ∧ 9999 < (sHd l).2.2 then .inl (2, (sHd l).2.1)
    else sKn (sHd l).2.1 (l, cn, op, o) (fun u => sy f false w (u.1.tail, u.2.1, u.2.2.1, ((sHd l).1, if (sHd l).1 = 2 then (sHd l).2.2 else 0) :: u.2.2.2))) := rfl
theorem sy_f (f : Nat) (w : List Nat) (l : List sT) (cn op : Nat) (o : sK) : sy (f + 1) false w (l, cn, op, o) = (if (sHd l).1 = 6 ∧ 0 < op then sy f false (sSt 1 w o).1.tail (l.tail, cn, op - 1, (sSt 1 w o).2)
    else if sLv (sHd l).1 = 0 ∨ sLv (sHd l).1 = 3 then (if 0 < op then .inl (1, (sHd l).2.1) else .inr (l, cn, op, (sSt 1 w o).2))
    else if sLv (sHd l).1 = 4 then (if sTp (sSt 5 w o).1 = 4 then .inl (1, (sHd l).2.1) else sKn (sHd l).2.1 (l, cn, op, (sSt 5 w o).2) (fun u => sy f true ((sHd l).1 :: (sSt 5 w o).1) (u.1.tail, u.2)))
    else sKn (sHd l).2.1 (l, cn, op, (sSt (sLv (sHd l).1) w o).2) (fun u => sy f true ((sHd l).1 :: (sSt (sLv (sHd l).1) w o).1) (u.1.tail, u.2))) := rfl
theorem sy_mono {x : sX} (hx : ∀ e, x = .inl e → e.1 ≠ 0) : ∀ (f : Nat) (v : Bool) (w : List Nat) (u : sU), sy f v w u = x → sy (f + 1) v w u = x
  | 0, v, w, u, h => absurd rfl (hx (0, 0) (by rw [← h]; rfl))
  | f + 1, true, w, (l, cn, op, o), h => by
    rw [sy_t] at h ⊢
    by_cases h5 : (sHd l).1 = 5
    · rw [if_pos h5] at h ⊢
      by_cases h8 : op = 8
      · rw [if_pos h8] at h ⊢; exact h
      · rw [if_neg h8] at h ⊢; exact sy_mono hx f _ _ _ h
    · rw [if_neg h5] at h ⊢
      by_cases h32 : (sHd l).1 = 32 ∧ sTp w ≤ 3
      · rw [if_pos h32] at h ⊢; exact sKn_m (fun v => sy_mono hx f _ _ _) h
      · rw [if_neg h32] at h ⊢
        by_cases h2 : ¬ ((sHd l).1 = 2 ∨ (33 ≤ (sHd l).1 ∧ (sHd l).1 ≤ 39))
        · rw [if_pos h2] at h ⊢; exact h
        · rw [if_neg h2] at h ⊢
          by_cases h9 : (sHd l).1 = 2 ∧ 9999 < (sHd l).2.2
          · rw [if_pos h9] at h ⊢; exact h
          · rw [if_neg h9] at h ⊢; exact sKn_m (fun v => sy_mono hx f _ _ _) h
  | f + 1, false, w, (l, cn, op, o), h => by
    rw [sy_f] at h ⊢
    by_cases h6 : (sHd l).1 = 6 ∧ 0 < op
    · rw [if_pos h6] at h ⊢; exact sy_mono hx f _ _ _ h
    · rw [if_neg h6] at h ⊢
      by_cases h0 : sLv (sHd l).1 = 0 ∨ sLv (sHd l).1 = 3
      · rw [if_pos h0] at h ⊢; exact h
      · rw [if_neg h0] at h ⊢
        by_cases h4 : sLv (sHd l).1 = 4
        · rw [if_pos h4] at h ⊢
          by_cases h44 : sTp (sSt 5 w o).1 = 4
          · rw [if_pos h44] at h ⊢; exact h
          · rw [if_neg h44] at h ⊢; exact sKn_m (fun v => sy_mono hx f _ _ _) h
        · rw [if_neg h4] at h ⊢; exact sKn_m (fun v => sy_mono hx f _ _ _) h
theorem sy_add {x : sX} (hx : ∀ e, x = .inl e → e.1 ≠ 0) {f : Nat} {v : Bool} {w : List Nat} {u : sU} (h : sy f v w u = x) : ∀ c, sy (f + c) v w u = x
  | 0 => h
  | c + 1 => sy_mono hx _ _ _ _ (sy_add hx h c)
/-- an E, as the class reads it -/
def pE (y : sY) (cn : Nat) (o : sK) : sX := match y with
  | .inl e => .inl e
  | .inr l => sy (l.length + 1) true [] (l, cn, 0, o)
theorem pE_en {l : List sT} {cn : Nat} {o : sK} {x : sX} (h : sEn true [] (l, cn, 0, o) x) : pE (.inr l) cn o = x := by
  obtain ⟨c, h⟩ := h
  have h1 := h (l.length + 1)
  rw [← h1]
  exact (sy_add (sy_fuel (l.length + 1) true [] l cn 0 o (Nat.lt_succ_self _)) rfl c).symm
section CT
variable {E : yE} {mem b m : yMem} {Q : Option yV → yMem → Prop} {ch : Nat → Int} {n : Nat} {d f : Nat} {F : Int} {x : sX}
theorem g_readValue0 (hE : yEok E) {D : Nat} (hD : 4 ≤ D) {e : Nat × Nat} (T : cTk ch n m (.inl e)) (hQ : Q (some (0, 0)) (yset m 55 4 0)) : yCon E D xm_68 [(1, 48), (1, 55)] m Q := by
  obtain ⟨d, rfl⟩ := Nat.exists_eq_add_of_le' hD
  have hK : w32 (m 55 4) = 0 := T.2.2.2.2.2.2.2
  have h7 : ¬ w32 (m 55 7) = 0 := fun h => T.2.2.2.2.2.1 (by have := T.2.2.2.2.1; (first | exact Nat.le_of_ble_eq_true rfl | exact (fun h => absurd h.1 (by decide)) | omega))
  refine e_68 ?_
  refine zvc_ok hE 60 zc_68 _ _ _ _ _ _ _ xmo_68 ?_
  simp only [ynok_30, ynok_31, w32c_0, w32c_1, w32c_2, w32c_3, w32c_4, w32c_5, w32c_6, w32c_7, w32c_8, w32c_9, w32c_10, w32c_11, w32c_12, w32c_13, w32c_14, w32c_m1, w32c_m2, w32c_118, Int.reduceAdd, Int.reduceSub, Int.reduceMul, yput_s, yput_n, znl_n, znl_0, znl_1, znl_4, ysum_n, ysum_0, ysum_1, ysum_4, true_and, and_true, Nat.reduceAdd, Nat.reduceLeDiff, true_implies, eq_self, true_or, or_true, or_false, false_or, not_true_eq_false, not_false_eq_true, false_implies, implies_true, yset_s, yset_o, yset_d, ne_eq, Nat.reduceEqDiff, Int.reduceToNat, Int.reduceEq, Int.reduceLE, Int.reduceLT, Classical.not_not, Nat.reduceLT, ↓zvk_s, ↓zvk_n, ↓s_68_0, ↓s_68_1, ↓s_68_4n, ↓s_68_4i, ↓s_68_4p, ↓s_68_5, ↓s_68_6, ↓s_68_7, ↓s_68_10, ↓s_68_11_22, ↓s_68_11_48, ↓s_68_14, ↓s_68_16, ↓s_68_19, ↓s_68_20, ↓s_68_21, ↓s_68_24, ↓s_68_27, ↓s_68_28, ↓s_68_29, ↓s_68_32, ↓g_68_33, ↓k_68_33, ↓s_68_34, ↓s_68_36, ↓s_68_39, ↓s_68_40, ↓s_68_43, ↓s_68_44, ↓g_68_47, ↓k_68_47, ↓s_68_48, ↓s_68_49, ↓s_68_52, ↓s_68_55, ↓s_68_56, ↓s_68_57, ↓s_68_60, ↓s_68_63, ↓s_68_64, ↓s_68_67, ↓s_68_68, ↓g_68_69, ↓k_68_69, ↓s_68_70, ↓s_68_71, ↓s_68_74, ↓s_68_75, ↓s_68_77, ↓s_68_80, ↓s_68_81, ↓s_68_83, ↓s_68_86, ↓s_68_87, ↓s_68_88, ↓s_68_91, ↓g_68_92, ↓k_68_92, ↓s_68_93, ↓s_68_96, ↓s_68_99, ↓s_68_102, ↓s_68_103, ↓s_68_104, ↓s_68_107, ↓s_68_108, ↓s_68_109, ↓s_68_112, ↓g_68_113, ↓k_68_113, ↓s_68_114, ↓s_68_115_22, ↓s_68_115_48, ↓s_68_118, ↓s_68_119, ↓s_68_120, ↓s_68_123, ↓s_68_126, ↓s_68_127, ↓s_68_128, ↓s_68_129, ↓s_68_132, ↓s_68_135, ↓s_68_138, ↓s_68_139, ↓s_68_142, ↓s_68_143, w32c_32, w32c_33, w32c_39, w32c_9999, ↓s_62_0, ↓s_62_1_22, ↓s_62_1_48, ↓s_62_4, ↓s_62_5_22, ↓s_62_5_48, ↓s_62_8, ↓s_62_9, ↓s_62_12, ↓s_62_13_22, ↓s_62_13_48, ↓s_62_16, ↓s_62_17_22, ↓s_62_17_48, ↓s_62_20, ↓s_62_21, ↓s_62_22, ↓s_62_23a, ↓s_62_23b, ↓s_62_24_22, ↓s_62_24_48, ↓s_62_27, ↓s_62_28, ↓s_62_29_22, ↓s_62_29_48, ↓s_62_32, ↓s_62_33, ↓s_62_34, ↓s_62_37, ↓s_62_38a, ↓s_62_38b, ↓s_62_39_22, ↓s_62_39_48, ↓s_62_42, ↓s_62_43, ↓s_62_44_22, ↓s_62_44_48, ↓s_62_47, ↓s_62_48, ↓s_63_0, ↓s_63_1_22, ↓s_63_1_48, ↓s_63_4, ↓s_63_6, ↓s_63_9, ↓s_63_10, ↓s_63_11, ↓s_63_14, ↓s_63_15, ↓s_63_16a, ↓s_63_16b, ↓s_63_17_22, ↓s_63_17_48, ↓s_63_20, ↓s_63_21, ↓s_63_22_22, ↓s_63_22_48, ↓s_63_25, ↓s_63_26, w32c_64, ↓s_66_0, ↓s_66_1_22, ↓s_66_1_48, ↓s_66_4, ↓s_66_6, ↓s_66_9, ↓s_66_10_22, ↓s_66_10_48, ↓s_66_13, ↓s_66_14_22, ↓s_66_14_48, ↓s_66_17, ↓s_66_18, ↓s_66_19, ↓s_66_20_22, ↓s_66_20_48, ↓s_66_23, ↓s_66_24_22, ↓s_66_24_48, ↓s_66_27, ↓s_66_28, ↓s_66_29, ↓s_66_30a, ↓s_66_30b, ↓s_66_31_22, ↓s_66_31_48, ↓s_66_34, ↓s_66_35, ↓s_66_36_22, ↓s_66_36_48, ↓s_66_39, ↓s_66_40, ↓s_72_0, ↓s_72_1_22, ↓s_72_1_48, ↓s_72_4, ↓s_72_7, ↓s_72_8, ↓s_72_11, ↓s_72_12_22, ↓s_72_12_48, ↓s_72_15, ↓s_72_16_22, ↓s_72_16_48, ↓s_72_19, ↓s_72_20, ↓s_72_21, ↓s_72_22, ↓s_72_25, ↓s_123_0, ↓s_123_1, ↓s_123_4, ↓s_123_7, ↓s_123_8, ↓s_123_9, ↓s_123_12, ↓s_123_13, ↓s_123_14, ↓s_123_17, ↓s_123_20, ↓s_123_21, ↓s_123_22, ↓s_123_25, ↓s_123_26, zio_48, zar_49, zia_49, zln_49, zit_49, zar_50, zia_50, zln_50, zit_50, zar_53, zia_53, zln_53, zit_53, zio_22, zar_23, zia_23, zln_23, zit_23, zio_55, zar_24, zia_24, zln_24, zit_24, zar_27, zia_27, zln_27, zit_27]
  refine ⟨fun _ => ?_, fun h => absurd h (by (first | exact Nat.le_of_ble_eq_true rfl | exact (fun h => absurd h.1 (by decide)) | omega))⟩
  refine zgo_ok (n := 80) hE xmo_68 (cs := zc_68) ?_
  simp only [ynok_30, ynok_31, w32c_0, w32c_1, w32c_2, w32c_3, w32c_4, w32c_5, w32c_6, w32c_7, w32c_8, w32c_9, w32c_10, w32c_11, w32c_12, w32c_13, w32c_14, w32c_m1, w32c_m2, w32c_118, Int.reduceAdd, Int.reduceSub, Int.reduceMul, yput_s, yput_n, znl_n, znl_0, znl_1, znl_4, ysum_n, ysum_0, ysum_1, ysum_4, true_and, and_true, Nat.reduceAdd, Nat.reduceLeDiff, true_implies, eq_self, true_or, or_true, or_false, false_or, not_true_eq_false, not_false_eq_true, false_implies, implies_true, yset_s, yset_o, yset_d, ne_eq, Nat.reduceEqDiff, Int.reduceToNat, Int.reduceEq, Int.reduceLE, Int.reduceLT, Classical.not_not, Nat.reduceLT, ↓zvk_s, ↓zvk_n, ↓s_68_0, ↓s_68_1, ↓s_68_4n, ↓s_68_4i, ↓s_68_4p, ↓s_68_5, ↓s_68_6, ↓s_68_7, ↓s_68_10, ↓s_68_11_22, ↓s_68_11_48, ↓s_68_14, ↓s_68_16, ↓s_68_19, ↓s_68_20, ↓s_68_21, ↓s_68_24, ↓s_68_27, ↓s_68_28, ↓s_68_29, ↓s_68_32, ↓g_68_33, ↓k_68_33, ↓s_68_34, ↓s_68_36, ↓s_68_39, ↓s_68_40, ↓s_68_43, ↓s_68_44, ↓g_68_47, ↓k_68_47, ↓s_68_48, ↓s_68_49, ↓s_68_52, ↓s_68_55, ↓s_68_56, ↓s_68_57, ↓s_68_60, ↓s_68_63, ↓s_68_64, ↓s_68_67, ↓s_68_68, ↓g_68_69, ↓k_68_69, ↓s_68_70, ↓s_68_71, ↓s_68_74, ↓s_68_75, ↓s_68_77, ↓s_68_80, ↓s_68_81, ↓s_68_83, ↓s_68_86, ↓s_68_87, ↓s_68_88, ↓s_68_91, ↓g_68_92, ↓k_68_92, ↓s_68_93, ↓s_68_96, ↓s_68_99, ↓s_68_102, ↓s_68_103, ↓s_68_104, ↓s_68_107, ↓s_68_108, ↓s_68_109, ↓s_68_112, ↓g_68_113, ↓k_68_113, ↓s_68_114, ↓s_68_115_22, ↓s_68_115_48, ↓s_68_118, ↓s_68_119, ↓s_68_120, ↓s_68_123, ↓s_68_126, ↓s_68_127, ↓s_68_128, ↓s_68_129, ↓s_68_132, ↓s_68_135, ↓s_68_138, ↓s_68_139, ↓s_68_142, ↓s_68_143, w32c_32, w32c_33, w32c_39, w32c_9999, ↓s_62_0, ↓s_62_1_22, ↓s_62_1_48, ↓s_62_4, ↓s_62_5_22, ↓s_62_5_48, ↓s_62_8, ↓s_62_9, ↓s_62_12, ↓s_62_13_22, ↓s_62_13_48, ↓s_62_16, ↓s_62_17_22, ↓s_62_17_48, ↓s_62_20, ↓s_62_21, ↓s_62_22, ↓s_62_23a, ↓s_62_23b, ↓s_62_24_22, ↓s_62_24_48, ↓s_62_27, ↓s_62_28, ↓s_62_29_22, ↓s_62_29_48, ↓s_62_32, ↓s_62_33, ↓s_62_34, ↓s_62_37, ↓s_62_38a, ↓s_62_38b, ↓s_62_39_22, ↓s_62_39_48, ↓s_62_42, ↓s_62_43, ↓s_62_44_22, ↓s_62_44_48, ↓s_62_47, ↓s_62_48, ↓s_63_0, ↓s_63_1_22, ↓s_63_1_48, ↓s_63_4, ↓s_63_6, ↓s_63_9, ↓s_63_10, ↓s_63_11, ↓s_63_14, ↓s_63_15, ↓s_63_16a, ↓s_63_16b, ↓s_63_17_22, ↓s_63_17_48, ↓s_63_20, ↓s_63_21, ↓s_63_22_22, ↓s_63_22_48, ↓s_63_25, ↓s_63_26, w32c_64, ↓s_66_0, ↓s_66_1_22, ↓s_66_1_48, ↓s_66_4, ↓s_66_6, ↓s_66_9, ↓s_66_10_22, ↓s_66_10_48, ↓s_66_13, ↓s_66_14_22, ↓s_66_14_48, ↓s_66_17, ↓s_66_18, ↓s_66_19, ↓s_66_20_22, ↓s_66_20_48, ↓s_66_23, ↓s_66_24_22, ↓s_66_24_48, ↓s_66_27, ↓s_66_28, ↓s_66_29, ↓s_66_30a, ↓s_66_30b, ↓s_66_31_22, ↓s_66_31_48, ↓s_66_34, ↓s_66_35, ↓s_66_36_22, ↓s_66_36_48, ↓s_66_39, ↓s_66_40, ↓s_72_0, ↓s_72_1_22, ↓s_72_1_48, ↓s_72_4, ↓s_72_7, ↓s_72_8, ↓s_72_11, ↓s_72_12_22, ↓s_72_12_48, ↓s_72_15, ↓s_72_16_22, ↓s_72_16_48, ↓s_72_19, ↓s_72_20, ↓s_72_21, ↓s_72_22, ↓s_72_25, ↓s_123_0, ↓s_123_1, ↓s_123_4, ↓s_123_7, ↓s_123_8, ↓s_123_9, ↓s_123_12, ↓s_123_13, ↓s_123_14, ↓s_123_17, ↓s_123_20, ↓s_123_21, ↓s_123_22, ↓s_123_25, ↓s_123_26, zio_48, zar_49, zia_49, zln_49, zit_49, zar_50, zia_50, zln_50, zit_50, zar_53, zia_53, zln_53, zit_53, zio_22, zar_23, zia_23, zln_23, zit_23, zio_55, zar_24, zia_24, zln_24, zit_24, zar_27, zia_27, zln_27, zit_27]
  refine ⟨fun _ => ?_, fun h => absurd h (by (first | exact Nat.le_of_ble_eq_true rfl | exact (fun h => absurd h.1 (by decide)) | omega))⟩
  refine zgo_ok (n := 80) hE xmo_68 (cs := zc_68) ?_
  simp only [ynok_30, ynok_31, w32c_0, w32c_1, w32c_2, w32c_3, w32c_4, w32c_5, w32c_6, w32c_7, w32c_8, w32c_9, w32c_10, w32c_11, w32c_12, w32c_13, w32c_14, w32c_m1, w32c_m2, w32c_118, Int.reduceAdd, Int.reduceSub, Int.reduceMul, yput_s, yput_n, znl_n, znl_0, znl_1, znl_4, ysum_n, ysum_0, ysum_1, ysum_4, true_and, and_true, Nat.reduceAdd, Nat.reduceLeDiff, true_implies, eq_self, true_or, or_true, or_false, false_or, not_true_eq_false, not_false_eq_true, false_implies, implies_true, yset_s, yset_o, yset_d, ne_eq, Nat.reduceEqDiff, Int.reduceToNat, Int.reduceEq, Int.reduceLE, Int.reduceLT, Classical.not_not, Nat.reduceLT, ↓zvk_s, ↓zvk_n, ↓s_68_0, ↓s_68_1, ↓s_68_4n, ↓s_68_4i, ↓s_68_4p, ↓s_68_5, ↓s_68_6, ↓s_68_7, ↓s_68_10, ↓s_68_11_22, ↓s_68_11_48, ↓s_68_14, ↓s_68_16, ↓s_68_19, ↓s_68_20, ↓s_68_21, ↓s_68_24, ↓s_68_27, ↓s_68_28, ↓s_68_29, ↓s_68_32, ↓g_68_33, ↓k_68_33, ↓s_68_34, ↓s_68_36, ↓s_68_39, ↓s_68_40, ↓s_68_43, ↓s_68_44, ↓g_68_47, ↓k_68_47, ↓s_68_48, ↓s_68_49, ↓s_68_52, ↓s_68_55, ↓s_68_56, ↓s_68_57, ↓s_68_60, ↓s_68_63, ↓s_68_64, ↓s_68_67, ↓s_68_68, ↓g_68_69, ↓k_68_69, ↓s_68_70, ↓s_68_71, ↓s_68_74, ↓s_68_75, ↓s_68_77, ↓s_68_80, ↓s_68_81, ↓s_68_83, ↓s_68_86, ↓s_68_87, ↓s_68_88, ↓s_68_91, ↓g_68_92, ↓k_68_92, ↓s_68_93, ↓s_68_96, ↓s_68_99, ↓s_68_102, ↓s_68_103, ↓s_68_104, ↓s_68_107, ↓s_68_108, ↓s_68_109, ↓s_68_112, ↓g_68_113, ↓k_68_113, ↓s_68_114, ↓s_68_115_22, ↓s_68_115_48, ↓s_68_118, ↓s_68_119, ↓s_68_120, ↓s_68_123, ↓s_68_126, ↓s_68_127, ↓s_68_128, ↓s_68_129, ↓s_68_132, ↓s_68_135, ↓s_68_138, ↓s_68_139, ↓s_68_142, ↓s_68_143, w32c_32, w32c_33, w32c_39, w32c_9999, ↓s_62_0, ↓s_62_1_22, ↓s_62_1_48, ↓s_62_4, ↓s_62_5_22, ↓s_62_5_48, ↓s_62_8, ↓s_62_9, ↓s_62_12, ↓s_62_13_22, ↓s_62_13_48, ↓s_62_16, ↓s_62_17_22, ↓s_62_17_48, ↓s_62_20, ↓s_62_21, ↓s_62_22, ↓s_62_23a, ↓s_62_23b, ↓s_62_24_22, ↓s_62_24_48, ↓s_62_27, ↓s_62_28, ↓s_62_29_22, ↓s_62_29_48, ↓s_62_32, ↓s_62_33, ↓s_62_34, ↓s_62_37, ↓s_62_38a, ↓s_62_38b, ↓s_62_39_22, ↓s_62_39_48, ↓s_62_42, ↓s_62_43, ↓s_62_44_22, ↓s_62_44_48, ↓s_62_47, ↓s_62_48, ↓s_63_0, ↓s_63_1_22, ↓s_63_1_48, ↓s_63_4, ↓s_63_6, ↓s_63_9, ↓s_63_10, ↓s_63_11, ↓s_63_14, ↓s_63_15, ↓s_63_16a, ↓s_63_16b, ↓s_63_17_22, ↓s_63_17_48, ↓s_63_20, ↓s_63_21, ↓s_63_22_22, ↓s_63_22_48, ↓s_63_25, ↓s_63_26, w32c_64, ↓s_66_0, ↓s_66_1_22, ↓s_66_1_48, ↓s_66_4, ↓s_66_6, ↓s_66_9, ↓s_66_10_22, ↓s_66_10_48, ↓s_66_13, ↓s_66_14_22, ↓s_66_14_48, ↓s_66_17, ↓s_66_18, ↓s_66_19, ↓s_66_20_22, ↓s_66_20_48, ↓s_66_23, ↓s_66_24_22, ↓s_66_24_48, ↓s_66_27, ↓s_66_28, ↓s_66_29, ↓s_66_30a, ↓s_66_30b, ↓s_66_31_22, ↓s_66_31_48, ↓s_66_34, ↓s_66_35, ↓s_66_36_22, ↓s_66_36_48, ↓s_66_39, ↓s_66_40, ↓s_72_0, ↓s_72_1_22, ↓s_72_1_48, ↓s_72_4, ↓s_72_7, ↓s_72_8, ↓s_72_11, ↓s_72_12_22, ↓s_72_12_48, ↓s_72_15, ↓s_72_16_22, ↓s_72_16_48, ↓s_72_19, ↓s_72_20, ↓s_72_21, ↓s_72_22, ↓s_72_25, ↓s_123_0, ↓s_123_1, ↓s_123_4, ↓s_123_7, ↓s_123_8, ↓s_123_9, ↓s_123_12, ↓s_123_13, ↓s_123_14, ↓s_123_17, ↓s_123_20, ↓s_123_21, ↓s_123_22, ↓s_123_25, ↓s_123_26, zio_48, zar_49, zia_49, zln_49, zit_49, zar_50, zia_50, zln_50, zit_50, zar_53, zia_53, zln_53, zit_53, zio_22, zar_23, zia_23, zln_23, zit_23, zio_55, zar_24, zia_24, zln_24, zit_24, zar_27, zia_27, zln_27, zit_27]
  exact ⟨fun h => absurd h (by (first | exact Nat.le_of_ble_eq_true rfl | exact (fun h => absurd h.1 (by decide)) | omega)), fun _ => ⟨fun _ => ⟨fun _ => hQ, fun h => absurd h h7⟩, fun h => absurd (show w32 (m 55 4) < 33 by (first | exact Nat.le_of_ble_eq_true rfl | exact (fun h => absurd h.1 (by decide)) | omega)) h⟩⟩
def FoS (m : yMem) (cn : Nat) (o : sK) : Prop := (w32 (m 48 4) = (o.length : Int) ∧ cKs m o) ∧ w32 (m 48 8) = (cn : Int) ∧ o.length ≤ cn ∧ cn ≤ 64
def ftG (b m : yMem) (f : Nat) : Prop := ∀ i j, amod fvW i j = false → ¬ (i = 52 ∧ j = f) → ¬ (i = 51 ∧ j = f) → m i j = b i j
theorem g_ftell (hE : yEok E) {D : Nat} (hD : 8 ≤ D) (hf : f < 5) (hF : w32 F = (f : Int)) {y : sY} {cn : Nat} {o : sK} (T : cTk ch n mem y) (S : FoS mem cn o) (hQ : ∀ m', ftG mem m' f → cTk ch n m' (yOf (pE y cn o)) → (∀ u, pE y cn o = .inr u → FoE m' f u ∧ w32 (m' 51 f) = (o.length : Int)) → Q none m') : yCon E D xm_71 [(1, 48), (0, F), (1, 55)] mem Q := by
  obtain ⟨d, rfl⟩ := Nat.exists_eq_add_of_le' hD
  have hFt : (w32 F).toNat = f := by rw [hF]; exact Int.toNat_natCast _
  refine e_71 ?_
  refine zvc_ok hE 60 zc_71 _ _ _ _ _ _ _ xmo_71 ?_
  simp only [ynok_30, ynok_31, w32c_0, w32c_1, w32c_2, w32c_3, w32c_4, w32c_5, w32c_6, w32c_7, w32c_8, w32c_9, w32c_10, w32c_11, w32c_12, w32c_13, w32c_14, w32c_m1, w32c_m2, w32c_118, Int.reduceAdd, Int.reduceSub, Int.reduceMul, yput_s, yput_n, znl_n, znl_0, znl_1, znl_4, ysum_n, ysum_0, ysum_1, ysum_4, true_and, and_true, Nat.reduceAdd, Nat.reduceLeDiff, true_implies, eq_self, true_or, or_true, or_false, false_or, not_true_eq_false, not_false_eq_true, false_implies, implies_true, yset_s, yset_o, yset_d, ne_eq, Nat.reduceEqDiff, Int.reduceToNat, Int.reduceEq, Int.reduceLE, Int.reduceLT, Classical.not_not, Nat.reduceLT, ↓zvk_s, ↓zvk_n, ↓s_71_0, ↓s_71_1_22, ↓s_71_1_48, ↓s_71_4, ↓s_71_5, ↓s_71_6_22, ↓s_71_6_48, ↓s_71_9, ↓s_71_10, ↓s_71_11, ↓s_71_12_22, ↓s_71_12_48, ↓s_71_15, ↓s_71_16, ↓s_71_17_22, ↓s_71_17_48, ↓s_71_20, ↓s_71_21, ↓s_71_22_22, ↓s_71_22_48, ↓s_71_25, ↓s_71_26n, ↓s_71_26i, ↓s_71_26p, ↓s_71_27, ↓s_71_28n, ↓s_71_28i, ↓s_71_28p, ↓g_71_30, ↓k_71_30, ↓s_71_32, ↓s_71_35, ↓s_71_38, ↓s_71_39, ↓s_71_42, ↓s_71_43_22, ↓s_71_43_48, ↓s_71_46, ↓s_71_49, ↓s_71_50, ↓s_71_51, ↓s_71_54, ↓s_71_57, ↓s_71_58, ↓s_71_59, ↓g_71_62n, ↓g_71_62i, ↓g_71_62p, ↓k_71_62, ↓s_71_63, ↓s_71_64, ↓s_71_67, ↓s_71_68, ↓g_71_71n, ↓g_71_71i, ↓g_71_71p, ↓k_71_71, ↓s_71_74, ↓g_71_77, ↓k_71_77, ↓s_71_78, ↓s_71_79, ↓s_71_82, ↓s_71_83_22, ↓s_71_83_48, ↓s_71_86, ↓s_71_87, ↓s_71_88_22, ↓s_71_88_48, ↓s_71_91, ↓s_71_92, w32c_800, zio_48, zar_51, zia_51, zln_51, zit_51, zar_52, zia_52, zln_52, zit_52, zio_22, zio_55, zar_25, zia_25, zln_25, zit_25, zar_26, zia_26, zln_26, zit_26]
  rw [hFt]
  refine ⟨⟨by (first | exact Nat.le_of_ble_eq_true rfl | exact (fun h => absurd h.1 (by decide)) | omega), by (first | exact Nat.le_of_ble_eq_true rfl | exact (fun h => absurd h.1 (by decide)) | omega)⟩, ?_⟩
  have e48 : ∀ j, j ≠ 6 → j ≠ 7 → j ≠ 9 → yset (yset (yset (yset mem 51 f (mem 48 4)) 48 6 0) 48 7 0) 48 9 1 48 j = mem 48 j := fun j q6 q7 q9 => by rw [yset_d q9, yset_d q7, yset_d q6, yset_o (by decide)]
  have C : cFo (yset (yset (yset (yset mem 51 f (mem 48 4)) 48 6 0) 48 7 0) 48 9 1) [] cn 0 o := by
    obtain ⟨⟨a5, a6⟩, a3, a7, a8⟩ := S
    refine ⟨⟨by rw [yset_d (by decide), yset_d (by decide), yset_s]; exact w32c_0, trivial⟩, ⟨by rw [e48 8 (by decide) (by decide) (by decide)]; exact a3, by rw [yset_d (by decide), yset_s]; exact w32c_0⟩, ⟨by rw [e48 4 (by decide) (by decide) (by decide)]; exact a5, cKs_eq a6 (fun j _ => by rw [yset_o (by decide), yset_o (by decide), yset_o (by decide), yset_o (by decide)]) (fun j _ => by rw [yset_o (by decide), yset_o (by decide), yset_o (by decide), yset_o (by decide)])⟩, a7, a8, by decide, rfl⟩
  have T0 : cTk ch n (yset (yset (yset (yset mem 51 f (mem 48 4)) 48 6 0) 48 7 0) 48 9 1) y := cTk_of T (fun j => by rw [yset_o (by decide), yset_o (by decide), yset_o (by decide), yset_o (by decide)]) (fun j => by rw [yset_o (by decide), yset_o (by decide), yset_o (by decide), yset_o (by decide)]) (fun j => by rw [yset_o (by decide), yset_o (by decide), yset_o (by decide), yset_o (by decide)])
  have h9 : w32 (yset (yset (yset (yset mem 51 f (mem 48 4)) 48 6 0) 48 7 0) 48 9 1 48 9) = 1 := by rw [yset_s]; exact w32c_1
  have h51 : w32 (yset (yset (yset (yset mem 51 f (mem 48 4)) 48 6 0) 48 7 0) 48 9 1 51 f) = (o.length : Int) := by rw [yset_o (by decide), yset_o (by decide), yset_o (by decide), yset_s]; exact S.1.1
  have fr : ∀ i j, amod fvW i j = false → ¬ (i = 51 ∧ j = f) → yset (yset (yset (yset mem 51 f (mem 48 4)) 48 6 0) 48 7 0) 48 9 1 i j = mem i j := fun i j q1 q2 => by
    have z : aFrm fvW (yset mem 51 f (mem 48 4)) (yset (yset (yset (yset mem 51 f (mem 48 4)) 48 6 0) 48 7 0) 48 9 1) := aFrm_set (aFrm_set (aFrm_set aFrm_rf rfl) rfl) rfl
    rw [z i j q1, yset_a]
    split
    · next e1 => rw [if_neg (fun e2 => q2 ⟨e1, e2⟩)]
    · rfl
  revert C T0 h9 h51 fr
  generalize yset (yset (yset (yset mem 51 f (mem 48 4)) 48 6 0) 48 7 0) 48 9 1 = b
  intro C T0 h9 h51 fr
  have fin : ∀ m', ftF b m' f → cTk ch n m' (yOf (pE y cn o)) → (∀ u, pE y cn o = .inr u → FoE m' f u) → Q none m' := fun m' g1 g2 g3 => hQ m' (fun i j q1 q2 q3 => by rw [g1 i j q1 q2]; exact fr i j q1 q3) g2 (fun u hu => ⟨g3 u hu, by rw [g1 51 f rfl (fun q => absurd q.1 (by decide))]; exact h51⟩)
  cases y with
  | inl e =>
    refine zgo_ok (n := 60) hE xmo_71 (cs := zc_71) ?_
    simp only [ynok_30, ynok_31, w32c_0, w32c_1, w32c_2, w32c_3, w32c_4, w32c_5, w32c_6, w32c_7, w32c_8, w32c_9, w32c_10, w32c_11, w32c_12, w32c_13, w32c_14, w32c_m1, w32c_m2, w32c_118, Int.reduceAdd, Int.reduceSub, Int.reduceMul, yput_s, yput_n, znl_n, znl_0, znl_1, znl_4, ysum_n, ysum_0, ysum_1, ysum_4, true_and, and_true, Nat.reduceAdd, Nat.reduceLeDiff, true_implies, eq_self, true_or, or_true, or_false, false_or, not_true_eq_false, not_false_eq_true, false_implies, implies_true, yset_s, yset_o, yset_d, ne_eq, Nat.reduceEqDiff, Int.reduceToNat, Int.reduceEq, Int.reduceLE, Int.reduceLT, Classical.not_not, Nat.reduceLT, ↓zvk_s, ↓zvk_n, ↓s_71_0, ↓s_71_1_22, ↓s_71_1_48, ↓s_71_4, ↓s_71_5, ↓s_71_6_22, ↓s_71_6_48, ↓s_71_9, ↓s_71_10, ↓s_71_11, ↓s_71_12_22, ↓s_71_12_48, ↓s_71_15, ↓s_71_16, ↓s_71_17_22, ↓s_71_17_48, ↓s_71_20, ↓s_71_21, ↓s_71_22_22, ↓s_71_22_48, ↓s_71_25, ↓s_71_26n, ↓s_71_26i, ↓s_71_26p, ↓s_71_27, ↓s_71_28n, ↓s_71_28i, ↓s_71_28p, ↓g_71_30, ↓k_71_30, ↓s_71_32, ↓s_71_35, ↓s_71_38, ↓s_71_39, ↓s_71_42, ↓s_71_43_22, ↓s_71_43_48, ↓s_71_46, ↓s_71_49, ↓s_71_50, ↓s_71_51, ↓s_71_54, ↓s_71_57, ↓s_71_58, ↓s_71_59, ↓g_71_62n, ↓g_71_62i, ↓g_71_62p, ↓k_71_62, ↓s_71_63, ↓s_71_64, ↓s_71_67, ↓s_71_68, ↓g_71_71n, ↓g_71_71i, ↓g_71_71p, ↓k_71_71, ↓s_71_74, ↓g_71_77, ↓k_71_77, ↓s_71_78, ↓s_71_79, ↓s_71_82, ↓s_71_83_22, ↓s_71_83_48, ↓s_71_86, ↓s_71_87, ↓s_71_88_22, ↓s_71_88_48, ↓s_71_91, ↓s_71_92, w32c_800, zio_48, zar_51, zia_51, zln_51, zit_51, zar_52, zia_52, zln_52, zit_52, zio_22, zio_55, zar_25, zia_25, zln_25, zit_25, zar_26, zia_26, zln_26, zit_26]
    rw [h9]
    refine ⟨fun h => absurd h (by decide), fun _ => ?_⟩
    have h7 : ¬ w32 (b 55 7) = 0 := fun h => T0.2.2.2.2.2.1 (by have := T0.2.2.2.2.1; (first | exact Nat.le_of_ble_eq_true rfl | exact (fun h => absurd h.1 (by decide)) | omega))
    have g := g_fl1 (f := 1) T0 h7
    refine g_readValue0 hE (by (first | exact Nat.le_of_ble_eq_true rfl | exact (fun h => absurd h.1 (by decide)) | omega)) T0 ?_
    refine zgk_s hE xmo_71 60 zc_71 ?_
    simp only [ynok_30, ynok_31, w32c_0, w32c_1, w32c_2, w32c_3, w32c_4, w32c_5, w32c_6, w32c_7, w32c_8, w32c_9, w32c_10, w32c_11, w32c_12, w32c_13, w32c_14, w32c_m1, w32c_m2, w32c_118, Int.reduceAdd, Int.reduceSub, Int.reduceMul, yput_s, yput_n, znl_n, znl_0, znl_1, znl_4, ysum_n, ysum_0, ysum_1, ysum_4, true_and, and_true, Nat.reduceAdd, Nat.reduceLeDiff, true_implies, eq_self, true_or, or_true, or_false, false_or, not_true_eq_false, not_false_eq_true, false_implies, implies_true, yset_s, yset_o, yset_d, ne_eq, Nat.reduceEqDiff, Int.reduceToNat, Int.reduceEq, Int.reduceLE, Int.reduceLT, Classical.not_not, Nat.reduceLT, ↓zvk_s, ↓zvk_n, ↓s_71_0, ↓s_71_1_22, ↓s_71_1_48, ↓s_71_4, ↓s_71_5, ↓s_71_6_22, ↓s_71_6_48, ↓s_71_9, ↓s_71_10, ↓s_71_11, ↓s_71_12_22, ↓s_71_12_48, ↓s_71_15, ↓s_71_16, ↓s_71_17_22, ↓s_71_17_48, ↓s_71_20, ↓s_71_21, ↓s_71_22_22, ↓s_71_22_48, ↓s_71_25, ↓s_71_26n, ↓s_71_26i, ↓s_71_26p, ↓s_71_27, ↓s_71_28n, ↓s_71_28i, ↓s_71_28p, ↓g_71_30, ↓k_71_30, ↓s_71_32, ↓s_71_35, ↓s_71_38, ↓s_71_39, ↓s_71_42, ↓s_71_43_22, ↓s_71_43_48, ↓s_71_46, ↓s_71_49, ↓s_71_50, ↓s_71_51, ↓s_71_54, ↓s_71_57, ↓s_71_58, ↓s_71_59, ↓g_71_62n, ↓g_71_62i, ↓g_71_62p, ↓k_71_62, ↓s_71_63, ↓s_71_64, ↓s_71_67, ↓s_71_68, ↓g_71_71n, ↓g_71_71i, ↓g_71_71p, ↓k_71_71, ↓s_71_74, ↓g_71_77, ↓k_71_77, ↓s_71_78, ↓s_71_79, ↓s_71_82, ↓s_71_83_22, ↓s_71_83_48, ↓s_71_86, ↓s_71_87, ↓s_71_88_22, ↓s_71_88_48, ↓s_71_91, ↓s_71_92, w32c_800, zio_48, zar_51, zia_51, zln_51, zit_51, zar_52, zia_52, zln_52, zit_52, zio_22, zio_55, zar_25, zia_25, zln_25, zit_25, zar_26, zia_26, zln_26, zit_26]
    refine gt62_0 hE (by decide) (by decide) (fun g' i' => gt77 (x := .inl e) hE (by (first | exact Nat.le_of_ble_eq_true rfl | exact (fun h => absurd h.1 (by decide)) | omega)) hf hF (cf_fv g.1) g.2 (cFo_cf C g.1) (fun u hu => by cases hu) fin)
  | inr l =>
    have hl : l.length ≤ 801 := by
      obtain ⟨_, h8, _, _, _, e, _, ⟨a, h1, h2⟩, _⟩ := T0
      have h3 := sTl_len (Nat.le_trans h2.1.1 h2.1.2.1) h1
      (first | exact Nat.le_of_ble_eq_true rfl | exact (fun h => absurd h.1 (by decide)) | omega)
    exact gt30 hE (by (first | exact Nat.le_of_ble_eq_true rfl | exact (fun h => absurd h.1 (by decide)) | omega)) hf hF (sy_fuel (l.length + 1) true [] l cn 0 o (Nat.lt_succ_self _)) fin (l.length + 1) true [] l cn 0 o b 1 0 rfl aFrm_rf T0 C h9 w32c_1 (by decide) (by rw [w32c_0]; (first | exact Nat.le_of_ble_eq_true rfl | exact (fun h => absurd h.1 (by decide)) | omega))
end CT
end
section
theorem s_111_0 {E : yE} {n d : Nat} {mem : yMem} {Post : Option yV → yMem → Prop} {st : List yV} {r0 r2 : Option yV} {x : Int} : zvc E (n + 1) [] d xm_111 0 [r0, some (0, x), r2] (st) mem Post = (zvc E n [] d xm_111 1 [r0, some (0, x), r2] ((0, x) :: st) mem Post) := zrf rfl
theorem s_111_1 {E : yE} {n d : Nat} {mem : yMem} {Post : Option yV → yMem → Prop} {st : List yV} {r0 r1 r2 : Option yV} {x : Int} : zvc E (n + 1) [] d xm_111 1 [r0, r1, r2] ((0, x) :: st) mem Post = ((w32 x = w32 0 → zvc E n [] d xm_111 15 [r0, r1, r2] (st) mem Post) ∧ (¬ (w32 x = w32 0) → zvc E n [] d xm_111 4 [r0, r1, r2] (st) mem Post)) := zrf rfl
theorem s_111_4 {E : yE} {n d : Nat} {mem : yMem} {Post : Option yV → yMem → Prop} {st : List yV} {r1 r2 : Option yV} {x : Int} : zvc E (n + 1) [] d xm_111 4 [some (1, x), r1, r2] (st) mem Post = (zvc E n [] d xm_111 5 [some (1, x), r1, r2] ((1, x) :: st) mem Post) := zrf rfl
theorem s_111_5 {E : yE} {n d : Nat} {mem : yMem} {Post : Option yV → yMem → Prop} {st : List yV} {r0 r1 r2 : Option yV} : zvc E (n + 1) [] d xm_111 5 [r0, r1, r2] ((1, 54) :: st) mem Post = (zvc E n [] d xm_111 8 [r0, r1, r2] ((1, 55) :: st) mem Post) := zrf rfl
theorem s_111_8 {E : yE} {n d : Nat} {mem : yMem} {Post : Option yV → yMem → Prop} {st : List yV} {r0 r1 r2 : Option yV} : zvc E (n + 1) [] d xm_111 8 [r0, r1, r2] (st) mem Post = (zvc E n [] d xm_111 9 [r0, r1, r2] ((0, 3) :: st) mem Post) := zrf rfl
theorem s_111_9 {E : yE} {n d : Nat} {mem : yMem} {Post : Option yV → yMem → Prop} {st : List yV} {r0 r1 r2 : Option yV} {z a0 : Int} : zvc E (n + 1) [] (d + 1) xm_111 9 [r0, r1, r2] ((0, a0) :: (1, z) :: st) mem Post = (zio z 9 = true ∧ ysum st ≤ 8 ∧ zvc E n [] d xm_123 0 [some (1, z), some (0, a0)] [] mem (fun v mem' => zvk E n [] (d + 1) xm_111 12 [r0, r1, r2] st v mem' Post)) := zrf rfl
theorem s_111_12a {E : yE} {n d : Nat} {mem : yMem} {Post : Option yV → yMem → Prop} {st : List yV} {r0 r1 r2 : Option yV} {x : Int} : zvc E (n + 1) [] d xm_111 12 [r0, r1, r2] ((0, x) :: st) mem Post = (zvc E n [] d xm_111 13 [r0, r1, r2] (st) mem Post) := zrf rfl
theorem s_111_12b {E : yE} {n d : Nat} {mem : yMem} {Post : Option yV → yMem → Prop} {st : List yV} {r0 r1 r2 : Option yV} {x : Int} : zvc E (n + 1) [] d xm_111 12 [r0, r1, r2] ((1, x) :: st) mem Post = (zvc E n [] d xm_111 13 [r0, r1, r2] (st) mem Post) := zrf rfl
theorem s_111_13 {E : yE} {n d : Nat} {mem : yMem} {Post : Option yV → yMem → Prop} {st : List yV} {r0 r1 r2 : Option yV} : zvc E (n + 1) [] d xm_111 13 [r0, r1, r2] (st) mem Post = (zvc E n [] d xm_111 14 [r0, r1, r2] ((0, 0) :: st) mem Post) := zrf rfl
theorem s_111_14 {E : yE} {n d : Nat} {mem : yMem} {Post : Option yV → yMem → Prop} {r0 r1 r2 : Option yV} {x : Int} : zvc E (n + 1) [] d xm_111 14 [r0, r1, r2] ([(0, x)]) mem Post = (Post (some (0, x)) mem) := zrf rfl
theorem s_111_15 {E : yE} {n d : Nat} {mem : yMem} {Post : Option yV → yMem → Prop} {st : List yV} {r1 r2 : Option yV} {x : Int} : zvc E (n + 1) [] d xm_111 15 [some (1, x), r1, r2] (st) mem Post = (zvc E n [] d xm_111 16 [some (1, x), r1, r2] ((1, x) :: st) mem Post) := zrf rfl
theorem s_111_16 {E : yE} {n d : Nat} {mem : yMem} {Post : Option yV → yMem → Prop} {st : List yV} {r0 r1 r2 : Option yV} : zvc E (n + 1) [] d xm_111 16 [r0, r1, r2] ((1, 54) :: st) mem Post = (zvc E n [] d xm_111 19 [r0, r1, r2] ((1, 55) :: st) mem Post) := zrf rfl
theorem s_111_19 {E : yE} {n d : Nat} {mem : yMem} {Post : Option yV → yMem → Prop} {st : List yV} {r0 r1 r2 : Option yV} {z : Int} : zvc E (n + 1) [] d xm_111 19 [r0, r1, r2] ((1, z) :: st) mem Post = (zio z 9 = true ∧ ysum st ≤ 8 ∧ yCon E d xm_126 [(1, z)] mem (fun v mem' => zgk E d xm_111 22 [r0, r1, r2] st v mem' Post)) := zrf rfl
theorem s_111_22 {E : yE} {n d : Nat} {mem : yMem} {Post : Option yV → yMem → Prop} {st : List yV} {r1 r2 : Option yV} {x : Int} : zvc E (n + 1) [] d xm_111 22 [some (1, x), r1, r2] (st) mem Post = (zvc E n [] d xm_111 23 [some (1, x), r1, r2] ((1, x) :: st) mem Post) := zrf rfl
theorem s_111_23 {E : yE} {n d : Nat} {mem : yMem} {Post : Option yV → yMem → Prop} {st : List yV} {r0 r1 r2 : Option yV} : zvc E (n + 1) [] d xm_111 23 [r0, r1, r2] (st) mem Post = (zvc E n [] d xm_111 24 [r0, r1, r2] ((0, 0) :: st) mem Post) := zrf rfl
theorem s_111_24 {E : yE} {n d : Nat} {mem : yMem} {Post : Option yV → yMem → Prop} {st : List yV} {r0 r1 : Option yV} {x : Int} : zvc E (n + 1) [] d xm_111 24 [r0, r1, some (0, x)] (st) mem Post = (zvc E n [] d xm_111 25 [r0, r1, some (0, x)] ((0, x) :: st) mem Post) := zrf rfl
theorem s_111_25 {E : yE} {n d : Nat} {mem : yMem} {Post : Option yV → yMem → Prop} {st : List yV} {r0 r1 r2 : Option yV} {z a0 a1 : Int} : zvc E (n + 1) [] d xm_111 25 [r0, r1, r2] ((0, a1) :: (0, a0) :: (1, z) :: st) mem Post = (zio z 8 = true ∧ ysum st ≤ 8 ∧ yCon E d xm_112 [(1, z), (0, a0), (0, a1)] mem (fun v mem' => zgk E d xm_111 28 [r0, r1, r2] st v mem' Post)) := zrf rfl
theorem s_111_28 {E : yE} {n d : Nat} {mem : yMem} {Post : Option yV → yMem → Prop} {r0 r1 r2 : Option yV} {x : Int} : zvc E (n + 1) [] d xm_111 28 [r0, r1, r2] ([(0, x)]) mem Post = (Post (some (0, x)) mem) := zrf rfl
theorem s_113_0 {E : yE} {n d : Nat} {mem : yMem} {Post : Option yV → yMem → Prop} {st : List yV} {r1 : Option yV} {x : Int} : zvc E (n + 1) [] d xm_113 0 [some (1, x), r1] (st) mem Post = (zvc E n [] d xm_113 1 [some (1, x), r1] ((1, x) :: st) mem Post) := zrf rfl
theorem s_113_1 {E : yE} {n d : Nat} {mem : yMem} {Post : Option yV → yMem → Prop} {st : List yV} {r1 : Option yV} {x : Int} : zvc E (n + 1) [] d xm_113 1 [some (1, x), r1] (st) mem Post = (zvc E n [] d xm_113 2 [some (1, x), r1] ((1, x) :: st) mem Post) := zrf rfl
theorem s_113_2 {E : yE} {n d : Nat} {mem : yMem} {Post : Option yV → yMem → Prop} {st : List yV} {r0 r1 : Option yV} : zvc E (n + 1) [] d xm_113 2 [r0, r1] ((1, 54) :: st) mem Post = (zvc E n [] d xm_113 5 [r0, r1] ((1, 28) :: st) mem Post) := zrf rfl
theorem s_113_5_2 {E : yE} {n d : Nat} {mem : yMem} {Post : Option yV → yMem → Prop} {st : List yV} {r0 r1 : Option yV} : zvc E (n + 1) [] d xm_113 5 [r0, r1] ((1, 2) :: st) mem Post = (zvc E n [] d xm_113 8 [r0, r1] ((1, 9) :: st) mem Post) := zrf rfl
theorem s_113_5_28 {E : yE} {n d : Nat} {mem : yMem} {Post : Option yV → yMem → Prop} {st : List yV} {r0 r1 : Option yV} : zvc E (n + 1) [] d xm_113 5 [r0, r1] ((1, 28) :: st) mem Post = (zvc E n [] d xm_113 8 [r0, r1] ((1, 35) :: st) mem Post) := zrf rfl
theorem s_113_8 {E : yE} {n d : Nat} {mem : yMem} {Post : Option yV → yMem → Prop} {st : List yV} {r0 r1 : Option yV} {z a0 : Int} : zvc E (n + 1) [] d xm_113 8 [r0, r1] ((1, a0) :: (1, z) :: st) mem Post = (zio z 8 = true ∧ ysum st ≤ 8 ∧ yCon E d xm_110 [(1, z), (1, a0)] mem (fun v mem' => zgk E d xm_113 11 [r0, r1] st v mem' Post)) := zrf rfl
theorem s_113_11n {E : yE} {n d : Nat} {mem : yMem} {Post : Option yV → yMem → Prop} {st : List yV} {r1 : Option yV} {x : Int} : zvc E (n + 1) [] d xm_113 11 [none, r1] ((0, x) :: st) mem Post = (zvc E n [] d xm_113 12 [none, some (0, x)] (st) mem Post) := zrf rfl
theorem s_113_11i {E : yE} {n d : Nat} {mem : yMem} {Post : Option yV → yMem → Prop} {st : List yV} {r1 : Option yV} {x w : Int} : zvc E (n + 1) [] d xm_113 11 [some (0, w), r1] ((0, x) :: st) mem Post = (zvc E n [] d xm_113 12 [some (0, w), some (0, x)] (st) mem Post) := zrf rfl
theorem s_113_11p {E : yE} {n d : Nat} {mem : yMem} {Post : Option yV → yMem → Prop} {st : List yV} {r1 : Option yV} {x w : Int} : zvc E (n + 1) [] d xm_113 11 [some (1, w), r1] ((0, x) :: st) mem Post = (zvc E n [] d xm_113 12 [some (1, w), some (0, x)] (st) mem Post) := zrf rfl
theorem s_113_12 {E : yE} {n d : Nat} {mem : yMem} {Post : Option yV → yMem → Prop} {st : List yV} {r0 : Option yV} {x : Int} : zvc E (n + 1) [] d xm_113 12 [r0, some (0, x)] (st) mem Post = (zvc E n [] d xm_113 13 [r0, some (0, x)] ((0, x) :: st) mem Post) := zrf rfl
theorem s_113_13 {E : yE} {n d : Nat} {mem : yMem} {Post : Option yV → yMem → Prop} {st : List yV} {r0 r1 : Option yV} : zvc E (n + 1) [] d xm_113 13 [r0, r1] (st) mem Post = (zvc E n [] d xm_113 14 [r0, r1] ((0, (-1)) :: st) mem Post) := zrf rfl
theorem s_113_14 {E : yE} {n d : Nat} {mem : yMem} {Post : Option yV → yMem → Prop} {st : List yV} {r0 r1 : Option yV} {x y : Int} : zvc E (n + 1) [] d xm_113 14 [r0, r1] ((0, y) :: (0, x) :: st) mem Post = ((¬ w32 x = w32 y → zvc E n [] d xm_113 18 [r0, r1] (st) mem Post) ∧ (¬ (¬ w32 x = w32 y) → zvc E n [] d xm_113 17 [r0, r1] (st) mem Post)) := zrf rfl
theorem s_113_17 {E : yE} {n d : Nat} {mem : yMem} {Post : Option yV → yMem → Prop} {r0 r1 : Option yV} : zvc E (n + 1) [] d xm_113 17 [r0, r1] ([]) mem Post = (Post none mem) := zrf rfl
theorem s_113_18 {E : yE} {n d : Nat} {mem : yMem} {Post : Option yV → yMem → Prop} {st : List yV} {r1 : Option yV} {x : Int} : zvc E (n + 1) [] d xm_113 18 [some (1, x), r1] (st) mem Post = (zvc E n [] d xm_113 19 [some (1, x), r1] ((1, x) :: st) mem Post) := zrf rfl
theorem s_113_19 {E : yE} {n d : Nat} {mem : yMem} {Post : Option yV → yMem → Prop} {st : List yV} {r0 r1 : Option yV} : zvc E (n + 1) [] d xm_113 19 [r0, r1] ((1, 54) :: st) mem Post = (zvc E n [] d xm_113 22 [r0, r1] ((1, 28) :: st) mem Post) := zrf rfl
theorem s_113_22_2 {E : yE} {n d : Nat} {mem : yMem} {Post : Option yV → yMem → Prop} {st : List yV} {r0 r1 : Option yV} : zvc E (n + 1) [] d xm_113 22 [r0, r1] ((1, 2) :: st) mem Post = (zvc E n [] d xm_113 25 [r0, r1] ((1, 21) :: st) mem Post) := zrf rfl
theorem s_113_22_28 {E : yE} {n d : Nat} {mem : yMem} {Post : Option yV → yMem → Prop} {st : List yV} {r0 r1 : Option yV} : zvc E (n + 1) [] d xm_113 22 [r0, r1] ((1, 28) :: st) mem Post = (zvc E n [] d xm_113 25 [r0, r1] ((1, 47) :: st) mem Post) := zrf rfl
theorem s_113_25 {E : yE} {n d : Nat} {mem : yMem} {Post : Option yV → yMem → Prop} {st : List yV} {r0 : Option yV} {x : Int} : zvc E (n + 1) [] d xm_113 25 [r0, some (0, x)] (st) mem Post = (zvc E n [] d xm_113 26 [r0, some (0, x)] ((0, x) :: st) mem Post) := zrf rfl
theorem s_113_26 {E : yE} {n d : Nat} {mem : yMem} {Post : Option yV → yMem → Prop} {st : List yV} {r1 : Option yV} {x : Int} : zvc E (n + 1) [] d xm_113 26 [some (1, x), r1] (st) mem Post = (zvc E n [] d xm_113 27 [some (1, x), r1] ((1, x) :: st) mem Post) := zrf rfl
theorem s_113_27 {E : yE} {n d : Nat} {mem : yMem} {Post : Option yV → yMem → Prop} {st : List yV} {r0 r1 : Option yV} : zvc E (n + 1) [] d xm_113 27 [r0, r1] (st) mem Post = (zvc E n [] d xm_113 28 [r0, r1] ((0, 0) :: st) mem Post) := zrf rfl
theorem s_113_28 {E : yE} {n d : Nat} {mem : yMem} {Post : Option yV → yMem → Prop} {st : List yV} {r0 r1 : Option yV} : zvc E (n + 1) [] d xm_113 28 [r0, r1] (st) mem Post = (zvc E n [] d xm_113 31 [r0, r1] ((0, 999) :: st) mem Post) := zrf rfl
theorem s_113_31 {E : yE} {n d : Nat} {mem : yMem} {Post : Option yV → yMem → Prop} {st : List yV} {r0 r1 : Option yV} {z a0 a1 : Int} : zvc E (n + 1) [] d xm_113 31 [r0, r1] ((0, a1) :: (0, a0) :: (1, z) :: st) mem Post = (zio z 8 = true ∧ ysum st ≤ 8 ∧ yCon E d xm_112 [(1, z), (0, a0), (0, a1)] mem (fun v mem' => zgk E d xm_113 34 [r0, r1] st v mem' Post)) := zrf rfl
theorem s_113_34 {E : yE} {n d : Nat} {mem : yMem} {Post : Option yV → yMem → Prop} {st : List yV} {r0 r1 : Option yV} {x z j : Int} : zvc E (n + 1) [] d xm_113 34 [r0, r1] ((0, x) :: (0, j) :: (1, z) :: st) mem Post = ((0 ≤ w32 j ∧ w32 j < ((zar z 0 : Nat) : Int)) ∧ zvc E n [] d xm_113 35 [r0, r1] (st) (yset mem z.toNat (w32 j).toNat x) Post) := zrf rfl
theorem s_113_35 {E : yE} {n d : Nat} {mem : yMem} {Post : Option yV → yMem → Prop} {st : List yV} {r1 : Option yV} {x : Int} : zvc E (n + 1) [] d xm_113 35 [some (1, x), r1] (st) mem Post = (zvc E n [] d xm_113 36 [some (1, x), r1] ((1, x) :: st) mem Post) := zrf rfl
theorem s_113_36 {E : yE} {n d : Nat} {mem : yMem} {Post : Option yV → yMem → Prop} {st : List yV} {r0 r1 : Option yV} : zvc E (n + 1) [] d xm_113 36 [r0, r1] ((1, 54) :: st) mem Post = (zvc E n [] d xm_113 39 [r0, r1] ((1, 28) :: st) mem Post) := zrf rfl
theorem s_113_39_2 {E : yE} {n d : Nat} {mem : yMem} {Post : Option yV → yMem → Prop} {st : List yV} {r0 r1 : Option yV} : zvc E (n + 1) [] d xm_113 39 [r0, r1] ((1, 2) :: st) mem Post = (zvc E n [] d xm_113 42 [r0, r1] ((1, 22) :: st) mem Post) := zrf rfl
theorem s_113_39_28 {E : yE} {n d : Nat} {mem : yMem} {Post : Option yV → yMem → Prop} {st : List yV} {r0 r1 : Option yV} : zvc E (n + 1) [] d xm_113 39 [r0, r1] ((1, 28) :: st) mem Post = (zvc E n [] d xm_113 42 [r0, r1] ((1, 48) :: st) mem Post) := zrf rfl
theorem s_113_42 {E : yE} {n d : Nat} {mem : yMem} {Post : Option yV → yMem → Prop} {st : List yV} {r0 r1 : Option yV} : zvc E (n + 1) [] d xm_113 42 [r0, r1] (st) mem Post = (zvc E n [] d xm_113 43 [r0, r1] ((0, 2) :: st) mem Post) := zrf rfl
theorem s_113_43 {E : yE} {n d : Nat} {mem : yMem} {Post : Option yV → yMem → Prop} {st : List yV} {r0 : Option yV} {x : Int} : zvc E (n + 1) [] d xm_113 43 [r0, some (0, x)] (st) mem Post = (zvc E n [] d xm_113 44 [r0, some (0, x)] ((0, x) :: st) mem Post) := zrf rfl
theorem s_113_44 {E : yE} {n d : Nat} {mem : yMem} {Post : Option yV → yMem → Prop} {st : List yV} {r0 r1 : Option yV} {x y : Int} : zvc E (n + 1) [] d xm_113 44 [r0, r1] ((0, y) :: (0, x) :: st) mem Post = (zvc E n [] d xm_113 45 [r0, r1] ((0, x + y) :: st) mem Post) := zrf rfl
theorem s_113_45 {E : yE} {n d : Nat} {mem : yMem} {Post : Option yV → yMem → Prop} {st : List yV} {r1 : Option yV} {x : Int} : zvc E (n + 1) [] d xm_113 45 [some (1, x), r1] (st) mem Post = (zvc E n [] d xm_113 46 [some (1, x), r1] ((1, x) :: st) mem Post) := zrf rfl
theorem s_113_46 {E : yE} {n d : Nat} {mem : yMem} {Post : Option yV → yMem → Prop} {st : List yV} {r0 r1 : Option yV} : zvc E (n + 1) [] d xm_113 46 [r0, r1] ((1, 54) :: st) mem Post = (zvc E n [] d xm_113 49 [r0, r1] ((1, 55) :: st) mem Post) := zrf rfl
theorem s_113_49 {E : yE} {n d : Nat} {mem : yMem} {Post : Option yV → yMem → Prop} {st : List yV} {r0 r1 : Option yV} {z a0 a1 : Int} : zvc E (n + 1) [] d xm_113 49 [r0, r1] ((1, a1) :: (0, a0) :: (1, z) :: st) mem Post = (zio z 2 = true ∧ ysum st ≤ 8 ∧ yCon E d xm_71 [(1, z), (0, a0), (1, a1)] mem (fun v mem' => zgk E d xm_113 52 [r0, r1] st v mem' Post)) := zrf rfl
theorem s_113_52 {E : yE} {n d : Nat} {mem : yMem} {Post : Option yV → yMem → Prop} {r0 r1 : Option yV} : zvc E (n + 1) [] d xm_113 52 [r0, r1] ([]) mem Post = (Post none mem) := zrf rfl
def zc_114 : List Nat := [59]
theorem s_114_0 {E : yE} {n d : Nat} {mem : yMem} {Post : Option yV → yMem → Prop} {st : List yV} {r1 : Option yV} {x : Int} : zvc E (n + 1) zc_114 d xm_114 0 [some (1, x), r1] (st) mem Post = (zvc E n zc_114 d xm_114 1 [some (1, x), r1] ((1, x) :: st) mem Post) := zrf rfl
theorem s_114_1 {E : yE} {n d : Nat} {mem : yMem} {Post : Option yV → yMem → Prop} {st : List yV} {r0 r1 : Option yV} : zvc E (n + 1) zc_114 d xm_114 1 [r0, r1] ((1, 54) :: st) mem Post = (zvc E n zc_114 d xm_114 4 [r0, r1] ((1, 55) :: st) mem Post) := zrf rfl
theorem s_114_4 {E : yE} {n d : Nat} {mem : yMem} {Post : Option yV → yMem → Prop} {st : List yV} {r0 r1 : Option yV} {z : Int} : zvc E (n + 1) zc_114 d xm_114 4 [r0, r1] ((1, z) :: st) mem Post = (zio z 9 = true ∧ ysum st ≤ 8 ∧ yCon E d xm_126 [(1, z)] mem (fun v mem' => zgk E d xm_114 7 [r0, r1] st v mem' Post)) := zrf rfl
theorem s_114_7 {E : yE} {n d : Nat} {mem : yMem} {Post : Option yV → yMem → Prop} {st : List yV} {r1 : Option yV} {x : Int} : zvc E (n + 1) zc_114 d xm_114 7 [some (1, x), r1] (st) mem Post = (zvc E n zc_114 d xm_114 8 [some (1, x), r1] ((1, x) :: st) mem Post) := zrf rfl
theorem s_114_8 {E : yE} {n d : Nat} {mem : yMem} {Post : Option yV → yMem → Prop} {st : List yV} {r0 r1 : Option yV} : zvc E (n + 1) zc_114 d xm_114 8 [r0, r1] ((1, 54) :: st) mem Post = (zvc E n zc_114 d xm_114 11 [r0, r1] ((1, 55) :: st) mem Post) := zrf rfl
theorem s_114_11 {E : yE} {n d : Nat} {mem : yMem} {Post : Option yV → yMem → Prop} {st : List yV} {r0 r1 : Option yV} : zvc E (n + 1) zc_114 d xm_114 11 [r0, r1] ((1, 55) :: st) mem Post = (zvc E n zc_114 d xm_114 14 [r0, r1] ((0, mem 55 4) :: st) mem Post) := zrf rfl
theorem s_114_14 {E : yE} {n d : Nat} {mem : yMem} {Post : Option yV → yMem → Prop} {st : List yV} {r0 r1 : Option yV} : zvc E (n + 1) zc_114 d xm_114 14 [r0, r1] (st) mem Post = (zvc E n zc_114 d xm_114 16 [r0, r1] ((0, 28) :: st) mem Post) := zrf rfl
theorem s_114_16 {E : yE} {n d : Nat} {mem : yMem} {Post : Option yV → yMem → Prop} {st : List yV} {r0 r1 : Option yV} {x y : Int} : zvc E (n + 1) zc_114 d xm_114 16 [r0, r1] ((0, y) :: (0, x) :: st) mem Post = ((w32 x = w32 y → zvc E n zc_114 d xm_114 41 [r0, r1] (st) mem Post) ∧ (¬ (w32 x = w32 y) → zvc E n zc_114 d xm_114 19 [r0, r1] (st) mem Post)) := zrf rfl
theorem s_114_19 {E : yE} {n d : Nat} {mem : yMem} {Post : Option yV → yMem → Prop} {st : List yV} {r1 : Option yV} {x : Int} : zvc E (n + 1) zc_114 d xm_114 19 [some (1, x), r1] (st) mem Post = (zvc E n zc_114 d xm_114 20 [some (1, x), r1] ((1, x) :: st) mem Post) := zrf rfl
theorem s_114_20 {E : yE} {n d : Nat} {mem : yMem} {Post : Option yV → yMem → Prop} {st : List yV} {r0 r1 : Option yV} : zvc E (n + 1) zc_114 d xm_114 20 [r0, r1] ((1, 54) :: st) mem Post = (zvc E n zc_114 d xm_114 23 [r0, r1] ((1, 55) :: st) mem Post) := zrf rfl
theorem s_114_23 {E : yE} {n d : Nat} {mem : yMem} {Post : Option yV → yMem → Prop} {st : List yV} {r0 r1 : Option yV} : zvc E (n + 1) zc_114 d xm_114 23 [r0, r1] ((1, 55) :: st) mem Post = (zvc E n zc_114 d xm_114 26 [r0, r1] ((0, mem 55 4) :: st) mem Post) := zrf rfl
theorem s_114_26 {E : yE} {n d : Nat} {mem : yMem} {Post : Option yV → yMem → Prop} {st : List yV} {r0 r1 : Option yV} : zvc E (n + 1) zc_114 d xm_114 26 [r0, r1] (st) mem Post = (zvc E n zc_114 d xm_114 28 [r0, r1] ((0, 29) :: st) mem Post) := zrf rfl
theorem s_114_28 {E : yE} {n d : Nat} {mem : yMem} {Post : Option yV → yMem → Prop} {st : List yV} {r0 r1 : Option yV} {x y : Int} : zvc E (n + 1) zc_114 d xm_114 28 [r0, r1] ((0, y) :: (0, x) :: st) mem Post = ((w32 x = w32 y → zvc E n zc_114 d xm_114 41 [r0, r1] (st) mem Post) ∧ (¬ (w32 x = w32 y) → zvc E n zc_114 d xm_114 31 [r0, r1] (st) mem Post)) := zrf rfl
theorem s_114_31 {E : yE} {n d : Nat} {mem : yMem} {Post : Option yV → yMem → Prop} {st : List yV} {r1 : Option yV} {x : Int} : zvc E (n + 1) zc_114 d xm_114 31 [some (1, x), r1] (st) mem Post = (zvc E n zc_114 d xm_114 32 [some (1, x), r1] ((1, x) :: st) mem Post) := zrf rfl
theorem s_114_32 {E : yE} {n d : Nat} {mem : yMem} {Post : Option yV → yMem → Prop} {st : List yV} {r0 r1 : Option yV} : zvc E (n + 1) zc_114 d xm_114 32 [r0, r1] ((1, 54) :: st) mem Post = (zvc E n zc_114 d xm_114 35 [r0, r1] ((1, 55) :: st) mem Post) := zrf rfl
theorem s_114_35 {E : yE} {n d : Nat} {mem : yMem} {Post : Option yV → yMem → Prop} {st : List yV} {r0 r1 : Option yV} : zvc E (n + 1) zc_114 d xm_114 35 [r0, r1] (st) mem Post = (zvc E n zc_114 d xm_114 36 [r0, r1] ((0, 1) :: st) mem Post) := zrf rfl
theorem s_114_36 {E : yE} {n d : Nat} {mem : yMem} {Post : Option yV → yMem → Prop} {st : List yV} {r0 r1 : Option yV} {z a0 : Int} : zvc E (n + 1) zc_114 (d + 1) xm_114 36 [r0, r1] ((0, a0) :: (1, z) :: st) mem Post = (zio z 9 = true ∧ ysum st ≤ 8 ∧ zvc E n [] d xm_123 0 [some (1, z), some (0, a0)] [] mem (fun v mem' => zvk E n zc_114 (d + 1) xm_114 39 [r0, r1] st v mem' Post)) := zrf rfl
theorem s_114_39a {E : yE} {n d : Nat} {mem : yMem} {Post : Option yV → yMem → Prop} {st : List yV} {r0 r1 : Option yV} {x : Int} : zvc E (n + 1) zc_114 d xm_114 39 [r0, r1] ((0, x) :: st) mem Post = (zvc E n zc_114 d xm_114 40 [r0, r1] (st) mem Post) := zrf rfl
theorem s_114_39b {E : yE} {n d : Nat} {mem : yMem} {Post : Option yV → yMem → Prop} {st : List yV} {r0 r1 : Option yV} {x : Int} : zvc E (n + 1) zc_114 d xm_114 39 [r0, r1] ((1, x) :: st) mem Post = (zvc E n zc_114 d xm_114 40 [r0, r1] (st) mem Post) := zrf rfl
theorem s_114_40 {E : yE} {n d : Nat} {mem : yMem} {Post : Option yV → yMem → Prop} {r0 r1 : Option yV} : zvc E (n + 1) zc_114 d xm_114 40 [r0, r1] ([]) mem Post = (Post none mem) := zrf rfl
theorem s_114_41 {E : yE} {n d : Nat} {mem : yMem} {Post : Option yV → yMem → Prop} {st : List yV} {r1 : Option yV} {x : Int} : zvc E (n + 1) zc_114 d xm_114 41 [some (1, x), r1] (st) mem Post = (zvc E n zc_114 d xm_114 42 [some (1, x), r1] ((1, x) :: st) mem Post) := zrf rfl
theorem s_114_42 {E : yE} {n d : Nat} {mem : yMem} {Post : Option yV → yMem → Prop} {st : List yV} {r0 r1 : Option yV} : zvc E (n + 1) zc_114 d xm_114 42 [r0, r1] ((1, 54) :: st) mem Post = (zvc E n zc_114 d xm_114 45 [r0, r1] ((1, 55) :: st) mem Post) := zrf rfl
theorem s_114_45 {E : yE} {n d : Nat} {mem : yMem} {Post : Option yV → yMem → Prop} {st : List yV} {r0 r1 : Option yV} : zvc E (n + 1) zc_114 d xm_114 45 [r0, r1] ((1, 55) :: st) mem Post = (zvc E n zc_114 d xm_114 48 [r0, r1] ((0, mem 55 4) :: st) mem Post) := zrf rfl
theorem s_114_48 {E : yE} {n d : Nat} {mem : yMem} {Post : Option yV → yMem → Prop} {st : List yV} {r0 r1 : Option yV} : zvc E (n + 1) zc_114 d xm_114 48 [r0, r1] (st) mem Post = (zvc E n zc_114 d xm_114 50 [r0, r1] ((0, 28) :: st) mem Post) := zrf rfl
theorem s_114_50 {E : yE} {n d : Nat} {mem : yMem} {Post : Option yV → yMem → Prop} {st : List yV} {r0 r1 : Option yV} {x y : Int} : zvc E (n + 1) zc_114 d xm_114 50 [r0, r1] ((0, y) :: (0, x) :: st) mem Post = ((¬ w32 x = w32 y → zvc E n zc_114 d xm_114 57 [r0, r1] (st) mem Post) ∧ (¬ (¬ w32 x = w32 y) → zvc E n zc_114 d xm_114 53 [r0, r1] (st) mem Post)) := zrf rfl
theorem s_114_53 {E : yE} {n d : Nat} {mem : yMem} {Post : Option yV → yMem → Prop} {st : List yV} {r0 r1 : Option yV} : zvc E (n + 1) zc_114 d xm_114 53 [r0, r1] (st) mem Post = (zvc E n zc_114 d xm_114 54 [r0, r1] ((0, 0) :: st) mem Post) := zrf rfl
theorem s_114_54 {E : yE} {n d : Nat} {mem : yMem} {Post : Option yV → yMem → Prop} {st : List yV} {r0 r1 : Option yV} : zvc E (n + 1) zc_114 d xm_114 54 [r0, r1] (st) mem Post = (zvc E n zc_114 d xm_114 58 [r0, r1] (st) mem Post) := zrf rfl
theorem s_114_57 {E : yE} {n d : Nat} {mem : yMem} {Post : Option yV → yMem → Prop} {st : List yV} {r0 r1 : Option yV} : zvc E (n + 1) zc_114 d xm_114 57 [r0, r1] (st) mem Post = (zvc E n zc_114 d xm_114 58 [r0, r1] ((0, 1) :: st) mem Post) := zrf rfl
theorem s_114_58n {E : yE} {n d : Nat} {mem : yMem} {Post : Option yV → yMem → Prop} {st : List yV} {r1 : Option yV} {x : Int} : zvc E (n + 1) zc_114 d xm_114 58 [none, r1] ((0, x) :: st) mem Post = (zvc E n zc_114 d xm_114 59 [none, some (0, x)] (st) mem Post) := zrf rfl
theorem s_114_58i {E : yE} {n d : Nat} {mem : yMem} {Post : Option yV → yMem → Prop} {st : List yV} {r1 : Option yV} {x w : Int} : zvc E (n + 1) zc_114 d xm_114 58 [some (0, w), r1] ((0, x) :: st) mem Post = (zvc E n zc_114 d xm_114 59 [some (0, w), some (0, x)] (st) mem Post) := zrf rfl
theorem s_114_58p {E : yE} {n d : Nat} {mem : yMem} {Post : Option yV → yMem → Prop} {st : List yV} {r1 : Option yV} {x w : Int} : zvc E (n + 1) zc_114 d xm_114 58 [some (1, w), r1] ((0, x) :: st) mem Post = (zvc E n zc_114 d xm_114 59 [some (1, w), some (0, x)] (st) mem Post) := zrf rfl
theorem g_114_59 {E : yE} {n d : Nat} {mem : yMem} {Post : Option yV → yMem → Prop} {st : List yV} {r1 : Option yV} {x : Int} : zgo E n zc_114 d xm_114 59 [some (1, x), r1] (st) mem Post = (zvc E n zc_114 d xm_114 60 [some (1, x), r1] ((1, x) :: st) mem Post) := zrf rfl
theorem k_114_59 {E : yE} {n d : Nat} {mem : yMem} {Post : Option yV → yMem → Prop} {st : List yV} {rg : zR} : zvc E (n + 1) zc_114 d xm_114 59 rg st mem Post = zG E d xm_114 59 rg st mem Post := zrf rfl
theorem s_114_60 {E : yE} {n d : Nat} {mem : yMem} {Post : Option yV → yMem → Prop} {st : List yV} {r0 r1 : Option yV} : zvc E (n + 1) zc_114 d xm_114 60 [r0, r1] ((1, 54) :: st) mem Post = (zvc E n zc_114 d xm_114 63 [r0, r1] ((1, 28) :: st) mem Post) := zrf rfl
theorem s_114_63_2 {E : yE} {n d : Nat} {mem : yMem} {Post : Option yV → yMem → Prop} {st : List yV} {r0 r1 : Option yV} : zvc E (n + 1) zc_114 d xm_114 63 [r0, r1] ((1, 2) :: st) mem Post = (zvc E n zc_114 d xm_114 66 [r0, r1] ((1, 22) :: st) mem Post) := zrf rfl
theorem s_114_63_28 {E : yE} {n d : Nat} {mem : yMem} {Post : Option yV → yMem → Prop} {st : List yV} {r0 r1 : Option yV} : zvc E (n + 1) zc_114 d xm_114 63 [r0, r1] ((1, 28) :: st) mem Post = (zvc E n zc_114 d xm_114 66 [r0, r1] ((1, 48) :: st) mem Post) := zrf rfl
theorem s_114_66 {E : yE} {n d : Nat} {mem : yMem} {Post : Option yV → yMem → Prop} {st : List yV} {r0 : Option yV} {x : Int} : zvc E (n + 1) zc_114 d xm_114 66 [r0, some (0, x)] (st) mem Post = (zvc E n zc_114 d xm_114 67 [r0, some (0, x)] ((0, x) :: st) mem Post) := zrf rfl
theorem s_114_67 {E : yE} {n d : Nat} {mem : yMem} {Post : Option yV → yMem → Prop} {st : List yV} {r0 r1 : Option yV} {z a0 : Int} : zvc E (n + 1) zc_114 (d + 1) xm_114 67 [r0, r1] ((0, a0) :: (1, z) :: st) mem Post = (zio z 2 = true ∧ ysum st ≤ 8 ∧ zvc E n [] d xm_64 0 [some (1, z), some (0, a0)] [] mem (fun v mem' => zvk E n zc_114 (d + 1) xm_114 70 [r0, r1] st v mem' Post)) := zrf rfl
theorem s_114_70 {E : yE} {n d : Nat} {mem : yMem} {Post : Option yV → yMem → Prop} {st : List yV} {r0 r1 : Option yV} {x : Int} : zvc E (n + 1) zc_114 d xm_114 70 [r0, r1] ((0, x) :: st) mem Post = ((w32 x = w32 0 → zvc E n zc_114 d xm_114 83 [r0, r1] (st) mem Post) ∧ (¬ (w32 x = w32 0) → zvc E n zc_114 d xm_114 73 [r0, r1] (st) mem Post)) := zrf rfl
theorem s_114_73 {E : yE} {n d : Nat} {mem : yMem} {Post : Option yV → yMem → Prop} {st : List yV} {r1 : Option yV} {x : Int} : zvc E (n + 1) zc_114 d xm_114 73 [some (1, x), r1] (st) mem Post = (zvc E n zc_114 d xm_114 74 [some (1, x), r1] ((1, x) :: st) mem Post) := zrf rfl
theorem s_114_74 {E : yE} {n d : Nat} {mem : yMem} {Post : Option yV → yMem → Prop} {st : List yV} {r0 r1 : Option yV} : zvc E (n + 1) zc_114 d xm_114 74 [r0, r1] ((1, 54) :: st) mem Post = (zvc E n zc_114 d xm_114 77 [r0, r1] ((1, 55) :: st) mem Post) := zrf rfl
theorem s_114_77 {E : yE} {n d : Nat} {mem : yMem} {Post : Option yV → yMem → Prop} {st : List yV} {r0 r1 : Option yV} : zvc E (n + 1) zc_114 d xm_114 77 [r0, r1] (st) mem Post = (zvc E n zc_114 d xm_114 78 [r0, r1] ((0, 3) :: st) mem Post) := zrf rfl
theorem s_114_78 {E : yE} {n d : Nat} {mem : yMem} {Post : Option yV → yMem → Prop} {st : List yV} {r0 r1 : Option yV} {z a0 : Int} : zvc E (n + 1) zc_114 (d + 1) xm_114 78 [r0, r1] ((0, a0) :: (1, z) :: st) mem Post = (zio z 9 = true ∧ ysum st ≤ 8 ∧ zvc E n [] d xm_123 0 [some (1, z), some (0, a0)] [] mem (fun v mem' => zvk E n zc_114 (d + 1) xm_114 81 [r0, r1] st v mem' Post)) := zrf rfl
theorem s_114_81a {E : yE} {n d : Nat} {mem : yMem} {Post : Option yV → yMem → Prop} {st : List yV} {r0 r1 : Option yV} {x : Int} : zvc E (n + 1) zc_114 d xm_114 81 [r0, r1] ((0, x) :: st) mem Post = (zvc E n zc_114 d xm_114 82 [r0, r1] (st) mem Post) := zrf rfl
theorem s_114_81b {E : yE} {n d : Nat} {mem : yMem} {Post : Option yV → yMem → Prop} {st : List yV} {r0 r1 : Option yV} {x : Int} : zvc E (n + 1) zc_114 d xm_114 81 [r0, r1] ((1, x) :: st) mem Post = (zvc E n zc_114 d xm_114 82 [r0, r1] (st) mem Post) := zrf rfl
theorem s_114_82 {E : yE} {n d : Nat} {mem : yMem} {Post : Option yV → yMem → Prop} {r0 r1 : Option yV} : zvc E (n + 1) zc_114 d xm_114 82 [r0, r1] ([]) mem Post = (Post none mem) := zrf rfl
theorem s_114_83 {E : yE} {n d : Nat} {mem : yMem} {Post : Option yV → yMem → Prop} {st : List yV} {r1 : Option yV} {x : Int} : zvc E (n + 1) zc_114 d xm_114 83 [some (1, x), r1] (st) mem Post = (zvc E n zc_114 d xm_114 84 [some (1, x), r1] ((1, x) :: st) mem Post) := zrf rfl
theorem s_114_84 {E : yE} {n d : Nat} {mem : yMem} {Post : Option yV → yMem → Prop} {st : List yV} {r0 r1 : Option yV} : zvc E (n + 1) zc_114 d xm_114 84 [r0, r1] ((1, 54) :: st) mem Post = (zvc E n zc_114 d xm_114 87 [r0, r1] ((1, 55) :: st) mem Post) := zrf rfl
theorem s_114_87 {E : yE} {n d : Nat} {mem : yMem} {Post : Option yV → yMem → Prop} {st : List yV} {r0 r1 : Option yV} {z : Int} : zvc E (n + 1) zc_114 d xm_114 87 [r0, r1] ((1, z) :: st) mem Post = (zio z 9 = true ∧ ysum st ≤ 8 ∧ yCon E d xm_126 [(1, z)] mem (fun v mem' => zgk E d xm_114 90 [r0, r1] st v mem' Post)) := zrf rfl
theorem s_114_90 {E : yE} {n d : Nat} {mem : yMem} {Post : Option yV → yMem → Prop} {st : List yV} {r1 : Option yV} {x : Int} : zvc E (n + 1) zc_114 d xm_114 90 [some (1, x), r1] (st) mem Post = (zvc E n zc_114 d xm_114 91 [some (1, x), r1] ((1, x) :: st) mem Post) := zrf rfl
theorem s_114_91 {E : yE} {n d : Nat} {mem : yMem} {Post : Option yV → yMem → Prop} {st : List yV} {r0 r1 : Option yV} : zvc E (n + 1) zc_114 d xm_114 91 [r0, r1] ((1, 54) :: st) mem Post = (zvc E n zc_114 d xm_114 94 [r0, r1] ((1, 28) :: st) mem Post) := zrf rfl
theorem s_114_94_2 {E : yE} {n d : Nat} {mem : yMem} {Post : Option yV → yMem → Prop} {st : List yV} {r0 r1 : Option yV} : zvc E (n + 1) zc_114 d xm_114 94 [r0, r1] ((1, 2) :: st) mem Post = (zvc E n zc_114 d xm_114 97 [r0, r1] ((1, 22) :: st) mem Post) := zrf rfl
theorem s_114_94_28 {E : yE} {n d : Nat} {mem : yMem} {Post : Option yV → yMem → Prop} {st : List yV} {r0 r1 : Option yV} : zvc E (n + 1) zc_114 d xm_114 94 [r0, r1] ((1, 28) :: st) mem Post = (zvc E n zc_114 d xm_114 97 [r0, r1] ((1, 48) :: st) mem Post) := zrf rfl
theorem s_114_97 {E : yE} {n d : Nat} {mem : yMem} {Post : Option yV → yMem → Prop} {st : List yV} {r0 : Option yV} {x : Int} : zvc E (n + 1) zc_114 d xm_114 97 [r0, some (0, x)] (st) mem Post = (zvc E n zc_114 d xm_114 98 [r0, some (0, x)] ((0, x) :: st) mem Post) := zrf rfl
theorem s_114_98 {E : yE} {n d : Nat} {mem : yMem} {Post : Option yV → yMem → Prop} {st : List yV} {r1 : Option yV} {x : Int} : zvc E (n + 1) zc_114 d xm_114 98 [some (1, x), r1] (st) mem Post = (zvc E n zc_114 d xm_114 99 [some (1, x), r1] ((1, x) :: st) mem Post) := zrf rfl
theorem s_114_99 {E : yE} {n d : Nat} {mem : yMem} {Post : Option yV → yMem → Prop} {st : List yV} {r0 r1 : Option yV} : zvc E (n + 1) zc_114 d xm_114 99 [r0, r1] ((1, 54) :: st) mem Post = (zvc E n zc_114 d xm_114 102 [r0, r1] ((1, 55) :: st) mem Post) := zrf rfl
theorem s_114_102 {E : yE} {n d : Nat} {mem : yMem} {Post : Option yV → yMem → Prop} {st : List yV} {r0 r1 : Option yV} {z a0 a1 : Int} : zvc E (n + 1) zc_114 d xm_114 102 [r0, r1] ((1, a1) :: (0, a0) :: (1, z) :: st) mem Post = (zio z 2 = true ∧ ysum st ≤ 8 ∧ yCon E d xm_71 [(1, z), (0, a0), (1, a1)] mem (fun v mem' => zgk E d xm_114 105 [r0, r1] st v mem' Post)) := zrf rfl
theorem s_114_105 {E : yE} {n d : Nat} {mem : yMem} {Post : Option yV → yMem → Prop} {r0 r1 : Option yV} : zvc E (n + 1) zc_114 d xm_114 105 [r0, r1] ([]) mem Post = (Post none mem) := zrf rfl
theorem s_64_0 {E : yE} {n d : Nat} {mem : yMem} {Post : Option yV → yMem → Prop} {st : List yV} {r1 : Option yV} {x : Int} : zvc E (n + 1) [] d xm_64 0 [some (1, x), r1] (st) mem Post = (zvc E n [] d xm_64 1 [some (1, x), r1] ((1, x) :: st) mem Post) := zrf rfl
theorem s_64_1_22 {E : yE} {n d : Nat} {mem : yMem} {Post : Option yV → yMem → Prop} {st : List yV} {r0 r1 : Option yV} : zvc E (n + 1) [] d xm_64 1 [r0, r1] ((1, 22) :: st) mem Post = (zvc E n [] d xm_64 4 [r0, r1] ((1, 26) :: st) mem Post) := zrf rfl
theorem s_64_1_48 {E : yE} {n d : Nat} {mem : yMem} {Post : Option yV → yMem → Prop} {st : List yV} {r0 r1 : Option yV} : zvc E (n + 1) [] d xm_64 1 [r0, r1] ((1, 48) :: st) mem Post = (zvc E n [] d xm_64 4 [r0, r1] ((1, 52) :: st) mem Post) := zrf rfl
theorem s_64_4 {E : yE} {n d : Nat} {mem : yMem} {Post : Option yV → yMem → Prop} {st : List yV} {r0 : Option yV} {x : Int} : zvc E (n + 1) [] d xm_64 4 [r0, some (0, x)] (st) mem Post = (zvc E n [] d xm_64 5 [r0, some (0, x)] ((0, x) :: st) mem Post) := zrf rfl
theorem s_64_5 {E : yE} {n d : Nat} {mem : yMem} {Post : Option yV → yMem → Prop} {st : List yV} {r0 r1 : Option yV} {z j : Int} : zvc E (n + 1) [] d xm_64 5 [r0, r1] ((0, j) :: (1, z) :: st) mem Post = ((0 ≤ w32 j ∧ w32 j < ((zar z 0 : Nat) : Int)) ∧ zvc E n [] d xm_64 6 [r0, r1] ((0, mem z.toNat (w32 j).toNat) :: st) mem Post) := zrf rfl
theorem s_64_6 {E : yE} {n d : Nat} {mem : yMem} {Post : Option yV → yMem → Prop} {st : List yV} {r1 : Option yV} {x : Int} : zvc E (n + 1) [] d xm_64 6 [some (1, x), r1] (st) mem Post = (zvc E n [] d xm_64 7 [some (1, x), r1] ((1, x) :: st) mem Post) := zrf rfl
theorem s_64_7_22 {E : yE} {n d : Nat} {mem : yMem} {Post : Option yV → yMem → Prop} {st : List yV} {r0 r1 : Option yV} : zvc E (n + 1) [] d xm_64 7 [r0, r1] ((1, 22) :: st) mem Post = (zvc E n [] d xm_64 10 [r0, r1] ((1, 25) :: st) mem Post) := zrf rfl
theorem s_64_7_48 {E : yE} {n d : Nat} {mem : yMem} {Post : Option yV → yMem → Prop} {st : List yV} {r0 r1 : Option yV} : zvc E (n + 1) [] d xm_64 7 [r0, r1] ((1, 48) :: st) mem Post = (zvc E n [] d xm_64 10 [r0, r1] ((1, 51) :: st) mem Post) := zrf rfl
theorem s_64_10 {E : yE} {n d : Nat} {mem : yMem} {Post : Option yV → yMem → Prop} {st : List yV} {r0 : Option yV} {x : Int} : zvc E (n + 1) [] d xm_64 10 [r0, some (0, x)] (st) mem Post = (zvc E n [] d xm_64 11 [r0, some (0, x)] ((0, x) :: st) mem Post) := zrf rfl
theorem s_64_11 {E : yE} {n d : Nat} {mem : yMem} {Post : Option yV → yMem → Prop} {st : List yV} {r0 r1 : Option yV} {z j : Int} : zvc E (n + 1) [] d xm_64 11 [r0, r1] ((0, j) :: (1, z) :: st) mem Post = ((0 ≤ w32 j ∧ w32 j < ((zar z 0 : Nat) : Int)) ∧ zvc E n [] d xm_64 12 [r0, r1] ((0, mem z.toNat (w32 j).toNat) :: st) mem Post) := zrf rfl
theorem s_64_12 {E : yE} {n d : Nat} {mem : yMem} {Post : Option yV → yMem → Prop} {st : List yV} {r0 r1 : Option yV} {x y : Int} : zvc E (n + 1) [] d xm_64 12 [r0, r1] ((0, y) :: (0, x) :: st) mem Post = ((w32 x ≤ w32 y → zvc E n [] d xm_64 19 [r0, r1] (st) mem Post) ∧ (¬ (w32 x ≤ w32 y) → zvc E n [] d xm_64 15 [r0, r1] (st) mem Post)) := zrf rfl
theorem s_64_15 {E : yE} {n d : Nat} {mem : yMem} {Post : Option yV → yMem → Prop} {st : List yV} {r0 r1 : Option yV} : zvc E (n + 1) [] d xm_64 15 [r0, r1] (st) mem Post = (zvc E n [] d xm_64 16 [r0, r1] ((0, 1) :: st) mem Post) := zrf rfl
theorem s_64_16 {E : yE} {n d : Nat} {mem : yMem} {Post : Option yV → yMem → Prop} {st : List yV} {r0 r1 : Option yV} : zvc E (n + 1) [] d xm_64 16 [r0, r1] (st) mem Post = (zvc E n [] d xm_64 20 [r0, r1] (st) mem Post) := zrf rfl
theorem s_64_19 {E : yE} {n d : Nat} {mem : yMem} {Post : Option yV → yMem → Prop} {st : List yV} {r0 r1 : Option yV} : zvc E (n + 1) [] d xm_64 19 [r0, r1] (st) mem Post = (zvc E n [] d xm_64 20 [r0, r1] ((0, 0) :: st) mem Post) := zrf rfl
theorem s_64_20 {E : yE} {n d : Nat} {mem : yMem} {Post : Option yV → yMem → Prop} {r0 r1 : Option yV} {x : Int} : zvc E (n + 1) [] d xm_64 20 [r0, r1] ([(0, x)]) mem Post = ((w32 x = 0 ∨ w32 x = 1) ∧ Post (some (0, x)) mem) := zrf rfl
theorem e_111 {E : yE} {d : Nat} {mem : yMem} {Q : Option yV → yMem → Prop} {z a0 a1 : Int} (h : zG E d xm_111 0 [some (1, z), some (0, a0), some (0, a1)] [] mem Q) : yCon E (d + 1) xm_111 [(1, z), (0, a0), (0, a1)] mem Q := zcon_of xmo_111 (Nat.le_of_ble_eq_true rfl) h
theorem e_113 {E : yE} {d : Nat} {mem : yMem} {Q : Option yV → yMem → Prop} {z : Int} (h : zG E d xm_113 0 [some (1, z), none] [] mem Q) : yCon E (d + 1) xm_113 [(1, z)] mem Q := zcon_of xmo_113 (Nat.le_of_ble_eq_true rfl) h
theorem e_114 {E : yE} {d : Nat} {mem : yMem} {Q : Option yV → yMem → Prop} {z : Int} (h : zG E d xm_114 0 [some (1, z), none] [] mem Q) : yCon E (d + 1) xm_114 [(1, z)] mem Q := zcon_of xmo_114 (Nat.le_of_ble_eq_true rfl) h
def pLn (told : Bool) (mx : Int) (y : sY) : Int × sY := if told then (0, yFl 3 y) else yNm 0 mx (yNx y)
section CU
variable {E : yE} {mem : yMem} {Q : Option yV → yMem → Prop} {ch : Nat → Int} {n : Nat} {x : sY}
theorem g_lone (hE : yEok E) {D : Nat} (hD : 6 ≤ D) {a b : Int} {told : Bool} (ha : w32 a = if told then 1 else 0) (hb : w32 b ≤ 99999) (h : cTk ch n mem x) (hQ : ∀ r m, aFrm cfF mem m → w32 r = (pLn told (w32 b) x).1 → cTk ch n m (pLn told (w32 b) x).2 → Q (some (0, r)) m) : yCon E D xm_111 [(1, 54), (0, a), (0, b)] mem Q := by
  obtain ⟨d, rfl⟩ := Nat.exists_eq_add_of_le' hD
  refine e_111 ?_
  refine zvc_ok hE 90 [] _ _ _ _ _ _ _ xmo_111 ?_
  simp only [ynok_30, ynok_31, w32c_0, w32c_1, w32c_2, w32c_3, w32c_4, w32c_5, w32c_6, w32c_7, w32c_8, w32c_9, w32c_10, w32c_11, w32c_12, w32c_13, w32c_14, w32c_m1, w32c_m2, w32c_118, Int.reduceAdd, Int.reduceSub, Int.reduceMul, yput_s, yput_n, znl_n, znl_0, znl_1, znl_4, ysum_n, ysum_0, ysum_1, ysum_4, true_and, and_true, Nat.reduceAdd, Nat.reduceLeDiff, true_implies, eq_self, true_or, or_true, or_false, false_or, not_true_eq_false, not_false_eq_true, false_implies, implies_true, yset_s, yset_o, yset_d, ne_eq, Nat.reduceEqDiff, Int.reduceToNat, Int.reduceEq, Int.reduceLE, Int.reduceLT, Classical.not_not, Nat.reduceLT, ↓zvk_s, ↓zvk_n, ↓s_111_0, ↓s_111_1, ↓s_111_4, ↓s_111_5, ↓s_111_8, ↓s_111_9, ↓s_111_12a, ↓s_111_12b, ↓s_111_13, ↓s_111_14, ↓s_111_15, ↓s_111_16, ↓s_111_19, ↓s_111_22, ↓s_111_23, ↓s_111_24, ↓s_111_25, ↓s_111_28, ↓s_123_0, ↓s_123_1, ↓s_123_4, ↓s_123_7, ↓s_123_8, ↓s_123_9, ↓s_123_12, ↓s_123_13, ↓s_123_14, ↓s_123_17, ↓s_123_20, ↓s_123_21, ↓s_123_22, ↓s_123_25, ↓s_123_26, zio_54, zio_55]
  rw [ha]
  cases told with
  | false =>
    refine ⟨fun _ => ?_, fun h => absurd rfl h⟩
    refine g_next hE (by (first | exact Nat.le_of_ble_eq_true rfl | exact (fun h => absurd h.1 (by decide)) | omega)) h (fun m1 F1 T1 => ?_)
    refine zgk_n hE xmo_111 60 [] ?_
    simp only [ynok_30, ynok_31, w32c_0, w32c_1, w32c_2, w32c_3, w32c_4, w32c_5, w32c_6, w32c_7, w32c_8, w32c_9, w32c_10, w32c_11, w32c_12, w32c_13, w32c_14, w32c_m1, w32c_m2, w32c_118, Int.reduceAdd, Int.reduceSub, Int.reduceMul, yput_s, yput_n, znl_n, znl_0, znl_1, znl_4, ysum_n, ysum_0, ysum_1, ysum_4, true_and, and_true, Nat.reduceAdd, Nat.reduceLeDiff, true_implies, eq_self, true_or, or_true, or_false, false_or, not_true_eq_false, not_false_eq_true, false_implies, implies_true, yset_s, yset_o, yset_d, ne_eq, Nat.reduceEqDiff, Int.reduceToNat, Int.reduceEq, Int.reduceLE, Int.reduceLT, Classical.not_not, Nat.reduceLT, ↓zvk_s, ↓zvk_n, ↓s_111_0, ↓s_111_1, ↓s_111_4, ↓s_111_5, ↓s_111_8, ↓s_111_9, ↓s_111_12a, ↓s_111_12b, ↓s_111_13, ↓s_111_14, ↓s_111_15, ↓s_111_16, ↓s_111_19, ↓s_111_22, ↓s_111_23, ↓s_111_24, ↓s_111_25, ↓s_111_28, ↓s_123_0, ↓s_123_1, ↓s_123_4, ↓s_123_7, ↓s_123_8, ↓s_123_9, ↓s_123_12, ↓s_123_13, ↓s_123_14, ↓s_123_17, ↓s_123_20, ↓s_123_21, ↓s_123_22, ↓s_123_25, ↓s_123_26, zio_54, zio_55]
    refine g_number hE (by (first | exact Nat.le_of_ble_eq_true rfl | exact (fun h => absurd h.1 (by decide)) | omega)) T1 (by decide) hb (fun r m2 F2 e2 T2 => ?_)
    rw [w32c_0] at e2 T2
    refine zgk_s hE xmo_111 60 [] ?_
    simp only [ynok_30, ynok_31, w32c_0, w32c_1, w32c_2, w32c_3, w32c_4, w32c_5, w32c_6, w32c_7, w32c_8, w32c_9, w32c_10, w32c_11, w32c_12, w32c_13, w32c_14, w32c_m1, w32c_m2, w32c_118, Int.reduceAdd, Int.reduceSub, Int.reduceMul, yput_s, yput_n, znl_n, znl_0, znl_1, znl_4, ysum_n, ysum_0, ysum_1, ysum_4, true_and, and_true, Nat.reduceAdd, Nat.reduceLeDiff, true_implies, eq_self, true_or, or_true, or_false, false_or, not_true_eq_false, not_false_eq_true, false_implies, implies_true, yset_s, yset_o, yset_d, ne_eq, Nat.reduceEqDiff, Int.reduceToNat, Int.reduceEq, Int.reduceLE, Int.reduceLT, Classical.not_not, Nat.reduceLT, ↓zvk_s, ↓zvk_n, ↓s_111_0, ↓s_111_1, ↓s_111_4, ↓s_111_5, ↓s_111_8, ↓s_111_9, ↓s_111_12a, ↓s_111_12b, ↓s_111_13, ↓s_111_14, ↓s_111_15, ↓s_111_16, ↓s_111_19, ↓s_111_22, ↓s_111_23, ↓s_111_24, ↓s_111_25, ↓s_111_28, ↓s_123_0, ↓s_123_1, ↓s_123_4, ↓s_123_7, ↓s_123_8, ↓s_123_9, ↓s_123_12, ↓s_123_13, ↓s_123_14, ↓s_123_17, ↓s_123_20, ↓s_123_21, ↓s_123_22, ↓s_123_25, ↓s_123_26, zio_54, zio_55]
    exact hQ r m2 (aFrm_tt F1 F2) e2 T2
  | true =>
    refine ⟨fun h => absurd h (by decide), fun _ => ⟨fun hz => ?_, fun hz => ?_⟩⟩
    · exact hQ 0 _ (g_fl1 (f := 3) h hz).1 w32c_0 (g_fl1 h hz).2
    · exact hQ 0 _ (g_fl0 (f := 3) h (by decide) (by decide) hz).1 w32c_0 (g_fl0 h (by decide) (by decide) hz).2
/-! BAKERS: name, purse -/
abbrev dBk : Type := List (Int × Int)
def cBk (m : yMem) (bk : dBk) : Prop := cNm m 35 3 (bk.map (fun t => t.1)) ∧ ∀ j t, bk[j]? = some t → w32 (m 47 j) = t.2
/-- a baker's LINE: the state, his purse, what his E says -/
def pBk (bk : dBk) (cn : Nat) (o : sK) (x : sY) : sX × (Int × Int) := if (yBg (bk.map (fun t => t.1)) 3 x).1 = -1 then (match (yBg (bk.map (fun t => t.1)) 3 x).2 with | .inl e => .inl e | .inr _ => .inl (0, 0), (0, 0)) else (pE (yNm 0 999 (yBg (bk.map (fun t => t.1)) 3 x).2).2 cn o, (yVl (yNx x), (yNm 0 999 (yBg (bk.map (fun t => t.1)) 3 x).2).1))
abbrev bkW : List (Nat × Nat) := [(55, 0), (35, 2), (36, 0), (47, 0), (48, 5), (48, 7), (48, 8), (48, 9), (48, 10), (49, 0), (50, 0), (53, 0)]
def bkG (b m : yMem) (f : Nat) : Prop := ∀ i j, amod bkW i j = false → ¬ (i = 52 ∧ j = f) → ¬ (i = 51 ∧ j = f) → m i j = b i j
theorem g_readBaker (hE : yEok E) {D : Nat} (hD : 10 ≤ D) {bk : dBk} {cn : Nat} {o : sK} (h : cTk ch n mem x) (hV : cBk mem bk) (hS : FoS mem cn o) (hQ : ∀ m, bkG mem m (2 + bk.length) → cTk ch n m (yOf (pBk bk cn o x).1) → (∀ u, (pBk bk cn o x).1 = .inr u → bk.length < 3 ∧ cBk m (bk ++ [(pBk bk cn o x).2]) ∧ FoE m (2 + bk.length) u ∧ w32 (m 51 (2 + bk.length)) = (o.length : Int)) → Q none m) : yCon E D xm_113 [(1, 54)] mem Q := by
  obtain ⟨d, rfl⟩ := Nat.exists_eq_add_of_le' hD
  refine e_113 ?_
  refine zvc_ok hE 90 [] _ _ _ _ _ _ _ xmo_113 ?_
  simp only [ynok_30, ynok_31, w32c_0, w32c_1, w32c_2, w32c_3, w32c_4, w32c_5, w32c_6, w32c_7, w32c_8, w32c_9, w32c_10, w32c_11, w32c_12, w32c_13, w32c_14, w32c_m1, w32c_m2, w32c_118, Int.reduceAdd, Int.reduceSub, Int.reduceMul, yput_s, yput_n, znl_n, znl_0, znl_1, znl_4, ysum_n, ysum_0, ysum_1, ysum_4, true_and, and_true, Nat.reduceAdd, Nat.reduceLeDiff, true_implies, eq_self, true_or, or_true, or_false, false_or, not_true_eq_false, not_false_eq_true, false_implies, implies_true, yset_s, yset_o, yset_d, ne_eq, Nat.reduceEqDiff, Int.reduceToNat, Int.reduceEq, Int.reduceLE, Int.reduceLT, Classical.not_not, Nat.reduceLT, ↓zvk_s, ↓zvk_n, ↓s_113_0, ↓s_113_1, ↓s_113_2, ↓s_113_5_2, ↓s_113_5_28, ↓s_113_8, ↓s_113_11n, ↓s_113_11i, ↓s_113_11p, ↓s_113_12, ↓s_113_13, ↓s_113_14, ↓s_113_17, ↓s_113_18, ↓s_113_19, ↓s_113_22_2, ↓s_113_22_28, ↓s_113_25, ↓s_113_26, ↓s_113_27, ↓s_113_28, ↓s_113_31, ↓s_113_34, ↓s_113_35, ↓s_113_36, ↓s_113_39_2, ↓s_113_39_28, ↓s_113_42, ↓s_113_43, ↓s_113_44, ↓s_113_45, ↓s_113_46, ↓s_113_49, ↓s_113_52, w32c_999, zio_2, zio_35, zio_9, zar_47, zia_47, zln_47, zit_47, zio_48, zar_21, zia_21, zln_21, zit_21, zio_54, zio_22, zio_55, zio_28]
  refine g_begin_35 hE (by (first | exact Nat.le_of_ble_eq_true rfl | exact (fun h => absurd h.1 (by decide)) | omega)) h hV.1 (fun r m1 F1 h1 T1 k1 kk => ?_)
  have G1 : aFrm bkW mem m1 := aFrm_w F1 (by decide)
  have hb := yBg_1 (nm := bk.map (fun t => t.1)) (mx := 3) (x := x)
  have hlen : (bk.map (fun t => t.1)).length = bk.length := List.length_map _
  rw [hlen] at hb
  refine zgk_s hE xmo_113 60 [] ?_
  simp only [ynok_30, ynok_31, w32c_0, w32c_1, w32c_2, w32c_3, w32c_4, w32c_5, w32c_6, w32c_7, w32c_8, w32c_9, w32c_10, w32c_11, w32c_12, w32c_13, w32c_14, w32c_m1, w32c_m2, w32c_118, Int.reduceAdd, Int.reduceSub, Int.reduceMul, yput_s, yput_n, znl_n, znl_0, znl_1, znl_4, ysum_n, ysum_0, ysum_1, ysum_4, true_and, and_true, Nat.reduceAdd, Nat.reduceLeDiff, true_implies, eq_self, true_or, or_true, or_false, false_or, not_true_eq_false, not_false_eq_true, false_implies, implies_true, yset_s, yset_o, yset_d, ne_eq, Nat.reduceEqDiff, Int.reduceToNat, Int.reduceEq, Int.reduceLE, Int.reduceLT, Classical.not_not, Nat.reduceLT, ↓zvk_s, ↓zvk_n, ↓s_113_0, ↓s_113_1, ↓s_113_2, ↓s_113_5_2, ↓s_113_5_28, ↓s_113_8, ↓s_113_11n, ↓s_113_11i, ↓s_113_11p, ↓s_113_12, ↓s_113_13, ↓s_113_14, ↓s_113_17, ↓s_113_18, ↓s_113_19, ↓s_113_22_2, ↓s_113_22_28, ↓s_113_25, ↓s_113_26, ↓s_113_27, ↓s_113_28, ↓s_113_31, ↓s_113_34, ↓s_113_35, ↓s_113_36, ↓s_113_39_2, ↓s_113_39_28, ↓s_113_42, ↓s_113_43, ↓s_113_44, ↓s_113_45, ↓s_113_46, ↓s_113_49, ↓s_113_52, w32c_999, zio_2, zio_35, zio_9, zar_47, zia_47, zln_47, zit_47, zio_48, zar_21, zia_21, zln_21, zit_21, zio_54, zio_22, zio_55, zio_28]
  refine ⟨fun hr => ?_, fun hr => ?_⟩
  · obtain ⟨hb1, hb2⟩ : (yBg (bk.map (fun t => t.1)) 3 x).1 = (bk.length : Int) ∧ bk.length < 3 := by
      rcases hb with ⟨h0, _⟩ | hb
      · exact absurd (h1.trans h0) hr
      · exact hb
    have hrl : w32 r = (bk.length : Int) := h1.trans hb1
    have hrt : (w32 r).toNat = bk.length := by rw [hrl]; exact Int.toNat_natCast _
    have e0 : ¬ (yBg (bk.map (fun t => t.1)) 3 x).1 = -1 := by (first | exact Nat.le_of_ble_eq_true rfl | exact (fun h => absurd h.1 (by decide)) | omega)
    have ep : pBk bk cn o x = (pE (yNm 0 999 (yBg (bk.map (fun t => t.1)) 3 x).2).2 cn o, (yVl (yNx x), (yNm 0 999 (yBg (bk.map (fun t => t.1)) 3 x).2).1)) := by unfold pBk; rw [if_neg e0]
    rw [ep] at hQ
    revert T1 hQ
    generalize (yBg (bk.map (fun t => t.1)) 3 x).2 = y
    intro hQ T1
    refine g_number hE (by (first | exact Nat.le_of_ble_eq_true rfl | exact (fun h => absurd h.1 (by decide)) | omega)) T1 (by decide) (by decide) (fun r1 m2 F2 e2 T2 => ?_)
    rw [w32c_0, show w32 999 = 999 by decide] at e2 T2
    refine zgk_s hE xmo_113 60 [] ?_
    simp only [ynok_30, ynok_31, w32c_0, w32c_1, w32c_2, w32c_3, w32c_4, w32c_5, w32c_6, w32c_7, w32c_8, w32c_9, w32c_10, w32c_11, w32c_12, w32c_13, w32c_14, w32c_m1, w32c_m2, w32c_118, Int.reduceAdd, Int.reduceSub, Int.reduceMul, yput_s, yput_n, znl_n, znl_0, znl_1, znl_4, ysum_n, ysum_0, ysum_1, ysum_4, true_and, and_true, Nat.reduceAdd, Nat.reduceLeDiff, true_implies, eq_self, true_or, or_true, or_false, false_or, not_true_eq_false, not_false_eq_true, false_implies, implies_true, yset_s, yset_o, yset_d, ne_eq, Nat.reduceEqDiff, Int.reduceToNat, Int.reduceEq, Int.reduceLE, Int.reduceLT, Classical.not_not, Nat.reduceLT, ↓zvk_s, ↓zvk_n, ↓s_113_0, ↓s_113_1, ↓s_113_2, ↓s_113_5_2, ↓s_113_5_28, ↓s_113_8, ↓s_113_11n, ↓s_113_11i, ↓s_113_11p, ↓s_113_12, ↓s_113_13, ↓s_113_14, ↓s_113_17, ↓s_113_18, ↓s_113_19, ↓s_113_22_2, ↓s_113_22_28, ↓s_113_25, ↓s_113_26, ↓s_113_27, ↓s_113_28, ↓s_113_31, ↓s_113_34, ↓s_113_35, ↓s_113_36, ↓s_113_39_2, ↓s_113_39_28, ↓s_113_42, ↓s_113_43, ↓s_113_44, ↓s_113_45, ↓s_113_46, ↓s_113_49, ↓s_113_52, w32c_999, zio_2, zio_35, zio_9, zar_47, zia_47, zln_47, zit_47, zio_48, zar_21, zia_21, zln_21, zit_21, zio_54, zio_22, zio_55, zio_28]
    refine ⟨⟨by (first | exact Nat.le_of_ble_eq_true rfl | exact (fun h => absurd h.1 (by decide)) | omega), by (first | exact Nat.le_of_ble_eq_true rfl | exact (fun h => absurd h.1 (by decide)) | omega)⟩, ?_⟩
    rw [hrt]
    have er : w32 (2 + r) = ((2 + bk.length : Nat) : Int) := by rw [w32_ad (by rw [w32c_2]; (first | exact Nat.le_of_ble_eq_true rfl | exact (fun h => absurd h.1 (by decide)) | omega)) (by rw [w32c_2]; (first | exact Nat.le_of_ble_eq_true rfl | exact (fun h => absurd h.1 (by decide)) | omega)), w32c_2]; (first | exact Nat.le_of_ble_eq_true rfl | exact (fun h => absurd h.1 (by decide)) | omega)
    have q2 : ∀ i j, i ≠ 55 → m2 i j = m1 i j := fun i j q => F2 i j (amod_n55 q)
    have S2 : FoS (yset m2 47 bk.length r1) cn o := by
      obtain ⟨⟨s1, s2⟩, s3, s4⟩ := hS
      have z : ∀ i j, i ≠ 55 → i ≠ 47 → amod (cfF ++ [(35, 2), (36, 0)]) i j = false → yset m2 47 bk.length r1 i j = mem i j := fun i j z1 z2 z3 => by rw [yset_o z2, q2 i j z1, F1 i j z3]
      exact ⟨⟨by rw [z 48 4 (by decide) (by decide) rfl]; exact s1, cKs_eq s2 (fun j _ => z 49 j (by decide) (by decide) rfl) (fun j _ => z 50 j (by decide) (by decide) rfl)⟩, by rw [z 48 8 (by decide) (by decide) rfl]; exact s3, s4⟩
    refine g_ftell hE (by (first | exact Nat.le_of_ble_eq_true rfl | exact (fun h => absurd h.1 (by decide)) | omega)) (f := 2 + bk.length) (by (first | exact Nat.le_of_ble_eq_true rfl | exact (fun h => absurd h.1 (by decide)) | omega)) er (cTk_of T2 (fun j => yset_o (by decide)) (fun j => yset_o (by decide)) (fun j => yset_o (by decide))) S2 (fun m3 F3 T3 U3 => ?_)
    refine zgk_n hE xmo_113 60 [] ?_
    simp only [ynok_30, ynok_31, w32c_0, w32c_1, w32c_2, w32c_3, w32c_4, w32c_5, w32c_6, w32c_7, w32c_8, w32c_9, w32c_10, w32c_11, w32c_12, w32c_13, w32c_14, w32c_m1, w32c_m2, w32c_118, Int.reduceAdd, Int.reduceSub, Int.reduceMul, yput_s, yput_n, znl_n, znl_0, znl_1, znl_4, ysum_n, ysum_0, ysum_1, ysum_4, true_and, and_true, Nat.reduceAdd, Nat.reduceLeDiff, true_implies, eq_self, true_or, or_true, or_false, false_or, not_true_eq_false, not_false_eq_true, false_implies, implies_true, yset_s, yset_o, yset_d, ne_eq, Nat.reduceEqDiff, Int.reduceToNat, Int.reduceEq, Int.reduceLE, Int.reduceLT, Classical.not_not, Nat.reduceLT, ↓zvk_s, ↓zvk_n, ↓s_113_0, ↓s_113_1, ↓s_113_2, ↓s_113_5_2, ↓s_113_5_28, ↓s_113_8, ↓s_113_11n, ↓s_113_11i, ↓s_113_11p, ↓s_113_12, ↓s_113_13, ↓s_113_14, ↓s_113_17, ↓s_113_18, ↓s_113_19, ↓s_113_22_2, ↓s_113_22_28, ↓s_113_25, ↓s_113_26, ↓s_113_27, ↓s_113_28, ↓s_113_31, ↓s_113_34, ↓s_113_35, ↓s_113_36, ↓s_113_39_2, ↓s_113_39_28, ↓s_113_42, ↓s_113_43, ↓s_113_44, ↓s_113_45, ↓s_113_46, ↓s_113_49, ↓s_113_52, w32c_999, zio_2, zio_35, zio_9, zar_47, zia_47, zln_47, zit_47, zio_48, zar_21, zia_21, zln_21, zit_21, zio_54, zio_22, zio_55, zio_28]
    refine hQ m3 (fun i j z1 z2 z3 => ?_) T3 (fun u hu => ⟨hb2, ⟨?_, fun j t ht => ?_⟩, U3 u hu⟩)
    · rw [F3 i j (amod_sub (by decide) z1) z2 z3]
      have G2 : aFrm bkW mem (yset m2 47 bk.length r1) := aFrm_set (aFrm_tt G1 (aFrm_w F2 (by decide))) rfl
      exact G2 i j z1
    · rw [List.map_append]
      refine cNm_fr (kk hr) ?_ (fun j => ?_)
      · rw [F3 35 1 rfl (fun z => absurd z.1 (by decide)) (fun z => absurd z.1 (by decide)), yset_o (by decide), q2 35 1 (by decide)]
      · show m3 36 j = m1 36 j
        rw [F3 36 j rfl (fun z => absurd z.1 (by decide)) (fun z => absurd z.1 (by decide)), yset_o (by decide), q2 36 j (by decide)]
    · rw [F3 47 j rfl (fun z => absurd z.1 (by decide)) (fun z => absurd z.1 (by decide)), yset_a, if_pos rfl]
      rcases app_get ht with ht | ⟨rfl, rfl⟩
      · have hj := get_lt ht
        rw [if_neg (by (first | exact Nat.le_of_ble_eq_true rfl | exact (fun h => absurd h.1 (by decide)) | omega)), q2 47 j (by decide), F1 47 j rfl]
        exact hV.2 j t ht
      · rw [if_pos rfl]
        exact e2
  · have e0 : (yBg (bk.map (fun t => t.1)) 3 x).1 = -1 := by rw [← h1]; exact hr
    rcases hb with ⟨_, e, he⟩ | ⟨hb, _⟩
    · have ep : pBk bk cn o x = (.inl e, (0, 0)) := by unfold pBk; rw [if_pos e0, he]
      rw [ep] at hQ
      rw [he] at T1
      refine hQ m1 (fun i j z1 _ _ => G1 i j z1) T1 (fun u hu => by cases hu)
    · (first | exact Nat.le_of_ble_eq_true rfl | exact (fun h => absurd h.1 (by decide)) | omega)
def xFl (f : Nat) (y : sY) : sX := match y with
  | .inl e => .inl e
  | .inr l => .inl (f, (sHd l).2.1)
theorem yOf_fl (f : Nat) (y : sY) : yOf (xFl f y) = yFl f y := by cases y <;> rfl
theorem xFl_r {f : Nat} {y : sY} {u : sU} (h : xFl f y = .inr u) : False := by
  cases y <;> cases h
/-- one of the two laws -/
def pL1 (tl : Bool) (cn : Nat) (o : sK) (y : sY) : sX := if tl then xFl 3 y else pE (yNx y) cn o
def pLw (tl : Nat → Bool) (cn : Nat) (o : sK) (x : sY) : sX × Nat := if yKd (yNx x) = 28 then (pL1 (tl 0) cn o (yNx x), 0) else if yKd (yNx x) = 29 then (pL1 (tl 1) cn o (yNx x), 1) else (xFl 1 (yNx x), 0)
theorem FoS_cf {m m' : yMem} {cn : Nat} {o : sK} (h : FoS m cn o) (hF : aFrm cfF m m') : FoS m' cn o := by
  obtain ⟨⟨s1, s2⟩, s3, s4⟩ := h
  exact ⟨⟨by rw [hF 48 4 (amod_n55 (by decide))]; exact s1, cKs_eq s2 (fun j _ => hF 49 j (amod_n55 (by decide))) (fun j _ => hF 50 j (amod_n55 (by decide)))⟩, by rw [hF 48 8 (amod_n55 (by decide))]; exact s3, s4⟩
theorem ftG_cf {b m m' : yMem} {f : Nat} (h : aFrm cfF b m) (h2 : ftG m m' f) : ftG b m' f := fun i j q1 q2 q3 => by
  rw [h2 i j q1 q2 q3]
  exact cf_fv h i j q1
theorem gl59 (hE : yEok E) {d f : Nat} {m : yMem} {y : sY} {F : Int} (hd : 8 ≤ d) (hf : f < 2) (hF : w32 F = (f : Int)) {tl : Bool} {cn : Nat} {o : sK} (T : cTk ch n m y) (S : FoS m cn o) (ht : tl = true ↔ w32 (m 51 f) < w32 (m 52 f)) (hQ : ∀ m', ftG m m' f → cTk ch n m' (yOf (pL1 tl cn o y)) → (∀ u, pL1 tl cn o y = .inr u → FoE m' f u ∧ w32 (m' 51 f) = (o.length : Int)) → Q none m') : zG E (d + 1) xm_114 59 [some (1, 54), some (0, F)] [] m Q := by
  have hFt : (w32 F).toNat = f := by rw [hF]; exact Int.toNat_natCast _
  refine zgo_ok (n := 60) hE xmo_114 (cs := zc_114) ?_
  simp only [ynok_30, ynok_31, w32c_0, w32c_1, w32c_2, w32c_3, w32c_4, w32c_5, w32c_6, w32c_7, w32c_8, w32c_9, w32c_10, w32c_11, w32c_12, w32c_13, w32c_14, w32c_m1, w32c_m2, w32c_118, Int.reduceAdd, Int.reduceSub, Int.reduceMul, yput_s, yput_n, znl_n, znl_0, znl_1, znl_4, ysum_n, ysum_0, ysum_1, ysum_4, true_and, and_true, Nat.reduceAdd, Nat.reduceLeDiff, true_implies, eq_self, true_or, or_true, or_false, false_or, not_true_eq_false, not_false_eq_true, false_implies, implies_true, yset_s, yset_o, yset_d, ne_eq, Nat.reduceEqDiff, Int.reduceToNat, Int.reduceEq, Int.reduceLE, Int.reduceLT, Classical.not_not, Nat.reduceLT, ↓zvk_s, ↓zvk_n, ↓s_114_0, ↓s_114_1, ↓s_114_4, ↓s_114_7, ↓s_114_8, ↓s_114_11, ↓s_114_14, ↓s_114_16, ↓s_114_19, ↓s_114_20, ↓s_114_23, ↓s_114_26, ↓s_114_28, ↓s_114_31, ↓s_114_32, ↓s_114_35, ↓s_114_36, ↓s_114_39a, ↓s_114_39b, ↓s_114_40, ↓s_114_41, ↓s_114_42, ↓s_114_45, ↓s_114_48, ↓s_114_50, ↓s_114_53, ↓s_114_54, ↓s_114_57, ↓s_114_58n, ↓s_114_58i, ↓s_114_58p, ↓g_114_59, ↓k_114_59, ↓s_114_60, ↓s_114_63_2, ↓s_114_63_28, ↓s_114_66, ↓s_114_67, ↓s_114_70, ↓s_114_73, ↓s_114_74, ↓s_114_77, ↓s_114_78, ↓s_114_81a, ↓s_114_81b, ↓s_114_82, ↓s_114_83, ↓s_114_84, ↓s_114_87, ↓s_114_90, ↓s_114_91, ↓s_114_94_2, ↓s_114_94_28, ↓s_114_97, ↓s_114_98, ↓s_114_99, ↓s_114_102, ↓s_114_105, w32c_28, w32c_29, ↓s_64_0, ↓s_64_1_22, ↓s_64_1_48, ↓s_64_4, ↓s_64_5, ↓s_64_6, ↓s_64_7_22, ↓s_64_7_48, ↓s_64_10, ↓s_64_11, ↓s_64_12, ↓s_64_15, ↓s_64_16, ↓s_64_19, ↓s_64_20, ↓s_123_0, ↓s_123_1, ↓s_123_4, ↓s_123_7, ↓s_123_8, ↓s_123_9, ↓s_123_12, ↓s_123_13, ↓s_123_14, ↓s_123_17, ↓s_123_20, ↓s_123_21, ↓s_123_22, ↓s_123_25, ↓s_123_26, zio_2, zio_48, zar_51, zia_51, zln_51, zit_51, zar_52, zia_52, zln_52, zit_52, zio_55, zio_22, zio_54, zar_25, zia_25, zln_25, zit_25, zar_26, zia_26, zln_26, zit_26, zio_28]
  rw [hFt]
  refine ⟨⟨by (first | exact Nat.le_of_ble_eq_true rfl | exact (fun h => absurd h.1 (by decide)) | omega), by (first | exact Nat.le_of_ble_eq_true rfl | exact (fun h => absurd h.1 (by decide)) | omega)⟩, ⟨by (first | exact Nat.le_of_ble_eq_true rfl | exact (fun h => absurd h.1 (by decide)) | omega), by (first | exact Nat.le_of_ble_eq_true rfl | exact (fun h => absurd h.1 (by decide)) | omega)⟩, fun hle => ?_, fun hle => ?_⟩
  · have et : tl = false := by
      cases tl with
      | false => rfl
      | true => have := ht.mp rfl; (first | exact Nat.le_of_ble_eq_true rfl | exact (fun h => absurd h.1 (by decide)) | omega)
    subst et
    refine g_next hE (by (first | exact Nat.le_of_ble_eq_true rfl | exact (fun h => absurd h.1 (by decide)) | omega)) T (fun m1 F1 T1 => ?_)
    refine zgk_n hE xmo_114 60 zc_114 ?_
    simp only [ynok_30, ynok_31, w32c_0, w32c_1, w32c_2, w32c_3, w32c_4, w32c_5, w32c_6, w32c_7, w32c_8, w32c_9, w32c_10, w32c_11, w32c_12, w32c_13, w32c_14, w32c_m1, w32c_m2, w32c_118, Int.reduceAdd, Int.reduceSub, Int.reduceMul, yput_s, yput_n, znl_n, znl_0, znl_1, znl_4, ysum_n, ysum_0, ysum_1, ysum_4, true_and, and_true, Nat.reduceAdd, Nat.reduceLeDiff, true_implies, eq_self, true_or, or_true, or_false, false_or, not_true_eq_false, not_false_eq_true, false_implies, implies_true, yset_s, yset_o, yset_d, ne_eq, Nat.reduceEqDiff, Int.reduceToNat, Int.reduceEq, Int.reduceLE, Int.reduceLT, Classical.not_not, Nat.reduceLT, ↓zvk_s, ↓zvk_n, ↓s_114_0, ↓s_114_1, ↓s_114_4, ↓s_114_7, ↓s_114_8, ↓s_114_11, ↓s_114_14, ↓s_114_16, ↓s_114_19, ↓s_114_20, ↓s_114_23, ↓s_114_26, ↓s_114_28, ↓s_114_31, ↓s_114_32, ↓s_114_35, ↓s_114_36, ↓s_114_39a, ↓s_114_39b, ↓s_114_40, ↓s_114_41, ↓s_114_42, ↓s_114_45, ↓s_114_48, ↓s_114_50, ↓s_114_53, ↓s_114_54, ↓s_114_57, ↓s_114_58n, ↓s_114_58i, ↓s_114_58p, ↓g_114_59, ↓k_114_59, ↓s_114_60, ↓s_114_63_2, ↓s_114_63_28, ↓s_114_66, ↓s_114_67, ↓s_114_70, ↓s_114_73, ↓s_114_74, ↓s_114_77, ↓s_114_78, ↓s_114_81a, ↓s_114_81b, ↓s_114_82, ↓s_114_83, ↓s_114_84, ↓s_114_87, ↓s_114_90, ↓s_114_91, ↓s_114_94_2, ↓s_114_94_28, ↓s_114_97, ↓s_114_98, ↓s_114_99, ↓s_114_102, ↓s_114_105, w32c_28, w32c_29, zio_2, zio_48, zio_55, zio_22, zio_54, zio_28]
    refine g_ftell hE (by (first | exact Nat.le_of_ble_eq_true rfl | exact (fun h => absurd h.1 (by decide)) | omega)) (f := f) (by (first | exact Nat.le_of_ble_eq_true rfl | exact (fun h => absurd h.1 (by decide)) | omega)) hF T1 (FoS_cf S F1) (fun m3 F3 T3 U3 => ?_)
    refine zgk_n hE xmo_114 60 zc_114 ?_
    simp only [ynok_30, ynok_31, w32c_0, w32c_1, w32c_2, w32c_3, w32c_4, w32c_5, w32c_6, w32c_7, w32c_8, w32c_9, w32c_10, w32c_11, w32c_12, w32c_13, w32c_14, w32c_m1, w32c_m2, w32c_118, Int.reduceAdd, Int.reduceSub, Int.reduceMul, yput_s, yput_n, znl_n, znl_0, znl_1, znl_4, ysum_n, ysum_0, ysum_1, ysum_4, true_and, and_true, Nat.reduceAdd, Nat.reduceLeDiff, true_implies, eq_self, true_or, or_true, or_false, false_or, not_true_eq_false, not_false_eq_true, false_implies, implies_true, yset_s, yset_o, yset_d, ne_eq, Nat.reduceEqDiff, Int.reduceToNat, Int.reduceEq, Int.reduceLE, Int.reduceLT, Classical.not_not, Nat.reduceLT, ↓zvk_s, ↓zvk_n, ↓s_114_0, ↓s_114_1, ↓s_114_4, ↓s_114_7, ↓s_114_8, ↓s_114_11, ↓s_114_14, ↓s_114_16, ↓s_114_19, ↓s_114_20, ↓s_114_23, ↓s_114_26, ↓s_114_28, ↓s_114_31, ↓s_114_32, ↓s_114_35, ↓s_114_36, ↓s_114_39a, ↓s_114_39b, ↓s_114_40, ↓s_114_41, ↓s_114_42, ↓s_114_45, ↓s_114_48, ↓s_114_50, ↓s_114_53, ↓s_114_54, ↓s_114_57, ↓s_114_58n, ↓s_114_58i, ↓s_114_58p, ↓g_114_59, ↓k_114_59, ↓s_114_60, ↓s_114_63_2, ↓s_114_63_28, ↓s_114_66, ↓s_114_67, ↓s_114_70, ↓s_114_73, ↓s_114_74, ↓s_114_77, ↓s_114_78, ↓s_114_81a, ↓s_114_81b, ↓s_114_82, ↓s_114_83, ↓s_114_84, ↓s_114_87, ↓s_114_90, ↓s_114_91, ↓s_114_94_2, ↓s_114_94_28, ↓s_114_97, ↓s_114_98, ↓s_114_99, ↓s_114_102, ↓s_114_105, w32c_28, w32c_29, zio_2, zio_48, zio_55, zio_22, zio_54, zio_28]
    exact hQ m3 (ftG_cf F1 F3) T3 U3
  · have et : tl = true := ht.mpr (by (first | exact Nat.le_of_ble_eq_true rfl | exact (fun h => absurd h.1 (by decide)) | omega))
    subst et
    have go : ∀ m', aFrm cfF m m' → cTk ch n m' (yFl 3 y) → Q none m' := fun m' g1 g2 => hQ m' (fun i j z _ _ => cf_fv g1 i j z) (by show cTk ch n m' (yOf (xFl 3 y)); rw [yOf_fl]; exact g2) (fun u hu => (xFl_r hu).elim)
    exact ⟨fun hz => go _ (g_fl1 (f := 3) T hz).1 (g_fl1 T hz).2, fun hz => go _ (g_fl0 (f := 3) T (by decide) (by decide) hz).1 (g_fl0 T (by decide) (by decide) hz).2⟩
theorem g_readLaw (hE : yEok E) {D : Nat} (hD : 10 ≤ D) {tl : Nat → Bool} {cn : Nat} {o : sK} (h : cTk ch n mem x) (hS : FoS mem cn o) (ht : ∀ f, f < 2 → (tl f = true ↔ w32 (mem 51 f) < w32 (mem 52 f))) (hQ : ∀ m', ftG mem m' (pLw tl cn o x).2 → cTk ch n m' (yOf (pLw tl cn o x).1) → (∀ u, (pLw tl cn o x).1 = .inr u → FoE m' (pLw tl cn o x).2 u ∧ w32 (m' 51 (pLw tl cn o x).2) = (o.length : Int)) → Q none m') : yCon E D xm_114 [(1, 54)] mem Q := by
  obtain ⟨d, rfl⟩ := Nat.exists_eq_add_of_le' hD
  refine e_114 ?_
  refine zvc_ok hE 90 zc_114 _ _ _ _ _ _ _ xmo_114 ?_
  simp only [ynok_30, ynok_31, w32c_0, w32c_1, w32c_2, w32c_3, w32c_4, w32c_5, w32c_6, w32c_7, w32c_8, w32c_9, w32c_10, w32c_11, w32c_12, w32c_13, w32c_14, w32c_m1, w32c_m2, w32c_118, Int.reduceAdd, Int.reduceSub, Int.reduceMul, yput_s, yput_n, znl_n, znl_0, znl_1, znl_4, ysum_n, ysum_0, ysum_1, ysum_4, true_and, and_true, Nat.reduceAdd, Nat.reduceLeDiff, true_implies, eq_self, true_or, or_true, or_false, false_or, not_true_eq_false, not_false_eq_true, false_implies, implies_true, yset_s, yset_o, yset_d, ne_eq, Nat.reduceEqDiff, Int.reduceToNat, Int.reduceEq, Int.reduceLE, Int.reduceLT, Classical.not_not, Nat.reduceLT, ↓zvk_s, ↓zvk_n, ↓s_114_0, ↓s_114_1, ↓s_114_4, ↓s_114_7, ↓s_114_8, ↓s_114_11, ↓s_114_14, ↓s_114_16, ↓s_114_19, ↓s_114_20, ↓s_114_23, ↓s_114_26, ↓s_114_28, ↓s_114_31, ↓s_114_32, ↓s_114_35, ↓s_114_36, ↓s_114_39a, ↓s_114_39b, ↓s_114_40, ↓s_114_41, ↓s_114_42, ↓s_114_45, ↓s_114_48, ↓s_114_50, ↓s_114_53, ↓s_114_54, ↓s_114_57, ↓s_114_58n, ↓s_114_58i, ↓s_114_58p, ↓g_114_59, ↓k_114_59, ↓s_114_60, ↓s_114_63_2, ↓s_114_63_28, ↓s_114_66, ↓s_114_67, ↓s_114_70, ↓s_114_73, ↓s_114_74, ↓s_114_77, ↓s_114_78, ↓s_114_81a, ↓s_114_81b, ↓s_114_82, ↓s_114_83, ↓s_114_84, ↓s_114_87, ↓s_114_90, ↓s_114_91, ↓s_114_94_2, ↓s_114_94_28, ↓s_114_97, ↓s_114_98, ↓s_114_99, ↓s_114_102, ↓s_114_105, w32c_28, w32c_29, zio_2, zio_48, zio_55, zio_22, zio_54, zio_28]
  refine g_next hE (by (first | exact Nat.le_of_ble_eq_true rfl | exact (fun h => absurd h.1 (by decide)) | omega)) h (fun m1 F1 T1 => ?_)
  refine zgk_n hE xmo_114 60 zc_114 ?_
  simp only [ynok_30, ynok_31, w32c_0, w32c_1, w32c_2, w32c_3, w32c_4, w32c_5, w32c_6, w32c_7, w32c_8, w32c_9, w32c_10, w32c_11, w32c_12, w32c_13, w32c_14, w32c_m1, w32c_m2, w32c_118, Int.reduceAdd, Int.reduceSub, Int.reduceMul, yput_s, yput_n, znl_n, znl_0, znl_1, znl_4, ysum_n, ysum_0, ysum_1, ysum_4, true_and, and_true, Nat.reduceAdd, Nat.reduceLeDiff, true_implies, eq_self, true_or, or_true, or_false, false_or, not_true_eq_false, not_false_eq_true, false_implies, implies_true, yset_s, yset_o, yset_d, ne_eq, Nat.reduceEqDiff, Int.reduceToNat, Int.reduceEq, Int.reduceLE, Int.reduceLT, Classical.not_not, Nat.reduceLT, ↓zvk_s, ↓zvk_n, ↓s_114_0, ↓s_114_1, ↓s_114_4, ↓s_114_7, ↓s_114_8, ↓s_114_11, ↓s_114_14, ↓s_114_16, ↓s_114_19, ↓s_114_20, ↓s_114_23, ↓s_114_26, ↓s_114_28, ↓s_114_31, ↓s_114_32, ↓s_114_35, ↓s_114_36, ↓s_114_39a, ↓s_114_39b, ↓s_114_40, ↓s_114_41, ↓s_114_42, ↓s_114_45, ↓s_114_48, ↓s_114_50, ↓s_114_53, ↓s_114_54, ↓s_114_57, ↓s_114_58n, ↓s_114_58i, ↓s_114_58p, ↓g_114_59, ↓k_114_59, ↓s_114_60, ↓s_114_63_2, ↓s_114_63_28, ↓s_114_66, ↓s_114_67, ↓s_114_70, ↓s_114_73, ↓s_114_74, ↓s_114_77, ↓s_114_78, ↓s_114_81a, ↓s_114_81b, ↓s_114_82, ↓s_114_83, ↓s_114_84, ↓s_114_87, ↓s_114_90, ↓s_114_91, ↓s_114_94_2, ↓s_114_94_28, ↓s_114_97, ↓s_114_98, ↓s_114_99, ↓s_114_102, ↓s_114_105, w32c_28, w32c_29, ↓s_64_0, ↓s_64_1_22, ↓s_64_1_48, ↓s_64_4, ↓s_64_5, ↓s_64_6, ↓s_64_7_22, ↓s_64_7_48, ↓s_64_10, ↓s_64_11, ↓s_64_12, ↓s_64_15, ↓s_64_16, ↓s_64_19, ↓s_64_20, ↓s_123_0, ↓s_123_1, ↓s_123_4, ↓s_123_7, ↓s_123_8, ↓s_123_9, ↓s_123_12, ↓s_123_13, ↓s_123_14, ↓s_123_17, ↓s_123_20, ↓s_123_21, ↓s_123_22, ↓s_123_25, ↓s_123_26, zio_2, zio_48, zar_51, zia_51, zln_51, zit_51, zar_52, zia_52, zln_52, zit_52, zio_55, zio_22, zio_54, zar_25, zia_25, zln_25, zit_25, zar_26, zia_26, zln_26, zit_26, zio_28]
  rw [cTk_kd T1]
  have q51 : ∀ j, m1 51 j = mem 51 j := fun j => F1 51 j (amod_n55 (by decide))
  have q52 : ∀ j, m1 52 j = mem 52 j := fun j => F1 52 j (amod_n55 (by decide))
  have A0 : yKd (yNx x) = 28 → zG E (d + 9) xm_114 59 [some (1, 54), some (0, 0)] [] m1 Q := fun hk => by
    have ep : pLw tl cn o x = (pL1 (tl 0) cn o (yNx x), 0) := by unfold pLw; rw [if_pos hk]
    rw [ep] at hQ
    exact gl59 hE (by (first | exact Nat.le_of_ble_eq_true rfl | exact (fun h => absurd h.1 (by decide)) | omega)) (f := 0) (by decide) w32c_0 T1 (FoS_cf hS F1) (by rw [q51, q52]; exact ht 0 (by decide)) (fun m' g1 g2 g3 => hQ m' (ftG_cf F1 g1) g2 g3)
  have A1 : yKd (yNx x) = 29 → zG E (d + 9) xm_114 59 [some (1, 54), some (0, 1)] [] m1 Q := fun hk => by
    have ep : pLw tl cn o x = (pL1 (tl 1) cn o (yNx x), 1) := by unfold pLw; rw [if_neg (by (first | exact Nat.le_of_ble_eq_true rfl | exact (fun h => absurd h.1 (by decide)) | omega)), if_pos hk]
    rw [ep] at hQ
    exact gl59 hE (by (first | exact Nat.le_of_ble_eq_true rfl | exact (fun h => absurd h.1 (by decide)) | omega)) (f := 1) (by decide) w32c_1 T1 (FoS_cf hS F1) (by rw [q51, q52]; exact ht 1 (by decide)) (fun m' g1 g2 g3 => hQ m' (ftG_cf F1 g1) g2 g3)
  refine ⟨fun hk => ⟨fun q => absurd hk q, fun _ => A0 (by (first | exact Nat.le_of_ble_eq_true rfl | exact (fun h => absurd h.1 (by decide)) | omega))⟩, fun hk => ⟨fun hk2 => ⟨fun _ => A1 (by (first | exact Nat.le_of_ble_eq_true rfl | exact (fun h => absurd h.1 (by decide)) | omega)), fun q => absurd q hk⟩, fun hk2 => ?_⟩⟩
  have ep : pLw tl cn o x = (xFl 1 (yNx x), 0) := by unfold pLw; rw [if_neg (by (first | exact Nat.le_of_ble_eq_true rfl | exact (fun h => absurd h.1 (by decide)) | omega)), if_neg (by (first | exact Nat.le_of_ble_eq_true rfl | exact (fun h => absurd h.1 (by decide)) | omega))]
  rw [ep] at hQ
  have go : ∀ m', aFrm cfF m1 m' → cTk ch n m' (yFl 1 (yNx x)) → Q none m' := fun m' g1 g2 => hQ m' (fun i j z _ _ => aFrm_tt (cf_fv F1) (cf_fv g1) i j z) (by rw [yOf_fl]; exact g2) (fun u hu => (xFl_r hu).elim)
  exact ⟨fun hz => go _ (g_fl1 (f := 1) T1 hz).1 (g_fl1 T1 hz).2, fun hz => go _ (g_fl0 (f := 1) T1 (by decide) (by decide) hz).1 (g_fl0 T1 (by decide) (by decide) hz).2⟩
end CU
end
section
/-! A DOCUMENT: taverns, voices, verses, bakers, purse, seed, formulas (from, to), knots counted, knots -/
abbrev dFs : Type := (Nat → Int × Int) × Nat × sK
abbrev dDc : Type := dTv × dVo × dVe × dBk × (Bool × Int) × (Bool × Int) × dFs
def cFs (m : yMem) (fs : dFs) : Prop := (∀ j, j < 5 → w32 (m 51 j) = (fs.1 j).1 ∧ w32 (m 52 j) = (fs.1 j).2) ∧ FoS m fs.2.1 fs.2.2
def cDc (m : yMem) (D : dDc) : Prop := cTv m D.1 ∧ cVo m D.2.1 ∧ cVe m D.2.2.1 ∧ cBk m D.2.2.2.1 ∧ (w32 (m 54 2) = (if D.2.2.2.2.1.1 then 1 else 0) ∧ w32 (m 28 17) = D.2.2.2.2.1.2) ∧ (w32 (m 54 3) = (if D.2.2.2.2.2.1.1 then 1 else 0) ∧ w32 (m 28 18) = D.2.2.2.2.2.1.2) ∧ cFs m D.2.2.2.2.2.2
/-- a formula more -/
def dFu (fs : dFs) (f : Nat) (u : sU) : dFs := (fun j => if j = f then ((fs.2.2.length : Int), (u.2.2.2.length : Int)) else fs.1 j, u.2.1, u.2.2.2)
def dFx (fs : dFs) (f : Nat) (x : sX) : dFs := match x with
  | .inl _ => fs
  | .inr u => dFu fs f u
def tlF (fs : dFs) (f : Nat) : Bool := decide ((fs.1 f).1 < (fs.1 f).2)
/-- a LINE ahead of its ';' -/
def pLine (x : sY) (D : dDc) : sY × dDc :=
  if yKd x = 17 then ((pTv D.1 x).1, (D.1 ++ [(pTv D.1 x).2], D.2))
  else if yKd x = 18 then ((pVo (D.1.map (fun t => t.1)) D.2.1 x).1, (D.1, D.2.1 ++ [(pVo (D.1.map (fun t => t.1)) D.2.1 x).2], D.2.2))
  else if yKd x = 19 then ((pVe D.2.2.1 x).1, (D.1, D.2.1, D.2.2.1 ++ [(pVe D.2.2.1 x).2], D.2.2.2))
  else if yKd x = 20 then (yOf (pBk D.2.2.2.1 D.2.2.2.2.2.2.2.1 D.2.2.2.2.2.2.2.2 x).1, (D.1, D.2.1, D.2.2.1, D.2.2.2.1 ++ [(pBk D.2.2.2.1 D.2.2.2.2.2.2.2.1 D.2.2.2.2.2.2.2.2 x).2], D.2.2.2.2.1, D.2.2.2.2.2.1, dFx D.2.2.2.2.2.2 (2 + D.2.2.2.1.length) (pBk D.2.2.2.1 D.2.2.2.2.2.2.2.1 D.2.2.2.2.2.2.2.2 x).1))
  else if yKd x = 21 then ((pLn D.2.2.2.2.1.1 999 x).2, (D.1, D.2.1, D.2.2.1, D.2.2.2.1, (true, (pLn D.2.2.2.2.1.1 999 x).1), D.2.2.2.2.2))
  else if yKd x = 22 then ((pLn D.2.2.2.2.2.1.1 99999 x).2, (D.1, D.2.1, D.2.2.1, D.2.2.2.1, D.2.2.2.2.1, (true, (pLn D.2.2.2.2.2.1.1 99999 x).1), D.2.2.2.2.2.2))
  else if yKd x = 23 then (yOf (pLw (tlF D.2.2.2.2.2.2) D.2.2.2.2.2.2.2.1 D.2.2.2.2.2.2.2.2 x).1, (D.1, D.2.1, D.2.2.1, D.2.2.2.1, D.2.2.2.2.1, D.2.2.2.2.2.1, dFx D.2.2.2.2.2.2 (pLw (tlF D.2.2.2.2.2.2) D.2.2.2.2.2.2.2.1 D.2.2.2.2.2.2.2.2 x).2 (pLw (tlF D.2.2.2.2.2.2) D.2.2.2.2.2.2.2.1 D.2.2.2.2.2.2.2.2 x).1))
  else (yFl 1 x, D)
/-- a TEXT: LINES, each with its ';' -/
def pTx : Nat → sY → dDc → Int → sY × dDc × Int
  | 0, x, D, k => (x, D, k)
  | f + 1, x, D, k => if yKd x = 0 then (x, D, k) else if yKd (pLine x D).1 = 4 then pTx f (yNx (pLine x D).1) (pLine x D).2 (k + 1) else pTx f (yFl 1 (pLine x D).1) (pLine x D).2 k
/-! how many tokens are left -/
def ySz (x : sY) : Nat := match x with
  | .inl _ => 0
  | .inr l => l.length
theorem ySz_nx (x : sY) : ySz (yNx x) ≤ ySz x := by
  cases x with
  | inl e => exact Nat.le_refl _
  | inr l =>
    show (if _ then _ else _ : List sT).length ≤ l.length
    split
    · exact Nat.le_refl _
    · rw [List.length_tail]; (first | exact Nat.le_of_ble_eq_true rfl | exact (fun h => absurd h.1 (by decide)) | omega)
theorem ySz_nl {x : sY} (h : yKd x ≠ 0) : ySz (yNx x) + 1 ≤ ySz x := by
  cases x with
  | inl e => exact absurd rfl h
  | inr l =>
    show (if _ then _ else _ : List sT).length + 1 ≤ l.length
    rw [if_neg (show ¬ (sHd l).1 = 0 from h)]
    cases l with
    | nil => exact absurd rfl h
    | cons t r => exact Nat.le_refl _
theorem ySz_fl (f : Nat) (x : sY) : ySz (yFl f x) ≤ ySz x := by
  cases x with
  | inl e => exact Nat.le_refl _
  | inr l => exact Nat.zero_le _
theorem ySz_nm (a b : Int) (x : sY) : ySz (yNm a b x).2 ≤ ySz x := by
  unfold yNm
  split
  · split
    · exact ySz_fl _ _
    · exact ySz_nx _
  · exact ySz_fl _ _
theorem ySz_bg (nm : List Int) (mx : Nat) (x : sY) : ySz (yBg nm mx x).2 ≤ ySz x := by
  have h1 := ySz_nx x
  have h2 := ySz_nx (yNx x)
  have h3 := fun f => ySz_fl f (yNx x)
  unfold yBg
  split
  · exact ySz_fl _ _
  · split
    · exact Nat.le_trans (h3 1) h1
    · split
      · exact Nat.le_trans (h3 3) h1
      · exact Nat.le_trans h2 h1
theorem ySz_tt (nm : List Int) (x : sY) : ySz (yTt nm x).2 ≤ ySz x := by
  unfold yTt
  split
  · split
    · exact ySz_fl _ _
    · exact ySz_nx _
  · exact ySz_fl _ _
theorem ySz_tv (t : dTv) (x : sY) : ySz (pTv t x).1 ≤ ySz x := by
  have h1 := ySz_bg (t.map (fun t => t.1)) 3 x
  unfold pTv
  split
  · exact h1
  · exact Nat.le_trans (ySz_nm _ _ _) (Nat.le_trans (ySz_nm _ _ _) h1)
theorem ySz_v1 (x : sY) : ySz (pV1 x).1 ≤ ySz x := by
  unfold pV1
  split
  · exact ySz_nx _
  · exact Nat.le_refl _
theorem ySz_v2 (nm : List Int) (x : sY) : ySz (pV2 nm x).1 ≤ ySz x := by
  unfold pV2
  split
  · exact Nat.le_trans (ySz_nm _ _ _) (Nat.le_trans (ySz_tt _ _) (ySz_nx _))
  · exact Nat.le_refl _
theorem ySz_v3 (x : sY) : ySz (pV3 x).1 ≤ ySz x := by
  unfold pV3
  split
  · exact Nat.le_trans (ySz_nm _ _ _) (ySz_nx _)
  · exact Nat.le_refl _
theorem ySz_vo (tn : List Int) (vo : dVo) (x : sY) : ySz (pVo tn vo x).1 ≤ ySz x := by
  have h1 := ySz_bg (vo.map (fun t => t.1)) 6 x
  unfold pVo
  split
  · exact h1
  · exact Nat.le_trans (ySz_v3 _) (Nat.le_trans (ySz_v2 _ _) (Nat.le_trans (ySz_v1 _) (Nat.le_trans (ySz_nm _ _ _) (Nat.le_trans (ySz_nm _ _ _) h1))))
theorem ySz_bars : ∀ (c : Nat) (x : sY), ySz (pBars c x).2 ≤ ySz x
  | 0, x => Nat.le_refl _
  | 1, x => by
    show ySz (if _ then _ else _) ≤ _
    split
    · exact Nat.le_trans (ySz_fl _ _) (ySz_nm _ _ _)
    · exact ySz_nm _ _ _
  | c + 2, x => by
    show ySz (if _ then _ else _ : List Int × sY).2 ≤ _
    split
    · exact Nat.le_trans (ySz_bars (c + 1) _) (ySz_nm _ _ _)
    · exact ySz_nm _ _ _
theorem ySz_pt (x : sY) : ySz (pPt x).2 ≤ ySz x := by
  unfold pPt
  refine Nat.le_trans (ySz_bars 8 _) ?_
  split
  · exact ySz_nx _
  · exact ySz_fl _ _
theorem ySz_pts : ∀ (c : Nat) (x : sY), ySz (pPts c x).2 ≤ ySz x
  | 0, x => Nat.le_refl _
  | 1, x => by
    show ySz (if _ then _ else _) ≤ _
    split
    · exact Nat.le_trans (ySz_fl _ _) (ySz_pt _)
    · exact ySz_pt _
  | c + 2, x => by
    show ySz (if _ then _ else _ : List (List Int) × sY).2 ≤ _
    split
    · exact Nat.le_trans (ySz_pts (c + 1) _) (ySz_pt _)
    · exact ySz_pt _
theorem ySz_ve (ve : dVe) (x : sY) : ySz (pVe ve x).1 ≤ ySz x := by
  have h1 := ySz_bg (ve.map (fun t => t.1)) 4 x
  unfold pVe
  split
  · exact h1
  · exact Nat.le_trans (ySz_pts _ _) h1
theorem ySz_ln (t : Bool) (mx : Int) (x : sY) : ySz (pLn t mx x).2 ≤ ySz x := by
  unfold pLn
  split
  · exact ySz_fl _ _
  · exact Nat.le_trans (ySz_nm _ _ _) (ySz_nx _)
theorem tail_le (l : List sT) : l.tail.length ≤ l.length := by rw [List.length_tail]; (first | exact Nat.le_of_ble_eq_true rfl | exact (fun h => absurd h.1 (by decide)) | omega)
theorem inl_s {f p c : Nat} : ySz (yOf (Sum.inl (f, p) : sX)) ≤ c := Nat.zero_le _
theorem sKn_s {p c : Nat} {u : sU} {k : sU → sX} (h : ySz (yOf (k (u.1, u.2.1 + 1, u.2.2))) ≤ c) : ySz (yOf (sKn p u k)) ≤ c := by
  unfold sKn
  split
  · exact inl_s
  · exact h
theorem ySz_sy : ∀ (f : Nat) (v : Bool) (w : List Nat) (l : List sT) (cn op : Nat) (o : sK), ySz (yOf (sy f v w (l, cn, op, o))) ≤ l.length
  | 0, v, w, l, cn, op, o => Nat.zero_le _
  | f + 1, true, w, l, cn, op, o => by
    have ht := tail_le l
    rw [sy_t]
    split
    · split
      · exact inl_s
      · exact Nat.le_trans (ySz_sy f true _ l.tail _ _ _) ht
    · split
      · exact sKn_s (Nat.le_trans (ySz_sy f true _ l.tail _ _ _) ht)
      · split
        · exact inl_s
        · split
          · exact inl_s
          · exact sKn_s (Nat.le_trans (ySz_sy f false _ l.tail _ _ _) ht)
  | f + 1, false, w, l, cn, op, o => by
    have ht := tail_le l
    rw [sy_f]
    split
    · exact Nat.le_trans (ySz_sy f false _ l.tail _ _ _) ht
    · split
      · split
        · exact inl_s
        · exact Nat.le_refl _
      · split
        · split
          · exact inl_s
          · exact sKn_s (Nat.le_trans (ySz_sy f true _ l.tail _ _ _) ht)
        · exact sKn_s (Nat.le_trans (ySz_sy f true _ l.tail _ _ _) ht)
theorem ySz_pE (y : sY) (cn : Nat) (o : sK) : ySz (yOf (pE y cn o)) ≤ ySz y := by
  cases y with
  | inl e => exact Nat.le_refl _
  | inr l => exact ySz_sy _ _ _ _ _ _ _
theorem ySz_xf (f : Nat) (y : sY) : ySz (yOf (xFl f y)) ≤ ySz y := by rw [yOf_fl]; exact ySz_fl _ _
theorem ySz_l1 (tl : Bool) (cn : Nat) (o : sK) (y : sY) : ySz (yOf (pL1 tl cn o y)) ≤ ySz y := by
  unfold pL1
  split
  · exact ySz_xf _ _
  · exact Nat.le_trans (ySz_pE _ _ _) (ySz_nx _)
theorem ySz_lw (tl : Nat → Bool) (cn : Nat) (o : sK) (x : sY) : ySz (yOf (pLw tl cn o x).1) ≤ ySz x := by
  unfold pLw
  split
  · exact Nat.le_trans (ySz_l1 _ _ _ _) (ySz_nx _)
  · split
    · exact Nat.le_trans (ySz_l1 _ _ _ _) (ySz_nx _)
    · exact Nat.le_trans (ySz_xf _ _) (ySz_nx _)
theorem ySz_bk (bk : dBk) (cn : Nat) (o : sK) (x : sY) : ySz (yOf (pBk bk cn o x).1) ≤ ySz x := by
  have h1 := ySz_bg (bk.map (fun t => t.1)) 3 x
  unfold pBk
  split
  · show ySz (yOf (match (yBg (bk.map (fun t => t.1)) 3 x).2 with | .inl e => .inl e | .inr _ => .inl (0, 0))) ≤ _
    split
    · exact Nat.zero_le _
    · exact Nat.zero_le _
  · exact Nat.le_trans (ySz_pE _ _ _) (Nat.le_trans (ySz_nm _ _ _) h1)
theorem ySz_line (x : sY) (D : dDc) : ySz (pLine x D).1 ≤ ySz x := by
  unfold pLine
  split
  · exact ySz_tv _ _
  · split
    · exact ySz_vo _ _ _
    · split
      · exact ySz_ve _ _
      · split
        · exact ySz_bk _ _ _ _
        · split
          · exact ySz_ln _ _ _
          · split
            · exact ySz_ln _ _ _
            · split
              · exact ySz_lw _ _ _ _
              · exact ySz_fl _ _
end
section
def zc_120 : List Nat := [29, 191, 214, 220]
theorem s_120_0 {E : yE} {n d : Nat} {mem : yMem} {Post : Option yV → yMem → Prop} {st : List yV} {r1 r2 r3 : Option yV} {x : Int} : zvc E (n + 1) zc_120 d xm_120 0 [some (1, x), r1, r2, r3] (st) mem Post = (zvc E n zc_120 d xm_120 1 [some (1, x), r1, r2, r3] ((1, x) :: st) mem Post) := zrf rfl
theorem s_120_1 {E : yE} {n d : Nat} {mem : yMem} {Post : Option yV → yMem → Prop} {st : List yV} {r0 r1 r2 r3 : Option yV} : zvc E (n + 1) zc_120 d xm_120 1 [r0, r1, r2, r3] ((1, 54) :: st) mem Post = (zvc E n zc_120 d xm_120 4 [r0, r1, r2, r3] ((1, 28) :: st) mem Post) := zrf rfl
theorem s_120_4 {E : yE} {n d : Nat} {mem : yMem} {Post : Option yV → yMem → Prop} {st : List yV} {r0 r1 r2 r3 : Option yV} {z : Int} : zvc E (n + 1) zc_120 d xm_120 4 [r0, r1, r2, r3] ((1, z) :: st) mem Post = (zio z 4 = true ∧ ysum st ≤ 8 ∧ yCon E d xm_77 [(1, z)] mem (fun v mem' => zgk E d xm_120 7 [r0, r1, r2, r3] st v mem' Post)) := zrf rfl
theorem s_120_7 {E : yE} {n d : Nat} {mem : yMem} {Post : Option yV → yMem → Prop} {st : List yV} {r1 r2 r3 : Option yV} {x : Int} : zvc E (n + 1) zc_120 d xm_120 7 [some (1, x), r1, r2, r3] (st) mem Post = (zvc E n zc_120 d xm_120 8 [some (1, x), r1, r2, r3] ((1, x) :: st) mem Post) := zrf rfl
theorem s_120_8 {E : yE} {n d : Nat} {mem : yMem} {Post : Option yV → yMem → Prop} {st : List yV} {r0 r1 r2 r3 : Option yV} : zvc E (n + 1) zc_120 d xm_120 8 [r0, r1, r2, r3] (st) mem Post = (zvc E n zc_120 d xm_120 9 [r0, r1, r2, r3] ((0, 0) :: st) mem Post) := zrf rfl
theorem s_120_9 {E : yE} {n d : Nat} {mem : yMem} {Post : Option yV → yMem → Prop} {st : List yV} {r0 r1 r2 r3 : Option yV} {x : Int} : zvc E (n + 1) zc_120 d xm_120 9 [r0, r1, r2, r3] ((0, x) :: (1, 54) :: st) mem Post = ((w32 x = 0 ∨ w32 x = 1) ∧ zvc E n zc_120 d xm_120 12 [r0, r1, r2, r3] (st) (yset mem 54 2 x) Post) := zrf rfl
theorem s_120_12 {E : yE} {n d : Nat} {mem : yMem} {Post : Option yV → yMem → Prop} {st : List yV} {r1 r2 r3 : Option yV} {x : Int} : zvc E (n + 1) zc_120 d xm_120 12 [some (1, x), r1, r2, r3] (st) mem Post = (zvc E n zc_120 d xm_120 13 [some (1, x), r1, r2, r3] ((1, x) :: st) mem Post) := zrf rfl
theorem s_120_13 {E : yE} {n d : Nat} {mem : yMem} {Post : Option yV → yMem → Prop} {st : List yV} {r0 r1 r2 r3 : Option yV} : zvc E (n + 1) zc_120 d xm_120 13 [r0, r1, r2, r3] (st) mem Post = (zvc E n zc_120 d xm_120 14 [r0, r1, r2, r3] ((0, 0) :: st) mem Post) := zrf rfl
theorem s_120_14 {E : yE} {n d : Nat} {mem : yMem} {Post : Option yV → yMem → Prop} {st : List yV} {r0 r1 r2 r3 : Option yV} {x : Int} : zvc E (n + 1) zc_120 d xm_120 14 [r0, r1, r2, r3] ((0, x) :: (1, 54) :: st) mem Post = ((w32 x = 0 ∨ w32 x = 1) ∧ zvc E n zc_120 d xm_120 17 [r0, r1, r2, r3] (st) (yset mem 54 3 x) Post) := zrf rfl
theorem s_120_17 {E : yE} {n d : Nat} {mem : yMem} {Post : Option yV → yMem → Prop} {st : List yV} {r1 r2 r3 : Option yV} {x : Int} : zvc E (n + 1) zc_120 d xm_120 17 [some (1, x), r1, r2, r3] (st) mem Post = (zvc E n zc_120 d xm_120 18 [some (1, x), r1, r2, r3] ((1, x) :: st) mem Post) := zrf rfl
theorem s_120_18 {E : yE} {n d : Nat} {mem : yMem} {Post : Option yV → yMem → Prop} {st : List yV} {r0 r1 r2 r3 : Option yV} : zvc E (n + 1) zc_120 d xm_120 18 [r0, r1, r2, r3] ((1, 54) :: st) mem Post = (zvc E n zc_120 d xm_120 21 [r0, r1, r2, r3] ((1, 55) :: st) mem Post) := zrf rfl
theorem s_120_21 {E : yE} {n d : Nat} {mem : yMem} {Post : Option yV → yMem → Prop} {st : List yV} {r0 r2 r3 : Option yV} {x : Int} : zvc E (n + 1) zc_120 d xm_120 21 [r0, some (0, x), r2, r3] (st) mem Post = (zvc E n zc_120 d xm_120 22 [r0, some (0, x), r2, r3] ((0, x) :: st) mem Post) := zrf rfl
theorem s_120_22 {E : yE} {n d : Nat} {mem : yMem} {Post : Option yV → yMem → Prop} {st : List yV} {r0 r1 r2 r3 : Option yV} {z a0 : Int} : zvc E (n + 1) zc_120 d xm_120 22 [r0, r1, r2, r3] ((0, a0) :: (1, z) :: st) mem Post = (zio z 9 = true ∧ ysum st ≤ 8 ∧ yCon E d xm_132 [(1, z), (0, a0)] mem (fun v mem' => zgk E d xm_120 25 [r0, r1, r2, r3] st v mem' Post)) := zrf rfl
theorem s_120_25 {E : yE} {n d : Nat} {mem : yMem} {Post : Option yV → yMem → Prop} {st : List yV} {r0 r1 r2 r3 : Option yV} : zvc E (n + 1) zc_120 d xm_120 25 [r0, r1, r2, r3] (st) mem Post = (zvc E n zc_120 d xm_120 26 [r0, r1, r2, r3] ((0, 0) :: st) mem Post) := zrf rfl
theorem s_120_26n {E : yE} {n d : Nat} {mem : yMem} {Post : Option yV → yMem → Prop} {st : List yV} {r0 r2 r3 : Option yV} {x : Int} : zvc E (n + 1) zc_120 d xm_120 26 [r0, none, r2, r3] ((0, x) :: st) mem Post = (zvc E n zc_120 d xm_120 27 [r0, none, some (0, x), r3] (st) mem Post) := zrf rfl
theorem s_120_26i {E : yE} {n d : Nat} {mem : yMem} {Post : Option yV → yMem → Prop} {st : List yV} {r0 r2 r3 : Option yV} {x w : Int} : zvc E (n + 1) zc_120 d xm_120 26 [r0, some (0, w), r2, r3] ((0, x) :: st) mem Post = (zvc E n zc_120 d xm_120 27 [r0, some (0, w), some (0, x), r3] (st) mem Post) := zrf rfl
theorem s_120_26p {E : yE} {n d : Nat} {mem : yMem} {Post : Option yV → yMem → Prop} {st : List yV} {r0 r2 r3 : Option yV} {x w : Int} : zvc E (n + 1) zc_120 d xm_120 26 [r0, some (1, w), r2, r3] ((0, x) :: st) mem Post = (zvc E n zc_120 d xm_120 27 [r0, some (1, w), some (0, x), r3] (st) mem Post) := zrf rfl
theorem s_120_27 {E : yE} {n d : Nat} {mem : yMem} {Post : Option yV → yMem → Prop} {st : List yV} {r0 r1 r2 r3 : Option yV} : zvc E (n + 1) zc_120 d xm_120 27 [r0, r1, r2, r3] (st) mem Post = (zvc E n zc_120 d xm_120 28 [r0, r1, r2, r3] ((0, 0) :: st) mem Post) := zrf rfl
theorem s_120_28n {E : yE} {n d : Nat} {mem : yMem} {Post : Option yV → yMem → Prop} {st : List yV} {r0 r1 r3 : Option yV} {x : Int} : zvc E (n + 1) zc_120 d xm_120 28 [r0, r1, none, r3] ((0, x) :: st) mem Post = (zvc E n zc_120 d xm_120 29 [r0, r1, none, some (0, x)] (st) mem Post) := zrf rfl
theorem s_120_28i {E : yE} {n d : Nat} {mem : yMem} {Post : Option yV → yMem → Prop} {st : List yV} {r0 r1 r3 : Option yV} {x w : Int} : zvc E (n + 1) zc_120 d xm_120 28 [r0, r1, some (0, w), r3] ((0, x) :: st) mem Post = (zvc E n zc_120 d xm_120 29 [r0, r1, some (0, w), some (0, x)] (st) mem Post) := zrf rfl
theorem s_120_28p {E : yE} {n d : Nat} {mem : yMem} {Post : Option yV → yMem → Prop} {st : List yV} {r0 r1 r3 : Option yV} {x w : Int} : zvc E (n + 1) zc_120 d xm_120 28 [r0, r1, some (1, w), r3] ((0, x) :: st) mem Post = (zvc E n zc_120 d xm_120 29 [r0, r1, some (1, w), some (0, x)] (st) mem Post) := zrf rfl
theorem g_120_29 {E : yE} {n d : Nat} {mem : yMem} {Post : Option yV → yMem → Prop} {st : List yV} {r0 r1 r2 : Option yV} {x : Int} : zgo E n zc_120 d xm_120 29 [r0, r1, r2, some (0, x)] (st) mem Post = (zvc E n zc_120 d xm_120 30 [r0, r1, r2, some (0, x)] ((0, x) :: st) mem Post) := zrf rfl
theorem k_120_29 {E : yE} {n d : Nat} {mem : yMem} {Post : Option yV → yMem → Prop} {st : List yV} {rg : zR} : zvc E (n + 1) zc_120 d xm_120 29 rg st mem Post = zG E d xm_120 29 rg st mem Post := zrf rfl
theorem s_120_30 {E : yE} {n d : Nat} {mem : yMem} {Post : Option yV → yMem → Prop} {st : List yV} {r0 r1 r2 r3 : Option yV} : zvc E (n + 1) zc_120 d xm_120 30 [r0, r1, r2, r3] (st) mem Post = (zvc E n zc_120 d xm_120 33 [r0, r1, r2, r3] ((0, 800) :: st) mem Post) := zrf rfl
theorem s_120_33 {E : yE} {n d : Nat} {mem : yMem} {Post : Option yV → yMem → Prop} {st : List yV} {r0 r1 r2 r3 : Option yV} {x y : Int} : zvc E (n + 1) zc_120 d xm_120 33 [r0, r1, r2, r3] ((0, y) :: (0, x) :: st) mem Post = ((w32 y < w32 x → zvc E n zc_120 d xm_120 220 [r0, r1, r2, r3] (st) mem Post) ∧ (¬ (w32 y < w32 x) → zvc E n zc_120 d xm_120 36 [r0, r1, r2, r3] (st) mem Post)) := zrf rfl
theorem s_120_36 {E : yE} {n d : Nat} {mem : yMem} {Post : Option yV → yMem → Prop} {st : List yV} {r1 r2 r3 : Option yV} {x : Int} : zvc E (n + 1) zc_120 d xm_120 36 [some (1, x), r1, r2, r3] (st) mem Post = (zvc E n zc_120 d xm_120 37 [some (1, x), r1, r2, r3] ((1, x) :: st) mem Post) := zrf rfl
theorem s_120_37 {E : yE} {n d : Nat} {mem : yMem} {Post : Option yV → yMem → Prop} {st : List yV} {r0 r1 r2 r3 : Option yV} : zvc E (n + 1) zc_120 d xm_120 37 [r0, r1, r2, r3] ((1, 54) :: st) mem Post = (zvc E n zc_120 d xm_120 40 [r0, r1, r2, r3] ((1, 55) :: st) mem Post) := zrf rfl
theorem s_120_40 {E : yE} {n d : Nat} {mem : yMem} {Post : Option yV → yMem → Prop} {st : List yV} {r0 r1 r2 r3 : Option yV} : zvc E (n + 1) zc_120 d xm_120 40 [r0, r1, r2, r3] ((1, 55) :: st) mem Post = (zvc E n zc_120 d xm_120 43 [r0, r1, r2, r3] ((0, mem 55 4) :: st) mem Post) := zrf rfl
theorem s_120_43 {E : yE} {n d : Nat} {mem : yMem} {Post : Option yV → yMem → Prop} {st : List yV} {r0 r1 r2 r3 : Option yV} {x : Int} : zvc E (n + 1) zc_120 d xm_120 43 [r0, r1, r2, r3] ((0, x) :: st) mem Post = ((w32 x = w32 0 → zvc E n zc_120 d xm_120 220 [r0, r1, r2, r3] (st) mem Post) ∧ (¬ (w32 x = w32 0) → zvc E n zc_120 d xm_120 46 [r0, r1, r2, r3] (st) mem Post)) := zrf rfl
theorem s_120_46 {E : yE} {n d : Nat} {mem : yMem} {Post : Option yV → yMem → Prop} {st : List yV} {r1 r2 r3 : Option yV} {x : Int} : zvc E (n + 1) zc_120 d xm_120 46 [some (1, x), r1, r2, r3] (st) mem Post = (zvc E n zc_120 d xm_120 47 [some (1, x), r1, r2, r3] ((1, x) :: st) mem Post) := zrf rfl
theorem s_120_47 {E : yE} {n d : Nat} {mem : yMem} {Post : Option yV → yMem → Prop} {st : List yV} {r0 r1 r2 r3 : Option yV} : zvc E (n + 1) zc_120 d xm_120 47 [r0, r1, r2, r3] ((1, 54) :: st) mem Post = (zvc E n zc_120 d xm_120 50 [r0, r1, r2, r3] ((1, 55) :: st) mem Post) := zrf rfl
theorem s_120_50 {E : yE} {n d : Nat} {mem : yMem} {Post : Option yV → yMem → Prop} {st : List yV} {r0 r1 r2 r3 : Option yV} : zvc E (n + 1) zc_120 d xm_120 50 [r0, r1, r2, r3] ((1, 55) :: st) mem Post = (zvc E n zc_120 d xm_120 53 [r0, r1, r2, r3] ((0, mem 55 4) :: st) mem Post) := zrf rfl
theorem s_120_53 {E : yE} {n d : Nat} {mem : yMem} {Post : Option yV → yMem → Prop} {st : List yV} {r0 r1 r2 r3 : Option yV} {x : Int} : zvc E (n + 1) zc_120 d xm_120 53 [r0, r1, r2, r3] ((0, x) :: st) mem Post = ((w32 x = 17 → zvc E n zc_120 d xm_120 96 [r0, r1, r2, r3] (st) mem Post) ∧ (¬ w32 x = 17 → (w32 x = 18 → zvc E n zc_120 d xm_120 103 [r0, r1, r2, r3] (st) mem Post) ∧ (¬ w32 x = 18 → (w32 x = 19 → zvc E n zc_120 d xm_120 110 [r0, r1, r2, r3] (st) mem Post) ∧ (¬ w32 x = 19 → (w32 x = 20 → zvc E n zc_120 d xm_120 117 [r0, r1, r2, r3] (st) mem Post) ∧ (¬ w32 x = 20 → (w32 x = 21 → zvc E n zc_120 d xm_120 124 [r0, r1, r2, r3] (st) mem Post) ∧ (¬ w32 x = 21 → (w32 x = 22 → zvc E n zc_120 d xm_120 150 [r0, r1, r2, r3] (st) mem Post) ∧ (¬ w32 x = 22 → (w32 x = 23 → zvc E n zc_120 d xm_120 175 [r0, r1, r2, r3] (st) mem Post) ∧ (¬ w32 x = 23 → zvc E n zc_120 d xm_120 182 [r0, r1, r2, r3] (st) mem Post)))))))) := zrf rfl
theorem s_120_96 {E : yE} {n d : Nat} {mem : yMem} {Post : Option yV → yMem → Prop} {st : List yV} {r1 r2 r3 : Option yV} {x : Int} : zvc E (n + 1) zc_120 d xm_120 96 [some (1, x), r1, r2, r3] (st) mem Post = (zvc E n zc_120 d xm_120 97 [some (1, x), r1, r2, r3] ((1, x) :: st) mem Post) := zrf rfl
theorem s_120_97 {E : yE} {n d : Nat} {mem : yMem} {Post : Option yV → yMem → Prop} {st : List yV} {r0 r1 r2 r3 : Option yV} {z : Int} : zvc E (n + 1) zc_120 d xm_120 97 [r0, r1, r2, r3] ((1, z) :: st) mem Post = (zio z 8 = true ∧ ysum st ≤ 8 ∧ yCon E d xm_116 [(1, z)] mem (fun v mem' => zgk E d xm_120 100 [r0, r1, r2, r3] st v mem' Post)) := zrf rfl
theorem s_120_100 {E : yE} {n d : Nat} {mem : yMem} {Post : Option yV → yMem → Prop} {st : List yV} {r0 r1 r2 r3 : Option yV} : zvc E (n + 1) zc_120 d xm_120 100 [r0, r1, r2, r3] (st) mem Post = (zvc E n zc_120 d xm_120 191 [r0, r1, r2, r3] (st) mem Post) := zrf rfl
theorem s_120_103 {E : yE} {n d : Nat} {mem : yMem} {Post : Option yV → yMem → Prop} {st : List yV} {r1 r2 r3 : Option yV} {x : Int} : zvc E (n + 1) zc_120 d xm_120 103 [some (1, x), r1, r2, r3] (st) mem Post = (zvc E n zc_120 d xm_120 104 [some (1, x), r1, r2, r3] ((1, x) :: st) mem Post) := zrf rfl
theorem s_120_104 {E : yE} {n d : Nat} {mem : yMem} {Post : Option yV → yMem → Prop} {st : List yV} {r0 r1 r2 r3 : Option yV} {z : Int} : zvc E (n + 1) zc_120 d xm_120 104 [r0, r1, r2, r3] ((1, z) :: st) mem Post = (zio z 8 = true ∧ ysum st ≤ 8 ∧ yCon E d xm_118 [(1, z)] mem (fun v mem' => zgk E d xm_120 107 [r0, r1, r2, r3] st v mem' Post)) := zrf rfl
theorem s_120_107 {E : yE} {n d : Nat} {mem : yMem} {Post : Option yV → yMem → Prop} {st : List yV} {r0 r1 r2 r3 : Option yV} : zvc E (n + 1) zc_120 d xm_120 107 [r0, r1, r2, r3] (st) mem Post = (zvc E n zc_120 d xm_120 191 [r0, r1, r2, r3] (st) mem Post) := zrf rfl
theorem s_120_110 {E : yE} {n d : Nat} {mem : yMem} {Post : Option yV → yMem → Prop} {st : List yV} {r1 r2 r3 : Option yV} {x : Int} : zvc E (n + 1) zc_120 d xm_120 110 [some (1, x), r1, r2, r3] (st) mem Post = (zvc E n zc_120 d xm_120 111 [some (1, x), r1, r2, r3] ((1, x) :: st) mem Post) := zrf rfl
theorem s_120_111 {E : yE} {n d : Nat} {mem : yMem} {Post : Option yV → yMem → Prop} {st : List yV} {r0 r1 r2 r3 : Option yV} {z : Int} : zvc E (n + 1) zc_120 d xm_120 111 [r0, r1, r2, r3] ((1, z) :: st) mem Post = (zio z 8 = true ∧ ysum st ≤ 8 ∧ yCon E d xm_117 [(1, z)] mem (fun v mem' => zgk E d xm_120 114 [r0, r1, r2, r3] st v mem' Post)) := zrf rfl
theorem s_120_114 {E : yE} {n d : Nat} {mem : yMem} {Post : Option yV → yMem → Prop} {st : List yV} {r0 r1 r2 r3 : Option yV} : zvc E (n + 1) zc_120 d xm_120 114 [r0, r1, r2, r3] (st) mem Post = (zvc E n zc_120 d xm_120 191 [r0, r1, r2, r3] (st) mem Post) := zrf rfl
theorem s_120_117 {E : yE} {n d : Nat} {mem : yMem} {Post : Option yV → yMem → Prop} {st : List yV} {r1 r2 r3 : Option yV} {x : Int} : zvc E (n + 1) zc_120 d xm_120 117 [some (1, x), r1, r2, r3] (st) mem Post = (zvc E n zc_120 d xm_120 118 [some (1, x), r1, r2, r3] ((1, x) :: st) mem Post) := zrf rfl
theorem s_120_118 {E : yE} {n d : Nat} {mem : yMem} {Post : Option yV → yMem → Prop} {st : List yV} {r0 r1 r2 r3 : Option yV} {z : Int} : zvc E (n + 1) zc_120 d xm_120 118 [r0, r1, r2, r3] ((1, z) :: st) mem Post = (zio z 8 = true ∧ ysum st ≤ 8 ∧ yCon E d xm_113 [(1, z)] mem (fun v mem' => zgk E d xm_120 121 [r0, r1, r2, r3] st v mem' Post)) := zrf rfl
theorem s_120_121 {E : yE} {n d : Nat} {mem : yMem} {Post : Option yV → yMem → Prop} {st : List yV} {r0 r1 r2 r3 : Option yV} : zvc E (n + 1) zc_120 d xm_120 121 [r0, r1, r2, r3] (st) mem Post = (zvc E n zc_120 d xm_120 191 [r0, r1, r2, r3] (st) mem Post) := zrf rfl
theorem s_120_124 {E : yE} {n d : Nat} {mem : yMem} {Post : Option yV → yMem → Prop} {st : List yV} {r1 r2 r3 : Option yV} {x : Int} : zvc E (n + 1) zc_120 d xm_120 124 [some (1, x), r1, r2, r3] (st) mem Post = (zvc E n zc_120 d xm_120 125 [some (1, x), r1, r2, r3] ((1, x) :: st) mem Post) := zrf rfl
theorem s_120_125 {E : yE} {n d : Nat} {mem : yMem} {Post : Option yV → yMem → Prop} {st : List yV} {r0 r1 r2 r3 : Option yV} : zvc E (n + 1) zc_120 d xm_120 125 [r0, r1, r2, r3] ((1, 54) :: st) mem Post = (zvc E n zc_120 d xm_120 128 [r0, r1, r2, r3] ((1, 28) :: st) mem Post) := zrf rfl
theorem s_120_128 {E : yE} {n d : Nat} {mem : yMem} {Post : Option yV → yMem → Prop} {st : List yV} {r1 r2 r3 : Option yV} {x : Int} : zvc E (n + 1) zc_120 d xm_120 128 [some (1, x), r1, r2, r3] (st) mem Post = (zvc E n zc_120 d xm_120 129 [some (1, x), r1, r2, r3] ((1, x) :: st) mem Post) := zrf rfl
theorem s_120_129 {E : yE} {n d : Nat} {mem : yMem} {Post : Option yV → yMem → Prop} {st : List yV} {r1 r2 r3 : Option yV} {x : Int} : zvc E (n + 1) zc_120 d xm_120 129 [some (1, x), r1, r2, r3] (st) mem Post = (zvc E n zc_120 d xm_120 130 [some (1, x), r1, r2, r3] ((1, x) :: st) mem Post) := zrf rfl
theorem s_120_130 {E : yE} {n d : Nat} {mem : yMem} {Post : Option yV → yMem → Prop} {st : List yV} {r0 r1 r2 r3 : Option yV} : zvc E (n + 1) zc_120 d xm_120 130 [r0, r1, r2, r3] ((1, 54) :: st) mem Post = (zvc E n zc_120 d xm_120 133 [r0, r1, r2, r3] ((0, mem 54 2) :: st) mem Post) := zrf rfl
theorem s_120_133 {E : yE} {n d : Nat} {mem : yMem} {Post : Option yV → yMem → Prop} {st : List yV} {r0 r1 r2 r3 : Option yV} : zvc E (n + 1) zc_120 d xm_120 133 [r0, r1, r2, r3] (st) mem Post = (zvc E n zc_120 d xm_120 136 [r0, r1, r2, r3] ((0, 999) :: st) mem Post) := zrf rfl
theorem s_120_136 {E : yE} {n d : Nat} {mem : yMem} {Post : Option yV → yMem → Prop} {st : List yV} {r0 r1 r2 r3 : Option yV} {z a0 a1 : Int} : zvc E (n + 1) zc_120 d xm_120 136 [r0, r1, r2, r3] ((0, a1) :: (0, a0) :: (1, z) :: st) mem Post = (zio z 8 = true ∧ ysum st ≤ 8 ∧ yCon E d xm_111 [(1, z), (0, a0), (0, a1)] mem (fun v mem' => zgk E d xm_120 139 [r0, r1, r2, r3] st v mem' Post)) := zrf rfl
theorem s_120_139_2 {E : yE} {n d : Nat} {mem : yMem} {Post : Option yV → yMem → Prop} {st : List yV} {r0 r1 r2 r3 : Option yV} {x : Int} : zvc E (n + 1) zc_120 d xm_120 139 [r0, r1, r2, r3] ((0, x) :: (1, 2) :: st) mem Post = (zvc E n zc_120 d xm_120 142 [r0, r1, r2, r3] (st) (yset mem 2 17 x) Post) := zrf rfl
theorem s_120_139_28 {E : yE} {n d : Nat} {mem : yMem} {Post : Option yV → yMem → Prop} {st : List yV} {r0 r1 r2 r3 : Option yV} {x : Int} : zvc E (n + 1) zc_120 d xm_120 139 [r0, r1, r2, r3] ((0, x) :: (1, 28) :: st) mem Post = (zvc E n zc_120 d xm_120 142 [r0, r1, r2, r3] (st) (yset mem 28 17 x) Post) := zrf rfl
theorem s_120_142 {E : yE} {n d : Nat} {mem : yMem} {Post : Option yV → yMem → Prop} {st : List yV} {r1 r2 r3 : Option yV} {x : Int} : zvc E (n + 1) zc_120 d xm_120 142 [some (1, x), r1, r2, r3] (st) mem Post = (zvc E n zc_120 d xm_120 143 [some (1, x), r1, r2, r3] ((1, x) :: st) mem Post) := zrf rfl
theorem s_120_143 {E : yE} {n d : Nat} {mem : yMem} {Post : Option yV → yMem → Prop} {st : List yV} {r0 r1 r2 r3 : Option yV} : zvc E (n + 1) zc_120 d xm_120 143 [r0, r1, r2, r3] (st) mem Post = (zvc E n zc_120 d xm_120 144 [r0, r1, r2, r3] ((0, 1) :: st) mem Post) := zrf rfl
theorem s_120_144 {E : yE} {n d : Nat} {mem : yMem} {Post : Option yV → yMem → Prop} {st : List yV} {r0 r1 r2 r3 : Option yV} {x : Int} : zvc E (n + 1) zc_120 d xm_120 144 [r0, r1, r2, r3] ((0, x) :: (1, 54) :: st) mem Post = ((w32 x = 0 ∨ w32 x = 1) ∧ zvc E n zc_120 d xm_120 147 [r0, r1, r2, r3] (st) (yset mem 54 2 x) Post) := zrf rfl
theorem s_120_147 {E : yE} {n d : Nat} {mem : yMem} {Post : Option yV → yMem → Prop} {st : List yV} {r0 r1 r2 r3 : Option yV} : zvc E (n + 1) zc_120 d xm_120 147 [r0, r1, r2, r3] (st) mem Post = (zvc E n zc_120 d xm_120 191 [r0, r1, r2, r3] (st) mem Post) := zrf rfl
theorem s_120_150 {E : yE} {n d : Nat} {mem : yMem} {Post : Option yV → yMem → Prop} {st : List yV} {r1 r2 r3 : Option yV} {x : Int} : zvc E (n + 1) zc_120 d xm_120 150 [some (1, x), r1, r2, r3] (st) mem Post = (zvc E n zc_120 d xm_120 151 [some (1, x), r1, r2, r3] ((1, x) :: st) mem Post) := zrf rfl
theorem s_120_151 {E : yE} {n d : Nat} {mem : yMem} {Post : Option yV → yMem → Prop} {st : List yV} {r0 r1 r2 r3 : Option yV} : zvc E (n + 1) zc_120 d xm_120 151 [r0, r1, r2, r3] ((1, 54) :: st) mem Post = (zvc E n zc_120 d xm_120 154 [r0, r1, r2, r3] ((1, 28) :: st) mem Post) := zrf rfl
theorem s_120_154 {E : yE} {n d : Nat} {mem : yMem} {Post : Option yV → yMem → Prop} {st : List yV} {r1 r2 r3 : Option yV} {x : Int} : zvc E (n + 1) zc_120 d xm_120 154 [some (1, x), r1, r2, r3] (st) mem Post = (zvc E n zc_120 d xm_120 155 [some (1, x), r1, r2, r3] ((1, x) :: st) mem Post) := zrf rfl
theorem s_120_155 {E : yE} {n d : Nat} {mem : yMem} {Post : Option yV → yMem → Prop} {st : List yV} {r1 r2 r3 : Option yV} {x : Int} : zvc E (n + 1) zc_120 d xm_120 155 [some (1, x), r1, r2, r3] (st) mem Post = (zvc E n zc_120 d xm_120 156 [some (1, x), r1, r2, r3] ((1, x) :: st) mem Post) := zrf rfl
theorem s_120_156 {E : yE} {n d : Nat} {mem : yMem} {Post : Option yV → yMem → Prop} {st : List yV} {r0 r1 r2 r3 : Option yV} : zvc E (n + 1) zc_120 d xm_120 156 [r0, r1, r2, r3] ((1, 54) :: st) mem Post = (zvc E n zc_120 d xm_120 159 [r0, r1, r2, r3] ((0, mem 54 3) :: st) mem Post) := zrf rfl
theorem s_120_159 {E : yE} {n d : Nat} {mem : yMem} {Post : Option yV → yMem → Prop} {st : List yV} {r0 r1 r2 r3 : Option yV} : zvc E (n + 1) zc_120 d xm_120 159 [r0, r1, r2, r3] (st) mem Post = (zvc E n zc_120 d xm_120 161 [r0, r1, r2, r3] ((0, 99999) :: st) mem Post) := zrf rfl
theorem s_120_161 {E : yE} {n d : Nat} {mem : yMem} {Post : Option yV → yMem → Prop} {st : List yV} {r0 r1 r2 r3 : Option yV} {z a0 a1 : Int} : zvc E (n + 1) zc_120 d xm_120 161 [r0, r1, r2, r3] ((0, a1) :: (0, a0) :: (1, z) :: st) mem Post = (zio z 8 = true ∧ ysum st ≤ 8 ∧ yCon E d xm_111 [(1, z), (0, a0), (0, a1)] mem (fun v mem' => zgk E d xm_120 164 [r0, r1, r2, r3] st v mem' Post)) := zrf rfl
theorem s_120_164_2 {E : yE} {n d : Nat} {mem : yMem} {Post : Option yV → yMem → Prop} {st : List yV} {r0 r1 r2 r3 : Option yV} {x : Int} : zvc E (n + 1) zc_120 d xm_120 164 [r0, r1, r2, r3] ((0, x) :: (1, 2) :: st) mem Post = (zvc E n zc_120 d xm_120 167 [r0, r1, r2, r3] (st) (yset mem 2 18 x) Post) := zrf rfl
theorem s_120_164_28 {E : yE} {n d : Nat} {mem : yMem} {Post : Option yV → yMem → Prop} {st : List yV} {r0 r1 r2 r3 : Option yV} {x : Int} : zvc E (n + 1) zc_120 d xm_120 164 [r0, r1, r2, r3] ((0, x) :: (1, 28) :: st) mem Post = (zvc E n zc_120 d xm_120 167 [r0, r1, r2, r3] (st) (yset mem 28 18 x) Post) := zrf rfl
theorem s_120_167 {E : yE} {n d : Nat} {mem : yMem} {Post : Option yV → yMem → Prop} {st : List yV} {r1 r2 r3 : Option yV} {x : Int} : zvc E (n + 1) zc_120 d xm_120 167 [some (1, x), r1, r2, r3] (st) mem Post = (zvc E n zc_120 d xm_120 168 [some (1, x), r1, r2, r3] ((1, x) :: st) mem Post) := zrf rfl
theorem s_120_168 {E : yE} {n d : Nat} {mem : yMem} {Post : Option yV → yMem → Prop} {st : List yV} {r0 r1 r2 r3 : Option yV} : zvc E (n + 1) zc_120 d xm_120 168 [r0, r1, r2, r3] (st) mem Post = (zvc E n zc_120 d xm_120 169 [r0, r1, r2, r3] ((0, 1) :: st) mem Post) := zrf rfl
theorem s_120_169 {E : yE} {n d : Nat} {mem : yMem} {Post : Option yV → yMem → Prop} {st : List yV} {r0 r1 r2 r3 : Option yV} {x : Int} : zvc E (n + 1) zc_120 d xm_120 169 [r0, r1, r2, r3] ((0, x) :: (1, 54) :: st) mem Post = ((w32 x = 0 ∨ w32 x = 1) ∧ zvc E n zc_120 d xm_120 172 [r0, r1, r2, r3] (st) (yset mem 54 3 x) Post) := zrf rfl
theorem s_120_172 {E : yE} {n d : Nat} {mem : yMem} {Post : Option yV → yMem → Prop} {st : List yV} {r0 r1 r2 r3 : Option yV} : zvc E (n + 1) zc_120 d xm_120 172 [r0, r1, r2, r3] (st) mem Post = (zvc E n zc_120 d xm_120 191 [r0, r1, r2, r3] (st) mem Post) := zrf rfl
theorem s_120_175 {E : yE} {n d : Nat} {mem : yMem} {Post : Option yV → yMem → Prop} {st : List yV} {r1 r2 r3 : Option yV} {x : Int} : zvc E (n + 1) zc_120 d xm_120 175 [some (1, x), r1, r2, r3] (st) mem Post = (zvc E n zc_120 d xm_120 176 [some (1, x), r1, r2, r3] ((1, x) :: st) mem Post) := zrf rfl
theorem s_120_176 {E : yE} {n d : Nat} {mem : yMem} {Post : Option yV → yMem → Prop} {st : List yV} {r0 r1 r2 r3 : Option yV} {z : Int} : zvc E (n + 1) zc_120 d xm_120 176 [r0, r1, r2, r3] ((1, z) :: st) mem Post = (zio z 8 = true ∧ ysum st ≤ 8 ∧ yCon E d xm_114 [(1, z)] mem (fun v mem' => zgk E d xm_120 179 [r0, r1, r2, r3] st v mem' Post)) := zrf rfl
theorem s_120_179 {E : yE} {n d : Nat} {mem : yMem} {Post : Option yV → yMem → Prop} {st : List yV} {r0 r1 r2 r3 : Option yV} : zvc E (n + 1) zc_120 d xm_120 179 [r0, r1, r2, r3] (st) mem Post = (zvc E n zc_120 d xm_120 191 [r0, r1, r2, r3] (st) mem Post) := zrf rfl
theorem s_120_182 {E : yE} {n d : Nat} {mem : yMem} {Post : Option yV → yMem → Prop} {st : List yV} {r1 r2 r3 : Option yV} {x : Int} : zvc E (n + 1) zc_120 d xm_120 182 [some (1, x), r1, r2, r3] (st) mem Post = (zvc E n zc_120 d xm_120 183 [some (1, x), r1, r2, r3] ((1, x) :: st) mem Post) := zrf rfl
theorem s_120_183 {E : yE} {n d : Nat} {mem : yMem} {Post : Option yV → yMem → Prop} {st : List yV} {r0 r1 r2 r3 : Option yV} : zvc E (n + 1) zc_120 d xm_120 183 [r0, r1, r2, r3] ((1, 54) :: st) mem Post = (zvc E n zc_120 d xm_120 186 [r0, r1, r2, r3] ((1, 55) :: st) mem Post) := zrf rfl
theorem s_120_186 {E : yE} {n d : Nat} {mem : yMem} {Post : Option yV → yMem → Prop} {st : List yV} {r0 r1 r2 r3 : Option yV} : zvc E (n + 1) zc_120 d xm_120 186 [r0, r1, r2, r3] (st) mem Post = (zvc E n zc_120 d xm_120 187 [r0, r1, r2, r3] ((0, 1) :: st) mem Post) := zrf rfl
theorem s_120_187 {E : yE} {n d : Nat} {mem : yMem} {Post : Option yV → yMem → Prop} {st : List yV} {r0 r1 r2 r3 : Option yV} {z a0 : Int} : zvc E (n + 1) zc_120 (d + 1) xm_120 187 [r0, r1, r2, r3] ((0, a0) :: (1, z) :: st) mem Post = (zio z 9 = true ∧ ysum st ≤ 8 ∧ zvc E n [] d xm_123 0 [some (1, z), some (0, a0)] [] mem (fun v mem' => zvk E n zc_120 (d + 1) xm_120 190 [r0, r1, r2, r3] st v mem' Post)) := zrf rfl
theorem s_120_190a {E : yE} {n d : Nat} {mem : yMem} {Post : Option yV → yMem → Prop} {st : List yV} {r0 r1 r2 r3 : Option yV} {x : Int} : zvc E (n + 1) zc_120 d xm_120 190 [r0, r1, r2, r3] ((0, x) :: st) mem Post = (zvc E n zc_120 d xm_120 191 [r0, r1, r2, r3] (st) mem Post) := zrf rfl
theorem s_120_190b {E : yE} {n d : Nat} {mem : yMem} {Post : Option yV → yMem → Prop} {st : List yV} {r0 r1 r2 r3 : Option yV} {x : Int} : zvc E (n + 1) zc_120 d xm_120 190 [r0, r1, r2, r3] ((1, x) :: st) mem Post = (zvc E n zc_120 d xm_120 191 [r0, r1, r2, r3] (st) mem Post) := zrf rfl
theorem g_120_191 {E : yE} {n d : Nat} {mem : yMem} {Post : Option yV → yMem → Prop} {st : List yV} {r1 r2 r3 : Option yV} {x : Int} : zgo E n zc_120 d xm_120 191 [some (1, x), r1, r2, r3] (st) mem Post = (zvc E n zc_120 d xm_120 192 [some (1, x), r1, r2, r3] ((1, x) :: st) mem Post) := zrf rfl
theorem k_120_191 {E : yE} {n d : Nat} {mem : yMem} {Post : Option yV → yMem → Prop} {st : List yV} {rg : zR} : zvc E (n + 1) zc_120 d xm_120 191 rg st mem Post = zG E d xm_120 191 rg st mem Post := zrf rfl
theorem s_120_192 {E : yE} {n d : Nat} {mem : yMem} {Post : Option yV → yMem → Prop} {st : List yV} {r0 r1 r2 r3 : Option yV} : zvc E (n + 1) zc_120 d xm_120 192 [r0, r1, r2, r3] (st) mem Post = (zvc E n zc_120 d xm_120 193 [r0, r1, r2, r3] ((0, 4) :: st) mem Post) := zrf rfl
theorem s_120_193 {E : yE} {n d : Nat} {mem : yMem} {Post : Option yV → yMem → Prop} {st : List yV} {r0 r1 r2 r3 : Option yV} {z a0 : Int} : zvc E (n + 1) zc_120 (d + 1) xm_120 193 [r0, r1, r2, r3] ((0, a0) :: (1, z) :: st) mem Post = (zio z 8 = true ∧ ysum st ≤ 8 ∧ zvc E n [] d xm_119 0 [some (1, z), some (0, a0)] [] mem (fun v mem' => zvk E n zc_120 (d + 1) xm_120 196 [r0, r1, r2, r3] st v mem' Post)) := zrf rfl
theorem s_120_196 {E : yE} {n d : Nat} {mem : yMem} {Post : Option yV → yMem → Prop} {st : List yV} {r0 r1 r2 r3 : Option yV} {x : Int} : zvc E (n + 1) zc_120 d xm_120 196 [r0, r1, r2, r3] ((0, x) :: st) mem Post = ((w32 x = w32 0 → zvc E n zc_120 d xm_120 205 [r0, r1, r2, r3] (st) mem Post) ∧ (¬ (w32 x = w32 0) → zvc E n zc_120 d xm_120 199 [r0, r1, r2, r3] (st) mem Post)) := zrf rfl
theorem s_120_199n {E : yE} {n d : Nat} {mem : yMem} {Post : Option yV → yMem → Prop} {st : List yV} {r0 r3 : Option yV} {x : Int} : zvc E (n + 1) zc_120 d xm_120 199 [r0, none, some (0, x), r3] (st) mem Post = (zvc E n zc_120 d xm_120 202 [r0, none, some (0, x + 1), r3] (st) mem Post) := zrf rfl
theorem s_120_199i {E : yE} {n d : Nat} {mem : yMem} {Post : Option yV → yMem → Prop} {st : List yV} {r0 r3 : Option yV} {x w : Int} : zvc E (n + 1) zc_120 d xm_120 199 [r0, some (0, w), some (0, x), r3] (st) mem Post = (zvc E n zc_120 d xm_120 202 [r0, some (0, w), some (0, x + 1), r3] (st) mem Post) := zrf rfl
theorem s_120_199p {E : yE} {n d : Nat} {mem : yMem} {Post : Option yV → yMem → Prop} {st : List yV} {r0 r3 : Option yV} {x w : Int} : zvc E (n + 1) zc_120 d xm_120 199 [r0, some (1, w), some (0, x), r3] (st) mem Post = (zvc E n zc_120 d xm_120 202 [r0, some (1, w), some (0, x + 1), r3] (st) mem Post) := zrf rfl
theorem s_120_202 {E : yE} {n d : Nat} {mem : yMem} {Post : Option yV → yMem → Prop} {st : List yV} {r0 r1 r2 r3 : Option yV} : zvc E (n + 1) zc_120 d xm_120 202 [r0, r1, r2, r3] (st) mem Post = (zvc E n zc_120 d xm_120 214 [r0, r1, r2, r3] (st) mem Post) := zrf rfl
theorem s_120_205 {E : yE} {n d : Nat} {mem : yMem} {Post : Option yV → yMem → Prop} {st : List yV} {r1 r2 r3 : Option yV} {x : Int} : zvc E (n + 1) zc_120 d xm_120 205 [some (1, x), r1, r2, r3] (st) mem Post = (zvc E n zc_120 d xm_120 206 [some (1, x), r1, r2, r3] ((1, x) :: st) mem Post) := zrf rfl
theorem s_120_206 {E : yE} {n d : Nat} {mem : yMem} {Post : Option yV → yMem → Prop} {st : List yV} {r0 r1 r2 r3 : Option yV} : zvc E (n + 1) zc_120 d xm_120 206 [r0, r1, r2, r3] ((1, 54) :: st) mem Post = (zvc E n zc_120 d xm_120 209 [r0, r1, r2, r3] ((1, 55) :: st) mem Post) := zrf rfl
theorem s_120_209 {E : yE} {n d : Nat} {mem : yMem} {Post : Option yV → yMem → Prop} {st : List yV} {r0 r1 r2 r3 : Option yV} : zvc E (n + 1) zc_120 d xm_120 209 [r0, r1, r2, r3] (st) mem Post = (zvc E n zc_120 d xm_120 210 [r0, r1, r2, r3] ((0, 1) :: st) mem Post) := zrf rfl
theorem s_120_210 {E : yE} {n d : Nat} {mem : yMem} {Post : Option yV → yMem → Prop} {st : List yV} {r0 r1 r2 r3 : Option yV} {z a0 : Int} : zvc E (n + 1) zc_120 (d + 1) xm_120 210 [r0, r1, r2, r3] ((0, a0) :: (1, z) :: st) mem Post = (zio z 9 = true ∧ ysum st ≤ 8 ∧ zvc E n [] d xm_123 0 [some (1, z), some (0, a0)] [] mem (fun v mem' => zvk E n zc_120 (d + 1) xm_120 213 [r0, r1, r2, r3] st v mem' Post)) := zrf rfl
theorem s_120_213a {E : yE} {n d : Nat} {mem : yMem} {Post : Option yV → yMem → Prop} {st : List yV} {r0 r1 r2 r3 : Option yV} {x : Int} : zvc E (n + 1) zc_120 d xm_120 213 [r0, r1, r2, r3] ((0, x) :: st) mem Post = (zvc E n zc_120 d xm_120 214 [r0, r1, r2, r3] (st) mem Post) := zrf rfl
theorem s_120_213b {E : yE} {n d : Nat} {mem : yMem} {Post : Option yV → yMem → Prop} {st : List yV} {r0 r1 r2 r3 : Option yV} {x : Int} : zvc E (n + 1) zc_120 d xm_120 213 [r0, r1, r2, r3] ((1, x) :: st) mem Post = (zvc E n zc_120 d xm_120 214 [r0, r1, r2, r3] (st) mem Post) := zrf rfl
theorem g_120_214n {E : yE} {n d : Nat} {mem : yMem} {Post : Option yV → yMem → Prop} {st : List yV} {r0 r1 : Option yV} {x : Int} : zgo E n zc_120 d xm_120 214 [r0, r1, none, some (0, x)] (st) mem Post = (zvc E n zc_120 d xm_120 217 [r0, r1, none, some (0, x + 1)] (st) mem Post) := zrf rfl
theorem g_120_214i {E : yE} {n d : Nat} {mem : yMem} {Post : Option yV → yMem → Prop} {st : List yV} {r0 r1 : Option yV} {x w : Int} : zgo E n zc_120 d xm_120 214 [r0, r1, some (0, w), some (0, x)] (st) mem Post = (zvc E n zc_120 d xm_120 217 [r0, r1, some (0, w), some (0, x + 1)] (st) mem Post) := zrf rfl
theorem g_120_214p {E : yE} {n d : Nat} {mem : yMem} {Post : Option yV → yMem → Prop} {st : List yV} {r0 r1 : Option yV} {x w : Int} : zgo E n zc_120 d xm_120 214 [r0, r1, some (1, w), some (0, x)] (st) mem Post = (zvc E n zc_120 d xm_120 217 [r0, r1, some (1, w), some (0, x + 1)] (st) mem Post) := zrf rfl
theorem k_120_214 {E : yE} {n d : Nat} {mem : yMem} {Post : Option yV → yMem → Prop} {st : List yV} {rg : zR} : zvc E (n + 1) zc_120 d xm_120 214 rg st mem Post = zG E d xm_120 214 rg st mem Post := zrf rfl
theorem s_120_217 {E : yE} {n d : Nat} {mem : yMem} {Post : Option yV → yMem → Prop} {st : List yV} {r0 r1 r2 r3 : Option yV} : zvc E (n + 1) zc_120 d xm_120 217 [r0, r1, r2, r3] (st) mem Post = (zvc E n zc_120 d xm_120 29 [r0, r1, r2, r3] (st) mem Post) := zrf rfl
theorem g_120_220 {E : yE} {n d : Nat} {mem : yMem} {Post : Option yV → yMem → Prop} {st : List yV} {r0 r1 r3 : Option yV} {x : Int} : zgo E n zc_120 d xm_120 220 [r0, r1, some (0, x), r3] (st) mem Post = (zvc E n zc_120 d xm_120 221 [r0, r1, some (0, x), r3] ((0, x) :: st) mem Post) := zrf rfl
theorem k_120_220 {E : yE} {n d : Nat} {mem : yMem} {Post : Option yV → yMem → Prop} {st : List yV} {rg : zR} : zvc E (n + 1) zc_120 d xm_120 220 rg st mem Post = zG E d xm_120 220 rg st mem Post := zrf rfl
theorem s_120_221 {E : yE} {n d : Nat} {mem : yMem} {Post : Option yV → yMem → Prop} {r0 r1 r2 r3 : Option yV} {x : Int} : zvc E (n + 1) zc_120 d xm_120 221 [r0, r1, r2, r3] ([(0, x)]) mem Post = (Post (some (0, x)) mem) := zrf rfl
theorem s_132_0 {E : yE} {n d : Nat} {mem : yMem} {Post : Option yV → yMem → Prop} {st : List yV} {r1 : Option yV} {x : Int} : zvc E (n + 1) [] d xm_132 0 [some (1, x), r1] (st) mem Post = (zvc E n [] d xm_132 1 [some (1, x), r1] ((1, x) :: st) mem Post) := zrf rfl
theorem s_132_1 {E : yE} {n d : Nat} {mem : yMem} {Post : Option yV → yMem → Prop} {st : List yV} {r0 : Option yV} {x : Int} : zvc E (n + 1) [] d xm_132 1 [r0, some (0, x)] (st) mem Post = (zvc E n [] d xm_132 2 [r0, some (0, x)] ((0, x) :: st) mem Post) := zrf rfl
theorem s_132_2 {E : yE} {n d : Nat} {mem : yMem} {Post : Option yV → yMem → Prop} {st : List yV} {r1 : Option yV} {x : Int} : zvc E (n + 1) [] d xm_132 2 [some (1, x), r1] (st) mem Post = (zvc E n [] d xm_132 3 [some (1, x), r1] ((1, x) :: st) mem Post) := zrf rfl
theorem s_132_3 {E : yE} {n d : Nat} {mem : yMem} {Post : Option yV → yMem → Prop} {st : List yV} {r0 r1 : Option yV} : zvc E (n + 1) [] d xm_132 3 [r0, r1] ((1, 55) :: st) mem Post = (zvc E n [] d xm_132 6 [r0, r1] ((1, 1) :: st) mem Post) := zrf rfl
theorem s_132_6 {E : yE} {n d : Nat} {mem : yMem} {Post : Option yV → yMem → Prop} {st : List yV} {r0 r1 : Option yV} {z : Int} : zvc E (n + 1) [] d xm_132 6 [r0, r1] ((1, z) :: st) mem Post = (zia z = true ∧ zvc E n [] d xm_132 7 [r0, r1] ((0, ((zln z : Nat) : Int)) :: st) mem Post) := zrf rfl
theorem s_132_7 {E : yE} {n d : Nat} {mem : yMem} {Post : Option yV → yMem → Prop} {st : List yV} {r0 r1 : Option yV} {x y : Int} : zvc E (n + 1) [] d xm_132 7 [r0, r1] ((0, y) :: (0, x) :: st) mem Post = (ysum st ≤ 8 ∧ zvc E n [] d xm_132 10 [r0, r1] ((0, zmni x y) :: st) mem Post) := zrf rfl
theorem s_132_10 {E : yE} {n d : Nat} {mem : yMem} {Post : Option yV → yMem → Prop} {st : List yV} {r0 r1 : Option yV} {x : Int} : zvc E (n + 1) [] d xm_132 10 [r0, r1] ((0, x) :: (1, 55) :: st) mem Post = (zvc E n [] d xm_132 13 [r0, r1] (st) (yset mem 55 2 x) Post) := zrf rfl
theorem s_132_13 {E : yE} {n d : Nat} {mem : yMem} {Post : Option yV → yMem → Prop} {st : List yV} {r1 : Option yV} {x : Int} : zvc E (n + 1) [] d xm_132 13 [some (1, x), r1] (st) mem Post = (zvc E n [] d xm_132 14 [some (1, x), r1] ((1, x) :: st) mem Post) := zrf rfl
theorem s_132_14 {E : yE} {n d : Nat} {mem : yMem} {Post : Option yV → yMem → Prop} {st : List yV} {r0 r1 : Option yV} : zvc E (n + 1) [] d xm_132 14 [r0, r1] (st) mem Post = (zvc E n [] d xm_132 15 [r0, r1] ((0, 0) :: st) mem Post) := zrf rfl
theorem s_132_15 {E : yE} {n d : Nat} {mem : yMem} {Post : Option yV → yMem → Prop} {st : List yV} {r0 r1 : Option yV} {x : Int} : zvc E (n + 1) [] d xm_132 15 [r0, r1] ((0, x) :: (1, 55) :: st) mem Post = (zvc E n [] d xm_132 18 [r0, r1] (st) (yset mem 55 3 x) Post) := zrf rfl
theorem s_132_18 {E : yE} {n d : Nat} {mem : yMem} {Post : Option yV → yMem → Prop} {st : List yV} {r1 : Option yV} {x : Int} : zvc E (n + 1) [] d xm_132 18 [some (1, x), r1] (st) mem Post = (zvc E n [] d xm_132 19 [some (1, x), r1] ((1, x) :: st) mem Post) := zrf rfl
theorem s_132_19 {E : yE} {n d : Nat} {mem : yMem} {Post : Option yV → yMem → Prop} {st : List yV} {r0 r1 : Option yV} : zvc E (n + 1) [] d xm_132 19 [r0, r1] (st) mem Post = (zvc E n [] d xm_132 20 [r0, r1] ((0, 0) :: st) mem Post) := zrf rfl
theorem s_132_20 {E : yE} {n d : Nat} {mem : yMem} {Post : Option yV → yMem → Prop} {st : List yV} {r0 r1 : Option yV} {x : Int} : zvc E (n + 1) [] d xm_132 20 [r0, r1] ((0, x) :: (1, 55) :: st) mem Post = (zvc E n [] d xm_132 23 [r0, r1] (st) (yset mem 55 7 x) Post) := zrf rfl
theorem s_132_23 {E : yE} {n d : Nat} {mem : yMem} {Post : Option yV → yMem → Prop} {st : List yV} {r1 : Option yV} {x : Int} : zvc E (n + 1) [] d xm_132 23 [some (1, x), r1] (st) mem Post = (zvc E n [] d xm_132 24 [some (1, x), r1] ((1, x) :: st) mem Post) := zrf rfl
theorem s_132_24 {E : yE} {n d : Nat} {mem : yMem} {Post : Option yV → yMem → Prop} {st : List yV} {r0 r1 : Option yV} : zvc E (n + 1) [] d xm_132 24 [r0, r1] (st) mem Post = (zvc E n [] d xm_132 25 [r0, r1] ((0, (-1)) :: st) mem Post) := zrf rfl
theorem s_132_25 {E : yE} {n d : Nat} {mem : yMem} {Post : Option yV → yMem → Prop} {st : List yV} {r0 r1 : Option yV} {x : Int} : zvc E (n + 1) [] d xm_132 25 [r0, r1] ((0, x) :: (1, 55) :: st) mem Post = (zvc E n [] d xm_132 28 [r0, r1] (st) (yset mem 55 8 x) Post) := zrf rfl
theorem s_132_28 {E : yE} {n d : Nat} {mem : yMem} {Post : Option yV → yMem → Prop} {st : List yV} {r1 : Option yV} {x : Int} : zvc E (n + 1) [] d xm_132 28 [some (1, x), r1] (st) mem Post = (zvc E n [] d xm_132 29 [some (1, x), r1] ((1, x) :: st) mem Post) := zrf rfl
theorem s_132_29 {E : yE} {n d : Nat} {mem : yMem} {Post : Option yV → yMem → Prop} {st : List yV} {r0 r1 : Option yV} {z : Int} : zvc E (n + 1) [] d xm_132 29 [r0, r1] ((1, z) :: st) mem Post = (zio z 9 = true ∧ ysum st ≤ 8 ∧ yCon E d xm_126 [(1, z)] mem (fun v mem' => zgk E d xm_132 32 [r0, r1] st v mem' Post)) := zrf rfl
theorem s_132_32 {E : yE} {n d : Nat} {mem : yMem} {Post : Option yV → yMem → Prop} {r0 r1 : Option yV} : zvc E (n + 1) [] d xm_132 32 [r0, r1] ([]) mem Post = (Post none mem) := zrf rfl
theorem e_120 {E : yE} {d : Nat} {mem : yMem} {Q : Option yV → yMem → Prop} {z a0 : Int} (h : zG E d xm_120 0 [some (1, z), some (0, a0), none, none] [] mem Q) : yCon E (d + 1) xm_120 [(1, z), (0, a0)] mem Q := zcon_of xmo_120 (Nat.le_of_ble_eq_true rfl) h
theorem e_132 {E : yE} {d : Nat} {mem : yMem} {Q : Option yV → yMem → Prop} {z a0 : Int} (h : zG E d xm_132 0 [some (1, z), some (0, a0)] [] mem Q) : yCon E (d + 1) xm_132 [(1, z), (0, a0)] mem Q := zcon_of xmo_132 (Nat.le_of_ble_eq_true rfl) h

section CV
variable {E : yE} {mem b m : yMem} {Q : Option yV → yMem → Prop} {ch : Nat → Int} {n : Nat} {x : sY} {D : dDc} {d : Nat} {N K I : Int}
/-- what stands between LINES -/
def cAt (ch : Nat → Int) (n : Nat) (m : yMem) (x : sY) (D : dDc) : Prop := cTk ch n m x ∧ ∀ l, x = .inr l → cDc m D
/-- the cells of a draft and of what reads it -/
def tlF' (b m : yMem) : Prop := ∀ i j, (i < 28 ∨ 55 < i) → m i j = b i j
theorem tlF_w {b m m' : yMem} {w : List (Nat × Nat)} (h : tlF' b m) (hF : aFrm w m m') (hw : w.all (fun q => decide (28 ≤ q.1) && decide (q.1 ≤ 55)) = true) : tlF' b m' := fun i j hij => by
  rw [hF i j ?_]
  · exact h i j hij
  · cases hm : amod w i j with
    | false => rfl
    | true =>
      obtain ⟨q, q1, q2, q3⟩ := amod_ex hm
      have := List.all_eq_true.mp hw q q1
      simp only [Bool.and_eq_true, decide_eq_true_eq] at this
      (first | exact Nat.le_of_ble_eq_true rfl | exact (fun h => absurd h.1 (by decide)) | omega)
theorem cTv_fr {m m' : yMem} {t : dTv} (h : cTv m t) (e29 : m' 29 1 = m 29 1) (e30 : ∀ j, m' 30 j = m 30 j) (e37 : ∀ j, m' 37 j = m 37 j) (e38 : ∀ j, m' 38 j = m 38 j) : cTv m' t := ⟨cNm_fr h.1 e29 e30, fun j t ht => by rw [e37, e38]; exact h.2 j t ht⟩
theorem cVo_fr {m m' : yMem} {t : dVo} (h : cVo m t) (e31 : m' 31 1 = m 31 1) (e32 : ∀ j, m' 32 j = m 32 j) (e28 : m' 28 16 = m 28 16) (e39 : ∀ j, m' 39 j = m 39 j) (e40 : ∀ j, m' 40 j = m 40 j) (e41 : ∀ j, m' 41 j = m 41 j) (e42 : ∀ j, m' 42 j = m 42 j) (e43 : ∀ j, m' 43 j = m 43 j) : cVo m' t := ⟨cNm_fr h.1 e31 e32, by rw [e28]; exact h.2.1, h.2.2.1, fun j t ht => by rw [e39, e40, e41, e42, e43]; exact h.2.2.2 j t ht⟩
theorem cVe_fr {m m' : yMem} {t : dVe} (h : cVe m t) (e33 : m' 33 1 = m 33 1) (e34 : ∀ j, m' 34 j = m 34 j) (e44 : ∀ j, m' 44 j = m 44 j) (e45 : ∀ j, m' 45 j = m 45 j) (e46 : ∀ j, m' 46 j = m 46 j) : cVe m' t := ⟨cNm_fr h.1 e33 e34, fun j t ht => by rw [e44]; exact ⟨(h.2 j t ht).1, (h.2 j t ht).2.1, cPs_eq (h.2 j t ht).2.2 (fun p _ => e45 _) (fun p q _ _ => e46 _)⟩⟩
theorem cBk_fr {m m' : yMem} {t : dBk} (h : cBk m t) (e35 : m' 35 1 = m 35 1) (e36 : ∀ j, m' 36 j = m 36 j) (e47 : ∀ j, m' 47 j = m 47 j) : cBk m' t := ⟨cNm_fr h.1 e35 e36, fun j t ht => by rw [e47]; exact h.2 j t ht⟩
theorem cFs_fr {m m' : yMem} {t : dFs} (h : cFs m t) (e51 : ∀ j, m' 51 j = m 51 j) (e52 : ∀ j, m' 52 j = m 52 j) (e4 : m' 48 4 = m 48 4) (e8 : m' 48 8 = m 48 8) (e49 : ∀ j, m' 49 j = m 49 j) (e50 : ∀ j, m' 50 j = m 50 j) : cFs m' t := ⟨fun j hj => by rw [e51, e52]; exact h.1 j hj, ⟨by rw [e4]; exact h.2.1.1, cKs_eq h.2.1.2 (fun j _ => e49 j) (fun j _ => e50 j)⟩, by rw [e8]; exact h.2.2.1, h.2.2.2⟩
theorem cFs_u {m m' : yMem} {fs : dFs} {f : Nat} {u : sU} (h : cFs m fs) (e51 : ∀ j, ¬ j = f → m' 51 j = m 51 j) (e52 : ∀ j, ¬ j = f → m' 52 j = m 52 j) (hU : FoE m' f u) (hl : w32 (m' 51 f) = (fs.2.2.length : Int)) : cFs m' (dFu fs f u) := by
  obtain ⟨u1, u2, u3, u4, u5⟩ := hU
  refine ⟨fun j hj => ?_, u1, u2, u3, u4⟩
  show w32 (m' 51 j) = (if _ then _ else _ : Int × Int).1 ∧ w32 (m' 52 j) = (if _ then _ else _ : Int × Int).2
  by_cases e : j = f
  · rw [if_pos e, e]
    exact ⟨hl, u5⟩
  · rw [if_neg e, e51 j e, e52 j e]
    exact h.1 j hj
theorem tl_bk {b m m' : yMem} {f : Nat} (h : tlF' b m) (hF : bkG m m' f) : tlF' b m' := fun i j hij => by
  rw [hF i j ?_ (by (first | exact Nat.le_of_ble_eq_true rfl | exact (fun h => absurd h.1 (by decide)) | omega)) (by (first | exact Nat.le_of_ble_eq_true rfl | exact (fun h => absurd h.1 (by decide)) | omega))]
  · exact h i j hij
  · cases hm : amod bkW i j with
    | false => rfl
    | true =>
      obtain ⟨q, q1, q2, q3⟩ := amod_ex hm
      have := (by decide : ∀ q ∈ bkW, 28 ≤ q.1 ∧ q.1 ≤ 55) q q1
      (first | exact Nat.le_of_ble_eq_true rfl | exact (fun h => absurd h.1 (by decide)) | omega)
theorem tl_ft {b m m' : yMem} {f : Nat} (h : tlF' b m) (hF : ftG m m' f) : tlF' b m' := tl_bk h (fun i j z1 z2 z3 => hF i j (amod_sub (by decide) z1) z2 z3)
theorem gx29 (hE : yEok E) (hd : 12 ≤ d) (hb : tlF' b m) (h : cAt ch n m x D) (hk0 : yKd x ≠ 0) (hI2 : w32 I ≤ 800) (fin : ∀ m', tlF' b m' → cAt ch n m' (pLine x D).1 (pLine x D).2 → zG E (d + 1) xm_120 191 [some (1, 54), some (0, N), some (0, K), some (0, I)] [] m' Q) : zG E (d + 1) xm_120 29 [some (1, 54), some (0, N), some (0, K), some (0, I)] [] m Q := by
  refine zgo_ok (n := 60) hE xmo_120 (cs := zc_120) ?_
  simp only [ynok_30, ynok_31, w32c_0, w32c_1, w32c_2, w32c_3, w32c_4, w32c_5, w32c_6, w32c_7, w32c_8, w32c_9, w32c_10, w32c_11, w32c_12, w32c_13, w32c_14, w32c_m1, w32c_m2, w32c_118, Int.reduceAdd, Int.reduceSub, Int.reduceMul, yput_s, yput_n, znl_n, znl_0, znl_1, znl_4, ysum_n, ysum_0, ysum_1, ysum_4, true_and, and_true, Nat.reduceAdd, Nat.reduceLeDiff, true_implies, eq_self, true_or, or_true, or_false, false_or, not_true_eq_false, not_false_eq_true, false_implies, implies_true, yset_s, yset_o, yset_d, ne_eq, Nat.reduceEqDiff, Int.reduceToNat, Int.reduceEq, Int.reduceLE, Int.reduceLT, Classical.not_not, Nat.reduceLT, ↓zvk_s, ↓zvk_n, ↓s_120_0, ↓s_120_1, ↓s_120_4, ↓s_120_7, ↓s_120_8, ↓s_120_9, ↓s_120_12, ↓s_120_13, ↓s_120_14, ↓s_120_17, ↓s_120_18, ↓s_120_21, ↓s_120_22, ↓s_120_25, ↓s_120_26n, ↓s_120_26i, ↓s_120_26p, ↓s_120_27, ↓s_120_28n, ↓s_120_28i, ↓s_120_28p, ↓g_120_29, ↓k_120_29, ↓s_120_30, ↓s_120_33, ↓s_120_36, ↓s_120_37, ↓s_120_40, ↓s_120_43, ↓s_120_46, ↓s_120_47, ↓s_120_50, ↓s_120_53, ↓s_120_96, ↓s_120_97, ↓s_120_100, ↓s_120_103, ↓s_120_104, ↓s_120_107, ↓s_120_110, ↓s_120_111, ↓s_120_114, ↓s_120_117, ↓s_120_118, ↓s_120_121, ↓s_120_124, ↓s_120_125, ↓s_120_128, ↓s_120_129, ↓s_120_130, ↓s_120_133, ↓s_120_136, ↓s_120_139_2, ↓s_120_139_28, ↓s_120_142, ↓s_120_143, ↓s_120_144, ↓s_120_147, ↓s_120_150, ↓s_120_151, ↓s_120_154, ↓s_120_155, ↓s_120_156, ↓s_120_159, ↓s_120_161, ↓s_120_164_2, ↓s_120_164_28, ↓s_120_167, ↓s_120_168, ↓s_120_169, ↓s_120_172, ↓s_120_175, ↓s_120_176, ↓s_120_179, ↓s_120_182, ↓s_120_183, ↓s_120_186, ↓s_120_187, ↓s_120_190a, ↓s_120_190b, ↓g_120_191, ↓k_120_191, ↓s_120_192, ↓s_120_193, ↓s_120_196, ↓s_120_199n, ↓s_120_199i, ↓s_120_199p, ↓s_120_202, ↓s_120_205, ↓s_120_206, ↓s_120_209, ↓s_120_210, ↓s_120_213a, ↓s_120_213b, ↓g_120_214n, ↓g_120_214i, ↓g_120_214p, ↓k_120_214, ↓s_120_217, ↓g_120_220, ↓k_120_220, ↓s_120_221, w32c_800, w32c_999, w32c_99999, ↓s_123_0, ↓s_123_1, ↓s_123_4, ↓s_123_7, ↓s_123_8, ↓s_123_9, ↓s_123_12, ↓s_123_13, ↓s_123_14, ↓s_123_17, ↓s_123_20, ↓s_123_21, ↓s_123_22, ↓s_123_25, ↓s_123_26, zio_2, zio_54, zio_55, zio_28]
  have T := h.1
  rw [cTk_kd T]
  obtain ⟨l, hx⟩ : ∃ l, x = .inr l := by
    cases x with
    | inl e => exact absurd rfl hk0
    | inr l => exact ⟨l, rfl⟩
  obtain ⟨c1, c2, c3, c4, c5, c6, c7⟩ := h.2 l hx
  refine ⟨fun q => absurd q (by (first | exact Nat.le_of_ble_eq_true rfl | exact (fun h => absurd h.1 (by decide)) | omega)), fun _ => ⟨fun q => absurd q (by (first | exact Nat.le_of_ble_eq_true rfl | exact (fun h => absurd h.1 (by decide)) | omega)), fun _ => ⟨fun k17 => ?_, fun k17 => ⟨fun k18 => ?_, fun k18 => ⟨fun k19 => ?_, fun k19 => ⟨fun k20 => ?_, fun k20 => ⟨fun k21 => ?_, fun k21 => ⟨fun k22 => ?_, fun k22 => ⟨fun k23 => ?_, fun k23 => ?_⟩⟩⟩⟩⟩⟩⟩⟩⟩
  · unfold pLine at fin
    rw [if_pos (by (first | exact Nat.le_of_ble_eq_true rfl | exact (fun h => absurd h.1 (by decide)) | omega))] at fin
    refine g_readTavern hE (by (first | exact Nat.le_of_ble_eq_true rfl | exact (fun h => absurd h.1 (by decide)) | omega)) T c1 (fun m' F T' U => ?_)
    refine zgk_n hE xmo_120 60 zc_120 ?_
    simp only [ynok_30, ynok_31, w32c_0, w32c_1, w32c_2, w32c_3, w32c_4, w32c_5, w32c_6, w32c_7, w32c_8, w32c_9, w32c_10, w32c_11, w32c_12, w32c_13, w32c_14, w32c_m1, w32c_m2, w32c_118, Int.reduceAdd, Int.reduceSub, Int.reduceMul, yput_s, yput_n, znl_n, znl_0, znl_1, znl_4, ysum_n, ysum_0, ysum_1, ysum_4, true_and, and_true, Nat.reduceAdd, Nat.reduceLeDiff, true_implies, eq_self, true_or, or_true, or_false, false_or, not_true_eq_false, not_false_eq_true, false_implies, implies_true, yset_s, yset_o, yset_d, ne_eq, Nat.reduceEqDiff, Int.reduceToNat, Int.reduceEq, Int.reduceLE, Int.reduceLT, Classical.not_not, Nat.reduceLT, ↓zvk_s, ↓zvk_n, ↓s_120_0, ↓s_120_1, ↓s_120_4, ↓s_120_7, ↓s_120_8, ↓s_120_9, ↓s_120_12, ↓s_120_13, ↓s_120_14, ↓s_120_17, ↓s_120_18, ↓s_120_21, ↓s_120_22, ↓s_120_25, ↓s_120_26n, ↓s_120_26i, ↓s_120_26p, ↓s_120_27, ↓s_120_28n, ↓s_120_28i, ↓s_120_28p, ↓g_120_29, ↓k_120_29, ↓s_120_30, ↓s_120_33, ↓s_120_36, ↓s_120_37, ↓s_120_40, ↓s_120_43, ↓s_120_46, ↓s_120_47, ↓s_120_50, ↓s_120_53, ↓s_120_96, ↓s_120_97, ↓s_120_100, ↓s_120_103, ↓s_120_104, ↓s_120_107, ↓s_120_110, ↓s_120_111, ↓s_120_114, ↓s_120_117, ↓s_120_118, ↓s_120_121, ↓s_120_124, ↓s_120_125, ↓s_120_128, ↓s_120_129, ↓s_120_130, ↓s_120_133, ↓s_120_136, ↓s_120_139_2, ↓s_120_139_28, ↓s_120_142, ↓s_120_143, ↓s_120_144, ↓s_120_147, ↓s_120_150, ↓s_120_151, ↓s_120_154, ↓s_120_155, ↓s_120_156, ↓s_120_159, ↓s_120_161, ↓s_120_164_2, ↓s_120_164_28, ↓s_120_167, ↓s_120_168, ↓s_120_169, ↓s_120_172, ↓s_120_175, ↓s_120_176, ↓s_120_179, ↓s_120_182, ↓s_120_183, ↓s_120_186, ↓s_120_187, ↓s_120_190a, ↓s_120_190b, ↓g_120_191, ↓k_120_191, ↓s_120_192, ↓s_120_193, ↓s_120_196, ↓s_120_199n, ↓s_120_199i, ↓s_120_199p, ↓s_120_202, ↓s_120_205, ↓s_120_206, ↓s_120_209, ↓s_120_210, ↓s_120_213a, ↓s_120_213b, ↓g_120_214n, ↓g_120_214i, ↓g_120_214p, ↓k_120_214, ↓s_120_217, ↓g_120_220, ↓k_120_220, ↓s_120_221, w32c_800, w32c_999, w32c_99999, zio_2, zio_54, zio_55, zio_28]
    exact fin m' (tlF_w hb F (by decide)) ⟨T', fun l hl => ⟨U l hl, cVo_fr c2 (F 31 1 rfl) (fun j => F 32 j rfl) (F 28 16 rfl) (fun j => F 39 j rfl) (fun j => F 40 j rfl) (fun j => F 41 j rfl) (fun j => F 42 j rfl) (fun j => F 43 j rfl), cVe_fr c3 (F 33 1 rfl) (fun j => F 34 j rfl) (fun j => F 44 j rfl) (fun j => F 45 j rfl) (fun j => F 46 j rfl), cBk_fr c4 (F 35 1 rfl) (fun j => F 36 j rfl) (fun j => F 47 j rfl), ⟨by rw [F 54 2 rfl]; exact c5.1, by rw [F 28 17 rfl]; exact c5.2⟩, ⟨by rw [F 54 3 rfl]; exact c6.1, by rw [F 28 18 rfl]; exact c6.2⟩, cFs_fr c7 (fun j => F 51 j rfl) (fun j => F 52 j rfl) (F 48 4 rfl) (F 48 8 rfl) (fun j => F 49 j rfl) (fun j => F 50 j rfl)⟩⟩
  · unfold pLine at fin
    rw [if_neg (by (first | exact Nat.le_of_ble_eq_true rfl | exact (fun h => absurd h.1 (by decide)) | omega)), if_pos (by (first | exact Nat.le_of_ble_eq_true rfl | exact (fun h => absurd h.1 (by decide)) | omega))] at fin
    refine g_readVoice hE (by (first | exact Nat.le_of_ble_eq_true rfl | exact (fun h => absurd h.1 (by decide)) | omega)) T c1.1 c2 (fun m' F T' U => ?_)
    refine zgk_n hE xmo_120 60 zc_120 ?_
    simp only [ynok_30, ynok_31, w32c_0, w32c_1, w32c_2, w32c_3, w32c_4, w32c_5, w32c_6, w32c_7, w32c_8, w32c_9, w32c_10, w32c_11, w32c_12, w32c_13, w32c_14, w32c_m1, w32c_m2, w32c_118, Int.reduceAdd, Int.reduceSub, Int.reduceMul, yput_s, yput_n, znl_n, znl_0, znl_1, znl_4, ysum_n, ysum_0, ysum_1, ysum_4, true_and, and_true, Nat.reduceAdd, Nat.reduceLeDiff, true_implies, eq_self, true_or, or_true, or_false, false_or, not_true_eq_false, not_false_eq_true, false_implies, implies_true, yset_s, yset_o, yset_d, ne_eq, Nat.reduceEqDiff, Int.reduceToNat, Int.reduceEq, Int.reduceLE, Int.reduceLT, Classical.not_not, Nat.reduceLT, ↓zvk_s, ↓zvk_n, ↓s_120_0, ↓s_120_1, ↓s_120_4, ↓s_120_7, ↓s_120_8, ↓s_120_9, ↓s_120_12, ↓s_120_13, ↓s_120_14, ↓s_120_17, ↓s_120_18, ↓s_120_21, ↓s_120_22, ↓s_120_25, ↓s_120_26n, ↓s_120_26i, ↓s_120_26p, ↓s_120_27, ↓s_120_28n, ↓s_120_28i, ↓s_120_28p, ↓g_120_29, ↓k_120_29, ↓s_120_30, ↓s_120_33, ↓s_120_36, ↓s_120_37, ↓s_120_40, ↓s_120_43, ↓s_120_46, ↓s_120_47, ↓s_120_50, ↓s_120_53, ↓s_120_96, ↓s_120_97, ↓s_120_100, ↓s_120_103, ↓s_120_104, ↓s_120_107, ↓s_120_110, ↓s_120_111, ↓s_120_114, ↓s_120_117, ↓s_120_118, ↓s_120_121, ↓s_120_124, ↓s_120_125, ↓s_120_128, ↓s_120_129, ↓s_120_130, ↓s_120_133, ↓s_120_136, ↓s_120_139_2, ↓s_120_139_28, ↓s_120_142, ↓s_120_143, ↓s_120_144, ↓s_120_147, ↓s_120_150, ↓s_120_151, ↓s_120_154, ↓s_120_155, ↓s_120_156, ↓s_120_159, ↓s_120_161, ↓s_120_164_2, ↓s_120_164_28, ↓s_120_167, ↓s_120_168, ↓s_120_169, ↓s_120_172, ↓s_120_175, ↓s_120_176, ↓s_120_179, ↓s_120_182, ↓s_120_183, ↓s_120_186, ↓s_120_187, ↓s_120_190a, ↓s_120_190b, ↓g_120_191, ↓k_120_191, ↓s_120_192, ↓s_120_193, ↓s_120_196, ↓s_120_199n, ↓s_120_199i, ↓s_120_199p, ↓s_120_202, ↓s_120_205, ↓s_120_206, ↓s_120_209, ↓s_120_210, ↓s_120_213a, ↓s_120_213b, ↓g_120_214n, ↓g_120_214i, ↓g_120_214p, ↓k_120_214, ↓s_120_217, ↓g_120_220, ↓k_120_220, ↓s_120_221, w32c_800, w32c_999, w32c_99999, zio_2, zio_54, zio_55, zio_28]
    exact fin m' (tlF_w hb F (by decide)) ⟨T', fun l hl => ⟨cTv_fr c1 (F 29 1 rfl) (fun j => F 30 j rfl) (fun j => F 37 j rfl) (fun j => F 38 j rfl), U l hl, cVe_fr c3 (F 33 1 rfl) (fun j => F 34 j rfl) (fun j => F 44 j rfl) (fun j => F 45 j rfl) (fun j => F 46 j rfl), cBk_fr c4 (F 35 1 rfl) (fun j => F 36 j rfl) (fun j => F 47 j rfl), ⟨by rw [F 54 2 rfl]; exact c5.1, by rw [F 28 17 rfl]; exact c5.2⟩, ⟨by rw [F 54 3 rfl]; exact c6.1, by rw [F 28 18 rfl]; exact c6.2⟩, cFs_fr c7 (fun j => F 51 j rfl) (fun j => F 52 j rfl) (F 48 4 rfl) (F 48 8 rfl) (fun j => F 49 j rfl) (fun j => F 50 j rfl)⟩⟩
  · unfold pLine at fin
    rw [if_neg (by (first | exact Nat.le_of_ble_eq_true rfl | exact (fun h => absurd h.1 (by decide)) | omega)), if_neg (by (first | exact Nat.le_of_ble_eq_true rfl | exact (fun h => absurd h.1 (by decide)) | omega)), if_pos (by (first | exact Nat.le_of_ble_eq_true rfl | exact (fun h => absurd h.1 (by decide)) | omega))] at fin
    refine g_readVerse hE (by (first | exact Nat.le_of_ble_eq_true rfl | exact (fun h => absurd h.1 (by decide)) | omega)) T c3 (fun m' F T' U => ?_)
    refine zgk_n hE xmo_120 60 zc_120 ?_
    simp only [ynok_30, ynok_31, w32c_0, w32c_1, w32c_2, w32c_3, w32c_4, w32c_5, w32c_6, w32c_7, w32c_8, w32c_9, w32c_10, w32c_11, w32c_12, w32c_13, w32c_14, w32c_m1, w32c_m2, w32c_118, Int.reduceAdd, Int.reduceSub, Int.reduceMul, yput_s, yput_n, znl_n, znl_0, znl_1, znl_4, ysum_n, ysum_0, ysum_1, ysum_4, true_and, and_true, Nat.reduceAdd, Nat.reduceLeDiff, true_implies, eq_self, true_or, or_true, or_false, false_or, not_true_eq_false, not_false_eq_true, false_implies, implies_true, yset_s, yset_o, yset_d, ne_eq, Nat.reduceEqDiff, Int.reduceToNat, Int.reduceEq, Int.reduceLE, Int.reduceLT, Classical.not_not, Nat.reduceLT, ↓zvk_s, ↓zvk_n, ↓s_120_0, ↓s_120_1, ↓s_120_4, ↓s_120_7, ↓s_120_8, ↓s_120_9, ↓s_120_12, ↓s_120_13, ↓s_120_14, ↓s_120_17, ↓s_120_18, ↓s_120_21, ↓s_120_22, ↓s_120_25, ↓s_120_26n, ↓s_120_26i, ↓s_120_26p, ↓s_120_27, ↓s_120_28n, ↓s_120_28i, ↓s_120_28p, ↓g_120_29, ↓k_120_29, ↓s_120_30, ↓s_120_33, ↓s_120_36, ↓s_120_37, ↓s_120_40, ↓s_120_43, ↓s_120_46, ↓s_120_47, ↓s_120_50, ↓s_120_53, ↓s_120_96, ↓s_120_97, ↓s_120_100, ↓s_120_103, ↓s_120_104, ↓s_120_107, ↓s_120_110, ↓s_120_111, ↓s_120_114, ↓s_120_117, ↓s_120_118, ↓s_120_121, ↓s_120_124, ↓s_120_125, ↓s_120_128, ↓s_120_129, ↓s_120_130, ↓s_120_133, ↓s_120_136, ↓s_120_139_2, ↓s_120_139_28, ↓s_120_142, ↓s_120_143, ↓s_120_144, ↓s_120_147, ↓s_120_150, ↓s_120_151, ↓s_120_154, ↓s_120_155, ↓s_120_156, ↓s_120_159, ↓s_120_161, ↓s_120_164_2, ↓s_120_164_28, ↓s_120_167, ↓s_120_168, ↓s_120_169, ↓s_120_172, ↓s_120_175, ↓s_120_176, ↓s_120_179, ↓s_120_182, ↓s_120_183, ↓s_120_186, ↓s_120_187, ↓s_120_190a, ↓s_120_190b, ↓g_120_191, ↓k_120_191, ↓s_120_192, ↓s_120_193, ↓s_120_196, ↓s_120_199n, ↓s_120_199i, ↓s_120_199p, ↓s_120_202, ↓s_120_205, ↓s_120_206, ↓s_120_209, ↓s_120_210, ↓s_120_213a, ↓s_120_213b, ↓g_120_214n, ↓g_120_214i, ↓g_120_214p, ↓k_120_214, ↓s_120_217, ↓g_120_220, ↓k_120_220, ↓s_120_221, w32c_800, w32c_999, w32c_99999, zio_2, zio_54, zio_55, zio_28]
    exact fin m' (tlF_w hb F (by decide)) ⟨T', fun l hl => ⟨cTv_fr c1 (F 29 1 rfl) (fun j => F 30 j rfl) (fun j => F 37 j rfl) (fun j => F 38 j rfl), cVo_fr c2 (F 31 1 rfl) (fun j => F 32 j rfl) (F 28 16 rfl) (fun j => F 39 j rfl) (fun j => F 40 j rfl) (fun j => F 41 j rfl) (fun j => F 42 j rfl) (fun j => F 43 j rfl), U l hl, cBk_fr c4 (F 35 1 rfl) (fun j => F 36 j rfl) (fun j => F 47 j rfl), ⟨by rw [F 54 2 rfl]; exact c5.1, by rw [F 28 17 rfl]; exact c5.2⟩, ⟨by rw [F 54 3 rfl]; exact c6.1, by rw [F 28 18 rfl]; exact c6.2⟩, cFs_fr c7 (fun j => F 51 j rfl) (fun j => F 52 j rfl) (F 48 4 rfl) (F 48 8 rfl) (fun j => F 49 j rfl) (fun j => F 50 j rfl)⟩⟩
  · unfold pLine at fin
    rw [if_neg (by (first | exact Nat.le_of_ble_eq_true rfl | exact (fun h => absurd h.1 (by decide)) | omega)), if_neg (by (first | exact Nat.le_of_ble_eq_true rfl | exact (fun h => absurd h.1 (by decide)) | omega)), if_neg (by (first | exact Nat.le_of_ble_eq_true rfl | exact (fun h => absurd h.1 (by decide)) | omega)), if_pos (by (first | exact Nat.le_of_ble_eq_true rfl | exact (fun h => absurd h.1 (by decide)) | omega))] at fin
    refine g_readBaker hE (by (first | exact Nat.le_of_ble_eq_true rfl | exact (fun h => absurd h.1 (by decide)) | omega)) T c4 c7.2 (fun m' F T' U => ?_)
    refine zgk_n hE xmo_120 60 zc_120 ?_
    simp only [ynok_30, ynok_31, w32c_0, w32c_1, w32c_2, w32c_3, w32c_4, w32c_5, w32c_6, w32c_7, w32c_8, w32c_9, w32c_10, w32c_11, w32c_12, w32c_13, w32c_14, w32c_m1, w32c_m2, w32c_118, Int.reduceAdd, Int.reduceSub, Int.reduceMul, yput_s, yput_n, znl_n, znl_0, znl_1, znl_4, ysum_n, ysum_0, ysum_1, ysum_4, true_and, and_true, Nat.reduceAdd, Nat.reduceLeDiff, true_implies, eq_self, true_or, or_true, or_false, false_or, not_true_eq_false, not_false_eq_true, false_implies, implies_true, yset_s, yset_o, yset_d, ne_eq, Nat.reduceEqDiff, Int.reduceToNat, Int.reduceEq, Int.reduceLE, Int.reduceLT, Classical.not_not, Nat.reduceLT, ↓zvk_s, ↓zvk_n, ↓s_120_0, ↓s_120_1, ↓s_120_4, ↓s_120_7, ↓s_120_8, ↓s_120_9, ↓s_120_12, ↓s_120_13, ↓s_120_14, ↓s_120_17, ↓s_120_18, ↓s_120_21, ↓s_120_22, ↓s_120_25, ↓s_120_26n, ↓s_120_26i, ↓s_120_26p, ↓s_120_27, ↓s_120_28n, ↓s_120_28i, ↓s_120_28p, ↓g_120_29, ↓k_120_29, ↓s_120_30, ↓s_120_33, ↓s_120_36, ↓s_120_37, ↓s_120_40, ↓s_120_43, ↓s_120_46, ↓s_120_47, ↓s_120_50, ↓s_120_53, ↓s_120_96, ↓s_120_97, ↓s_120_100, ↓s_120_103, ↓s_120_104, ↓s_120_107, ↓s_120_110, ↓s_120_111, ↓s_120_114, ↓s_120_117, ↓s_120_118, ↓s_120_121, ↓s_120_124, ↓s_120_125, ↓s_120_128, ↓s_120_129, ↓s_120_130, ↓s_120_133, ↓s_120_136, ↓s_120_139_2, ↓s_120_139_28, ↓s_120_142, ↓s_120_143, ↓s_120_144, ↓s_120_147, ↓s_120_150, ↓s_120_151, ↓s_120_154, ↓s_120_155, ↓s_120_156, ↓s_120_159, ↓s_120_161, ↓s_120_164_2, ↓s_120_164_28, ↓s_120_167, ↓s_120_168, ↓s_120_169, ↓s_120_172, ↓s_120_175, ↓s_120_176, ↓s_120_179, ↓s_120_182, ↓s_120_183, ↓s_120_186, ↓s_120_187, ↓s_120_190a, ↓s_120_190b, ↓g_120_191, ↓k_120_191, ↓s_120_192, ↓s_120_193, ↓s_120_196, ↓s_120_199n, ↓s_120_199i, ↓s_120_199p, ↓s_120_202, ↓s_120_205, ↓s_120_206, ↓s_120_209, ↓s_120_210, ↓s_120_213a, ↓s_120_213b, ↓g_120_214n, ↓g_120_214i, ↓g_120_214p, ↓k_120_214, ↓s_120_217, ↓g_120_220, ↓k_120_220, ↓s_120_221, w32c_800, w32c_999, w32c_99999, zio_2, zio_54, zio_55, zio_28]
    refine fin m' (tl_bk hb F) ⟨T', fun l hl => ?_⟩
    revert U hl
    generalize pBk D.2.2.2.1 D.2.2.2.2.2.2.2.1 D.2.2.2.2.2.2.2.2 x = z
    obtain ⟨z1, z2⟩ := z
    intro U hl
    cases z1 with
    | inl e => cases hl
    | inr u =>
      obtain ⟨U0, U1, U2, U3⟩ := U u rfl
      exact ⟨cTv_fr c1 (F 29 1 rfl (fun z => absurd z.1 (by decide)) (fun z => absurd z.1 (by decide))) (fun j => F 30 j rfl (fun z => absurd z.1 (by decide)) (fun z => absurd z.1 (by decide))) (fun j => F 37 j rfl (fun z => absurd z.1 (by decide)) (fun z => absurd z.1 (by decide))) (fun j => F 38 j rfl (fun z => absurd z.1 (by decide)) (fun z => absurd z.1 (by decide))), cVo_fr c2 (F 31 1 rfl (fun z => absurd z.1 (by decide)) (fun z => absurd z.1 (by decide))) (fun j => F 32 j rfl (fun z => absurd z.1 (by decide)) (fun z => absurd z.1 (by decide))) (F 28 16 rfl (fun z => absurd z.1 (by decide)) (fun z => absurd z.1 (by decide))) (fun j => F 39 j rfl (fun z => absurd z.1 (by decide)) (fun z => absurd z.1 (by decide))) (fun j => F 40 j rfl (fun z => absurd z.1 (by decide)) (fun z => absurd z.1 (by decide))) (fun j => F 41 j rfl (fun z => absurd z.1 (by decide)) (fun z => absurd z.1 (by decide))) (fun j => F 42 j rfl (fun z => absurd z.1 (by decide)) (fun z => absurd z.1 (by decide))) (fun j => F 43 j rfl (fun z => absurd z.1 (by decide)) (fun z => absurd z.1 (by decide))), cVe_fr c3 (F 33 1 rfl (fun z => absurd z.1 (by decide)) (fun z => absurd z.1 (by decide))) (fun j => F 34 j rfl (fun z => absurd z.1 (by decide)) (fun z => absurd z.1 (by decide))) (fun j => F 44 j rfl (fun z => absurd z.1 (by decide)) (fun z => absurd z.1 (by decide))) (fun j => F 45 j rfl (fun z => absurd z.1 (by decide)) (fun z => absurd z.1 (by decide))) (fun j => F 46 j rfl (fun z => absurd z.1 (by decide)) (fun z => absurd z.1 (by decide))), U1, ⟨by rw [F 54 2 rfl (fun z => absurd z.1 (by decide)) (fun z => absurd z.1 (by decide))]; exact c5.1, by rw [F 28 17 rfl (fun z => absurd z.1 (by decide)) (fun z => absurd z.1 (by decide))]; exact c5.2⟩, ⟨by rw [F 54 3 rfl (fun z => absurd z.1 (by decide)) (fun z => absurd z.1 (by decide))]; exact c6.1, by rw [F 28 18 rfl (fun z => absurd z.1 (by decide)) (fun z => absurd z.1 (by decide))]; exact c6.2⟩, cFs_u c7 (fun j hj => F 51 j rfl (fun z => absurd z.1 (by decide)) (fun z => hj z.2)) (fun j hj => F 52 j rfl (fun z => hj z.2) (fun z => absurd z.1 (by decide))) U2 U3⟩
  · unfold pLine at fin
    rw [if_neg (by (first | exact Nat.le_of_ble_eq_true rfl | exact (fun h => absurd h.1 (by decide)) | omega)), if_neg (by (first | exact Nat.le_of_ble_eq_true rfl | exact (fun h => absurd h.1 (by decide)) | omega)), if_neg (by (first | exact Nat.le_of_ble_eq_true rfl | exact (fun h => absurd h.1 (by decide)) | omega)), if_neg (by (first | exact Nat.le_of_ble_eq_true rfl | exact (fun h => absurd h.1 (by decide)) | omega)), if_pos (by (first | exact Nat.le_of_ble_eq_true rfl | exact (fun h => absurd h.1 (by decide)) | omega))] at fin
    refine g_lone hE (by (first | exact Nat.le_of_ble_eq_true rfl | exact (fun h => absurd h.1 (by decide)) | omega)) c5.1 (by decide) T (fun r m1 F e1 T1 => ?_)
    rw [show w32 999 = 999 by decide] at e1 T1
    refine zgk_s hE xmo_120 60 zc_120 ?_
    simp only [ynok_30, ynok_31, w32c_0, w32c_1, w32c_2, w32c_3, w32c_4, w32c_5, w32c_6, w32c_7, w32c_8, w32c_9, w32c_10, w32c_11, w32c_12, w32c_13, w32c_14, w32c_m1, w32c_m2, w32c_118, Int.reduceAdd, Int.reduceSub, Int.reduceMul, yput_s, yput_n, znl_n, znl_0, znl_1, znl_4, ysum_n, ysum_0, ysum_1, ysum_4, true_and, and_true, Nat.reduceAdd, Nat.reduceLeDiff, true_implies, eq_self, true_or, or_true, or_false, false_or, not_true_eq_false, not_false_eq_true, false_implies, implies_true, yset_s, yset_o, yset_d, ne_eq, Nat.reduceEqDiff, Int.reduceToNat, Int.reduceEq, Int.reduceLE, Int.reduceLT, Classical.not_not, Nat.reduceLT, ↓zvk_s, ↓zvk_n, ↓s_120_0, ↓s_120_1, ↓s_120_4, ↓s_120_7, ↓s_120_8, ↓s_120_9, ↓s_120_12, ↓s_120_13, ↓s_120_14, ↓s_120_17, ↓s_120_18, ↓s_120_21, ↓s_120_22, ↓s_120_25, ↓s_120_26n, ↓s_120_26i, ↓s_120_26p, ↓s_120_27, ↓s_120_28n, ↓s_120_28i, ↓s_120_28p, ↓g_120_29, ↓k_120_29, ↓s_120_30, ↓s_120_33, ↓s_120_36, ↓s_120_37, ↓s_120_40, ↓s_120_43, ↓s_120_46, ↓s_120_47, ↓s_120_50, ↓s_120_53, ↓s_120_96, ↓s_120_97, ↓s_120_100, ↓s_120_103, ↓s_120_104, ↓s_120_107, ↓s_120_110, ↓s_120_111, ↓s_120_114, ↓s_120_117, ↓s_120_118, ↓s_120_121, ↓s_120_124, ↓s_120_125, ↓s_120_128, ↓s_120_129, ↓s_120_130, ↓s_120_133, ↓s_120_136, ↓s_120_139_2, ↓s_120_139_28, ↓s_120_142, ↓s_120_143, ↓s_120_144, ↓s_120_147, ↓s_120_150, ↓s_120_151, ↓s_120_154, ↓s_120_155, ↓s_120_156, ↓s_120_159, ↓s_120_161, ↓s_120_164_2, ↓s_120_164_28, ↓s_120_167, ↓s_120_168, ↓s_120_169, ↓s_120_172, ↓s_120_175, ↓s_120_176, ↓s_120_179, ↓s_120_182, ↓s_120_183, ↓s_120_186, ↓s_120_187, ↓s_120_190a, ↓s_120_190b, ↓g_120_191, ↓k_120_191, ↓s_120_192, ↓s_120_193, ↓s_120_196, ↓s_120_199n, ↓s_120_199i, ↓s_120_199p, ↓s_120_202, ↓s_120_205, ↓s_120_206, ↓s_120_209, ↓s_120_210, ↓s_120_213a, ↓s_120_213b, ↓g_120_214n, ↓g_120_214i, ↓g_120_214p, ↓k_120_214, ↓s_120_217, ↓g_120_220, ↓k_120_220, ↓s_120_221, w32c_800, w32c_999, w32c_99999, zio_2, zio_54, zio_55, zio_28]
    refine fin _ (tlF_w (tlF_w hb F (by decide)) (w := [(28, 0), (54, 0)]) (aFrm_set (aFrm_set aFrm_rf rfl) rfl) (by decide)) ⟨cTk_of T1 (fun j => by rw [yset_o (by decide), yset_o (by decide)]) (fun j => by rw [yset_o (by decide), yset_o (by decide)]) (fun j => by rw [yset_o (by decide), yset_o (by decide)]), fun l hl => ?_⟩
    exact ⟨cTv_fr c1 (by rw [yset_o (by decide), yset_o (by decide), F 29 1 (amod_n55 (by decide))]) (fun j => by rw [yset_o (by decide), yset_o (by decide), F 30 j (amod_n55 (by decide))]) (fun j => by rw [yset_o (by decide), yset_o (by decide), F 37 j (amod_n55 (by decide))]) (fun j => by rw [yset_o (by decide), yset_o (by decide), F 38 j (amod_n55 (by decide))]), cVo_fr c2 (by rw [yset_o (by decide), yset_o (by decide), F 31 1 (amod_n55 (by decide))]) (fun j => by rw [yset_o (by decide), yset_o (by decide), F 32 j (amod_n55 (by decide))]) (by rw [yset_o (by decide), yset_d (by decide), F 28 16 (amod_n55 (by decide))]) (fun j => by rw [yset_o (by decide), yset_o (by decide), F 39 j (amod_n55 (by decide))]) (fun j => by rw [yset_o (by decide), yset_o (by decide), F 40 j (amod_n55 (by decide))]) (fun j => by rw [yset_o (by decide), yset_o (by decide), F 41 j (amod_n55 (by decide))]) (fun j => by rw [yset_o (by decide), yset_o (by decide), F 42 j (amod_n55 (by decide))]) (fun j => by rw [yset_o (by decide), yset_o (by decide), F 43 j (amod_n55 (by decide))]), cVe_fr c3 (by rw [yset_o (by decide), yset_o (by decide), F 33 1 (amod_n55 (by decide))]) (fun j => by rw [yset_o (by decide), yset_o (by decide), F 34 j (amod_n55 (by decide))]) (fun j => by rw [yset_o (by decide), yset_o (by decide), F 44 j (amod_n55 (by decide))]) (fun j => by rw [yset_o (by decide), yset_o (by decide), F 45 j (amod_n55 (by decide))]) (fun j => by rw [yset_o (by decide), yset_o (by decide), F 46 j (amod_n55 (by decide))]), cBk_fr c4 (by rw [yset_o (by decide), yset_o (by decide), F 35 1 (amod_n55 (by decide))]) (fun j => by rw [yset_o (by decide), yset_o (by decide), F 36 j (amod_n55 (by decide))]) (fun j => by rw [yset_o (by decide), yset_o (by decide), F 47 j (amod_n55 (by decide))]), ⟨by rw [yset_s]; exact w32c_1, by rw [yset_o (by decide), yset_s]; exact e1⟩, ⟨by rw [yset_d (by decide), yset_o (by decide), F 54 3 (amod_n55 (by decide))]; exact c6.1, by rw [yset_o (by decide), yset_d (by decide), F 28 18 (amod_n55 (by decide))]; exact c6.2⟩, cFs_fr c7 (fun j => by rw [yset_o (by decide), yset_o (by decide), F 51 j (amod_n55 (by decide))]) (fun j => by rw [yset_o (by decide), yset_o (by decide), F 52 j (amod_n55 (by decide))]) (by rw [yset_o (by decide), yset_o (by decide), F 48 4 (amod_n55 (by decide))]) (by rw [yset_o (by decide), yset_o (by decide), F 48 8 (amod_n55 (by decide))]) (fun j => by rw [yset_o (by decide), yset_o (by decide), F 49 j (amod_n55 (by decide))]) (fun j => by rw [yset_o (by decide), yset_o (by decide), F 50 j (amod_n55 (by decide))])⟩
  · unfold pLine at fin
    rw [if_neg (by (first | exact Nat.le_of_ble_eq_true rfl | exact (fun h => absurd h.1 (by decide)) | omega)), if_neg (by (first | exact Nat.le_of_ble_eq_true rfl | exact (fun h => absurd h.1 (by decide)) | omega)), if_neg (by (first | exact Nat.le_of_ble_eq_true rfl | exact (fun h => absurd h.1 (by decide)) | omega)), if_neg (by (first | exact Nat.le_of_ble_eq_true rfl | exact (fun h => absurd h.1 (by decide)) | omega)), if_neg (by (first | exact Nat.le_of_ble_eq_true rfl | exact (fun h => absurd h.1 (by decide)) | omega)), if_pos (by (first | exact Nat.le_of_ble_eq_true rfl | exact (fun h => absurd h.1 (by decide)) | omega))] at fin
    refine g_lone hE (by (first | exact Nat.le_of_ble_eq_true rfl | exact (fun h => absurd h.1 (by decide)) | omega)) c6.1 (by decide) T (fun r m1 F e1 T1 => ?_)
    rw [show w32 99999 = 99999 by decide] at e1 T1
    refine zgk_s hE xmo_120 60 zc_120 ?_
    simp only [ynok_30, ynok_31, w32c_0, w32c_1, w32c_2, w32c_3, w32c_4, w32c_5, w32c_6, w32c_7, w32c_8, w32c_9, w32c_10, w32c_11, w32c_12, w32c_13, w32c_14, w32c_m1, w32c_m2, w32c_118, Int.reduceAdd, Int.reduceSub, Int.reduceMul, yput_s, yput_n, znl_n, znl_0, znl_1, znl_4, ysum_n, ysum_0, ysum_1, ysum_4, true_and, and_true, Nat.reduceAdd, Nat.reduceLeDiff, true_implies, eq_self, true_or, or_true, or_false, false_or, not_true_eq_false, not_false_eq_true, false_implies, implies_true, yset_s, yset_o, yset_d, ne_eq, Nat.reduceEqDiff, Int.reduceToNat, Int.reduceEq, Int.reduceLE, Int.reduceLT, Classical.not_not, Nat.reduceLT, ↓zvk_s, ↓zvk_n, ↓s_120_0, ↓s_120_1, ↓s_120_4, ↓s_120_7, ↓s_120_8, ↓s_120_9, ↓s_120_12, ↓s_120_13, ↓s_120_14, ↓s_120_17, ↓s_120_18, ↓s_120_21, ↓s_120_22, ↓s_120_25, ↓s_120_26n, ↓s_120_26i, ↓s_120_26p, ↓s_120_27, ↓s_120_28n, ↓s_120_28i, ↓s_120_28p, ↓g_120_29, ↓k_120_29, ↓s_120_30, ↓s_120_33, ↓s_120_36, ↓s_120_37, ↓s_120_40, ↓s_120_43, ↓s_120_46, ↓s_120_47, ↓s_120_50, ↓s_120_53, ↓s_120_96, ↓s_120_97, ↓s_120_100, ↓s_120_103, ↓s_120_104, ↓s_120_107, ↓s_120_110, ↓s_120_111, ↓s_120_114, ↓s_120_117, ↓s_120_118, ↓s_120_121, ↓s_120_124, ↓s_120_125, ↓s_120_128, ↓s_120_129, ↓s_120_130, ↓s_120_133, ↓s_120_136, ↓s_120_139_2, ↓s_120_139_28, ↓s_120_142, ↓s_120_143, ↓s_120_144, ↓s_120_147, ↓s_120_150, ↓s_120_151, ↓s_120_154, ↓s_120_155, ↓s_120_156, ↓s_120_159, ↓s_120_161, ↓s_120_164_2, ↓s_120_164_28, ↓s_120_167, ↓s_120_168, ↓s_120_169, ↓s_120_172, ↓s_120_175, ↓s_120_176, ↓s_120_179, ↓s_120_182, ↓s_120_183, ↓s_120_186, ↓s_120_187, ↓s_120_190a, ↓s_120_190b, ↓g_120_191, ↓k_120_191, ↓s_120_192, ↓s_120_193, ↓s_120_196, ↓s_120_199n, ↓s_120_199i, ↓s_120_199p, ↓s_120_202, ↓s_120_205, ↓s_120_206, ↓s_120_209, ↓s_120_210, ↓s_120_213a, ↓s_120_213b, ↓g_120_214n, ↓g_120_214i, ↓g_120_214p, ↓k_120_214, ↓s_120_217, ↓g_120_220, ↓k_120_220, ↓s_120_221, w32c_800, w32c_999, w32c_99999, zio_2, zio_54, zio_55, zio_28]
    refine fin _ (tlF_w (tlF_w hb F (by decide)) (w := [(28, 0), (54, 0)]) (aFrm_set (aFrm_set aFrm_rf rfl) rfl) (by decide)) ⟨cTk_of T1 (fun j => by rw [yset_o (by decide), yset_o (by decide)]) (fun j => by rw [yset_o (by decide), yset_o (by decide)]) (fun j => by rw [yset_o (by decide), yset_o (by decide)]), fun l hl => ?_⟩
    exact ⟨cTv_fr c1 (by rw [yset_o (by decide), yset_o (by decide), F 29 1 (amod_n55 (by decide))]) (fun j => by rw [yset_o (by decide), yset_o (by decide), F 30 j (amod_n55 (by decide))]) (fun j => by rw [yset_o (by decide), yset_o (by decide), F 37 j (amod_n55 (by decide))]) (fun j => by rw [yset_o (by decide), yset_o (by decide), F 38 j (amod_n55 (by decide))]), cVo_fr c2 (by rw [yset_o (by decide), yset_o (by decide), F 31 1 (amod_n55 (by decide))]) (fun j => by rw [yset_o (by decide), yset_o (by decide), F 32 j (amod_n55 (by decide))]) (by rw [yset_o (by decide), yset_d (by decide), F 28 16 (amod_n55 (by decide))]) (fun j => by rw [yset_o (by decide), yset_o (by decide), F 39 j (amod_n55 (by decide))]) (fun j => by rw [yset_o (by decide), yset_o (by decide), F 40 j (amod_n55 (by decide))]) (fun j => by rw [yset_o (by decide), yset_o (by decide), F 41 j (amod_n55 (by decide))]) (fun j => by rw [yset_o (by decide), yset_o (by decide), F 42 j (amod_n55 (by decide))]) (fun j => by rw [yset_o (by decide), yset_o (by decide), F 43 j (amod_n55 (by decide))]), cVe_fr c3 (by rw [yset_o (by decide), yset_o (by decide), F 33 1 (amod_n55 (by decide))]) (fun j => by rw [yset_o (by decide), yset_o (by decide), F 34 j (amod_n55 (by decide))]) (fun j => by rw [yset_o (by decide), yset_o (by decide), F 44 j (amod_n55 (by decide))]) (fun j => by rw [yset_o (by decide), yset_o (by decide), F 45 j (amod_n55 (by decide))]) (fun j => by rw [yset_o (by decide), yset_o (by decide), F 46 j (amod_n55 (by decide))]), cBk_fr c4 (by rw [yset_o (by decide), yset_o (by decide), F 35 1 (amod_n55 (by decide))]) (fun j => by rw [yset_o (by decide), yset_o (by decide), F 36 j (amod_n55 (by decide))]) (fun j => by rw [yset_o (by decide), yset_o (by decide), F 47 j (amod_n55 (by decide))]), ⟨by rw [yset_d (by decide), yset_o (by decide), F 54 2 (amod_n55 (by decide))]; exact c5.1, by rw [yset_o (by decide), yset_d (by decide), F 28 17 (amod_n55 (by decide))]; exact c5.2⟩, ⟨by rw [yset_s]; exact w32c_1, by rw [yset_o (by decide), yset_s]; exact e1⟩, cFs_fr c7 (fun j => by rw [yset_o (by decide), yset_o (by decide), F 51 j (amod_n55 (by decide))]) (fun j => by rw [yset_o (by decide), yset_o (by decide), F 52 j (amod_n55 (by decide))]) (by rw [yset_o (by decide), yset_o (by decide), F 48 4 (amod_n55 (by decide))]) (by rw [yset_o (by decide), yset_o (by decide), F 48 8 (amod_n55 (by decide))]) (fun j => by rw [yset_o (by decide), yset_o (by decide), F 49 j (amod_n55 (by decide))]) (fun j => by rw [yset_o (by decide), yset_o (by decide), F 50 j (amod_n55 (by decide))])⟩
  · unfold pLine at fin
    rw [if_neg (by (first | exact Nat.le_of_ble_eq_true rfl | exact (fun h => absurd h.1 (by decide)) | omega)), if_neg (by (first | exact Nat.le_of_ble_eq_true rfl | exact (fun h => absurd h.1 (by decide)) | omega)), if_neg (by (first | exact Nat.le_of_ble_eq_true rfl | exact (fun h => absurd h.1 (by decide)) | omega)), if_neg (by (first | exact Nat.le_of_ble_eq_true rfl | exact (fun h => absurd h.1 (by decide)) | omega)), if_neg (by (first | exact Nat.le_of_ble_eq_true rfl | exact (fun h => absurd h.1 (by decide)) | omega)), if_neg (by (first | exact Nat.le_of_ble_eq_true rfl | exact (fun h => absurd h.1 (by decide)) | omega)), if_pos (by (first | exact Nat.le_of_ble_eq_true rfl | exact (fun h => absurd h.1 (by decide)) | omega))] at fin
    refine g_readLaw hE (by (first | exact Nat.le_of_ble_eq_true rfl | exact (fun h => absurd h.1 (by decide)) | omega)) (tl := tlF D.2.2.2.2.2.2) T c7.2 (fun f hf => ?_) (fun m' F T' U => ?_)
    · unfold tlF
      rw [decide_eq_true_eq, (c7.1 f (by (first | exact Nat.le_of_ble_eq_true rfl | exact (fun h => absurd h.1 (by decide)) | omega))).1, (c7.1 f (by (first | exact Nat.le_of_ble_eq_true rfl | exact (fun h => absurd h.1 (by decide)) | omega))).2]
    refine zgk_n hE xmo_120 60 zc_120 ?_
    simp only [ynok_30, ynok_31, w32c_0, w32c_1, w32c_2, w32c_3, w32c_4, w32c_5, w32c_6, w32c_7, w32c_8, w32c_9, w32c_10, w32c_11, w32c_12, w32c_13, w32c_14, w32c_m1, w32c_m2, w32c_118, Int.reduceAdd, Int.reduceSub, Int.reduceMul, yput_s, yput_n, znl_n, znl_0, znl_1, znl_4, ysum_n, ysum_0, ysum_1, ysum_4, true_and, and_true, Nat.reduceAdd, Nat.reduceLeDiff, true_implies, eq_self, true_or, or_true, or_false, false_or, not_true_eq_false, not_false_eq_true, false_implies, implies_true, yset_s, yset_o, yset_d, ne_eq, Nat.reduceEqDiff, Int.reduceToNat, Int.reduceEq, Int.reduceLE, Int.reduceLT, Classical.not_not, Nat.reduceLT, ↓zvk_s, ↓zvk_n, ↓s_120_0, ↓s_120_1, ↓s_120_4, ↓s_120_7, ↓s_120_8, ↓s_120_9, ↓s_120_12, ↓s_120_13, ↓s_120_14, ↓s_120_17, ↓s_120_18, ↓s_120_21, ↓s_120_22, ↓s_120_25, ↓s_120_26n, ↓s_120_26i, ↓s_120_26p, ↓s_120_27, ↓s_120_28n, ↓s_120_28i, ↓s_120_28p, ↓g_120_29, ↓k_120_29, ↓s_120_30, ↓s_120_33, ↓s_120_36, ↓s_120_37, ↓s_120_40, ↓s_120_43, ↓s_120_46, ↓s_120_47, ↓s_120_50, ↓s_120_53, ↓s_120_96, ↓s_120_97, ↓s_120_100, ↓s_120_103, ↓s_120_104, ↓s_120_107, ↓s_120_110, ↓s_120_111, ↓s_120_114, ↓s_120_117, ↓s_120_118, ↓s_120_121, ↓s_120_124, ↓s_120_125, ↓s_120_128, ↓s_120_129, ↓s_120_130, ↓s_120_133, ↓s_120_136, ↓s_120_139_2, ↓s_120_139_28, ↓s_120_142, ↓s_120_143, ↓s_120_144, ↓s_120_147, ↓s_120_150, ↓s_120_151, ↓s_120_154, ↓s_120_155, ↓s_120_156, ↓s_120_159, ↓s_120_161, ↓s_120_164_2, ↓s_120_164_28, ↓s_120_167, ↓s_120_168, ↓s_120_169, ↓s_120_172, ↓s_120_175, ↓s_120_176, ↓s_120_179, ↓s_120_182, ↓s_120_183, ↓s_120_186, ↓s_120_187, ↓s_120_190a, ↓s_120_190b, ↓g_120_191, ↓k_120_191, ↓s_120_192, ↓s_120_193, ↓s_120_196, ↓s_120_199n, ↓s_120_199i, ↓s_120_199p, ↓s_120_202, ↓s_120_205, ↓s_120_206, ↓s_120_209, ↓s_120_210, ↓s_120_213a, ↓s_120_213b, ↓g_120_214n, ↓g_120_214i, ↓g_120_214p, ↓k_120_214, ↓s_120_217, ↓g_120_220, ↓k_120_220, ↓s_120_221, w32c_800, w32c_999, w32c_99999, zio_2, zio_54, zio_55, zio_28]
    refine fin m' (tl_ft hb F) ⟨T', fun l hl => ?_⟩
    revert U hl F
    generalize pLw (tlF D.2.2.2.2.2.2) D.2.2.2.2.2.2.2.1 D.2.2.2.2.2.2.2.2 x = z
    obtain ⟨z1, z2⟩ := z
    intro F U hl
    cases z1 with
    | inl e => cases hl
    | inr u =>
      obtain ⟨U2, U3⟩ := U u rfl
      exact ⟨cTv_fr c1 (F 29 1 rfl (fun z => absurd z.1 (by decide)) (fun z => absurd z.1 (by decide))) (fun j => F 30 j rfl (fun z => absurd z.1 (by decide)) (fun z => absurd z.1 (by decide))) (fun j => F 37 j rfl (fun z => absurd z.1 (by decide)) (fun z => absurd z.1 (by decide))) (fun j => F 38 j rfl (fun z => absurd z.1 (by decide)) (fun z => absurd z.1 (by decide))), cVo_fr c2 (F 31 1 rfl (fun z => absurd z.1 (by decide)) (fun z => absurd z.1 (by decide))) (fun j => F 32 j rfl (fun z => absurd z.1 (by decide)) (fun z => absurd z.1 (by decide))) (F 28 16 rfl (fun z => absurd z.1 (by decide)) (fun z => absurd z.1 (by decide))) (fun j => F 39 j rfl (fun z => absurd z.1 (by decide)) (fun z => absurd z.1 (by decide))) (fun j => F 40 j rfl (fun z => absurd z.1 (by decide)) (fun z => absurd z.1 (by decide))) (fun j => F 41 j rfl (fun z => absurd z.1 (by decide)) (fun z => absurd z.1 (by decide))) (fun j => F 42 j rfl (fun z => absurd z.1 (by decide)) (fun z => absurd z.1 (by decide))) (fun j => F 43 j rfl (fun z => absurd z.1 (by decide)) (fun z => absurd z.1 (by decide))), cVe_fr c3 (F 33 1 rfl (fun z => absurd z.1 (by decide)) (fun z => absurd z.1 (by decide))) (fun j => F 34 j rfl (fun z => absurd z.1 (by decide)) (fun z => absurd z.1 (by decide))) (fun j => F 44 j rfl (fun z => absurd z.1 (by decide)) (fun z => absurd z.1 (by decide))) (fun j => F 45 j rfl (fun z => absurd z.1 (by decide)) (fun z => absurd z.1 (by decide))) (fun j => F 46 j rfl (fun z => absurd z.1 (by decide)) (fun z => absurd z.1 (by decide))), cBk_fr c4 (F 35 1 rfl (fun z => absurd z.1 (by decide)) (fun z => absurd z.1 (by decide))) (fun j => F 36 j rfl (fun z => absurd z.1 (by decide)) (fun z => absurd z.1 (by decide))) (fun j => F 47 j rfl (fun z => absurd z.1 (by decide)) (fun z => absurd z.1 (by decide))), ⟨by rw [F 54 2 rfl (fun z => absurd z.1 (by decide)) (fun z => absurd z.1 (by decide))]; exact c5.1, by rw [F 28 17 rfl (fun z => absurd z.1 (by decide)) (fun z => absurd z.1 (by decide))]; exact c5.2⟩, ⟨by rw [F 54 3 rfl (fun z => absurd z.1 (by decide)) (fun z => absurd z.1 (by decide))]; exact c6.1, by rw [F 28 18 rfl (fun z => absurd z.1 (by decide)) (fun z => absurd z.1 (by decide))]; exact c6.2⟩, cFs_u c7 (fun j hj => F 51 j rfl (fun z => absurd z.1 (by decide)) (fun z => hj z.2)) (fun j hj => F 52 j rfl (fun z => hj z.2) (fun z => absurd z.1 (by decide))) U2 U3⟩
  · unfold pLine at fin
    rw [if_neg (by (first | exact Nat.le_of_ble_eq_true rfl | exact (fun h => absurd h.1 (by decide)) | omega)), if_neg (by (first | exact Nat.le_of_ble_eq_true rfl | exact (fun h => absurd h.1 (by decide)) | omega)), if_neg (by (first | exact Nat.le_of_ble_eq_true rfl | exact (fun h => absurd h.1 (by decide)) | omega)), if_neg (by (first | exact Nat.le_of_ble_eq_true rfl | exact (fun h => absurd h.1 (by decide)) | omega)), if_neg (by (first | exact Nat.le_of_ble_eq_true rfl | exact (fun h => absurd h.1 (by decide)) | omega)), if_neg (by (first | exact Nat.le_of_ble_eq_true rfl | exact (fun h => absurd h.1 (by decide)) | omega)), if_neg (by (first | exact Nat.le_of_ble_eq_true rfl | exact (fun h => absurd h.1 (by decide)) | omega))] at fin
    have go : ∀ m', aFrm cfF m m' → cTk ch n m' (yFl 1 x) → zG E (d + 1) xm_120 191 [some (1, 54), some (0, N), some (0, K), some (0, I)] [] m' Q := fun m' g1 g2 => fin m' (tlF_w hb g1 (by decide)) ⟨g2, fun l hl => by
      rw [hx] at hl
      cases hl⟩
    exact ⟨fun hz => go _ (g_fl1 (f := 1) T hz).1 (g_fl1 T hz).2, fun hz => go _ (g_fl0 (f := 1) T (by decide) (by decide) hz).1 (g_fl0 T (by decide) (by decide) hz).2⟩
end CV
end
section
theorem cDc_cf {m m' : yMem} {D : dDc} (h : cDc m D) (F : aFrm cfF m m') : cDc m' D := by
  obtain ⟨c1, c2, c3, c4, c5, c6, c7⟩ := h
  exact ⟨cTv_fr c1 (F 29 1 (amod_n55 (by decide))) (fun j => F 30 j (amod_n55 (by decide))) (fun j => F 37 j (amod_n55 (by decide))) (fun j => F 38 j (amod_n55 (by decide))), cVo_fr c2 (F 31 1 (amod_n55 (by decide))) (fun j => F 32 j (amod_n55 (by decide))) (F 28 16 (amod_n55 (by decide))) (fun j => F 39 j (amod_n55 (by decide))) (fun j => F 40 j (amod_n55 (by decide))) (fun j => F 41 j (amod_n55 (by decide))) (fun j => F 42 j (amod_n55 (by decide))) (fun j => F 43 j (amod_n55 (by decide))), cVe_fr c3 (F 33 1 (amod_n55 (by decide))) (fun j => F 34 j (amod_n55 (by decide))) (fun j => F 44 j (amod_n55 (by decide))) (fun j => F 45 j (amod_n55 (by decide))) (fun j => F 46 j (amod_n55 (by decide))), cBk_fr c4 (F 35 1 (amod_n55 (by decide))) (fun j => F 36 j (amod_n55 (by decide))) (fun j => F 47 j (amod_n55 (by decide))), ⟨by rw [F 54 2 (amod_n55 (by decide))]; exact c5.1, by rw [F 28 17 (amod_n55 (by decide))]; exact c5.2⟩, ⟨by rw [F 54 3 (amod_n55 (by decide))]; exact c6.1, by rw [F 28 18 (amod_n55 (by decide))]; exact c6.2⟩, cFs_fr c7 (fun j => F 51 j (amod_n55 (by decide))) (fun j => F 52 j (amod_n55 (by decide))) (F 48 4 (amod_n55 (by decide))) (F 48 8 (amod_n55 (by decide))) (fun j => F 49 j (amod_n55 (by decide))) (fun j => F 50 j (amod_n55 (by decide)))⟩
section CW
variable {E : yE} {mem b m : yMem} {Q : Option yV → yMem → Prop} {ch : Nat → Int} {n : Nat} {x : sY} {D : dDc} {d : Nat} {N K I : Int}
theorem gx191 (hE : yEok E) (hd : 12 ≤ d) (hb : tlF' b m) (h : cAt ch n m x D) (fin4 : yKd x = 4 → ∀ m', tlF' b m' → cAt ch n m' (yNx x) D → zG E (d + 1) xm_120 29 [some (1, 54), some (0, N), some (0, K + 1), some (0, I + 1)] [] m' Q) (fin1 : ¬ yKd x = 4 → ∀ m', tlF' b m' → cAt ch n m' (yFl 1 x) D → zG E (d + 1) xm_120 29 [some (1, 54), some (0, N), some (0, K), some (0, I + 1)] [] m' Q) : zG E (d + 1) xm_120 191 [some (1, 54), some (0, N), some (0, K), some (0, I)] [] m Q := by
  refine zgo_ok (n := 60) hE xmo_120 (cs := zc_120) ?_
  simp only [ynok_30, ynok_31, w32c_0, w32c_1, w32c_2, w32c_3, w32c_4, w32c_5, w32c_6, w32c_7, w32c_8, w32c_9, w32c_10, w32c_11, w32c_12, w32c_13, w32c_14, w32c_m1, w32c_m2, w32c_118, Int.reduceAdd, Int.reduceSub, Int.reduceMul, yput_s, yput_n, znl_n, znl_0, znl_1, znl_4, ysum_n, ysum_0, ysum_1, ysum_4, true_and, and_true, Nat.reduceAdd, Nat.reduceLeDiff, true_implies, eq_self, true_or, or_true, or_false, false_or, not_true_eq_false, not_false_eq_true, false_implies, implies_true, yset_s, yset_o, yset_d, ne_eq, Nat.reduceEqDiff, Int.reduceToNat, Int.reduceEq, Int.reduceLE, Int.reduceLT, Classical.not_not, Nat.reduceLT, ↓zvk_s, ↓zvk_n, ↓s_120_0, ↓s_120_1, ↓s_120_4, ↓s_120_7, ↓s_120_8, ↓s_120_9, ↓s_120_12, ↓s_120_13, ↓s_120_14, ↓s_120_17, ↓s_120_18, ↓s_120_21, ↓s_120_22, ↓s_120_25, ↓s_120_26n, ↓s_120_26i, ↓s_120_26p, ↓s_120_27, ↓s_120_28n, ↓s_120_28i, ↓s_120_28p, ↓g_120_29, ↓k_120_29, ↓s_120_30, ↓s_120_33, ↓s_120_36, ↓s_120_37, ↓s_120_40, ↓s_120_43, ↓s_120_46, ↓s_120_47, ↓s_120_50, ↓s_120_53, ↓s_120_96, ↓s_120_97, ↓s_120_100, ↓s_120_103, ↓s_120_104, ↓s_120_107, ↓s_120_110, ↓s_120_111, ↓s_120_114, ↓s_120_117, ↓s_120_118, ↓s_120_121, ↓s_120_124, ↓s_120_125, ↓s_120_128, ↓s_120_129, ↓s_120_130, ↓s_120_133, ↓s_120_136, ↓s_120_139_2, ↓s_120_139_28, ↓s_120_142, ↓s_120_143, ↓s_120_144, ↓s_120_147, ↓s_120_150, ↓s_120_151, ↓s_120_154, ↓s_120_155, ↓s_120_156, ↓s_120_159, ↓s_120_161, ↓s_120_164_2, ↓s_120_164_28, ↓s_120_167, ↓s_120_168, ↓s_120_169, ↓s_120_172, ↓s_120_175, ↓s_120_176, ↓s_120_179, ↓s_120_182, ↓s_120_183, ↓s_120_186, ↓s_120_187, ↓s_120_190a, ↓s_120_190b, ↓g_120_191, ↓k_120_191, ↓s_120_192, ↓s_120_193, ↓s_120_196, ↓s_120_199n, ↓s_120_199i, ↓s_120_199p, ↓s_120_202, ↓s_120_205, ↓s_120_206, ↓s_120_209, ↓s_120_210, ↓s_120_213a, ↓s_120_213b, ↓g_120_214n, ↓g_120_214i, ↓g_120_214p, ↓k_120_214, ↓s_120_217, ↓g_120_220, ↓k_120_220, ↓s_120_221, w32c_800, w32c_999, w32c_99999, ↓s_123_0, ↓s_123_1, ↓s_123_4, ↓s_123_7, ↓s_123_8, ↓s_123_9, ↓s_123_12, ↓s_123_13, ↓s_123_14, ↓s_123_17, ↓s_123_20, ↓s_123_21, ↓s_123_22, ↓s_123_25, ↓s_123_26, ↓s_119_0, ↓s_119_1, ↓s_119_4, ↓s_119_7, ↓s_119_8, ↓s_119_11, ↓s_119_12, ↓s_119_13, ↓s_119_14, ↓s_119_17, ↓s_119_20, ↓s_119_21, zio_2, zio_54, zio_55, zio_28]
  have T := h.1
  rw [cTk_kd T]
  refine ⟨fun hk => ?_, fun hk => ?_⟩
  · refine g_next hE (by (first | exact Nat.le_of_ble_eq_true rfl | exact (fun h => absurd h.1 (by decide)) | omega)) T (fun m1 F1 T1 => ?_)
    refine zgk_n hE xmo_119 60 [] ?_
    simp only [ynok_30, ynok_31, w32c_0, w32c_1, w32c_2, w32c_3, w32c_4, w32c_5, w32c_6, w32c_7, w32c_8, w32c_9, w32c_10, w32c_11, w32c_12, w32c_13, w32c_14, w32c_m1, w32c_m2, w32c_118, Int.reduceAdd, Int.reduceSub, Int.reduceMul, yput_s, yput_n, znl_n, znl_0, znl_1, znl_4, ysum_n, ysum_0, ysum_1, ysum_4, true_and, and_true, Nat.reduceAdd, Nat.reduceLeDiff, true_implies, eq_self, true_or, or_true, or_false, false_or, not_true_eq_false, not_false_eq_true, false_implies, implies_true, yset_s, yset_o, yset_d, ne_eq, Nat.reduceEqDiff, Int.reduceToNat, Int.reduceEq, Int.reduceLE, Int.reduceLT, Classical.not_not, Nat.reduceLT, ↓zvk_s, ↓zvk_n, ↓s_120_0, ↓s_120_1, ↓s_120_4, ↓s_120_7, ↓s_120_8, ↓s_120_9, ↓s_120_12, ↓s_120_13, ↓s_120_14, ↓s_120_17, ↓s_120_18, ↓s_120_21, ↓s_120_22, ↓s_120_25, ↓s_120_26n, ↓s_120_26i, ↓s_120_26p, ↓s_120_27, ↓s_120_28n, ↓s_120_28i, ↓s_120_28p, ↓g_120_29, ↓k_120_29, ↓s_120_30, ↓s_120_33, ↓s_120_36, ↓s_120_37, ↓s_120_40, ↓s_120_43, ↓s_120_46, ↓s_120_47, ↓s_120_50, ↓s_120_53, ↓s_120_96, ↓s_120_97, ↓s_120_100, ↓s_120_103, ↓s_120_104, ↓s_120_107, ↓s_120_110, ↓s_120_111, ↓s_120_114, ↓s_120_117, ↓s_120_118, ↓s_120_121, ↓s_120_124, ↓s_120_125, ↓s_120_128, ↓s_120_129, ↓s_120_130, ↓s_120_133, ↓s_120_136, ↓s_120_139_2, ↓s_120_139_28, ↓s_120_142, ↓s_120_143, ↓s_120_144, ↓s_120_147, ↓s_120_150, ↓s_120_151, ↓s_120_154, ↓s_120_155, ↓s_120_156, ↓s_120_159, ↓s_120_161, ↓s_120_164_2, ↓s_120_164_28, ↓s_120_167, ↓s_120_168, ↓s_120_169, ↓s_120_172, ↓s_120_175, ↓s_120_176, ↓s_120_179, ↓s_120_182, ↓s_120_183, ↓s_120_186, ↓s_120_187, ↓s_120_190a, ↓s_120_190b, ↓g_120_191, ↓k_120_191, ↓s_120_192, ↓s_120_193, ↓s_120_196, ↓s_120_199n, ↓s_120_199i, ↓s_120_199p, ↓s_120_202, ↓s_120_205, ↓s_120_206, ↓s_120_209, ↓s_120_210, ↓s_120_213a, ↓s_120_213b, ↓g_120_214n, ↓g_120_214i, ↓g_120_214p, ↓k_120_214, ↓s_120_217, ↓g_120_220, ↓k_120_220, ↓s_120_221, w32c_800, w32c_999, w32c_99999, ↓s_123_0, ↓s_123_1, ↓s_123_4, ↓s_123_7, ↓s_123_8, ↓s_123_9, ↓s_123_12, ↓s_123_13, ↓s_123_14, ↓s_123_17, ↓s_123_20, ↓s_123_21, ↓s_123_22, ↓s_123_25, ↓s_123_26, ↓s_119_0, ↓s_119_1, ↓s_119_4, ↓s_119_7, ↓s_119_8, ↓s_119_11, ↓s_119_12, ↓s_119_13, ↓s_119_14, ↓s_119_17, ↓s_119_20, ↓s_119_21, zio_2, zio_54, zio_55, zio_28]
    refine zgo_ok (n := 60) hE xmo_120 (cs := zc_120) ?_
    simp only [ynok_30, ynok_31, w32c_0, w32c_1, w32c_2, w32c_3, w32c_4, w32c_5, w32c_6, w32c_7, w32c_8, w32c_9, w32c_10, w32c_11, w32c_12, w32c_13, w32c_14, w32c_m1, w32c_m2, w32c_118, Int.reduceAdd, Int.reduceSub, Int.reduceMul, yput_s, yput_n, znl_n, znl_0, znl_1, znl_4, ysum_n, ysum_0, ysum_1, ysum_4, true_and, and_true, Nat.reduceAdd, Nat.reduceLeDiff, true_implies, eq_self, true_or, or_true, or_false, false_or, not_true_eq_false, not_false_eq_true, false_implies, implies_true, yset_s, yset_o, yset_d, ne_eq, Nat.reduceEqDiff, Int.reduceToNat, Int.reduceEq, Int.reduceLE, Int.reduceLT, Classical.not_not, Nat.reduceLT, ↓zvk_s, ↓zvk_n, ↓s_120_0, ↓s_120_1, ↓s_120_4, ↓s_120_7, ↓s_120_8, ↓s_120_9, ↓s_120_12, ↓s_120_13, ↓s_120_14, ↓s_120_17, ↓s_120_18, ↓s_120_21, ↓s_120_22, ↓s_120_25, ↓s_120_26n, ↓s_120_26i, ↓s_120_26p, ↓s_120_27, ↓s_120_28n, ↓s_120_28i, ↓s_120_28p, ↓g_120_29, ↓k_120_29, ↓s_120_30, ↓s_120_33, ↓s_120_36, ↓s_120_37, ↓s_120_40, ↓s_120_43, ↓s_120_46, ↓s_120_47, ↓s_120_50, ↓s_120_53, ↓s_120_96, ↓s_120_97, ↓s_120_100, ↓s_120_103, ↓s_120_104, ↓s_120_107, ↓s_120_110, ↓s_120_111, ↓s_120_114, ↓s_120_117, ↓s_120_118, ↓s_120_121, ↓s_120_124, ↓s_120_125, ↓s_120_128, ↓s_120_129, ↓s_120_130, ↓s_120_133, ↓s_120_136, ↓s_120_139_2, ↓s_120_139_28, ↓s_120_142, ↓s_120_143, ↓s_120_144, ↓s_120_147, ↓s_120_150, ↓s_120_151, ↓s_120_154, ↓s_120_155, ↓s_120_156, ↓s_120_159, ↓s_120_161, ↓s_120_164_2, ↓s_120_164_28, ↓s_120_167, ↓s_120_168, ↓s_120_169, ↓s_120_172, ↓s_120_175, ↓s_120_176, ↓s_120_179, ↓s_120_182, ↓s_120_183, ↓s_120_186, ↓s_120_187, ↓s_120_190a, ↓s_120_190b, ↓g_120_191, ↓k_120_191, ↓s_120_192, ↓s_120_193, ↓s_120_196, ↓s_120_199n, ↓s_120_199i, ↓s_120_199p, ↓s_120_202, ↓s_120_205, ↓s_120_206, ↓s_120_209, ↓s_120_210, ↓s_120_213a, ↓s_120_213b, ↓g_120_214n, ↓g_120_214i, ↓g_120_214p, ↓k_120_214, ↓s_120_217, ↓g_120_220, ↓k_120_220, ↓s_120_221, w32c_800, w32c_999, w32c_99999, zio_2, zio_54, zio_55, zio_28]
    refine fin4 (by (first | exact Nat.le_of_ble_eq_true rfl | exact (fun h => absurd h.1 (by decide)) | omega)) m1 (tlF_w hb F1 (by decide)) ⟨T1, fun l hl => ?_⟩
    cases x with
    | inl e => cases hl
    | inr l' => exact cDc_cf (h.2 l' rfl) F1
  · have go : ∀ m', aFrm cfF m m' → cTk ch n m' (yFl 1 x) → zG E (d + 1) xm_120 214 [some (1, 54), some (0, N), some (0, K), some (0, I)] [] m' Q := fun m' g1 g2 => by
      refine zgo_ok (n := 60) hE xmo_120 (cs := zc_120) ?_
      simp only [ynok_30, ynok_31, w32c_0, w32c_1, w32c_2, w32c_3, w32c_4, w32c_5, w32c_6, w32c_7, w32c_8, w32c_9, w32c_10, w32c_11, w32c_12, w32c_13, w32c_14, w32c_m1, w32c_m2, w32c_118, Int.reduceAdd, Int.reduceSub, Int.reduceMul, yput_s, yput_n, znl_n, znl_0, znl_1, znl_4, ysum_n, ysum_0, ysum_1, ysum_4, true_and, and_true, Nat.reduceAdd, Nat.reduceLeDiff, true_implies, eq_self, true_or, or_true, or_false, false_or, not_true_eq_false, not_false_eq_true, false_implies, implies_true, yset_s, yset_o, yset_d, ne_eq, Nat.reduceEqDiff, Int.reduceToNat, Int.reduceEq, Int.reduceLE, Int.reduceLT, Classical.not_not, Nat.reduceLT, ↓zvk_s, ↓zvk_n, ↓s_120_0, ↓s_120_1, ↓s_120_4, ↓s_120_7, ↓s_120_8, ↓s_120_9, ↓s_120_12, ↓s_120_13, ↓s_120_14, ↓s_120_17, ↓s_120_18, ↓s_120_21, ↓s_120_22, ↓s_120_25, ↓s_120_26n, ↓s_120_26i, ↓s_120_26p, ↓s_120_27, ↓s_120_28n, ↓s_120_28i, ↓s_120_28p, ↓g_120_29, ↓k_120_29, ↓s_120_30, ↓s_120_33, ↓s_120_36, ↓s_120_37, ↓s_120_40, ↓s_120_43, ↓s_120_46, ↓s_120_47, ↓s_120_50, ↓s_120_53, ↓s_120_96, ↓s_120_97, ↓s_120_100, ↓s_120_103, ↓s_120_104, ↓s_120_107, ↓s_120_110, ↓s_120_111, ↓s_120_114, ↓s_120_117, ↓s_120_118, ↓s_120_121, ↓s_120_124, ↓s_120_125, ↓s_120_128, ↓s_120_129, ↓s_120_130, ↓s_120_133, ↓s_120_136, ↓s_120_139_2, ↓s_120_139_28, ↓s_120_142, ↓s_120_143, ↓s_120_144, ↓s_120_147, ↓s_120_150, ↓s_120_151, ↓s_120_154, ↓s_120_155, ↓s_120_156, ↓s_120_159, ↓s_120_161, ↓s_120_164_2, ↓s_120_164_28, ↓s_120_167, ↓s_120_168, ↓s_120_169, ↓s_120_172, ↓s_120_175, ↓s_120_176, ↓s_120_179, ↓s_120_182, ↓s_120_183, ↓s_120_186, ↓s_120_187, ↓s_120_190a, ↓s_120_190b, ↓g_120_191, ↓k_120_191, ↓s_120_192, ↓s_120_193, ↓s_120_196, ↓s_120_199n, ↓s_120_199i, ↓s_120_199p, ↓s_120_202, ↓s_120_205, ↓s_120_206, ↓s_120_209, ↓s_120_210, ↓s_120_213a, ↓s_120_213b, ↓g_120_214n, ↓g_120_214i, ↓g_120_214p, ↓k_120_214, ↓s_120_217, ↓g_120_220, ↓k_120_220, ↓s_120_221, w32c_800, w32c_999, w32c_99999, zio_2, zio_54, zio_55, zio_28]
      refine fin1 (by (first | exact Nat.le_of_ble_eq_true rfl | exact (fun h => absurd h.1 (by decide)) | omega)) m' (tlF_w hb g1 (by decide)) ⟨g2, fun l hl => ?_⟩
      obtain ⟨e, he⟩ := yFl_inl 1 x
      rw [he] at hl
      cases hl
    exact ⟨fun hz => go _ (g_fl1 (f := 1) T hz).1 (g_fl1 T hz).2, fun hz => go _ (g_fl0 (f := 1) T (by decide) (by decide) hz).1 (g_fl0 T (by decide) (by decide) hz).2⟩
theorem ySz_1 {x : sY} (h : yKd x ≠ 0) : 1 ≤ ySz x := by
  have := ySz_nl h
  (first | exact Nat.le_of_ble_eq_true rfl | exact (fun h => absurd h.1 (by decide)) | omega)
theorem gxl (hE : yEok E) (hd : 12 ≤ d) : ∀ (f : Nat) (x : sY) (D : dDc) (m : yMem) (k K I : Int), ySz x < f → tlF' b m → cAt ch n m x D → w32 K = k → 0 ≤ k → k ≤ w32 I → w32 I ≤ 801 → (yKd x ≠ 0 → w32 I + (ySz x : Int) ≤ 801) → (∀ m' r, tlF' b m' → cAt ch n m' (pTx f x D k).1 (pTx f x D k).2.1 → w32 r = (pTx f x D k).2.2 → Q (some (0, r)) m') → zG E (d + 1) xm_120 29 [some (1, 54), some (0, N), some (0, K), some (0, I)] [] m Q := by
  intro f
  induction f with
  | zero => intro x D m k K I h; exact absurd h (Nat.not_lt_zero _)
  | succ f ih =>
    intro x D m k K I hf hb h hK k0 kI hI hS fin
    by_cases hk : yKd x = 0
    · have ep : pTx (f + 1) x D k = (x, D, k) := by show (if _ then _ else _) = _; rw [if_pos hk]
      rw [ep] at fin
      have ex : zG E (d + 1) xm_120 220 [some (1, 54), some (0, N), some (0, K), some (0, I)] [] m Q := by
        refine zgo_ok (n := 60) hE xmo_120 (cs := zc_120) ?_
        simp only [ynok_30, ynok_31, w32c_0, w32c_1, w32c_2, w32c_3, w32c_4, w32c_5, w32c_6, w32c_7, w32c_8, w32c_9, w32c_10, w32c_11, w32c_12, w32c_13, w32c_14, w32c_m1, w32c_m2, w32c_118, Int.reduceAdd, Int.reduceSub, Int.reduceMul, yput_s, yput_n, znl_n, znl_0, znl_1, znl_4, ysum_n, ysum_0, ysum_1, ysum_4, true_and, and_true, Nat.reduceAdd, Nat.reduceLeDiff, true_implies, eq_self, true_or, or_true, or_false, false_or, not_true_eq_false, not_false_eq_true, false_implies, implies_true, yset_s, yset_o, yset_d, ne_eq, Nat.reduceEqDiff, Int.reduceToNat, Int.reduceEq, Int.reduceLE, Int.reduceLT, Classical.not_not, Nat.reduceLT, ↓zvk_s, ↓zvk_n, ↓s_120_0, ↓s_120_1, ↓s_120_4, ↓s_120_7, ↓s_120_8, ↓s_120_9, ↓s_120_12, ↓s_120_13, ↓s_120_14, ↓s_120_17, ↓s_120_18, ↓s_120_21, ↓s_120_22, ↓s_120_25, ↓s_120_26n, ↓s_120_26i, ↓s_120_26p, ↓s_120_27, ↓s_120_28n, ↓s_120_28i, ↓s_120_28p, ↓g_120_29, ↓k_120_29, ↓s_120_30, ↓s_120_33, ↓s_120_36, ↓s_120_37, ↓s_120_40, ↓s_120_43, ↓s_120_46, ↓s_120_47, ↓s_120_50, ↓s_120_53, ↓s_120_96, ↓s_120_97, ↓s_120_100, ↓s_120_103, ↓s_120_104, ↓s_120_107, ↓s_120_110, ↓s_120_111, ↓s_120_114, ↓s_120_117, ↓s_120_118, ↓s_120_121, ↓s_120_124, ↓s_120_125, ↓s_120_128, ↓s_120_129, ↓s_120_130, ↓s_120_133, ↓s_120_136, ↓s_120_139_2, ↓s_120_139_28, ↓s_120_142, ↓s_120_143, ↓s_120_144, ↓s_120_147, ↓s_120_150, ↓s_120_151, ↓s_120_154, ↓s_120_155, ↓s_120_156, ↓s_120_159, ↓s_120_161, ↓s_120_164_2, ↓s_120_164_28, ↓s_120_167, ↓s_120_168, ↓s_120_169, ↓s_120_172, ↓s_120_175, ↓s_120_176, ↓s_120_179, ↓s_120_182, ↓s_120_183, ↓s_120_186, ↓s_120_187, ↓s_120_190a, ↓s_120_190b, ↓g_120_191, ↓k_120_191, ↓s_120_192, ↓s_120_193, ↓s_120_196, ↓s_120_199n, ↓s_120_199i, ↓s_120_199p, ↓s_120_202, ↓s_120_205, ↓s_120_206, ↓s_120_209, ↓s_120_210, ↓s_120_213a, ↓s_120_213b, ↓g_120_214n, ↓g_120_214i, ↓g_120_214p, ↓k_120_214, ↓s_120_217, ↓g_120_220, ↓k_120_220, ↓s_120_221, w32c_800, w32c_999, w32c_99999, zio_2, zio_54, zio_55, zio_28]
        exact fin m K hb h hK
      refine zgo_ok (n := 60) hE xmo_120 (cs := zc_120) ?_
      simp only [ynok_30, ynok_31, w32c_0, w32c_1, w32c_2, w32c_3, w32c_4, w32c_5, w32c_6, w32c_7, w32c_8, w32c_9, w32c_10, w32c_11, w32c_12, w32c_13, w32c_14, w32c_m1, w32c_m2, w32c_118, Int.reduceAdd, Int.reduceSub, Int.reduceMul, yput_s, yput_n, znl_n, znl_0, znl_1, znl_4, ysum_n, ysum_0, ysum_1, ysum_4, true_and, and_true, Nat.reduceAdd, Nat.reduceLeDiff, true_implies, eq_self, true_or, or_true, or_false, false_or, not_true_eq_false, not_false_eq_true, false_implies, implies_true, yset_s, yset_o, yset_d, ne_eq, Nat.reduceEqDiff, Int.reduceToNat, Int.reduceEq, Int.reduceLE, Int.reduceLT, Classical.not_not, Nat.reduceLT, ↓zvk_s, ↓zvk_n, ↓s_120_0, ↓s_120_1, ↓s_120_4, ↓s_120_7, ↓s_120_8, ↓s_120_9, ↓s_120_12, ↓s_120_13, ↓s_120_14, ↓s_120_17, ↓s_120_18, ↓s_120_21, ↓s_120_22, ↓s_120_25, ↓s_120_26n, ↓s_120_26i, ↓s_120_26p, ↓s_120_27, ↓s_120_28n, ↓s_120_28i, ↓s_120_28p, ↓g_120_29, ↓k_120_29, ↓s_120_30, ↓s_120_33, ↓s_120_36, ↓s_120_37, ↓s_120_40, ↓s_120_43, ↓s_120_46, ↓s_120_47, ↓s_120_50, ↓s_120_53, ↓s_120_96, ↓s_120_97, ↓s_120_100, ↓s_120_103, ↓s_120_104, ↓s_120_107, ↓s_120_110, ↓s_120_111, ↓s_120_114, ↓s_120_117, ↓s_120_118, ↓s_120_121, ↓s_120_124, ↓s_120_125, ↓s_120_128, ↓s_120_129, ↓s_120_130, ↓s_120_133, ↓s_120_136, ↓s_120_139_2, ↓s_120_139_28, ↓s_120_142, ↓s_120_143, ↓s_120_144, ↓s_120_147, ↓s_120_150, ↓s_120_151, ↓s_120_154, ↓s_120_155, ↓s_120_156, ↓s_120_159, ↓s_120_161, ↓s_120_164_2, ↓s_120_164_28, ↓s_120_167, ↓s_120_168, ↓s_120_169, ↓s_120_172, ↓s_120_175, ↓s_120_176, ↓s_120_179, ↓s_120_182, ↓s_120_183, ↓s_120_186, ↓s_120_187, ↓s_120_190a, ↓s_120_190b, ↓g_120_191, ↓k_120_191, ↓s_120_192, ↓s_120_193, ↓s_120_196, ↓s_120_199n, ↓s_120_199i, ↓s_120_199p, ↓s_120_202, ↓s_120_205, ↓s_120_206, ↓s_120_209, ↓s_120_210, ↓s_120_213a, ↓s_120_213b, ↓g_120_214n, ↓g_120_214i, ↓g_120_214p, ↓k_120_214, ↓s_120_217, ↓g_120_220, ↓k_120_220, ↓s_120_221, w32c_800, w32c_999, w32c_99999, ↓s_123_0, ↓s_123_1, ↓s_123_4, ↓s_123_7, ↓s_123_8, ↓s_123_9, ↓s_123_12, ↓s_123_13, ↓s_123_14, ↓s_123_17, ↓s_123_20, ↓s_123_21, ↓s_123_22, ↓s_123_25, ↓s_123_26, zio_2, zio_54, zio_55, zio_28]
      rw [cTk_kd h.1]
      exact ⟨fun _ => ex, fun _ => ⟨fun _ => ex, fun q => absurd (show ((yKd x : Nat) : Int) = 0 by (first | exact Nat.le_of_ble_eq_true rfl | exact (fun h => absurd h.1 (by decide)) | omega)) q⟩⟩
    · have h1 := ySz_1 hk
      have h2 := hS hk
      have h3 := ySz_line x D
      have e1 : w32 (I + 1) = w32 I + 1 := by rw [w32_ad (by rw [w32c_1]; (first | exact Nat.le_of_ble_eq_true rfl | exact (fun h => absurd h.1 (by decide)) | omega)) (by rw [w32c_1]; (first | exact Nat.le_of_ble_eq_true rfl | exact (fun h => absurd h.1 (by decide)) | omega)), w32c_1]
      have e2 : w32 (K + 1) = k + 1 := by rw [w32_ad (by rw [w32c_1]; (first | exact Nat.le_of_ble_eq_true rfl | exact (fun h => absurd h.1 (by decide)) | omega)) (by rw [w32c_1]; (first | exact Nat.le_of_ble_eq_true rfl | exact (fun h => absurd h.1 (by decide)) | omega)), w32c_1, hK]
      refine gx29 hE hd hb h hk (by (first | exact Nat.le_of_ble_eq_true rfl | exact (fun h => absurd h.1 (by decide)) | omega)) (fun m1 hb1 C1 => gx191 hE hd hb1 C1 (fun k4 m2 hb2 C2 => ?_) (fun k4 m2 hb2 C2 => ?_))
      · have ep : pTx (f + 1) x D k = pTx f (yNx (pLine x D).1) (pLine x D).2 (k + 1) := by show (if _ then _ else _) = _; rw [if_neg hk, if_pos k4]
        rw [ep] at fin
        have h4 := ySz_nl (x := (pLine x D).1) (by (first | exact Nat.le_of_ble_eq_true rfl | exact (fun h => absurd h.1 (by decide)) | omega))
        exact ih _ _ m2 (k + 1) (K + 1) (I + 1) (by (first | exact Nat.le_of_ble_eq_true rfl | exact (fun h => absurd h.1 (by decide)) | omega)) hb2 C2 e2 (by (first | exact Nat.le_of_ble_eq_true rfl | exact (fun h => absurd h.1 (by decide)) | omega)) (by (first | exact Nat.le_of_ble_eq_true rfl | exact (fun h => absurd h.1 (by decide)) | omega)) (by (first | exact Nat.le_of_ble_eq_true rfl | exact (fun h => absurd h.1 (by decide)) | omega)) (fun _ => by (first | exact Nat.le_of_ble_eq_true rfl | exact (fun h => absurd h.1 (by decide)) | omega)) fin
      · have ep : pTx (f + 1) x D k = pTx f (yFl 1 (pLine x D).1) (pLine x D).2 k := by show (if _ then _ else _) = _; rw [if_neg hk, if_neg k4]
        rw [ep] at fin
        obtain ⟨e, he⟩ := yFl_inl 1 (pLine x D).1
        have hz : ySz (yFl 1 (pLine x D).1) = 0 := by rw [he]; rfl
        have hz2 : yKd (yFl 1 (pLine x D).1) = 0 := by rw [he]; rfl
        exact ih _ _ m2 k K (I + 1) (by (first | exact Nat.le_of_ble_eq_true rfl | exact (fun h => absurd h.1 (by decide)) | omega)) hb2 C2 hK (by (first | exact Nat.le_of_ble_eq_true rfl | exact (fun h => absurd h.1 (by decide)) | omega)) (by (first | exact Nat.le_of_ble_eq_true rfl | exact (fun h => absurd h.1 (by decide)) | omega)) (by (first | exact Nat.le_of_ble_eq_true rfl | exact (fun h => absurd h.1 (by decide)) | omega)) (fun q => absurd hz2 q) fin
end CW
end
section
theorem sTl_hd {ch : Nat → Int} {n a k p e : Nat} {v : Int} (ha : a ≤ n) (h : sTk ch n a k p v e) : ∃ l, sTl ch n l a ∧ sHd l = (k, p, v) ∧ sCu ch n l e := by
  obtain ⟨l, h1, _⟩ := sTl_ex ch n (n - a) a rfl ha
  obtain ⟨h2, h3⟩ := sTl_cu h1 h
  exact ⟨l, h1, h2, h3⟩
section CX
variable {E : yE} {mem b m : yMem} {Q : Option yV → yMem → Prop} {ch : Nat → Int} {n : Nat} {N : Int}
theorem g_start (hE : yEok E) {D : Nat} (hD : 6 ≤ D) (hB : cBy mem ch) (hW : cWd mem) (hN : w32 N = (n : Int)) (hn : n ≤ 800) (hQ : ∀ m l, aFrm [(55, 0)] mem m → sTl ch n l 0 → cTk ch n m (.inr l) → Q none m) : yCon E D xm_132 [(1, 55), (0, N)] mem Q := by
  obtain ⟨d, rfl⟩ := Nat.exists_eq_add_of_le' hD
  refine e_132 ?_
  refine zvc_ok hE 60 [] _ _ _ _ _ _ _ xmo_132 ?_
  simp only [ynok_30, ynok_31, w32c_0, w32c_1, w32c_2, w32c_3, w32c_4, w32c_5, w32c_6, w32c_7, w32c_8, w32c_9, w32c_10, w32c_11, w32c_12, w32c_13, w32c_14, w32c_m1, w32c_m2, w32c_118, Int.reduceAdd, Int.reduceSub, Int.reduceMul, yput_s, yput_n, znl_n, znl_0, znl_1, znl_4, ysum_n, ysum_0, ysum_1, ysum_4, true_and, and_true, Nat.reduceAdd, Nat.reduceLeDiff, true_implies, eq_self, true_or, or_true, or_false, false_or, not_true_eq_false, not_false_eq_true, false_implies, implies_true, yset_s, yset_o, yset_d, ne_eq, Nat.reduceEqDiff, Int.reduceToNat, Int.reduceEq, Int.reduceLE, Int.reduceLT, Classical.not_not, Nat.reduceLT, ↓zvk_s, ↓zvk_n, ↓s_132_0, ↓s_132_1, ↓s_132_2, ↓s_132_3, ↓s_132_6, ↓s_132_7, ↓s_132_10, ↓s_132_13, ↓s_132_14, ↓s_132_15, ↓s_132_18, ↓s_132_19, ↓s_132_20, ↓s_132_23, ↓s_132_24, ↓s_132_25, ↓s_132_28, ↓s_132_29, ↓s_132_32, zar_1, zia_1, zln_1, zit_1, zio_55]
  have ez : zmni N ((800 : Nat) : Int) = N := by
    unfold zmni
    rw [if_neg (by rw [show w32 ((800 : Nat) : Int) = 800 by decide]; (first | exact Nat.le_of_ble_eq_true rfl | exact (fun h => absurd h.1 (by decide)) | omega))]
  rw [ez]
  have e2 : w32 (yset (yset (yset (yset mem 55 2 N) 55 3 0) 55 7 0) 55 8 (-1) 55 2) = (n : Int) := by rw [yset_d (by decide), yset_d (by decide), yset_d (by decide), yset_s]; exact hN
  have e3 : w32 (yset (yset (yset (yset mem 55 2 N) 55 3 0) 55 7 0) 55 8 (-1) 55 3) = 0 := by rw [yset_d (by decide), yset_d (by decide), yset_s]; exact w32c_0
  have e7 : w32 (yset (yset (yset (yset mem 55 2 N) 55 3 0) 55 7 0) 55 8 (-1) 55 7) = 0 := by rw [yset_d (by decide), yset_s]; exact w32c_0
  have e8 : w32 (yset (yset (yset (yset mem 55 2 N) 55 3 0) 55 7 0) 55 8 (-1) 55 8) = -1 := by rw [yset_s]; exact w32c_m1
  have F0 : aFrm [(55, 0)] mem (yset (yset (yset (yset mem 55 2 N) 55 3 0) 55 7 0) 55 8 (-1)) := aFrm_set (aFrm_set (aFrm_set (aFrm_set aFrm_rf rfl) rfl) rfl) rfl
  revert e2 e3 e7 e8 F0
  generalize yset (yset (yset (yset mem 55 2 N) 55 3 0) 55 7 0) 55 8 (-1) = m1
  intro e2 e3 e7 e8 F0
  have B1 : cBy m1 ch := fun j => by rw [F0 1 j rfl]; exact hB j
  have W1 : cWd m1 := fun i hi => by rw [F0 56 i rfl]; exact hW i hi
  refine f_next hE (by (first | exact Nat.le_of_ble_eq_true rfl | exact (fun h => absurd h.1 (by decide)) | omega)) (by (first | exact Nat.le_of_ble_eq_true rfl | exact (fun h => absurd h.1 (by decide)) | omega)) (by (first | exact Nat.le_of_ble_eq_true rfl | exact (fun h => absurd h.1 (by decide)) | omega)) (by (first | exact Nat.le_of_ble_eq_true rfl | exact (fun h => absurd h.1 (by decide)) | omega)) B1 W1 e7 (fun m2 k p v e F2 ht h3 h5 h4 h6 => ?_)
  refine zgk_n hE xmo_132 60 [] ?_
  simp only [ynok_30, ynok_31, w32c_0, w32c_1, w32c_2, w32c_3, w32c_4, w32c_5, w32c_6, w32c_7, w32c_8, w32c_9, w32c_10, w32c_11, w32c_12, w32c_13, w32c_14, w32c_m1, w32c_m2, w32c_118, Int.reduceAdd, Int.reduceSub, Int.reduceMul, yput_s, yput_n, znl_n, znl_0, znl_1, znl_4, ysum_n, ysum_0, ysum_1, ysum_4, true_and, and_true, Nat.reduceAdd, Nat.reduceLeDiff, true_implies, eq_self, true_or, or_true, or_false, false_or, not_true_eq_false, not_false_eq_true, false_implies, implies_true, yset_s, yset_o, yset_d, ne_eq, Nat.reduceEqDiff, Int.reduceToNat, Int.reduceEq, Int.reduceLE, Int.reduceLT, Classical.not_not, Nat.reduceLT, ↓zvk_s, ↓zvk_n, ↓s_132_0, ↓s_132_1, ↓s_132_2, ↓s_132_3, ↓s_132_6, ↓s_132_7, ↓s_132_10, ↓s_132_13, ↓s_132_14, ↓s_132_15, ↓s_132_18, ↓s_132_19, ↓s_132_20, ↓s_132_23, ↓s_132_24, ↓s_132_25, ↓s_132_28, ↓s_132_29, ↓s_132_32, zar_1, zia_1, zln_1, zit_1, zio_55]
  have ec : cen m1 = n := by show (w32 (m1 55 2)).toNat = n; rw [e2]; exact Int.toNat_natCast _
  have ea : cat m1 = 0 := by show (w32 (m1 55 3)).toNat = 0; rw [e3]; rfl
  rw [ec, ea] at ht
  obtain ⟨l, l1, l2, l3⟩ := sTl_hd (Nat.zero_le _) ht
  refine hQ m2 l (aFrm_tt F0 (aFrm_w F2 (by decide))) l1 ⟨by rw [F2 55 2 rfl]; exact e2, hn, fun j => by rw [F2 1 j rfl]; exact B1 j, fun i hi => by rw [F2 56 i rfl]; exact W1 i hi, by rw [F2 55 7 rfl]; exact e7, e, ⟨h3, by rw [F2 55 8 rfl]; exact e8⟩, l3, ?_, ?_, ?_⟩
  · rw [l2]; exact h5
  · rw [l2]; exact h4
  · rw [l2]; exact h6
end CX
end
section
def zc_263 : List Nat := [5]
theorem s_263_0 {E : yE} {n d : Nat} {mem : yMem} {Post : Option yV → yMem → Prop} {st : List yV} {r0 r1 r2 r3 : Option yV} : zvc E (n + 1) zc_263 d xm_263 0 [r0, r1, r2, r3] (st) mem Post = (zvc E n zc_263 d xm_263 1 [r0, r1, r2, r3] ((0, 0) :: st) mem Post) := zrf rfl
theorem s_263_1n {E : yE} {n d : Nat} {mem : yMem} {Post : Option yV → yMem → Prop} {st : List yV} {r0 r2 r3 : Option yV} {x : Int} : zvc E (n + 1) zc_263 d xm_263 1 [r0, none, r2, r3] ((0, x) :: st) mem Post = (zvc E n zc_263 d xm_263 2 [r0, none, some (0, x), r3] (st) mem Post) := zrf rfl
theorem s_263_1i {E : yE} {n d : Nat} {mem : yMem} {Post : Option yV → yMem → Prop} {st : List yV} {r0 r2 r3 : Option yV} {x w : Int} : zvc E (n + 1) zc_263 d xm_263 1 [r0, some (0, w), r2, r3] ((0, x) :: st) mem Post = (zvc E n zc_263 d xm_263 2 [r0, some (0, w), some (0, x), r3] (st) mem Post) := zrf rfl
theorem s_263_1p {E : yE} {n d : Nat} {mem : yMem} {Post : Option yV → yMem → Prop} {st : List yV} {r0 r2 r3 : Option yV} {x w : Int} : zvc E (n + 1) zc_263 d xm_263 1 [r0, some (1, w), r2, r3] ((0, x) :: st) mem Post = (zvc E n zc_263 d xm_263 2 [r0, some (1, w), some (0, x), r3] (st) mem Post) := zrf rfl
theorem s_263_2 {E : yE} {n d : Nat} {mem : yMem} {Post : Option yV → yMem → Prop} {st : List yV} {r1 r2 r3 : Option yV} {x : Int} : zvc E (n + 1) zc_263 d xm_263 2 [some (1, x), r1, r2, r3] (st) mem Post = (zvc E n zc_263 d xm_263 3 [some (1, x), r1, r2, r3] ((1, x) :: st) mem Post) := zrf rfl
theorem s_263_2s {E : yE} {n d : Nat} {mem : yMem} {Post : Option yV → yMem → Prop} {st : List yV} {r1 r2 r3 : Option yV} {x : Int} : zvc E (n + 1) zc_263 d xm_263 2 [some (5, x), r1, r2, r3] (st) mem Post = (zvc E n zc_263 d xm_263 3 [some (5, x), r1, r2, r3] ((5, x) :: st) mem Post) := zrf rfl
theorem s_263_2t {E : yE} {n d : Nat} {mem : yMem} {Post : Option yV → yMem → Prop} {st : List yV} {r1 r2 r3 : Option yV} {x : Int} : zvc E (n + 1) zc_263 d xm_263 2 [some (6, x), r1, r2, r3] (st) mem Post = (zvc E n zc_263 d xm_263 3 [some (6, x), r1, r2, r3] ((6, x) :: st) mem Post) := zrf rfl
theorem s_263_3 {E : yE} {n d : Nat} {mem : yMem} {Post : Option yV → yMem → Prop} {st : List yV} {r0 r1 r2 r3 : Option yV} {z : Int} : zvc E (n + 1) zc_263 d xm_263 3 [r0, r1, r2, r3] ((1, z) :: st) mem Post = (zia z = true ∧ zvc E n zc_263 d xm_263 4 [r0, r1, r2, r3] ((0, ((zln z : Nat) : Int)) :: st) mem Post) := zrf rfl
theorem s_263_3t {E : yE} {n d : Nat} {mem : yMem} {Post : Option yV → yMem → Prop} {st : List yV} {r0 r1 r2 r3 : Option yV} {z : Int} : zvc E (n + 1) zc_263 d xm_263 3 [r0, r1, r2, r3] ((6, z) :: st) mem Post = (z.toNat < 3 ∧ zvc E n zc_263 d xm_263 4 [r0, r1, r2, r3] ((0, ((xlen.getD z.toNat 0 : Nat) : Int)) :: st) mem Post) := zrf rfl
theorem s_263_4n {E : yE} {n d : Nat} {mem : yMem} {Post : Option yV → yMem → Prop} {st : List yV} {r0 r1 r3 : Option yV} {x : Int} : zvc E (n + 1) zc_263 d xm_263 4 [r0, r1, none, r3] ((0, x) :: st) mem Post = (zvc E n zc_263 d xm_263 5 [r0, r1, none, some (0, x)] (st) mem Post) := zrf rfl
theorem s_263_4i {E : yE} {n d : Nat} {mem : yMem} {Post : Option yV → yMem → Prop} {st : List yV} {r0 r1 r3 : Option yV} {x w : Int} : zvc E (n + 1) zc_263 d xm_263 4 [r0, r1, some (0, w), r3] ((0, x) :: st) mem Post = (zvc E n zc_263 d xm_263 5 [r0, r1, some (0, w), some (0, x)] (st) mem Post) := zrf rfl
theorem s_263_4p {E : yE} {n d : Nat} {mem : yMem} {Post : Option yV → yMem → Prop} {st : List yV} {r0 r1 r3 : Option yV} {x w : Int} : zvc E (n + 1) zc_263 d xm_263 4 [r0, r1, some (1, w), r3] ((0, x) :: st) mem Post = (zvc E n zc_263 d xm_263 5 [r0, r1, some (1, w), some (0, x)] (st) mem Post) := zrf rfl
theorem g_263_5 {E : yE} {n d : Nat} {mem : yMem} {Post : Option yV → yMem → Prop} {st : List yV} {r0 r1 r3 : Option yV} {x : Int} : zgo E n zc_263 d xm_263 5 [r0, r1, some (0, x), r3] (st) mem Post = (zvc E n zc_263 d xm_263 6 [r0, r1, some (0, x), r3] ((0, x) :: st) mem Post) := zrf rfl
theorem k_263_5 {E : yE} {n d : Nat} {mem : yMem} {Post : Option yV → yMem → Prop} {st : List yV} {rg : zR} : zvc E (n + 1) zc_263 d xm_263 5 rg st mem Post = zG E d xm_263 5 rg st mem Post := zrf rfl
theorem s_263_6 {E : yE} {n d : Nat} {mem : yMem} {Post : Option yV → yMem → Prop} {st : List yV} {r0 r1 r2 : Option yV} {x : Int} : zvc E (n + 1) zc_263 d xm_263 6 [r0, r1, r2, some (0, x)] (st) mem Post = (zvc E n zc_263 d xm_263 7 [r0, r1, r2, some (0, x)] ((0, x) :: st) mem Post) := zrf rfl
theorem s_263_7 {E : yE} {n d : Nat} {mem : yMem} {Post : Option yV → yMem → Prop} {st : List yV} {r0 r1 r2 r3 : Option yV} {x y : Int} : zvc E (n + 1) zc_263 d xm_263 7 [r0, r1, r2, r3] ((0, y) :: (0, x) :: st) mem Post = ((w32 y ≤ w32 x → zvc E n zc_263 d xm_263 20 [r0, r1, r2, r3] (st) mem Post) ∧ (¬ (w32 y ≤ w32 x) → zvc E n zc_263 d xm_263 10 [r0, r1, r2, r3] (st) mem Post)) := zrf rfl
theorem s_263_10 {E : yE} {n d : Nat} {mem : yMem} {Post : Option yV → yMem → Prop} {st : List yV} {r1 r2 r3 : Option yV} {x : Int} : zvc E (n + 1) zc_263 d xm_263 10 [some (1, x), r1, r2, r3] (st) mem Post = (zvc E n zc_263 d xm_263 11 [some (1, x), r1, r2, r3] ((1, x) :: st) mem Post) := zrf rfl
theorem s_263_10s {E : yE} {n d : Nat} {mem : yMem} {Post : Option yV → yMem → Prop} {st : List yV} {r1 r2 r3 : Option yV} {x : Int} : zvc E (n + 1) zc_263 d xm_263 10 [some (5, x), r1, r2, r3] (st) mem Post = (zvc E n zc_263 d xm_263 11 [some (5, x), r1, r2, r3] ((5, x) :: st) mem Post) := zrf rfl
theorem s_263_10t {E : yE} {n d : Nat} {mem : yMem} {Post : Option yV → yMem → Prop} {st : List yV} {r1 r2 r3 : Option yV} {x : Int} : zvc E (n + 1) zc_263 d xm_263 10 [some (6, x), r1, r2, r3] (st) mem Post = (zvc E n zc_263 d xm_263 11 [some (6, x), r1, r2, r3] ((6, x) :: st) mem Post) := zrf rfl
theorem s_263_11 {E : yE} {n d : Nat} {mem : yMem} {Post : Option yV → yMem → Prop} {st : List yV} {r0 r1 r3 : Option yV} {x : Int} : zvc E (n + 1) zc_263 d xm_263 11 [r0, r1, some (0, x), r3] (st) mem Post = (zvc E n zc_263 d xm_263 12 [r0, r1, some (0, x), r3] ((0, x) :: st) mem Post) := zrf rfl
theorem s_263_12 {E : yE} {n d : Nat} {mem : yMem} {Post : Option yV → yMem → Prop} {st : List yV} {r0 r2 r3 : Option yV} {x : Int} : zvc E (n + 1) zc_263 d xm_263 12 [r0, some (0, x), r2, r3] (st) mem Post = (zvc E n zc_263 d xm_263 13 [r0, some (0, x), r2, r3] ((0, x) :: st) mem Post) := zrf rfl
theorem s_263_13 {E : yE} {n d : Nat} {mem : yMem} {Post : Option yV → yMem → Prop} {st : List yV} {r0 r1 r2 r3 : Option yV} {x z j : Int} : zvc E (n + 1) zc_263 d xm_263 13 [r0, r1, r2, r3] ((0, x) :: (0, j) :: (1, z) :: st) mem Post = ((0 ≤ w32 j ∧ w32 j < ((zar z 0 : Nat) : Int)) ∧ zvc E n zc_263 d xm_263 14 [r0, r1, r2, r3] (st) (yset mem z.toNat (w32 j).toNat x) Post) := zrf rfl
theorem s_263_14n {E : yE} {n d : Nat} {mem : yMem} {Post : Option yV → yMem → Prop} {st : List yV} {r0 r3 : Option yV} {x : Int} : zvc E (n + 1) zc_263 d xm_263 14 [r0, none, some (0, x), r3] (st) mem Post = (zvc E n zc_263 d xm_263 17 [r0, none, some (0, x + 1), r3] (st) mem Post) := zrf rfl
theorem s_263_14i {E : yE} {n d : Nat} {mem : yMem} {Post : Option yV → yMem → Prop} {st : List yV} {r0 r3 : Option yV} {x w : Int} : zvc E (n + 1) zc_263 d xm_263 14 [r0, some (0, w), some (0, x), r3] (st) mem Post = (zvc E n zc_263 d xm_263 17 [r0, some (0, w), some (0, x + 1), r3] (st) mem Post) := zrf rfl
theorem s_263_14p {E : yE} {n d : Nat} {mem : yMem} {Post : Option yV → yMem → Prop} {st : List yV} {r0 r3 : Option yV} {x w : Int} : zvc E (n + 1) zc_263 d xm_263 14 [r0, some (1, w), some (0, x), r3] (st) mem Post = (zvc E n zc_263 d xm_263 17 [r0, some (1, w), some (0, x + 1), r3] (st) mem Post) := zrf rfl
theorem s_263_17 {E : yE} {n d : Nat} {mem : yMem} {Post : Option yV → yMem → Prop} {st : List yV} {r0 r1 r2 r3 : Option yV} : zvc E (n + 1) zc_263 d xm_263 17 [r0, r1, r2, r3] (st) mem Post = (zvc E n zc_263 d xm_263 5 [r0, r1, r2, r3] (st) mem Post) := zrf rfl
theorem s_263_20 {E : yE} {n d : Nat} {mem : yMem} {Post : Option yV → yMem → Prop} {r0 r1 r2 r3 : Option yV} : zvc E (n + 1) zc_263 d xm_263 20 [r0, r1, r2, r3] ([]) mem Post = (Post none mem) := zrf rfl
theorem s_77_0 {E : yE} {n d : Nat} {mem : yMem} {Post : Option yV → yMem → Prop} {st : List yV} {x : Int} : zvc E (n + 1) [] d xm_77 0 [some (1, x)] (st) mem Post = (zvc E n [] d xm_77 1 [some (1, x)] ((1, x) :: st) mem Post) := zrf rfl
theorem s_77_1_2 {E : yE} {n d : Nat} {mem : yMem} {Post : Option yV → yMem → Prop} {st : List yV} {r0 : Option yV} : zvc E (n + 1) [] d xm_77 1 [r0] ((1, 2) :: st) mem Post = (zvc E n [] d xm_77 4 [r0] ((1, 3) :: st) mem Post) := zrf rfl
theorem s_77_1_28 {E : yE} {n d : Nat} {mem : yMem} {Post : Option yV → yMem → Prop} {st : List yV} {r0 : Option yV} : zvc E (n + 1) [] d xm_77 1 [r0] ((1, 28) :: st) mem Post = (zvc E n [] d xm_77 4 [r0] ((1, 29) :: st) mem Post) := zrf rfl
theorem s_77_4 {E : yE} {n d : Nat} {mem : yMem} {Post : Option yV → yMem → Prop} {st : List yV} {r0 : Option yV} : zvc E (n + 1) [] d xm_77 4 [r0] (st) mem Post = (zvc E n [] d xm_77 5 [r0] ((0, 0) :: st) mem Post) := zrf rfl
theorem s_77_5_3 {E : yE} {n d : Nat} {mem : yMem} {Post : Option yV → yMem → Prop} {st : List yV} {r0 : Option yV} {x : Int} : zvc E (n + 1) [] d xm_77 5 [r0] ((0, x) :: (1, 3) :: st) mem Post = (zvc E n [] d xm_77 8 [r0] (st) (yset mem 3 1 x) Post) := zrf rfl
theorem s_77_5_5 {E : yE} {n d : Nat} {mem : yMem} {Post : Option yV → yMem → Prop} {st : List yV} {r0 : Option yV} {x : Int} : zvc E (n + 1) [] d xm_77 5 [r0] ((0, x) :: (1, 5) :: st) mem Post = (zvc E n [] d xm_77 8 [r0] (st) (yset mem 5 1 x) Post) := zrf rfl
theorem s_77_5_7 {E : yE} {n d : Nat} {mem : yMem} {Post : Option yV → yMem → Prop} {st : List yV} {r0 : Option yV} {x : Int} : zvc E (n + 1) [] d xm_77 5 [r0] ((0, x) :: (1, 7) :: st) mem Post = (zvc E n [] d xm_77 8 [r0] (st) (yset mem 7 1 x) Post) := zrf rfl
theorem s_77_5_9 {E : yE} {n d : Nat} {mem : yMem} {Post : Option yV → yMem → Prop} {st : List yV} {r0 : Option yV} {x : Int} : zvc E (n + 1) [] d xm_77 5 [r0] ((0, x) :: (1, 9) :: st) mem Post = (zvc E n [] d xm_77 8 [r0] (st) (yset mem 9 1 x) Post) := zrf rfl
theorem s_77_5_29 {E : yE} {n d : Nat} {mem : yMem} {Post : Option yV → yMem → Prop} {st : List yV} {r0 : Option yV} {x : Int} : zvc E (n + 1) [] d xm_77 5 [r0] ((0, x) :: (1, 29) :: st) mem Post = (zvc E n [] d xm_77 8 [r0] (st) (yset mem 29 1 x) Post) := zrf rfl
theorem s_77_5_31 {E : yE} {n d : Nat} {mem : yMem} {Post : Option yV → yMem → Prop} {st : List yV} {r0 : Option yV} {x : Int} : zvc E (n + 1) [] d xm_77 5 [r0] ((0, x) :: (1, 31) :: st) mem Post = (zvc E n [] d xm_77 8 [r0] (st) (yset mem 31 1 x) Post) := zrf rfl
theorem s_77_5_33 {E : yE} {n d : Nat} {mem : yMem} {Post : Option yV → yMem → Prop} {st : List yV} {r0 : Option yV} {x : Int} : zvc E (n + 1) [] d xm_77 5 [r0] ((0, x) :: (1, 33) :: st) mem Post = (zvc E n [] d xm_77 8 [r0] (st) (yset mem 33 1 x) Post) := zrf rfl
theorem s_77_5_35 {E : yE} {n d : Nat} {mem : yMem} {Post : Option yV → yMem → Prop} {st : List yV} {r0 : Option yV} {x : Int} : zvc E (n + 1) [] d xm_77 5 [r0] ((0, x) :: (1, 35) :: st) mem Post = (zvc E n [] d xm_77 8 [r0] (st) (yset mem 35 1 x) Post) := zrf rfl
theorem s_77_8 {E : yE} {n d : Nat} {mem : yMem} {Post : Option yV → yMem → Prop} {st : List yV} {x : Int} : zvc E (n + 1) [] d xm_77 8 [some (1, x)] (st) mem Post = (zvc E n [] d xm_77 9 [some (1, x)] ((1, x) :: st) mem Post) := zrf rfl
theorem s_77_9_2 {E : yE} {n d : Nat} {mem : yMem} {Post : Option yV → yMem → Prop} {st : List yV} {r0 : Option yV} : zvc E (n + 1) [] d xm_77 9 [r0] ((1, 2) :: st) mem Post = (zvc E n [] d xm_77 12 [r0] ((1, 5) :: st) mem Post) := zrf rfl
theorem s_77_9_28 {E : yE} {n d : Nat} {mem : yMem} {Post : Option yV → yMem → Prop} {st : List yV} {r0 : Option yV} : zvc E (n + 1) [] d xm_77 9 [r0] ((1, 28) :: st) mem Post = (zvc E n [] d xm_77 12 [r0] ((1, 31) :: st) mem Post) := zrf rfl
theorem s_77_12 {E : yE} {n d : Nat} {mem : yMem} {Post : Option yV → yMem → Prop} {st : List yV} {r0 : Option yV} : zvc E (n + 1) [] d xm_77 12 [r0] (st) mem Post = (zvc E n [] d xm_77 13 [r0] ((0, 0) :: st) mem Post) := zrf rfl
theorem s_77_13_3 {E : yE} {n d : Nat} {mem : yMem} {Post : Option yV → yMem → Prop} {st : List yV} {r0 : Option yV} {x : Int} : zvc E (n + 1) [] d xm_77 13 [r0] ((0, x) :: (1, 3) :: st) mem Post = (zvc E n [] d xm_77 16 [r0] (st) (yset mem 3 1 x) Post) := zrf rfl
theorem s_77_13_5 {E : yE} {n d : Nat} {mem : yMem} {Post : Option yV → yMem → Prop} {st : List yV} {r0 : Option yV} {x : Int} : zvc E (n + 1) [] d xm_77 13 [r0] ((0, x) :: (1, 5) :: st) mem Post = (zvc E n [] d xm_77 16 [r0] (st) (yset mem 5 1 x) Post) := zrf rfl
theorem s_77_13_7 {E : yE} {n d : Nat} {mem : yMem} {Post : Option yV → yMem → Prop} {st : List yV} {r0 : Option yV} {x : Int} : zvc E (n + 1) [] d xm_77 13 [r0] ((0, x) :: (1, 7) :: st) mem Post = (zvc E n [] d xm_77 16 [r0] (st) (yset mem 7 1 x) Post) := zrf rfl
theorem s_77_13_9 {E : yE} {n d : Nat} {mem : yMem} {Post : Option yV → yMem → Prop} {st : List yV} {r0 : Option yV} {x : Int} : zvc E (n + 1) [] d xm_77 13 [r0] ((0, x) :: (1, 9) :: st) mem Post = (zvc E n [] d xm_77 16 [r0] (st) (yset mem 9 1 x) Post) := zrf rfl
theorem s_77_13_29 {E : yE} {n d : Nat} {mem : yMem} {Post : Option yV → yMem → Prop} {st : List yV} {r0 : Option yV} {x : Int} : zvc E (n + 1) [] d xm_77 13 [r0] ((0, x) :: (1, 29) :: st) mem Post = (zvc E n [] d xm_77 16 [r0] (st) (yset mem 29 1 x) Post) := zrf rfl
theorem s_77_13_31 {E : yE} {n d : Nat} {mem : yMem} {Post : Option yV → yMem → Prop} {st : List yV} {r0 : Option yV} {x : Int} : zvc E (n + 1) [] d xm_77 13 [r0] ((0, x) :: (1, 31) :: st) mem Post = (zvc E n [] d xm_77 16 [r0] (st) (yset mem 31 1 x) Post) := zrf rfl
theorem s_77_13_33 {E : yE} {n d : Nat} {mem : yMem} {Post : Option yV → yMem → Prop} {st : List yV} {r0 : Option yV} {x : Int} : zvc E (n + 1) [] d xm_77 13 [r0] ((0, x) :: (1, 33) :: st) mem Post = (zvc E n [] d xm_77 16 [r0] (st) (yset mem 33 1 x) Post) := zrf rfl
theorem s_77_13_35 {E : yE} {n d : Nat} {mem : yMem} {Post : Option yV → yMem → Prop} {st : List yV} {r0 : Option yV} {x : Int} : zvc E (n + 1) [] d xm_77 13 [r0] ((0, x) :: (1, 35) :: st) mem Post = (zvc E n [] d xm_77 16 [r0] (st) (yset mem 35 1 x) Post) := zrf rfl
theorem s_77_16 {E : yE} {n d : Nat} {mem : yMem} {Post : Option yV → yMem → Prop} {st : List yV} {x : Int} : zvc E (n + 1) [] d xm_77 16 [some (1, x)] (st) mem Post = (zvc E n [] d xm_77 17 [some (1, x)] ((1, x) :: st) mem Post) := zrf rfl
theorem s_77_17_2 {E : yE} {n d : Nat} {mem : yMem} {Post : Option yV → yMem → Prop} {st : List yV} {r0 : Option yV} : zvc E (n + 1) [] d xm_77 17 [r0] ((1, 2) :: st) mem Post = (zvc E n [] d xm_77 20 [r0] ((1, 7) :: st) mem Post) := zrf rfl
theorem s_77_17_28 {E : yE} {n d : Nat} {mem : yMem} {Post : Option yV → yMem → Prop} {st : List yV} {r0 : Option yV} : zvc E (n + 1) [] d xm_77 17 [r0] ((1, 28) :: st) mem Post = (zvc E n [] d xm_77 20 [r0] ((1, 33) :: st) mem Post) := zrf rfl
theorem s_77_20 {E : yE} {n d : Nat} {mem : yMem} {Post : Option yV → yMem → Prop} {st : List yV} {r0 : Option yV} : zvc E (n + 1) [] d xm_77 20 [r0] (st) mem Post = (zvc E n [] d xm_77 21 [r0] ((0, 0) :: st) mem Post) := zrf rfl
theorem s_77_21_3 {E : yE} {n d : Nat} {mem : yMem} {Post : Option yV → yMem → Prop} {st : List yV} {r0 : Option yV} {x : Int} : zvc E (n + 1) [] d xm_77 21 [r0] ((0, x) :: (1, 3) :: st) mem Post = (zvc E n [] d xm_77 24 [r0] (st) (yset mem 3 1 x) Post) := zrf rfl
theorem s_77_21_5 {E : yE} {n d : Nat} {mem : yMem} {Post : Option yV → yMem → Prop} {st : List yV} {r0 : Option yV} {x : Int} : zvc E (n + 1) [] d xm_77 21 [r0] ((0, x) :: (1, 5) :: st) mem Post = (zvc E n [] d xm_77 24 [r0] (st) (yset mem 5 1 x) Post) := zrf rfl
theorem s_77_21_7 {E : yE} {n d : Nat} {mem : yMem} {Post : Option yV → yMem → Prop} {st : List yV} {r0 : Option yV} {x : Int} : zvc E (n + 1) [] d xm_77 21 [r0] ((0, x) :: (1, 7) :: st) mem Post = (zvc E n [] d xm_77 24 [r0] (st) (yset mem 7 1 x) Post) := zrf rfl
theorem s_77_21_9 {E : yE} {n d : Nat} {mem : yMem} {Post : Option yV → yMem → Prop} {st : List yV} {r0 : Option yV} {x : Int} : zvc E (n + 1) [] d xm_77 21 [r0] ((0, x) :: (1, 9) :: st) mem Post = (zvc E n [] d xm_77 24 [r0] (st) (yset mem 9 1 x) Post) := zrf rfl
theorem s_77_21_29 {E : yE} {n d : Nat} {mem : yMem} {Post : Option yV → yMem → Prop} {st : List yV} {r0 : Option yV} {x : Int} : zvc E (n + 1) [] d xm_77 21 [r0] ((0, x) :: (1, 29) :: st) mem Post = (zvc E n [] d xm_77 24 [r0] (st) (yset mem 29 1 x) Post) := zrf rfl
theorem s_77_21_31 {E : yE} {n d : Nat} {mem : yMem} {Post : Option yV → yMem → Prop} {st : List yV} {r0 : Option yV} {x : Int} : zvc E (n + 1) [] d xm_77 21 [r0] ((0, x) :: (1, 31) :: st) mem Post = (zvc E n [] d xm_77 24 [r0] (st) (yset mem 31 1 x) Post) := zrf rfl
theorem s_77_21_33 {E : yE} {n d : Nat} {mem : yMem} {Post : Option yV → yMem → Prop} {st : List yV} {r0 : Option yV} {x : Int} : zvc E (n + 1) [] d xm_77 21 [r0] ((0, x) :: (1, 33) :: st) mem Post = (zvc E n [] d xm_77 24 [r0] (st) (yset mem 33 1 x) Post) := zrf rfl
theorem s_77_21_35 {E : yE} {n d : Nat} {mem : yMem} {Post : Option yV → yMem → Prop} {st : List yV} {r0 : Option yV} {x : Int} : zvc E (n + 1) [] d xm_77 21 [r0] ((0, x) :: (1, 35) :: st) mem Post = (zvc E n [] d xm_77 24 [r0] (st) (yset mem 35 1 x) Post) := zrf rfl
theorem s_77_24 {E : yE} {n d : Nat} {mem : yMem} {Post : Option yV → yMem → Prop} {st : List yV} {x : Int} : zvc E (n + 1) [] d xm_77 24 [some (1, x)] (st) mem Post = (zvc E n [] d xm_77 25 [some (1, x)] ((1, x) :: st) mem Post) := zrf rfl
theorem s_77_25_2 {E : yE} {n d : Nat} {mem : yMem} {Post : Option yV → yMem → Prop} {st : List yV} {r0 : Option yV} : zvc E (n + 1) [] d xm_77 25 [r0] ((1, 2) :: st) mem Post = (zvc E n [] d xm_77 28 [r0] ((1, 9) :: st) mem Post) := zrf rfl
theorem s_77_25_28 {E : yE} {n d : Nat} {mem : yMem} {Post : Option yV → yMem → Prop} {st : List yV} {r0 : Option yV} : zvc E (n + 1) [] d xm_77 25 [r0] ((1, 28) :: st) mem Post = (zvc E n [] d xm_77 28 [r0] ((1, 35) :: st) mem Post) := zrf rfl
theorem s_77_28 {E : yE} {n d : Nat} {mem : yMem} {Post : Option yV → yMem → Prop} {st : List yV} {r0 : Option yV} : zvc E (n + 1) [] d xm_77 28 [r0] (st) mem Post = (zvc E n [] d xm_77 29 [r0] ((0, 0) :: st) mem Post) := zrf rfl
theorem s_77_29_3 {E : yE} {n d : Nat} {mem : yMem} {Post : Option yV → yMem → Prop} {st : List yV} {r0 : Option yV} {x : Int} : zvc E (n + 1) [] d xm_77 29 [r0] ((0, x) :: (1, 3) :: st) mem Post = (zvc E n [] d xm_77 32 [r0] (st) (yset mem 3 1 x) Post) := zrf rfl
theorem s_77_29_5 {E : yE} {n d : Nat} {mem : yMem} {Post : Option yV → yMem → Prop} {st : List yV} {r0 : Option yV} {x : Int} : zvc E (n + 1) [] d xm_77 29 [r0] ((0, x) :: (1, 5) :: st) mem Post = (zvc E n [] d xm_77 32 [r0] (st) (yset mem 5 1 x) Post) := zrf rfl
theorem s_77_29_7 {E : yE} {n d : Nat} {mem : yMem} {Post : Option yV → yMem → Prop} {st : List yV} {r0 : Option yV} {x : Int} : zvc E (n + 1) [] d xm_77 29 [r0] ((0, x) :: (1, 7) :: st) mem Post = (zvc E n [] d xm_77 32 [r0] (st) (yset mem 7 1 x) Post) := zrf rfl
theorem s_77_29_9 {E : yE} {n d : Nat} {mem : yMem} {Post : Option yV → yMem → Prop} {st : List yV} {r0 : Option yV} {x : Int} : zvc E (n + 1) [] d xm_77 29 [r0] ((0, x) :: (1, 9) :: st) mem Post = (zvc E n [] d xm_77 32 [r0] (st) (yset mem 9 1 x) Post) := zrf rfl
theorem s_77_29_29 {E : yE} {n d : Nat} {mem : yMem} {Post : Option yV → yMem → Prop} {st : List yV} {r0 : Option yV} {x : Int} : zvc E (n + 1) [] d xm_77 29 [r0] ((0, x) :: (1, 29) :: st) mem Post = (zvc E n [] d xm_77 32 [r0] (st) (yset mem 29 1 x) Post) := zrf rfl
theorem s_77_29_31 {E : yE} {n d : Nat} {mem : yMem} {Post : Option yV → yMem → Prop} {st : List yV} {r0 : Option yV} {x : Int} : zvc E (n + 1) [] d xm_77 29 [r0] ((0, x) :: (1, 31) :: st) mem Post = (zvc E n [] d xm_77 32 [r0] (st) (yset mem 31 1 x) Post) := zrf rfl
theorem s_77_29_33 {E : yE} {n d : Nat} {mem : yMem} {Post : Option yV → yMem → Prop} {st : List yV} {r0 : Option yV} {x : Int} : zvc E (n + 1) [] d xm_77 29 [r0] ((0, x) :: (1, 33) :: st) mem Post = (zvc E n [] d xm_77 32 [r0] (st) (yset mem 33 1 x) Post) := zrf rfl
theorem s_77_29_35 {E : yE} {n d : Nat} {mem : yMem} {Post : Option yV → yMem → Prop} {st : List yV} {r0 : Option yV} {x : Int} : zvc E (n + 1) [] d xm_77 29 [r0] ((0, x) :: (1, 35) :: st) mem Post = (zvc E n [] d xm_77 32 [r0] (st) (yset mem 35 1 x) Post) := zrf rfl
theorem s_77_32 {E : yE} {n d : Nat} {mem : yMem} {Post : Option yV → yMem → Prop} {st : List yV} {x : Int} : zvc E (n + 1) [] d xm_77 32 [some (1, x)] (st) mem Post = (zvc E n [] d xm_77 33 [some (1, x)] ((1, x) :: st) mem Post) := zrf rfl
theorem s_77_33_2 {E : yE} {n d : Nat} {mem : yMem} {Post : Option yV → yMem → Prop} {st : List yV} {r0 : Option yV} : zvc E (n + 1) [] d xm_77 33 [r0] ((1, 2) :: st) mem Post = (zvc E n [] d xm_77 36 [r0] ((1, 22) :: st) mem Post) := zrf rfl
theorem s_77_33_28 {E : yE} {n d : Nat} {mem : yMem} {Post : Option yV → yMem → Prop} {st : List yV} {r0 : Option yV} : zvc E (n + 1) [] d xm_77 33 [r0] ((1, 28) :: st) mem Post = (zvc E n [] d xm_77 36 [r0] ((1, 48) :: st) mem Post) := zrf rfl
theorem s_77_36 {E : yE} {n d : Nat} {mem : yMem} {Post : Option yV → yMem → Prop} {st : List yV} {r0 : Option yV} {z : Int} : zvc E (n + 1) [] d xm_77 36 [r0] ((1, z) :: st) mem Post = (zio z 2 = true ∧ ysum st ≤ 8 ∧ yCon E d xm_61 [(1, z)] mem (fun v mem' => zgk E d xm_77 39 [r0] st v mem' Post)) := zrf rfl
theorem s_77_39 {E : yE} {n d : Nat} {mem : yMem} {Post : Option yV → yMem → Prop} {st : List yV} {x : Int} : zvc E (n + 1) [] d xm_77 39 [some (1, x)] (st) mem Post = (zvc E n [] d xm_77 40 [some (1, x)] ((1, x) :: st) mem Post) := zrf rfl
theorem s_77_40 {E : yE} {n d : Nat} {mem : yMem} {Post : Option yV → yMem → Prop} {st : List yV} {r0 : Option yV} : zvc E (n + 1) [] d xm_77 40 [r0] (st) mem Post = (zvc E n [] d xm_77 41 [r0] ((0, 0) :: st) mem Post) := zrf rfl
theorem s_77_41_2 {E : yE} {n d : Nat} {mem : yMem} {Post : Option yV → yMem → Prop} {st : List yV} {r0 : Option yV} {x : Int} : zvc E (n + 1) [] d xm_77 41 [r0] ((0, x) :: (1, 2) :: st) mem Post = (zvc E n [] d xm_77 44 [r0] (st) (yset mem 2 16 x) Post) := zrf rfl
theorem s_77_41_28 {E : yE} {n d : Nat} {mem : yMem} {Post : Option yV → yMem → Prop} {st : List yV} {r0 : Option yV} {x : Int} : zvc E (n + 1) [] d xm_77 41 [r0] ((0, x) :: (1, 28) :: st) mem Post = (zvc E n [] d xm_77 44 [r0] (st) (yset mem 28 16 x) Post) := zrf rfl
theorem s_77_44 {E : yE} {n d : Nat} {mem : yMem} {Post : Option yV → yMem → Prop} {st : List yV} {x : Int} : zvc E (n + 1) [] d xm_77 44 [some (1, x)] (st) mem Post = (zvc E n [] d xm_77 45 [some (1, x)] ((1, x) :: st) mem Post) := zrf rfl
theorem s_77_45 {E : yE} {n d : Nat} {mem : yMem} {Post : Option yV → yMem → Prop} {st : List yV} {r0 : Option yV} : zvc E (n + 1) [] d xm_77 45 [r0] (st) mem Post = (zvc E n [] d xm_77 46 [r0] ((0, 0) :: st) mem Post) := zrf rfl
theorem s_77_46_2 {E : yE} {n d : Nat} {mem : yMem} {Post : Option yV → yMem → Prop} {st : List yV} {r0 : Option yV} {x : Int} : zvc E (n + 1) [] d xm_77 46 [r0] ((0, x) :: (1, 2) :: st) mem Post = (zvc E n [] d xm_77 49 [r0] (st) (yset mem 2 17 x) Post) := zrf rfl
theorem s_77_46_28 {E : yE} {n d : Nat} {mem : yMem} {Post : Option yV → yMem → Prop} {st : List yV} {r0 : Option yV} {x : Int} : zvc E (n + 1) [] d xm_77 46 [r0] ((0, x) :: (1, 28) :: st) mem Post = (zvc E n [] d xm_77 49 [r0] (st) (yset mem 28 17 x) Post) := zrf rfl
theorem s_77_49 {E : yE} {n d : Nat} {mem : yMem} {Post : Option yV → yMem → Prop} {st : List yV} {x : Int} : zvc E (n + 1) [] d xm_77 49 [some (1, x)] (st) mem Post = (zvc E n [] d xm_77 50 [some (1, x)] ((1, x) :: st) mem Post) := zrf rfl
theorem s_77_50 {E : yE} {n d : Nat} {mem : yMem} {Post : Option yV → yMem → Prop} {st : List yV} {r0 : Option yV} : zvc E (n + 1) [] d xm_77 50 [r0] (st) mem Post = (zvc E n [] d xm_77 51 [r0] ((0, 0) :: st) mem Post) := zrf rfl
theorem s_77_51_2 {E : yE} {n d : Nat} {mem : yMem} {Post : Option yV → yMem → Prop} {st : List yV} {r0 : Option yV} {x : Int} : zvc E (n + 1) [] d xm_77 51 [r0] ((0, x) :: (1, 2) :: st) mem Post = (zvc E n [] d xm_77 54 [r0] (st) (yset mem 2 18 x) Post) := zrf rfl
theorem s_77_51_28 {E : yE} {n d : Nat} {mem : yMem} {Post : Option yV → yMem → Prop} {st : List yV} {r0 : Option yV} {x : Int} : zvc E (n + 1) [] d xm_77 51 [r0] ((0, x) :: (1, 28) :: st) mem Post = (zvc E n [] d xm_77 54 [r0] (st) (yset mem 28 18 x) Post) := zrf rfl
theorem s_77_54 {E : yE} {n d : Nat} {mem : yMem} {Post : Option yV → yMem → Prop} {r0 : Option yV} : zvc E (n + 1) [] d xm_77 54 [r0] ([]) mem Post = (Post none mem) := zrf rfl
theorem s_61_0 {E : yE} {n d : Nat} {mem : yMem} {Post : Option yV → yMem → Prop} {st : List yV} {x : Int} : zvc E (n + 1) [] d xm_61 0 [some (1, x)] (st) mem Post = (zvc E n [] d xm_61 1 [some (1, x)] ((1, x) :: st) mem Post) := zrf rfl
theorem s_61_1 {E : yE} {n d : Nat} {mem : yMem} {Post : Option yV → yMem → Prop} {st : List yV} {r0 : Option yV} : zvc E (n + 1) [] d xm_61 1 [r0] (st) mem Post = (zvc E n [] d xm_61 2 [r0] ((0, 0) :: st) mem Post) := zrf rfl
theorem s_61_2_22 {E : yE} {n d : Nat} {mem : yMem} {Post : Option yV → yMem → Prop} {st : List yV} {r0 : Option yV} {x : Int} : zvc E (n + 1) [] d xm_61 2 [r0] ((0, x) :: (1, 22) :: st) mem Post = (zvc E n [] d xm_61 5 [r0] (st) (yset mem 22 4 x) Post) := zrf rfl
theorem s_61_2_48 {E : yE} {n d : Nat} {mem : yMem} {Post : Option yV → yMem → Prop} {st : List yV} {r0 : Option yV} {x : Int} : zvc E (n + 1) [] d xm_61 2 [r0] ((0, x) :: (1, 48) :: st) mem Post = (zvc E n [] d xm_61 5 [r0] (st) (yset mem 48 4 x) Post) := zrf rfl
theorem s_61_5 {E : yE} {n d : Nat} {mem : yMem} {Post : Option yV → yMem → Prop} {st : List yV} {x : Int} : zvc E (n + 1) [] d xm_61 5 [some (1, x)] (st) mem Post = (zvc E n [] d xm_61 6 [some (1, x)] ((1, x) :: st) mem Post) := zrf rfl
theorem s_61_6 {E : yE} {n d : Nat} {mem : yMem} {Post : Option yV → yMem → Prop} {st : List yV} {r0 : Option yV} : zvc E (n + 1) [] d xm_61 6 [r0] (st) mem Post = (zvc E n [] d xm_61 7 [r0] ((0, 0) :: st) mem Post) := zrf rfl
theorem s_61_7_22 {E : yE} {n d : Nat} {mem : yMem} {Post : Option yV → yMem → Prop} {st : List yV} {r0 : Option yV} {x : Int} : zvc E (n + 1) [] d xm_61 7 [r0] ((0, x) :: (1, 22) :: st) mem Post = (zvc E n [] d xm_61 10 [r0] (st) (yset mem 22 8 x) Post) := zrf rfl
theorem s_61_7_48 {E : yE} {n d : Nat} {mem : yMem} {Post : Option yV → yMem → Prop} {st : List yV} {r0 : Option yV} {x : Int} : zvc E (n + 1) [] d xm_61 7 [r0] ((0, x) :: (1, 48) :: st) mem Post = (zvc E n [] d xm_61 10 [r0] (st) (yset mem 48 8 x) Post) := zrf rfl
theorem s_61_10 {E : yE} {n d : Nat} {mem : yMem} {Post : Option yV → yMem → Prop} {st : List yV} {x : Int} : zvc E (n + 1) [] d xm_61 10 [some (1, x)] (st) mem Post = (zvc E n [] d xm_61 11 [some (1, x)] ((1, x) :: st) mem Post) := zrf rfl
theorem s_61_11_22 {E : yE} {n d : Nat} {mem : yMem} {Post : Option yV → yMem → Prop} {st : List yV} {r0 : Option yV} : zvc E (n + 1) [] d xm_61 11 [r0] ((1, 22) :: st) mem Post = (zvc E n [] d xm_61 14 [r0] ((1, 25) :: st) mem Post) := zrf rfl
theorem s_61_11_48 {E : yE} {n d : Nat} {mem : yMem} {Post : Option yV → yMem → Prop} {st : List yV} {r0 : Option yV} : zvc E (n + 1) [] d xm_61 11 [r0] ((1, 48) :: st) mem Post = (zvc E n [] d xm_61 14 [r0] ((1, 51) :: st) mem Post) := zrf rfl
theorem s_61_14 {E : yE} {n d : Nat} {mem : yMem} {Post : Option yV → yMem → Prop} {st : List yV} {r0 : Option yV} : zvc E (n + 1) [] d xm_61 14 [r0] (st) mem Post = (zvc E n [] d xm_61 15 [r0] ((0, 0) :: st) mem Post) := zrf rfl
theorem s_61_15 {E : yE} {n d : Nat} {mem : yMem} {Post : Option yV → yMem → Prop} {st : List yV} {r0 : Option yV} {a0 a1 : Int} : zvc E (n + 1) [] d xm_61 15 [r0] ((0, a1) :: (1, a0) :: st) mem Post = (True ∧ ysum st ≤ 8 ∧ yCon E d xm_263 [(1, a0), (0, a1)] mem (fun v mem' => zgk E d xm_61 18 [r0] st v mem' Post)) := zrf rfl
theorem s_61_18 {E : yE} {n d : Nat} {mem : yMem} {Post : Option yV → yMem → Prop} {st : List yV} {x : Int} : zvc E (n + 1) [] d xm_61 18 [some (1, x)] (st) mem Post = (zvc E n [] d xm_61 19 [some (1, x)] ((1, x) :: st) mem Post) := zrf rfl
theorem s_61_19_22 {E : yE} {n d : Nat} {mem : yMem} {Post : Option yV → yMem → Prop} {st : List yV} {r0 : Option yV} : zvc E (n + 1) [] d xm_61 19 [r0] ((1, 22) :: st) mem Post = (zvc E n [] d xm_61 22 [r0] ((1, 26) :: st) mem Post) := zrf rfl
theorem s_61_19_48 {E : yE} {n d : Nat} {mem : yMem} {Post : Option yV → yMem → Prop} {st : List yV} {r0 : Option yV} : zvc E (n + 1) [] d xm_61 19 [r0] ((1, 48) :: st) mem Post = (zvc E n [] d xm_61 22 [r0] ((1, 52) :: st) mem Post) := zrf rfl
theorem s_61_22 {E : yE} {n d : Nat} {mem : yMem} {Post : Option yV → yMem → Prop} {st : List yV} {r0 : Option yV} : zvc E (n + 1) [] d xm_61 22 [r0] (st) mem Post = (zvc E n [] d xm_61 23 [r0] ((0, 0) :: st) mem Post) := zrf rfl
theorem s_61_23 {E : yE} {n d : Nat} {mem : yMem} {Post : Option yV → yMem → Prop} {st : List yV} {r0 : Option yV} {a0 a1 : Int} : zvc E (n + 1) [] d xm_61 23 [r0] ((0, a1) :: (1, a0) :: st) mem Post = (True ∧ ysum st ≤ 8 ∧ yCon E d xm_263 [(1, a0), (0, a1)] mem (fun v mem' => zgk E d xm_61 26 [r0] st v mem' Post)) := zrf rfl
theorem s_61_26 {E : yE} {n d : Nat} {mem : yMem} {Post : Option yV → yMem → Prop} {r0 : Option yV} : zvc E (n + 1) [] d xm_61 26 [r0] ([]) mem Post = (Post none mem) := zrf rfl
theorem e_263 {E : yE} {d : Nat} {mem : yMem} {Q : Option yV → yMem → Prop} {a0 a1 : Int} (h : zG E d xm_263 0 [some (1, a0), some (0, a1), none, none] [] mem Q) : yCon E (d + 1) xm_263 [(1, a0), (0, a1)] mem Q := zcon_of xmo_263 (Nat.le_of_ble_eq_true rfl) h
theorem e_77 {E : yE} {d : Nat} {mem : yMem} {Q : Option yV → yMem → Prop} {z : Int} (h : zG E d xm_77 0 [some (1, z)] [] mem Q) : yCon E (d + 1) xm_77 [(1, z)] mem Q := zcon_of xmo_77 (Nat.le_of_ble_eq_true rfl) h
theorem e_61 {E : yE} {d : Nat} {mem : yMem} {Q : Option yV → yMem → Prop} {z : Int} (h : zG E d xm_61 0 [some (1, z)] [] mem Q) : yCon E (d + 1) xm_61 [(1, z)] mem Q := zcon_of xmo_61 (Nat.le_of_ble_eq_true rfl) h

section CY
variable {E : yE} {mem b m : yMem} {Q : Option yV → yMem → Prop} {d : Nat} {V : Int}
theorem gf5 (hE : yEok E) {z : Int} {L : Nat} (hL : zar z 0 = L) (hL2 : L < 1000) : ∀ (c : Nat) (I : Int) (m : yMem), 0 ≤ w32 I → w32 I + (c : Int) = (L : Int) → (∀ i j, i ≠ z.toNat → m i j = b i j) → (∀ j, j < (w32 I).toNat → m z.toNat j = V) → (∀ m', (∀ i j, i ≠ z.toNat → m' i j = b i j) → (∀ j, j < L → m' z.toNat j = V) → Q none m') → zG E d xm_263 5 [some (1, z), some (0, V), some (0, I), some (0, (L : Int))] [] m Q := by
  intro c
  induction c with
  | zero =>
    intro I m h0 hI hF hV fin
    refine zgo_ok (n := 60) hE xmo_263 (cs := zc_263) ?_
    simp only [ynok_30, ynok_31, w32c_0, w32c_1, w32c_2, w32c_3, w32c_4, w32c_5, w32c_6, w32c_7, w32c_8, w32c_9, w32c_10, w32c_11, w32c_12, w32c_13, w32c_14, w32c_m1, w32c_m2, w32c_118, Int.reduceAdd, Int.reduceSub, Int.reduceMul, yput_s, yput_n, znl_n, znl_0, znl_1, znl_4, ysum_n, ysum_0, ysum_1, ysum_4, true_and, and_true, Nat.reduceAdd, Nat.reduceLeDiff, true_implies, eq_self, true_or, or_true, or_false, false_or, not_true_eq_false, not_false_eq_true, false_implies, implies_true, yset_s, yset_o, yset_d, ne_eq, Nat.reduceEqDiff, Int.reduceToNat, Int.reduceEq, Int.reduceLE, Int.reduceLT, Classical.not_not, Nat.reduceLT, ↓zvk_s, ↓zvk_n, ↓s_263_0, ↓s_263_1n, ↓s_263_1i, ↓s_263_1p, ↓s_263_2, ↓s_263_2s, ↓s_263_2t, ↓s_263_3, ↓s_263_3t, ↓s_263_4n, ↓s_263_4i, ↓s_263_4p, ↓g_263_5, ↓k_263_5, ↓s_263_6, ↓s_263_7, ↓s_263_10, ↓s_263_10s, ↓s_263_10t, ↓s_263_11, ↓s_263_12, ↓s_263_13, ↓s_263_14n, ↓s_263_14i, ↓s_263_14p, ↓s_263_17, ↓s_263_20]
    have eL : w32 ((L : Nat) : Int) = (L : Int) := w32_of (by (first | exact Nat.le_of_ble_eq_true rfl | exact (fun h => absurd h.1 (by decide)) | omega)) (by (first | exact Nat.le_of_ble_eq_true rfl | exact (fun h => absurd h.1 (by decide)) | omega))
    exact ⟨fun _ => fin m hF (fun j hj => hV j (by (first | exact Nat.le_of_ble_eq_true rfl | exact (fun h => absurd h.1 (by decide)) | omega))), fun h => absurd (show w32 ((L : Nat) : Int) ≤ w32 I by (first | exact Nat.le_of_ble_eq_true rfl | exact (fun h => absurd h.1 (by decide)) | omega)) h⟩
  | succ c ih =>
    intro I m h0 hI hF hV fin
    refine zgo_ok (n := 60) hE xmo_263 (cs := zc_263) ?_
    simp only [ynok_30, ynok_31, w32c_0, w32c_1, w32c_2, w32c_3, w32c_4, w32c_5, w32c_6, w32c_7, w32c_8, w32c_9, w32c_10, w32c_11, w32c_12, w32c_13, w32c_14, w32c_m1, w32c_m2, w32c_118, Int.reduceAdd, Int.reduceSub, Int.reduceMul, yput_s, yput_n, znl_n, znl_0, znl_1, znl_4, ysum_n, ysum_0, ysum_1, ysum_4, true_and, and_true, Nat.reduceAdd, Nat.reduceLeDiff, true_implies, eq_self, true_or, or_true, or_false, false_or, not_true_eq_false, not_false_eq_true, false_implies, implies_true, yset_s, yset_o, yset_d, ne_eq, Nat.reduceEqDiff, Int.reduceToNat, Int.reduceEq, Int.reduceLE, Int.reduceLT, Classical.not_not, Nat.reduceLT, ↓zvk_s, ↓zvk_n, ↓s_263_0, ↓s_263_1n, ↓s_263_1i, ↓s_263_1p, ↓s_263_2, ↓s_263_2s, ↓s_263_2t, ↓s_263_3, ↓s_263_3t, ↓s_263_4n, ↓s_263_4i, ↓s_263_4p, ↓g_263_5, ↓k_263_5, ↓s_263_6, ↓s_263_7, ↓s_263_10, ↓s_263_10s, ↓s_263_10t, ↓s_263_11, ↓s_263_12, ↓s_263_13, ↓s_263_14n, ↓s_263_14i, ↓s_263_14p, ↓s_263_17, ↓s_263_20]
    have eL : w32 ((L : Nat) : Int) = (L : Int) := w32_of (by (first | exact Nat.le_of_ble_eq_true rfl | exact (fun h => absurd h.1 (by decide)) | omega)) (by (first | exact Nat.le_of_ble_eq_true rfl | exact (fun h => absurd h.1 (by decide)) | omega))
    have e1 : w32 (I + 1) = w32 I + 1 := by rw [w32_ad (by rw [w32c_1]; (first | exact Nat.le_of_ble_eq_true rfl | exact (fun h => absurd h.1 (by decide)) | omega)) (by rw [w32c_1]; (first | exact Nat.le_of_ble_eq_true rfl | exact (fun h => absurd h.1 (by decide)) | omega)), w32c_1]
    rw [hL]
    refine ⟨fun h => absurd h (by (first | exact Nat.le_of_ble_eq_true rfl | exact (fun h => absurd h.1 (by decide)) | omega)), fun _ => ⟨⟨by (first | exact Nat.le_of_ble_eq_true rfl | exact (fun h => absurd h.1 (by decide)) | omega), by (first | exact Nat.le_of_ble_eq_true rfl | exact (fun h => absurd h.1 (by decide)) | omega)⟩, ih (I + 1) _ (by (first | exact Nat.le_of_ble_eq_true rfl | exact (fun h => absurd h.1 (by decide)) | omega)) (by (first | exact Nat.le_of_ble_eq_true rfl | exact (fun h => absurd h.1 (by decide)) | omega)) (fun i j hi => ?_) (fun j hj => ?_) fin⟩⟩
    · rw [yset_o hi]
      exact hF i j hi
    · rw [yset_a, if_pos rfl]
      split
      · rfl
      · exact hV j (by (first | exact Nat.le_of_ble_eq_true rfl | exact (fun h => absurd h.1 (by decide)) | omega))
theorem g_fill (hE : yEok E) {D : Nat} (hD : 1 ≤ D) {z : Int} {L : Nat} (hz : zia z = true) (hl : zln z = L) (hL : zar z 0 = L) (hL2 : L < 1000) (hQ : ∀ m', (∀ i j, i ≠ z.toNat → m' i j = mem i j) → (∀ j, j < L → m' z.toNat j = V) → Q none m') : yCon E D xm_263 [(1, z), (0, V)] mem Q := by
  obtain ⟨d, rfl⟩ := Nat.exists_eq_add_of_le' hD
  refine e_263 ?_
  refine zvc_ok hE 60 zc_263 _ _ _ _ _ _ _ xmo_263 ?_
  simp only [ynok_30, ynok_31, w32c_0, w32c_1, w32c_2, w32c_3, w32c_4, w32c_5, w32c_6, w32c_7, w32c_8, w32c_9, w32c_10, w32c_11, w32c_12, w32c_13, w32c_14, w32c_m1, w32c_m2, w32c_118, Int.reduceAdd, Int.reduceSub, Int.reduceMul, yput_s, yput_n, znl_n, znl_0, znl_1, znl_4, ysum_n, ysum_0, ysum_1, ysum_4, true_and, and_true, Nat.reduceAdd, Nat.reduceLeDiff, true_implies, eq_self, true_or, or_true, or_false, false_or, not_true_eq_false, not_false_eq_true, false_implies, implies_true, yset_s, yset_o, yset_d, ne_eq, Nat.reduceEqDiff, Int.reduceToNat, Int.reduceEq, Int.reduceLE, Int.reduceLT, Classical.not_not, Nat.reduceLT, ↓zvk_s, ↓zvk_n, ↓s_263_0, ↓s_263_1n, ↓s_263_1i, ↓s_263_1p, ↓s_263_2, ↓s_263_2s, ↓s_263_2t, ↓s_263_3, ↓s_263_3t, ↓s_263_4n, ↓s_263_4i, ↓s_263_4p, ↓g_263_5, ↓k_263_5, ↓s_263_6, ↓s_263_7, ↓s_263_10, ↓s_263_10s, ↓s_263_10t, ↓s_263_11, ↓s_263_12, ↓s_263_13, ↓s_263_14n, ↓s_263_14i, ↓s_263_14p, ↓s_263_17, ↓s_263_20]
  rw [hl]
  refine ⟨hz, ?_⟩
  exact gf5 hE hL hL2 L 0 mem (by decide) (by rw [w32c_0]; (first | exact Nat.le_of_ble_eq_true rfl | exact (fun h => absurd h.1 (by decide)) | omega)) (fun _ _ _ => rfl) (fun j hj => absurd hj (by rw [w32c_0]; exact Nat.not_lt_zero _)) hQ
/-- an empty document -/
def dD0 : dDc := ([], [], [], [], (false, 0), (false, 0), (fun _ => (0, 0), 0, []))
theorem g_fclr (hE : yEok E) {D : Nat} (hD : 4 ≤ D) (hQ : ∀ m', (∀ i j, i ≠ 48 → i ≠ 51 → i ≠ 52 → m' i j = mem i j) → w32 (m' 48 4) = 0 → w32 (m' 48 8) = 0 → (∀ j, j < 5 → w32 (m' 51 j) = 0 ∧ w32 (m' 52 j) = 0) → Q none m') : yCon E D xm_61 [(1, 48)] mem Q := by
  obtain ⟨d, rfl⟩ := Nat.exists_eq_add_of_le' hD
  refine e_61 ?_
  refine zvc_ok hE 60 [] _ _ _ _ _ _ _ xmo_61 ?_
  simp only [ynok_30, ynok_31, w32c_0, w32c_1, w32c_2, w32c_3, w32c_4, w32c_5, w32c_6, w32c_7, w32c_8, w32c_9, w32c_10, w32c_11, w32c_12, w32c_13, w32c_14, w32c_m1, w32c_m2, w32c_118, Int.reduceAdd, Int.reduceSub, Int.reduceMul, yput_s, yput_n, znl_n, znl_0, znl_1, znl_4, ysum_n, ysum_0, ysum_1, ysum_4, true_and, and_true, Nat.reduceAdd, Nat.reduceLeDiff, true_implies, eq_self, true_or, or_true, or_false, false_or, not_true_eq_false, not_false_eq_true, false_implies, implies_true, yset_s, yset_o, yset_d, ne_eq, Nat.reduceEqDiff, Int.reduceToNat, Int.reduceEq, Int.reduceLE, Int.reduceLT, Classical.not_not, Nat.reduceLT, ↓zvk_s, ↓zvk_n, ↓s_61_0, ↓s_61_1, ↓s_61_2_22, ↓s_61_2_48, ↓s_61_5, ↓s_61_6, ↓s_61_7_22, ↓s_61_7_48, ↓s_61_10, ↓s_61_11_22, ↓s_61_11_48, ↓s_61_14, ↓s_61_15, ↓s_61_18, ↓s_61_19_22, ↓s_61_19_48, ↓s_61_22, ↓s_61_23, ↓s_61_26, zio_48, zar_51, zia_51, zln_51, zit_51, zar_52, zia_52, zln_52, zit_52, zio_22, zar_25, zia_25, zln_25, zit_25, zar_26, zia_26, zln_26, zit_26]
  refine g_fill hE (by (first | exact Nat.le_of_ble_eq_true rfl | exact (fun h => absurd h.1 (by decide)) | omega)) (z := 51) (L := 5) (by decide) (by decide) (by decide) (by decide) (fun m1 F1 V1 => ?_)
  refine zgk_n hE xmo_61 60 [] ?_
  simp only [ynok_30, ynok_31, w32c_0, w32c_1, w32c_2, w32c_3, w32c_4, w32c_5, w32c_6, w32c_7, w32c_8, w32c_9, w32c_10, w32c_11, w32c_12, w32c_13, w32c_14, w32c_m1, w32c_m2, w32c_118, Int.reduceAdd, Int.reduceSub, Int.reduceMul, yput_s, yput_n, znl_n, znl_0, znl_1, znl_4, ysum_n, ysum_0, ysum_1, ysum_4, true_and, and_true, Nat.reduceAdd, Nat.reduceLeDiff, true_implies, eq_self, true_or, or_true, or_false, false_or, not_true_eq_false, not_false_eq_true, false_implies, implies_true, yset_s, yset_o, yset_d, ne_eq, Nat.reduceEqDiff, Int.reduceToNat, Int.reduceEq, Int.reduceLE, Int.reduceLT, Classical.not_not, Nat.reduceLT, ↓zvk_s, ↓zvk_n, ↓s_61_0, ↓s_61_1, ↓s_61_2_22, ↓s_61_2_48, ↓s_61_5, ↓s_61_6, ↓s_61_7_22, ↓s_61_7_48, ↓s_61_10, ↓s_61_11_22, ↓s_61_11_48, ↓s_61_14, ↓s_61_15, ↓s_61_18, ↓s_61_19_22, ↓s_61_19_48, ↓s_61_22, ↓s_61_23, ↓s_61_26, zio_48, zar_51, zia_51, zln_51, zit_51, zar_52, zia_52, zln_52, zit_52, zio_22, zar_25, zia_25, zln_25, zit_25, zar_26, zia_26, zln_26, zit_26]
  refine g_fill hE (by (first | exact Nat.le_of_ble_eq_true rfl | exact (fun h => absurd h.1 (by decide)) | omega)) (z := 52) (L := 5) (by decide) (by decide) (by decide) (by decide) (fun m2 F2 V2 => ?_)
  refine zgk_n hE xmo_61 60 [] ?_
  simp only [ynok_30, ynok_31, w32c_0, w32c_1, w32c_2, w32c_3, w32c_4, w32c_5, w32c_6, w32c_7, w32c_8, w32c_9, w32c_10, w32c_11, w32c_12, w32c_13, w32c_14, w32c_m1, w32c_m2, w32c_118, Int.reduceAdd, Int.reduceSub, Int.reduceMul, yput_s, yput_n, znl_n, znl_0, znl_1, znl_4, ysum_n, ysum_0, ysum_1, ysum_4, true_and, and_true, Nat.reduceAdd, Nat.reduceLeDiff, true_implies, eq_self, true_or, or_true, or_false, false_or, not_true_eq_false, not_false_eq_true, false_implies, implies_true, yset_s, yset_o, yset_d, ne_eq, Nat.reduceEqDiff, Int.reduceToNat, Int.reduceEq, Int.reduceLE, Int.reduceLT, Classical.not_not, Nat.reduceLT, ↓zvk_s, ↓zvk_n, ↓s_61_0, ↓s_61_1, ↓s_61_2_22, ↓s_61_2_48, ↓s_61_5, ↓s_61_6, ↓s_61_7_22, ↓s_61_7_48, ↓s_61_10, ↓s_61_11_22, ↓s_61_11_48, ↓s_61_14, ↓s_61_15, ↓s_61_18, ↓s_61_19_22, ↓s_61_19_48, ↓s_61_22, ↓s_61_23, ↓s_61_26, zio_48, zar_51, zia_51, zln_51, zit_51, zar_52, zia_52, zln_52, zit_52, zio_22, zar_25, zia_25, zln_25, zit_25, zar_26, zia_26, zln_26, zit_26]
  have k : ∀ i j, i ≠ 51 → i ≠ 52 → m2 i j = yset (yset mem 48 4 0) 48 8 0 i j := fun i j h1 h2 => by rw [F2 i j h2, F1 i j h1]
  refine hQ m2 (fun i j h1 h2 h3 => by rw [k i j h2 h3, yset_o h1, yset_o h1]) ?_ ?_ (fun j hj => ⟨?_, ?_⟩)
  · rw [k 48 4 (by decide) (by decide), yset_d (by decide), yset_s]; exact w32c_0
  · rw [k 48 8 (by decide) (by decide), yset_s]; exact w32c_0
  · rw [F2 51 j (by decide)]
    have := V1 j hj
    rw [show m1 51 j = 0 from this]; exact w32c_0
  · have := V2 j hj
    rw [show m2 52 j = 0 from this]; exact w32c_0
theorem g_hclr (hE : yEok E) {D : Nat} (hD : 6 ≤ D) (hQ : ∀ m', (∀ i j, (i < 28 ∨ 53 < i) → m' i j = mem i j) → w32 (m' 29 1) = 0 → w32 (m' 31 1) = 0 → w32 (m' 33 1) = 0 → w32 (m' 35 1) = 0 → w32 (m' 28 16) = 0 → w32 (m' 28 17) = 0 → w32 (m' 28 18) = 0 → w32 (m' 48 4) = 0 → w32 (m' 48 8) = 0 → (∀ j, j < 5 → w32 (m' 51 j) = 0 ∧ w32 (m' 52 j) = 0) → Q none m') : yCon E D xm_77 [(1, 28)] mem Q := by
  obtain ⟨d, rfl⟩ := Nat.exists_eq_add_of_le' hD
  refine e_77 ?_
  refine zvc_ok hE 60 [] _ _ _ _ _ _ _ xmo_77 ?_
  simp only [ynok_30, ynok_31, w32c_0, w32c_1, w32c_2, w32c_3, w32c_4, w32c_5, w32c_6, w32c_7, w32c_8, w32c_9, w32c_10, w32c_11, w32c_12, w32c_13, w32c_14, w32c_m1, w32c_m2, w32c_118, Int.reduceAdd, Int.reduceSub, Int.reduceMul, yput_s, yput_n, znl_n, znl_0, znl_1, znl_4, ysum_n, ysum_0, ysum_1, ysum_4, true_and, and_true, Nat.reduceAdd, Nat.reduceLeDiff, true_implies, eq_self, true_or, or_true, or_false, false_or, not_true_eq_false, not_false_eq_true, false_implies, implies_true, yset_s, yset_o, yset_d, ne_eq, Nat.reduceEqDiff, Int.reduceToNat, Int.reduceEq, Int.reduceLE, Int.reduceLT, Classical.not_not, Nat.reduceLT, ↓zvk_s, ↓zvk_n, ↓s_77_0, ↓s_77_1_2, ↓s_77_1_28, ↓s_77_4, ↓s_77_5_3, ↓s_77_5_5, ↓s_77_5_7, ↓s_77_5_9, ↓s_77_5_29, ↓s_77_5_31, ↓s_77_5_33, ↓s_77_5_35, ↓s_77_8, ↓s_77_9_2, ↓s_77_9_28, ↓s_77_12, ↓s_77_13_3, ↓s_77_13_5, ↓s_77_13_7, ↓s_77_13_9, ↓s_77_13_29, ↓s_77_13_31, ↓s_77_13_33, ↓s_77_13_35, ↓s_77_16, ↓s_77_17_2, ↓s_77_17_28, ↓s_77_20, ↓s_77_21_3, ↓s_77_21_5, ↓s_77_21_7, ↓s_77_21_9, ↓s_77_21_29, ↓s_77_21_31, ↓s_77_21_33, ↓s_77_21_35, ↓s_77_24, ↓s_77_25_2, ↓s_77_25_28, ↓s_77_28, ↓s_77_29_3, ↓s_77_29_5, ↓s_77_29_7, ↓s_77_29_9, ↓s_77_29_29, ↓s_77_29_31, ↓s_77_29_33, ↓s_77_29_35, ↓s_77_32, ↓s_77_33_2, ↓s_77_33_28, ↓s_77_36, ↓s_77_39, ↓s_77_40, ↓s_77_41_2, ↓s_77_41_28, ↓s_77_44, ↓s_77_45, ↓s_77_46_2, ↓s_77_46_28, ↓s_77_49, ↓s_77_50, ↓s_77_51_2, ↓s_77_51_28, ↓s_77_54, zio_33, zio_2, zio_3, zio_35, zio_5, zio_7, zio_9, zio_48, zio_22, zio_28, zio_29, zio_31]
  refine g_fclr hE (by (first | exact Nat.le_of_ble_eq_true rfl | exact (fun h => absurd h.1 (by decide)) | omega)) (fun m1 F1 h4 h8 h5 => ?_)
  refine zgk_n hE xmo_77 60 [] ?_
  simp only [ynok_30, ynok_31, w32c_0, w32c_1, w32c_2, w32c_3, w32c_4, w32c_5, w32c_6, w32c_7, w32c_8, w32c_9, w32c_10, w32c_11, w32c_12, w32c_13, w32c_14, w32c_m1, w32c_m2, w32c_118, Int.reduceAdd, Int.reduceSub, Int.reduceMul, yput_s, yput_n, znl_n, znl_0, znl_1, znl_4, ysum_n, ysum_0, ysum_1, ysum_4, true_and, and_true, Nat.reduceAdd, Nat.reduceLeDiff, true_implies, eq_self, true_or, or_true, or_false, false_or, not_true_eq_false, not_false_eq_true, false_implies, implies_true, yset_s, yset_o, yset_d, ne_eq, Nat.reduceEqDiff, Int.reduceToNat, Int.reduceEq, Int.reduceLE, Int.reduceLT, Classical.not_not, Nat.reduceLT, ↓zvk_s, ↓zvk_n, ↓s_77_0, ↓s_77_1_2, ↓s_77_1_28, ↓s_77_4, ↓s_77_5_3, ↓s_77_5_5, ↓s_77_5_7, ↓s_77_5_9, ↓s_77_5_29, ↓s_77_5_31, ↓s_77_5_33, ↓s_77_5_35, ↓s_77_8, ↓s_77_9_2, ↓s_77_9_28, ↓s_77_12, ↓s_77_13_3, ↓s_77_13_5, ↓s_77_13_7, ↓s_77_13_9, ↓s_77_13_29, ↓s_77_13_31, ↓s_77_13_33, ↓s_77_13_35, ↓s_77_16, ↓s_77_17_2, ↓s_77_17_28, ↓s_77_20, ↓s_77_21_3, ↓s_77_21_5, ↓s_77_21_7, ↓s_77_21_9, ↓s_77_21_29, ↓s_77_21_31, ↓s_77_21_33, ↓s_77_21_35, ↓s_77_24, ↓s_77_25_2, ↓s_77_25_28, ↓s_77_28, ↓s_77_29_3, ↓s_77_29_5, ↓s_77_29_7, ↓s_77_29_9, ↓s_77_29_29, ↓s_77_29_31, ↓s_77_29_33, ↓s_77_29_35, ↓s_77_32, ↓s_77_33_2, ↓s_77_33_28, ↓s_77_36, ↓s_77_39, ↓s_77_40, ↓s_77_41_2, ↓s_77_41_28, ↓s_77_44, ↓s_77_45, ↓s_77_46_2, ↓s_77_46_28, ↓s_77_49, ↓s_77_50, ↓s_77_51_2, ↓s_77_51_28, ↓s_77_54, zio_33, zio_2, zio_3, zio_35, zio_5, zio_7, zio_9, zio_48, zio_22, zio_28, zio_29, zio_31]
  have k : ∀ i j, i ≠ 28 → yset (yset (yset m1 28 16 0) 28 17 0) 28 18 0 i j = m1 i j := fun i j h => by rw [yset_o h, yset_o h, yset_o h]
  refine hQ _ (fun i j hij => ?_) ?_ ?_ ?_ ?_ ?_ ?_ ?_ ?_ ?_ (fun j hj => ?_)
  · rw [k i j (by (first | exact Nat.le_of_ble_eq_true rfl | exact (fun h => absurd h.1 (by decide)) | omega)), F1 i j (by (first | exact Nat.le_of_ble_eq_true rfl | exact (fun h => absurd h.1 (by decide)) | omega)) (by (first | exact Nat.le_of_ble_eq_true rfl | exact (fun h => absurd h.1 (by decide)) | omega)) (by (first | exact Nat.le_of_ble_eq_true rfl | exact (fun h => absurd h.1 (by decide)) | omega)), yset_o (by (first | exact Nat.le_of_ble_eq_true rfl | exact (fun h => absurd h.1 (by decide)) | omega)), yset_o (by (first | exact Nat.le_of_ble_eq_true rfl | exact (fun h => absurd h.1 (by decide)) | omega)), yset_o (by (first | exact Nat.le_of_ble_eq_true rfl | exact (fun h => absurd h.1 (by decide)) | omega)), yset_o (by (first | exact Nat.le_of_ble_eq_true rfl | exact (fun h => absurd h.1 (by decide)) | omega))]
  · rw [k 29 1 (by decide), F1 29 1 (by decide) (by decide) (by decide), yset_o (by decide), yset_o (by decide), yset_o (by decide), yset_s]; exact w32c_0
  · rw [k 31 1 (by decide), F1 31 1 (by decide) (by decide) (by decide), yset_o (by decide), yset_o (by decide), yset_s]; exact w32c_0
  · rw [k 33 1 (by decide), F1 33 1 (by decide) (by decide) (by decide), yset_o (by decide), yset_s]; exact w32c_0
  · rw [k 35 1 (by decide), F1 35 1 (by decide) (by decide) (by decide), yset_s]; exact w32c_0
  · rw [yset_d (by decide), yset_d (by decide), yset_s]; exact w32c_0
  · rw [yset_d (by decide), yset_s]; exact w32c_0
  · rw [yset_s]; exact w32c_0
  · rw [k 48 4 (by decide)]; exact h4
  · rw [k 48 8 (by decide)]; exact h8
  · rw [k 51 j (by decide), k 52 j (by decide)]; exact h5 j hj
end CY
end
section
section CZ
variable {E : yE} {mem b m : yMem} {Q : Option yV → yMem → Prop} {ch : Nat → Int} {n : Nat} {N : Int}
theorem dD0_of {m : yMem} (h29 : w32 (m 29 1) = 0) (h31 : w32 (m 31 1) = 0) (h33 : w32 (m 33 1) = 0) (h35 : w32 (m 35 1) = 0) (h16 : w32 (m 28 16) = 0) (h17 : w32 (m 28 17) = 0) (h18 : w32 (m 28 18) = 0) (h4 : w32 (m 48 4) = 0) (h8 : w32 (m 48 8) = 0) (h5 : ∀ j, j < 5 → w32 (m 51 j) = 0 ∧ w32 (m 52 j) = 0) (p2 : w32 (m 54 2) = 0) (p3 : w32 (m 54 3) = 0) : cDc m dD0 :=
  ⟨⟨⟨h29, Nat.zero_le _, fun j hj => absurd hj (Nat.not_lt_zero _)⟩, fun j t ht => (by cases ht)⟩, ⟨⟨h31, Nat.zero_le _, fun j hj => absurd hj (Nat.not_lt_zero _)⟩, h16, fun t ht => (by cases ht), fun j t ht => (by cases ht)⟩, ⟨⟨h33, Nat.zero_le _, fun j hj => absurd hj (Nat.not_lt_zero _)⟩, fun j t ht => (by cases ht)⟩, ⟨⟨h35, Nat.zero_le _, fun j hj => absurd hj (Nat.not_lt_zero _)⟩, fun j t ht => (by cases ht)⟩, ⟨p2, h17⟩, ⟨p3, h18⟩, fun j hj => h5 j hj, ⟨h4, trivial⟩, h8, Nat.le_refl 0, Nat.zero_le _⟩
/-- THE CLASS'S tell: all of a TEXT -/
theorem g_tell (hE : yEok E) {D : Nat} (hD : 14 ≤ D) (hB : cBy mem ch) (hW : cWd mem) (hN : w32 N = (n : Int)) (hn : n ≤ 800) (hQ : ∀ m l r, tlF' mem m → sTl ch n l 0 → cAt ch n m (pTx (l.length + 1) (.inr l) dD0 0).1 (pTx (l.length + 1) (.inr l) dD0 0).2.1 → w32 r = (pTx (l.length + 1) (.inr l) dD0 0).2.2 → Q (some (0, r)) m) : yCon E D xm_120 [(1, 54), (0, N)] mem Q := by
  obtain ⟨d, rfl⟩ := Nat.exists_eq_add_of_le' hD
  refine e_120 ?_
  refine zvc_ok hE 60 zc_120 _ _ _ _ _ _ _ xmo_120 ?_
  simp only [ynok_30, ynok_31, w32c_0, w32c_1, w32c_2, w32c_3, w32c_4, w32c_5, w32c_6, w32c_7, w32c_8, w32c_9, w32c_10, w32c_11, w32c_12, w32c_13, w32c_14, w32c_m1, w32c_m2, w32c_118, Int.reduceAdd, Int.reduceSub, Int.reduceMul, yput_s, yput_n, znl_n, znl_0, znl_1, znl_4, ysum_n, ysum_0, ysum_1, ysum_4, true_and, and_true, Nat.reduceAdd, Nat.reduceLeDiff, true_implies, eq_self, true_or, or_true, or_false, false_or, not_true_eq_false, not_false_eq_true, false_implies, implies_true, yset_s, yset_o, yset_d, ne_eq, Nat.reduceEqDiff, Int.reduceToNat, Int.reduceEq, Int.reduceLE, Int.reduceLT, Classical.not_not, Nat.reduceLT, ↓zvk_s, ↓zvk_n, ↓s_120_0, ↓s_120_1, ↓s_120_4, ↓s_120_7, ↓s_120_8, ↓s_120_9, ↓s_120_12, ↓s_120_13, ↓s_120_14, ↓s_120_17, ↓s_120_18, ↓s_120_21, ↓s_120_22, ↓s_120_25, ↓s_120_26n, ↓s_120_26i, ↓s_120_26p, ↓s_120_27, ↓s_120_28n, ↓s_120_28i, ↓s_120_28p, ↓g_120_29, ↓k_120_29, ↓s_120_30, ↓s_120_33, ↓s_120_36, ↓s_120_37, ↓s_120_40, ↓s_120_43, ↓s_120_46, ↓s_120_47, ↓s_120_50, ↓s_120_53, ↓s_120_96, ↓s_120_97, ↓s_120_100, ↓s_120_103, ↓s_120_104, ↓s_120_107, ↓s_120_110, ↓s_120_111, ↓s_120_114, ↓s_120_117, ↓s_120_118, ↓s_120_121, ↓s_120_124, ↓s_120_125, ↓s_120_128, ↓s_120_129, ↓s_120_130, ↓s_120_133, ↓s_120_136, ↓s_120_139_2, ↓s_120_139_28, ↓s_120_142, ↓s_120_143, ↓s_120_144, ↓s_120_147, ↓s_120_150, ↓s_120_151, ↓s_120_154, ↓s_120_155, ↓s_120_156, ↓s_120_159, ↓s_120_161, ↓s_120_164_2, ↓s_120_164_28, ↓s_120_167, ↓s_120_168, ↓s_120_169, ↓s_120_172, ↓s_120_175, ↓s_120_176, ↓s_120_179, ↓s_120_182, ↓s_120_183, ↓s_120_186, ↓s_120_187, ↓s_120_190a, ↓s_120_190b, ↓g_120_191, ↓k_120_191, ↓s_120_192, ↓s_120_193, ↓s_120_196, ↓s_120_199n, ↓s_120_199i, ↓s_120_199p, ↓s_120_202, ↓s_120_205, ↓s_120_206, ↓s_120_209, ↓s_120_210, ↓s_120_213a, ↓s_120_213b, ↓g_120_214n, ↓g_120_214i, ↓g_120_214p, ↓k_120_214, ↓s_120_217, ↓g_120_220, ↓k_120_220, ↓s_120_221, w32c_800, w32c_999, w32c_99999, zio_2, zio_54, zio_55, zio_28]
  refine g_hclr hE (by (first | exact Nat.le_of_ble_eq_true rfl | exact (fun h => absurd h.1 (by decide)) | omega)) (fun m1 F1 h29 h31 h33 h35 h16 h17 h18 h4 h8 h5 => ?_)
  refine zgk_n hE xmo_120 60 zc_120 ?_
  simp only [ynok_30, ynok_31, w32c_0, w32c_1, w32c_2, w32c_3, w32c_4, w32c_5, w32c_6, w32c_7, w32c_8, w32c_9, w32c_10, w32c_11, w32c_12, w32c_13, w32c_14, w32c_m1, w32c_m2, w32c_118, Int.reduceAdd, Int.reduceSub, Int.reduceMul, yput_s, yput_n, znl_n, znl_0, znl_1, znl_4, ysum_n, ysum_0, ysum_1, ysum_4, true_and, and_true, Nat.reduceAdd, Nat.reduceLeDiff, true_implies, eq_self, true_or, or_true, or_false, false_or, not_true_eq_false, not_false_eq_true, false_implies, implies_true, yset_s, yset_o, yset_d, ne_eq, Nat.reduceEqDiff, Int.reduceToNat, Int.reduceEq, Int.reduceLE, Int.reduceLT, Classical.not_not, Nat.reduceLT, ↓zvk_s, ↓zvk_n, ↓s_120_0, ↓s_120_1, ↓s_120_4, ↓s_120_7, ↓s_120_8, ↓s_120_9, ↓s_120_12, ↓s_120_13, ↓s_120_14, ↓s_120_17, ↓s_120_18, ↓s_120_21, ↓s_120_22, ↓s_120_25, ↓s_120_26n, ↓s_120_26i, ↓s_120_26p, ↓s_120_27, ↓s_120_28n, ↓s_120_28i, ↓s_120_28p, ↓g_120_29, ↓k_120_29, ↓s_120_30, ↓s_120_33, ↓s_120_36, ↓s_120_37, ↓s_120_40, ↓s_120_43, ↓s_120_46, ↓s_120_47, ↓s_120_50, ↓s_120_53, ↓s_120_96, ↓s_120_97, ↓s_120_100, ↓s_120_103, ↓s_120_104, ↓s_120_107, ↓s_120_110, ↓s_120_111, ↓s_120_114, ↓s_120_117, ↓s_120_118, ↓s_120_121, ↓s_120_124, ↓s_120_125, ↓s_120_128, ↓s_120_129, ↓s_120_130, ↓s_120_133, ↓s_120_136, ↓s_120_139_2, ↓s_120_139_28, ↓s_120_142, ↓s_120_143, ↓s_120_144, ↓s_120_147, ↓s_120_150, ↓s_120_151, ↓s_120_154, ↓s_120_155, ↓s_120_156, ↓s_120_159, ↓s_120_161, ↓s_120_164_2, ↓s_120_164_28, ↓s_120_167, ↓s_120_168, ↓s_120_169, ↓s_120_172, ↓s_120_175, ↓s_120_176, ↓s_120_179, ↓s_120_182, ↓s_120_183, ↓s_120_186, ↓s_120_187, ↓s_120_190a, ↓s_120_190b, ↓g_120_191, ↓k_120_191, ↓s_120_192, ↓s_120_193, ↓s_120_196, ↓s_120_199n, ↓s_120_199i, ↓s_120_199p, ↓s_120_202, ↓s_120_205, ↓s_120_206, ↓s_120_209, ↓s_120_210, ↓s_120_213a, ↓s_120_213b, ↓g_120_214n, ↓g_120_214i, ↓g_120_214p, ↓k_120_214, ↓s_120_217, ↓g_120_220, ↓k_120_220, ↓s_120_221, w32c_800, w32c_999, w32c_99999, zio_2, zio_54, zio_55, zio_28]
  have k : ∀ i j, i ≠ 54 → yset (yset m1 54 2 0) 54 3 0 i j = m1 i j := fun i j h => by rw [yset_o h, yset_o h]
  have D1 : cDc (yset (yset m1 54 2 0) 54 3 0) dD0 := dD0_of (by rw [k 29 1 (by decide)]; exact h29) (by rw [k 31 1 (by decide)]; exact h31) (by rw [k 33 1 (by decide)]; exact h33) (by rw [k 35 1 (by decide)]; exact h35) (by rw [k 28 16 (by decide)]; exact h16) (by rw [k 28 17 (by decide)]; exact h17) (by rw [k 28 18 (by decide)]; exact h18) (by rw [k 48 4 (by decide)]; exact h4) (by rw [k 48 8 (by decide)]; exact h8) (fun j hj => by rw [k 51 j (by decide), k 52 j (by decide)]; exact h5 j hj) (by rw [yset_d (by decide), yset_s]; exact w32c_0) (by rw [yset_s]; exact w32c_0)
  have R1 : tlF' mem (yset (yset m1 54 2 0) 54 3 0) := fun i j hij => by rw [k i j (by (first | exact Nat.le_of_ble_eq_true rfl | exact (fun h => absurd h.1 (by decide)) | omega))]; exact F1 i j (by (first | exact Nat.le_of_ble_eq_true rfl | exact (fun h => absurd h.1 (by decide)) | omega))
  revert D1 R1
  generalize yset (yset m1 54 2 0) 54 3 0 = m2
  intro D1 R1
  refine g_start hE (by (first | exact Nat.le_of_ble_eq_true rfl | exact (fun h => absurd h.1 (by decide)) | omega)) (fun j => by rw [R1 1 j (by decide)]; exact hB j) (fun i hi => by rw [R1 56 i (by decide)]; exact hW i hi) hN hn (fun m3 l F3 hl T3 => ?_)
  refine zgk_n hE xmo_120 60 zc_120 ?_
  simp only [ynok_30, ynok_31, w32c_0, w32c_1, w32c_2, w32c_3, w32c_4, w32c_5, w32c_6, w32c_7, w32c_8, w32c_9, w32c_10, w32c_11, w32c_12, w32c_13, w32c_14, w32c_m1, w32c_m2, w32c_118, Int.reduceAdd, Int.reduceSub, Int.reduceMul, yput_s, yput_n, znl_n, znl_0, znl_1, znl_4, ysum_n, ysum_0, ysum_1, ysum_4, true_and, and_true, Nat.reduceAdd, Nat.reduceLeDiff, true_implies, eq_self, true_or, or_true, or_false, false_or, not_true_eq_false, not_false_eq_true, false_implies, implies_true, yset_s, yset_o, yset_d, ne_eq, Nat.reduceEqDiff, Int.reduceToNat, Int.reduceEq, Int.reduceLE, Int.reduceLT, Classical.not_not, Nat.reduceLT, ↓zvk_s, ↓zvk_n, ↓s_120_0, ↓s_120_1, ↓s_120_4, ↓s_120_7, ↓s_120_8, ↓s_120_9, ↓s_120_12, ↓s_120_13, ↓s_120_14, ↓s_120_17, ↓s_120_18, ↓s_120_21, ↓s_120_22, ↓s_120_25, ↓s_120_26n, ↓s_120_26i, ↓s_120_26p, ↓s_120_27, ↓s_120_28n, ↓s_120_28i, ↓s_120_28p, ↓g_120_29, ↓k_120_29, ↓s_120_30, ↓s_120_33, ↓s_120_36, ↓s_120_37, ↓s_120_40, ↓s_120_43, ↓s_120_46, ↓s_120_47, ↓s_120_50, ↓s_120_53, ↓s_120_96, ↓s_120_97, ↓s_120_100, ↓s_120_103, ↓s_120_104, ↓s_120_107, ↓s_120_110, ↓s_120_111, ↓s_120_114, ↓s_120_117, ↓s_120_118, ↓s_120_121, ↓s_120_124, ↓s_120_125, ↓s_120_128, ↓s_120_129, ↓s_120_130, ↓s_120_133, ↓s_120_136, ↓s_120_139_2, ↓s_120_139_28, ↓s_120_142, ↓s_120_143, ↓s_120_144, ↓s_120_147, ↓s_120_150, ↓s_120_151, ↓s_120_154, ↓s_120_155, ↓s_120_156, ↓s_120_159, ↓s_120_161, ↓s_120_164_2, ↓s_120_164_28, ↓s_120_167, ↓s_120_168, ↓s_120_169, ↓s_120_172, ↓s_120_175, ↓s_120_176, ↓s_120_179, ↓s_120_182, ↓s_120_183, ↓s_120_186, ↓s_120_187, ↓s_120_190a, ↓s_120_190b, ↓g_120_191, ↓k_120_191, ↓s_120_192, ↓s_120_193, ↓s_120_196, ↓s_120_199n, ↓s_120_199i, ↓s_120_199p, ↓s_120_202, ↓s_120_205, ↓s_120_206, ↓s_120_209, ↓s_120_210, ↓s_120_213a, ↓s_120_213b, ↓g_120_214n, ↓g_120_214i, ↓g_120_214p, ↓k_120_214, ↓s_120_217, ↓g_120_220, ↓k_120_220, ↓s_120_221, w32c_800, w32c_999, w32c_99999, zio_2, zio_54, zio_55, zio_28]
  have hlen := sTl_len (Nat.zero_le n) hl
  have D3 : cDc m3 dD0 := by
    obtain ⟨c1, c2, c3, c4, c5, c6, c7⟩ := D1
    exact ⟨cTv_fr c1 (F3 29 1 rfl) (fun j => F3 30 j rfl) (fun j => F3 37 j rfl) (fun j => F3 38 j rfl), cVo_fr c2 (F3 31 1 rfl) (fun j => F3 32 j rfl) (F3 28 16 rfl) (fun j => F3 39 j rfl) (fun j => F3 40 j rfl) (fun j => F3 41 j rfl) (fun j => F3 42 j rfl) (fun j => F3 43 j rfl), cVe_fr c3 (F3 33 1 rfl) (fun j => F3 34 j rfl) (fun j => F3 44 j rfl) (fun j => F3 45 j rfl) (fun j => F3 46 j rfl), cBk_fr c4 (F3 35 1 rfl) (fun j => F3 36 j rfl) (fun j => F3 47 j rfl), ⟨by rw [F3 54 2 rfl]; exact c5.1, by rw [F3 28 17 rfl]; exact c5.2⟩, ⟨by rw [F3 54 3 rfl]; exact c6.1, by rw [F3 28 18 rfl]; exact c6.2⟩, cFs_fr c7 (fun j => F3 51 j rfl) (fun j => F3 52 j rfl) (F3 48 4 rfl) (F3 48 8 rfl) (fun j => F3 49 j rfl) (fun j => F3 50 j rfl)⟩
  have hsz : ySz (.inr l) = l.length := rfl
  exact gxl (b := mem) hE (by (first | exact Nat.le_of_ble_eq_true rfl | exact (fun h => absurd h.1 (by decide)) | omega)) (l.length + 1) (.inr l) dD0 m3 0 0 0 (by rw [hsz]; (first | exact Nat.le_of_ble_eq_true rfl | exact (fun h => absurd h.1 (by decide)) | omega)) (tlF_w R1 F3 (by decide)) ⟨T3, fun _ _ => D3⟩ w32c_0 (by decide) (by decide) (by decide) (fun _ => by rw [w32c_0, hsz]; (first | exact Nat.le_of_ble_eq_true rfl | exact (fun h => absurd h.1 (by decide)) | omega)) (fun m' r g1 g2 g3 => hQ m' l r g1 hl g2 g3)
end CZ
end
section
/-! THE REFERENCE: a state -/
def rTk (ch : Nat → Int) (n : Nat) (mem : yMem) (x : sY) : Prop := w32 (mem 95 26) = (n : Int) ∧ n ≤ 800 ∧ (∀ j, w32 (mem 96 j) = ch j ∧ 0 ≤ ch j ∧ ch j ≤ 255) ∧ match x with
  | .inl e => w32 (mem 95 31) = (e.1 : Int) ∧ e.1 ≠ 0 ∧ w32 (mem 95 32) = (e.2 : Int)
  | .inr l => w32 (mem 95 31) = 0 ∧ ∃ e : Nat, (w32 (mem 95 27) = (e : Int) ∧ w32 (mem 95 32) = -1) ∧ sCu ch n l e ∧ w32 (mem 95 28) = (((sHd l).2.1 : Nat) : Int) ∧ sRk (w32 (mem 95 29)) (w32 (mem 95 30)) (sHd l).1 (sHd l).2.2
theorem rTk_of {ch : Nat → Int} {n : Nat} {mem m : yMem} {x : sY} (h : rTk ch n mem x) (h26 : ∀ j, 26 ≤ j → j ≤ 32 → m 95 j = mem 95 j) (h96 : ∀ j, m 96 j = mem 96 j) : rTk ch n m x := by
  obtain ⟨a1, a2, a3, a4⟩ := h
  refine ⟨by rw [h26 26 (by decide) (by decide)]; exact a1, a2, fun j => by rw [h96]; exact a3 j, ?_⟩
  cases x with
  | inl e =>
    obtain ⟨b1, b2, b3⟩ := a4
    exact ⟨by rw [h26 31 (by decide) (by decide)]; exact b1, b2, by rw [h26 32 (by decide) (by decide)]; exact b3⟩
  | inr l =>
    obtain ⟨b1, e, b2, b3, b4, b5⟩ := a4
    exact ⟨by rw [h26 31 (by decide) (by decide)]; exact b1, e, ⟨by rw [h26 27 (by decide) (by decide)]; exact b2.1, by rw [h26 32 (by decide) (by decide)]; exact b2.2⟩, b3, by rw [h26 28 (by decide) (by decide)]; exact b4, by rw [h26 29 (by decide) (by decide), h26 30 (by decide) (by decide)]; exact b5⟩
section RA
variable {E : yE} {mem : yMem} {Q : Option yV → yMem → Prop} {ch : Nat → Int} {n : Nat} {x : sY} {l : List sT}
theorem rf_token (hE : yEok E) {D : Nat} (hD : 6 ≤ D) (h : rTk ch n mem (.inr l)) (hQ : ∀ m, aFrm tkF mem m → rTk ch n m (.inr (sNx l)) → Q none m) : yCon E D xm_244 [(1, 95)] mem Q := by
  obtain ⟨a1, a2, a3, b1, e, b2, b3, b4, b5⟩ := h
  obtain ⟨c1, c2⟩ := sCu_nx b3
  have ec : rsz mem = n := by show (w32 (mem 95 26)).toNat = n; rw [a1]; exact Int.toNat_natCast _
  have ea : rat mem = e := by show (w32 (mem 95 27)).toNat = e; rw [b2.1]; exact Int.toNat_natCast _
  have eh : rch mem = ch := funext fun j => (a3 j).1
  refine f_token hE hD (by (first | exact Nat.le_of_ble_eq_true rfl | exact (fun h => absurd h.1 (by decide)) | omega)) (by (first | exact Nat.le_of_ble_eq_true rfl | exact (fun h => absurd h.1 (by decide)) | omega)) (by (first | exact Nat.le_of_ble_eq_true rfl | exact (fun h => absurd h.1 (by decide)) | omega)) (fun j => by rw [(a3 j).1]; exact (a3 j).2) (fun m k p v e' F ht h7 h8 h9 => ?_)
  rw [ec, ea, eh] at ht
  obtain ⟨t1, t2⟩ := sTl_cu c1 ht
  refine hQ m F ⟨by rw [F 95 26 rfl]; exact a1, a2, fun j => by rw [F 96 j rfl]; exact a3 j, by rw [F 95 31 rfl]; exact b1, e', ⟨h7, by rw [F 95 32 rfl]; exact b2.2⟩, t2, by rw [t1]; exact h8, by rw [t1]; exact h9⟩
theorem rf_wr0 {f : Nat} {F : Int} (h : rTk ch n mem x) (hF : w32 F = (f : Int)) (h0 : f ≠ 0) (hf : w32 (mem 95 31) = 0) : rTk ch n (yset (yset mem 95 31 F) 95 32 (mem 95 28)) (yFl f x) := by
  cases x with
  | inl e => exact absurd hf (by have := h.2.2.2.1; have := h.2.2.2.2.1; (first | exact Nat.le_of_ble_eq_true rfl | exact (fun h => absurd h.1 (by decide)) | omega))
  | inr l =>
    obtain ⟨a1, a2, a3, b1, e, b2, b3, b4, b5⟩ := h
    exact ⟨by rw [yset_d (by decide), yset_d (by decide)]; exact a1, a2, fun j => by rw [yset_o (by decide), yset_o (by decide)]; exact a3 j, by rw [yset_d (by decide), yset_s]; exact hF, h0, by rw [yset_s]; exact b4⟩
theorem sRk_2 {so va v : Int} {k : Nat} (h : sRk so va k v) : so = 2 ↔ k = 2 := by
  unfold sRk at h
  (first | exact Nat.le_of_ble_eq_true rfl | exact (fun h => absurd h.1 (by decide)) | omega)
theorem sRk_v {so va v : Int} {k : Nat} (h : sRk so va k v) (hk : k = 2) : 0 ≤ va ∧ min va 100000 = v := by
  unfold sRk at h
  (first | exact Nat.le_of_ble_eq_true rfl | exact (fun h => absurd h.1 (by decide)) | omega)
theorem yKd_r (l : List sT) : yKd (.inr l) = (sHd l).1 := rfl
theorem yVl_r (l : List sT) : yVl (.inr l) = (sHd l).2.2 := rfl
abbrev rnF : List (Nat × Nat) := [(95, 28), (95, 29), (95, 30), (95, 31), (95, 32), (95, 33)]
theorem rf_numeral (hE : yEok E) {D : Nat} (hD : 8 ≤ D) {a b : Int} (h : rTk ch n mem x) (ha : w32 a ≤ 99999) (hb : w32 b ≤ 99999) (hQ : ∀ r m, aFrm rnF mem m → w32 r = (yNm (w32 a) (w32 b) x).1 → rTk ch n m (yNm (w32 a) (w32 b) x).2 → Q (some (0, r)) m) : yCon E D xm_212 [(1, 95), (0, a), (0, b)] mem Q := by
  obtain ⟨d, rfl⟩ := Nat.exists_eq_add_of_le' hD
  refine e_212 ?_
  refine zvc_ok hE 60 [] _ _ _ _ _ _ _ xmo_212 ?_
  cases x with
  | inl e =>
    have hz : ¬ w32 (mem 95 31) = 0 := by have := h.2.2.2.1; have := h.2.2.2.2.1; (first | exact Nat.le_of_ble_eq_true rfl | exact (fun h => absurd h.1 (by decide)) | omega)
    simp only [ynok_30, ynok_31, w32c_0, w32c_1, w32c_2, w32c_3, w32c_4, w32c_5, w32c_6, w32c_7, w32c_8, w32c_9, w32c_10, w32c_11, w32c_12, w32c_13, w32c_14, w32c_m1, w32c_m2, w32c_118, Int.reduceAdd, Int.reduceSub, Int.reduceMul, yput_s, yput_n, znl_n, znl_0, znl_1, znl_4, ysum_n, ysum_0, ysum_1, ysum_4, true_and, and_true, Nat.reduceAdd, Nat.reduceLeDiff, true_implies, eq_self, true_or, or_true, or_false, false_or, not_true_eq_false, not_false_eq_true, false_implies, implies_true, yset_s, yset_o, yset_d, ne_eq, Nat.reduceEqDiff, Int.reduceToNat, Int.reduceEq, Int.reduceLE, Int.reduceLT, Classical.not_not, Nat.reduceLT, ↓zvk_s, ↓zvk_n, ↓s_212_0, ↓s_212_1, ↓s_212_4, ↓s_212_7, ↓s_212_8, ↓s_212_9, ↓s_212_10, ↓s_212_13, ↓s_212_14, ↓s_212_17, ↓s_212_18, ↓s_212_19, ↓s_212_22, ↓s_212_25, ↓s_212_26, ↓s_212_29, ↓s_212_30, ↓s_212_33, ↓s_212_34, ↓s_212_37, ↓s_212_38, ↓s_212_41, ↓s_212_42, ↓s_212_43, ↓s_212_46, ↓s_212_47, ↓s_212_50, ↓s_212_53, ↓s_212_54, ↓s_212_55, ↓s_212_56, ↓s_212_59n, ↓s_212_59i, ↓s_212_59p, ↓s_212_60, ↓s_212_61, ↓s_212_64, ↓s_212_65, ↓s_254_0, ↓s_254_1, ↓s_254_4, ↓s_254_7, ↓s_254_8, ↓s_254_9, ↓s_254_10, ↓s_254_13, ↓s_254_14, ↓s_254_15, ↓s_254_18, ↓s_254_21, zio_95, hz]
    exact hQ a mem aFrm_rf rfl h
  | inr l =>
    have hz : w32 (mem 95 31) = 0 := h.2.2.2.1
    simp only [ynok_30, ynok_31, w32c_0, w32c_1, w32c_2, w32c_3, w32c_4, w32c_5, w32c_6, w32c_7, w32c_8, w32c_9, w32c_10, w32c_11, w32c_12, w32c_13, w32c_14, w32c_m1, w32c_m2, w32c_118, Int.reduceAdd, Int.reduceSub, Int.reduceMul, yput_s, yput_n, znl_n, znl_0, znl_1, znl_4, ysum_n, ysum_0, ysum_1, ysum_4, true_and, and_true, Nat.reduceAdd, Nat.reduceLeDiff, true_implies, eq_self, true_or, or_true, or_false, false_or, not_true_eq_false, not_false_eq_true, false_implies, implies_true, yset_s, yset_o, yset_d, ne_eq, Nat.reduceEqDiff, Int.reduceToNat, Int.reduceEq, Int.reduceLE, Int.reduceLT, Classical.not_not, Nat.reduceLT, ↓zvk_s, ↓zvk_n, ↓s_212_0, ↓s_212_1, ↓s_212_4, ↓s_212_7, ↓s_212_8, ↓s_212_9, ↓s_212_10, ↓s_212_13, ↓s_212_14, ↓s_212_17, ↓s_212_18, ↓s_212_19, ↓s_212_22, ↓s_212_25, ↓s_212_26, ↓s_212_29, ↓s_212_30, ↓s_212_33, ↓s_212_34, ↓s_212_37, ↓s_212_38, ↓s_212_41, ↓s_212_42, ↓s_212_43, ↓s_212_46, ↓s_212_47, ↓s_212_50, ↓s_212_53, ↓s_212_54, ↓s_212_55, ↓s_212_56, ↓s_212_59n, ↓s_212_59i, ↓s_212_59p, ↓s_212_60, ↓s_212_61, ↓s_212_64, ↓s_212_65, ↓s_254_0, ↓s_254_1, ↓s_254_4, ↓s_254_7, ↓s_254_8, ↓s_254_9, ↓s_254_10, ↓s_254_13, ↓s_254_14, ↓s_254_15, ↓s_254_18, ↓s_254_21, zio_95, hz]
    have hR : sRk (w32 (mem 95 29)) (w32 (mem 95 30)) (sHd l).1 (sHd l).2.2 := by
      obtain ⟨_, _, _, _, e, _, _, _, b5⟩ := h
      exact b5
    have k2 := sRk_2 hR
    have kv := sRk_v hR
    have wr : ∀ f F, w32 F = ((f : Nat) : Int) → f ≠ 0 → aFrm rnF mem (yset (yset mem 95 31 F) 95 32 (mem 95 28)) ∧ rTk ch n (yset (yset mem 95 31 F) 95 32 (mem 95 28)) (yFl f (.inr l)) := fun f F h1 h2 => ⟨aFrm_set (aFrm_set aFrm_rf rfl) rfl, rf_wr0 h h1 h2 hz⟩
    have B : yKd (.inr l) = 2 → (yVl (.inr l) < w32 a ∨ w32 b < yVl (.inr l)) → Q (some (0, a)) (yset (yset mem 95 31 2) 95 32 (mem 95 28)) := fun q1 q2 => by
      have ep : yNm (w32 a) (w32 b) (.inr l) = (w32 a, yFl 2 (.inr l)) := by unfold yNm; rw [if_pos q1, if_pos q2]
      rw [ep] at hQ
      exact hQ a _ (wr 2 2 (by decide) (by decide)).1 rfl (wr 2 2 (by decide) (by decide)).2
    refine ⟨fun q => ?_, fun q => ?_⟩
    · have q1 : (sHd l).1 = 2 := k2.mp q
      have hv := kv q1
      refine ⟨fun h1 => B q1 (Or.inl (by rw [yVl_r]; (first | exact Nat.le_of_ble_eq_true rfl | exact (fun h => absurd h.1 (by decide)) | omega))), fun h1 => ⟨fun h2 => ?_, fun h2 => B q1 (Or.inr (by rw [yVl_r]; (first | exact Nat.le_of_ble_eq_true rfl | exact (fun h => absurd h.1 (by decide)) | omega)))⟩⟩
      have ep : yNm (w32 a) (w32 b) (.inr l) = (yVl (.inr l), yNx (.inr l)) := by unfold yNm; rw [if_pos (show yKd (.inr l) = 2 from q1), if_neg (by rw [yVl_r]; (first | exact Nat.le_of_ble_eq_true rfl | exact (fun h => absurd h.1 (by decide)) | omega))]
      rw [ep] at hQ
      refine rf_token hE (by (first | exact Nat.le_of_ble_eq_true rfl | exact (fun h => absurd h.1 (by decide)) | omega)) h (fun m F T => ?_)
      refine zgk_n hE xmo_212 60 [] ?_
      simp only [ynok_30, ynok_31, w32c_0, w32c_1, w32c_2, w32c_3, w32c_4, w32c_5, w32c_6, w32c_7, w32c_8, w32c_9, w32c_10, w32c_11, w32c_12, w32c_13, w32c_14, w32c_m1, w32c_m2, w32c_118, Int.reduceAdd, Int.reduceSub, Int.reduceMul, yput_s, yput_n, znl_n, znl_0, znl_1, znl_4, ysum_n, ysum_0, ysum_1, ysum_4, true_and, and_true, Nat.reduceAdd, Nat.reduceLeDiff, true_implies, eq_self, true_or, or_true, or_false, false_or, not_true_eq_false, not_false_eq_true, false_implies, implies_true, yset_s, yset_o, yset_d, ne_eq, Nat.reduceEqDiff, Int.reduceToNat, Int.reduceEq, Int.reduceLE, Int.reduceLT, Classical.not_not, Nat.reduceLT, ↓zvk_s, ↓zvk_n, ↓s_212_0, ↓s_212_1, ↓s_212_4, ↓s_212_7, ↓s_212_8, ↓s_212_9, ↓s_212_10, ↓s_212_13, ↓s_212_14, ↓s_212_17, ↓s_212_18, ↓s_212_19, ↓s_212_22, ↓s_212_25, ↓s_212_26, ↓s_212_29, ↓s_212_30, ↓s_212_33, ↓s_212_34, ↓s_212_37, ↓s_212_38, ↓s_212_41, ↓s_212_42, ↓s_212_43, ↓s_212_46, ↓s_212_47, ↓s_212_50, ↓s_212_53, ↓s_212_54, ↓s_212_55, ↓s_212_56, ↓s_212_59n, ↓s_212_59i, ↓s_212_59p, ↓s_212_60, ↓s_212_61, ↓s_212_64, ↓s_212_65, ↓s_254_0, ↓s_254_1, ↓s_254_4, ↓s_254_7, ↓s_254_8, ↓s_254_9, ↓s_254_10, ↓s_254_13, ↓s_254_14, ↓s_254_15, ↓s_254_18, ↓s_254_21, zio_95]
      refine hQ _ m (aFrm_w F (by decide)) (by show _ = (sHd l).2.2; (first | exact Nat.le_of_ble_eq_true rfl | exact (fun h => absurd h.1 (by decide)) | omega)) T
    · have q1 : ¬ (sHd l).1 = 2 := fun z => q (k2.mpr z)
      have ep : yNm (w32 a) (w32 b) (.inr l) = (w32 a, yFl 1 (.inr l)) := by unfold yNm; rw [if_neg (show ¬ yKd (.inr l) = 2 from q1)]
      rw [ep] at hQ
      exact hQ a _ (wr 1 1 (by decide) (by decide)).1 rfl (wr 1 1 (by decide) (by decide)).2
end RA
end
section
section RB
variable {E : yE} {mem : yMem} {Q : Option yV → yMem → Prop} {d : Nat}
theorem rfd3 (hE : yEok E) {z : Int} {L off : Nat} {a M v : Int} {many : Nat} (hL : zar z 0 = L) (ha : w32 a = (off : Int)) (hm : w32 M = (many : Int)) (hLm : off + many ≤ L) (hL2 : L < 1000) : ∀ (c i : Nat) (I : Int), w32 I = (i : Int) → i + c = many → (∀ r, w32 r = sFd (fun j => w32 (mem z.toNat (off + j))) (w32 v) c i → Q (some (0, r)) mem) → zG E d xm_168 3 [some (1, z), some (0, a), some (0, M), some (0, v), some (0, I)] [] mem Q := by
  intro c
  induction c with
  | zero =>
    intro i I hI hc hQ
    refine zgo_ok (n := 60) hE xmo_168 (cs := zc_168) ?_
    simp only [ynok_30, ynok_31, w32c_0, w32c_1, w32c_2, w32c_3, w32c_4, w32c_5, w32c_6, w32c_7, w32c_8, w32c_9, w32c_10, w32c_11, w32c_12, w32c_13, w32c_14, w32c_m1, w32c_m2, w32c_118, Int.reduceAdd, Int.reduceSub, Int.reduceMul, yput_s, yput_n, znl_n, znl_0, znl_1, znl_4, ysum_n, ysum_0, ysum_1, ysum_4, true_and, and_true, Nat.reduceAdd, Nat.reduceLeDiff, true_implies, eq_self, true_or, or_true, or_false, false_or, not_true_eq_false, not_false_eq_true, false_implies, implies_true, yset_s, yset_o, yset_d, ne_eq, Nat.reduceEqDiff, Int.reduceToNat, Int.reduceEq, Int.reduceLE, Int.reduceLT, Classical.not_not, Nat.reduceLT, ↓zvk_s, ↓zvk_n, ↓s_168_0, ↓s_168_1n, ↓s_168_1i, ↓s_168_1p, ↓g_168_3, ↓k_168_3, ↓s_168_5, ↓s_168_6, ↓s_168_9, ↓s_168_10, ↓s_168_11, ↓s_168_13, ↓s_168_14, ↓s_168_15, ↓s_168_16, ↓s_168_19, ↓s_168_21, ↓s_168_22n, ↓s_168_22i, ↓s_168_22p, ↓s_168_25, ↓s_168_28, ↓s_168_29]
    have hM : w32 M ≤ w32 I := by (first | exact Nat.le_of_ble_eq_true rfl | exact (fun h => absurd h.1 (by decide)) | omega)
    exact ⟨fun _ => hQ (-1) w32c_m1, fun h => absurd hM h⟩
  | succ c ih =>
    intro i I hI hc hQ
    refine zgo_ok (n := 60) hE xmo_168 (cs := zc_168) ?_
    simp only [ynok_30, ynok_31, w32c_0, w32c_1, w32c_2, w32c_3, w32c_4, w32c_5, w32c_6, w32c_7, w32c_8, w32c_9, w32c_10, w32c_11, w32c_12, w32c_13, w32c_14, w32c_m1, w32c_m2, w32c_118, Int.reduceAdd, Int.reduceSub, Int.reduceMul, yput_s, yput_n, znl_n, znl_0, znl_1, znl_4, ysum_n, ysum_0, ysum_1, ysum_4, true_and, and_true, Nat.reduceAdd, Nat.reduceLeDiff, true_implies, eq_self, true_or, or_true, or_false, false_or, not_true_eq_false, not_false_eq_true, false_implies, implies_true, yset_s, yset_o, yset_d, ne_eq, Nat.reduceEqDiff, Int.reduceToNat, Int.reduceEq, Int.reduceLE, Int.reduceLT, Classical.not_not, Nat.reduceLT, ↓zvk_s, ↓zvk_n, ↓s_168_0, ↓s_168_1n, ↓s_168_1i, ↓s_168_1p, ↓g_168_3, ↓k_168_3, ↓s_168_5, ↓s_168_6, ↓s_168_9, ↓s_168_10, ↓s_168_11, ↓s_168_13, ↓s_168_14, ↓s_168_15, ↓s_168_16, ↓s_168_19, ↓s_168_21, ↓s_168_22n, ↓s_168_22i, ↓s_168_22p, ↓s_168_25, ↓s_168_28, ↓s_168_29]
    have e1 : w32 (I + 1) = ((i + 1 : Nat) : Int) := by rw [w32_ad (by rw [w32c_1]; (first | exact Nat.le_of_ble_eq_true rfl | exact (fun h => absurd h.1 (by decide)) | omega)) (by rw [w32c_1]; (first | exact Nat.le_of_ble_eq_true rfl | exact (fun h => absurd h.1 (by decide)) | omega)), w32c_1]; (first | exact Nat.le_of_ble_eq_true rfl | exact (fun h => absurd h.1 (by decide)) | omega)
    have e2 : w32 (a + I) = ((off + i : Nat) : Int) := by rw [w32_ad (by (first | exact Nat.le_of_ble_eq_true rfl | exact (fun h => absurd h.1 (by decide)) | omega)) (by (first | exact Nat.le_of_ble_eq_true rfl | exact (fun h => absurd h.1 (by decide)) | omega))]; (first | exact Nat.le_of_ble_eq_true rfl | exact (fun h => absurd h.1 (by decide)) | omega)
    have e3 : (w32 (a + I)).toNat = off + i := by rw [e2]; exact Int.toNat_natCast _
    rw [hL, e3, e2]
    refine ⟨fun h => absurd h (by (first | exact Nat.le_of_ble_eq_true rfl | exact (fun h => absurd h.1 (by decide)) | omega)), fun _ => ⟨⟨by (first | exact Nat.le_of_ble_eq_true rfl | exact (fun h => absurd h.1 (by decide)) | omega), by (first | exact Nat.le_of_ble_eq_true rfl | exact (fun h => absurd h.1 (by decide)) | omega)⟩, fun hn => ?_, fun he => ?_⟩⟩
    · refine ih (i + 1) (I + 1) e1 (by (first | exact Nat.le_of_ble_eq_true rfl | exact (fun h => absurd h.1 (by decide)) | omega)) (fun r hr => hQ r ?_)
      rw [hr]
      simp only [sFd]
      rw [if_neg hn]
    · refine hQ I ?_
      simp only [sFd]
      rw [if_pos he]
      exact hI
theorem rf_found (hE : yEok E) {D : Nat} (hD : 1 ≤ D) {z : Int} {L off : Nat} {a M v : Int} {many : Nat} (hL : zar z 0 = L) (ha : w32 a = (off : Int)) (hm : w32 M = (many : Int)) (hLm : off + many ≤ L) (hL2 : L < 1000) (hQ : ∀ r, w32 r = sFd (fun j => w32 (mem z.toNat (off + j))) (w32 v) many 0 → Q (some (0, r)) mem) : yCon E D xm_168 [(1, z), (0, a), (0, M), (0, v)] mem Q := by
  obtain ⟨d, rfl⟩ := Nat.exists_eq_add_of_le' hD
  refine e_168 ?_
  refine zvc_ok hE 60 zc_168 _ _ _ _ _ _ _ xmo_168 ?_
  simp only [ynok_30, ynok_31, w32c_0, w32c_1, w32c_2, w32c_3, w32c_4, w32c_5, w32c_6, w32c_7, w32c_8, w32c_9, w32c_10, w32c_11, w32c_12, w32c_13, w32c_14, w32c_m1, w32c_m2, w32c_118, Int.reduceAdd, Int.reduceSub, Int.reduceMul, yput_s, yput_n, znl_n, znl_0, znl_1, znl_4, ysum_n, ysum_0, ysum_1, ysum_4, true_and, and_true, Nat.reduceAdd, Nat.reduceLeDiff, true_implies, eq_self, true_or, or_true, or_false, false_or, not_true_eq_false, not_false_eq_true, false_implies, implies_true, yset_s, yset_o, yset_d, ne_eq, Nat.reduceEqDiff, Int.reduceToNat, Int.reduceEq, Int.reduceLE, Int.reduceLT, Classical.not_not, Nat.reduceLT, ↓zvk_s, ↓zvk_n, ↓s_168_0, ↓s_168_1n, ↓s_168_1i, ↓s_168_1p, ↓g_168_3, ↓k_168_3, ↓s_168_5, ↓s_168_6, ↓s_168_9, ↓s_168_10, ↓s_168_11, ↓s_168_13, ↓s_168_14, ↓s_168_15, ↓s_168_16, ↓s_168_19, ↓s_168_21, ↓s_168_22n, ↓s_168_22i, ↓s_168_22p, ↓s_168_25, ↓s_168_28, ↓s_168_29]
  exact rfd3 hE hL ha hm hLm hL2 many 0 0 w32c_0 (by (first | exact Nat.le_of_ble_eq_true rfl | exact (fun h => absurd h.1 (by decide)) | omega)) hQ
/-- the draft's names in the reference: q its row in number, off where its half begins -/
def rNm (mem : yMem) (z q off : Nat) (nm : List Int) : Prop := w32 (mem 97 (7 + q)) = (nm.length : Int) ∧ nm.length ≤ off ∧ ∀ j, j < nm.length → w32 (mem z (off + j)) = nm.getD j 0
theorem rNm_fd {mem : yMem} {z q off : Nat} {nm : List Int} (h : rNm mem z q off nm) (v : Int) : sFd (fun j => w32 (mem z (off + j))) v nm.length 0 = sFd (fun j => nm.getD j 0) v nm.length 0 := sFd_ext _ _ (fun j _ j2 => h.2.2 j (by (first | exact Nat.le_of_ble_eq_true rfl | exact (fun h => absurd h.1 (by decide)) | omega)))
end RB
section RC
variable {E : yE} {mem : yMem} {Q : Option yV → yMem → Prop} {ch : Nat → Int} {n : Nat} {x : sY}
theorem sRk_3 {so va v : Int} {k : Nat} (h : sRk so va k v) : (so = 1 ↔ k = 3) ∧ (k = 3 → va = v) := by
  unfold sRk at h
  (first | exact Nat.le_of_ble_eq_true rfl | exact (fun h => absurd h.1 (by decide)) | omega)
theorem rTk_rk {l : List sT} (h : rTk ch n mem (.inr l)) : sRk (w32 (mem 95 29)) (w32 (mem 95 30)) (sHd l).1 (sHd l).2.2 := by
  obtain ⟨_, _, _, _, e, _, _, _, b5⟩ := h
  exact b5
theorem rf_wr {l : List sT} {f : Nat} {F : Int} (h : rTk ch n mem (.inr l)) (h1 : w32 F = ((f : Nat) : Int)) (h2 : f ≠ 0) : aFrm rnF mem (yset (yset mem 95 31 F) 95 32 (mem 95 28)) ∧ rTk ch n (yset (yset mem 95 31 F) 95 32 (mem 95 28)) (yFl f (.inr l)) := ⟨aFrm_set (aFrm_set aFrm_rf rfl) rfl, rf_wr0 h h1 h2 h.2.2.2.1⟩
/-- a fresh name: behind the LINE's word -/
def yFr (nm : List Int) (x : sY) : sY := if ¬ yKd x = 3 then yFl 1 x else if ¬ sFd (fun j => nm.getD j 0) (yVl x) nm.length 0 = -1 then yFl 3 x else yNx x
theorem rf_fresh (hE : yEok E) {D : Nat} (hD : 9 ≤ D) {z : Int} {L q off : Nat} {a M : Int} {nm : List Int} (hL : zar z 0 = L) (ha : w32 a = (off : Int)) (hm : w32 M = (nm.length : Int)) (hLm : off + off ≤ L) (hL2 : L < 1000) (hN : rNm mem z.toNat q off nm) (h : rTk ch n mem x) (hQ : ∀ r m, aFrm rnF mem m → rTk ch n m (yFr nm x) → (∀ l, yFr nm x = .inr l → w32 r = yVl x) → Q (some (0, r)) m) : yCon E D xm_169 [(1, 95), (1, z), (0, a), (0, M)] mem Q := by
  obtain ⟨d, rfl⟩ := Nat.exists_eq_add_of_le' hD
  refine e_169 ?_
  refine zvc_ok hE 60 [] _ _ _ _ _ _ _ xmo_169 ?_
  cases x with
  | inl e =>
    have hz : ¬ w32 (mem 95 31) = 0 := by have := h.2.2.2.1; have := h.2.2.2.2.1; (first | exact Nat.le_of_ble_eq_true rfl | exact (fun h => absurd h.1 (by decide)) | omega)
    simp only [ynok_30, ynok_31, w32c_0, w32c_1, w32c_2, w32c_3, w32c_4, w32c_5, w32c_6, w32c_7, w32c_8, w32c_9, w32c_10, w32c_11, w32c_12, w32c_13, w32c_14, w32c_m1, w32c_m2, w32c_118, Int.reduceAdd, Int.reduceSub, Int.reduceMul, yput_s, yput_n, znl_n, znl_0, znl_1, znl_4, ysum_n, ysum_0, ysum_1, ysum_4, true_and, and_true, Nat.reduceAdd, Nat.reduceLeDiff, true_implies, eq_self, true_or, or_true, or_false, false_or, not_true_eq_false, not_false_eq_true, false_implies, implies_true, yset_s, yset_o, yset_d, ne_eq, Nat.reduceEqDiff, Int.reduceToNat, Int.reduceEq, Int.reduceLE, Int.reduceLT, Classical.not_not, Nat.reduceLT, ↓zvk_s, ↓zvk_n, ↓s_169_0, ↓s_169_1, ↓s_169_4, ↓s_169_7, ↓s_169_8, ↓s_169_9, ↓s_169_10, ↓s_169_13, ↓s_169_14, ↓s_169_17, ↓s_169_18, ↓s_169_19, ↓s_169_22, ↓s_169_25, ↓s_169_26, ↓s_169_27, ↓s_169_28, ↓s_169_29, ↓s_169_32, ↓s_169_35, ↓s_169_36, ↓s_169_39, ↓s_169_40, ↓s_169_41, ↓s_169_44, ↓s_169_45, ↓s_169_48, ↓s_169_51, ↓s_169_52, ↓s_169_53, ↓s_169_54, ↓s_169_57n, ↓s_169_57i, ↓s_169_57p, ↓s_169_59, ↓s_169_60, ↓s_169_63, ↓s_169_65, ↓s_254_0, ↓s_254_1, ↓s_254_4, ↓s_254_7, ↓s_254_8, ↓s_254_9, ↓s_254_10, ↓s_254_13, ↓s_254_14, ↓s_254_15, ↓s_254_18, ↓s_254_21, zio_95, hz]
    exact hQ 0 mem aFrm_rf h (fun l hl => by cases hl)
  | inr l =>
    have hz : w32 (mem 95 31) = 0 := h.2.2.2.1
    simp only [ynok_30, ynok_31, w32c_0, w32c_1, w32c_2, w32c_3, w32c_4, w32c_5, w32c_6, w32c_7, w32c_8, w32c_9, w32c_10, w32c_11, w32c_12, w32c_13, w32c_14, w32c_m1, w32c_m2, w32c_118, Int.reduceAdd, Int.reduceSub, Int.reduceMul, yput_s, yput_n, znl_n, znl_0, znl_1, znl_4, ysum_n, ysum_0, ysum_1, ysum_4, true_and, and_true, Nat.reduceAdd, Nat.reduceLeDiff, true_implies, eq_self, true_or, or_true, or_false, false_or, not_true_eq_false, not_false_eq_true, false_implies, implies_true, yset_s, yset_o, yset_d, ne_eq, Nat.reduceEqDiff, Int.reduceToNat, Int.reduceEq, Int.reduceLE, Int.reduceLT, Classical.not_not, Nat.reduceLT, ↓zvk_s, ↓zvk_n, ↓s_169_0, ↓s_169_1, ↓s_169_4, ↓s_169_7, ↓s_169_8, ↓s_169_9, ↓s_169_10, ↓s_169_13, ↓s_169_14, ↓s_169_17, ↓s_169_18, ↓s_169_19, ↓s_169_22, ↓s_169_25, ↓s_169_26, ↓s_169_27, ↓s_169_28, ↓s_169_29, ↓s_169_32, ↓s_169_35, ↓s_169_36, ↓s_169_39, ↓s_169_40, ↓s_169_41, ↓s_169_44, ↓s_169_45, ↓s_169_48, ↓s_169_51, ↓s_169_52, ↓s_169_53, ↓s_169_54, ↓s_169_57n, ↓s_169_57i, ↓s_169_57p, ↓s_169_59, ↓s_169_60, ↓s_169_63, ↓s_169_65, ↓s_254_0, ↓s_254_1, ↓s_254_4, ↓s_254_7, ↓s_254_8, ↓s_254_9, ↓s_254_10, ↓s_254_13, ↓s_254_14, ↓s_254_15, ↓s_254_18, ↓s_254_21, zio_95, hz]
    obtain ⟨k3, kv⟩ := sRk_3 (rTk_rk h)
    refine ⟨fun q1 => ?_, fun q1 => ?_⟩
    · have q3 : (sHd l).1 = 3 := k3.mp q1
      refine rf_found hE (by (first | exact Nat.le_of_ble_eq_true rfl | exact (fun h => absurd h.1 (by decide)) | omega)) hL ha hm (by have := hN.2.1; (first | exact Nat.le_of_ble_eq_true rfl | exact (fun h => absurd h.1 (by decide)) | omega)) hL2 (fun r hr => ?_)
      rw [rNm_fd hN, kv q3] at hr
      refine zgk_s hE xmo_169 60 [] ?_
      simp only [ynok_30, ynok_31, w32c_0, w32c_1, w32c_2, w32c_3, w32c_4, w32c_5, w32c_6, w32c_7, w32c_8, w32c_9, w32c_10, w32c_11, w32c_12, w32c_13, w32c_14, w32c_m1, w32c_m2, w32c_118, Int.reduceAdd, Int.reduceSub, Int.reduceMul, yput_s, yput_n, znl_n, znl_0, znl_1, znl_4, ysum_n, ysum_0, ysum_1, ysum_4, true_and, and_true, Nat.reduceAdd, Nat.reduceLeDiff, true_implies, eq_self, true_or, or_true, or_false, false_or, not_true_eq_false, not_false_eq_true, false_implies, implies_true, yset_s, yset_o, yset_d, ne_eq, Nat.reduceEqDiff, Int.reduceToNat, Int.reduceEq, Int.reduceLE, Int.reduceLT, Classical.not_not, Nat.reduceLT, ↓zvk_s, ↓zvk_n, ↓s_169_0, ↓s_169_1, ↓s_169_4, ↓s_169_7, ↓s_169_8, ↓s_169_9, ↓s_169_10, ↓s_169_13, ↓s_169_14, ↓s_169_17, ↓s_169_18, ↓s_169_19, ↓s_169_22, ↓s_169_25, ↓s_169_26, ↓s_169_27, ↓s_169_28, ↓s_169_29, ↓s_169_32, ↓s_169_35, ↓s_169_36, ↓s_169_39, ↓s_169_40, ↓s_169_41, ↓s_169_44, ↓s_169_45, ↓s_169_48, ↓s_169_51, ↓s_169_52, ↓s_169_53, ↓s_169_54, ↓s_169_57n, ↓s_169_57i, ↓s_169_57p, ↓s_169_59, ↓s_169_60, ↓s_169_63, ↓s_169_65, ↓s_254_0, ↓s_254_1, ↓s_254_4, ↓s_254_7, ↓s_254_8, ↓s_254_9, ↓s_254_10, ↓s_254_13, ↓s_254_14, ↓s_254_15, ↓s_254_18, ↓s_254_21, zio_95, hz]
      rw [hr]
      refine ⟨fun e => ?_, fun e => ?_⟩
      · have ep : yFr nm (.inr l) = yNx (.inr l) := by unfold yFr; rw [if_neg (fun z => z q3), if_neg (fun z => z e)]
        rw [ep] at hQ
        refine rf_token hE (by (first | exact Nat.le_of_ble_eq_true rfl | exact (fun h => absurd h.1 (by decide)) | omega)) h (fun m F T => ?_)
        refine zgk_n hE xmo_169 60 [] ?_
        simp only [ynok_30, ynok_31, w32c_0, w32c_1, w32c_2, w32c_3, w32c_4, w32c_5, w32c_6, w32c_7, w32c_8, w32c_9, w32c_10, w32c_11, w32c_12, w32c_13, w32c_14, w32c_m1, w32c_m2, w32c_118, Int.reduceAdd, Int.reduceSub, Int.reduceMul, yput_s, yput_n, znl_n, znl_0, znl_1, znl_4, ysum_n, ysum_0, ysum_1, ysum_4, true_and, and_true, Nat.reduceAdd, Nat.reduceLeDiff, true_implies, eq_self, true_or, or_true, or_false, false_or, not_true_eq_false, not_false_eq_true, false_implies, implies_true, yset_s, yset_o, yset_d, ne_eq, Nat.reduceEqDiff, Int.reduceToNat, Int.reduceEq, Int.reduceLE, Int.reduceLT, Classical.not_not, Nat.reduceLT, ↓zvk_s, ↓zvk_n, ↓s_169_0, ↓s_169_1, ↓s_169_4, ↓s_169_7, ↓s_169_8, ↓s_169_9, ↓s_169_10, ↓s_169_13, ↓s_169_14, ↓s_169_17, ↓s_169_18, ↓s_169_19, ↓s_169_22, ↓s_169_25, ↓s_169_26, ↓s_169_27, ↓s_169_28, ↓s_169_29, ↓s_169_32, ↓s_169_35, ↓s_169_36, ↓s_169_39, ↓s_169_40, ↓s_169_41, ↓s_169_44, ↓s_169_45, ↓s_169_48, ↓s_169_51, ↓s_169_52, ↓s_169_53, ↓s_169_54, ↓s_169_57n, ↓s_169_57i, ↓s_169_57p, ↓s_169_59, ↓s_169_60, ↓s_169_63, ↓s_169_65, ↓s_254_0, ↓s_254_1, ↓s_254_4, ↓s_254_7, ↓s_254_8, ↓s_254_9, ↓s_254_10, ↓s_254_13, ↓s_254_14, ↓s_254_15, ↓s_254_18, ↓s_254_21, zio_95]
        exact hQ _ m (aFrm_w F (by decide)) T (fun _ _ => kv q3)
      · have ep : yFr nm (.inr l) = yFl 3 (.inr l) := by unfold yFr; rw [if_neg (fun z => z q3), if_pos (show ¬ sFd (fun j => nm.getD j 0) (yVl (.inr l)) nm.length 0 = -1 from e)]
        rw [ep] at hQ
        exact hQ 0 _ (rf_wr (f := 3) h (by decide) (by decide)).1 (rf_wr h (by decide) (by decide)).2 (fun l hl => by cases hl)
    · have q3 : ¬ (sHd l).1 = 3 := fun z => q1 (k3.mpr z)
      have ep : yFr nm (.inr l) = yFl 1 (.inr l) := by unfold yFr; rw [if_pos (show ¬ yKd (.inr l) = 3 from q3)]
      rw [ep] at hQ
      exact hQ 0 _ (rf_wr (f := 1) h (by decide) (by decide)).1 (rf_wr h (by decide) (by decide)).2 (fun l hl => by cases hl)
theorem rf_tavern (hE : yEok E) {D : Nat} (hD : 9 ≤ D) {nm : List Int} (hN : rNm mem 98 0 3 nm) (h : rTk ch n mem x) (hQ : ∀ r m, aFrm rnF mem m → rTk ch n m (yTt nm x).2 → (∀ l, (yTt nm x).2 = .inr l → w32 r = (yTt nm x).1) → Q (some (0, r)) m) : yCon E D xm_241 [(1, 95)] mem Q := by
  obtain ⟨d, rfl⟩ := Nat.exists_eq_add_of_le' hD
  refine e_241 ?_
  refine zvc_ok hE 60 [] _ _ _ _ _ _ _ xmo_241 ?_
  cases x with
  | inl e =>
    have hz : ¬ w32 (mem 95 31) = 0 := by have := h.2.2.2.1; have := h.2.2.2.2.1; (first | exact Nat.le_of_ble_eq_true rfl | exact (fun h => absurd h.1 (by decide)) | omega)
    simp only [ynok_30, ynok_31, w32c_0, w32c_1, w32c_2, w32c_3, w32c_4, w32c_5, w32c_6, w32c_7, w32c_8, w32c_9, w32c_10, w32c_11, w32c_12, w32c_13, w32c_14, w32c_m1, w32c_m2, w32c_118, Int.reduceAdd, Int.reduceSub, Int.reduceMul, yput_s, yput_n, znl_n, znl_0, znl_1, znl_4, ysum_n, ysum_0, ysum_1, ysum_4, true_and, and_true, Nat.reduceAdd, Nat.reduceLeDiff, true_implies, eq_self, true_or, or_true, or_false, false_or, not_true_eq_false, not_false_eq_true, false_implies, implies_true, yset_s, yset_o, yset_d, ne_eq, Nat.reduceEqDiff, Int.reduceToNat, Int.reduceEq, Int.reduceLE, Int.reduceLT, Classical.not_not, Nat.reduceLT, ↓zvk_s, ↓zvk_n, ↓s_241_0, ↓s_241_1, ↓s_241_4, ↓s_241_7, ↓s_241_8, ↓s_241_9, ↓s_241_10, ↓s_241_13, ↓s_241_14, ↓s_241_15, ↓s_241_16, ↓s_241_19, ↓s_241_20, ↓s_241_23, ↓s_241_26n, ↓s_241_26i, ↓s_241_26p, ↓s_241_27, ↓s_241_28, ↓s_241_31, ↓s_241_32, ↓s_241_35, ↓s_241_36, ↓s_241_37, ↓s_241_40, ↓s_241_43, ↓s_241_44, ↓s_241_45, ↓s_241_48, ↓s_241_49, ↓s_241_50, ↓s_241_53, ↓s_241_54, ↓s_241_57, ↓s_241_58, ↓s_170_0, ↓s_170_1, ↓s_170_4, ↓s_170_6, ↓s_170_7, ↓s_170_8, ↓s_170_9, ↓s_173_0, ↓s_173_1, ↓s_173_4, ↓s_173_7, ↓s_173_8, ↓s_173_11, ↓s_254_0, ↓s_254_1, ↓s_254_4, ↓s_254_7, ↓s_254_8, ↓s_254_9, ↓s_254_10, ↓s_254_13, ↓s_254_14, ↓s_254_15, ↓s_254_18, ↓s_254_21, zar_97, zia_97, zln_97, zit_97, zar_98, zia_98, zln_98, zit_98, zio_95, hz]
    exact hQ 0 mem aFrm_rf h (fun l hl => by cases hl)
  | inr l =>
    have hz : w32 (mem 95 31) = 0 := h.2.2.2.1
    simp only [ynok_30, ynok_31, w32c_0, w32c_1, w32c_2, w32c_3, w32c_4, w32c_5, w32c_6, w32c_7, w32c_8, w32c_9, w32c_10, w32c_11, w32c_12, w32c_13, w32c_14, w32c_m1, w32c_m2, w32c_118, Int.reduceAdd, Int.reduceSub, Int.reduceMul, yput_s, yput_n, znl_n, znl_0, znl_1, znl_4, ysum_n, ysum_0, ysum_1, ysum_4, true_and, and_true, Nat.reduceAdd, Nat.reduceLeDiff, true_implies, eq_self, true_or, or_true, or_false, false_or, not_true_eq_false, not_false_eq_true, false_implies, implies_true, yset_s, yset_o, yset_d, ne_eq, Nat.reduceEqDiff, Int.reduceToNat, Int.reduceEq, Int.reduceLE, Int.reduceLT, Classical.not_not, Nat.reduceLT, ↓zvk_s, ↓zvk_n, ↓s_241_0, ↓s_241_1, ↓s_241_4, ↓s_241_7, ↓s_241_8, ↓s_241_9, ↓s_241_10, ↓s_241_13, ↓s_241_14, ↓s_241_15, ↓s_241_16, ↓s_241_19, ↓s_241_20, ↓s_241_23, ↓s_241_26n, ↓s_241_26i, ↓s_241_26p, ↓s_241_27, ↓s_241_28, ↓s_241_31, ↓s_241_32, ↓s_241_35, ↓s_241_36, ↓s_241_37, ↓s_241_40, ↓s_241_43, ↓s_241_44, ↓s_241_45, ↓s_241_48, ↓s_241_49, ↓s_241_50, ↓s_241_53, ↓s_241_54, ↓s_241_57, ↓s_241_58, ↓s_170_0, ↓s_170_1, ↓s_170_4, ↓s_170_6, ↓s_170_7, ↓s_170_8, ↓s_170_9, ↓s_173_0, ↓s_173_1, ↓s_173_4, ↓s_173_7, ↓s_173_8, ↓s_173_11, ↓s_254_0, ↓s_254_1, ↓s_254_4, ↓s_254_7, ↓s_254_8, ↓s_254_9, ↓s_254_10, ↓s_254_13, ↓s_254_14, ↓s_254_15, ↓s_254_18, ↓s_254_21, zar_97, zia_97, zln_97, zit_97, zar_98, zia_98, zln_98, zit_98, zio_95, hz]
    obtain ⟨k3, kv⟩ := sRk_3 (rTk_rk h)
    refine ⟨by decide, ?_⟩
    refine rf_found hE (by (first | exact Nat.le_of_ble_eq_true rfl | exact (fun h => absurd h.1 (by decide)) | omega)) (z := 98) (L := 6) (off := 3) (by decide) w32c_3 hN.1 (by have := hN.2.1; (first | exact Nat.le_of_ble_eq_true rfl | exact (fun h => absurd h.1 (by decide)) | omega)) (by decide) (fun r hr => ?_)
    have hr' : w32 r = sFd (fun j => nm.getD j 0) (w32 (mem 95 30)) nm.length 0 := hr.trans (rNm_fd hN _)
    refine zgk_s hE xmo_241 60 [] ?_
    simp only [ynok_30, ynok_31, w32c_0, w32c_1, w32c_2, w32c_3, w32c_4, w32c_5, w32c_6, w32c_7, w32c_8, w32c_9, w32c_10, w32c_11, w32c_12, w32c_13, w32c_14, w32c_m1, w32c_m2, w32c_118, Int.reduceAdd, Int.reduceSub, Int.reduceMul, yput_s, yput_n, znl_n, znl_0, znl_1, znl_4, ysum_n, ysum_0, ysum_1, ysum_4, true_and, and_true, Nat.reduceAdd, Nat.reduceLeDiff, true_implies, eq_self, true_or, or_true, or_false, false_or, not_true_eq_false, not_false_eq_true, false_implies, implies_true, yset_s, yset_o, yset_d, ne_eq, Nat.reduceEqDiff, Int.reduceToNat, Int.reduceEq, Int.reduceLE, Int.reduceLT, Classical.not_not, Nat.reduceLT, ↓zvk_s, ↓zvk_n, ↓s_241_0, ↓s_241_1, ↓s_241_4, ↓s_241_7, ↓s_241_8, ↓s_241_9, ↓s_241_10, ↓s_241_13, ↓s_241_14, ↓s_241_15, ↓s_241_16, ↓s_241_19, ↓s_241_20, ↓s_241_23, ↓s_241_26n, ↓s_241_26i, ↓s_241_26p, ↓s_241_27, ↓s_241_28, ↓s_241_31, ↓s_241_32, ↓s_241_35, ↓s_241_36, ↓s_241_37, ↓s_241_40, ↓s_241_43, ↓s_241_44, ↓s_241_45, ↓s_241_48, ↓s_241_49, ↓s_241_50, ↓s_241_53, ↓s_241_54, ↓s_241_57, ↓s_241_58, ↓s_170_0, ↓s_170_1, ↓s_170_4, ↓s_170_6, ↓s_170_7, ↓s_170_8, ↓s_170_9, ↓s_173_0, ↓s_173_1, ↓s_173_4, ↓s_173_7, ↓s_173_8, ↓s_173_11, ↓s_254_0, ↓s_254_1, ↓s_254_4, ↓s_254_7, ↓s_254_8, ↓s_254_9, ↓s_254_10, ↓s_254_13, ↓s_254_14, ↓s_254_15, ↓s_254_18, ↓s_254_21, zar_97, zia_97, zln_97, zit_97, zar_98, zia_98, zln_98, zit_98, zio_95, hz]
    refine ⟨fun q1 => ?_, fun q1 => ?_⟩
    · have q3 : (sHd l).1 = 3 := k3.mp q1
      rw [kv q3] at hr'
      refine ⟨fun e => ?_, fun e => ?_⟩
      · have ep : yTt nm (.inr l) = (sFd (fun j => nm.getD j 0) (yVl (.inr l)) nm.length 0, yNx (.inr l)) := by unfold yTt; rw [if_pos (show yKd (.inr l) = 3 from q3), if_neg (show ¬ sFd (fun j => nm.getD j 0) (yVl (.inr l)) nm.length 0 = -1 from fun z => e (hr'.trans z))]
        rw [ep] at hQ
        refine rf_token hE (by (first | exact Nat.le_of_ble_eq_true rfl | exact (fun h => absurd h.1 (by decide)) | omega)) h (fun m F T => ?_)
        refine zgk_n hE xmo_173 60 [] ?_
        simp only [ynok_30, ynok_31, w32c_0, w32c_1, w32c_2, w32c_3, w32c_4, w32c_5, w32c_6, w32c_7, w32c_8, w32c_9, w32c_10, w32c_11, w32c_12, w32c_13, w32c_14, w32c_m1, w32c_m2, w32c_118, Int.reduceAdd, Int.reduceSub, Int.reduceMul, yput_s, yput_n, znl_n, znl_0, znl_1, znl_4, ysum_n, ysum_0, ysum_1, ysum_4, true_and, and_true, Nat.reduceAdd, Nat.reduceLeDiff, true_implies, eq_self, true_or, or_true, or_false, false_or, not_true_eq_false, not_false_eq_true, false_implies, implies_true, yset_s, yset_o, yset_d, ne_eq, Nat.reduceEqDiff, Int.reduceToNat, Int.reduceEq, Int.reduceLE, Int.reduceLT, Classical.not_not, Nat.reduceLT, ↓zvk_s, ↓zvk_n, ↓s_241_0, ↓s_241_1, ↓s_241_4, ↓s_241_7, ↓s_241_8, ↓s_241_9, ↓s_241_10, ↓s_241_13, ↓s_241_14, ↓s_241_15, ↓s_241_16, ↓s_241_19, ↓s_241_20, ↓s_241_23, ↓s_241_26n, ↓s_241_26i, ↓s_241_26p, ↓s_241_27, ↓s_241_28, ↓s_241_31, ↓s_241_32, ↓s_241_35, ↓s_241_36, ↓s_241_37, ↓s_241_40, ↓s_241_43, ↓s_241_44, ↓s_241_45, ↓s_241_48, ↓s_241_49, ↓s_241_50, ↓s_241_53, ↓s_241_54, ↓s_241_57, ↓s_241_58, ↓s_173_0, ↓s_173_1, ↓s_173_4, ↓s_173_7, ↓s_173_8, ↓s_173_11, zar_98, zia_98, zln_98, zit_98, zio_95]
        exact hQ r m (aFrm_w F (by decide)) T (fun _ _ => hr')
      · have ep : yTt nm (.inr l) = (-1, yFl 4 (.inr l)) := by unfold yTt; rw [if_pos (show yKd (.inr l) = 3 from q3), if_pos (show sFd (fun j => nm.getD j 0) (yVl (.inr l)) nm.length 0 = -1 from hr'.symm.trans e)]
        rw [ep] at hQ
        exact hQ r _ (rf_wr (f := 4) h (by decide) (by decide)).1 (rf_wr h (by decide) (by decide)).2 (fun l hl => by cases hl)
    · have q3 : ¬ (sHd l).1 = 3 := fun z => q1 (k3.mpr z)
      have ep : yTt nm (.inr l) = (-1, yFl 1 (.inr l)) := by unfold yTt; rw [if_neg (show ¬ yKd (.inr l) = 3 from q3)]
      rw [ep] at hQ
      exact hQ r _ (rf_wr (f := 1) h (by decide) (by decide)).1 (rf_wr h (by decide) (by decide)).2 (fun l hl => by cases hl)
end RC
end
section
/-! THE REFERENCE: isWord, isSign on a state -/
theorem sRw_inj : ∀ k, k < 40 → 17 ≤ k → ∀ k', k' < 40 → 17 ≤ k' → sRw k = sRw k' → k = k' := by decide +kernel
theorem sSc_inj : ∀ k, k < 17 → 4 ≤ k → ∀ k', k' < 17 → 4 ≤ k' → sSc k = sSc k' → k = k' := by decide +kernel
section RD
variable {mem : yMem} {ch : Nat → Int} {n : Nat} {x : sY}
theorem rf_isw (h : rTk ch n mem x) {k0 : Nat} (h1 : 17 ≤ k0) (h2 : k0 < 40) : (w32 (mem 95 31) = 0 ∧ w32 (mem 95 29) = 0 ∧ w32 (mem 95 30) = sRw k0) ↔ yKd x = k0 := by
  cases x with
  | inl e =>
    have := h.2.2.2.1
    have := h.2.2.2.2.1
    refine ⟨fun q => absurd q.1 (by (first | exact Nat.le_of_ble_eq_true rfl | exact (fun h => absurd h.1 (by decide)) | omega)), fun q => ?_⟩
    have : (0 : Nat) = k0 := q
    (first | exact Nat.le_of_ble_eq_true rfl | exact (fun h => absurd h.1 (by decide)) | omega)
  | inr l =>
    have hz : w32 (mem 95 31) = 0 := h.2.2.2.1
    have hR := rTk_rk h
    rw [yKd_r]
    unfold sRk at hR
    refine ⟨fun q => ?_, fun q => ?_⟩
    · rcases hR with z | z | z | z | z | ⟨z1, z2, z3, z4⟩
      · (first | exact Nat.le_of_ble_eq_true rfl | exact (fun h => absurd h.1 (by decide)) | omega)
      · (first | exact Nat.le_of_ble_eq_true rfl | exact (fun h => absurd h.1 (by decide)) | omega)
      · (first | exact Nat.le_of_ble_eq_true rfl | exact (fun h => absurd h.1 (by decide)) | omega)
      · (first | exact Nat.le_of_ble_eq_true rfl | exact (fun h => absurd h.1 (by decide)) | omega)
      · (first | exact Nat.le_of_ble_eq_true rfl | exact (fun h => absurd h.1 (by decide)) | omega)
      · exact sRw_inj _ (by (first | exact Nat.le_of_ble_eq_true rfl | exact (fun h => absurd h.1 (by decide)) | omega)) z1 _ h2 h1 (by rw [← z4]; exact q.2.2)
    · rcases hR with z | z | z | z | z | ⟨z1, z2, z3, z4⟩
      · (first | exact Nat.le_of_ble_eq_true rfl | exact (fun h => absurd h.1 (by decide)) | omega)
      · (first | exact Nat.le_of_ble_eq_true rfl | exact (fun h => absurd h.1 (by decide)) | omega)
      · (first | exact Nat.le_of_ble_eq_true rfl | exact (fun h => absurd h.1 (by decide)) | omega)
      · (first | exact Nat.le_of_ble_eq_true rfl | exact (fun h => absurd h.1 (by decide)) | omega)
      · (first | exact Nat.le_of_ble_eq_true rfl | exact (fun h => absurd h.1 (by decide)) | omega)
      · exact ⟨hz, z3, by rw [z4, q]⟩
theorem rf_iss (h : rTk ch n mem x) {k0 : Nat} (h1 : 4 ≤ k0) (h2 : k0 < 17) : (w32 (mem 95 31) = 0 ∧ w32 (mem 95 29) = 3 ∧ w32 (mem 95 30) = sSc k0) ↔ yKd x = k0 := by
  cases x with
  | inl e =>
    have := h.2.2.2.1
    have := h.2.2.2.2.1
    refine ⟨fun q => absurd q.1 (by (first | exact Nat.le_of_ble_eq_true rfl | exact (fun h => absurd h.1 (by decide)) | omega)), fun q => ?_⟩
    have : (0 : Nat) = k0 := q
    (first | exact Nat.le_of_ble_eq_true rfl | exact (fun h => absurd h.1 (by decide)) | omega)
  | inr l =>
    have hz : w32 (mem 95 31) = 0 := h.2.2.2.1
    have hR := rTk_rk h
    rw [yKd_r]
    unfold sRk at hR
    refine ⟨fun q => ?_, fun q => ?_⟩
    · rcases hR with z | z | z | z | ⟨z1, z2, z3, z4⟩ | z
      · (first | exact Nat.le_of_ble_eq_true rfl | exact (fun h => absurd h.1 (by decide)) | omega)
      · (first | exact Nat.le_of_ble_eq_true rfl | exact (fun h => absurd h.1 (by decide)) | omega)
      · (first | exact Nat.le_of_ble_eq_true rfl | exact (fun h => absurd h.1 (by decide)) | omega)
      · (first | exact Nat.le_of_ble_eq_true rfl | exact (fun h => absurd h.1 (by decide)) | omega)
      · exact sSc_inj _ (by (first | exact Nat.le_of_ble_eq_true rfl | exact (fun h => absurd h.1 (by decide)) | omega)) z1 _ h2 h1 (by rw [← z4]; exact q.2.2)
      · (first | exact Nat.le_of_ble_eq_true rfl | exact (fun h => absurd h.1 (by decide)) | omega)
    · rcases hR with z | z | z | z | ⟨z1, z2, z3, z4⟩ | z
      · (first | exact Nat.le_of_ble_eq_true rfl | exact (fun h => absurd h.1 (by decide)) | omega)
      · (first | exact Nat.le_of_ble_eq_true rfl | exact (fun h => absurd h.1 (by decide)) | omega)
      · (first | exact Nat.le_of_ble_eq_true rfl | exact (fun h => absurd h.1 (by decide)) | omega)
      · (first | exact Nat.le_of_ble_eq_true rfl | exact (fun h => absurd h.1 (by decide)) | omega)
      · exact ⟨hz, z3, by rw [z4, q]⟩
      · (first | exact Nat.le_of_ble_eq_true rfl | exact (fun h => absurd h.1 (by decide)) | omega)
end RD
end
