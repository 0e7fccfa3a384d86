theorem sKn_z {p : Nat} {u : sU} {k : sU → sX} (h : ∀ e, k (u.1, u.2.1 + 1, u.2.2) = .inl e → e.1 ≠ 0) : ∀ e, sKn p u k = .inl e → e.1 ≠ 0 := by
  unfold sKn
  split
  · intro e he
    injection he with he
    rw [← he]
    exact (by decide : (2 : Nat) ≠ 0)
  · exact h
theorem inl_z {f p : Nat} (hf : f ≠ 0) : ∀ e, (Sum.inl (f, p) : sX) = .inl e → e.1 ≠ 0 := fun e he => by
  injection he with he
  rw [← he]
  exact hf
theorem tail_lt {l : List sT} {f : Nat} (h : l.length < f + 1) (hk : (sHd l).1 ≠ 0) : l.tail.length < f := by
  cases l with
  | nil => exact absurd rfl hk
  | cons t r =>
    have : (t :: r).length = r.length + 1 := rfl
    show r.length < f
    omega
/-- a step a token: fuel enough -/
theorem sy_fuel : ∀ (f : Nat) (v : Bool) (w : List Nat) (l : List sT) (cn op : Nat) (o : sK), l.length < f → ∀ e, sy f v w (l, cn, op, o) = .inl e → e.1 ≠ 0
  | 0, v, w, l, cn, op, o, h => absurd h (Nat.not_lt_zero _)
  | f + 1, true, w, l, cn, op, o, h => by
    simp only [sy]
    split
    · next h5 =>
      split
      · exact inl_z (by decide)
      · exact sy_fuel f true _ l.tail _ _ _ (tail_lt h (by omega))
    · split
      · next h32 =>
        exact sKn_z (sy_fuel f true _ l.tail _ _ _ (tail_lt h (by omega)))
      · split
        · exact inl_z (by decide)
        · next h2 =>
          split
          · exact inl_z (by decide)
          · exact sKn_z (sy_fuel f false _ l.tail _ _ _ (tail_lt h (by omega)))
  | f + 1, false, w, l, cn, op, o, h => by
    simp only [sy]
    split
    · next h6 => exact sy_fuel f false _ l.tail _ _ _ (tail_lt h (by omega))
    · split
      · split
        · exact inl_z (by decide)
        · intro e he
          cases he
      · next h0 =>
        have hk : (sHd l).1 ≠ 0 := fun e => h0 (Or.inl (by rw [e]; rfl))
        split
        · split
          · exact inl_z (by decide)
          · exact sKn_z (sy_fuel f true _ l.tail _ _ _ (tail_lt h hk))
        · exact sKn_z (sy_fuel f true _ l.tail _ _ _ (tail_lt h hk))
theorem sKn_m {p : Nat} {u : sU} {k k' : sU → sX} {x : sX} (h : ∀ v, k v = x → k' v = x) : sKn p u k = x → sKn p u k' = x := by
  unfold sKn
  split
  · exact fun e => e
  · exact h _
theorem sy_t (f : Nat) (w : List Nat) (l : List sT) (cn op : Nat) (o : sK) : sy (f + 1) true w (l, cn, op, o) = (if (sHd l).1 = 5 then (if op = 8 then .inl (2, (sHd l).2.1) else sy f true (5 :: w) (l.tail, cn, op + 1, o))
    else if (sHd l).1 = 32 ∧ sTp w ≤ 3 then sKn (sHd l).2.1 (l, cn, op, o) (fun u => sy f true (32 :: w) (u.1.tail, u.2))
    else if ¬ ((sHd l).1 = 2 ∨ (33 ≤ (sHd l).1 ∧ (sHd l).1 ≤ 39)) then .inl (1, (sHd l).2.1)
    else if (sHd l).1 = 2 ∧ 9999 < (sHd l).2.2 then .inl (2, (sHd l).2.1)
    else sKn (sHd l).2.1 (l, cn, op, o) (fun u => sy f false w (u.1.tail, u.2.1, u.2.2.1, ((sHd l).1, if (sHd l).1 = 2 then (sHd l).2.2 else 0) :: u.2.2.2))) := rfl
theorem sy_f (f : Nat) (w : List Nat) (l : List sT) (cn op : Nat) (o : sK) : sy (f + 1) false w (l, cn, op, o) = (if (sHd l).1 = 6 ∧ 0 < op then sy f false (sSt 1 w o).1.tail (l.tail, cn, op - 1, (sSt 1 w o).2)
    else if sLv (sHd l).1 = 0 ∨ sLv (sHd l).1 = 3 then (if 0 < op then .inl (1, (sHd l).2.1) else .inr (l, cn, op, (sSt 1 w o).2))
    else if sLv (sHd l).1 = 4 then (if sTp (sSt 5 w o).1 = 4 then .inl (1, (sHd l).2.1) else sKn (sHd l).2.1 (l, cn, op, (sSt 5 w o).2) (fun u => sy f true ((sHd l).1 :: (sSt 5 w o).1) (u.1.tail, u.2)))
    else sKn (sHd l).2.1 (l, cn, op, (sSt (sLv (sHd l).1) w o).2) (fun u => sy f true ((sHd l).1 :: (sSt (sLv (sHd l).1) w o).1) (u.1.tail, u.2))) := rfl
theorem sy_mono {x : sX} (hx : ∀ e, x = .inl e → e.1 ≠ 0) : ∀ (f : Nat) (v : Bool) (w : List Nat) (u : sU), sy f v w u = x → sy (f + 1) v w u = x
  | 0, v, w, u, h => absurd rfl (hx (0, 0) (by rw [← h]; rfl))
  | f + 1, true, w, (l, cn, op, o), h => by
    rw [sy_t] at h ⊢
    by_cases h5 : (sHd l).1 = 5
    · rw [if_pos h5] at h ⊢
      by_cases h8 : op = 8
      · rw [if_pos h8] at h ⊢; exact h
      · rw [if_neg h8] at h ⊢; exact sy_mono hx f _ _ _ h
    · rw [if_neg h5] at h ⊢
      by_cases h32 : (sHd l).1 = 32 ∧ sTp w ≤ 3
      · rw [if_pos h32] at h ⊢; exact sKn_m (fun v => sy_mono hx f _ _ _) h
      · rw [if_neg h32] at h ⊢
        by_cases h2 : ¬ ((sHd l).1 = 2 ∨ (33 ≤ (sHd l).1 ∧ (sHd l).1 ≤ 39))
        · rw [if_pos h2] at h ⊢; exact h
        · rw [if_neg h2] at h ⊢
          by_cases h9 : (sHd l).1 = 2 ∧ 9999 < (sHd l).2.2
          · rw [if_pos h9] at h ⊢; exact h
          · rw [if_neg h9] at h ⊢; exact sKn_m (fun v => sy_mono hx f _ _ _) h
  | f + 1, false, w, (l, cn, op, o), h => by
    rw [sy_f] at h ⊢
    by_cases h6 : (sHd l).1 = 6 ∧ 0 < op
    · rw [if_pos h6] at h ⊢; exact sy_mono hx f _ _ _ h
    · rw [if_neg h6] at h ⊢
      by_cases h0 : sLv (sHd l).1 = 0 ∨ sLv (sHd l).1 = 3
      · rw [if_pos h0] at h ⊢; exact h
      · rw [if_neg h0] at h ⊢
        by_cases h4 : sLv (sHd l).1 = 4
        · rw [if_pos h4] at h ⊢
          by_cases h44 : sTp (sSt 5 w o).1 = 4
          · rw [if_pos h44] at h ⊢; exact h
          · rw [if_neg h44] at h ⊢; exact sKn_m (fun v => sy_mono hx f _ _ _) h
        · rw [if_neg h4] at h ⊢; exact sKn_m (fun v => sy_mono hx f _ _ _) h
theorem sy_add {x : sX} (hx : ∀ e, x = .inl e → e.1 ≠ 0) {f : Nat} {v : Bool} {w : List Nat} {u : sU} (h : sy f v w u = x) : ∀ c, sy (f + c) v w u = x
  | 0 => h
  | c + 1 => sy_mono hx _ _ _ _ (sy_add hx h c)
/-- an E, as the class reads it -/
def pE (y : sY) (cn : Nat) (o : sK) : sX := match y with
  | .inl e => .inl e
  | .inr l => sy (l.length + 1) true [] (l, cn, 0, o)
theorem pE_en {l : List sT} {cn : Nat} {o : sK} {x : sX} (h : sEn true [] (l, cn, 0, o) x) : pE (.inr l) cn o = x := by
  obtain ⟨c, h⟩ := h
  have h1 := h (l.length + 1)
  rw [← h1]
  exact (sy_add (sy_fuel (l.length + 1) true [] l cn 0 o (Nat.lt_succ_self _)) rfl c).symm
section CT
variable {E : yE} {mem b m : yMem} {Q : Option yV → yMem → Prop} {ch : Nat → Int} {n : Nat} {d f : Nat} {F : Int} {x : sX}
theorem g_readValue0 (hE : yEok E) {D : Nat} (hD : 4 ≤ D) {e : Nat × Nat} (T : cTk ch n m (.inl e)) (hQ : Q (some (0, 0)) (yset m 55 4 0)) : yCon E D xm_68 [(1, 48), (1, 55)] m Q := by
  obtain ⟨d, rfl⟩ := Nat.exists_eq_add_of_le' hD
  have hK : w32 (m 55 4) = 0 := T.2.2.2.2.2.2.2
  have h7 : ¬ w32 (m 55 7) = 0 := fun h => T.2.2.2.2.2.1 (by have := T.2.2.2.2.1; omega)
  refine e_68 ?_
  refine zvc_ok hE 60 zc_68 _ _ _ _ _ _ _ xmo_68 ?_
  simp only [ynok_30, ynok_31, w32c_0, w32c_1, w32c_2, w32c_3, w32c_4, w32c_5, w32c_6, w32c_7, w32c_8, w32c_9, w32c_10, w32c_11, w32c_12, w32c_13, w32c_14, w32c_m1, w32c_m2, w32c_118, Int.reduceAdd, Int.reduceSub, Int.reduceMul, yput_s, yput_n, znl_n, znl_0, znl_1, znl_4, ysum_n, ysum_0, ysum_1, ysum_4, true_and, and_true, Nat.reduceAdd, Nat.reduceLeDiff, true_implies, eq_self, true_or, or_true, or_false, false_or, not_true_eq_false, not_false_eq_true, false_implies, implies_true, yset_s, yset_o, yset_d, ne_eq, Nat.reduceEqDiff, Int.reduceToNat, Int.reduceEq, Int.reduceLE, Int.reduceLT, Classical.not_not, Nat.reduceLT, ↓zvk_s, ↓zvk_n, ↓s_68_0, ↓s_68_1, ↓s_68_4n, ↓s_68_4i, ↓s_68_4p, ↓s_68_5, ↓s_68_6, ↓s_68_7, ↓s_68_10, ↓s_68_11_22, ↓s_68_11_48, ↓s_68_14, ↓s_68_16, ↓s_68_19, ↓s_68_20, ↓s_68_21, ↓s_68_24, ↓s_68_27, ↓s_68_28, ↓s_68_29, ↓s_68_32, ↓g_68_33, ↓k_68_33, ↓s_68_34, ↓s_68_36, ↓s_68_39, ↓s_68_40, ↓s_68_43, ↓s_68_44, ↓g_68_47, ↓k_68_47, ↓s_68_48, ↓s_68_49, ↓s_68_52, ↓s_68_55, ↓s_68_56, ↓s_68_57, ↓s_68_60, ↓s_68_63, ↓s_68_64, ↓s_68_67, ↓s_68_68, ↓g_68_69, ↓k_68_69, ↓s_68_70, ↓s_68_71, ↓s_68_74, ↓s_68_75, ↓s_68_77, ↓s_68_80, ↓s_68_81, ↓s_68_83, ↓s_68_86, ↓s_68_87, ↓s_68_88, ↓s_68_91, ↓g_68_92, ↓k_68_92, ↓s_68_93, ↓s_68_96, ↓s_68_99, ↓s_68_102, ↓s_68_103, ↓s_68_104, ↓s_68_107, ↓s_68_108, ↓s_68_109, ↓s_68_112, ↓g_68_113, ↓k_68_113, ↓s_68_114, ↓s_68_115_22, ↓s_68_115_48, ↓s_68_118, ↓s_68_119, ↓s_68_120, ↓s_68_123, ↓s_68_126, ↓s_68_127, ↓s_68_128, ↓s_68_129, ↓s_68_132, ↓s_68_135, ↓s_68_138, ↓s_68_139, ↓s_68_142, ↓s_68_143, w32c_32, w32c_33, w32c_39, w32c_9999, ↓s_62_0, ↓s_62_1_22, ↓s_62_1_48, ↓s_62_4, ↓s_62_5_22, ↓s_62_5_48, ↓s_62_8, ↓s_62_9, ↓s_62_12, ↓s_62_13_22, ↓s_62_13_48, ↓s_62_16, ↓s_62_17_22, ↓s_62_17_48, ↓s_62_20, ↓s_62_21, ↓s_62_22, ↓s_62_23a, ↓s_62_23b, ↓s_62_24_22, ↓s_62_24_48, ↓s_62_27, ↓s_62_28, ↓s_62_29_22, ↓s_62_29_48, ↓s_62_32, ↓s_62_33, ↓s_62_34, ↓s_62_37, ↓s_62_38a, ↓s_62_38b, ↓s_62_39_22, ↓s_62_39_48, ↓s_62_42, ↓s_62_43, ↓s_62_44_22, ↓s_62_44_48, ↓s_62_47, ↓s_62_48, ↓s_63_0, ↓s_63_1_22, ↓s_63_1_48, ↓s_63_4, ↓s_63_6, ↓s_63_9, ↓s_63_10, ↓s_63_11, ↓s_63_14, ↓s_63_15, ↓s_63_16a, ↓s_63_16b, ↓s_63_17_22, ↓s_63_17_48, ↓s_63_20, ↓s_63_21, ↓s_63_22_22, ↓s_63_22_48, ↓s_63_25, ↓s_63_26, w32c_64, ↓s_66_0, ↓s_66_1_22, ↓s_66_1_48, ↓s_66_4, ↓s_66_6, ↓s_66_9, ↓s_66_10_22, ↓s_66_10_48, ↓s_66_13, ↓s_66_14_22, ↓s_66_14_48, ↓s_66_17, ↓s_66_18, ↓s_66_19, ↓s_66_20_22, ↓s_66_20_48, ↓s_66_23, ↓s_66_24_22, ↓s_66_24_48, ↓s_66_27, ↓s_66_28, ↓s_66_29, ↓s_66_30a, ↓s_66_30b, ↓s_66_31_22, ↓s_66_31_48, ↓s_66_34, ↓s_66_35, ↓s_66_36_22, ↓s_66_36_48, ↓s_66_39, ↓s_66_40, ↓s_72_0, ↓s_72_1_22, ↓s_72_1_48, ↓s_72_4, ↓s_72_7, ↓s_72_8, ↓s_72_11, ↓s_72_12_22, ↓s_72_12_48, ↓s_72_15, ↓s_72_16_22, ↓s_72_16_48, ↓s_72_19, ↓s_72_20, ↓s_72_21, ↓s_72_22, ↓s_72_25, ↓s_123_0, ↓s_123_1, ↓s_123_4, ↓s_123_7, ↓s_123_8, ↓s_123_9, ↓s_123_12, ↓s_123_13, ↓s_123_14, ↓s_123_17, ↓s_123_20, ↓s_123_21, ↓s_123_22, ↓s_123_25, ↓s_123_26, zio_48, zar_49, zia_49, zln_49, zit_49, zar_50, zia_50, zln_50, zit_50, zar_53, zia_53, zln_53, zit_53, zio_22, zar_23, zia_23, zln_23, zit_23, zio_55, zar_24, zia_24, zln_24, zit_24, zar_27, zia_27, zln_27, zit_27]
  refine ⟨fun _ => ?_, fun h => absurd h (by omega)⟩
  refine zgo_ok (n := 80) hE xmo_68 (cs := zc_68) ?_
  simp only [ynok_30, ynok_31, w32c_0, w32c_1, w32c_2, w32c_3, w32c_4, w32c_5, w32c_6, w32c_7, w32c_8, w32c_9, w32c_10, w32c_11, w32c_12, w32c_13, w32c_14, w32c_m1, w32c_m2, w32c_118, Int.reduceAdd, Int.reduceSub, Int.reduceMul, yput_s, yput_n, znl_n, znl_0, znl_1, znl_4, ysum_n, ysum_0, ysum_1, ysum_4, true_and, and_true, Nat.reduceAdd, Nat.reduceLeDiff, true_implies, eq_self, true_or, or_true, or_false, false_or, not_true_eq_false, not_false_eq_true, false_implies, implies_true, yset_s, yset_o, yset_d, ne_eq, Nat.reduceEqDiff, Int.reduceToNat, Int.reduceEq, Int.reduceLE, Int.reduceLT, Classical.not_not, Nat.reduceLT, ↓zvk_s, ↓zvk_n, ↓s_68_0, ↓s_68_1, ↓s_68_4n, ↓s_68_4i, ↓s_68_4p, ↓s_68_5, ↓s_68_6, ↓s_68_7, ↓s_68_10, ↓s_68_11_22, ↓s_68_11_48, ↓s_68_14, ↓s_68_16, ↓s_68_19, ↓s_68_20, ↓s_68_21, ↓s_68_24, ↓s_68_27, ↓s_68_28, ↓s_68_29, ↓s_68_32, ↓g_68_33, ↓k_68_33, ↓s_68_34, ↓s_68_36, ↓s_68_39, ↓s_68_40, ↓s_68_43, ↓s_68_44, ↓g_68_47, ↓k_68_47, ↓s_68_48, ↓s_68_49, ↓s_68_52, ↓s_68_55, ↓s_68_56, ↓s_68_57, ↓s_68_60, ↓s_68_63, ↓s_68_64, ↓s_68_67, ↓s_68_68, ↓g_68_69, ↓k_68_69, ↓s_68_70, ↓s_68_71, ↓s_68_74, ↓s_68_75, ↓s_68_77, ↓s_68_80, ↓s_68_81, ↓s_68_83, ↓s_68_86, ↓s_68_87, ↓s_68_88, ↓s_68_91, ↓g_68_92, ↓k_68_92, ↓s_68_93, ↓s_68_96, ↓s_68_99, ↓s_68_102, ↓s_68_103, ↓s_68_104, ↓s_68_107, ↓s_68_108, ↓s_68_109, ↓s_68_112, ↓g_68_113, ↓k_68_113, ↓s_68_114, ↓s_68_115_22, ↓s_68_115_48, ↓s_68_118, ↓s_68_119, ↓s_68_120, ↓s_68_123, ↓s_68_126, ↓s_68_127, ↓s_68_128, ↓s_68_129, ↓s_68_132, ↓s_68_135, ↓s_68_138, ↓s_68_139, ↓s_68_142, ↓s_68_143, w32c_32, w32c_33, w32c_39, w32c_9999, ↓s_62_0, ↓s_62_1_22, ↓s_62_1_48, ↓s_62_4, ↓s_62_5_22, ↓s_62_5_48, ↓s_62_8, ↓s_62_9, ↓s_62_12, ↓s_62_13_22, ↓s_62_13_48, ↓s_62_16, ↓s_62_17_22, ↓s_62_17_48, ↓s_62_20, ↓s_62_21, ↓s_62_22, ↓s_62_23a, ↓s_62_23b, ↓s_62_24_22, ↓s_62_24_48, ↓s_62_27, ↓s_62_28, ↓s_62_29_22, ↓s_62_29_48, ↓s_62_32, ↓s_62_33, ↓s_62_34, ↓s_62_37, ↓s_62_38a, ↓s_62_38b, ↓s_62_39_22, ↓s_62_39_48, ↓s_62_42, ↓s_62_43, ↓s_62_44_22, ↓s_62_44_48, ↓s_62_47, ↓s_62_48, ↓s_63_0, ↓s_63_1_22, ↓s_63_1_48, ↓s_63_4, ↓s_63_6, ↓s_63_9, ↓s_63_10, ↓s_63_11, ↓s_63_14, ↓s_63_15, ↓s_63_16a, ↓s_63_16b, ↓s_63_17_22, ↓s_63_17_48, ↓s_63_20, ↓s_63_21, ↓s_63_22_22, ↓s_63_22_48, ↓s_63_25, ↓s_63_26, w32c_64, ↓s_66_0, ↓s_66_1_22, ↓s_66_1_48, ↓s_66_4, ↓s_66_6, ↓s_66_9, ↓s_66_10_22, ↓s_66_10_48, ↓s_66_13, ↓s_66_14_22, ↓s_66_14_48, ↓s_66_17, ↓s_66_18, ↓s_66_19, ↓s_66_20_22, ↓s_66_20_48, ↓s_66_23, ↓s_66_24_22, ↓s_66_24_48, ↓s_66_27, ↓s_66_28, ↓s_66_29, ↓s_66_30a, ↓s_66_30b, ↓s_66_31_22, ↓s_66_31_48, ↓s_66_34, ↓s_66_35, ↓s_66_36_22, ↓s_66_36_48, ↓s_66_39, ↓s_66_40, ↓s_72_0, ↓s_72_1_22, ↓s_72_1_48, ↓s_72_4, ↓s_72_7, ↓s_72_8, ↓s_72_11, ↓s_72_12_22, ↓s_72_12_48, ↓s_72_15, ↓s_72_16_22, ↓s_72_16_48, ↓s_72_19, ↓s_72_20, ↓s_72_21, ↓s_72_22, ↓s_72_25, ↓s_123_0, ↓s_123_1, ↓s_123_4, ↓s_123_7, ↓s_123_8, ↓s_123_9, ↓s_123_12, ↓s_123_13, ↓s_123_14, ↓s_123_17, ↓s_123_20, ↓s_123_21, ↓s_123_22, ↓s_123_25, ↓s_123_26, zio_48, zar_49, zia_49, zln_49, zit_49, zar_50, zia_50, zln_50, zit_50, zar_53, zia_53, zln_53, zit_53, zio_22, zar_23, zia_23, zln_23, zit_23, zio_55, zar_24, zia_24, zln_24, zit_24, zar_27, zia_27, zln_27, zit_27]
  refine ⟨fun _ => ?_, fun h => absurd h (by omega)⟩
  refine zgo_ok (n := 80) hE xmo_68 (cs := zc_68) ?_
  simp only [ynok_30, ynok_31, w32c_0, w32c_1, w32c_2, w32c_3, w32c_4, w32c_5, w32c_6, w32c_7, w32c_8, w32c_9, w32c_10, w32c_11, w32c_12, w32c_13, w32c_14, w32c_m1, w32c_m2, w32c_118, Int.reduceAdd, Int.reduceSub, Int.reduceMul, yput_s, yput_n, znl_n, znl_0, znl_1, znl_4, ysum_n, ysum_0, ysum_1, ysum_4, true_and, and_true, Nat.reduceAdd, Nat.reduceLeDiff, true_implies, eq_self, true_or, or_true, or_false, false_or, not_true_eq_false, not_false_eq_true, false_implies, implies_true, yset_s, yset_o, yset_d, ne_eq, Nat.reduceEqDiff, Int.reduceToNat, Int.reduceEq, Int.reduceLE, Int.reduceLT, Classical.not_not, Nat.reduceLT, ↓zvk_s, ↓zvk_n, ↓s_68_0, ↓s_68_1, ↓s_68_4n, ↓s_68_4i, ↓s_68_4p, ↓s_68_5, ↓s_68_6, ↓s_68_7, ↓s_68_10, ↓s_68_11_22, ↓s_68_11_48, ↓s_68_14, ↓s_68_16, ↓s_68_19, ↓s_68_20, ↓s_68_21, ↓s_68_24, ↓s_68_27, ↓s_68_28, ↓s_68_29, ↓s_68_32, ↓g_68_33, ↓k_68_33, ↓s_68_34, ↓s_68_36, ↓s_68_39, ↓s_68_40, ↓s_68_43, ↓s_68_44, ↓g_68_47, ↓k_68_47, ↓s_68_48, ↓s_68_49, ↓s_68_52, ↓s_68_55, ↓s_68_56, ↓s_68_57, ↓s_68_60, ↓s_68_63, ↓s_68_64, ↓s_68_67, ↓s_68_68, ↓g_68_69, ↓k_68_69, ↓s_68_70, ↓s_68_71, ↓s_68_74, ↓s_68_75, ↓s_68_77, ↓s_68_80, ↓s_68_81, ↓s_68_83, ↓s_68_86, ↓s_68_87, ↓s_68_88, ↓s_68_91, ↓g_68_92, ↓k_68_92, ↓s_68_93, ↓s_68_96, ↓s_68_99, ↓s_68_102, ↓s_68_103, ↓s_68_104, ↓s_68_107, ↓s_68_108, ↓s_68_109, ↓s_68_112, ↓g_68_113, ↓k_68_113, ↓s_68_114, ↓s_68_115_22, ↓s_68_115_48, ↓s_68_118, ↓s_68_119, ↓s_68_120, ↓s_68_123, ↓s_68_126, ↓s_68_127, ↓s_68_128, ↓s_68_129, ↓s_68_132, ↓s_68_135, ↓s_68_138, ↓s_68_139, ↓s_68_142, ↓s_68_143, w32c_32, w32c_33, w32c_39, w32c_9999, ↓s_62_0, ↓s_62_1_22, ↓s_62_1_48, ↓s_62_4, ↓s_62_5_22, ↓s_62_5_48, ↓s_62_8, ↓s_62_9, ↓s_62_12, ↓s_62_13_22, ↓s_62_13_48, ↓s_62_16, ↓s_62_17_22, ↓s_62_17_48, ↓s_62_20, ↓s_62_21, ↓s_62_22, ↓s_62_23a, ↓s_62_23b, ↓s_62_24_22, ↓s_62_24_48, ↓s_62_27, ↓s_62_28, ↓s_62_29_22, ↓s_62_29_48, ↓s_62_32, ↓s_62_33, ↓s_62_34, ↓s_62_37, ↓s_62_38a, ↓s_62_38b, ↓s_62_39_22, ↓s_62_39_48, ↓s_62_42, ↓s_62_43, ↓s_62_44_22, ↓s_62_44_48, ↓s_62_47, ↓s_62_48, ↓s_63_0, ↓s_63_1_22, ↓s_63_1_48, ↓s_63_4, ↓s_63_6, ↓s_63_9, ↓s_63_10, ↓s_63_11, ↓s_63_14, ↓s_63_15, ↓s_63_16a, ↓s_63_16b, ↓s_63_17_22, ↓s_63_17_48, ↓s_63_20, ↓s_63_21, ↓s_63_22_22, ↓s_63_22_48, ↓s_63_25, ↓s_63_26, w32c_64, ↓s_66_0, ↓s_66_1_22, ↓s_66_1_48, ↓s_66_4, ↓s_66_6, ↓s_66_9, ↓s_66_10_22, ↓s_66_10_48, ↓s_66_13, ↓s_66_14_22, ↓s_66_14_48, ↓s_66_17, ↓s_66_18, ↓s_66_19, ↓s_66_20_22, ↓s_66_20_48, ↓s_66_23, ↓s_66_24_22, ↓s_66_24_48, ↓s_66_27, ↓s_66_28, ↓s_66_29, ↓s_66_30a, ↓s_66_30b, ↓s_66_31_22, ↓s_66_31_48, ↓s_66_34, ↓s_66_35, ↓s_66_36_22, ↓s_66_36_48, ↓s_66_39, ↓s_66_40, ↓s_72_0, ↓s_72_1_22, ↓s_72_1_48, ↓s_72_4, ↓s_72_7, ↓s_72_8, ↓s_72_11, ↓s_72_12_22, ↓s_72_12_48, ↓s_72_15, ↓s_72_16_22, ↓s_72_16_48, ↓s_72_19, ↓s_72_20, ↓s_72_21, ↓s_72_22, ↓s_72_25, ↓s_123_0, ↓s_123_1, ↓s_123_4, ↓s_123_7, ↓s_123_8, ↓s_123_9, ↓s_123_12, ↓s_123_13, ↓s_123_14, ↓s_123_17, ↓s_123_20, ↓s_123_21, ↓s_123_22, ↓s_123_25, ↓s_123_26, zio_48, zar_49, zia_49, zln_49, zit_49, zar_50, zia_50, zln_50, zit_50, zar_53, zia_53, zln_53, zit_53, zio_22, zar_23, zia_23, zln_23, zit_23, zio_55, zar_24, zia_24, zln_24, zit_24, zar_27, zia_27, zln_27, zit_27]
  exact ⟨fun h => absurd h (by omega), fun _ => ⟨fun _ => ⟨fun _ => hQ, fun h => absurd h h7⟩, fun h => absurd (show w32 (m 55 4) < 33 by omega) h⟩⟩
def FoS (m : yMem) (cn : Nat) (o : sK) : Prop := (w32 (m 48 4) = (o.length : Int) ∧ cKs m o) ∧ w32 (m 48 8) = (cn : Int) ∧ o.length ≤ cn ∧ cn ≤ 64
def ftG (b m : yMem) (f : Nat) : Prop := ∀ i j, amod fvW i j = false → ¬ (i = 52 ∧ j = f) → ¬ (i = 51 ∧ j = f) → m i j = b i j
theorem g_ftell (hE : yEok E) {D : Nat} (hD : 8 ≤ D) (hf : f < 5) (hF : w32 F = (f : Int)) {y : sY} {cn : Nat} {o : sK} (T : cTk ch n mem y) (S : FoS mem cn o) (hQ : ∀ m', ftG mem m' f → cTk ch n m' (yOf (pE y cn o)) → (∀ u, pE y cn o = .inr u → FoE m' f u ∧ w32 (m' 51 f) = (o.length : Int)) → Q none m') : yCon E D xm_71 [(1, 48), (0, F), (1, 55)] mem Q := by
  obtain ⟨d, rfl⟩ := Nat.exists_eq_add_of_le' hD
  have hFt : (w32 F).toNat = f := by rw [hF]; exact Int.toNat_natCast _
  refine e_71 ?_
  refine zvc_ok hE 60 zc_71 _ _ _ _ _ _ _ xmo_71 ?_
  simp only [ynok_30, ynok_31, w32c_0, w32c_1, w32c_2, w32c_3, w32c_4, w32c_5, w32c_6, w32c_7, w32c_8, w32c_9, w32c_10, w32c_11, w32c_12, w32c_13, w32c_14, w32c_m1, w32c_m2, w32c_118, Int.reduceAdd, Int.reduceSub, Int.reduceMul, yput_s, yput_n, znl_n, znl_0, znl_1, znl_4, ysum_n, ysum_0, ysum_1, ysum_4, true_and, and_true, Nat.reduceAdd, Nat.reduceLeDiff, true_implies, eq_self, true_or, or_true, or_false, false_or, not_true_eq_false, not_false_eq_true, false_implies, implies_true, yset_s, yset_o, yset_d, ne_eq, Nat.reduceEqDiff, Int.reduceToNat, Int.reduceEq, Int.reduceLE, Int.reduceLT, Classical.not_not, Nat.reduceLT, ↓zvk_s, ↓zvk_n, ↓s_71_0, ↓s_71_1_22, ↓s_71_1_48, ↓s_71_4, ↓s_71_5, ↓s_71_6_22, ↓s_71_6_48, ↓s_71_9, ↓s_71_10, ↓s_71_11, ↓s_71_12_22, ↓s_71_12_48, ↓s_71_15, ↓s_71_16, ↓s_71_17_22, ↓s_71_17_48, ↓s_71_20, ↓s_71_21, ↓s_71_22_22, ↓s_71_22_48, ↓s_71_25, ↓s_71_26n, ↓s_71_26i, ↓s_71_26p, ↓s_71_27, ↓s_71_28n, ↓s_71_28i, ↓s_71_28p, ↓g_71_30, ↓k_71_30, ↓s_71_32, ↓s_71_35, ↓s_71_38, ↓s_71_39, ↓s_71_42, ↓s_71_43_22, ↓s_71_43_48, ↓s_71_46, ↓s_71_49, ↓s_71_50, ↓s_71_51, ↓s_71_54, ↓s_71_57, ↓s_71_58, ↓s_71_59, ↓g_71_62n, ↓g_71_62i, ↓g_71_62p, ↓k_71_62, ↓s_71_63, ↓s_71_64, ↓s_71_67, ↓s_71_68, ↓g_71_71n, ↓g_71_71i, ↓g_71_71p, ↓k_71_71, ↓s_71_74, ↓g_71_77, ↓k_71_77, ↓s_71_78, ↓s_71_79, ↓s_71_82, ↓s_71_83_22, ↓s_71_83_48, ↓s_71_86, ↓s_71_87, ↓s_71_88_22, ↓s_71_88_48, ↓s_71_91, ↓s_71_92, w32c_800, zio_48, zar_51, zia_51, zln_51, zit_51, zar_52, zia_52, zln_52, zit_52, zio_22, zio_55, zar_25, zia_25, zln_25, zit_25, zar_26, zia_26, zln_26, zit_26]
  rw [hFt]
  refine ⟨⟨by omega, by omega⟩, ?_⟩
  have e48 : ∀ j, j ≠ 6 → j ≠ 7 → j ≠ 9 → yset (yset (yset (yset mem 51 f (mem 48 4)) 48 6 0) 48 7 0) 48 9 1 48 j = mem 48 j := fun j q6 q7 q9 => by rw [yset_d q9, yset_d q7, yset_d q6, yset_o (by decide)]
  have C : cFo (yset (yset (yset (yset mem 51 f (mem 48 4)) 48 6 0) 48 7 0) 48 9 1) [] cn 0 o := by
    obtain ⟨⟨a5, a6⟩, a3, a7, a8⟩ := S
    refine ⟨⟨by rw [yset_d (by decide), yset_d (by decide), yset_s]; exact w32c_0, trivial⟩, ⟨by rw [e48 8 (by decide) (by decide) (by decide)]; exact a3, by rw [yset_d (by decide), yset_s]; exact w32c_0⟩, ⟨by rw [e48 4 (by decide) (by decide) (by decide)]; exact a5, cKs_eq a6 (fun j _ => by rw [yset_o (by decide), yset_o (by decide), yset_o (by decide), yset_o (by decide)]) (fun j _ => by rw [yset_o (by decide), yset_o (by decide), yset_o (by decide), yset_o (by decide)])⟩, a7, a8, by decide, rfl⟩
  have T0 : cTk ch n (yset (yset (yset (yset mem 51 f (mem 48 4)) 48 6 0) 48 7 0) 48 9 1) y := cTk_of T (fun j => by rw [yset_o (by decide), yset_o (by decide), yset_o (by decide), yset_o (by decide)]) (fun j => by rw [yset_o (by decide), yset_o (by decide), yset_o (by decide), yset_o (by decide)]) (fun j => by rw [yset_o (by decide), yset_o (by decide), yset_o (by decide), yset_o (by decide)])
  have h9 : w32 (yset (yset (yset (yset mem 51 f (mem 48 4)) 48 6 0) 48 7 0) 48 9 1 48 9) = 1 := by rw [yset_s]; exact w32c_1
  have h51 : w32 (yset (yset (yset (yset mem 51 f (mem 48 4)) 48 6 0) 48 7 0) 48 9 1 51 f) = (o.length : Int) := by rw [yset_o (by decide), yset_o (by decide), yset_o (by decide), yset_s]; exact S.1.1
  have fr : ∀ i j, amod fvW i j = false → ¬ (i = 51 ∧ j = f) → yset (yset (yset (yset mem 51 f (mem 48 4)) 48 6 0) 48 7 0) 48 9 1 i j = mem i j := fun i j q1 q2 => by
    have z : aFrm fvW (yset mem 51 f (mem 48 4)) (yset (yset (yset (yset mem 51 f (mem 48 4)) 48 6 0) 48 7 0) 48 9 1) := aFrm_set (aFrm_set (aFrm_set aFrm_rf rfl) rfl) rfl
    rw [z i j q1, yset_a]
    split
    · next e1 => rw [if_neg (fun e2 => q2 ⟨e1, e2⟩)]
    · rfl
  revert C T0 h9 h51 fr
  generalize yset (yset (yset (yset mem 51 f (mem 48 4)) 48 6 0) 48 7 0) 48 9 1 = b
  intro C T0 h9 h51 fr
  have fin : ∀ m', ftF b m' f → cTk ch n m' (yOf (pE y cn o)) → (∀ u, pE y cn o = .inr u → FoE m' f u) → Q none m' := fun m' g1 g2 g3 => hQ m' (fun i j q1 q2 q3 => by rw [g1 i j q1 q2]; exact fr i j q1 q3) g2 (fun u hu => ⟨g3 u hu, by rw [g1 51 f rfl (fun q => absurd q.1 (by decide))]; exact h51⟩)
  cases y with
  | inl e =>
    refine zgo_ok (n := 60) hE xmo_71 (cs := zc_71) ?_
    simp only [ynok_30, ynok_31, w32c_0, w32c_1, w32c_2, w32c_3, w32c_4, w32c_5, w32c_6, w32c_7, w32c_8, w32c_9, w32c_10, w32c_11, w32c_12, w32c_13, w32c_14, w32c_m1, w32c_m2, w32c_118, Int.reduceAdd, Int.reduceSub, Int.reduceMul, yput_s, yput_n, znl_n, znl_0, znl_1, znl_4, ysum_n, ysum_0, ysum_1, ysum_4, true_and, and_true, Nat.reduceAdd, Nat.reduceLeDiff, true_implies, eq_self, true_or, or_true, or_false, false_or, not_true_eq_false, not_false_eq_true, false_implies, implies_true, yset_s, yset_o, yset_d, ne_eq, Nat.reduceEqDiff, Int.reduceToNat, Int.reduceEq, Int.reduceLE, Int.reduceLT, Classical.not_not, Nat.reduceLT, ↓zvk_s, ↓zvk_n, ↓s_71_0, ↓s_71_1_22, ↓s_71_1_48, ↓s_71_4, ↓s_71_5, ↓s_71_6_22, ↓s_71_6_48, ↓s_71_9, ↓s_71_10, ↓s_71_11, ↓s_71_12_22, ↓s_71_12_48, ↓s_71_15, ↓s_71_16, ↓s_71_17_22, ↓s_71_17_48, ↓s_71_20, ↓s_71_21, ↓s_71_22_22, ↓s_71_22_48, ↓s_71_25, ↓s_71_26n, ↓s_71_26i, ↓s_71_26p, ↓s_71_27, ↓s_71_28n, ↓s_71_28i, ↓s_71_28p, ↓g_71_30, ↓k_71_30, ↓s_71_32, ↓s_71_35, ↓s_71_38, ↓s_71_39, ↓s_71_42, ↓s_71_43_22, ↓s_71_43_48, ↓s_71_46, ↓s_71_49, ↓s_71_50, ↓s_71_51, ↓s_71_54, ↓s_71_57, ↓s_71_58, ↓s_71_59, ↓g_71_62n, ↓g_71_62i, ↓g_71_62p, ↓k_71_62, ↓s_71_63, ↓s_71_64, ↓s_71_67, ↓s_71_68, ↓g_71_71n, ↓g_71_71i, ↓g_71_71p, ↓k_71_71, ↓s_71_74, ↓g_71_77, ↓k_71_77, ↓s_71_78, ↓s_71_79, ↓s_71_82, ↓s_71_83_22, ↓s_71_83_48, ↓s_71_86, ↓s_71_87, ↓s_71_88_22, ↓s_71_88_48, ↓s_71_91, ↓s_71_92, w32c_800, zio_48, zar_51, zia_51, zln_51, zit_51, zar_52, zia_52, zln_52, zit_52, zio_22, zio_55, zar_25, zia_25, zln_25, zit_25, zar_26, zia_26, zln_26, zit_26]
    rw [h9]
    refine ⟨fun h => absurd h (by decide), fun _ => ?_⟩
    have h7 : ¬ w32 (b 55 7) = 0 := fun h => T0.2.2.2.2.2.1 (by have := T0.2.2.2.2.1; omega)
    have g := g_fl1 (f := 1) T0 h7
    refine g_readValue0 hE (by omega) T0 ?_
    refine zgk_s hE xmo_71 60 zc_71 ?_
    simp only [ynok_30, ynok_31, w32c_0, w32c_1, w32c_2, w32c_3, w32c_4, w32c_5, w32c_6, w32c_7, w32c_8, w32c_9, w32c_10, w32c_11, w32c_12, w32c_13, w32c_14, w32c_m1, w32c_m2, w32c_118, Int.reduceAdd, Int.reduceSub, Int.reduceMul, yput_s, yput_n, znl_n, znl_0, znl_1, znl_4, ysum_n, ysum_0, ysum_1, ysum_4, true_and, and_true, Nat.reduceAdd, Nat.reduceLeDiff, true_implies, eq_self, true_or, or_true, or_false, false_or, not_true_eq_false, not_false_eq_true, false_implies, implies_true, yset_s, yset_o, yset_d, ne_eq, Nat.reduceEqDiff, Int.reduceToNat, Int.reduceEq, Int.reduceLE, Int.reduceLT, Classical.not_not, Nat.reduceLT, ↓zvk_s, ↓zvk_n, ↓s_71_0, ↓s_71_1_22, ↓s_71_1_48, ↓s_71_4, ↓s_71_5, ↓s_71_6_22, ↓s_71_6_48, ↓s_71_9, ↓s_71_10, ↓s_71_11, ↓s_71_12_22, ↓s_71_12_48, ↓s_71_15, ↓s_71_16, ↓s_71_17_22, ↓s_71_17_48, ↓s_71_20, ↓s_71_21, ↓s_71_22_22, ↓s_71_22_48, ↓s_71_25, ↓s_71_26n, ↓s_71_26i, ↓s_71_26p, ↓s_71_27, ↓s_71_28n, ↓s_71_28i, ↓s_71_28p, ↓g_71_30, ↓k_71_30, ↓s_71_32, ↓s_71_35, ↓s_71_38, ↓s_71_39, ↓s_71_42, ↓s_71_43_22, ↓s_71_43_48, ↓s_71_46, ↓s_71_49, ↓s_71_50, ↓s_71_51, ↓s_71_54, ↓s_71_57, ↓s_71_58, ↓s_71_59, ↓g_71_62n, ↓g_71_62i, ↓g_71_62p, ↓k_71_62, ↓s_71_63, ↓s_71_64, ↓s_71_67, ↓s_71_68, ↓g_71_71n, ↓g_71_71i, ↓g_71_71p, ↓k_71_71, ↓s_71_74, ↓g_71_77, ↓k_71_77, ↓s_71_78, ↓s_71_79, ↓s_71_82, ↓s_71_83_22, ↓s_71_83_48, ↓s_71_86, ↓s_71_87, ↓s_71_88_22, ↓s_71_88_48, ↓s_71_91, ↓s_71_92, w32c_800, zio_48, zar_51, zia_51, zln_51, zit_51, zar_52, zia_52, zln_52, zit_52, zio_22, zio_55, zar_25, zia_25, zln_25, zit_25, zar_26, zia_26, zln_26, zit_26]
    refine gt62_0 hE (by decide) (by decide) (fun g' i' => gt77 (x := .inl e) hE (by omega) hf hF (cf_fv g.1) g.2 (cFo_cf C g.1) (fun u hu => by cases hu) fin)
  | inr l =>
    have hl : l.length ≤ 801 := by
      obtain ⟨_, h8, _, _, _, e, _, ⟨a, h1, h2⟩, _⟩ := T0
      have h3 := sTl_len (Nat.le_trans h2.1.1 h2.1.2.1) h1
      omega
    exact gt30 hE (by omega) hf hF (sy_fuel (l.length + 1) true [] l cn 0 o (Nat.lt_succ_self _)) fin (l.length + 1) true [] l cn 0 o b 1 0 rfl aFrm_rf T0 C h9 w32c_1 (by decide) (by rw [w32c_0]; omega)
end CT
