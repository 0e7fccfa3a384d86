theorem sTl_len {ch : Nat → Int} {n a : Nat} {l : List sT} (ha : a ≤ n) (h : sTl ch n l a) : l.length ≤ n - a + 1 := by
  obtain ⟨l', h1, h2⟩ := sTl_ex ch n (n - a) a rfl ha
  rw [sTl_u h h1]
  exact h2
theorem sTl_a {ch : Nat → Int} {n a : Nat} {l : List sT} (h : sTl ch n l a) : 1 ≤ l.length := by
  cases l with
  | nil => exact h.elim
  | cons t r => exact Nat.succ_le_succ (Nat.zero_le _)
theorem cTk_ne {ch : Nat → Int} {n : Nat} {m : yMem} {l : List sT} (h : cTk ch n m (.inr l)) : 1 ≤ l.length := by
  obtain ⟨_, _, _, _, _, e, _, ⟨a, h1, _⟩, _⟩ := h
  exact sTl_a h1
/-- an E has been told -/
def FoE (m : yMem) (f : Nat) (u : sU) : Prop := (w32 (m 48 4) = (u.2.2.2.length : Int) ∧ cKs m u.2.2.2) ∧ w32 (m 48 8) = (u.2.1 : Int) ∧ u.2.2.2.length ≤ u.2.1 ∧ u.2.1 ≤ 64 ∧ w32 (m 52 f) = (u.2.2.2.length : Int)
def ftF (b m : yMem) (f : Nat) : Prop := ∀ i j, amod fvW i j = false → ¬ (i = 52 ∧ j = f) → m i j = b i j
def yOf (x : sX) : sY := match x with
  | .inl e => .inl e
  | .inr u => .inr u.1
section CS
variable {E : yE} {b m : yMem} {Q : Option yV → yMem → Prop} {ch : Nat → Int} {n : Nat} {d f : Nat} {F : Int} {x : sX}
/-- behind the loop -/
theorem gt77 (hE : yEok E) (hd : 6 ≤ d) (hf : f < 5) (hF : w32 F = (f : Int)) {w : List Nat} {cn op : Nat} {o : sK} {g i : Int} (F0 : aFrm fvW b m) (T : cTk ch n m (yOf x)) (C : cFo m w cn op o) (hx : ∀ u, x = .inr u → u = (u.1, cn, op, (sSt 1 w o).2)) (fin : ∀ m', ftF b m' f → cTk ch n m' (yOf x) → (∀ u, x = .inr u → FoE m' f u) → Q none m') : zG E (d + 1) xm_71 77 [some (1, 48), some (0, F), some (1, 55), some (0, g), some (0, i)] [] m Q := by
  have hFt : (w32 F).toNat = f := by rw [hF]; exact Int.toNat_natCast _
  refine zgo_ok (n := 60) hE xmo_71 (cs := zc_71) ?_
  simp only [ynok_30, ynok_31, w32c_0, w32c_1, w32c_2, w32c_3, w32c_4, w32c_5, w32c_6, w32c_7, w32c_8, w32c_9, w32c_10, w32c_11, w32c_12, w32c_13, w32c_14, w32c_m1, w32c_m2, w32c_118, Int.reduceAdd, Int.reduceSub, Int.reduceMul, yput_s, yput_n, znl_n, znl_0, znl_1, znl_4, ysum_n, ysum_0, ysum_1, ysum_4, true_and, and_true, Nat.reduceAdd, Nat.reduceLeDiff, true_implies, eq_self, true_or, or_true, or_false, false_or, not_true_eq_false, not_false_eq_true, false_implies, implies_true, yset_s, yset_o, yset_d, ne_eq, Nat.reduceEqDiff, Int.reduceToNat, Int.reduceEq, Int.reduceLE, Int.reduceLT, Classical.not_not, Nat.reduceLT, ↓zvk_s, ↓zvk_n, ↓s_71_0, ↓s_71_1_22, ↓s_71_1_48, ↓s_71_4, ↓s_71_5, ↓s_71_6_22, ↓s_71_6_48, ↓s_71_9, ↓s_71_10, ↓s_71_11, ↓s_71_12_22, ↓s_71_12_48, ↓s_71_15, ↓s_71_16, ↓s_71_17_22, ↓s_71_17_48, ↓s_71_20, ↓s_71_21, ↓s_71_22_22, ↓s_71_22_48, ↓s_71_25, ↓s_71_26n, ↓s_71_26i, ↓s_71_26p, ↓s_71_27, ↓s_71_28n, ↓s_71_28i, ↓s_71_28p, ↓g_71_30, ↓k_71_30, ↓s_71_32, ↓s_71_35, ↓s_71_38, ↓s_71_39, ↓s_71_42, ↓s_71_43_22, ↓s_71_43_48, ↓s_71_46, ↓s_71_49, ↓s_71_50, ↓s_71_51, ↓s_71_54, ↓s_71_57, ↓s_71_58, ↓s_71_59, ↓g_71_62n, ↓g_71_62i, ↓g_71_62p, ↓k_71_62, ↓s_71_63, ↓s_71_64, ↓s_71_67, ↓s_71_68, ↓g_71_71n, ↓g_71_71i, ↓g_71_71p, ↓k_71_71, ↓s_71_74, ↓g_71_77, ↓k_71_77, ↓s_71_78, ↓s_71_79, ↓s_71_82, ↓s_71_83_22, ↓s_71_83_48, ↓s_71_86, ↓s_71_87, ↓s_71_88_22, ↓s_71_88_48, ↓s_71_91, ↓s_71_92, w32c_800, zio_48, zar_51, zia_51, zln_51, zit_51, zar_52, zia_52, zln_52, zit_52, zio_22, zio_55, zar_25, zia_25, zln_25, zit_25, zar_26, zia_26, zln_26, zit_26]
  refine g_settle hE (by omega) (l := 1) (L := 1) (by decide) (by decide) C (fun m' F1 C1 => ?_)
  refine zgk_n hE xmo_71 60 zc_71 ?_
  simp only [ynok_30, ynok_31, w32c_0, w32c_1, w32c_2, w32c_3, w32c_4, w32c_5, w32c_6, w32c_7, w32c_8, w32c_9, w32c_10, w32c_11, w32c_12, w32c_13, w32c_14, w32c_m1, w32c_m2, w32c_118, Int.reduceAdd, Int.reduceSub, Int.reduceMul, yput_s, yput_n, znl_n, znl_0, znl_1, znl_4, ysum_n, ysum_0, ysum_1, ysum_4, true_and, and_true, Nat.reduceAdd, Nat.reduceLeDiff, true_implies, eq_self, true_or, or_true, or_false, false_or, not_true_eq_false, not_false_eq_true, false_implies, implies_true, yset_s, yset_o, yset_d, ne_eq, Nat.reduceEqDiff, Int.reduceToNat, Int.reduceEq, Int.reduceLE, Int.reduceLT, Classical.not_not, Nat.reduceLT, ↓zvk_s, ↓zvk_n, ↓s_71_0, ↓s_71_1_22, ↓s_71_1_48, ↓s_71_4, ↓s_71_5, ↓s_71_6_22, ↓s_71_6_48, ↓s_71_9, ↓s_71_10, ↓s_71_11, ↓s_71_12_22, ↓s_71_12_48, ↓s_71_15, ↓s_71_16, ↓s_71_17_22, ↓s_71_17_48, ↓s_71_20, ↓s_71_21, ↓s_71_22_22, ↓s_71_22_48, ↓s_71_25, ↓s_71_26n, ↓s_71_26i, ↓s_71_26p, ↓s_71_27, ↓s_71_28n, ↓s_71_28i, ↓s_71_28p, ↓g_71_30, ↓k_71_30, ↓s_71_32, ↓s_71_35, ↓s_71_38, ↓s_71_39, ↓s_71_42, ↓s_71_43_22, ↓s_71_43_48, ↓s_71_46, ↓s_71_49, ↓s_71_50, ↓s_71_51, ↓s_71_54, ↓s_71_57, ↓s_71_58, ↓s_71_59, ↓g_71_62n, ↓g_71_62i, ↓g_71_62p, ↓k_71_62, ↓s_71_63, ↓s_71_64, ↓s_71_67, ↓s_71_68, ↓g_71_71n, ↓g_71_71i, ↓g_71_71p, ↓k_71_71, ↓s_71_74, ↓g_71_77, ↓k_71_77, ↓s_71_78, ↓s_71_79, ↓s_71_82, ↓s_71_83_22, ↓s_71_83_48, ↓s_71_86, ↓s_71_87, ↓s_71_88_22, ↓s_71_88_48, ↓s_71_91, ↓s_71_92, w32c_800, zio_48, zar_51, zia_51, zln_51, zit_51, zar_52, zia_52, zln_52, zit_52, zio_22, zio_55, zar_25, zia_25, zln_25, zit_25, zar_26, zia_26, zln_26, zit_26]
  rw [hFt]
  refine ⟨⟨by omega, by omega⟩, fin _ (fun i j h1 h2 => ?_) (cTk_of (cTk_se T F1) (fun j => yset_o (by decide)) (fun j => yset_o (by decide)) (fun j => yset_o (by decide))) (fun u hu => ?_)⟩
  · rw [yset_a]
    split
    · next e1 =>
      rw [if_neg (fun e2 => h2 ⟨e1, e2⟩)]
      exact aFrm_tt F0 (se_fv F1) i j h1
    · exact aFrm_tt F0 (se_fv F1) i j h1
  · obtain ⟨u1, u2, u3, u4⟩ := u
    have := hx _ hu
    injection this with _ this
    injection this with q1 this
    injection this with q2 q3
    subst q1 q2 q3
    obtain ⟨⟨a1, a2⟩, ⟨a3, a4⟩, ⟨a5, a6⟩, a7, a8, a9, a10⟩ := C1
    exact ⟨⟨by rw [yset_o (by decide)]; exact a5, cKs_eq a6 (fun j _ => yset_o (by decide)) (fun j _ => yset_o (by decide))⟩, by rw [yset_o (by decide)]; exact a3, by show (sSt 1 w o).2.length ≤ u2; omega, a8, by rw [yset_s]; exact a5⟩
theorem gt62_0 (hE : yEok E) {g i : Int} (h0 : 0 ≤ w32 i) (h1 : w32 i ≤ 800) (h : ∀ g i, zG E (d + 1) xm_71 77 [some (1, 48), some (0, F), some (1, 55), some (0, g), some (0, i)] [] m Q) : zG E (d + 1) xm_71 62 [some (1, 48), some (0, F), some (1, 55), some (0, g), some (0, i)] [(0, 0)] m Q := by
  refine zgo_ok (n := 60) hE xmo_71 (cs := zc_71) ?_
  simp only [ynok_30, ynok_31, w32c_0, w32c_1, w32c_2, w32c_3, w32c_4, w32c_5, w32c_6, w32c_7, w32c_8, w32c_9, w32c_10, w32c_11, w32c_12, w32c_13, w32c_14, w32c_m1, w32c_m2, w32c_118, Int.reduceAdd, Int.reduceSub, Int.reduceMul, yput_s, yput_n, znl_n, znl_0, znl_1, znl_4, ysum_n, ysum_0, ysum_1, ysum_4, true_and, and_true, Nat.reduceAdd, Nat.reduceLeDiff, true_implies, eq_self, true_or, or_true, or_false, false_or, not_true_eq_false, not_false_eq_true, false_implies, implies_true, yset_s, yset_o, yset_d, ne_eq, Nat.reduceEqDiff, Int.reduceToNat, Int.reduceEq, Int.reduceLE, Int.reduceLT, Classical.not_not, Nat.reduceLT, ↓zvk_s, ↓zvk_n, ↓s_71_0, ↓s_71_1_22, ↓s_71_1_48, ↓s_71_4, ↓s_71_5, ↓s_71_6_22, ↓s_71_6_48, ↓s_71_9, ↓s_71_10, ↓s_71_11, ↓s_71_12_22, ↓s_71_12_48, ↓s_71_15, ↓s_71_16, ↓s_71_17_22, ↓s_71_17_48, ↓s_71_20, ↓s_71_21, ↓s_71_22_22, ↓s_71_22_48, ↓s_71_25, ↓s_71_26n, ↓s_71_26i, ↓s_71_26p, ↓s_71_27, ↓s_71_28n, ↓s_71_28i, ↓s_71_28p, ↓g_71_30, ↓k_71_30, ↓s_71_32, ↓s_71_35, ↓s_71_38, ↓s_71_39, ↓s_71_42, ↓s_71_43_22, ↓s_71_43_48, ↓s_71_46, ↓s_71_49, ↓s_71_50, ↓s_71_51, ↓s_71_54, ↓s_71_57, ↓s_71_58, ↓s_71_59, ↓g_71_62n, ↓g_71_62i, ↓g_71_62p, ↓k_71_62, ↓s_71_63, ↓s_71_64, ↓s_71_67, ↓s_71_68, ↓g_71_71n, ↓g_71_71i, ↓g_71_71p, ↓k_71_71, ↓s_71_74, ↓g_71_77, ↓k_71_77, ↓s_71_78, ↓s_71_79, ↓s_71_82, ↓s_71_83_22, ↓s_71_83_48, ↓s_71_86, ↓s_71_87, ↓s_71_88_22, ↓s_71_88_48, ↓s_71_91, ↓s_71_92, w32c_800, zio_48, zar_51, zia_51, zln_51, zit_51, zar_52, zia_52, zln_52, zit_52, zio_22, zio_55, zar_25, zia_25, zln_25, zit_25, zar_26, zia_26, zln_26, zit_26]
  refine zgo_ok (n := 60) hE xmo_71 (cs := zc_71) ?_
  simp only [ynok_30, ynok_31, w32c_0, w32c_1, w32c_2, w32c_3, w32c_4, w32c_5, w32c_6, w32c_7, w32c_8, w32c_9, w32c_10, w32c_11, w32c_12, w32c_13, w32c_14, w32c_m1, w32c_m2, w32c_118, Int.reduceAdd, Int.reduceSub, Int.reduceMul, yput_s, yput_n, znl_n, znl_0, znl_1, znl_4, ysum_n, ysum_0, ysum_1, ysum_4, true_and, and_true, Nat.reduceAdd, Nat.reduceLeDiff, true_implies, eq_self, true_or, or_true, or_false, false_or, not_true_eq_false, not_false_eq_true, false_implies, implies_true, yset_s, yset_o, yset_d, ne_eq, Nat.reduceEqDiff, Int.reduceToNat, Int.reduceEq, Int.reduceLE, Int.reduceLT, Classical.not_not, Nat.reduceLT, ↓zvk_s, ↓zvk_n, ↓s_71_0, ↓s_71_1_22, ↓s_71_1_48, ↓s_71_4, ↓s_71_5, ↓s_71_6_22, ↓s_71_6_48, ↓s_71_9, ↓s_71_10, ↓s_71_11, ↓s_71_12_22, ↓s_71_12_48, ↓s_71_15, ↓s_71_16, ↓s_71_17_22, ↓s_71_17_48, ↓s_71_20, ↓s_71_21, ↓s_71_22_22, ↓s_71_22_48, ↓s_71_25, ↓s_71_26n, ↓s_71_26i, ↓s_71_26p, ↓s_71_27, ↓s_71_28n, ↓s_71_28i, ↓s_71_28p, ↓g_71_30, ↓k_71_30, ↓s_71_32, ↓s_71_35, ↓s_71_38, ↓s_71_39, ↓s_71_42, ↓s_71_43_22, ↓s_71_43_48, ↓s_71_46, ↓s_71_49, ↓s_71_50, ↓s_71_51, ↓s_71_54, ↓s_71_57, ↓s_71_58, ↓s_71_59, ↓g_71_62n, ↓g_71_62i, ↓g_71_62p, ↓k_71_62, ↓s_71_63, ↓s_71_64, ↓s_71_67, ↓s_71_68, ↓g_71_71n, ↓g_71_71i, ↓g_71_71p, ↓k_71_71, ↓s_71_74, ↓g_71_77, ↓k_71_77, ↓s_71_78, ↓s_71_79, ↓s_71_82, ↓s_71_83_22, ↓s_71_83_48, ↓s_71_86, ↓s_71_87, ↓s_71_88_22, ↓s_71_88_48, ↓s_71_91, ↓s_71_92, w32c_800, zio_48, zar_51, zia_51, zln_51, zit_51, zar_52, zia_52, zln_52, zit_52, zio_22, zio_55, zar_25, zia_25, zln_25, zit_25, zar_26, zia_26, zln_26, zit_26]
  refine zgo_ok (n := 60) hE xmo_71 (cs := zc_71) ?_
  simp only [ynok_30, ynok_31, w32c_0, w32c_1, w32c_2, w32c_3, w32c_4, w32c_5, w32c_6, w32c_7, w32c_8, w32c_9, w32c_10, w32c_11, w32c_12, w32c_13, w32c_14, w32c_m1, w32c_m2, w32c_118, Int.reduceAdd, Int.reduceSub, Int.reduceMul, yput_s, yput_n, znl_n, znl_0, znl_1, znl_4, ysum_n, ysum_0, ysum_1, ysum_4, true_and, and_true, Nat.reduceAdd, Nat.reduceLeDiff, true_implies, eq_self, true_or, or_true, or_false, false_or, not_true_eq_false, not_false_eq_true, false_implies, implies_true, yset_s, yset_o, yset_d, ne_eq, Nat.reduceEqDiff, Int.reduceToNat, Int.reduceEq, Int.reduceLE, Int.reduceLT, Classical.not_not, Nat.reduceLT, ↓zvk_s, ↓zvk_n, ↓s_71_0, ↓s_71_1_22, ↓s_71_1_48, ↓s_71_4, ↓s_71_5, ↓s_71_6_22, ↓s_71_6_48, ↓s_71_9, ↓s_71_10, ↓s_71_11, ↓s_71_12_22, ↓s_71_12_48, ↓s_71_15, ↓s_71_16, ↓s_71_17_22, ↓s_71_17_48, ↓s_71_20, ↓s_71_21, ↓s_71_22_22, ↓s_71_22_48, ↓s_71_25, ↓s_71_26n, ↓s_71_26i, ↓s_71_26p, ↓s_71_27, ↓s_71_28n, ↓s_71_28i, ↓s_71_28p, ↓g_71_30, ↓k_71_30, ↓s_71_32, ↓s_71_35, ↓s_71_38, ↓s_71_39, ↓s_71_42, ↓s_71_43_22, ↓s_71_43_48, ↓s_71_46, ↓s_71_49, ↓s_71_50, ↓s_71_51, ↓s_71_54, ↓s_71_57, ↓s_71_58, ↓s_71_59, ↓g_71_62n, ↓g_71_62i, ↓g_71_62p, ↓k_71_62, ↓s_71_63, ↓s_71_64, ↓s_71_67, ↓s_71_68, ↓g_71_71n, ↓g_71_71i, ↓g_71_71p, ↓k_71_71, ↓s_71_74, ↓g_71_77, ↓k_71_77, ↓s_71_78, ↓s_71_79, ↓s_71_82, ↓s_71_83_22, ↓s_71_83_48, ↓s_71_86, ↓s_71_87, ↓s_71_88_22, ↓s_71_88_48, ↓s_71_91, ↓s_71_92, w32c_800, zio_48, zar_51, zia_51, zln_51, zit_51, zar_52, zia_52, zln_52, zit_52, zio_22, zio_55, zar_25, zia_25, zln_25, zit_25, zar_26, zia_26, zln_26, zit_26]
  exact ⟨fun _ => h _ _, fun _ => h _ _⟩
theorem gt62_1 (hE : yEok E) (hd : 4 ≤ d) {y : sY} {g i : Int} (T : cTk ch n m y) (h : ∀ m', aFrm cfF m m' → cTk ch n m' (yNx y) → zG E (d + 1) xm_71 30 [some (1, 48), some (0, F), some (1, 55), some (0, 1), some (0, i + 1)] [] m' Q) : zG E (d + 1) xm_71 62 [some (1, 48), some (0, F), some (1, 55), some (0, g), some (0, i)] [(0, 1)] m Q := by
  refine zgo_ok (n := 60) hE xmo_71 (cs := zc_71) ?_
  simp only [ynok_30, ynok_31, w32c_0, w32c_1, w32c_2, w32c_3, w32c_4, w32c_5, w32c_6, w32c_7, w32c_8, w32c_9, w32c_10, w32c_11, w32c_12, w32c_13, w32c_14, w32c_m1, w32c_m2, w32c_118, Int.reduceAdd, Int.reduceSub, Int.reduceMul, yput_s, yput_n, znl_n, znl_0, znl_1, znl_4, ysum_n, ysum_0, ysum_1, ysum_4, true_and, and_true, Nat.reduceAdd, Nat.reduceLeDiff, true_implies, eq_self, true_or, or_true, or_false, false_or, not_true_eq_false, not_false_eq_true, false_implies, implies_true, yset_s, yset_o, yset_d, ne_eq, Nat.reduceEqDiff, Int.reduceToNat, Int.reduceEq, Int.reduceLE, Int.reduceLT, Classical.not_not, Nat.reduceLT, ↓zvk_s, ↓zvk_n, ↓s_71_0, ↓s_71_1_22, ↓s_71_1_48, ↓s_71_4, ↓s_71_5, ↓s_71_6_22, ↓s_71_6_48, ↓s_71_9, ↓s_71_10, ↓s_71_11, ↓s_71_12_22, ↓s_71_12_48, ↓s_71_15, ↓s_71_16, ↓s_71_17_22, ↓s_71_17_48, ↓s_71_20, ↓s_71_21, ↓s_71_22_22, ↓s_71_22_48, ↓s_71_25, ↓s_71_26n, ↓s_71_26i, ↓s_71_26p, ↓s_71_27, ↓s_71_28n, ↓s_71_28i, ↓s_71_28p, ↓g_71_30, ↓k_71_30, ↓s_71_32, ↓s_71_35, ↓s_71_38, ↓s_71_39, ↓s_71_42, ↓s_71_43_22, ↓s_71_43_48, ↓s_71_46, ↓s_71_49, ↓s_71_50, ↓s_71_51, ↓s_71_54, ↓s_71_57, ↓s_71_58, ↓s_71_59, ↓g_71_62n, ↓g_71_62i, ↓g_71_62p, ↓k_71_62, ↓s_71_63, ↓s_71_64, ↓s_71_67, ↓s_71_68, ↓g_71_71n, ↓g_71_71i, ↓g_71_71p, ↓k_71_71, ↓s_71_74, ↓g_71_77, ↓k_71_77, ↓s_71_78, ↓s_71_79, ↓s_71_82, ↓s_71_83_22, ↓s_71_83_48, ↓s_71_86, ↓s_71_87, ↓s_71_88_22, ↓s_71_88_48, ↓s_71_91, ↓s_71_92, w32c_800, zio_48, zar_51, zia_51, zln_51, zit_51, zar_52, zia_52, zln_52, zit_52, zio_22, zio_55, zar_25, zia_25, zln_25, zit_25, zar_26, zia_26, zln_26, zit_26]
  refine g_next hE (by omega) T (fun m' F1 T1 => ?_)
  refine zgo_ok (n := 60) hE xmo_71 (cs := zc_71) ?_
  simp only [ynok_30, ynok_31, w32c_0, w32c_1, w32c_2, w32c_3, w32c_4, w32c_5, w32c_6, w32c_7, w32c_8, w32c_9, w32c_10, w32c_11, w32c_12, w32c_13, w32c_14, w32c_m1, w32c_m2, w32c_118, Int.reduceAdd, Int.reduceSub, Int.reduceMul, yput_s, yput_n, znl_n, znl_0, znl_1, znl_4, ysum_n, ysum_0, ysum_1, ysum_4, true_and, and_true, Nat.reduceAdd, Nat.reduceLeDiff, true_implies, eq_self, true_or, or_true, or_false, false_or, not_true_eq_false, not_false_eq_true, false_implies, implies_true, yset_s, yset_o, yset_d, ne_eq, Nat.reduceEqDiff, Int.reduceToNat, Int.reduceEq, Int.reduceLE, Int.reduceLT, Classical.not_not, Nat.reduceLT, ↓zvk_s, ↓zvk_n, ↓s_71_0, ↓s_71_1_22, ↓s_71_1_48, ↓s_71_4, ↓s_71_5, ↓s_71_6_22, ↓s_71_6_48, ↓s_71_9, ↓s_71_10, ↓s_71_11, ↓s_71_12_22, ↓s_71_12_48, ↓s_71_15, ↓s_71_16, ↓s_71_17_22, ↓s_71_17_48, ↓s_71_20, ↓s_71_21, ↓s_71_22_22, ↓s_71_22_48, ↓s_71_25, ↓s_71_26n, ↓s_71_26i, ↓s_71_26p, ↓s_71_27, ↓s_71_28n, ↓s_71_28i, ↓s_71_28p, ↓g_71_30, ↓k_71_30, ↓s_71_32, ↓s_71_35, ↓s_71_38, ↓s_71_39, ↓s_71_42, ↓s_71_43_22, ↓s_71_43_48, ↓s_71_46, ↓s_71_49, ↓s_71_50, ↓s_71_51, ↓s_71_54, ↓s_71_57, ↓s_71_58, ↓s_71_59, ↓g_71_62n, ↓g_71_62i, ↓g_71_62p, ↓k_71_62, ↓s_71_63, ↓s_71_64, ↓s_71_67, ↓s_71_68, ↓g_71_71n, ↓g_71_71i, ↓g_71_71p, ↓k_71_71, ↓s_71_74, ↓g_71_77, ↓k_71_77, ↓s_71_78, ↓s_71_79, ↓s_71_82, ↓s_71_83_22, ↓s_71_83_48, ↓s_71_86, ↓s_71_87, ↓s_71_88_22, ↓s_71_88_48, ↓s_71_91, ↓s_71_92, w32c_800, zio_48, zar_51, zia_51, zln_51, zit_51, zar_52, zia_52, zln_52, zit_52, zio_22, zio_55, zar_25, zia_25, zln_25, zit_25, zar_26, zia_26, zln_26, zit_26]
  exact h m' F1 T1
theorem gt30 (hE : yEok E) (hd : 6 ≤ d) (hf : f < 5) (hF : w32 F = (f : Int)) (hx0 : ∀ e, x = .inl e → e.1 ≠ 0) (fin : ∀ m', ftF b m' f → cTk ch n m' (yOf x) → (∀ u, x = .inr u → FoE m' f u) → Q none m') : ∀ (N : Nat) (v : Bool) (w : List Nat) (l : List sT) (cn op : Nat) (o : sK) (m : yMem) (g i : Int), sy N v w (l, cn, op, o) = x → aFrm fvW b m → cTk ch n m (.inr l) → cFo m w cn op o → w32 (m 48 9) = (if v then 1 else 0) → w32 g = 1 → 0 ≤ w32 i → w32 i + (l.length : Int) ≤ 801 → zG E (d + 1) xm_71 30 [some (1, 48), some (0, F), some (1, 55), some (0, g), some (0, i)] [] m Q := by
  intro N
  induction N with
  | zero =>
    intro v w l cn op o m g i hs
    exact absurd rfl (hx0 (0, 0) (by rw [← hs]; rfl))
  | succ N ih =>
    intro v w l cn op o m g i hs F0 T C h9 hg h0 hi
    have hl := cTk_ne T
    refine zgo_ok (n := 60) hE xmo_71 (cs := zc_71) ?_
    simp only [ynok_30, ynok_31, w32c_0, w32c_1, w32c_2, w32c_3, w32c_4, w32c_5, w32c_6, w32c_7, w32c_8, w32c_9, w32c_10, w32c_11, w32c_12, w32c_13, w32c_14, w32c_m1, w32c_m2, w32c_118, Int.reduceAdd, Int.reduceSub, Int.reduceMul, yput_s, yput_n, znl_n, znl_0, znl_1, znl_4, ysum_n, ysum_0, ysum_1, ysum_4, true_and, and_true, Nat.reduceAdd, Nat.reduceLeDiff, true_implies, eq_self, true_or, or_true, or_false, false_or, not_true_eq_false, not_false_eq_true, false_implies, implies_true, yset_s, yset_o, yset_d, ne_eq, Nat.reduceEqDiff, Int.reduceToNat, Int.reduceEq, Int.reduceLE, Int.reduceLT, Classical.not_not, Nat.reduceLT, ↓zvk_s, ↓zvk_n, ↓s_71_0, ↓s_71_1_22, ↓s_71_1_48, ↓s_71_4, ↓s_71_5, ↓s_71_6_22, ↓s_71_6_48, ↓s_71_9, ↓s_71_10, ↓s_71_11, ↓s_71_12_22, ↓s_71_12_48, ↓s_71_15, ↓s_71_16, ↓s_71_17_22, ↓s_71_17_48, ↓s_71_20, ↓s_71_21, ↓s_71_22_22, ↓s_71_22_48, ↓s_71_25, ↓s_71_26n, ↓s_71_26i, ↓s_71_26p, ↓s_71_27, ↓s_71_28n, ↓s_71_28i, ↓s_71_28p, ↓g_71_30, ↓k_71_30, ↓s_71_32, ↓s_71_35, ↓s_71_38, ↓s_71_39, ↓s_71_42, ↓s_71_43_22, ↓s_71_43_48, ↓s_71_46, ↓s_71_49, ↓s_71_50, ↓s_71_51, ↓s_71_54, ↓s_71_57, ↓s_71_58, ↓s_71_59, ↓g_71_62n, ↓g_71_62i, ↓g_71_62p, ↓k_71_62, ↓s_71_63, ↓s_71_64, ↓s_71_67, ↓s_71_68, ↓g_71_71n, ↓g_71_71i, ↓g_71_71p, ↓k_71_71, ↓s_71_74, ↓g_71_77, ↓k_71_77, ↓s_71_78, ↓s_71_79, ↓s_71_82, ↓s_71_83_22, ↓s_71_83_48, ↓s_71_86, ↓s_71_87, ↓s_71_88_22, ↓s_71_88_48, ↓s_71_91, ↓s_71_92, w32c_800, zio_48, zar_51, zia_51, zln_51, zit_51, zar_52, zia_52, zln_52, zit_52, zio_22, zio_55, zar_25, zia_25, zln_25, zit_25, zar_26, zia_26, zln_26, zit_26]
    rw [h9, hg]
    have hf0 : ∀ v, sy (N + 1) v w (l, cn, op, o) = x → hFa ch n (fun r m' => ∀ r', r = some (0, r') → zG E (d + 1) xm_71 62 [some (1, 48), some (0, F), some (1, 55), some (0, g), some (0, i)] [(0, r')] m' Q) m v w (l, cn, op, o) := fun v hs ff m' F1 T1 C1 es r' hr => by
      injection hr with hr
      injection hr with _ hr
      subst hr
      obtain ⟨w', cn', op', o', C1⟩ := C1
      have ex : x = .inl (ff, (sHd l).2.1) := by rw [← hs]; exact es N
      refine gt62_0 hE h0 (by omega) (fun g i => gt77 hE hd hf hF (aFrm_tt F0 F1) (by rw [ex]; exact T1) C1 (fun u hu => ?_) fin)
      rw [ex] at hu
      cases hu
    have hg0 : ∀ v, sy (N + 1) v w (l, cn, op, o) = x → hGo ch n (fun r m' => ∀ r', r = some (0, r') → zG E (d + 1) xm_71 62 [some (1, 48), some (0, F), some (1, 55), some (0, g), some (0, i)] [(0, r')] m' Q) m v w (l, cn, op, o) := fun v hs v' w' cn' op' o' m' F1 T1 C1 h9' hn0 es r' hr => by
      injection hr with hr
      injection hr with _ hr
      subst hr
      refine gt62_1 hE (by omega) T1 (fun m2 F2 T2 => ?_)
      have e1 : w32 (i + 1) = w32 i + 1 := by rw [w32_ad (by rw [w32c_1]; omega) (by rw [w32c_1]; omega), w32c_1]
      have en : yNx (.inr l) = .inr l.tail := by
        show Sum.inr (if _ then _ else _) = _
        rw [if_neg hn0]
      rw [en] at T2
      have ht : l.tail.length = l.length - 1 := List.length_tail
      refine ih v' w' l.tail cn' op' o' m2 1 (i + 1) (by rw [← hs, es N]) (aFrm_tt (aFrm_tt F0 F1) (cf_fv F2)) T2 (cFo_cf C1 F2) (by rw [F2 48 9 (amod_n55 (by decide))]; exact h9') w32c_1 (by omega) (by omega)
    refine ⟨fun h => absurd h (by omega), fun _ => ⟨fun h => absurd h (by decide), fun _ => ⟨fun hv => ?_, fun hv => ?_⟩⟩⟩
    · have hv' : v = false := by
        cases v with
        | false => rfl
        | true => exact absurd hv (by decide)
      subst hv'
      refine g_readSign hE (by omega) T C h9 (fun ff m' q1 q2 q3 q4 => hf0 false hs ff m' q1 q2 q3 q4 0 rfl) (fun v' w' cn' op' o' m' q1 q2 q3 q4 q5 q6 => hg0 false hs v' w' cn' op' o' m' q1 q2 q3 q4 q5 q6 1 rfl) (fun m' F1 T1 C1 es => ?_)
      have ex : x = .inr (l, cn, op, (sSt 1 w o).2) := by rw [← hs]; exact es N
      refine gt62_0 hE h0 (by omega) (fun g i => gt77 hE hd hf hF (aFrm_tt F0 F1) (by rw [ex]; exact T1) C1 (fun u hu => ?_) fin)
      rw [ex] at hu
      injection hu with hu
      rw [← hu]
    · have hv' : v = true := by
        cases v with
        | true => rfl
        | false => exact absurd (by decide) hv
      subst hv'
      refine g_readValue hE (by omega) T C h9 (fun ff m' q1 q2 q3 q4 => ?_) (fun v' w' cn' op' o' m' q1 q2 q3 q4 q5 q6 => ?_)
      · refine zgk_s hE xmo_71 60 zc_71 ?_
        simp only [ynok_30, ynok_31, w32c_0, w32c_1, w32c_2, w32c_3, w32c_4, w32c_5, w32c_6, w32c_7, w32c_8, w32c_9, w32c_10, w32c_11, w32c_12, w32c_13, w32c_14, w32c_m1, w32c_m2, w32c_118, Int.reduceAdd, Int.reduceSub, Int.reduceMul, yput_s, yput_n, znl_n, znl_0, znl_1, znl_4, ysum_n, ysum_0, ysum_1, ysum_4, true_and, and_true, Nat.reduceAdd, Nat.reduceLeDiff, true_implies, eq_self, true_or, or_true, or_false, false_or, not_true_eq_false, not_false_eq_true, false_implies, implies_true, yset_s, yset_o, yset_d, ne_eq, Nat.reduceEqDiff, Int.reduceToNat, Int.reduceEq, Int.reduceLE, Int.reduceLT, Classical.not_not, Nat.reduceLT, ↓zvk_s, ↓zvk_n, ↓s_71_0, ↓s_71_1_22, ↓s_71_1_48, ↓s_71_4, ↓s_71_5, ↓s_71_6_22, ↓s_71_6_48, ↓s_71_9, ↓s_71_10, ↓s_71_11, ↓s_71_12_22, ↓s_71_12_48, ↓s_71_15, ↓s_71_16, ↓s_71_17_22, ↓s_71_17_48, ↓s_71_20, ↓s_71_21, ↓s_71_22_22, ↓s_71_22_48, ↓s_71_25, ↓s_71_26n, ↓s_71_26i, ↓s_71_26p, ↓s_71_27, ↓s_71_28n, ↓s_71_28i, ↓s_71_28p, ↓g_71_30, ↓k_71_30, ↓s_71_32, ↓s_71_35, ↓s_71_38, ↓s_71_39, ↓s_71_42, ↓s_71_43_22, ↓s_71_43_48, ↓s_71_46, ↓s_71_49, ↓s_71_50, ↓s_71_51, ↓s_71_54, ↓s_71_57, ↓s_71_58, ↓s_71_59, ↓g_71_62n, ↓g_71_62i, ↓g_71_62p, ↓k_71_62, ↓s_71_63, ↓s_71_64, ↓s_71_67, ↓s_71_68, ↓g_71_71n, ↓g_71_71i, ↓g_71_71p, ↓k_71_71, ↓s_71_74, ↓g_71_77, ↓k_71_77, ↓s_71_78, ↓s_71_79, ↓s_71_82, ↓s_71_83_22, ↓s_71_83_48, ↓s_71_86, ↓s_71_87, ↓s_71_88_22, ↓s_71_88_48, ↓s_71_91, ↓s_71_92, w32c_800, zio_48, zar_51, zia_51, zln_51, zit_51, zar_52, zia_52, zln_52, zit_52, zio_22, zio_55, zar_25, zia_25, zln_25, zit_25, zar_26, zia_26, zln_26, zit_26]
        exact hf0 true hs ff m' q1 q2 q3 q4 0 rfl
      · refine zgk_s hE xmo_71 60 zc_71 ?_
        simp only [ynok_30, ynok_31, w32c_0, w32c_1, w32c_2, w32c_3, w32c_4, w32c_5, w32c_6, w32c_7, w32c_8, w32c_9, w32c_10, w32c_11, w32c_12, w32c_13, w32c_14, w32c_m1, w32c_m2, w32c_118, Int.reduceAdd, Int.reduceSub, Int.reduceMul, yput_s, yput_n, znl_n, znl_0, znl_1, znl_4, ysum_n, ysum_0, ysum_1, ysum_4, true_and, and_true, Nat.reduceAdd, Nat.reduceLeDiff, true_implies, eq_self, true_or, or_true, or_false, false_or, not_true_eq_false, not_false_eq_true, false_implies, implies_true, yset_s, yset_o, yset_d, ne_eq, Nat.reduceEqDiff, Int.reduceToNat, Int.reduceEq, Int.reduceLE, Int.reduceLT, Classical.not_not, Nat.reduceLT, ↓zvk_s, ↓zvk_n, ↓s_71_0, ↓s_71_1_22, ↓s_71_1_48, ↓s_71_4, ↓s_71_5, ↓s_71_6_22, ↓s_71_6_48, ↓s_71_9, ↓s_71_10, ↓s_71_11, ↓s_71_12_22, ↓s_71_12_48, ↓s_71_15, ↓s_71_16, ↓s_71_17_22, ↓s_71_17_48, ↓s_71_20, ↓s_71_21, ↓s_71_22_22, ↓s_71_22_48, ↓s_71_25, ↓s_71_26n, ↓s_71_26i, ↓s_71_26p, ↓s_71_27, ↓s_71_28n, ↓s_71_28i, ↓s_71_28p, ↓g_71_30, ↓k_71_30, ↓s_71_32, ↓s_71_35, ↓s_71_38, ↓s_71_39, ↓s_71_42, ↓s_71_43_22, ↓s_71_43_48, ↓s_71_46, ↓s_71_49, ↓s_71_50, ↓s_71_51, ↓s_71_54, ↓s_71_57, ↓s_71_58, ↓s_71_59, ↓g_71_62n, ↓g_71_62i, ↓g_71_62p, ↓k_71_62, ↓s_71_63, ↓s_71_64, ↓s_71_67, ↓s_71_68, ↓g_71_71n, ↓g_71_71i, ↓g_71_71p, ↓k_71_71, ↓s_71_74, ↓g_71_77, ↓k_71_77, ↓s_71_78, ↓s_71_79, ↓s_71_82, ↓s_71_83_22, ↓s_71_83_48, ↓s_71_86, ↓s_71_87, ↓s_71_88_22, ↓s_71_88_48, ↓s_71_91, ↓s_71_92, w32c_800, zio_48, zar_51, zia_51, zln_51, zit_51, zar_52, zia_52, zln_52, zit_52, zio_22, zio_55, zar_25, zia_25, zln_25, zit_25, zar_26, zia_26, zln_26, zit_26]
        exact hg0 true hs v' w' cn' op' o' m' q1 q2 q3 q4 q5 q6 1 rfl
end CS
