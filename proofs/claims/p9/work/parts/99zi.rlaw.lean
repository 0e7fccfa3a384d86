/-! THE REFERENCE: a sum, a law -/
theorem pE_rX {l : List sT} {cn : Nat} {o : sK} {x : sX} (h : rX 8 (l, cn, 0, o) x) : pEnd (yOf x) = pEnd (yOf (pE (.inr l) cn o)) ∧ (yOk (pEnd (yOf x)) → pE (.inr l) cn o = x) := by
  obtain ⟨⟨f, hf⟩, hx⟩ := h
  rcases rd_sy_all (f := f) (l := l) (cn := cn) (o := o) (fun e he => hx e (hf.symm.trans he)) with h1 | ⟨z, h1, h2, h3⟩
  · rw [hf] at h1
    rw [pE_en h1]
    exact ⟨rfl, fun _ => rfl⟩
  · rw [hf] at h1
    subst h1
    have hk : ¬ yKd (yOf (.inr z)) = 4 := fun e => by
      have e : (sHd z.1).1 = 4 := e
      rw [e] at h2
      exact absurd h2 (by decide)
    have e1 : pEnd (yOf (.inr z)) = .inl (1, (sHd z.1).2.1) := by
      unfold pEnd
      rw [if_neg hk]
      rfl
    rw [pE_en h3, e1]
    refine ⟨?_, fun z => absurd z yOk_in⟩
    show _ = pEnd (.inl (1, (sHd z.1).2.1))
    unfold pEnd
    rw [if_neg (show ¬ yKd (.inl (1, (sHd z.1).2.1)) = 4 from (by decide : ¬ (0 : Nat) = 4))]
    rfl
def rsF (b m : yMem) (f : Nat) : Prop := ∀ i j, amod exW i j = false → ¬ (i = 114 ∧ j = 5 + f) → ¬ (i = 115 ∧ j = 5 + f) → m i j = b i j
theorem rlR_rs {b m : yMem} {f : Nat} (h : rsF b m f) : rlR b m := fun i j hij => h i j (exW_rf hij) (fun z => hij (rlF_i ⟨by omega, by omega, by omega⟩)) (fun z => hij (rlF_i ⟨by omega, by omega, by omega⟩))
section RM
variable {E : yE} {mem b m : yMem} {Q : Option yV → yMem → Prop} {ch : Nat → Int} {n d f : Nat} {s : Int}
theorem rEx_s {u : sU} {c k : Nat} {z : Int} (h : rEx ch n m u) (hc : 98 ≤ c ∧ c ≤ 115) : rEx ch n (yset m c k z) u := by
  obtain ⟨h1, ⟨h2, h3⟩, ⟨h4, h5⟩, ⟨h6, h7⟩, h8⟩ := h
  exact ⟨rTk_s h1 ⟨by omega, by omega⟩, ⟨by rw [yset_o (by omega)]; exact h2, h3⟩, ⟨by rw [yset_o (by omega)]; exact h4, h5⟩, ⟨by rw [yset_o (by omega)]; exact h6, h7⟩, rKs_fr h8 (fun j _ => ⟨yset_o (by omega), yset_o (by omega)⟩)⟩
theorem rEr_s {x : sX} {c k : Nat} {z : Int} (h : rEr ch n m x) (hc : 98 ≤ c ∧ c ≤ 115) : rEr ch n (yset m c k z) x := by
  cases x with
  | inl e => exact rTk_s (x := .inl e) h ⟨by omega, by omega⟩
  | inr u => exact rEx_s (u := u) h hc
theorem rf_expressionF (hE : yEok E) {D : Nat} (hD : 680 ≤ D) (hf : ¬ w32 (mem 95 31) = 0) (hQ : Q none mem) : yCon E D xm_165 [(1, 95)] mem Q := (rexp_all (ch := fun _ => 0) (n := 0) hE 8 0 rfl (by omega) D (by omega) mem Q).1 hf hQ
theorem rsF_2 {b1 : yMem} (h : aFrm exW (yset mem 114 (5 + f) (mem 97 13)) b1) : rsF mem (yset b1 115 (5 + f) (b1 97 13)) f := fun i j h1 h2 h3 => by
  rw [yset_n2 h3, h i j h1, yset_n2 h2]
theorem rf_sumOf (hE : yEok E) {D : Nat} (hD : 682 ≤ D) (hs : w32 s = ((5 + f : Nat) : Int)) (hf5 : f < 5) {u : sU} (hu : rEx ch n mem u) (hQ : ∀ m x, rX 8 u x → rsF mem m f → rEr ch n m x → w32 (m 114 (5 + f)) = (u.2.2.2.length : Int) → (∀ z, x = .inr z → w32 (m 115 (5 + f)) = (z.2.2.2.length : Int)) → Q none m) : yCon E D xm_238 [(1, 95), (0, s)] mem Q := by
  obtain ⟨d, rfl⟩ := Nat.exists_eq_add_of_le' (show 2 ≤ D by omega)
  have hst : (w32 s).toNat = 5 + f := by rw [hs]; exact Int.toNat_natCast _
  refine e_238 ?_
  refine zvc_ok hE 60 [] _ _ _ _ _ _ _ xmo_238 ?_
  simp only [ynok_30, ynok_31, w32c_0, w32c_1, w32c_2, w32c_3, w32c_4, w32c_5, w32c_6, w32c_7, w32c_8, w32c_9, w32c_10, w32c_11, w32c_12, w32c_13, w32c_14, w32c_m1, w32c_m2, w32c_118, Int.reduceAdd, Int.reduceSub, Int.reduceMul, yput_s, yput_n, znl_n, znl_0, znl_1, znl_4, ysum_n, ysum_0, ysum_1, ysum_4, true_and, and_true, Nat.reduceAdd, Nat.reduceLeDiff, true_implies, eq_self, true_or, or_true, or_false, false_or, not_true_eq_false, not_false_eq_true, false_implies, implies_true, yset_s, yset_o, yset_d, ne_eq, Nat.reduceEqDiff, Int.reduceToNat, Int.reduceEq, Int.reduceLE, Int.reduceLT, Classical.not_not, Nat.reduceLT, ↓zvk_s, ↓zvk_n, ↓s_238_0, ↓s_238_1, ↓s_238_4, ↓s_238_5, ↓s_238_6, ↓s_238_8, ↓s_238_11, ↓s_238_12, ↓s_238_13, ↓s_238_16, ↓s_238_17, ↓s_238_20, ↓s_238_21, ↓s_238_22, ↓s_238_24, ↓s_238_27, ↓s_238_28, ↓s_170_0, ↓s_170_1, ↓s_170_4, ↓s_170_6, ↓s_170_7, ↓s_170_8, ↓s_170_9, zar_97, zia_97, zln_97, zit_97, zar_114, zia_114, zln_114, zit_114, zar_115, zia_115, zln_115, zit_115, zio_95]
  rw [hst]
  refine ⟨by omega, ⟨by omega, by omega⟩, ?_⟩
  refine rf_expression hE (by omega) (rEx_s hu (by decide)) (fun b1 x hx F R => ?_)
  refine zgk_n hE xmo_238 60 [] ?_
  simp only [ynok_30, ynok_31, w32c_0, w32c_1, w32c_2, w32c_3, w32c_4, w32c_5, w32c_6, w32c_7, w32c_8, w32c_9, w32c_10, w32c_11, w32c_12, w32c_13, w32c_14, w32c_m1, w32c_m2, w32c_118, Int.reduceAdd, Int.reduceSub, Int.reduceMul, yput_s, yput_n, znl_n, znl_0, znl_1, znl_4, ysum_n, ysum_0, ysum_1, ysum_4, true_and, and_true, Nat.reduceAdd, Nat.reduceLeDiff, true_implies, eq_self, true_or, or_true, or_false, false_or, not_true_eq_false, not_false_eq_true, false_implies, implies_true, yset_s, yset_o, yset_d, ne_eq, Nat.reduceEqDiff, Int.reduceToNat, Int.reduceEq, Int.reduceLE, Int.reduceLT, Classical.not_not, Nat.reduceLT, ↓zvk_s, ↓zvk_n, ↓s_238_0, ↓s_238_1, ↓s_238_4, ↓s_238_5, ↓s_238_6, ↓s_238_8, ↓s_238_11, ↓s_238_12, ↓s_238_13, ↓s_238_16, ↓s_238_17, ↓s_238_20, ↓s_238_21, ↓s_238_22, ↓s_238_24, ↓s_238_27, ↓s_238_28, ↓s_170_0, ↓s_170_1, ↓s_170_4, ↓s_170_6, ↓s_170_7, ↓s_170_8, ↓s_170_9, zar_97, zia_97, zln_97, zit_97, zar_114, zia_114, zln_114, zit_114, zar_115, zia_115, zln_115, zit_115, zio_95]
  rw [hst]
  refine ⟨by omega, ⟨by omega, by omega⟩, hQ _ x hx (rsF_2 F) (rEr_s R (by decide)) ?_ (fun z hz => ?_)⟩
  · rw [yset_o (by decide), F 114 _ (exW_i (by decide) (by decide) (by decide) (by decide)), yset_s]
    exact hu.2.2.2.1.1
  · subst hz
    rw [yset_s]
    exact R.2.2.2.1.1
theorem rf_sumOfF (hE : yEok E) {D : Nat} (hD : 682 ≤ D) (hs : w32 s = ((5 + f : Nat) : Int)) (hf5 : f < 5) {e : Nat × Nat} (h : rTk ch n mem (.inl e)) (hQ : ∀ m, rsF mem m f → rTk ch n m (.inl e) → Q none m) : yCon E D xm_238 [(1, 95), (0, s)] mem Q := by
  obtain ⟨d, rfl⟩ := Nat.exists_eq_add_of_le' (show 2 ≤ D by omega)
  have hst : (w32 s).toNat = 5 + f := by rw [hs]; exact Int.toNat_natCast _
  refine e_238 ?_
  refine zvc_ok hE 60 [] _ _ _ _ _ _ _ xmo_238 ?_
  simp only [ynok_30, ynok_31, w32c_0, w32c_1, w32c_2, w32c_3, w32c_4, w32c_5, w32c_6, w32c_7, w32c_8, w32c_9, w32c_10, w32c_11, w32c_12, w32c_13, w32c_14, w32c_m1, w32c_m2, w32c_118, Int.reduceAdd, Int.reduceSub, Int.reduceMul, yput_s, yput_n, znl_n, znl_0, znl_1, znl_4, ysum_n, ysum_0, ysum_1, ysum_4, true_and, and_true, Nat.reduceAdd, Nat.reduceLeDiff, true_implies, eq_self, true_or, or_true, or_false, false_or, not_true_eq_false, not_false_eq_true, false_implies, implies_true, yset_s, yset_o, yset_d, ne_eq, Nat.reduceEqDiff, Int.reduceToNat, Int.reduceEq, Int.reduceLE, Int.reduceLT, Classical.not_not, Nat.reduceLT, ↓zvk_s, ↓zvk_n, ↓s_238_0, ↓s_238_1, ↓s_238_4, ↓s_238_5, ↓s_238_6, ↓s_238_8, ↓s_238_11, ↓s_238_12, ↓s_238_13, ↓s_238_16, ↓s_238_17, ↓s_238_20, ↓s_238_21, ↓s_238_22, ↓s_238_24, ↓s_238_27, ↓s_238_28, ↓s_170_0, ↓s_170_1, ↓s_170_4, ↓s_170_6, ↓s_170_7, ↓s_170_8, ↓s_170_9, zar_97, zia_97, zln_97, zit_97, zar_114, zia_114, zln_114, zit_114, zar_115, zia_115, zln_115, zit_115, zio_95]
  rw [hst]
  refine ⟨by omega, ⟨by omega, by omega⟩, ?_⟩
  refine rf_expressionF hE (by omega) (by rw [yset_o (by decide)]; exact rTk_f h) ?_
  refine zgk_n hE xmo_238 60 [] ?_
  simp only [ynok_30, ynok_31, w32c_0, w32c_1, w32c_2, w32c_3, w32c_4, w32c_5, w32c_6, w32c_7, w32c_8, w32c_9, w32c_10, w32c_11, w32c_12, w32c_13, w32c_14, w32c_m1, w32c_m2, w32c_118, Int.reduceAdd, Int.reduceSub, Int.reduceMul, yput_s, yput_n, znl_n, znl_0, znl_1, znl_4, ysum_n, ysum_0, ysum_1, ysum_4, true_and, and_true, Nat.reduceAdd, Nat.reduceLeDiff, true_implies, eq_self, true_or, or_true, or_false, false_or, not_true_eq_false, not_false_eq_true, false_implies, implies_true, yset_s, yset_o, yset_d, ne_eq, Nat.reduceEqDiff, Int.reduceToNat, Int.reduceEq, Int.reduceLE, Int.reduceLT, Classical.not_not, Nat.reduceLT, ↓zvk_s, ↓zvk_n, ↓s_238_0, ↓s_238_1, ↓s_238_4, ↓s_238_5, ↓s_238_6, ↓s_238_8, ↓s_238_11, ↓s_238_12, ↓s_238_13, ↓s_238_16, ↓s_238_17, ↓s_238_20, ↓s_238_21, ↓s_238_22, ↓s_238_24, ↓s_238_27, ↓s_238_28, ↓s_170_0, ↓s_170_1, ↓s_170_4, ↓s_170_6, ↓s_170_7, ↓s_170_8, ↓s_170_9, zar_97, zia_97, zln_97, zit_97, zar_114, zia_114, zln_114, zit_114, zar_115, zia_115, zln_115, zit_115, zio_95]
  rw [hst]
  refine ⟨by omega, ⟨by omega, by omega⟩, ?_⟩
  have := hQ _ (rsF_2 (mem := mem) (f := f) aFrm_rf) (rTk_s (rTk_s h (by decide)) (by decide))
  rw [yset_o (by decide)] at this
  exact this
/-- the formulas, one more -/
theorem rFs_up {fs : dFs} {z : sU} (h : rFs mem fs) (hf5 : f < 5) (hR : rEx ch n m z) (hz : z.2.2.1 = 0) (hF : rsF mem m f) (h1 : w32 (m 114 (5 + f)) = (fs.2.2.length : Int)) (h2 : w32 (m 115 (5 + f)) = (z.2.2.2.length : Int)) : rFs m (dFu fs f z) := by
  obtain ⟨g1, g2, g3, g4⟩ := h
  obtain ⟨r1, ⟨r2, r3⟩, ⟨r4, r5⟩, ⟨r6, r7⟩, r8⟩ := hR
  refine ⟨fun j hj => ?_, ⟨r6, r2, r7, r3⟩, r8, by rw [r4, hz]; rfl⟩
  show w32 (m 114 (5 + j)) = (if j = f then _ else fs.1 j).1 ∧ w32 (m 115 (5 + j)) = (if j = f then _ else fs.1 j).2
  by_cases hjf : j = f
  · subst hjf
    rw [if_pos rfl]
    exact ⟨h1, h2⟩
  · rw [if_neg hjf, hF 114 _ (exW_i (by decide) (by decide) (by decide) (by decide)) (by omega) (by omega), hF 115 _ (exW_i (by decide) (by decide) (by decide) (by decide)) (by omega) (by omega)]
    exact g1 j hj
theorem rFs_ex {fs : dFs} {l : List sT} (h : rFs m fs) (ht : rTk ch n m (.inr l)) : rEx ch n m (l, fs.2.1, 0, fs.2.2) := by
  obtain ⟨g1, ⟨g2, g3, g4, g5⟩, g6, g7⟩ := h
  exact ⟨ht, ⟨g3, g5⟩, ⟨g7, by show 0 ≤ 8; omega⟩, ⟨g2, g4⟩, g6⟩
/-- all but the formulas, behind a sum -/
theorem rDp_rs {D : dDc} {fs : dFs} (h : rDp mem D) (hF : rsF mem m f) (hs : rFs m fs) : rDp m (D.1, D.2.1, D.2.2.1, D.2.2.2.1, D.2.2.2.2.1, D.2.2.2.2.2.1, fs) := by
  obtain ⟨c1, c2, c3, c4, c5, c6⟩ := h
  have k : ∀ i j, 98 ≤ i → i ≤ 113 → m i j = mem i j := fun i j q1 q2 => hF i j (exW_i (by omega) (by omega) (by omega) (by omega)) (by omega) (by omega)
  have k7 : ∀ j, j ≠ 13 → m 97 j = mem 97 j := fun j q => hF 97 j (exW_97 q) (by omega) (by omega)
  exact ⟨rTv_fr c1 (k7 7 (by decide)) (fun i j h1 h2 => k i j (by omega) (by omega)), rVo_fr c2 (k7 8 (by decide)) (fun i j h1 h2 => k i j (by omega) (by omega)), rVe_fr c3 (k7 9 (by decide)) (fun i j h1 h2 => k i j (by omega) (by omega)), rBk_fr c4 (k7 10 (by decide)) (fun i j h1 h2 => k i j (by omega) (by omega)), ⟨by rw [k7 11 (by decide)]; exact c5.1, by rw [k7 12 (by decide)]; exact c5.2⟩, hs⟩
/-- from 65 on: the law k, not told yet -/
theorem rlw65 (hE : yEok E) (hd : 682 ≤ d) {k : Int} (hk : w32 k = (f : Int)) (hf2 : f < 2) {l : List sT} {D : dDc} {p q r s : Bool} (h : rTk ch n m (.inr l)) (hl0 : (sHd l).1 ≠ 0) (hD : rDp m D) (hT : rTd m p q r s) (hQ : ∀ m' x, rX 8 (l.tail, D.2.2.2.2.2.2.2.1, 0, D.2.2.2.2.2.2.2.2) x → rlR m m' → m' 95 25 = m 95 25 → rTk ch n m' (yOf x) → (∀ z, x = .inr z → rDp m' (D.1, D.2.1, D.2.2.1, D.2.2.2.1, D.2.2.2.2.1, D.2.2.2.2.2.1, dFu D.2.2.2.2.2.2 f z) ∧ rTd m' p q (r || decide (f = 0)) (s || decide (f = 1))) → Q none m') : zG E (d + 1) xm_203 65 [some (1, 95), some (0, k)] [] m Q := by
  refine zgo_ok (n := 60) hE xmo_203 (cs := zc_203) ?_
  have hf := rTk_0 h
  simp only [ynok_30, ynok_31, w32c_0, w32c_1, w32c_2, w32c_3, w32c_4, w32c_5, w32c_6, w32c_7, w32c_8, w32c_9, w32c_10, w32c_11, w32c_12, w32c_13, w32c_14, w32c_m1, w32c_m2, w32c_118, Int.reduceAdd, Int.reduceSub, Int.reduceMul, yput_s, yput_n, znl_n, znl_0, znl_1, znl_4, ysum_n, ysum_0, ysum_1, ysum_4, true_and, and_true, Nat.reduceAdd, Nat.reduceLeDiff, true_implies, eq_self, true_or, or_true, or_false, false_or, not_true_eq_false, not_false_eq_true, false_implies, implies_true, yset_s, yset_o, yset_d, ne_eq, Nat.reduceEqDiff, Int.reduceToNat, Int.reduceEq, Int.reduceLE, Int.reduceLT, Classical.not_not, Nat.reduceLT, ↓zvk_s, ↓zvk_n, ↓s_203_0, ↓s_203_1, ↓s_203_4, ↓s_203_7, ↓s_203_8, ↓s_203_11, ↓s_203_13, ↓s_203_16, ↓s_203_17, ↓s_203_20, ↓s_203_22, ↓s_203_25, ↓s_203_26, ↓s_203_27, ↓g_203_30, ↓k_203_30, ↓s_203_31, ↓s_203_34, ↓s_203_36, ↓s_203_37n, ↓s_203_37i, ↓s_203_37p, ↓s_203_38, ↓s_203_39, ↓s_203_42, ↓s_203_45, ↓s_203_46, ↓s_203_49, ↓s_203_51, ↓s_203_52, ↓s_203_53, ↓s_203_54, ↓s_203_55, ↓s_203_56, ↓s_203_57, ↓s_203_60, ↓s_203_61, ↓s_203_62, ↓g_203_65, ↓k_203_65, ↓s_203_66, ↓s_203_69, ↓s_203_72, ↓s_203_73, ↓s_203_74a, ↓s_203_74b, ↓s_203_75, ↓s_203_78, ↓s_203_79, ↓s_203_81, ↓s_203_82, ↓s_203_83, ↓s_203_84, ↓s_203_85, ↓s_203_88, ↓s_203_89, ↓s_203_92, ↓s_203_93, ↓s_203_94, ↓s_203_95, ↓s_203_96, ↓s_203_99, zio_95, hf]
  have e10 : w32 (10 + k) = ((10 + f : Nat) : Int) := by rw [w32_ad (by rw [show w32 10 = 10 by decide]; omega) (by rw [show w32 10 = 10 by decide]; omega), show w32 10 = 10 by decide]; omega
  have T1 := rTd_or hT e10 (by omega)
  have t1 : rTk ch n (yset m 95 24 (ybin 4 (m 95 24) (ybin 6 1 (10 + k)))) (.inr l) := rTk_of h (fun j j1 _ => yset_d (by omega)) (fun j => yset_o (by decide))
  have F0 : rtF m (yset m 95 24 (ybin 4 (m 95 24) (ybin 6 1 (10 + k)))) := fun i j hij => yset_n2 (fun z => hij ⟨z.1, Or.inl z.2⟩)
  have l0 : yset m 95 24 (ybin 4 (m 95 24) (ybin 6 1 (10 + k))) 95 25 = m 95 25 := yset_d (by decide)
  have D1 := rDp_fr hD F0
  revert T1 t1 F0 D1 l0
  generalize yset m 95 24 (ybin 4 (m 95 24) (ybin 6 1 (10 + k))) = m1
  intro T1 t1 F0 l0 D1
  refine rf_token hE (by omega) t1 (fun m2 F2 T2 => ?_)
  refine zgk_n hE xmo_203 60 zc_203 ?_
  simp only [ynok_30, ynok_31, w32c_0, w32c_1, w32c_2, w32c_3, w32c_4, w32c_5, w32c_6, w32c_7, w32c_8, w32c_9, w32c_10, w32c_11, w32c_12, w32c_13, w32c_14, w32c_m1, w32c_m2, w32c_118, Int.reduceAdd, Int.reduceSub, Int.reduceMul, yput_s, yput_n, znl_n, znl_0, znl_1, znl_4, ysum_n, ysum_0, ysum_1, ysum_4, true_and, and_true, Nat.reduceAdd, Nat.reduceLeDiff, true_implies, eq_self, true_or, or_true, or_false, false_or, not_true_eq_false, not_false_eq_true, false_implies, implies_true, yset_s, yset_o, yset_d, ne_eq, Nat.reduceEqDiff, Int.reduceToNat, Int.reduceEq, Int.reduceLE, Int.reduceLT, Classical.not_not, Nat.reduceLT, ↓zvk_s, ↓zvk_n, ↓s_203_0, ↓s_203_1, ↓s_203_4, ↓s_203_7, ↓s_203_8, ↓s_203_11, ↓s_203_13, ↓s_203_16, ↓s_203_17, ↓s_203_20, ↓s_203_22, ↓s_203_25, ↓s_203_26, ↓s_203_27, ↓g_203_30, ↓k_203_30, ↓s_203_31, ↓s_203_34, ↓s_203_36, ↓s_203_37n, ↓s_203_37i, ↓s_203_37p, ↓s_203_38, ↓s_203_39, ↓s_203_42, ↓s_203_45, ↓s_203_46, ↓s_203_49, ↓s_203_51, ↓s_203_52, ↓s_203_53, ↓s_203_54, ↓s_203_55, ↓s_203_56, ↓s_203_57, ↓s_203_60, ↓s_203_61, ↓s_203_62, ↓g_203_65, ↓k_203_65, ↓s_203_66, ↓s_203_69, ↓s_203_72, ↓s_203_73, ↓s_203_74a, ↓s_203_74b, ↓s_203_75, ↓s_203_78, ↓s_203_79, ↓s_203_81, ↓s_203_82, ↓s_203_83, ↓s_203_84, ↓s_203_85, ↓s_203_88, ↓s_203_89, ↓s_203_92, ↓s_203_93, ↓s_203_94, ↓s_203_95, ↓s_203_96, ↓s_203_99, zio_95]
  have F2' : rtF m1 m2 := rtF_rn (aFrm_w F2 (by decide))
  have D2 := rDp_fr D1 F2'
  have e5 : w32 (5 + k) = ((5 + f : Nat) : Int) := by rw [w32_ad (by rw [w32c_5]; omega) (by rw [w32c_5]; omega), w32c_5]; omega
  rw [sNx_t hl0] at T2
  refine rf_sumOf hE (by omega) e5 (by omega) (rFs_ex D2.2.2.2.2.2 T2) (fun m3 x hx F3 R3 w1 w2 => ?_)
  refine zgk_n hE xmo_203 60 zc_203 ?_
  simp only [ynok_30, ynok_31, w32c_0, w32c_1, w32c_2, w32c_3, w32c_4, w32c_5, w32c_6, w32c_7, w32c_8, w32c_9, w32c_10, w32c_11, w32c_12, w32c_13, w32c_14, w32c_m1, w32c_m2, w32c_118, Int.reduceAdd, Int.reduceSub, Int.reduceMul, yput_s, yput_n, znl_n, znl_0, znl_1, znl_4, ysum_n, ysum_0, ysum_1, ysum_4, true_and, and_true, Nat.reduceAdd, Nat.reduceLeDiff, true_implies, eq_self, true_or, or_true, or_false, false_or, not_true_eq_false, not_false_eq_true, false_implies, implies_true, yset_s, yset_o, yset_d, ne_eq, Nat.reduceEqDiff, Int.reduceToNat, Int.reduceEq, Int.reduceLE, Int.reduceLT, Classical.not_not, Nat.reduceLT, ↓zvk_s, ↓zvk_n, ↓s_203_0, ↓s_203_1, ↓s_203_4, ↓s_203_7, ↓s_203_8, ↓s_203_11, ↓s_203_13, ↓s_203_16, ↓s_203_17, ↓s_203_20, ↓s_203_22, ↓s_203_25, ↓s_203_26, ↓s_203_27, ↓g_203_30, ↓k_203_30, ↓s_203_31, ↓s_203_34, ↓s_203_36, ↓s_203_37n, ↓s_203_37i, ↓s_203_37p, ↓s_203_38, ↓s_203_39, ↓s_203_42, ↓s_203_45, ↓s_203_46, ↓s_203_49, ↓s_203_51, ↓s_203_52, ↓s_203_53, ↓s_203_54, ↓s_203_55, ↓s_203_56, ↓s_203_57, ↓s_203_60, ↓s_203_61, ↓s_203_62, ↓g_203_65, ↓k_203_65, ↓s_203_66, ↓s_203_69, ↓s_203_72, ↓s_203_73, ↓s_203_74a, ↓s_203_74b, ↓s_203_75, ↓s_203_78, ↓s_203_79, ↓s_203_81, ↓s_203_82, ↓s_203_83, ↓s_203_84, ↓s_203_85, ↓s_203_88, ↓s_203_89, ↓s_203_92, ↓s_203_93, ↓s_203_94, ↓s_203_95, ↓s_203_96, ↓s_203_99, zio_95]
  refine hQ m3 x hx (rlR_tr (rlR_tr (rlR_rt F0) (rlR_rt F2')) (rlR_rs F3)) (by rw [F3 95 25 rfl (by omega) (by omega), F2 95 25 rfl]; exact l0) ?_ (fun z hz => ⟨?_, ?_⟩)
  · cases x with
    | inl e => exact R3
    | inr z => exact R3.1
  · subst hz
    exact rDp_rs D2 F3 (rFs_up (ch := ch) (n := n) D2.2.2.2.2.2 (by omega) R3 (rX_inv (by decide) hx).1 F3 w1 (w2 z rfl))
  · have e1 : decide (f = 0) = decide (10 + f = 10) := by simp
    have e2 : decide (f = 1) = decide (10 + f = 11) := decide_eq_decide.mpr (by omega)
    have T1' := rTd_fr (m := m3) T1 (by rw [F3 95 24 rfl (by omega) (by omega), F2 95 24 rfl])
    rw [show decide (10 + f = 4) = false from decide_eq_false (by omega), show decide (10 + f = 5) = false from decide_eq_false (by omega), Bool.or_false, Bool.or_false, ← e1, ← e2] at T1'
    exact T1'
theorem rlwF (hE : yEok E) {k : Int} (hf : ¬ w32 (m 95 31) = 0) (hQ : Q none m) : zG E (d + 1) xm_203 65 [some (1, 95), some (0, k)] [] m Q := by
  refine zgo_ok (n := 60) hE xmo_203 (cs := zc_203) ?_
  simp only [ynok_30, ynok_31, w32c_0, w32c_1, w32c_2, w32c_3, w32c_4, w32c_5, w32c_6, w32c_7, w32c_8, w32c_9, w32c_10, w32c_11, w32c_12, w32c_13, w32c_14, w32c_m1, w32c_m2, w32c_118, Int.reduceAdd, Int.reduceSub, Int.reduceMul, yput_s, yput_n, znl_n, znl_0, znl_1, znl_4, ysum_n, ysum_0, ysum_1, ysum_4, true_and, and_true, Nat.reduceAdd, Nat.reduceLeDiff, true_implies, eq_self, true_or, or_true, or_false, false_or, not_true_eq_false, not_false_eq_true, false_implies, implies_true, yset_s, yset_o, yset_d, ne_eq, Nat.reduceEqDiff, Int.reduceToNat, Int.reduceEq, Int.reduceLE, Int.reduceLT, Classical.not_not, Nat.reduceLT, ↓zvk_s, ↓zvk_n, ↓s_203_0, ↓s_203_1, ↓s_203_4, ↓s_203_7, ↓s_203_8, ↓s_203_11, ↓s_203_13, ↓s_203_16, ↓s_203_17, ↓s_203_20, ↓s_203_22, ↓s_203_25, ↓s_203_26, ↓s_203_27, ↓g_203_30, ↓k_203_30, ↓s_203_31, ↓s_203_34, ↓s_203_36, ↓s_203_37n, ↓s_203_37i, ↓s_203_37p, ↓s_203_38, ↓s_203_39, ↓s_203_42, ↓s_203_45, ↓s_203_46, ↓s_203_49, ↓s_203_51, ↓s_203_52, ↓s_203_53, ↓s_203_54, ↓s_203_55, ↓s_203_56, ↓s_203_57, ↓s_203_60, ↓s_203_61, ↓s_203_62, ↓g_203_65, ↓k_203_65, ↓s_203_66, ↓s_203_69, ↓s_203_72, ↓s_203_73, ↓s_203_74a, ↓s_203_74b, ↓s_203_75, ↓s_203_78, ↓s_203_79, ↓s_203_81, ↓s_203_82, ↓s_203_83, ↓s_203_84, ↓s_203_85, ↓s_203_88, ↓s_203_89, ↓s_203_92, ↓s_203_93, ↓s_203_94, ↓s_203_95, ↓s_203_96, ↓s_203_99, zio_95, hf]
  exact hQ
theorem rlw30F (hE : yEok E) {r1 : Option yV} (hf : ¬ w32 (m 95 31) = 0) (hQ : Q none m) : zG E (d + 1) xm_203 30 [some (1, 95), r1] [] m Q := by
  refine zgo_ok (n := 60) hE xmo_203 (cs := zc_203) ?_
  simp only [ynok_30, ynok_31, w32c_0, w32c_1, w32c_2, w32c_3, w32c_4, w32c_5, w32c_6, w32c_7, w32c_8, w32c_9, w32c_10, w32c_11, w32c_12, w32c_13, w32c_14, w32c_m1, w32c_m2, w32c_118, Int.reduceAdd, Int.reduceSub, Int.reduceMul, yput_s, yput_n, znl_n, znl_0, znl_1, znl_4, ysum_n, ysum_0, ysum_1, ysum_4, true_and, and_true, Nat.reduceAdd, Nat.reduceLeDiff, true_implies, eq_self, true_or, or_true, or_false, false_or, not_true_eq_false, not_false_eq_true, false_implies, implies_true, yset_s, yset_o, yset_d, ne_eq, Nat.reduceEqDiff, Int.reduceToNat, Int.reduceEq, Int.reduceLE, Int.reduceLT, Classical.not_not, Nat.reduceLT, ↓zvk_s, ↓zvk_n, ↓s_203_0, ↓s_203_1, ↓s_203_4, ↓s_203_7, ↓s_203_8, ↓s_203_11, ↓s_203_13, ↓s_203_16, ↓s_203_17, ↓s_203_20, ↓s_203_22, ↓s_203_25, ↓s_203_26, ↓s_203_27, ↓g_203_30, ↓k_203_30, ↓s_203_31, ↓s_203_34, ↓s_203_36, ↓s_203_37n, ↓s_203_37i, ↓s_203_37p, ↓s_203_38, ↓s_203_39, ↓s_203_42, ↓s_203_45, ↓s_203_46, ↓s_203_49, ↓s_203_51, ↓s_203_52, ↓s_203_53, ↓s_203_54, ↓s_203_55, ↓s_203_56, ↓s_203_57, ↓s_203_60, ↓s_203_61, ↓s_203_62, ↓g_203_65, ↓k_203_65, ↓s_203_66, ↓s_203_69, ↓s_203_72, ↓s_203_73, ↓s_203_74a, ↓s_203_74b, ↓s_203_75, ↓s_203_78, ↓s_203_79, ↓s_203_81, ↓s_203_82, ↓s_203_83, ↓s_203_84, ↓s_203_85, ↓s_203_88, ↓s_203_89, ↓s_203_92, ↓s_203_93, ↓s_203_94, ↓s_203_95, ↓s_203_96, ↓s_203_99, ↓s_254_0, ↓s_254_1, ↓s_254_4, ↓s_254_7, ↓s_254_8, ↓s_254_9, ↓s_254_10, ↓s_254_13, ↓s_254_14, ↓s_254_15, ↓s_254_18, ↓s_254_21, zio_95, hf]
  exact rlwF hE hf hQ
/-- THE REFERENCE'S lawLine -/
theorem rf_lawLine (hE : yEok E) {D0 : Nat} (hD0 : 684 ≤ D0) {l : List sT} {D : dDc} {p q : Bool} (h : rTk ch n mem (.inr l)) (hD : rDp mem D) (hT : rTd mem p q (tlF D.2.2.2.2.2.2 0) (tlF D.2.2.2.2.2.2 1)) {W : sX × Nat} (hW : W = (if (sHd l).1 = 28 then (pL1 (tlF D.2.2.2.2.2.2 0) D.2.2.2.2.2.2.2.1 D.2.2.2.2.2.2.2.2 (.inr l), 0) else if (sHd l).1 = 29 then (pL1 (tlF D.2.2.2.2.2.2 1) D.2.2.2.2.2.2.2.1 D.2.2.2.2.2.2.2.2 (.inr l), 1) else (xFl 1 (.inr l), 0))) (hQ : ∀ m Y, rlR mem m → m 95 25 = mem 95 25 → rTk ch n m Y → pEnd Y = pEnd (yOf W.1) → (yOk (pEnd Y) → rDp m (D.1, D.2.1, D.2.2.1, D.2.2.2.1, D.2.2.2.2.1, D.2.2.2.2.2.1, dFx D.2.2.2.2.2.2 W.2 W.1) ∧ rTd m p q (tlF (dFx D.2.2.2.2.2.2 W.2 W.1) 0) (tlF (dFx D.2.2.2.2.2.2 W.2 W.1) 1)) → Q none m) : yCon E D0 xm_203 [(1, 95)] mem Q := by
  obtain ⟨d, rfl⟩ := Nat.exists_eq_add_of_le' (show 2 ≤ D0 by omega)
  refine e_203 ?_
  refine zvc_ok hE 60 zc_203 _ _ _ _ _ _ _ xmo_203 ?_
  have hf := rTk_0 h
  have hno : ∀ e : Nat × Nat, ¬ yOk (pEnd (.inl e)) := fun e z => yOk_in (pEnd_ok z).2
  have FL : ∀ k F, w32 F = ((k : Nat) : Int) → k ≠ 0 → yOf W.1 = yFl k (.inr l) → Q none (yset (yset mem 95 31 F) 95 32 (mem 95 28)) := fun k F h1 h2 h3 => by
    obtain ⟨G1, G2⟩ := rf_wr (f := k) (F := F) h h1 h2
    exact hQ _ (yFl k (.inr l)) (rlR_rn G1) (by rw [yset_d (by decide), yset_d (by decide)]) G2 (by rw [h3]) (fun z => absurd z (hno _))
  have one : ∀ (f : Nat) (v : Int), f < 2 → w32 (mem 95 30) = 11 + (f : Int) → (sHd l).1 ≠ 0 → W = (pL1 (tlF D.2.2.2.2.2.2 f) D.2.2.2.2.2.2.2.1 D.2.2.2.2.2.2.2.2 (.inr l), f) → zG E (d + 1) xm_203 30 [some (1, 95), none] [] mem Q := fun f v hf2 hv hl0 hWf => by
    refine zgo_ok (n := 60) hE xmo_203 (cs := zc_203) ?_
    have ek : w32 (mem 95 30 - 11) = (f : Int) := by rw [w32_sb (by rw [w32c_11]; omega) (by rw [w32c_11]; omega), w32c_11]; omega
    have e10 : w32 (10 + (mem 95 30 - 11)) = ((10 + f : Nat) : Int) := by rw [w32_ad (by rw [show w32 10 = 10 by decide]; omega) (by rw [show w32 10 = 10 by decide]; omega), show w32 10 = 10 by decide]; omega
    obtain ⟨t, t1, t2, t3, t4, t5, t6⟩ := id hT
    have tb := tb_test t1 t2 e10 (by omega)
    have tf : t.testBit (10 + f) = tlF D.2.2.2.2.2.2 f := by
      have : f = 0 ∨ f = 1 := by omega
      rcases this with rfl | rfl
      · exact t5
      · exact t6
    rw [tf] at tb
    simp only [ynok_30, ynok_31, w32c_0, w32c_1, w32c_2, w32c_3, w32c_4, w32c_5, w32c_6, w32c_7, w32c_8, w32c_9, w32c_10, w32c_11, w32c_12, w32c_13, w32c_14, w32c_m1, w32c_m2, w32c_118, Int.reduceAdd, Int.reduceSub, Int.reduceMul, yput_s, yput_n, znl_n, znl_0, znl_1, znl_4, ysum_n, ysum_0, ysum_1, ysum_4, true_and, and_true, Nat.reduceAdd, Nat.reduceLeDiff, true_implies, eq_self, true_or, or_true, or_false, false_or, not_true_eq_false, not_false_eq_true, false_implies, implies_true, yset_s, yset_o, yset_d, ne_eq, Nat.reduceEqDiff, Int.reduceToNat, Int.reduceEq, Int.reduceLE, Int.reduceLT, Classical.not_not, Nat.reduceLT, ↓zvk_s, ↓zvk_n, ↓s_203_0, ↓s_203_1, ↓s_203_4, ↓s_203_7, ↓s_203_8, ↓s_203_11, ↓s_203_13, ↓s_203_16, ↓s_203_17, ↓s_203_20, ↓s_203_22, ↓s_203_25, ↓s_203_26, ↓s_203_27, ↓g_203_30, ↓k_203_30, ↓s_203_31, ↓s_203_34, ↓s_203_36, ↓s_203_37n, ↓s_203_37i, ↓s_203_37p, ↓s_203_38, ↓s_203_39, ↓s_203_42, ↓s_203_45, ↓s_203_46, ↓s_203_49, ↓s_203_51, ↓s_203_52, ↓s_203_53, ↓s_203_54, ↓s_203_55, ↓s_203_56, ↓s_203_57, ↓s_203_60, ↓s_203_61, ↓s_203_62, ↓g_203_65, ↓k_203_65, ↓s_203_66, ↓s_203_69, ↓s_203_72, ↓s_203_73, ↓s_203_74a, ↓s_203_74b, ↓s_203_75, ↓s_203_78, ↓s_203_79, ↓s_203_81, ↓s_203_82, ↓s_203_83, ↓s_203_84, ↓s_203_85, ↓s_203_88, ↓s_203_89, ↓s_203_92, ↓s_203_93, ↓s_203_94, ↓s_203_95, ↓s_203_96, ↓s_203_99, ↓s_254_0, ↓s_254_1, ↓s_254_4, ↓s_254_7, ↓s_254_8, ↓s_254_9, ↓s_254_10, ↓s_254_13, ↓s_254_14, ↓s_254_15, ↓s_254_18, ↓s_254_21, zio_95, hf]
    refine ⟨fun hb => ?_, fun hb => ?_⟩
    · have tl0 : tlF D.2.2.2.2.2.2 f = false := Bool.eq_false_iff.mpr (fun z => hb (tb.mpr z))
      have eW : W = (pE (yNx (.inr l)) D.2.2.2.2.2.2.2.1 D.2.2.2.2.2.2.2.2, f) := by
        rw [hWf]
        unfold pL1
        rw [tl0]
        rfl
      refine rlw65 hE (by omega) ek hf2 h hl0 hD hT (fun m' x hx g1 g2 g3 g4 => ?_)
      have eN : yNx (.inr l) = .inr l.tail := congrArg Sum.inr (sNx_t hl0)
      rw [eN] at eW
      obtain ⟨P1, P2⟩ := pE_rX hx
      refine hQ m' (yOf x) g1 g2 g3 (by rw [eW]; exact P1) (fun z => ?_)
      have ex := P2 z
      rw [eW]
      dsimp only
      rw [ex]
      cases x with
      | inl e => exact absurd (pEnd_ok z).2 yOk_in
      | inr u =>
        obtain ⟨k1, k2⟩ := g4 u rfl
        refine ⟨k1, ?_⟩
        have hi := (rX_inv (by decide) hx).2.2.1
        have hi : D.2.2.2.2.2.2.2.2.length + 1 ≤ u.2.2.2.length := hi
        have w : ∀ j, tlF (dFx D.2.2.2.2.2.2 f (.inr u)) j = (tlF D.2.2.2.2.2.2 j || decide (f = j)) := fun j => by
          show decide ((if j = f then (((D.2.2.2.2.2.2.2.2.length : Nat) : Int), ((u.2.2.2.length : Nat) : Int)) else D.2.2.2.2.2.2.1 j).1 < (if j = f then (((D.2.2.2.2.2.2.2.2.length : Nat) : Int), ((u.2.2.2.length : Nat) : Int)) else D.2.2.2.2.2.2.1 j).2) = _
          by_cases hjf : j = f
          · rw [if_pos hjf, show decide (f = j) = true from decide_eq_true hjf.symm, Bool.or_true]
            exact decide_eq_true (by show ((D.2.2.2.2.2.2.2.2.length : Nat) : Int) < ((u.2.2.2.length : Nat) : Int); omega)
          · rw [if_neg hjf, show decide (f = j) = false from decide_eq_false (fun z => hjf z.symm), Bool.or_false]
            rfl
        rw [w 0, w 1]
        exact k2
    · have tl1 : tlF D.2.2.2.2.2.2 f = true := tb.mp hb
      refine rlwF hE (by rw [yset_d (by decide), yset_s]; decide) (FL 3 3 (by decide) (by decide) ?_)
      rw [hWf]
      unfold pL1
      rw [tl1]
      rfl
  by_cases h28 : (sHd l).1 = 28
  · rw [if_pos h28] at hW
    obtain ⟨q1, q2, q3⟩ := (rf_isw h (k0 := 28) (by decide) (by decide)).mpr h28
    have q3 : w32 (mem 95 30) = 11 := q3
    simp only [ynok_30, ynok_31, w32c_0, w32c_1, w32c_2, w32c_3, w32c_4, w32c_5, w32c_6, w32c_7, w32c_8, w32c_9, w32c_10, w32c_11, w32c_12, w32c_13, w32c_14, w32c_m1, w32c_m2, w32c_118, Int.reduceAdd, Int.reduceSub, Int.reduceMul, yput_s, yput_n, znl_n, znl_0, znl_1, znl_4, ysum_n, ysum_0, ysum_1, ysum_4, true_and, and_true, Nat.reduceAdd, Nat.reduceLeDiff, true_implies, eq_self, true_or, or_true, or_false, false_or, not_true_eq_false, not_false_eq_true, false_implies, implies_true, yset_s, yset_o, yset_d, ne_eq, Nat.reduceEqDiff, Int.reduceToNat, Int.reduceEq, Int.reduceLE, Int.reduceLT, Classical.not_not, Nat.reduceLT, ↓zvk_s, ↓zvk_n, ↓s_203_0, ↓s_203_1, ↓s_203_4, ↓s_203_7, ↓s_203_8, ↓s_203_11, ↓s_203_13, ↓s_203_16, ↓s_203_17, ↓s_203_20, ↓s_203_22, ↓s_203_25, ↓s_203_26, ↓s_203_27, ↓g_203_30, ↓k_203_30, ↓s_203_31, ↓s_203_34, ↓s_203_36, ↓s_203_37n, ↓s_203_37i, ↓s_203_37p, ↓s_203_38, ↓s_203_39, ↓s_203_42, ↓s_203_45, ↓s_203_46, ↓s_203_49, ↓s_203_51, ↓s_203_52, ↓s_203_53, ↓s_203_54, ↓s_203_55, ↓s_203_56, ↓s_203_57, ↓s_203_60, ↓s_203_61, ↓s_203_62, ↓g_203_65, ↓k_203_65, ↓s_203_66, ↓s_203_69, ↓s_203_72, ↓s_203_73, ↓s_203_74a, ↓s_203_74b, ↓s_203_75, ↓s_203_78, ↓s_203_79, ↓s_203_81, ↓s_203_82, ↓s_203_83, ↓s_203_84, ↓s_203_85, ↓s_203_88, ↓s_203_89, ↓s_203_92, ↓s_203_93, ↓s_203_94, ↓s_203_95, ↓s_203_96, ↓s_203_99, ↓s_254_0, ↓s_254_1, ↓s_254_4, ↓s_254_7, ↓s_254_8, ↓s_254_9, ↓s_254_10, ↓s_254_13, ↓s_254_14, ↓s_254_15, ↓s_254_18, ↓s_254_21, zio_95, q1, q2, q3]
    exact one 0 0 (by omega) (by rw [q3]; rfl) (by omega) hW
  · rw [if_neg h28] at hW
    by_cases h29 : (sHd l).1 = 29
    · rw [if_pos h29] at hW
      obtain ⟨q1, q2, q3⟩ := (rf_isw h (k0 := 29) (by decide) (by decide)).mpr h29
      have q3 : w32 (mem 95 30) = 12 := q3
      simp only [ynok_30, ynok_31, w32c_0, w32c_1, w32c_2, w32c_3, w32c_4, w32c_5, w32c_6, w32c_7, w32c_8, w32c_9, w32c_10, w32c_11, w32c_12, w32c_13, w32c_14, w32c_m1, w32c_m2, w32c_118, Int.reduceAdd, Int.reduceSub, Int.reduceMul, yput_s, yput_n, znl_n, znl_0, znl_1, znl_4, ysum_n, ysum_0, ysum_1, ysum_4, true_and, and_true, Nat.reduceAdd, Nat.reduceLeDiff, true_implies, eq_self, true_or, or_true, or_false, false_or, not_true_eq_false, not_false_eq_true, false_implies, implies_true, yset_s, yset_o, yset_d, ne_eq, Nat.reduceEqDiff, Int.reduceToNat, Int.reduceEq, Int.reduceLE, Int.reduceLT, Classical.not_not, Nat.reduceLT, ↓zvk_s, ↓zvk_n, ↓s_203_0, ↓s_203_1, ↓s_203_4, ↓s_203_7, ↓s_203_8, ↓s_203_11, ↓s_203_13, ↓s_203_16, ↓s_203_17, ↓s_203_20, ↓s_203_22, ↓s_203_25, ↓s_203_26, ↓s_203_27, ↓g_203_30, ↓k_203_30, ↓s_203_31, ↓s_203_34, ↓s_203_36, ↓s_203_37n, ↓s_203_37i, ↓s_203_37p, ↓s_203_38, ↓s_203_39, ↓s_203_42, ↓s_203_45, ↓s_203_46, ↓s_203_49, ↓s_203_51, ↓s_203_52, ↓s_203_53, ↓s_203_54, ↓s_203_55, ↓s_203_56, ↓s_203_57, ↓s_203_60, ↓s_203_61, ↓s_203_62, ↓g_203_65, ↓k_203_65, ↓s_203_66, ↓s_203_69, ↓s_203_72, ↓s_203_73, ↓s_203_74a, ↓s_203_74b, ↓s_203_75, ↓s_203_78, ↓s_203_79, ↓s_203_81, ↓s_203_82, ↓s_203_83, ↓s_203_84, ↓s_203_85, ↓s_203_88, ↓s_203_89, ↓s_203_92, ↓s_203_93, ↓s_203_94, ↓s_203_95, ↓s_203_96, ↓s_203_99, ↓s_254_0, ↓s_254_1, ↓s_254_4, ↓s_254_7, ↓s_254_8, ↓s_254_9, ↓s_254_10, ↓s_254_13, ↓s_254_14, ↓s_254_15, ↓s_254_18, ↓s_254_21, zio_95, q1, q2, q3]
      exact one 1 0 (by omega) (by rw [q3]; rfl) (by omega) hW
    · rw [if_neg h29] at hW
      have w0 := rlw30F hE (d := d) (r1 := none) (m := yset (yset mem 95 31 1) 95 32 (mem 95 28)) (by rw [yset_d (by decide), yset_s]; decide) (FL 1 1 (by decide) (by decide) (by rw [hW]; rfl))
      by_cases q2 : w32 (mem 95 29) = 0
      · have q3 : ¬ w32 (mem 95 30) = 11 := fun z => h28 ((rf_isw h (k0 := 28) (by decide) (by decide)).mp ⟨hf, q2, z⟩)
        have q4 : ¬ w32 (mem 95 30) = 12 := fun z => h29 ((rf_isw h (k0 := 29) (by decide) (by decide)).mp ⟨hf, q2, z⟩)
        simp only [ynok_30, ynok_31, w32c_0, w32c_1, w32c_2, w32c_3, w32c_4, w32c_5, w32c_6, w32c_7, w32c_8, w32c_9, w32c_10, w32c_11, w32c_12, w32c_13, w32c_14, w32c_m1, w32c_m2, w32c_118, Int.reduceAdd, Int.reduceSub, Int.reduceMul, yput_s, yput_n, znl_n, znl_0, znl_1, znl_4, ysum_n, ysum_0, ysum_1, ysum_4, true_and, and_true, Nat.reduceAdd, Nat.reduceLeDiff, true_implies, eq_self, true_or, or_true, or_false, false_or, not_true_eq_false, not_false_eq_true, false_implies, implies_true, yset_s, yset_o, yset_d, ne_eq, Nat.reduceEqDiff, Int.reduceToNat, Int.reduceEq, Int.reduceLE, Int.reduceLT, Classical.not_not, Nat.reduceLT, ↓zvk_s, ↓zvk_n, ↓s_203_0, ↓s_203_1, ↓s_203_4, ↓s_203_7, ↓s_203_8, ↓s_203_11, ↓s_203_13, ↓s_203_16, ↓s_203_17, ↓s_203_20, ↓s_203_22, ↓s_203_25, ↓s_203_26, ↓s_203_27, ↓g_203_30, ↓k_203_30, ↓s_203_31, ↓s_203_34, ↓s_203_36, ↓s_203_37n, ↓s_203_37i, ↓s_203_37p, ↓s_203_38, ↓s_203_39, ↓s_203_42, ↓s_203_45, ↓s_203_46, ↓s_203_49, ↓s_203_51, ↓s_203_52, ↓s_203_53, ↓s_203_54, ↓s_203_55, ↓s_203_56, ↓s_203_57, ↓s_203_60, ↓s_203_61, ↓s_203_62, ↓g_203_65, ↓k_203_65, ↓s_203_66, ↓s_203_69, ↓s_203_72, ↓s_203_73, ↓s_203_74a, ↓s_203_74b, ↓s_203_75, ↓s_203_78, ↓s_203_79, ↓s_203_81, ↓s_203_82, ↓s_203_83, ↓s_203_84, ↓s_203_85, ↓s_203_88, ↓s_203_89, ↓s_203_92, ↓s_203_93, ↓s_203_94, ↓s_203_95, ↓s_203_96, ↓s_203_99, ↓s_254_0, ↓s_254_1, ↓s_254_4, ↓s_254_7, ↓s_254_8, ↓s_254_9, ↓s_254_10, ↓s_254_13, ↓s_254_14, ↓s_254_15, ↓s_254_18, ↓s_254_21, zio_95, hf, q2, q3, q4]
        exact w0
      · simp only [ynok_30, ynok_31, w32c_0, w32c_1, w32c_2, w32c_3, w32c_4, w32c_5, w32c_6, w32c_7, w32c_8, w32c_9, w32c_10, w32c_11, w32c_12, w32c_13, w32c_14, w32c_m1, w32c_m2, w32c_118, Int.reduceAdd, Int.reduceSub, Int.reduceMul, yput_s, yput_n, znl_n, znl_0, znl_1, znl_4, ysum_n, ysum_0, ysum_1, ysum_4, true_and, and_true, Nat.reduceAdd, Nat.reduceLeDiff, true_implies, eq_self, true_or, or_true, or_false, false_or, not_true_eq_false, not_false_eq_true, false_implies, implies_true, yset_s, yset_o, yset_d, ne_eq, Nat.reduceEqDiff, Int.reduceToNat, Int.reduceEq, Int.reduceLE, Int.reduceLT, Classical.not_not, Nat.reduceLT, ↓zvk_s, ↓zvk_n, ↓s_203_0, ↓s_203_1, ↓s_203_4, ↓s_203_7, ↓s_203_8, ↓s_203_11, ↓s_203_13, ↓s_203_16, ↓s_203_17, ↓s_203_20, ↓s_203_22, ↓s_203_25, ↓s_203_26, ↓s_203_27, ↓g_203_30, ↓k_203_30, ↓s_203_31, ↓s_203_34, ↓s_203_36, ↓s_203_37n, ↓s_203_37i, ↓s_203_37p, ↓s_203_38, ↓s_203_39, ↓s_203_42, ↓s_203_45, ↓s_203_46, ↓s_203_49, ↓s_203_51, ↓s_203_52, ↓s_203_53, ↓s_203_54, ↓s_203_55, ↓s_203_56, ↓s_203_57, ↓s_203_60, ↓s_203_61, ↓s_203_62, ↓g_203_65, ↓k_203_65, ↓s_203_66, ↓s_203_69, ↓s_203_72, ↓s_203_73, ↓s_203_74a, ↓s_203_74b, ↓s_203_75, ↓s_203_78, ↓s_203_79, ↓s_203_81, ↓s_203_82, ↓s_203_83, ↓s_203_84, ↓s_203_85, ↓s_203_88, ↓s_203_89, ↓s_203_92, ↓s_203_93, ↓s_203_94, ↓s_203_95, ↓s_203_96, ↓s_203_99, ↓s_254_0, ↓s_254_1, ↓s_254_4, ↓s_254_7, ↓s_254_8, ↓s_254_9, ↓s_254_10, ↓s_254_13, ↓s_254_14, ↓s_254_15, ↓s_254_18, ↓s_254_21, zio_95, hf, q2]
        exact w0
end RM
