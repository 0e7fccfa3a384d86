/-! THE CLASS'S text: its answer -/
def TP (mem m : yMem) : Prop := (∀ j, m 1 j = mem 1 j) ∧ (∀ j, m 56 j = mem 56 j)
def tpw (w : List (Nat × Nat)) : Bool := w.all (fun q => !(Nat.beq q.1 1) && !(Nat.beq q.1 56))
theorem tpw_ok {w : List (Nat × Nat)} (h : tpw w = true) {i j : Nat} (hi : i = 1 ∨ i = 56) : amod w i j = false := by
  cases hm : amod w i j with
  | false => rfl
  | true =>
    obtain ⟨q, q1, q2, q3⟩ := amod_ex hm
    have h2 := List.all_eq_true.mp h q q1
    rw [q2] at h2
    rcases hi with rfl | rfl <;> cases h2
theorem TP_of {w : List (Nat × Nat)} {mem m : yMem} (h : aFrm w mem m) (hw : tpw w = true) : TP mem m := ⟨fun j => h 1 j (tpw_ok hw (Or.inl rfl)), fun j => h 56 j (tpw_ok hw (Or.inr rfl))⟩
theorem TP_tr {a b c : yMem} (h1 : TP a b) (h2 : TP b c) : TP a c := ⟨fun j => by rw [h2.1 j, h1.1 j], fun j => by rw [h2.2 j, h1.2 j]⟩
theorem TP_set {a b : yMem} {i j : Nat} {x : Int} (h : TP a b) (hi : i ≠ 1 ∧ i ≠ 56) : TP a (yset b i j x) := ⟨fun k => by rw [yset_o (fun e => hi.1 e.symm)]; exact h.1 k, fun k => by rw [yset_o (fun e => hi.2 e.symm)]; exact h.2 k⟩
theorem ydv_0 {E : yE} {y z : Int} (h : (some ((0 : Nat), y)).map (ydv E) = (some ((0 : Nat), z)).map (ydv E)) : w32 y = w32 z := w32_iI (Value.int.inj (Option.some.inj h))
theorem g_xtext {E : yE} (hE : yEok E) (hm : yman Om) {D : Nat} (hD : 16 ≤ D) {mem : yMem} {Q : Option yV → yMem → Prop} {x : Int} {ch : Nat → Int} (hG : aGok mem) (hO : Om mem) (hB : cBy mem ch) (hW : cWd mem) (hQ : ∀ r m, XTQ mem x m → TP mem m → tRs ch (w32 (mem 0 11)) (w32 x) (w32 r) (w32 (mem 0 12), w32 (mem 0 13)) (w32 (m 0 12), w32 (m 0 13)) (hyS mem m) (fun X D => (yOk X → cDh m D) ∧ (¬ yOk X → hyS mem m)) → Q (some (0, r)) m) : yCon E D xm_41 [(1, 0), (0, x)] mem Q := by
  obtain ⟨d, rfl⟩ := Nat.exists_eq_add_of_le' hD
  refine e_41 ?_
  refine zvc_ok hE 90 zc_41 _ _ _ _ _ _ _ xmo_41 ?_
  have g11 := ag hG 0 11 ag_0_11
  have f12 : ¬ (0 ≤ w32 x ∧ w32 x ≤ w32 (mem 0 11)) → zG E (d + 15) xm_41 12 [some (1, 0), some (0, x), none] [] mem Q := fun hx => by
    refine zgo_ok (n := 60) hE xmo_41 (cs := zc_41) ?_
    simp only [ynok_30, ynok_31, w32c_0, w32c_1, w32c_2, w32c_3, w32c_4, w32c_5, w32c_6, w32c_7, w32c_8, w32c_9, w32c_10, w32c_11, w32c_12, w32c_13, w32c_14, w32c_m1, w32c_m2, w32c_118, Int.reduceAdd, Int.reduceSub, Int.reduceMul, yput_s, yput_n, znl_n, znl_0, znl_1, znl_4, ysum_n, ysum_0, ysum_1, ysum_4, true_and, and_true, Nat.reduceAdd, Nat.reduceLeDiff, true_implies, eq_self, true_or, or_true, or_false, false_or, not_true_eq_false, not_false_eq_true, false_implies, implies_true, yset_s, yset_o, yset_d, ne_eq, Nat.reduceEqDiff, Int.reduceToNat, Int.reduceEq, Int.reduceLE, Int.reduceLT, Classical.not_not, Nat.reduceLT, ↓zvk_s, ↓zvk_n, ↓s_41_0, ↓s_41_1, ↓s_41_4, ↓s_41_5, ↓s_41_6, ↓s_41_9, ↓g_41_12, ↓k_41_12, ↓s_41_14, ↓g_41_15, ↓k_41_15, ↓s_41_16, ↓s_41_19, ↓s_41_20, ↓s_41_23n, ↓s_41_23i, ↓s_41_23p, ↓s_41_24, ↓s_41_25, ↓s_41_26, ↓s_41_29, ↓s_41_30, ↓s_41_31, ↓s_41_34, ↓s_41_37, ↓s_41_40, ↓s_41_43, ↓s_41_44, ↓s_41_45, ↓s_41_48, ↓s_41_51, ↓s_41_54, ↓s_41_57, ↓s_41_58, ↓s_41_61, ↓s_41_64, ↓s_41_65, ↓s_41_66, ↓s_41_67, ↓s_41_70, ↓s_41_71, ↓s_41_74, ↓s_41_77, ↓s_41_78, ↓s_41_81, ↓s_41_82, ↓s_41_85, ↓s_41_88, ↓s_41_89, ↓s_41_92, ↓s_41_93, ↓s_41_96, ↓s_41_97, ↓s_41_98, ↓s_41_101, ↓s_41_102, ↓s_41_105, ↓s_41_106, ↓s_41_109, ↓s_41_110, zio_0, zio_64, zio_2, zio_71, zio_76, zio_54, zio_55, zio_57, zio_28]
    exact hQ _ _ ⟨hG, hO, fun _ _ _ => rfl, by rw [if_neg hx]⟩ ⟨fun _ => rfl, fun _ => rfl⟩ ⟨fun _ => ⟨by decide, rfl, fun _ _ _ => rfl⟩, fun z => absurd z hx⟩
  have f15 : 0 ≤ w32 x → w32 x ≤ w32 (mem 0 11) → zG E (d + 15) xm_41 15 [some (1, 0), some (0, x), none] [] mem Q := fun x0 x1 => by
    have g800 : w32 (mem 0 11) ≤ 800 := g11.2
    have C1 : yCon E (d + 15) xm_120 [(1, 54), (0, x)] mem (fun r m => (∃ y, r = some (0, y)) ∧ CQ mem m ∧ TP mem m ∧ ∀ c j, 2 ≤ c → c ≤ 26 → m c j = mem c j) := by
      refine as_153 yoc_Om hm E hE _ (show 8 ≤ _ by omega) _ rfl _ _ _ ⟨rfl, ⟨rfl, x0, by show w32 x ≤ 800; omega⟩, trivial⟩ hG hO (fun q hq => by cases hq) (fun r m1 he => ?_)
      have R1 := CQ_of he (by decide +kernel)
      have R2 := TP_of he.2.2.2.1 (by decide +kernel)
      have R3 : ∀ c j, 2 ≤ c → c ≤ 26 → m1 c j = mem c j := fun c j c1 c2 => he.2.2.2.1 c j (hyw_ok (by decide +kernel) c1 c2)
      obtain ⟨k1, -⟩ := he
      match r, k1 with
      | none, k1 => exact absurd (show (3 : Nat) = 99 from k1) (by decide)
      | some (t, y), k1 =>
        have ht : t = 0 := k1.1
        subst ht
        exact ⟨⟨y, rfl⟩, R1, R2, R3⟩
    have C2 : yCon E (d + 15) xm_120 [(1, 54), (0, x)] mem (fun r m => ∃ y l, r = some (0, y) ∧ sTl ch (w32 x).toNat l 0 ∧ cAt ch (w32 x).toNat m (pTx (l.length + 1) (.inr l) dD0 0).1 (pTx (l.length + 1) (.inr l) dD0 0).2.1 ∧ w32 y = (pTx (l.length + 1) (.inr l) dD0 0).2.2) := g_tell hE (by omega) hB hW (n := (w32 x).toNat) (by omega) (by omega) (fun m l r _ h1 h2 h3 => ⟨r, l, rfl, h1, h2, h3⟩)
    refine zgo_ok (n := 60) hE xmo_41 (cs := zc_41) ?_
    simp only [ynok_30, ynok_31, w32c_0, w32c_1, w32c_2, w32c_3, w32c_4, w32c_5, w32c_6, w32c_7, w32c_8, w32c_9, w32c_10, w32c_11, w32c_12, w32c_13, w32c_14, w32c_m1, w32c_m2, w32c_118, Int.reduceAdd, Int.reduceSub, Int.reduceMul, yput_s, yput_n, znl_n, znl_0, znl_1, znl_4, ysum_n, ysum_0, ysum_1, ysum_4, true_and, and_true, Nat.reduceAdd, Nat.reduceLeDiff, true_implies, eq_self, true_or, or_true, or_false, false_or, not_true_eq_false, not_false_eq_true, false_implies, implies_true, yset_s, yset_o, yset_d, ne_eq, Nat.reduceEqDiff, Int.reduceToNat, Int.reduceEq, Int.reduceLE, Int.reduceLT, Classical.not_not, Nat.reduceLT, ↓zvk_s, ↓zvk_n, ↓s_41_0, ↓s_41_1, ↓s_41_4, ↓s_41_5, ↓s_41_6, ↓s_41_9, ↓g_41_12, ↓k_41_12, ↓s_41_14, ↓g_41_15, ↓k_41_15, ↓s_41_16, ↓s_41_19, ↓s_41_20, ↓s_41_23n, ↓s_41_23i, ↓s_41_23p, ↓s_41_24, ↓s_41_25, ↓s_41_26, ↓s_41_29, ↓s_41_30, ↓s_41_31, ↓s_41_34, ↓s_41_37, ↓s_41_40, ↓s_41_43, ↓s_41_44, ↓s_41_45, ↓s_41_48, ↓s_41_51, ↓s_41_54, ↓s_41_57, ↓s_41_58, ↓s_41_61, ↓s_41_64, ↓s_41_65, ↓s_41_66, ↓s_41_67, ↓s_41_70, ↓s_41_71, ↓s_41_74, ↓s_41_77, ↓s_41_78, ↓s_41_81, ↓s_41_82, ↓s_41_85, ↓s_41_88, ↓s_41_89, ↓s_41_92, ↓s_41_93, ↓s_41_96, ↓s_41_97, ↓s_41_98, ↓s_41_101, ↓s_41_102, ↓s_41_105, ↓s_41_106, ↓s_41_109, ↓s_41_110, zio_0, zio_64, zio_2, zio_71, zio_76, zio_54, zio_55, zio_57, zio_28]
    refine yCon_mono (yCon_and C1 C2) (fun r m1 hm1 => ?_)
    obtain ⟨⟨⟨y, rfl⟩, R1, P1, Y1⟩, r', m2, ⟨y2, l, rfl, hl, hA, hy2⟩, al, er⟩ := hm1
    have ey : w32 y = w32 y2 := ydv_0 er
    have fin : ∀ r m, aGok m → Om m → (∀ i j, 95 ≤ i → m i j = mem i j) → w32 (m 0 11) = 0 → TP mem m → w32 r = tAn (pTx (l.length + 1) (.inr l) dD0 0).1 (pTx (l.length + 1) (.inr l) dD0 0).2.2 → (w32 (m 0 12), w32 (m 0 13)) = tFk (pTx (l.length + 1) (.inr l) dD0 0).1 → ((yOk (pTx (l.length + 1) (.inr l) dD0 0).1 → cDh m (pTx (l.length + 1) (.inr l) dD0 0).2.1) ∧ (¬ yOk (pTx (l.length + 1) (.inr l) dD0 0).1 → hyS mem m)) → Q (some (0, r)) m := fun r m h1 h2 h3 h4 h5 h6 h7 h8 => hQ r m ⟨h1, h2, h3, by rw [if_pos ⟨x0, x1⟩]; exact h4⟩ h5 ⟨fun z => absurd ⟨x0, x1⟩ z, fun _ => ⟨l, hl, h6, h7, h8⟩⟩
    refine zgk_s hE xmo_41 60 zc_41 ?_
    simp only [ynok_30, ynok_31, w32c_0, w32c_1, w32c_2, w32c_3, w32c_4, w32c_5, w32c_6, w32c_7, w32c_8, w32c_9, w32c_10, w32c_11, w32c_12, w32c_13, w32c_14, w32c_m1, w32c_m2, w32c_118, Int.reduceAdd, Int.reduceSub, Int.reduceMul, yput_s, yput_n, znl_n, znl_0, znl_1, znl_4, ysum_n, ysum_0, ysum_1, ysum_4, true_and, and_true, Nat.reduceAdd, Nat.reduceLeDiff, true_implies, eq_self, true_or, or_true, or_false, false_or, not_true_eq_false, not_false_eq_true, false_implies, implies_true, yset_s, yset_o, yset_d, ne_eq, Nat.reduceEqDiff, Int.reduceToNat, Int.reduceEq, Int.reduceLE, Int.reduceLT, Classical.not_not, Nat.reduceLT, ↓zvk_s, ↓zvk_n, ↓s_41_0, ↓s_41_1, ↓s_41_4, ↓s_41_5, ↓s_41_6, ↓s_41_9, ↓g_41_12, ↓k_41_12, ↓s_41_14, ↓g_41_15, ↓k_41_15, ↓s_41_16, ↓s_41_19, ↓s_41_20, ↓s_41_23n, ↓s_41_23i, ↓s_41_23p, ↓s_41_24, ↓s_41_25, ↓s_41_26, ↓s_41_29, ↓s_41_30, ↓s_41_31, ↓s_41_34, ↓s_41_37, ↓s_41_40, ↓s_41_43, ↓s_41_44, ↓s_41_45, ↓s_41_48, ↓s_41_51, ↓s_41_54, ↓s_41_57, ↓s_41_58, ↓s_41_61, ↓s_41_64, ↓s_41_65, ↓s_41_66, ↓s_41_67, ↓s_41_70, ↓s_41_71, ↓s_41_74, ↓s_41_77, ↓s_41_78, ↓s_41_81, ↓s_41_82, ↓s_41_85, ↓s_41_88, ↓s_41_89, ↓s_41_92, ↓s_41_93, ↓s_41_96, ↓s_41_97, ↓s_41_98, ↓s_41_101, ↓s_41_102, ↓s_41_105, ↓s_41_106, ↓s_41_109, ↓s_41_110, zio_0, zio_64, zio_2, zio_71, zio_76, zio_54, zio_55, zio_57, zio_28]
    have a1 : aGok (yset m1 0 11 0) := aGok_set R1.1 (by rw [ag_0_11]; decide)
    have o1 : Om (yset m1 0 11 0) := yoc_Om m1 _ (fun i j hi => yset_o (fun e => by subst e; exact absurd hi (by decide))) R1.2.1
    have S1 := CQ_set a1 o1 (i := 0) (j := 12) (x := m1 55 7) (by decide) (by decide) (ag_32 ag_0_12)
    have S2 := CQ_tr S1 (CQ_set S1.1 S1.2.1 (i := 0) (j := 13) (x := m1 55 8) (by decide) (by decide) (ag_32 ag_0_13))
    have P2 : TP mem (yset (yset (yset m1 0 11 0) 0 12 (m1 55 7)) 0 13 (m1 55 8)) := TP_set (TP_set (TP_set P1 (by decide)) (by decide)) (by decide)
    have e11 : w32 (yset (yset (yset m1 0 11 0) 0 12 (m1 55 7)) 0 13 (m1 55 8) 0 11) = 0 := by rw [yset_d (by decide), yset_d (by decide), yset_s]; decide
    have eup : ∀ i j, 95 ≤ i → yset (yset (yset m1 0 11 0) 0 12 (m1 55 7)) 0 13 (m1 55 8) i j = mem i j := fun i j hi => by rw [S2.2.2.1 i j hi, yset_o (by omega)]; exact R1.2.2.1 i j hi
    have e7 : w32 (m1 55 7) = w32 (m2 55 7) := al 55 7 rfl
    have e8 : w32 (m1 55 8) = w32 (m2 55 8) := al 55 8 rfl
    have v12 : yset (yset (yset m1 0 11 0) 0 12 (m1 55 7)) 0 13 (m1 55 8) 0 12 = m1 55 7 := by rw [yset_d (by decide), yset_s]
    have v13 : yset (yset (yset m1 0 11 0) 0 12 (m1 55 7)) 0 13 (m1 55 8) 0 13 = m1 55 8 := yset_s
    have hfk : (w32 (m1 55 7), w32 (m1 55 8)) = tFk (pTx (l.length + 1) (.inr l) dD0 0).1 := by
      rw [e7, e8]
      have hT := hA.1
      revert hT
      generalize (pTx (l.length + 1) (.inr l) dD0 0).1 = X
      intro hT
      cases X with
      | inl e => exact Prod.ext hT.2.2.2.2.1 hT.2.2.2.2.2.2.1
      | inr l' =>
        obtain ⟨_, _, _, _, g1, e, g2, _⟩ := hT
        exact Prod.ext g1 g2.2
    have sS : ∀ c j, 1 ≤ c → yset (yset (yset m1 0 11 0) 0 12 (m1 55 7)) 0 13 (m1 55 8) c j = m1 c j := fun c j hc => by rw [yset_o (by omega), yset_o (by omega), yset_o (by omega)]
    have hox : w32 (m1 55 7) = 0 ↔ yOk (pTx (l.length + 1) (.inr l) dD0 0).1 := by
      rw [e7]
      have hT := hA.1
      revert hT
      generalize (pTx (l.length + 1) (.inr l) dD0 0).1 = X
      intro hT
      cases X with
      | inl e => exact ⟨fun z => absurd z (by have := hT.2.2.2.2.1; have := hT.2.2.2.2.2.1; omega), fun z => absurd z yOk_in⟩
      | inr l' => exact ⟨fun _ => ⟨l', rfl⟩, fun _ => hT.2.2.2.2.1⟩
    refine ⟨fun h7 => ?_, fun h7 => fin _ _ S2.1 S2.2.1 eup e11 P2 ?_ (by rw [v12, v13]; exact hfk) ⟨fun z => absurd (hox.mpr z) h7, fun _ => hyS_f (fun c j c1 c2 => by rw [sS c j (by omega)]; exact Y1 c j c1 c2)⟩⟩
    · have hok : tAn (pTx (l.length + 1) (.inr l) dD0 0).1 (pTx (l.length + 1) (.inr l) dD0 0).2.2 = (pTx (l.length + 1) (.inr l) dD0 0).2.2 := by
        have hT := hA.1
        revert hT
        generalize (pTx (l.length + 1) (.inr l) dD0 0).1 = X
        intro hT
        cases X with
        | inl e => exact absurd (show w32 (m2 55 7) = 0 by rw [← e7]; exact h7) (by have := hT.2.2.2.2.1; have := hT.2.2.2.2.2.1; omega)
        | inr l' => rfl
      have C3 : yCon E (d + 15) xm_86 [(1, 2), (1, 28)] (yset (yset (yset m1 0 11 0) 0 12 (m1 55 7)) 0 13 (m1 55 8)) (fun r m3 => r = none ∧ CQ (yset (yset (yset m1 0 11 0) 0 12 (m1 55 7)) 0 13 (m1 55 8)) m3 ∧ TP mem m3 ∧ m3 0 12 = m1 55 7 ∧ m3 0 13 = m1 55 8) := by
        refine abs_take yoc_Om hm E hE _ (show 2 ≤ _ by omega) _ rfl _ _ _ ⟨rfl, rfl, trivial⟩ S2.1 S2.2.1 (fun q hq => by cases hq) (fun r m3 he => ?_)
        have R2 := CQ_of he (by decide +kernel)
        have P3 := TP_tr P2 (TP_of he.2.2.2.1 (by decide +kernel))
        have w12 := he.2.2.2.1 0 12 rfl
        have w13 := he.2.2.2.1 0 13 rfl
        rw [v12] at w12
        rw [v13] at w13
        obtain ⟨k1, -⟩ := he
        match r, k1 with
        | some y, k1 => exact absurd k1 (fun h => by cases h)
        | none, _ => exact ⟨rfl, R2, P3, w12, w13⟩
      have C4 : yCon E (d + 15) xm_86 [(1, 2), (1, 28)] (yset (yset (yset m1 0 11 0) 0 12 (m1 55 7)) 0 13 (m1 55 8)) (fun r m3 => ∀ c j, tkS c j → m3 c j = yset (yset (yset m1 0 11 0) 0 12 (m1 55 7)) 0 13 (m1 55 8) (c + 26) j) := g_take hE (by omega) (fun m' h1 _ => h1)
      refine yCon_mono (yCon_and C3 C4) (fun r m3 hm3 => ?_)
      obtain ⟨⟨rfl, R2, P3, w12, w13⟩, _, m3x, tk, al3, _⟩ := hm3
      have hcd : cDh m3 (pTx (l.length + 1) (.inr l) dD0 0).2.1 := by
        obtain ⟨lx, hlx⟩ := hox.mp h7
        exact cDh_tk (hA.2 lx hlx) (fun c j ht => by rw [al3 c j (yRl_t ht).1, tk c j ht, sS (c + 26) j (by omega), al (c + 26) j (yRl_t ht).2])
      refine zgk_n hE xmo_41 60 zc_41 ?_
      simp only [ynok_30, ynok_31, w32c_0, w32c_1, w32c_2, w32c_3, w32c_4, w32c_5, w32c_6, w32c_7, w32c_8, w32c_9, w32c_10, w32c_11, w32c_12, w32c_13, w32c_14, w32c_m1, w32c_m2, w32c_118, Int.reduceAdd, Int.reduceSub, Int.reduceMul, yput_s, yput_n, znl_n, znl_0, znl_1, znl_4, ysum_n, ysum_0, ysum_1, ysum_4, true_and, and_true, Nat.reduceAdd, Nat.reduceLeDiff, true_implies, eq_self, true_or, or_true, or_false, false_or, not_true_eq_false, not_false_eq_true, false_implies, implies_true, yset_s, yset_o, yset_d, ne_eq, Nat.reduceEqDiff, Int.reduceToNat, Int.reduceEq, Int.reduceLE, Int.reduceLT, Classical.not_not, Nat.reduceLT, ↓zvk_s, ↓zvk_n, ↓s_41_0, ↓s_41_1, ↓s_41_4, ↓s_41_5, ↓s_41_6, ↓s_41_9, ↓g_41_12, ↓k_41_12, ↓s_41_14, ↓g_41_15, ↓k_41_15, ↓s_41_16, ↓s_41_19, ↓s_41_20, ↓s_41_23n, ↓s_41_23i, ↓s_41_23p, ↓s_41_24, ↓s_41_25, ↓s_41_26, ↓s_41_29, ↓s_41_30, ↓s_41_31, ↓s_41_34, ↓s_41_37, ↓s_41_40, ↓s_41_43, ↓s_41_44, ↓s_41_45, ↓s_41_48, ↓s_41_51, ↓s_41_54, ↓s_41_57, ↓s_41_58, ↓s_41_61, ↓s_41_64, ↓s_41_65, ↓s_41_66, ↓s_41_67, ↓s_41_70, ↓s_41_71, ↓s_41_74, ↓s_41_77, ↓s_41_78, ↓s_41_81, ↓s_41_82, ↓s_41_85, ↓s_41_88, ↓s_41_89, ↓s_41_92, ↓s_41_93, ↓s_41_96, ↓s_41_97, ↓s_41_98, ↓s_41_101, ↓s_41_102, ↓s_41_105, ↓s_41_106, ↓s_41_109, ↓s_41_110, zio_0, zio_64, zio_2, zio_71, zio_76, zio_54, zio_55, zio_57, zio_28]
      refine abs_begin yoc_Om hm E hE _ (show 3 ≤ _ by omega) _ rfl _ _ _ ⟨rfl, rfl, trivial⟩ R2.1 R2.2.1 (fun q hq => by cases hq) (fun r m4 he => ?_)
      have R3 := CQ_tr R2 (CQ_of he (by decide +kernel))
      have P4 := TP_tr P3 (TP_of he.2.2.2.1 (by decide +kernel))
      have Y4 : ∀ c j, 2 ≤ c → c ≤ 26 → m4 c j = m3 c j := fun c j c1 c2 => he.2.2.2.1 c j (hyw_ok (by decide +kernel) c1 c2)
      have x12 := he.2.2.2.1 0 12 rfl
      have x13 := he.2.2.2.1 0 13 rfl
      rw [w12] at x12
      rw [w13] at x13
      obtain ⟨k1, -⟩ := he
      match r, k1 with
      | some y, k1 => exact absurd k1 (fun h => by cases h)
      | none, _ =>
        refine zgk_n hE xmo_41 60 zc_41 ?_
        simp only [ynok_30, ynok_31, w32c_0, w32c_1, w32c_2, w32c_3, w32c_4, w32c_5, w32c_6, w32c_7, w32c_8, w32c_9, w32c_10, w32c_11, w32c_12, w32c_13, w32c_14, w32c_m1, w32c_m2, w32c_118, Int.reduceAdd, Int.reduceSub, Int.reduceMul, yput_s, yput_n, znl_n, znl_0, znl_1, znl_4, ysum_n, ysum_0, ysum_1, ysum_4, true_and, and_true, Nat.reduceAdd, Nat.reduceLeDiff, true_implies, eq_self, true_or, or_true, or_false, false_or, not_true_eq_false, not_false_eq_true, false_implies, implies_true, yset_s, yset_o, yset_d, ne_eq, Nat.reduceEqDiff, Int.reduceToNat, Int.reduceEq, Int.reduceLE, Int.reduceLT, Classical.not_not, Nat.reduceLT, ↓zvk_s, ↓zvk_n, ↓s_41_0, ↓s_41_1, ↓s_41_4, ↓s_41_5, ↓s_41_6, ↓s_41_9, ↓g_41_12, ↓k_41_12, ↓s_41_14, ↓g_41_15, ↓k_41_15, ↓s_41_16, ↓s_41_19, ↓s_41_20, ↓s_41_23n, ↓s_41_23i, ↓s_41_23p, ↓s_41_24, ↓s_41_25, ↓s_41_26, ↓s_41_29, ↓s_41_30, ↓s_41_31, ↓s_41_34, ↓s_41_37, ↓s_41_40, ↓s_41_43, ↓s_41_44, ↓s_41_45, ↓s_41_48, ↓s_41_51, ↓s_41_54, ↓s_41_57, ↓s_41_58, ↓s_41_61, ↓s_41_64, ↓s_41_65, ↓s_41_66, ↓s_41_67, ↓s_41_70, ↓s_41_71, ↓s_41_74, ↓s_41_77, ↓s_41_78, ↓s_41_81, ↓s_41_82, ↓s_41_85, ↓s_41_88, ↓s_41_89, ↓s_41_92, ↓s_41_93, ↓s_41_96, ↓s_41_97, ↓s_41_98, ↓s_41_101, ↓s_41_102, ↓s_41_105, ↓s_41_106, ↓s_41_109, ↓s_41_110, zio_0, zio_64, zio_2, zio_71, zio_76, zio_54, zio_55, zio_57, zio_28]
        have T1 := CQ_tr R3 (CQ_set R3.1 R3.2.1 (i := 71) (j := 1) (x := 0) (by decide) (by decide) (by rw [ag_71_1]; decide))
        have T2 := CQ_tr T1 (CQ_set T1.1 T1.2.1 (i := 0) (j := 14) (x := 0) (by decide) (by decide) (by rw [ag_0_14]; decide))
        have T3 := CQ_tr T2 (CQ_set T2.1 T2.2.1 (i := 76) (j := 10) (x := 0) (by decide) (by decide) (by rw [ag_76_10]; decide))
        exact fin _ _ T3.1 T3.2.1 (fun i j hi => by rw [T3.2.2.1 i j hi]; exact eup i j hi) (by rw [T3.2.2.2]; exact e11) (TP_set (TP_set (TP_set P4 (by decide)) (by decide)) (by decide)) (by rw [hok, ey]; exact hy2) (by rw [yset_o (by decide), yset_d (by decide), yset_o (by decide), yset_o (by decide), yset_d (by decide), yset_o (by decide), x12, x13]; exact hfk) ⟨fun _ => cDh_w hcd (fun c j ht => by rw [yset_o (by have := tkS_c ht; omega), yset_o (by have := tkS_c ht; omega), yset_o (by have := tkS_c ht; omega), Y4 c j (tkS_c ht).1 (tkS_c ht).2]), fun z => absurd (hox.mp h7) z⟩
    · have hT := hA.1
      revert hT
      generalize (pTx (l.length + 1) (.inr l) dD0 0).1 = X
      intro hT
      cases X with
      | inl e => exact w32c_m1
      | inr l' => exact absurd (show w32 (m1 55 7) = 0 by rw [e7]; exact hT.2.2.2.2.1) h7
  simp only [ynok_30, ynok_31, w32c_0, w32c_1, w32c_2, w32c_3, w32c_4, w32c_5, w32c_6, w32c_7, w32c_8, w32c_9, w32c_10, w32c_11, w32c_12, w32c_13, w32c_14, w32c_m1, w32c_m2, w32c_118, Int.reduceAdd, Int.reduceSub, Int.reduceMul, yput_s, yput_n, znl_n, znl_0, znl_1, znl_4, ysum_n, ysum_0, ysum_1, ysum_4, true_and, and_true, Nat.reduceAdd, Nat.reduceLeDiff, true_implies, eq_self, true_or, or_true, or_false, false_or, not_true_eq_false, not_false_eq_true, false_implies, implies_true, yset_s, yset_o, yset_d, ne_eq, Nat.reduceEqDiff, Int.reduceToNat, Int.reduceEq, Int.reduceLE, Int.reduceLT, Classical.not_not, Nat.reduceLT, ↓zvk_s, ↓zvk_n, ↓s_41_0, ↓s_41_1, ↓s_41_4, ↓s_41_5, ↓s_41_6, ↓s_41_9, ↓g_41_12, ↓k_41_12, ↓s_41_14, ↓g_41_15, ↓k_41_15, ↓s_41_16, ↓s_41_19, ↓s_41_20, ↓s_41_23n, ↓s_41_23i, ↓s_41_23p, ↓s_41_24, ↓s_41_25, ↓s_41_26, ↓s_41_29, ↓s_41_30, ↓s_41_31, ↓s_41_34, ↓s_41_37, ↓s_41_40, ↓s_41_43, ↓s_41_44, ↓s_41_45, ↓s_41_48, ↓s_41_51, ↓s_41_54, ↓s_41_57, ↓s_41_58, ↓s_41_61, ↓s_41_64, ↓s_41_65, ↓s_41_66, ↓s_41_67, ↓s_41_70, ↓s_41_71, ↓s_41_74, ↓s_41_77, ↓s_41_78, ↓s_41_81, ↓s_41_82, ↓s_41_85, ↓s_41_88, ↓s_41_89, ↓s_41_92, ↓s_41_93, ↓s_41_96, ↓s_41_97, ↓s_41_98, ↓s_41_101, ↓s_41_102, ↓s_41_105, ↓s_41_106, ↓s_41_109, ↓s_41_110, zio_0, zio_64, zio_2, zio_71, zio_76, zio_54, zio_55, zio_57, zio_28]
  repeat' first | exact f12 (by omega) | exact f15 (by omega) (by omega) | omega | refine And.intro ?_ ?_ | intro _
