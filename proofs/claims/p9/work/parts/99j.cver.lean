theorem s_34_0 {E : yE} {n d : Nat} {mem : yMem} {Post : Option yV → yMem → Prop} {st : List yV} {r1 : Option yV} {x : Int} : zvc E (n + 1) [] d xm_34 0 [some (0, x), r1] (st) mem Post = (zvc E n [] d xm_34 1 [some (0, x), r1] ((0, x) :: st) mem Post) := zrf rfl
theorem s_34_1 {E : yE} {n d : Nat} {mem : yMem} {Post : Option yV → yMem → Prop} {st : List yV} {r0 r1 : Option yV} : zvc E (n + 1) [] d xm_34 1 [r0, r1] (st) mem Post = (zvc E n [] d xm_34 2 [r0, r1] ((0, 3) :: st) mem Post) := zrf rfl
theorem s_34_2 {E : yE} {n d : Nat} {mem : yMem} {Post : Option yV → yMem → Prop} {st : List yV} {r0 r1 : Option yV} {x y : Int} : zvc E (n + 1) [] d xm_34 2 [r0, r1] ((0, y) :: (0, x) :: st) mem Post = (zvc E n [] d xm_34 3 [r0, r1] ((0, x * y) :: st) mem Post) := zrf rfl
theorem s_34_3 {E : yE} {n d : Nat} {mem : yMem} {Post : Option yV → yMem → Prop} {st : List yV} {r0 : Option yV} {x : Int} : zvc E (n + 1) [] d xm_34 3 [r0, some (0, x)] (st) mem Post = (zvc E n [] d xm_34 4 [r0, some (0, x)] ((0, x) :: st) mem Post) := zrf rfl
theorem s_34_4 {E : yE} {n d : Nat} {mem : yMem} {Post : Option yV → yMem → Prop} {st : List yV} {r0 r1 : Option yV} {x y : Int} : zvc E (n + 1) [] d xm_34 4 [r0, r1] ((0, y) :: (0, x) :: st) mem Post = (zvc E n [] d xm_34 5 [r0, r1] ((0, x + y) :: st) mem Post) := zrf rfl
theorem s_34_5 {E : yE} {n d : Nat} {mem : yMem} {Post : Option yV → yMem → Prop} {r0 r1 : Option yV} {x : Int} : zvc E (n + 1) [] d xm_34 5 [r0, r1] ([(0, x)]) mem Post = (Post (some (0, x)) mem) := zrf rfl
theorem e_34 {E : yE} {d : Nat} {mem : yMem} {Q : Option yV → yMem → Prop} {a0 a1 : Int} (h : zG E d xm_34 0 [some (0, a0), some (0, a1)] [] mem Q) : yCon E (d + 1) xm_34 [(0, a0), (0, a1)] mem Q := zcon_of xmo_34 (Nat.le_of_ble_eq_true rfl) h

/-! VERSES: name, parts -/
def pPts : Nat → sY → List (List Int) × sY
  | 0, x => ([], x)
  | 1, x => ([(pPt x).1], if yKd (pPt x).2 = 27 then yFl 2 (pPt x).2 else (pPt x).2)
  | c + 2, x => if yKd (pPt x).2 = 27 then ((pPt x).1 :: (pPts (c + 1) (pPt x).2).1, (pPts (c + 1) (pPt x).2).2) else ([(pPt x).1], (pPt x).2)
theorem pBars_len : ∀ c x, (pBars c x).1.length ≤ c
  | 0, x => Nat.le_refl 0
  | 1, x => Nat.le_refl 1
  | c + 2, x => by
    show (if _ then _ else _ : List Int × sY).1.length ≤ c + 2
    split
    · have := pBars_len (c + 1) (yNm 0 40 x).2
      show (pBars (c + 1) (yNm 0 40 x).2).1.length + 1 ≤ c + 2
      omega
    · show 1 ≤ c + 2
      omega
theorem pPts_len : ∀ c x, (pPts c x).1.length ≤ c
  | 0, x => Nat.le_refl 0
  | 1, x => Nat.le_refl 1
  | c + 2, x => by
    show (if _ then _ else _ : List (List Int) × sY).1.length ≤ c + 2
    split
    · have := pPts_len (c + 1) (pPt x).2
      show (pPts (c + 1) (pPt x).2).1.length + 1 ≤ c + 2
      omega
    · show 1 ≤ c + 2
      omega
theorem pPt_len (x : sY) : (pPt x).1.length ≤ 8 := pBars_len 8 _
theorem pPts_mem : ∀ c x q, q ∈ (pPts c x).1 → q.length ≤ 8
  | 0, x, q, h => by cases h
  | 1, x, q, h => by
    rw [List.mem_singleton.mp h]
    exact pPt_len x
  | c + 2, x, q, h => by
    revert h
    show q ∈ (if _ then _ else _ : List (List Int) × sY).1 → _
    split
    · intro h
      rcases List.mem_cons.mp h with rfl | h
      · exact pPt_len x
      · exact pPts_mem (c + 1) _ q h
    · intro h
      rw [List.mem_singleton.mp h]
      exact pPt_len x
def veF (v i j : Nat) : Prop := (i = 46 ∧ v * 24 ≤ j ∧ j < v * 24 + 24) ∨ (i = 45 ∧ v * 3 ≤ j ∧ j < v * 3 + 3) ∨ (i = 44 ∧ j = v) ∨ i = 55
/-- a verse's parts -/
def cPs (m : yMem) (v : Nat) (l : List (List Int)) : Prop := ∀ p q, l[p]? = some q → q.length ≤ 8 ∧ w32 (m 45 (v * 3 + p)) = (q.length : Int) ∧ ∀ j w, q[j]? = some w → w32 (m 46 ((v * 3 + p) * 8 + j)) = w
def VeS (b m : yMem) (v : Nat) (l : List (List Int)) : Prop := (∀ i j, ¬ veF v i j → m i j = b i j) ∧ cPs m v l
theorem veF_fr {b m : yMem} {s i j : Nat} {x : Int} (h : ∀ i j, ¬ veF s i j → m i j = b i j) (hv : veF s i j) : ∀ i' j', ¬ veF s i' j' → yset m i j x i' j' = b i' j' := fun i' j' h' => by
  rw [yset_a]
  split
  · next e1 =>
    rw [if_neg (fun e2 => h' (by rw [e1, e2]; exact hv))]
    exact h i' j' h'
  · exact h i' j' h'
theorem cPs_eq {m m' : yMem} {v : Nat} {l : List (List Int)} (h : cPs m v l) (h5 : ∀ p, p < l.length → m' 45 (v * 3 + p) = m 45 (v * 3 + p)) (h6 : ∀ p j, p < l.length → j < 8 → m' 46 ((v * 3 + p) * 8 + j) = m 46 ((v * 3 + p) * 8 + j)) : cPs m' v l := fun p q hq => by
  obtain ⟨h1, h2, h3⟩ := h p q hq
  have hp := get_lt hq
  refine ⟨h1, by rw [h5 p hp]; exact h2, fun j w hw => ?_⟩
  have hj := get_lt hw
  rw [h6 p j hp (by omega)]
  exact h3 j w hw
section CN
variable {E : yE} {mem b : yMem} {Q : Option yV → yMem → Prop} {ch : Nat → Int} {n : Nat} {x : sY} {d v : Nat} {r : Int}
theorem rq20 (hE : yEok E) (hd : 7 ≤ d) (hs : v < 4) (hr : w32 r = (v : Int)) : ∀ c (k : Int) (y : sY) (m : yMem) (l : List (List Int)), w32 k = (l.length : Int) → c + l.length = 3 → 1 ≤ c → cTk ch n m y → VeS b m v l → (∀ m', cTk ch n m' (pPts c y).2 → VeS b m' v (l ++ (pPts c y).1) → w32 (m' 44 v) = ((l ++ (pPts c y).1).length : Int) → Q none m') → zG E (d + 1) xm_117 20 [some (1, 54), some (0, r), some (0, k)] [] m Q := by
  have hrt : (w32 r).toNat = v := by rw [hr]; exact Int.toNat_natCast _
  intro c
  induction c with
  | zero => intro k y m l _ _ h; omega
  | succ c ih =>
    intro k y m l hk hc _ h hS fin
    refine zgo_ok (n := 60) hE xmo_117 (cs := zc_117) ?_
    simp only [ynok_30, ynok_31, w32c_0, w32c_1, w32c_2, w32c_3, w32c_4, w32c_5, w32c_6, w32c_7, w32c_8, w32c_9, w32c_10, w32c_11, w32c_12, w32c_13, w32c_14, w32c_m1, w32c_m2, w32c_118, Int.reduceAdd, Int.reduceSub, Int.reduceMul, yput_s, yput_n, znl_n, znl_0, znl_1, znl_4, ysum_n, ysum_0, ysum_1, ysum_4, true_and, and_true, Nat.reduceAdd, Nat.reduceLeDiff, true_implies, eq_self, true_or, or_true, or_false, false_or, not_true_eq_false, not_false_eq_true, false_implies, implies_true, yset_s, yset_o, yset_d, ne_eq, Nat.reduceEqDiff, Int.reduceToNat, Int.reduceEq, Int.reduceLE, Int.reduceLT, Classical.not_not, Nat.reduceLT, ↓zvk_s, ↓zvk_n, ↓s_117_0, ↓s_117_1, ↓s_117_2, ↓s_117_5_2, ↓s_117_5_28, ↓s_117_8, ↓s_117_11n, ↓s_117_11i, ↓s_117_11p, ↓s_117_12, ↓s_117_13, ↓s_117_14, ↓s_117_17, ↓s_117_18, ↓s_117_19n, ↓s_117_19i, ↓s_117_19p, ↓g_117_20, ↓k_117_20, ↓s_117_21, ↓s_117_22, ↓s_117_23, ↓s_117_26, ↓s_117_29n, ↓s_117_29i, ↓s_117_29p, ↓s_117_32, ↓s_117_33, ↓s_117_34, ↓s_117_37, ↓s_117_38, ↓s_117_41, ↓s_117_44, ↓s_117_46, ↓s_117_49, ↓s_117_50, ↓s_117_53, ↓s_117_54, ↓s_117_57a, ↓s_117_57b, ↓s_117_58, ↓s_117_59, ↓s_117_60, ↓s_117_63, ↓s_117_64, ↓s_117_67, ↓s_117_70, ↓s_117_72, ↓s_117_75, ↓s_117_76, ↓s_117_79_2, ↓s_117_79_28, ↓s_117_82, ↓s_117_83, ↓s_117_84, ↓s_117_85, w32c_27, ↓s_123_0, ↓s_123_1, ↓s_123_4, ↓s_123_7, ↓s_123_8, ↓s_123_9, ↓s_123_12, ↓s_123_13, ↓s_123_14, ↓s_123_17, ↓s_123_20, ↓s_123_21, ↓s_123_22, ↓s_123_25, ↓s_123_26, ↓s_34_0, ↓s_34_1, ↓s_34_2, ↓s_34_3, ↓s_34_4, ↓s_34_5, zio_33, zio_2, zio_7, zar_44, zia_44, zln_44, zit_44, zar_18, zia_18, zln_18, zit_18, zio_54, zio_55, zio_28]
    have ei : w32 (r * 3 + k) = ((v * 3 + l.length : Nat) : Int) := by
      have e8 : w32 (r * 3) = w32 r * 3 := by rw [w32_ml, w32c_3]; exact w32_of (by omega) (by omega)
      rw [w32_ad (by omega) (by omega), e8]
      omega
    refine g_readPart hE (by omega) (by omega) ei h (fun m1 T1 P1 e1 => ?_)
    refine zgk_n hE xmo_117 60 zc_117 ?_
    simp only [ynok_30, ynok_31, w32c_0, w32c_1, w32c_2, w32c_3, w32c_4, w32c_5, w32c_6, w32c_7, w32c_8, w32c_9, w32c_10, w32c_11, w32c_12, w32c_13, w32c_14, w32c_m1, w32c_m2, w32c_118, Int.reduceAdd, Int.reduceSub, Int.reduceMul, yput_s, yput_n, znl_n, znl_0, znl_1, znl_4, ysum_n, ysum_0, ysum_1, ysum_4, true_and, and_true, Nat.reduceAdd, Nat.reduceLeDiff, true_implies, eq_self, true_or, or_true, or_false, false_or, not_true_eq_false, not_false_eq_true, false_implies, implies_true, yset_s, yset_o, yset_d, ne_eq, Nat.reduceEqDiff, Int.reduceToNat, Int.reduceEq, Int.reduceLE, Int.reduceLT, Classical.not_not, Nat.reduceLT, ↓zvk_s, ↓zvk_n, ↓s_117_0, ↓s_117_1, ↓s_117_2, ↓s_117_5_2, ↓s_117_5_28, ↓s_117_8, ↓s_117_11n, ↓s_117_11i, ↓s_117_11p, ↓s_117_12, ↓s_117_13, ↓s_117_14, ↓s_117_17, ↓s_117_18, ↓s_117_19n, ↓s_117_19i, ↓s_117_19p, ↓g_117_20, ↓k_117_20, ↓s_117_21, ↓s_117_22, ↓s_117_23, ↓s_117_26, ↓s_117_29n, ↓s_117_29i, ↓s_117_29p, ↓s_117_32, ↓s_117_33, ↓s_117_34, ↓s_117_37, ↓s_117_38, ↓s_117_41, ↓s_117_44, ↓s_117_46, ↓s_117_49, ↓s_117_50, ↓s_117_53, ↓s_117_54, ↓s_117_57a, ↓s_117_57b, ↓s_117_58, ↓s_117_59, ↓s_117_60, ↓s_117_63, ↓s_117_64, ↓s_117_67, ↓s_117_70, ↓s_117_72, ↓s_117_75, ↓s_117_76, ↓s_117_79_2, ↓s_117_79_28, ↓s_117_82, ↓s_117_83, ↓s_117_84, ↓s_117_85, w32c_27, ↓s_123_0, ↓s_123_1, ↓s_123_4, ↓s_123_7, ↓s_123_8, ↓s_123_9, ↓s_123_12, ↓s_123_13, ↓s_123_14, ↓s_123_17, ↓s_123_20, ↓s_123_21, ↓s_123_22, ↓s_123_25, ↓s_123_26, zio_33, zio_2, zio_7, zar_44, zia_44, zln_44, zit_44, zar_18, zia_18, zln_18, zit_18, zio_54, zio_55, zio_28]
    have ek : w32 (k + 1) = ((l.length + 1 : Nat) : Int) := by rw [w32_ad (by rw [w32c_1]; omega) (by rw [w32c_1]; omega), w32c_1]; omega
    rw [hrt, ek]
    have S2 : VeS b m1 v (l ++ [(pPt y).1]) := by
      refine ⟨fun i j hv => ?_, fun p q hq => ?_⟩
      · rw [P1.1 i j (fun hp => hv (by unfold ptF at hp; unfold veF; omega))]
        exact hS.1 i j hv
      · rcases app_get hq with hq | ⟨rfl, rfl⟩
        · have hp := get_lt hq
          obtain ⟨h1, h2, h3⟩ := hS.2 p q hq
          refine ⟨h1, by rw [P1.1 45 _ (by unfold ptF; omega)]; exact h2, fun j w hw => ?_⟩
          have hj := get_lt hw
          rw [P1.1 46 _ (by unfold ptF; omega)]
          exact h3 j w hw
        · exact ⟨pPt_len y, e1, fun j w hw => P1.2 j w hw⟩
    have kd := cTk_kd T1
    have tkS : ∀ m3, aFrm cfF m1 m3 → VeS b m3 v (l ++ [(pPt y).1]) := fun m3 hF => ⟨fun i j hv => by rw [hF i j (amod_n55 (fun e => hv (Or.inr (Or.inr (Or.inr e)))))]; exact S2.1 i j hv, cPs_eq S2.2 (fun p _ => hF 45 _ (amod_n55 (by decide))) (fun p j _ _ => hF 46 _ (amod_n55 (by decide)))⟩
    have stop : ∀ m3, cTk ch n m3 (pPts (c + 1) y).2 → (pPts (c + 1) y).1 = [(pPt y).1] → VeS b m3 v (l ++ [(pPt y).1]) → (0 ≤ w32 r ∧ w32 r < ↑4) ∧ Q none (yset m3 44 v (k + 1)) := fun m3 g1 g2 g3 => by
      refine ⟨⟨by omega, by omega⟩, fin _ (cTk_of g1 (fun j => yset_o (by decide)) (fun j => yset_o (by decide)) (fun j => yset_o (by decide))) ?_ ?_⟩
      · rw [g2]
        exact ⟨veF_fr g3.1 (Or.inr (Or.inr (Or.inl ⟨rfl, rfl⟩))), cPs_eq g3.2 (fun p _ => yset_o (by decide)) (fun p j _ _ => yset_o (by decide))⟩
      · rw [g2, yset_s, ek, List.length_append]
        rfl
    rw [kd]
    cases c with
    | zero =>
      refine ⟨fun q => absurd (show ((l.length + 1 : Nat) : Int) = 3 by omega) q, fun _ => ⟨fun q => ?_, fun q => ?_⟩⟩
      · refine ⟨fun _ => stop m1 ?_ rfl S2, fun q => absurd (show (3 : Int) ≤ ((l.length + 1 : Nat) : Int) by omega) q⟩
        show cTk ch n m1 (if _ then _ else _)
        rw [if_neg (by omega)]
        exact T1
      · have e : (pPts 1 y).2 = yFl 2 (pPt y).2 := by
          show (if _ then _ else _) = _
          rw [if_pos (by omega)]
        have go : ∀ m3, aFrm cfF m1 m3 → cTk ch n m3 (yFl 2 (pPt y).2) → (0 ≤ w32 r ∧ w32 r < ↑4) ∧ Q none (yset m3 44 v (k + 1)) := fun m3 g1 g2 => stop m3 (by rw [e]; exact g2) rfl (tkS m3 g1)
        exact ⟨fun hz => ⟨fun _ => go _ (g_fl1 (f := 2) T1 hz).1 (g_fl1 T1 hz).2, fun _ => go _ (g_fl1 (f := 2) T1 hz).1 (g_fl1 T1 hz).2⟩, fun hz => ⟨fun _ => go _ (g_fl0 (f := 2) T1 (by decide) (by decide) hz).1 (g_fl0 T1 (by decide) (by decide) hz).2, fun _ => go _ (g_fl0 (f := 2) T1 (by decide) (by decide) hz).1 (g_fl0 T1 (by decide) (by decide) hz).2⟩⟩
    | succ c =>
      refine ⟨fun _ => ⟨fun q => absurd q (by omega), fun _ => ⟨fun q => ?_, fun q => ?_⟩⟩, fun q => absurd q (by omega)⟩
      · have e : pPts (c + 2) y = ((pPt y).1 :: (pPts (c + 1) (pPt y).2).1, (pPts (c + 1) (pPt y).2).2) := by
          show (if _ then _ else _) = _
          rw [if_pos (by omega)]
        refine ih (k + 1) _ m1 (l ++ [(pPt y).1]) (by rw [ek, List.length_append]; rfl) (by rw [List.length_append]; show c + 1 + (l.length + 1) = 3; omega) (by omega) T1 S2 (fun m' g1 g2 g3 => ?_)
        rw [List.append_assoc] at g2 g3
        exact fin m' (by rw [e]; exact g1) (by rw [e]; exact g2) (by rw [e]; exact g3)
      · have e : pPts (c + 2) y = ([(pPt y).1], (pPt y).2) := by
          show (if _ then _ else _) = _
          rw [if_neg (by omega)]
        exact stop m1 (by rw [e]; exact T1) (by rw [e]) S2
abbrev dVe : Type := List (Int × List (List Int))
def cVe (m : yMem) (ve : dVe) : Prop := cNm m 33 4 (ve.map (fun t => t.1)) ∧ ∀ j t, ve[j]? = some t → t.2.length ≤ 3 ∧ w32 (m 44 j) = (t.2.length : Int) ∧ cPs m j t.2
def pVe (ve : dVe) (x : sY) : sY × (Int × List (List Int)) := if (yBg (ve.map (fun t => t.1)) 4 x).1 = -1 then ((yBg (ve.map (fun t => t.1)) 4 x).2, (0, [])) else ((pPts 3 (yBg (ve.map (fun t => t.1)) 4 x).2).2, (yVl (yNx x), (pPts 3 (yBg (ve.map (fun t => t.1)) 4 x).2).1))
abbrev veW : List (Nat × Nat) := [(55, 0), (33, 2), (34, 0), (44, 0), (45, 0), (46, 0)]
theorem veF_W {len i j : Nat} (h : amod veW i j = false) : ¬ veF len i j := fun hv => by
  have : amod veW i j = true := by
    rcases hv with ⟨rfl, _⟩ | ⟨rfl, _⟩ | ⟨rfl, _⟩ | rfl <;> rfl
  rw [this] at h
  cases h
theorem g_readVerse (hE : yEok E) {D : Nat} (hD : 9 ≤ D) {ve : dVe} (h : cTk ch n mem x) (hV : cVe mem ve) (hQ : ∀ m, aFrm veW mem m → cTk ch n m (pVe ve x).1 → (∀ l, (pVe ve x).1 = .inr l → cVe m (ve ++ [(pVe ve x).2])) → Q none m) : yCon E D xm_117 [(1, 54)] mem Q := by
  obtain ⟨d, rfl⟩ := Nat.exists_eq_add_of_le' hD
  refine e_117 ?_
  refine zvc_ok hE 90 zc_117 _ _ _ _ _ _ _ xmo_117 ?_
  simp only [ynok_30, ynok_31, w32c_0, w32c_1, w32c_2, w32c_3, w32c_4, w32c_5, w32c_6, w32c_7, w32c_8, w32c_9, w32c_10, w32c_11, w32c_12, w32c_13, w32c_14, w32c_m1, w32c_m2, w32c_118, Int.reduceAdd, Int.reduceSub, Int.reduceMul, yput_s, yput_n, znl_n, znl_0, znl_1, znl_4, ysum_n, ysum_0, ysum_1, ysum_4, true_and, and_true, Nat.reduceAdd, Nat.reduceLeDiff, true_implies, eq_self, true_or, or_true, or_false, false_or, not_true_eq_false, not_false_eq_true, false_implies, implies_true, yset_s, yset_o, yset_d, ne_eq, Nat.reduceEqDiff, Int.reduceToNat, Int.reduceEq, Int.reduceLE, Int.reduceLT, Classical.not_not, Nat.reduceLT, ↓zvk_s, ↓zvk_n, ↓s_117_0, ↓s_117_1, ↓s_117_2, ↓s_117_5_2, ↓s_117_5_28, ↓s_117_8, ↓s_117_11n, ↓s_117_11i, ↓s_117_11p, ↓s_117_12, ↓s_117_13, ↓s_117_14, ↓s_117_17, ↓s_117_18, ↓s_117_19n, ↓s_117_19i, ↓s_117_19p, ↓g_117_20, ↓k_117_20, ↓s_117_21, ↓s_117_22, ↓s_117_23, ↓s_117_26, ↓s_117_29n, ↓s_117_29i, ↓s_117_29p, ↓s_117_32, ↓s_117_33, ↓s_117_34, ↓s_117_37, ↓s_117_38, ↓s_117_41, ↓s_117_44, ↓s_117_46, ↓s_117_49, ↓s_117_50, ↓s_117_53, ↓s_117_54, ↓s_117_57a, ↓s_117_57b, ↓s_117_58, ↓s_117_59, ↓s_117_60, ↓s_117_63, ↓s_117_64, ↓s_117_67, ↓s_117_70, ↓s_117_72, ↓s_117_75, ↓s_117_76, ↓s_117_79_2, ↓s_117_79_28, ↓s_117_82, ↓s_117_83, ↓s_117_84, ↓s_117_85, w32c_27, zio_33, zio_2, zio_7, zar_44, zia_44, zln_44, zit_44, zar_18, zia_18, zln_18, zit_18, zio_54, zio_55, zio_28]
  refine g_begin_33 hE (by omega) h hV.1 (fun r m1 F1 h1 T1 k1 kk => ?_)
  have G1 : aFrm veW mem m1 := aFrm_w F1 (by decide)
  have hb := yBg_1 (nm := ve.map (fun t => t.1)) (mx := 4) (x := x)
  have hlen : (ve.map (fun t => t.1)).length = ve.length := List.length_map _
  rw [hlen] at hb
  refine zgk_s hE xmo_117 60 zc_117 ?_
  simp only [ynok_30, ynok_31, w32c_0, w32c_1, w32c_2, w32c_3, w32c_4, w32c_5, w32c_6, w32c_7, w32c_8, w32c_9, w32c_10, w32c_11, w32c_12, w32c_13, w32c_14, w32c_m1, w32c_m2, w32c_118, Int.reduceAdd, Int.reduceSub, Int.reduceMul, yput_s, yput_n, znl_n, znl_0, znl_1, znl_4, ysum_n, ysum_0, ysum_1, ysum_4, true_and, and_true, Nat.reduceAdd, Nat.reduceLeDiff, true_implies, eq_self, true_or, or_true, or_false, false_or, not_true_eq_false, not_false_eq_true, false_implies, implies_true, yset_s, yset_o, yset_d, ne_eq, Nat.reduceEqDiff, Int.reduceToNat, Int.reduceEq, Int.reduceLE, Int.reduceLT, Classical.not_not, Nat.reduceLT, ↓zvk_s, ↓zvk_n, ↓s_117_0, ↓s_117_1, ↓s_117_2, ↓s_117_5_2, ↓s_117_5_28, ↓s_117_8, ↓s_117_11n, ↓s_117_11i, ↓s_117_11p, ↓s_117_12, ↓s_117_13, ↓s_117_14, ↓s_117_17, ↓s_117_18, ↓s_117_19n, ↓s_117_19i, ↓s_117_19p, ↓g_117_20, ↓k_117_20, ↓s_117_21, ↓s_117_22, ↓s_117_23, ↓s_117_26, ↓s_117_29n, ↓s_117_29i, ↓s_117_29p, ↓s_117_32, ↓s_117_33, ↓s_117_34, ↓s_117_37, ↓s_117_38, ↓s_117_41, ↓s_117_44, ↓s_117_46, ↓s_117_49, ↓s_117_50, ↓s_117_53, ↓s_117_54, ↓s_117_57a, ↓s_117_57b, ↓s_117_58, ↓s_117_59, ↓s_117_60, ↓s_117_63, ↓s_117_64, ↓s_117_67, ↓s_117_70, ↓s_117_72, ↓s_117_75, ↓s_117_76, ↓s_117_79_2, ↓s_117_79_28, ↓s_117_82, ↓s_117_83, ↓s_117_84, ↓s_117_85, w32c_27, zio_33, zio_2, zio_7, zar_44, zia_44, zln_44, zit_44, zar_18, zia_18, zln_18, zit_18, zio_54, zio_55, zio_28]
  refine ⟨fun hr => ?_, fun hr => ?_⟩
  · obtain ⟨hb1, hb2⟩ : (yBg (ve.map (fun t => t.1)) 4 x).1 = (ve.length : Int) ∧ ve.length < 4 := by
      rcases hb with ⟨h0, _⟩ | hb
      · exact absurd (h1.trans h0) hr
      · exact hb
    have hrl : w32 r = (ve.length : Int) := h1.trans hb1
    have e0 : ¬ (yBg (ve.map (fun t => t.1)) 4 x).1 = -1 := by omega
    have ep : pVe ve x = ((pPts 3 (yBg (ve.map (fun t => t.1)) 4 x).2).2, (yVl (yNx x), (pPts 3 (yBg (ve.map (fun t => t.1)) 4 x).2).1)) := by unfold pVe; rw [if_neg e0]
    rw [ep] at hQ
    revert T1 hQ
    generalize (yBg (ve.map (fun t => t.1)) 4 x).2 = y
    intro hQ T1
    refine rq20 (b := m1) (l := []) hE (by omega) hb2 hrl 3 0 y m1 w32c_0 rfl (by decide) T1 ⟨fun _ _ _ => rfl, fun p q hq => by cases hq⟩ (fun m' g1 g2 g3 => ?_)
    refine hQ m' (aFrm_tt G1 (fun i j hij => g2.1 i j (veF_W hij))) g1 (fun l _ => ⟨?_, fun j t ht => ?_⟩)
    · rw [List.map_append]
      exact cNm_fr (kk hr) (g2.1 33 1 (by unfold veF; omega)) (fun j => g2.1 34 j (by unfold veF; omega))
    · rcases app_get ht with ht | ⟨rfl, rfl⟩
      · have hj := get_lt ht
        obtain ⟨a1, a2, a3⟩ := hV.2 j t ht
        refine ⟨a1, ?_, cPs_eq a3 (fun p hp => ?_) (fun p q hp hq => ?_)⟩
        · rw [g2.1 44 j (by unfold veF; omega), F1 44 j rfl]
          exact a2
        · rw [g2.1 45 _ (by unfold veF; omega), F1 45 _ rfl]
        · rw [g2.1 46 _ (by unfold veF; omega), F1 46 _ rfl]
      · exact ⟨pPts_len 3 y, g3, g2.2⟩
  · have e0 : (yBg (ve.map (fun t => t.1)) 4 x).1 = -1 := by rw [← h1]; exact hr
    have ep : pVe ve x = ((yBg (ve.map (fun t => t.1)) 4 x).2, (0, [])) := by unfold pVe; rw [if_pos e0]
    refine hQ m1 G1 (by rw [ep]; exact T1) (fun l hl => ?_)
    rcases hb with ⟨_, e, he⟩ | ⟨hb, _⟩
    · rw [ep] at hl
      rw [he] at hl
      cases hl
    · omega
end CN
