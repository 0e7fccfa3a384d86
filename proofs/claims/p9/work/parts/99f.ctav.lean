theorem s_116_0 {E : yE} {n d : Nat} {mem : yMem} {Post : Option yV → yMem → Prop} {st : List yV} {r1 : Option yV} {x : Int} : zvc E (n + 1) [] d xm_116 0 [some (1, x), r1] (st) mem Post = (zvc E n [] d xm_116 1 [some (1, x), r1] ((1, x) :: st) mem Post) := zrf rfl
theorem s_116_1 {E : yE} {n d : Nat} {mem : yMem} {Post : Option yV → yMem → Prop} {st : List yV} {r1 : Option yV} {x : Int} : zvc E (n + 1) [] d xm_116 1 [some (1, x), r1] (st) mem Post = (zvc E n [] d xm_116 2 [some (1, x), r1] ((1, x) :: st) mem Post) := zrf rfl
theorem s_116_2 {E : yE} {n d : Nat} {mem : yMem} {Post : Option yV → yMem → Prop} {st : List yV} {r0 r1 : Option yV} : zvc E (n + 1) [] d xm_116 2 [r0, r1] ((1, 54) :: st) mem Post = (zvc E n [] d xm_116 5 [r0, r1] ((1, 28) :: st) mem Post) := zrf rfl
theorem s_116_5_2 {E : yE} {n d : Nat} {mem : yMem} {Post : Option yV → yMem → Prop} {st : List yV} {r0 r1 : Option yV} : zvc E (n + 1) [] d xm_116 5 [r0, r1] ((1, 2) :: st) mem Post = (zvc E n [] d xm_116 8 [r0, r1] ((1, 3) :: st) mem Post) := zrf rfl
theorem s_116_5_28 {E : yE} {n d : Nat} {mem : yMem} {Post : Option yV → yMem → Prop} {st : List yV} {r0 r1 : Option yV} : zvc E (n + 1) [] d xm_116 5 [r0, r1] ((1, 28) :: st) mem Post = (zvc E n [] d xm_116 8 [r0, r1] ((1, 29) :: st) mem Post) := zrf rfl
theorem s_116_8 {E : yE} {n d : Nat} {mem : yMem} {Post : Option yV → yMem → Prop} {st : List yV} {r0 r1 : Option yV} {z a0 : Int} : zvc E (n + 1) [] d xm_116 8 [r0, r1] ((1, a0) :: (1, z) :: st) mem Post = (zio z 8 = true ∧ ysum st ≤ 8 ∧ yCon E d xm_110 [(1, z), (1, a0)] mem (fun v mem' => zgk E d xm_116 11 [r0, r1] st v mem' Post)) := zrf rfl
theorem s_116_11n {E : yE} {n d : Nat} {mem : yMem} {Post : Option yV → yMem → Prop} {st : List yV} {r1 : Option yV} {x : Int} : zvc E (n + 1) [] d xm_116 11 [none, r1] ((0, x) :: st) mem Post = (zvc E n [] d xm_116 12 [none, some (0, x)] (st) mem Post) := zrf rfl
theorem s_116_11i {E : yE} {n d : Nat} {mem : yMem} {Post : Option yV → yMem → Prop} {st : List yV} {r1 : Option yV} {x w : Int} : zvc E (n + 1) [] d xm_116 11 [some (0, w), r1] ((0, x) :: st) mem Post = (zvc E n [] d xm_116 12 [some (0, w), some (0, x)] (st) mem Post) := zrf rfl
theorem s_116_11p {E : yE} {n d : Nat} {mem : yMem} {Post : Option yV → yMem → Prop} {st : List yV} {r1 : Option yV} {x w : Int} : zvc E (n + 1) [] d xm_116 11 [some (1, w), r1] ((0, x) :: st) mem Post = (zvc E n [] d xm_116 12 [some (1, w), some (0, x)] (st) mem Post) := zrf rfl
theorem s_116_11j {E : yE} {n d : Nat} {mem : yMem} {Post : Option yV → yMem → Prop} {st : List yV} {r0 r1 : Option yV} {x : Int} : zvc E (n + 1) [] d xm_116 11 [r0, r1] ((0, x) :: st) mem Post = (zvc E n [] d xm_116 12 [znl r0, some (0, x)] (st) mem Post) := zrf rfl
theorem s_116_12 {E : yE} {n d : Nat} {mem : yMem} {Post : Option yV → yMem → Prop} {st : List yV} {r0 : Option yV} {x : Int} : zvc E (n + 1) [] d xm_116 12 [r0, some (0, x)] (st) mem Post = (zvc E n [] d xm_116 13 [r0, some (0, x)] ((0, x) :: st) mem Post) := zrf rfl
theorem s_116_13 {E : yE} {n d : Nat} {mem : yMem} {Post : Option yV → yMem → Prop} {st : List yV} {r0 r1 : Option yV} : zvc E (n + 1) [] d xm_116 13 [r0, r1] (st) mem Post = (zvc E n [] d xm_116 14 [r0, r1] ((0, (-1)) :: st) mem Post) := zrf rfl
theorem s_116_14 {E : yE} {n d : Nat} {mem : yMem} {Post : Option yV → yMem → Prop} {st : List yV} {r0 r1 : Option yV} {x y : Int} : zvc E (n + 1) [] d xm_116 14 [r0, r1] ((0, y) :: (0, x) :: st) mem Post = ((¬ w32 x = w32 y → zvc E n [] d xm_116 18 [r0, r1] (st) mem Post) ∧ (¬ (¬ w32 x = w32 y) → zvc E n [] d xm_116 17 [r0, r1] (st) mem Post)) := zrf rfl
theorem s_116_17 {E : yE} {n d : Nat} {mem : yMem} {Post : Option yV → yMem → Prop} {r0 r1 : Option yV} : zvc E (n + 1) [] d xm_116 17 [r0, r1] ([]) mem Post = (Post none mem) := zrf rfl
theorem s_116_18 {E : yE} {n d : Nat} {mem : yMem} {Post : Option yV → yMem → Prop} {st : List yV} {r1 : Option yV} {x : Int} : zvc E (n + 1) [] d xm_116 18 [some (1, x), r1] (st) mem Post = (zvc E n [] d xm_116 19 [some (1, x), r1] ((1, x) :: st) mem Post) := zrf rfl
theorem s_116_19 {E : yE} {n d : Nat} {mem : yMem} {Post : Option yV → yMem → Prop} {st : List yV} {r0 r1 : Option yV} : zvc E (n + 1) [] d xm_116 19 [r0, r1] ((1, 54) :: st) mem Post = (zvc E n [] d xm_116 22 [r0, r1] ((1, 28) :: st) mem Post) := zrf rfl
theorem s_116_22_2 {E : yE} {n d : Nat} {mem : yMem} {Post : Option yV → yMem → Prop} {st : List yV} {r0 r1 : Option yV} : zvc E (n + 1) [] d xm_116 22 [r0, r1] ((1, 2) :: st) mem Post = (zvc E n [] d xm_116 25 [r0, r1] ((1, 11) :: st) mem Post) := zrf rfl
theorem s_116_22_28 {E : yE} {n d : Nat} {mem : yMem} {Post : Option yV → yMem → Prop} {st : List yV} {r0 r1 : Option yV} : zvc E (n + 1) [] d xm_116 22 [r0, r1] ((1, 28) :: st) mem Post = (zvc E n [] d xm_116 25 [r0, r1] ((1, 37) :: st) mem Post) := zrf rfl
theorem s_116_25 {E : yE} {n d : Nat} {mem : yMem} {Post : Option yV → yMem → Prop} {st : List yV} {r0 : Option yV} {x : Int} : zvc E (n + 1) [] d xm_116 25 [r0, some (0, x)] (st) mem Post = (zvc E n [] d xm_116 26 [r0, some (0, x)] ((0, x) :: st) mem Post) := zrf rfl
theorem s_116_26 {E : yE} {n d : Nat} {mem : yMem} {Post : Option yV → yMem → Prop} {st : List yV} {r1 : Option yV} {x : Int} : zvc E (n + 1) [] d xm_116 26 [some (1, x), r1] (st) mem Post = (zvc E n [] d xm_116 27 [some (1, x), r1] ((1, x) :: st) mem Post) := zrf rfl
theorem s_116_27 {E : yE} {n d : Nat} {mem : yMem} {Post : Option yV → yMem → Prop} {st : List yV} {r0 r1 : Option yV} : zvc E (n + 1) [] d xm_116 27 [r0, r1] (st) mem Post = (zvc E n [] d xm_116 28 [r0, r1] ((0, 0) :: st) mem Post) := zrf rfl
theorem s_116_28 {E : yE} {n d : Nat} {mem : yMem} {Post : Option yV → yMem → Prop} {st : List yV} {r0 r1 : Option yV} : zvc E (n + 1) [] d xm_116 28 [r0, r1] (st) mem Post = (zvc E n [] d xm_116 30 [r0, r1] ((0, 99) :: st) mem Post) := zrf rfl
theorem s_116_30 {E : yE} {n d : Nat} {mem : yMem} {Post : Option yV → yMem → Prop} {st : List yV} {r0 r1 : Option yV} {z a0 a1 : Int} : zvc E (n + 1) [] d xm_116 30 [r0, r1] ((0, a1) :: (0, a0) :: (1, z) :: st) mem Post = (zio z 8 = true ∧ ysum st ≤ 8 ∧ yCon E d xm_112 [(1, z), (0, a0), (0, a1)] mem (fun v mem' => zgk E d xm_116 33 [r0, r1] st v mem' Post)) := zrf rfl
theorem s_116_33 {E : yE} {n d : Nat} {mem : yMem} {Post : Option yV → yMem → Prop} {st : List yV} {r0 r1 : Option yV} {x z j : Int} : zvc E (n + 1) [] d xm_116 33 [r0, r1] ((0, x) :: (0, j) :: (1, z) :: st) mem Post = ((0 ≤ w32 j ∧ w32 j < ((zar z 0 : Nat) : Int)) ∧ zvc E n [] d xm_116 34 [r0, r1] (st) (yset mem z.toNat (w32 j).toNat x) Post) := zrf rfl
theorem s_116_34 {E : yE} {n d : Nat} {mem : yMem} {Post : Option yV → yMem → Prop} {st : List yV} {r1 : Option yV} {x : Int} : zvc E (n + 1) [] d xm_116 34 [some (1, x), r1] (st) mem Post = (zvc E n [] d xm_116 35 [some (1, x), r1] ((1, x) :: st) mem Post) := zrf rfl
theorem s_116_35 {E : yE} {n d : Nat} {mem : yMem} {Post : Option yV → yMem → Prop} {st : List yV} {r0 r1 : Option yV} : zvc E (n + 1) [] d xm_116 35 [r0, r1] ((1, 54) :: st) mem Post = (zvc E n [] d xm_116 38 [r0, r1] ((1, 28) :: st) mem Post) := zrf rfl
theorem s_116_38_2 {E : yE} {n d : Nat} {mem : yMem} {Post : Option yV → yMem → Prop} {st : List yV} {r0 r1 : Option yV} : zvc E (n + 1) [] d xm_116 38 [r0, r1] ((1, 2) :: st) mem Post = (zvc E n [] d xm_116 41 [r0, r1] ((1, 12) :: st) mem Post) := zrf rfl
theorem s_116_38_28 {E : yE} {n d : Nat} {mem : yMem} {Post : Option yV → yMem → Prop} {st : List yV} {r0 r1 : Option yV} : zvc E (n + 1) [] d xm_116 38 [r0, r1] ((1, 28) :: st) mem Post = (zvc E n [] d xm_116 41 [r0, r1] ((1, 38) :: st) mem Post) := zrf rfl
theorem s_116_41 {E : yE} {n d : Nat} {mem : yMem} {Post : Option yV → yMem → Prop} {st : List yV} {r0 : Option yV} {x : Int} : zvc E (n + 1) [] d xm_116 41 [r0, some (0, x)] (st) mem Post = (zvc E n [] d xm_116 42 [r0, some (0, x)] ((0, x) :: st) mem Post) := zrf rfl
theorem s_116_42 {E : yE} {n d : Nat} {mem : yMem} {Post : Option yV → yMem → Prop} {st : List yV} {r1 : Option yV} {x : Int} : zvc E (n + 1) [] d xm_116 42 [some (1, x), r1] (st) mem Post = (zvc E n [] d xm_116 43 [some (1, x), r1] ((1, x) :: st) mem Post) := zrf rfl
theorem s_116_43 {E : yE} {n d : Nat} {mem : yMem} {Post : Option yV → yMem → Prop} {st : List yV} {r0 r1 : Option yV} : zvc E (n + 1) [] d xm_116 43 [r0, r1] (st) mem Post = (zvc E n [] d xm_116 44 [r0, r1] ((0, 0) :: st) mem Post) := zrf rfl
theorem s_116_44 {E : yE} {n d : Nat} {mem : yMem} {Post : Option yV → yMem → Prop} {st : List yV} {r0 r1 : Option yV} : zvc E (n + 1) [] d xm_116 44 [r0, r1] (st) mem Post = (zvc E n [] d xm_116 47 [r0, r1] ((0, 9999) :: st) mem Post) := zrf rfl
theorem s_116_47 {E : yE} {n d : Nat} {mem : yMem} {Post : Option yV → yMem → Prop} {st : List yV} {r0 r1 : Option yV} {z a0 a1 : Int} : zvc E (n + 1) [] d xm_116 47 [r0, r1] ((0, a1) :: (0, a0) :: (1, z) :: st) mem Post = (zio z 8 = true ∧ ysum st ≤ 8 ∧ yCon E d xm_112 [(1, z), (0, a0), (0, a1)] mem (fun v mem' => zgk E d xm_116 50 [r0, r1] st v mem' Post)) := zrf rfl
theorem s_116_50 {E : yE} {n d : Nat} {mem : yMem} {Post : Option yV → yMem → Prop} {st : List yV} {r0 r1 : Option yV} {x z j : Int} : zvc E (n + 1) [] d xm_116 50 [r0, r1] ((0, x) :: (0, j) :: (1, z) :: st) mem Post = ((0 ≤ w32 j ∧ w32 j < ((zar z 0 : Nat) : Int)) ∧ zvc E n [] d xm_116 51 [r0, r1] (st) (yset mem z.toNat (w32 j).toNat x) Post) := zrf rfl
theorem s_116_51 {E : yE} {n d : Nat} {mem : yMem} {Post : Option yV → yMem → Prop} {r0 r1 : Option yV} : zvc E (n + 1) [] d xm_116 51 [r0, r1] ([]) mem Post = (Post none mem) := zrf rfl
theorem e_116 {E : yE} {d : Nat} {mem : yMem} {Q : Option yV → yMem → Prop} {z : Int} (h : zG E d xm_116 0 [some (1, z), none] [] mem Q) : yCon E (d + 1) xm_116 [(1, z)] mem Q := zcon_of xmo_116 (Nat.le_of_ble_eq_true rfl) h

theorem yFl_inl (f : Nat) (x : sY) : ∃ e, yFl f x = .inl e := by
  cases x with
  | inl e => exact ⟨e, rfl⟩
  | inr l => exact ⟨_, rfl⟩
theorem yBg_1 {nm : List Int} {mx : Nat} {x : sY} : ((yBg nm mx x).1 = -1 ∧ ∃ e, (yBg nm mx x).2 = .inl e) ∨ ((yBg nm mx x).1 = (nm.length : Int) ∧ nm.length < mx) := by
  unfold yBg
  by_cases h1 : mx ≤ nm.length
  · rw [if_pos h1]; exact Or.inl ⟨rfl, yFl_inl _ _⟩
  · rw [if_neg h1]
    by_cases h2 : ¬ yKd (yNx x) = 3
    · rw [if_pos h2]; exact Or.inl ⟨rfl, yFl_inl _ _⟩
    · rw [if_neg h2]
      by_cases h3 : ¬ sFd (fun j => nm.getD j 0) (yVl (yNx x)) nm.length 0 = -1
      · rw [if_pos h3]; exact Or.inl ⟨rfl, yFl_inl _ _⟩
      · rw [if_neg h3]; exact Or.inr ⟨rfl, by omega⟩
/-! TAVERNS: name, rate, till -/
abbrev dTv : Type := List (Int × Int × Int)
def cTv (mem : yMem) (tav : dTv) : Prop := cNm mem 29 3 (tav.map (fun t => t.1)) ∧ ∀ j t, tav[j]? = some t → w32 (mem 37 j) = t.2.1 ∧ w32 (mem 38 j) = t.2.2
def pTv (tav : dTv) (x : sY) : sY × (Int × Int × Int) := if (yBg (tav.map (fun t => t.1)) 3 x).1 = -1 then ((yBg (tav.map (fun t => t.1)) 3 x).2, (0, 0, 0)) else ((yNm 0 9999 (yNm 0 99 (yBg (tav.map (fun t => t.1)) 3 x).2).2).2, (yVl (yNx x), (yNm 0 99 (yBg (tav.map (fun t => t.1)) 3 x).2).1, (yNm 0 9999 (yNm 0 99 (yBg (tav.map (fun t => t.1)) 3 x).2).2).1))
theorem app_get {α : Type} {l : List α} {a t : α} {j : Nat} (h : (l ++ [a])[j]? = some t) : l[j]? = some t ∨ (j = l.length ∧ t = a) := by
  by_cases hj : j < l.length
  · rw [List.getElem?_append_left hj] at h; exact Or.inl h
  · rw [List.getElem?_append_right (by omega)] at h
    have : j - l.length = 0 := by
      have := (List.getElem?_eq_some_iff.mp h).1
      simp at this
      omega
    rw [this] at h
    simp at h
    exact Or.inr ⟨by omega, h.symm⟩
theorem get_lt {α : Type} {l : List α} {t : α} {j : Nat} (h : l[j]? = some t) : j < l.length := (List.getElem?_eq_some_iff.mp h).1
theorem amod_n55 {i j : Nat} (h : i ≠ 55) : amod cfF i j = false := by
  cases hm : amod cfF i j with
  | false => rfl
  | true =>
    obtain ⟨q, q1, q2, q3⟩ := amod_ex hm
    have : ∀ q ∈ cfF, q.1 = 55 := by decide
    exact absurd ((this q q1).symm.trans q2).symm h
section CJ
variable {E : yE} {mem : yMem} {Q : Option yV → yMem → Prop} {ch : Nat → Int} {n : Nat} {x : sY}
abbrev tvF : List (Nat × Nat) := cfF ++ [(29, 2), (30, 0), (37, 0), (38, 0)]
theorem amod_tv {i j : Nat} (h : amod tvF i j = false) : amod (cfF ++ [(29, 2), (30, 0)]) i j = false := by
  revert h
  simp only [tvF, List.cons_append, List.nil_append, amod, Bool.or_eq_false_iff]
  intro h
  exact ⟨h.1, h.2.1, h.2.2.1, h.2.2.2.1, h.2.2.2.2.1, h.2.2.2.2.2.1, h.2.2.2.2.2.2.1, h.2.2.2.2.2.2.2.1, trivial⟩
theorem g_readTavern (hE : yEok E) {D : Nat} (hD : 6 ≤ D) {tav : dTv} (h : cTk ch n mem x) (hT : cTv mem tav) (hQ : ∀ m, aFrm tvF mem m → cTk ch n m (pTv tav x).1 → (∀ l, (pTv tav x).1 = .inr l → cTv m (tav ++ [(pTv tav x).2])) → Q none m) : yCon E D xm_116 [(1, 54)] mem Q := by
  obtain ⟨d, rfl⟩ := Nat.exists_eq_add_of_le' hD
  refine e_116 ?_
  refine zvc_ok hE 90 [] _ _ _ _ _ _ _ xmo_116 ?_
  simp only [ynok_30, ynok_31, w32c_0, w32c_1, w32c_2, w32c_3, w32c_4, w32c_5, w32c_6, w32c_7, w32c_8, w32c_9, w32c_10, w32c_11, w32c_12, w32c_13, w32c_14, w32c_m1, w32c_m2, w32c_118, Int.reduceAdd, Int.reduceSub, Int.reduceMul, yput_s, yput_n, znl_n, znl_0, znl_1, znl_4, ysum_n, ysum_0, ysum_1, ysum_4, true_and, and_true, Nat.reduceAdd, Nat.reduceLeDiff, true_implies, eq_self, true_or, or_true, or_false, false_or, not_true_eq_false, not_false_eq_true, false_implies, implies_true, yset_s, yset_o, yset_d, ne_eq, Nat.reduceEqDiff, Int.reduceToNat, Int.reduceEq, Int.reduceLE, Int.reduceLT, Classical.not_not, Nat.reduceLT, ↓zvk_s, ↓zvk_n, ↓s_116_0, ↓s_116_1, ↓s_116_2, ↓s_116_5_2, ↓s_116_5_28, ↓s_116_8, ↓s_116_11n, ↓s_116_11i, ↓s_116_11p, ↓s_116_12, ↓s_116_13, ↓s_116_14, ↓s_116_17, ↓s_116_18, ↓s_116_19, ↓s_116_22_2, ↓s_116_22_28, ↓s_116_25, ↓s_116_26, ↓s_116_27, ↓s_116_28, ↓s_116_30, ↓s_116_33, ↓s_116_34, ↓s_116_35, ↓s_116_38_2, ↓s_116_38_28, ↓s_116_41, ↓s_116_42, ↓s_116_43, ↓s_116_44, ↓s_116_47, ↓s_116_50, ↓s_116_51, w32c_99, w32c_9999, zio_2, zio_3, zar_37, zia_37, zln_37, zit_37, zar_38, zia_38, zln_38, zit_38, zar_11, zia_11, zln_11, zit_11, zar_12, zia_12, zln_12, zit_12, zio_54, zio_28, zio_29]
  refine g_begin_29 hE (by omega) h hT.1 (fun r m1 F1 h1 T1 k1 k2 => ?_)
  have G1 : aFrm tvF mem m1 := fun i j hij => F1 i j (amod_tv hij)
  have hb := yBg_1 (nm := tav.map (fun t => t.1)) (mx := 3) (x := x)
  have hlen : (tav.map (fun t => t.1)).length = tav.length := List.length_map _
  rw [hlen] at hb
  refine zgk_s hE xmo_116 60 [] ?_
  simp only [ynok_30, ynok_31, w32c_0, w32c_1, w32c_2, w32c_3, w32c_4, w32c_5, w32c_6, w32c_7, w32c_8, w32c_9, w32c_10, w32c_11, w32c_12, w32c_13, w32c_14, w32c_m1, w32c_m2, w32c_118, Int.reduceAdd, Int.reduceSub, Int.reduceMul, yput_s, yput_n, znl_n, znl_0, znl_1, znl_4, ysum_n, ysum_0, ysum_1, ysum_4, true_and, and_true, Nat.reduceAdd, Nat.reduceLeDiff, true_implies, eq_self, true_or, or_true, or_false, false_or, not_true_eq_false, not_false_eq_true, false_implies, implies_true, yset_s, yset_o, yset_d, ne_eq, Nat.reduceEqDiff, Int.reduceToNat, Int.reduceEq, Int.reduceLE, Int.reduceLT, Classical.not_not, Nat.reduceLT, ↓zvk_s, ↓zvk_n, ↓s_116_0, ↓s_116_1, ↓s_116_2, ↓s_116_5_2, ↓s_116_5_28, ↓s_116_8, ↓s_116_11n, ↓s_116_11i, ↓s_116_11p, ↓s_116_12, ↓s_116_13, ↓s_116_14, ↓s_116_17, ↓s_116_18, ↓s_116_19, ↓s_116_22_2, ↓s_116_22_28, ↓s_116_25, ↓s_116_26, ↓s_116_27, ↓s_116_28, ↓s_116_30, ↓s_116_33, ↓s_116_34, ↓s_116_35, ↓s_116_38_2, ↓s_116_38_28, ↓s_116_41, ↓s_116_42, ↓s_116_43, ↓s_116_44, ↓s_116_47, ↓s_116_50, ↓s_116_51, w32c_99, w32c_9999, zio_2, zio_3, zar_37, zia_37, zln_37, zit_37, zar_38, zia_38, zln_38, zit_38, zar_11, zia_11, zln_11, zit_11, zar_12, zia_12, zln_12, zit_12, zio_54, zio_28, zio_29]
  refine ⟨fun hr => ?_, fun hr => ?_⟩
  · obtain ⟨hb1, hb2⟩ : (yBg (tav.map (fun t => t.1)) 3 x).1 = (tav.length : Int) ∧ tav.length < 3 := by
      rcases hb with ⟨h0, _⟩ | hb
      · exact absurd (h1.trans h0) hr
      · exact hb
    have hrl : w32 r = (tav.length : Int) := h1.trans hb1
    have hrt : (w32 r).toNat = tav.length := by rw [hrl]; exact Int.toNat_natCast _
    have e0 : ¬ (yBg (tav.map (fun t => t.1)) 3 x).1 = -1 := by omega
    refine g_number hE (by omega) T1 (by decide) (by decide) (fun r1 m2 F2 e2 T2 => ?_)
    rw [w32c_0, w32c_99] at e2 T2
    refine zgk_s hE xmo_116 60 [] ?_
    simp only [ynok_30, ynok_31, w32c_0, w32c_1, w32c_2, w32c_3, w32c_4, w32c_5, w32c_6, w32c_7, w32c_8, w32c_9, w32c_10, w32c_11, w32c_12, w32c_13, w32c_14, w32c_m1, w32c_m2, w32c_118, Int.reduceAdd, Int.reduceSub, Int.reduceMul, yput_s, yput_n, znl_n, znl_0, znl_1, znl_4, ysum_n, ysum_0, ysum_1, ysum_4, true_and, and_true, Nat.reduceAdd, Nat.reduceLeDiff, true_implies, eq_self, true_or, or_true, or_false, false_or, not_true_eq_false, not_false_eq_true, false_implies, implies_true, yset_s, yset_o, yset_d, ne_eq, Nat.reduceEqDiff, Int.reduceToNat, Int.reduceEq, Int.reduceLE, Int.reduceLT, Classical.not_not, Nat.reduceLT, ↓zvk_s, ↓zvk_n, ↓s_116_0, ↓s_116_1, ↓s_116_2, ↓s_116_5_2, ↓s_116_5_28, ↓s_116_8, ↓s_116_11n, ↓s_116_11i, ↓s_116_11p, ↓s_116_12, ↓s_116_13, ↓s_116_14, ↓s_116_17, ↓s_116_18, ↓s_116_19, ↓s_116_22_2, ↓s_116_22_28, ↓s_116_25, ↓s_116_26, ↓s_116_27, ↓s_116_28, ↓s_116_30, ↓s_116_33, ↓s_116_34, ↓s_116_35, ↓s_116_38_2, ↓s_116_38_28, ↓s_116_41, ↓s_116_42, ↓s_116_43, ↓s_116_44, ↓s_116_47, ↓s_116_50, ↓s_116_51, w32c_99, w32c_9999, zio_2, zio_3, zar_37, zia_37, zln_37, zit_37, zar_38, zia_38, zln_38, zit_38, zar_11, zia_11, zln_11, zit_11, zar_12, zia_12, zln_12, zit_12, zio_54, zio_28, zio_29]
    refine ⟨⟨by omega, by omega⟩, g_number hE (by omega) (cTk_of T2 (fun j => yset_o (by decide)) (fun j => yset_o (by decide)) (fun j => yset_o (by decide))) (by decide) (by decide) (fun r2 m3 F3 e3 T3 => ?_)⟩
    rw [w32c_0, w32c_9999] at e3 T3
    refine zgk_s hE xmo_116 60 [] ?_
    simp only [ynok_30, ynok_31, w32c_0, w32c_1, w32c_2, w32c_3, w32c_4, w32c_5, w32c_6, w32c_7, w32c_8, w32c_9, w32c_10, w32c_11, w32c_12, w32c_13, w32c_14, w32c_m1, w32c_m2, w32c_118, Int.reduceAdd, Int.reduceSub, Int.reduceMul, yput_s, yput_n, znl_n, znl_0, znl_1, znl_4, ysum_n, ysum_0, ysum_1, ysum_4, true_and, and_true, Nat.reduceAdd, Nat.reduceLeDiff, true_implies, eq_self, true_or, or_true, or_false, false_or, not_true_eq_false, not_false_eq_true, false_implies, implies_true, yset_s, yset_o, yset_d, ne_eq, Nat.reduceEqDiff, Int.reduceToNat, Int.reduceEq, Int.reduceLE, Int.reduceLT, Classical.not_not, Nat.reduceLT, ↓zvk_s, ↓zvk_n, ↓s_116_0, ↓s_116_1, ↓s_116_2, ↓s_116_5_2, ↓s_116_5_28, ↓s_116_8, ↓s_116_11n, ↓s_116_11i, ↓s_116_11p, ↓s_116_12, ↓s_116_13, ↓s_116_14, ↓s_116_17, ↓s_116_18, ↓s_116_19, ↓s_116_22_2, ↓s_116_22_28, ↓s_116_25, ↓s_116_26, ↓s_116_27, ↓s_116_28, ↓s_116_30, ↓s_116_33, ↓s_116_34, ↓s_116_35, ↓s_116_38_2, ↓s_116_38_28, ↓s_116_41, ↓s_116_42, ↓s_116_43, ↓s_116_44, ↓s_116_47, ↓s_116_50, ↓s_116_51, w32c_99, w32c_9999, zio_2, zio_3, zar_37, zia_37, zln_37, zit_37, zar_38, zia_38, zln_38, zit_38, zar_11, zia_11, zln_11, zit_11, zar_12, zia_12, zln_12, zit_12, zio_54, zio_28, zio_29]
    refine ⟨⟨by omega, by omega⟩, ?_⟩
    have ep : pTv tav x = ((yNm 0 9999 (yNm 0 99 (yBg (tav.map (fun t => t.1)) 3 x).2).2).2, (yVl (yNx x), (yNm 0 99 (yBg (tav.map (fun t => t.1)) 3 x).2).1, (yNm 0 9999 (yNm 0 99 (yBg (tav.map (fun t => t.1)) 3 x).2).2).1)) := by unfold pTv; rw [if_neg e0]
    have a1 : ∀ i j, i ≠ 37 → i ≠ 38 → i ≠ 55 → yset m3 38 (w32 r).toNat r2 i j = m1 i j := fun i j q1 q2 q3 => by
      rw [yset_o q2, F3 i j (amod_n55 q3), yset_o q1, F2 i j (amod_n55 q3)]
    refine hQ _ (aFrm_tt (aFrm_tt (aFrm_tt (aFrm_tt G1 (aFrm_l F2)) (aFrm_set aFrm_rf rfl)) (aFrm_l F3)) (aFrm_set aFrm_rf rfl)) (by rw [ep]; exact cTk_of T3 (fun j => yset_o (by decide)) (fun j => yset_o (by decide)) (fun j => yset_o (by decide))) (fun l _ => ⟨?_, fun j t ht => ?_⟩)
    · rw [ep, List.map_append]
      exact cNm_fr (k2 hr) (a1 29 1 (by decide) (by decide) (by decide)) (fun j => a1 30 j (by decide) (by decide) (by decide))
    · rw [ep] at ht
      have v37 : ∀ j, yset m3 38 (w32 r).toNat r2 37 j = if j = tav.length then r1 else mem 37 j := fun j => by
        rw [yset_o (by decide), F3 37 j rfl, yset_a, if_pos rfl, hrt, F2 37 j rfl, F1 37 j rfl]
      have v38 : ∀ j, yset m3 38 (w32 r).toNat r2 38 j = if j = tav.length then r2 else mem 38 j := fun j => by
        rw [yset_a, if_pos rfl, hrt, F3 38 j rfl, yset_o (by decide), F2 38 j rfl, F1 38 j rfl]
      rw [v37, v38]
      rcases app_get ht with ht | ⟨hj, rfl⟩
      · have hj := get_lt ht
        rw [if_neg (by omega), if_neg (by omega)]
        exact hT.2 j t ht
      · rw [if_pos hj, if_pos hj]
        exact ⟨e2, e3⟩
  · have e0 : (yBg (tav.map (fun t => t.1)) 3 x).1 = -1 := by rw [← h1]; exact hr
    have ep : pTv tav x = ((yBg (tav.map (fun t => t.1)) 3 x).2, (0, 0, 0)) := by unfold pTv; rw [if_pos e0]
    refine hQ m1 G1 (by rw [ep]; exact T1) (fun l hl => ?_)
    rcases hb with ⟨_, e, he⟩ | ⟨hb, _⟩
    · rw [ep] at hl
      rw [he] at hl
      cases hl
    · omega
end CJ
