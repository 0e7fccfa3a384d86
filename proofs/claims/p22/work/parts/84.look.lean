section
theorem s_103_0 {E : yE} {n d : Nat} {mem : yMem} {Post : Option yV → yMem → Prop} {st : List yV} {r0 : Option yV} {x : Int} : zvc E (n + 1) [] d xm_103 0 [r0, some (0, x)] (st) mem Post = (zvc E n [] d xm_103 1 [r0, some (0, x)] ((0, x) :: st) mem Post) := zrf rfl
theorem s_103_1 {E : yE} {n d : Nat} {mem : yMem} {Post : Option yV → yMem → Prop} {st : List yV} {r0 r1 : Option yV} {x : Int} : zvc E (n + 1) [] d xm_103 1 [r0, r1] ((0, x) :: st) mem Post = ((w32 x < w32 0 → zvc E n [] d xm_103 16 [r0, r1] (st) mem Post) ∧ (¬ (w32 x < w32 0) → zvc E n [] d xm_103 4 [r0, r1] (st) mem Post)) := zrf rfl
theorem s_103_4 {E : yE} {n d : Nat} {mem : yMem} {Post : Option yV → yMem → Prop} {st : List yV} {r0 : Option yV} {x : Int} : zvc E (n + 1) [] d xm_103 4 [r0, some (0, x)] (st) mem Post = (zvc E n [] d xm_103 5 [r0, some (0, x)] ((0, x) :: st) mem Post) := zrf rfl
theorem s_103_5 {E : yE} {n d : Nat} {mem : yMem} {Post : Option yV → yMem → Prop} {st : List yV} {r1 : Option yV} {x : Int} : zvc E (n + 1) [] d xm_103 5 [some (1, x), r1] (st) mem Post = (zvc E n [] d xm_103 6 [some (1, x), r1] ((1, x) :: st) mem Post) := zrf rfl
theorem s_103_6_3 {E : yE} {n d : Nat} {mem : yMem} {Post : Option yV → yMem → Prop} {st : List yV} {r0 r1 : Option yV} : zvc E (n + 1) [] d xm_103 6 [r0, r1] ((1, 3) :: st) mem Post = (zvc E n [] d xm_103 9 [r0, r1] ((0, mem 3 1) :: st) mem Post) := zrf rfl
theorem s_103_6_5 {E : yE} {n d : Nat} {mem : yMem} {Post : Option yV → yMem → Prop} {st : List yV} {r0 r1 : Option yV} : zvc E (n + 1) [] d xm_103 6 [r0, r1] ((1, 5) :: st) mem Post = (zvc E n [] d xm_103 9 [r0, r1] ((0, mem 5 1) :: st) mem Post) := zrf rfl
theorem s_103_6_7 {E : yE} {n d : Nat} {mem : yMem} {Post : Option yV → yMem → Prop} {st : List yV} {r0 r1 : Option yV} : zvc E (n + 1) [] d xm_103 6 [r0, r1] ((1, 7) :: st) mem Post = (zvc E n [] d xm_103 9 [r0, r1] ((0, mem 7 1) :: st) mem Post) := zrf rfl
theorem s_103_6_9 {E : yE} {n d : Nat} {mem : yMem} {Post : Option yV → yMem → Prop} {st : List yV} {r0 r1 : Option yV} : zvc E (n + 1) [] d xm_103 6 [r0, r1] ((1, 9) :: st) mem Post = (zvc E n [] d xm_103 9 [r0, r1] ((0, mem 9 1) :: st) mem Post) := zrf rfl
theorem s_103_6_29 {E : yE} {n d : Nat} {mem : yMem} {Post : Option yV → yMem → Prop} {st : List yV} {r0 r1 : Option yV} : zvc E (n + 1) [] d xm_103 6 [r0, r1] ((1, 29) :: st) mem Post = (zvc E n [] d xm_103 9 [r0, r1] ((0, mem 29 1) :: st) mem Post) := zrf rfl
theorem s_103_6_31 {E : yE} {n d : Nat} {mem : yMem} {Post : Option yV → yMem → Prop} {st : List yV} {r0 r1 : Option yV} : zvc E (n + 1) [] d xm_103 6 [r0, r1] ((1, 31) :: st) mem Post = (zvc E n [] d xm_103 9 [r0, r1] ((0, mem 31 1) :: st) mem Post) := zrf rfl
theorem s_103_6_33 {E : yE} {n d : Nat} {mem : yMem} {Post : Option yV → yMem → Prop} {st : List yV} {r0 r1 : Option yV} : zvc E (n + 1) [] d xm_103 6 [r0, r1] ((1, 33) :: st) mem Post = (zvc E n [] d xm_103 9 [r0, r1] ((0, mem 33 1) :: st) mem Post) := zrf rfl
theorem s_103_6_35 {E : yE} {n d : Nat} {mem : yMem} {Post : Option yV → yMem → Prop} {st : List yV} {r0 r1 : Option yV} : zvc E (n + 1) [] d xm_103 6 [r0, r1] ((1, 35) :: st) mem Post = (zvc E n [] d xm_103 9 [r0, r1] ((0, mem 35 1) :: st) mem Post) := zrf rfl
theorem s_103_9 {E : yE} {n d : Nat} {mem : yMem} {Post : Option yV → yMem → Prop} {st : List yV} {r0 r1 : Option yV} {x y : Int} : zvc E (n + 1) [] d xm_103 9 [r0, r1] ((0, y) :: (0, x) :: st) mem Post = ((w32 y ≤ w32 x → zvc E n [] d xm_103 16 [r0, r1] (st) mem Post) ∧ (¬ (w32 y ≤ w32 x) → zvc E n [] d xm_103 12 [r0, r1] (st) mem Post)) := zrf rfl
theorem s_103_12 {E : yE} {n d : Nat} {mem : yMem} {Post : Option yV → yMem → Prop} {st : List yV} {r0 r1 : Option yV} : zvc E (n + 1) [] d xm_103 12 [r0, r1] (st) mem Post = (zvc E n [] d xm_103 13 [r0, r1] ((0, 1) :: st) mem Post) := zrf rfl
theorem s_103_13 {E : yE} {n d : Nat} {mem : yMem} {Post : Option yV → yMem → Prop} {st : List yV} {r0 r1 : Option yV} : zvc E (n + 1) [] d xm_103 13 [r0, r1] (st) mem Post = (zvc E n [] d xm_103 17 [r0, r1] (st) mem Post) := zrf rfl
theorem s_103_16 {E : yE} {n d : Nat} {mem : yMem} {Post : Option yV → yMem → Prop} {st : List yV} {r0 r1 : Option yV} : zvc E (n + 1) [] d xm_103 16 [r0, r1] (st) mem Post = (zvc E n [] d xm_103 17 [r0, r1] ((0, 0) :: st) mem Post) := zrf rfl
theorem s_103_17 {E : yE} {n d : Nat} {mem : yMem} {Post : Option yV → yMem → Prop} {r0 r1 : Option yV} {x : Int} : zvc E (n + 1) [] d xm_103 17 [r0, r1] ([(0, x)]) mem Post = ((w32 x = 0 ∨ w32 x = 1) ∧ Post (some (0, x)) mem) := zrf rfl
theorem s_139_0 {E : yE} {n d : Nat} {mem : yMem} {Post : Option yV → yMem → Prop} {st : List yV} {r1 : Option yV} {x : Int} : zvc E (n + 1) [] d xm_139 0 [some (1, x), r1] (st) mem Post = (zvc E n [] d xm_139 1 [some (1, x), r1] ((1, x) :: st) mem Post) := zrf rfl
theorem s_139_1_57 {E : yE} {n d : Nat} {mem : yMem} {Post : Option yV → yMem → Prop} {st : List yV} {r0 r1 : Option yV} : zvc E (n + 1) [] d xm_139 1 [r0, r1] ((1, 57) :: st) mem Post = (zvc E n [] d xm_139 4 [r0, r1] ((0, mem 57 10) :: st) mem Post) := zrf rfl
theorem s_139_1_64 {E : yE} {n d : Nat} {mem : yMem} {Post : Option yV → yMem → Prop} {st : List yV} {r0 r1 : Option yV} : zvc E (n + 1) [] d xm_139 1 [r0, r1] ((1, 64) :: st) mem Post = (zvc E n [] d xm_139 4 [r0, r1] ((0, mem 64 10) :: st) mem Post) := zrf rfl
theorem s_139_4 {E : yE} {n d : Nat} {mem : yMem} {Post : Option yV → yMem → Prop} {st : List yV} {r0 : Option yV} {x : Int} : zvc E (n + 1) [] d xm_139 4 [r0, some (0, x)] (st) mem Post = (zvc E n [] d xm_139 5 [r0, some (0, x)] ((0, x) :: st) mem Post) := zrf rfl
theorem s_139_5 {E : yE} {n d : Nat} {mem : yMem} {Post : Option yV → yMem → Prop} {st : List yV} {r0 r1 : Option yV} {x y : Int} : zvc E (n + 1) [] d xm_139 5 [r0, r1] ((0, y) :: (0, x) :: st) mem Post = (zvc E n [] d xm_139 6 [r0, r1] ((0, ybin 7 x y) :: st) mem Post) := zrf rfl
theorem s_139_6 {E : yE} {n d : Nat} {mem : yMem} {Post : Option yV → yMem → Prop} {st : List yV} {r0 r1 : Option yV} : zvc E (n + 1) [] d xm_139 6 [r0, r1] (st) mem Post = (zvc E n [] d xm_139 7 [r0, r1] ((0, 1) :: st) mem Post) := zrf rfl
theorem s_139_7 {E : yE} {n d : Nat} {mem : yMem} {Post : Option yV → yMem → Prop} {st : List yV} {r0 r1 : Option yV} {x y : Int} : zvc E (n + 1) [] d xm_139 7 [r0, r1] ((0, y) :: (0, x) :: st) mem Post = (zvc E n [] d xm_139 8 [r0, r1] ((0, ybin 3 x y) :: st) mem Post) := zrf rfl
theorem s_139_8 {E : yE} {n d : Nat} {mem : yMem} {Post : Option yV → yMem → Prop} {st : List yV} {r0 r1 : Option yV} {x : Int} : zvc E (n + 1) [] d xm_139 8 [r0, r1] ((0, x) :: st) mem Post = ((w32 x = w32 0 → zvc E n [] d xm_139 15 [r0, r1] (st) mem Post) ∧ (¬ (w32 x = w32 0) → zvc E n [] d xm_139 11 [r0, r1] (st) mem Post)) := zrf rfl
theorem s_139_11 {E : yE} {n d : Nat} {mem : yMem} {Post : Option yV → yMem → Prop} {st : List yV} {r0 r1 : Option yV} : zvc E (n + 1) [] d xm_139 11 [r0, r1] (st) mem Post = (zvc E n [] d xm_139 12 [r0, r1] ((0, 1) :: st) mem Post) := zrf rfl
theorem s_139_12 {E : yE} {n d : Nat} {mem : yMem} {Post : Option yV → yMem → Prop} {st : List yV} {r0 r1 : Option yV} : zvc E (n + 1) [] d xm_139 12 [r0, r1] (st) mem Post = (zvc E n [] d xm_139 16 [r0, r1] (st) mem Post) := zrf rfl
theorem s_139_15 {E : yE} {n d : Nat} {mem : yMem} {Post : Option yV → yMem → Prop} {st : List yV} {r0 r1 : Option yV} : zvc E (n + 1) [] d xm_139 15 [r0, r1] (st) mem Post = (zvc E n [] d xm_139 16 [r0, r1] ((0, 0) :: st) mem Post) := zrf rfl
theorem s_139_16 {E : yE} {n d : Nat} {mem : yMem} {Post : Option yV → yMem → Prop} {r0 r1 : Option yV} {x : Int} : zvc E (n + 1) [] d xm_139 16 [r0, r1] ([(0, x)]) mem Post = ((w32 x = 0 ∨ w32 x = 1) ∧ Post (some (0, x)) mem) := zrf rfl
theorem s_81_0 {E : yE} {n d : Nat} {mem : yMem} {Post : Option yV → yMem → Prop} {st : List yV} {r1 : Option yV} {x : Int} : zvc E (n + 1) [] d xm_81 0 [some (1, x), r1] (st) mem Post = (zvc E n [] d xm_81 1 [some (1, x), r1] ((1, x) :: st) mem Post) := zrf rfl
theorem s_81_1_2 {E : yE} {n d : Nat} {mem : yMem} {Post : Option yV → yMem → Prop} {st : List yV} {r0 r1 : Option yV} : zvc E (n + 1) [] d xm_81 1 [r0, r1] ((1, 2) :: st) mem Post = (zvc E n [] d xm_81 4 [r0, r1] ((0, mem 2 16) :: st) mem Post) := zrf rfl
theorem s_81_1_28 {E : yE} {n d : Nat} {mem : yMem} {Post : Option yV → yMem → Prop} {st : List yV} {r0 r1 : Option yV} : zvc E (n + 1) [] d xm_81 1 [r0, r1] ((1, 28) :: st) mem Post = (zvc E n [] d xm_81 4 [r0, r1] ((0, mem 28 16) :: st) mem Post) := zrf rfl
theorem s_81_4 {E : yE} {n d : Nat} {mem : yMem} {Post : Option yV → yMem → Prop} {st : List yV} {r0 : Option yV} {x : Int} : zvc E (n + 1) [] d xm_81 4 [r0, some (0, x)] (st) mem Post = (zvc E n [] d xm_81 5 [r0, some (0, x)] ((0, x) :: st) mem Post) := zrf rfl
theorem s_81_5 {E : yE} {n d : Nat} {mem : yMem} {Post : Option yV → yMem → Prop} {st : List yV} {r0 r1 : Option yV} {x y : Int} : zvc E (n + 1) [] d xm_81 5 [r0, r1] ((0, y) :: (0, x) :: st) mem Post = (zvc E n [] d xm_81 6 [r0, r1] ((0, ybin 7 x y) :: st) mem Post) := zrf rfl
theorem s_81_6 {E : yE} {n d : Nat} {mem : yMem} {Post : Option yV → yMem → Prop} {st : List yV} {r0 r1 : Option yV} : zvc E (n + 1) [] d xm_81 6 [r0, r1] (st) mem Post = (zvc E n [] d xm_81 7 [r0, r1] ((0, 1) :: st) mem Post) := zrf rfl
theorem s_81_7 {E : yE} {n d : Nat} {mem : yMem} {Post : Option yV → yMem → Prop} {st : List yV} {r0 r1 : Option yV} {x y : Int} : zvc E (n + 1) [] d xm_81 7 [r0, r1] ((0, y) :: (0, x) :: st) mem Post = (zvc E n [] d xm_81 8 [r0, r1] ((0, ybin 3 x y) :: st) mem Post) := zrf rfl
theorem s_81_8 {E : yE} {n d : Nat} {mem : yMem} {Post : Option yV → yMem → Prop} {st : List yV} {r0 r1 : Option yV} {x : Int} : zvc E (n + 1) [] d xm_81 8 [r0, r1] ((0, x) :: st) mem Post = ((w32 x = w32 0 → zvc E n [] d xm_81 15 [r0, r1] (st) mem Post) ∧ (¬ (w32 x = w32 0) → zvc E n [] d xm_81 11 [r0, r1] (st) mem Post)) := zrf rfl
theorem s_81_11 {E : yE} {n d : Nat} {mem : yMem} {Post : Option yV → yMem → Prop} {st : List yV} {r0 r1 : Option yV} : zvc E (n + 1) [] d xm_81 11 [r0, r1] (st) mem Post = (zvc E n [] d xm_81 12 [r0, r1] ((0, 1) :: st) mem Post) := zrf rfl
theorem s_81_12 {E : yE} {n d : Nat} {mem : yMem} {Post : Option yV → yMem → Prop} {st : List yV} {r0 r1 : Option yV} : zvc E (n + 1) [] d xm_81 12 [r0, r1] (st) mem Post = (zvc E n [] d xm_81 16 [r0, r1] (st) mem Post) := zrf rfl
theorem s_81_15 {E : yE} {n d : Nat} {mem : yMem} {Post : Option yV → yMem → Prop} {st : List yV} {r0 r1 : Option yV} : zvc E (n + 1) [] d xm_81 15 [r0, r1] (st) mem Post = (zvc E n [] d xm_81 16 [r0, r1] ((0, 0) :: st) mem Post) := zrf rfl
theorem s_81_16 {E : yE} {n d : Nat} {mem : yMem} {Post : Option yV → yMem → Prop} {r0 r1 : Option yV} {x : Int} : zvc E (n + 1) [] d xm_81 16 [r0, r1] ([(0, x)]) mem Post = ((w32 x = 0 ∨ w32 x = 1) ∧ Post (some (0, x)) mem) := zrf rfl
theorem e_103 {E : yE} {d : Nat} {mem : yMem} {Q : Option yV → yMem → Prop} {z a0 : Int} (h : zG E d xm_103 0 [some (1, z), some (0, a0)] [] mem Q) : yCon E (d + 1) xm_103 [(1, z), (0, a0)] mem Q := zcon_of xmo_103 (Nat.le_of_ble_eq_true rfl) h
theorem e_139 {E : yE} {d : Nat} {mem : yMem} {Q : Option yV → yMem → Prop} {z a0 : Int} (h : zG E d xm_139 0 [some (1, z), some (0, a0)] [] mem Q) : yCon E (d + 1) xm_139 [(1, z), (0, a0)] mem Q := zcon_of xmo_139 (Nat.le_of_ble_eq_true rfl) h
theorem e_81 {E : yE} {d : Nat} {mem : yMem} {Q : Option yV → yMem → Prop} {z a0 : Int} (h : zG E d xm_81 0 [some (1, z), some (0, a0)] [] mem Q) : yCon E (d + 1) xm_81 [(1, z), (0, a0)] mem Q := zcon_of xmo_81 (Nat.le_of_ble_eq_true rfl) h

theorem c_holds5 {E : yE} (hE : yEok E) {D : Nat} (hD : 1 ≤ D) {mem : yMem} {Q : Option yV → yMem → Prop} {x : Int} (yes : 0 ≤ w32 x → w32 x < w32 (mem 5 1) → Q (some (0, 1)) mem) (no : Q (some (0, 0)) mem) : yCon E D xm_103 [(1, 5), (0, x)] mem Q := by
  obtain ⟨d, rfl⟩ := Nat.exists_eq_add_of_le' hD
  refine e_103 ?_
  refine zvc_ok hE 60 [] _ _ _ _ _ _ _ xmo_103 ?_
  simp only [ynok_30, ynok_31, w32c_0, w32c_1, w32c_2, w32c_3, w32c_4, w32c_5, w32c_6, w32c_7, w32c_8, w32c_9, w32c_10, w32c_11, w32c_12, w32c_13, w32c_14, w32c_m1, w32c_m2, w32c_118, Int.reduceAdd, Int.reduceSub, Int.reduceMul, yput_s, yput_n, znl_n, znl_0, znl_1, znl_4, ysum_n, ysum_0, ysum_1, ysum_4, true_and, and_true, Nat.reduceAdd, Nat.reduceLeDiff, true_implies, eq_self, true_or, or_true, or_false, false_or, not_true_eq_false, not_false_eq_true, false_implies, implies_true, yset_s, yset_o, yset_d, ne_eq, Nat.reduceEqDiff, Int.reduceToNat, Int.reduceEq, Int.reduceLE, Int.reduceLT, Classical.not_not, Nat.reduceLT, ↓zvk_s, ↓zvk_n, ↓s_103_0, ↓s_103_1, ↓s_103_4, ↓s_103_5, ↓s_103_6_3, ↓s_103_6_5, ↓s_103_6_7, ↓s_103_6_9, ↓s_103_6_29, ↓s_103_6_31, ↓s_103_6_33, ↓s_103_6_35, ↓s_103_9, ↓s_103_12, ↓s_103_13, ↓s_103_16, ↓s_103_17, zio_33, zio_3, zio_35, zio_5, zio_7, zio_9, zio_29, zio_31]
  exact ⟨fun _ => no, fun h => ⟨fun _ => no, fun h2 => yes (by omega) (by omega)⟩⟩
theorem c_isCracked57 {E : yE} (hE : yEok E) {D : Nat} (hD : 1 ≤ D) {mem : yMem} {Q : Option yV → yMem → Prop} {x : Int} (hQ : ∀ v, Q (some (0, v)) mem) : yCon E D xm_139 [(1, 57), (0, x)] mem Q := by
  obtain ⟨d, rfl⟩ := Nat.exists_eq_add_of_le' hD
  refine e_139 ?_
  refine zvc_ok hE 60 [] _ _ _ _ _ _ _ xmo_139 ?_
  simp only [ynok_30, ynok_31, w32c_0, w32c_1, w32c_2, w32c_3, w32c_4, w32c_5, w32c_6, w32c_7, w32c_8, w32c_9, w32c_10, w32c_11, w32c_12, w32c_13, w32c_14, w32c_m1, w32c_m2, w32c_118, Int.reduceAdd, Int.reduceSub, Int.reduceMul, yput_s, yput_n, znl_n, znl_0, znl_1, znl_4, ysum_n, ysum_0, ysum_1, ysum_4, true_and, and_true, Nat.reduceAdd, Nat.reduceLeDiff, true_implies, eq_self, true_or, or_true, or_false, false_or, not_true_eq_false, not_false_eq_true, false_implies, implies_true, yset_s, yset_o, yset_d, ne_eq, Nat.reduceEqDiff, Int.reduceToNat, Int.reduceEq, Int.reduceLE, Int.reduceLT, Classical.not_not, Nat.reduceLT, ↓zvk_s, ↓zvk_n, ↓s_139_0, ↓s_139_1_57, ↓s_139_1_64, ↓s_139_4, ↓s_139_5, ↓s_139_6, ↓s_139_7, ↓s_139_8, ↓s_139_11, ↓s_139_12, ↓s_139_15, ↓s_139_16, zio_64, zio_57]
  exact ⟨fun _ => hQ _, fun _ => hQ _⟩
theorem c_isBoy2 {E : yE} (hE : yEok E) {D : Nat} (hD : 1 ≤ D) {mem : yMem} {Q : Option yV → yMem → Prop} {x : Int} (hQ : ∀ v, Q (some (0, v)) mem) : yCon E D xm_81 [(1, 2), (0, x)] mem Q := by
  obtain ⟨d, rfl⟩ := Nat.exists_eq_add_of_le' hD
  refine e_81 ?_
  refine zvc_ok hE 60 [] _ _ _ _ _ _ _ xmo_81 ?_
  simp only [ynok_30, ynok_31, w32c_0, w32c_1, w32c_2, w32c_3, w32c_4, w32c_5, w32c_6, w32c_7, w32c_8, w32c_9, w32c_10, w32c_11, w32c_12, w32c_13, w32c_14, w32c_m1, w32c_m2, w32c_118, Int.reduceAdd, Int.reduceSub, Int.reduceMul, yput_s, yput_n, znl_n, znl_0, znl_1, znl_4, ysum_n, ysum_0, ysum_1, ysum_4, true_and, and_true, Nat.reduceAdd, Nat.reduceLeDiff, true_implies, eq_self, true_or, or_true, or_false, false_or, not_true_eq_false, not_false_eq_true, false_implies, implies_true, yset_s, yset_o, yset_d, ne_eq, Nat.reduceEqDiff, Int.reduceToNat, Int.reduceEq, Int.reduceLE, Int.reduceLT, Classical.not_not, Nat.reduceLT, ↓zvk_s, ↓zvk_n, ↓s_81_0, ↓s_81_1_2, ↓s_81_1_28, ↓s_81_4, ↓s_81_5, ↓s_81_6, ↓s_81_7, ↓s_81_8, ↓s_81_11, ↓s_81_12, ↓s_81_15, ↓s_81_16, zio_2, zio_28]
  exact ⟨fun _ => hQ _, fun _ => hQ _⟩
/-! the machine's own level -/
section YW
variable {E : yE} {M : xM} {p : Program} {e : Env} {R : Room} {s : State} {m : MethodId} {args : Array Value} {below : List Frame} {meth : Method} {c : Code} {A : Nat → Prop} {H : Heap} {locs : List Loc} {ce sl : Nat} {Q : State → Prop} {ls : Array Slot} {mem : yMem} {pc nx : Nat}
theorem yw_getf {ci k i : Nat} {fs : List yV} {v : yV} {rest : List Value} (hT : xGf (xMc M) (xMo M) pc nx ci k) (hK : ysh[i]? = some (.inr (ci, fs))) (hv : fs[k]? = some v) (hC : yCtx E M p s m args meth c A) (hP : va_P (yD E) vwCl (yW E mem) H) (h : W p (yl E) e R s m args below meth c H locs ce sl Q (F0 m nx ls (ydv E (yfv v (mem i k)) :: rest))) : W p (yl E) e R s m args below meth c H locs ce sl Q (F0 m pc ls (.ref (yb E + i) :: rest)) :=
  hT p (yl E) e R s m args below meth c H locs ce sl Q ls rest hC.1.1 (yD E) (xtys (yda E)) _ i (yb E + i) (yfs E 0 fs (mem i)) _ hC.1.2.2.1 hP (yW_at hK) (by rw [yfs_get, hv, Nat.zero_add]; rfl) h
theorem yw_call {st rest : List yV} {Pc : Option yV → yMem → Prop} {mc ms : Nat} (hC : yCtx E M p s m args meth c A) (hS : va_S A s.heap H locs)
    (hrun : va_Run p (yl E) e R s m args below meth c H locs ce sl mc ms (F0 m pc ls (st.map (ydv E))) (rest.map (ydv E)) (yQp E H.size Pc) (xA (yb E) ysh.length H.size))
    (hall : ∀ r mem' H1 locs1, Pc r mem' → va_P (yD E) vwCl (yW E mem') H1 → va_S A s.heap H1 locs1 → W p (yl E) e R s m args below meth c H1 locs1 (ce + mc) (sl + ms) Q (F0 m (pc + 3) ls ((yput rest r).map (ydv E)))) : W p (yl E) e R s m args below meth c H locs ce sl Q (F0 m pc ls (st.map (ydv E))) := by
  intro T hT X
  obtain ⟨v, st₀, t, T', L, h0, X', hL, e1, e2, ⟨r, mem', k1, k2, k3, k6⟩, stp⟩ := hrun T hT X
  have ev : v = r.map (ydv E) := by injection k2
  have hsub : ∀ q, xA (yb E) ysh.length H.size q → A q := by
    rintro q (⟨a1, a2⟩ | a1)
    · have := hC.2 (q - yb E) (by omega)
      rwa [show yb E + (q - yb E) = q by omega] at this
    · exact hC.1.2.2.2.1 q (Nat.le_trans hS.1 a1)
  obtain ⟨f1, f2⟩ := k6
  rw [h0] at f1 f2
  have hS2 : va_S A s.heap T'.heap (locs ++ L) := ⟨by rw [e1]; exact Nat.le_trans hS.1 f1, fun q q1 q2 => by
    rw [e1, f2 q (Nat.lt_of_lt_of_le q1 hS.1) (fun z => q2 (hsub q z))]
    exact hS.2.1 q q1 q2, fun q hq => by
    rcases List.mem_append.mp hq with h | h
    · exact hS.2.2 q h
    · exact hsub _ (hL q h)⟩
  have W2 := hall r mem' T'.heap (locs ++ L) k1 (by rw [e1]; exact k3) hS2
  obtain ⟨t2, a1, b1⟩ := W2 T' rfl X'
  refine ⟨t2, stp t2 ?_, b1⟩
  have es : v.toList ++ rest.map (ydv E) = (yput rest r).map (ydv E) := by
    rw [ev]
    cases r <;> rfl
  rw [es]
  exact a1
/-- what stands at a method's entry -/
theorem yw_ctx {y : MethodName} {spec : Spec} {cc : ByteArray} {ml : Nat} {ret : Option FieldType} {s₁ : State} {sz : Nat} (B : BodyLoose p (yl E) y spec cc ml ret e s m args below meth c s₁) (hM1 : xMc M = cc) (hM2 : xMo M = y.cls) (hM3 : c.maxLocals = xMl M) (hM4 : xMr M = ret) (hM5 : (xMy M).name = y.name) (hts : ∀ w ∈ xgt, w.before args s = true) (hb : yb E + ysh.length ≤ sz) (hP : yPp E mem sz s) : yCtx E M p s m args meth c (xA (yb E) ysh.length sz) := by
  obtain ⟨hsz, hP, hK, hEX⟩ := hP
  refine ⟨⟨⟨B.exec, by rw [hM1]; exact B.bytes, by rw [hM2]; exact findClass_of_methodNamed B.named, hts⟩, hM3, hK, fun q h => Or.inr (by omega), fun q h => ?_, by rw [hM4]; exact B.returns, B.notSynchronized, fun h => ?_, hEX, by omega⟩, fun i hi => Or.inl ⟨by omega, by omega⟩⟩
  · rcases h with h | h
    · exact h.1
    · omega
  · exact (name_of_methodNamed B.named B.method).1.trans (hM5.symm.trans h)
end YW
/-! single instructions -/
section YO
variable {E : yE} {R : Room} {d : Nat} {M : xM} {pc nx : Nat} {lv : yL} {st : List yV} {mem : yMem} {ce sl : Nat} {Post : Option yV → yMem → Prop}
def yRm (R : Room) (d ce sl : Nat) : Prop := (d + 1 ≤ R.frames ∧ 64 * d + 64 ≤ R.locals) ∧ ce ≤ R.cells ∧ sl ≤ R.slots
theorem yo_c (hE : yEok E) (hR : yRm R d ce sl) {a : Nat} (hok : xok xmt M pc (0, nx, a, 0, [])) (h : yG E R M nx lv ((0, cI a) :: st) mem ce sl Post) : yG E R M pc lv st mem ce sl Post := yst (d := d) hE hR.1 hR.2 hok h
theorem yo_ld (hE : yEok E) (hR : yRm R d ce sl) {k i : Nat} {v : yV} (hok : xok xmt M pc (2, nx, k, i, [])) (hv : ylk lv i = some v) (hk : ykdb k v = true) (h : yG E R M nx lv (v :: st) mem ce sl Post) : yG E R M pc lv st mem ce sl Post := yst (d := d) hE hR.1 hR.2 hok (show ∃ v, ylk lv i = some v ∧ ykdb k v = true ∧ yG E R M nx lv (v :: st) mem ce sl Post from ⟨v, hv, hk, h⟩)
theorem yo_st (hE : yEok E) (hR : yRm R d ce sl) {k i : Nat} {v : yV} (hok : xok xmt M pc (3, nx, k, i, [])) (hk : ykdb k v = true) (hi : i + xwd k < xMl M) (h : yG E R M nx ((i, v) :: lv.filter (yflb k i)) st mem ce sl Post) : yG E R M pc lv (v :: st) mem ce sl Post := yst (d := d) hE hR.1 hR.2 hok (show ykdb k v = true ∧ i + xwd k < xMl M ∧ yG E R M nx ((i, v) :: lv.filter (yflb k i)) st mem ce sl Post from ⟨hk, hi, h⟩)
theorem yo_inc (hE : yEok E) (hR : yRm R d ce sl) {i a : Nat} {x : Int} (hok : xok xmt M pc (4, nx, i, a, [])) (hv : ylk lv i = some (0, x)) (hi : i < xMl M) (h : yG E R M nx ((i, (0, x + cI a)) :: lv.filter (yflb 0 i)) st mem ce sl Post) : yG E R M pc lv st mem ce sl Post := yst (d := d) hE hR.1 hR.2 hok (show ∃ x, ylk lv i = some (0, x) ∧ i < xMl M ∧ yG E R M nx ((i, (0, x + cI a)) :: lv.filter (yflb 0 i)) st mem ce sl Post from ⟨x, hv, hi, h⟩)
theorem yo_bin (hE : yEok E) (hR : yRm R d ce sl) {o : Nat} {x y : Int} (hok : xok xmt M pc (5, nx, o, 0, [])) (ho : o < 9) (h : yG E R M nx lv ((0, ybin o x y) :: st) mem ce sl Post) : yG E R M pc lv ((0, y) :: (0, x) :: st) mem ce sl Post := yst (d := d) hE hR.1 hR.2 hok (show ((o = 9 ∨ o = 10) → ¬ w32 y = 0) ∧ yG E R M nx lv ((0, ybin o x y) :: st) mem ce sl Post from ⟨fun z => by omega, h⟩)
theorem yo_pop (hE : yEok E) (hR : yRm R d ce sl) {v : yV} (hok : xok xmt M pc (10, nx, 0, 0, [])) (hv : ycat v = 1) (h : yG E R M nx lv st mem ce sl Post) : yG E R M pc lv (v :: st) mem ce sl Post := yst (d := d) hE hR.1 hR.2 hok (show ycat v = 1 ∧ yG E R M nx lv st mem ce sl Post from ⟨hv, h⟩)
theorem yo_pop2 (hE : yEok E) (hR : yRm R d ce sl) {v : yV} (hok : xok xmt M pc (69, nx, 0, 0, [])) (hv : ycat v = 2) (h : yG E R M nx lv st mem ce sl Post) : yG E R M pc lv (v :: st) mem ce sl Post := yst (d := d) hE hR.1 hR.2 hok (show ycat v = 2 ∧ yG E R M nx lv st mem ce sl Post from ⟨hv, h⟩)
theorem yo_if (hE : yEok E) (hR : yRm R d ce sl) {t c : Nat} {x : Int} (hok : xok xmt M pc (12, nx, t, c, [])) (h1 : ycp c x 0 → yG E R M t lv st mem ce sl Post) (h2 : ¬ ycp c x 0 → yG E R M nx lv st mem ce sl Post) : yG E R M pc lv ((0, x) :: st) mem ce sl Post := yst (d := d) hE hR.1 hR.2 hok (show (ycp c x 0 → yG E R M t lv st mem ce sl Post) ∧ (¬ ycp c x 0 → yG E R M nx lv st mem ce sl Post) from ⟨h1, h2⟩)
theorem yo_cmp (hE : yEok E) (hR : yRm R d ce sl) {t c : Nat} {x y : Int} (hok : xok xmt M pc (13, nx, t, c, [])) (h1 : ycp c x y → yG E R M t lv st mem ce sl Post) (h2 : ¬ ycp c x y → yG E R M nx lv st mem ce sl Post) : yG E R M pc lv ((0, y) :: (0, x) :: st) mem ce sl Post := yst (d := d) hE hR.1 hR.2 hok (show (ycp c x y → yG E R M t lv st mem ce sl Post) ∧ (¬ ycp c x y → yG E R M nx lv st mem ce sl Post) from ⟨h1, h2⟩)
theorem yo_go (hE : yEok E) (hR : yRm R d ce sl) (hok : xok xmt M pc (14, nx, 0, 0, [])) (h : yG E R M nx lv st mem ce sl Post) : yG E R M pc lv st mem ce sl Post := yst (d := d) hE hR.1 hR.2 hok h
theorem yo_gf (hE : yEok E) (hR : yRm R d ce sl) {ci k i : Nat} {fs : List yV} {v : yV} (hok : xok xmt M pc (16, nx, ci, k, [])) (hK : ysh[i]? = some (.inr (ci, fs))) (hv : fs[k]? = some v) (h : yG E R M nx lv (yfv v (mem i k) :: st) mem ce sl Post) : yG E R M pc lv ((1, (i : Int)) :: st) mem ce sl Post := yst (d := d) hE hR.1 hR.2 hok (show ∃ fs v, ysh[i]? = some (.inr (ci, fs)) ∧ fs[k]? = some v ∧ yG E R M nx lv (yfv v (mem i k) :: st) mem ce sl Post from ⟨fs, v, hK, hv, h⟩)
theorem yo_rd (hE : yEok E) (hR : yRm R d ce sl) {i n : Nat} {rs : List Nat} {j : Int} (hok : xok xmt M pc (19, nx, 0, 0, [])) (hK : ysh[i]? = some (.inl (0, n, rs))) (h0 : 0 ≤ w32 j) (h1 : w32 j < (n : Int)) (h : yG E R M nx lv ((0, mem i (w32 j).toNat) :: st) mem ce sl Post) : yG E R M pc lv ((0, j) :: (1, (i : Int)) :: st) mem ce sl Post := yst (d := d) hE hR.1 hR.2 hok (show ∃ n rs, ysh[i]? = some (.inl (0, n, rs)) ∧ 0 ≤ w32 j ∧ w32 j < (n : Int) ∧ yG E R M nx lv ((0, mem i (w32 j).toNat) :: st) mem ce sl Post from ⟨n, rs, hK, h0, h1, h⟩)
theorem yo_call (hE : yEok E) (hR : yRm R d ce sl) {mi ci i : Nat} {fs avs rest : List yV} {M' : xM} (hok : xok xmt M pc (28, pc + 3, mi, ci, [])) (hmi : xmt[mi]? = some M') (hn : avs.length = xMn M') (hrest : ysum rest ≤ 8) (hs : ysum ((1, (i : Int)) :: avs) ≤ xMl M') (hl : xMl M' ≤ 45) (hK : ysh[i]? = some (.inr (ci, fs))) (h : yCon E d M' ((1, (i : Int)) :: avs) mem (fun r mem' => yG E R M (pc + 3) lv (yput rest r) mem' ce sl Post)) : yG E R M pc lv (avs.reverse ++ (1, (i : Int)) :: rest) mem ce sl Post := by
  refine yst (d := d) hE hR.1 hR.2 hok ?_
  have e1 : (avs.reverse ++ (1, (i : Int)) :: rest).drop (xMn M') = (1, (i : Int)) :: rest := List.drop_left' (by rw [List.length_reverse, hn])
  have e2 : (avs.reverse ++ (1, (i : Int)) :: rest).drop (xMn M' + 1) = rest := by
    rw [← List.drop_drop, e1]
    rfl
  have e3 : (avs.reverse ++ (1, (i : Int)) :: rest).take (xMn M' + 1) = avs.reverse ++ [(1, (i : Int))] := by
    rw [List.append_cons]
    exact List.take_left' (by simp [hn])
  have e4 : ((avs.reverse ++ (1, (i : Int)) :: rest).take (xMn M' + 1)).reverse = (1, (i : Int)) :: avs := by rw [e3]; simp
  have hc : ycall E d mi 1 (avs.reverse ++ (1, (i : Int)) :: rest) mem (fun st' mem' => yG E R M (pc + 3) lv st' mem' ce sl Post) := by
    unfold ycall
    rw [hmi]
    refine ⟨by simp [hn], by rw [e2]; exact hrest, ?_, hl, ?_⟩
    · rw [e3, ysum_app, ysum_rev]
      simp only [ysum] at hs ⊢
      omega
    · rw [e4, e2]
      exact h
  refine (show (match xmt[mi]? with
    | some M' => match (avs.reverse ++ (1, (i : Int)) :: rest).drop (xMn M') with
      | (1, i) :: _ => ∃ fs, ysh[i.toNat]? = some (.inr (ci, fs))
      | _ => False
    | none => False) ∧ ycall E d mi 1 (avs.reverse ++ (1, (i : Int)) :: rest) mem (fun st' mem' => yG E R M (pc + 3) lv st' mem' ce sl Post) from ⟨?_, hc⟩)
  rw [hmi]
  dsimp only
  rw [e1]
  exact ⟨fs, hK⟩
theorem yo_rt (hE : yEok E) (hR : yRm R d ce sl) {b : Nat} {x : Int} (hok : xok xmt M pc (30, nx, 0, b, [])) (hb : b = 0 ∨ (b = 3 ∧ (w32 x = 0 ∨ w32 x = 1))) (h : Post (some (0, x)) mem) : yG E R M pc lv [(0, x)] mem ce sl Post := yst (d := d) hE hR.1 hR.2 hok (show (b = 0 ∨ (b = 3 ∧ (w32 x = 0 ∨ w32 x = 1))) ∧ Post (some (0, x)) mem from ⟨hb, h⟩)
theorem yo_i2l (hE : yEok E) (hR : yRm R d ce sl) {x : Int} (hok : xok xmt M pc (65, nx, 0, 0, [])) (h : yG E R M nx lv ((4, w32 x) :: st) mem ce sl Post) : yG E R M pc lv ((0, x) :: st) mem ce sl Post := yst (d := d) hE hR.1 hR.2 hok h
theorem yo_lst (hE : yEok E) (hR : yRm R d ce sl) {i n : Nat} {rs : List Nat} {x j : Int} (hok : xok xmt M pc (68, nx, 0, 0, [])) (hK : ysh[i]? = some (.inl (2, n, rs))) (h0 : 0 ≤ w32 j) (h1 : w32 j < (n : Int)) (h : yG E R M nx lv st (yset mem i (w32 j).toNat x) ce sl Post) : yG E R M pc lv ((4, x) :: (0, j) :: (1, (i : Int)) :: st) mem ce sl Post := yst (d := d) hE hR.1 hR.2 hok (show ∃ n rs, ysh[i]? = some (.inl (2, n, rs)) ∧ 0 ≤ w32 j ∧ w32 j < (n : Int) ∧ yG E R M nx lv st (yset mem i (w32 j).toNat x) ce sl Post from ⟨n, rs, hK, h0, h1, h⟩)
theorem yo_sw (hE : yEok E) (hR : yRm R d ce sl) {t : Nat} {cs : List (Nat × Nat)} {x : Int} (hok : xok xmt M pc (15, 0, t, 0, cs)) (h1 : ∀ q ∈ cs, w32 x = cI q.1 → yG E R M q.2 lv st mem ce sl Post) (h2 : (∀ q ∈ cs, ¬ w32 x = cI q.1) → yG E R M t lv st mem ce sl Post) (h3 : ∀ q ∈ cs, q.1 < 4294967296) : yG E R M pc lv ((0, x) :: st) mem ce sl Post := yst (d := d) hE hR.1 hR.2 hok (show (∀ q ∈ cs, w32 x = cI q.1 → yG E R M q.2 lv st mem ce sl Post) ∧ ((∀ q ∈ cs, ¬ w32 x = cI q.1) → yG E R M t lv st mem ce sl Post) ∧ (∀ q ∈ cs, q.1 < 4294967296) from ⟨h1, h2, h3⟩)
end YO
/-! look's ways that return -/
section LKG
variable {E : yE} {R : Room} {mem : yMem} {ce sl : Nat} {Post : Option yV → yMem → Prop} {x y : Int}
abbrev lklv (x y : Int) : yL := [(0, (1, 0)), (1, (0, x)), (2, (0, y))]
theorem lko {pc : Nat} {op : xOp} (h : xfind xk_LK pc = some op) : xok xmt xm_LK pc op := xo_LK _ (xfind_mem h)
theorem lk_get (hE : yEok E) (hR : yRm R 2 ce sl) {pc f1 c1 c2 ci f2 n nx : Nat} {fs gs : List yV} {rs : List Nat}
    (h0 : xfind xk_LK pc = some (2, pc + 1, 1, 0, [])) (h1 : xfind xk_LK (pc + 1) = some (16, pc + 4, 11, f1, [])) (h2 : xfind xk_LK (pc + 4) = some (16, pc + 7, ci, f2, [])) (h3 : xfind xk_LK (pc + 7) = some (2, pc + 8, 0, 1, [])) (h4 : xfind xk_LK (pc + 8) = some (19, pc + 9, 0, 0, [])) (h5 : xfind xk_LK (pc + 9) = some (30, nx, 0, 0, []))
    (k0 : ysh[0]? = some (.inr (11, fs))) (k1 : fs[f1]? = some (1, (c1 : Int))) (k2 : ysh[c1]? = some (.inr (ci, gs))) (k3 : gs[f2]? = some (1, (c2 : Int))) (k4 : ysh[c2]? = some (.inl (0, n, rs))) (hx : 0 ≤ w32 x) (hx2 : w32 x < (n : Int))
    (hQ : ∀ v, Post (some (0, v)) mem) : yG E R xm_LK pc (lklv x y) [] mem ce sl Post :=
  yo_ld (v := (1, 0)) hE hR (lko h0) rfl rfl <|
  yo_gf (i := 0) hE hR (lko h1) k0 k1 <|
  yo_gf (i := c1) hE hR (lko h2) k2 k3 <|
  yo_ld (v := (0, x)) hE hR (lko h3) rfl rfl <|
  yo_rd (i := c2) hE hR (lko h4) k4 hx hx2 <|
  yo_rt hE hR (lko h5) (Or.inl rfl) (hQ _)
theorem lk_5 (hE : yEok E) (hR : yRm R 2 ce sl) (hQ : ∀ v, Post (some (0, v)) mem) : yG E R xm_LK 114 (lklv x y) [] mem ce sl Post := by
  have rt : ∀ v, yG E R xm_LK 145 (lklv x y) [(0, v)] mem ce sl Post := fun v => yo_rt (nx := 146) (b := 0) hE hR (lko rfl) (Or.inl rfl) (hQ _)
  refine yo_ld (nx := 115) (k := 1) (i := 0) (v := (1, 0)) hE hR (lko rfl) rfl rfl ?_
  refine yo_gf (nx := 118) (ci := 11) (k := 4) (i := 0) (v := (1, 57)) hE hR (lko rfl) rfl rfl ?_
  refine yo_ld (nx := 119) (k := 0) (i := 1) (v := (0, x)) hE hR (lko rfl) rfl rfl ?_
  refine yo_call (mi := 139) (ci := 10) (i := 57) (avs := [(0, x)]) (rest := []) (M' := xm_139) hE hR (lko rfl) rfl rfl (by decide) (Nat.le_of_ble_eq_true rfl) (by decide) rfl (c_isCracked57 hE (by decide) (fun v => ?_))
  refine yo_if (pc := 122) (nx := 125) (t := 129) (c := 0) hE hR (lko rfl) (fun _ => ?_) (fun _ => ?_)
  · refine yo_ld (nx := 130) (k := 1) (i := 0) (v := (1, 0)) hE hR (lko rfl) rfl rfl ?_
    refine yo_gf (nx := 133) (ci := 11) (k := 1) (i := 0) (v := (1, 2)) hE hR (lko rfl) rfl rfl ?_
    refine yo_ld (nx := 134) (k := 0) (i := 1) (v := (0, x)) hE hR (lko rfl) rfl rfl ?_
    refine yo_call (mi := 81) (ci := 4) (i := 2) (avs := [(0, x)]) (rest := []) (M' := xm_81) hE hR (lko rfl) rfl rfl (by decide) (Nat.le_of_ble_eq_true rfl) (by decide) rfl (c_isBoy2 hE (by decide) (fun v => ?_))
    refine yo_if (pc := 137) (nx := 140) (t := 144) (c := 0) hE hR (lko rfl) (fun _ => ?_) (fun _ => ?_)
    · exact yo_c (nx := 145) (a := 0) hE hR (lko rfl) (rt _)
    · exact yo_c (nx := 141) (a := 1) hE hR (lko rfl) (yo_go (nx := 145) hE hR (lko rfl) (rt _))
  · exact yo_c (nx := 126) (a := 2) hE hR (lko rfl) (yo_go (nx := 145) hE hR (lko rfl) (rt _))
end LKG
end
section
/-! A THROWABLE WITH A TEXT whose constructor's link to the one above has any index (the library's own law wants 7; NoSuchElementException has 13) -/
section CT
def ctOwn (own : String) (ic : Nat) (X : String) : List Cond :=
  [.methodLink own ic (Bundle.initS X), .instantiable X 6, .castable X X, .selects X Bundle.tFill0 Bundle.tFill0, .selects X Bundle.tFill Bundle.tFill,
   .lays X Bundle.tN "cause" "Ljava/lang/Throwable;", .lays X Bundle.tN "stackTrace" Bundle.steD, .lays X Bundle.tN "suppressedExceptions" Bundle.listD, .lays X Bundle.tN "detailMessage" "Ljava/lang/String;",
   .isRef (.static Bundle.tN "UNASSIGNED_STACK" Bundle.steD), .isRef (.static Bundle.tN "SUPPRESSED_SENTINEL" Bundle.listD),
   .fieldLink Bundle.tN 198 Bundle.tN "backtrace" "Ljava/lang/Object;", .lays Bundle.tN Bundle.tN "backtrace" "Ljava/lang/Object;", .lays X Bundle.tN "backtrace" "Ljava/lang/Object;"]
def ctAt (own : String) (ic : Nat) (X Y : String) (ix : Nat) (bs : ByteArray) (names : List String) : List Cond :=
  Bundle.throwableAtoms ++ (Bundle.throwableSAtoms ++ (Bundle.passSAtoms X Y ix bs ++ (Bundle.chainSAtoms Y names ++ ctOwn own ic X)))
variable {p : Program} {l : Launch} {e : Env} {R : Room} {s : State} {m : MethodId} {args : Array Value} {below : List Frame} {meth : Method} {c : Code} {V : State} {locs : List Loc} {cells slots : Nat}
set_option maxHeartbeats 4000000 in
theorem ct_ctor (X : Stand p l e R s m args below meth c V locs cells slots) (hexec : p.tables.exec = Jvm.exec) (htr : e.platform.stackTraces = false) {own cls up : String} {names : List String} {ic ix : Nat} {bs : ByteArray}
    (b0 : decode bs 0 = .ok (.aload_n 0, 1)) (b1 : decode bs 1 = .ok (.aload_n 1, 1)) (b2 : decode bs 2 = .ok (.invokespecial ix, 3)) (b5 : decode bs 5 = .ok (.return_, 1))
    (hown : s.vm.findClass own = some m.cls) (hcls : Bundle.fit cls = true) (hup : Bundle.fit up = true) (hnames : ∀ n ∈ names, Bundle.fit n = true)
    (h : ∀ a ∈ ctAt own ic cls up ix bs names, a.before args s = true)
    (hlocs : ∀ x ∈ locs, ∀ cell, s.heap[x.base]? = some cell → cell.vm.isStatics = false)
    {a : Addr} {cX : ClassId} {kX : Class} (hfoundX : s.vm.findClass cls = some cX) (hkX : s.vm.classes[cX]? = some kX) (hcell : V.heap[a]? = some (freshCell cX kX)) (hnew : s.heap.size ≤ a)
    {msg : Value} (hmsg : msg.isRef = true)
    {g : JFrame} (hg : g.method = m) (hsize : g.locals.size = c.maxLocals) (hlocked : g.locked = none) (hentered : g.entered = []) {rest : List Value} (hstack : g.stack = msg :: .ref a :: .ref a :: rest)
    (hd6 : decode c.code g.pc = .ok (.invokespecial ic, 3)) (hd9 : decode c.code (g.pc + 3) = .ok (.athrow, 1)) (hout : ∀ x ∈ c.exceptionTable.toList, covers x (g.pc + 3) = false)
    (hRf : names.length + 4 < R.frames) (hRl : 2 * g.monitorRoom + ((Value.ref a :: rest).map fun v => v.category).sum + (13 * (names.length + 2) + 42) ≤ R.locals) (hlocks : meth.locks = false) :
    ∃ U : State, Steps p.tables e below (V.setTop g) U ∧ U.status = .running ∧ Ended U below (.threw a) ∧ s.WarmedH U.vm ∧ s.sameButNew ({ U with vm := s.vm } : State) locs cells slots ∧
      ∃ ce, U.heap[a]? = some ce ∧ ce.vm = .none ∧ s.vm.findClass cls = some ce.cls := by
  have hmon : e.platform.frameOwnsMonitors = true := by rw [X.admits.platform]
  have hfin : e.platform.finalization = false := by rw [X.admits.platform]
  have hpl : e.platform.magicAccessors = ({} : Platform).magicAccessors := by rw [X.admits.platform]
  have at1 : ∀ w ∈ Bundle.throwableAtoms, w.before args s = true := fun w hw => h w (List.mem_append_left _ hw)
  have at2 : ∀ w ∈ Bundle.throwableSAtoms, w.before args s = true := fun w hw => h w (List.mem_append_right _ (List.mem_append_left _ hw))
  have at3 : ∀ w ∈ Bundle.passSAtoms cls up ix bs, w.before args s = true := fun w hw => h w (List.mem_append_right _ (List.mem_append_right _ (List.mem_append_left _ hw)))
  have at4 : ∀ w ∈ Bundle.chainSAtoms up names, w.before args s = true := fun w hw => h w (List.mem_append_right _ (List.mem_append_right _ (List.mem_append_right _ (List.mem_append_left _ hw))))
  have own' : ∀ w, w ∈ ctOwn own ic cls → w.before args s = true := fun w hw => h w (List.mem_append_right _ (List.mem_append_right _ (List.mem_append_right _ (List.mem_append_right _ hw))))
  obtain ⟨T, Z0, L, -, Y⟩ := ThrowableC.of_atoms (args := args) hmon hfin hpl at1
  obtain ⟨Z, M, LZ, LM, hnZ⟩ := Init0T.ofS_atoms (args := args) hpl L Y at2
  obtain ⟨P2, Ps, hlen, L2, hLs, hm2, hsup2, hpass2⟩ := Bundle.chainS (args := args) hpl hnZ names up hup hnames at4
  obtain ⟨P1, L1, hm1, hs1⟩ := PassC.ofS_atoms (args := args) (s := s) hpl (X := cls) (Y := up) (Bundle.fit_spec hcls).1 (Bundle.fit_spec hup).2 b0 b1 b2 b5 at3
  have hsup1 : P1.sup = P2.m := Option.some.inj (hs1.symm.trans hm2)
  have hfound : s.vm.findClass cls = some P1.m.cls := findClass_of_methodNamed hm1
  cases Option.some.inj (hfoundX.symm.trans hfound)
  obtain ⟨c1, kX', hc1, hk, hord, -, -, hn6⟩ := Cond.instantiable_spec (own' (.instantiable cls 6) (by simp [ctOwn]))
  cases Option.some.inj (hc1.symm.trans hfound)
  cases Option.some.inj (hkX.symm.trans hk)
  have sel : ∀ {x : MethodName} {mm : MethodId}, s.methodNamed? x = some mm → (x.cls ≠ "java/lang/invoke/MethodHandle" → True) → s.methodFound? x.cls x.name x.desc = some mm → (Cond.selects cls x x).before args s = true → selectMethod e.platform s.vm P1.m.cls mm = .method mm := by
    intro x mm q0 _ qf q
    obtain ⟨c2, r2, m2, q1, q2, q3, q4, -⟩ := Cond.selects_spec q
    cases Option.some.inj (q1.symm.trans hfound)
    cases Option.some.inj (q2.symm.trans qf)
    cases Option.some.inj (q3.symm.trans q0)
    rw [Launch.admits_selectMethod X.admits]
    exact q4
  have hsel0 := sel Y.fill0 (fun _ => trivial) (State.methodFound?_of_named Y.fill0 (by decide)) (own' (.selects cls Bundle.tFill0 Bundle.tFill0) (by simp [ctOwn]))
  have hselF := sel Y.fill (fun _ => trivial) (State.methodFound?_of_named Y.fill (by decide)) (own' (.selects cls Bundle.tFill Bundle.tFill) (by simp [ctOwn]))
  obtain ⟨cS0, hcS0, hiss⟩ := Y.statics
  obtain ⟨u0, hu0⟩ := Cond.staticRefV Y.unassigned L.unassignedStatic L.statics hcS0 hiss (own' (.isRef (.static Bundle.tN "UNASSIGNED_STACK" Bundle.steD)) (by simp [ctOwn]))
  obtain ⟨sen, hsen⟩ := Cond.staticRefV Y.sentinel L.sentinelStatic L.statics hcS0 hiss (own' (.isRef (.static Bundle.tN "SUPPRESSED_SENTINEL" Bundle.listD)) (by simp [ctOwn]))
  obtain ⟨ci9, i9, fB, k1, k2, k3, k4, -, k5, k6, hffB⟩ := Cond.ownField (t := .object "java/lang/Object") Y.found L.cls (by decide +kernel) (own' (.fieldLink Bundle.tN 198 Bundle.tN "backtrace" "Ljava/lang/Object;") (by simp [ctOwn])) (own' (.lays Bundle.tN Bundle.tN "backtrace" "Ljava/lang/Object;") (by simp [ctOwn])) e.platform hpl
  obtain ⟨cS, hcS', heS, -, hkeep⟩ := X.same.2.2.2.2.2 T.aS cS0 hcS0
  have hcS : V.heap[T.aS]? = some cS := hcS'
  have hnotin : ∀ i, (⟨T.aS, i⟩ : Loc) ∉ locs := fun i hi => by
    have := hlocs _ hi cS0 hcS0
    rw [hiss] at this
    cases this
  have hknown : cS.vm ≠ .unknown := by
    rw [heS]
    intro hu
    rw [show cS0.vm = .unknown from hu] at hiss
    cases hiss
  have hne : T.aS ≠ a := Nat.ne_of_lt (Nat.lt_of_lt_of_le (Array.getElem?_eq_some_iff.mp hcS0).1 hnew)
  obtain ⟨iM, hffM⟩ := Y.msg
  obtain ⟨tyC, dC, hdC, hnC⟩ := Cond.laysAt hfound hk Y.cause (own' (.lays cls Bundle.tN "cause" "Ljava/lang/Throwable;") (by simp [ctOwn]))
  obtain ⟨tyS, dS, hdS, hnS⟩ := Cond.laysAt hfound hk Y.stack (own' (.lays cls Bundle.tN "stackTrace" Bundle.steD) (by simp [ctOwn]))
  obtain ⟨tyP, dP, hdP, hnP⟩ := Cond.laysAt hfound hk Y.supp (own' (.lays cls Bundle.tN "suppressedExceptions" Bundle.listD) (by simp [ctOwn]))
  obtain ⟨tyM, dM, hdM, hnM⟩ := Cond.laysAt hfound hk hffM (own' (.lays cls Bundle.tN "detailMessage" "Ljava/lang/String;") (by simp [ctOwn]))
  obtain ⟨tyB, dB, hdB, hnB⟩ := Cond.laysAt hfound hk hffB (own' (.lays cls Bundle.tN "backtrace" "Ljava/lang/Object;") (by simp [ctOwn]))
  have bC := Cond.laysApart hdB hdC hnB hnC (by rw [k5, Y.causeName]; decide)
  have bS := Cond.laysApart hdB hdS hnB hnS (by rw [k5, Y.stackName]; decide)
  have bP := Cond.laysApart hdB hdP hnB hnP (by rw [k5, Y.suppName]; decide)
  have hskip : SkipFacts T e.platform s (fun u => u) u0 ((preparedCellV T.toThrowableT (freshCell P1.m.cls kX) a u0 sen).withEntry V.cur) :=
    ⟨{ ci198 := ci9, i198 := i9, fBack := fB }, ⟨k1, k2, k3, k4⟩, by
      have := fresh_default (c := P1.m.cls) tyB
      rw [k6] at this
      simpa [preparedCellV, Cell.setSlot, Cell.withEntry, Array.getElem?_setIfInBounds, bC, bS, bP, bC.symm, bS.symm, bP.symm, defaultValue] using this, fun _ _ => rfl⟩
  obtain ⟨tm, -, -, -, vm1, hn1, -, -, -, -, -, -, -, hW1, st1⟩ := Steps.initColdS (tb := p.tables) (e := e) (below := below) (s := s) (U := V) X.here hexec X.warmed hpl hown (t := Bundle.initS cls) rfl rfl (Bundle.fit_spec hcls).2
    (own' (.methodLink own ic (Bundle.initS cls)) (by simp [ctOwn])) (at3 (.instanceMethod (Bundle.initS cls)) (by simp [Bundle.passSAtoms])) (bytes := bs) (maxL := 2) (at3 (.code (Bundle.initS cls) bs 2 none) (by simp [Bundle.passSAtoms]))
    (f := g) hg (a := a) (msg := msg) (rest := .ref a :: rest) hstack hd6
  cases Option.some.inj (hn1.symm.trans hm1)
  have X1 := X.noted hW1
  obtain ⟨vm2, X2, st2⟩ := X1.ctorMessageOffV hexec (g := { g with stack := .ref a :: rest }) hg hsize T L Z LZ M LM (P1 :: P2 :: Ps)
    (fun P hP => by
      rcases List.mem_cons.mp hP with rfl | hP
      · exact L1
      · rcases List.mem_cons.mp hP with rfl | hP
        · exact L2
        · exact hLs P hP) ⟨hsup1, hsup2, hpass2⟩ (u0 := u0) (sen := sen) (self := a) hmsg (cell := freshCell P1.m.cls kX) (cellS := cS)
    hcell (fun _ => by simp) (by simp) rfl rfl hsel0 hselF hcS hne hknown (by rw [hkeep _ (hnotin _)]; exact hu0) (by rw [hkeep _ (hnotin _)]; exact hsen)
    (Takes.of_laid hk hord tyC (by rw [Y.causeType]; rfl)) (Takes.of_laid hk hord tyS (by rw [Y.stackType]; exact fits_refV_array _ u0)) (Takes.of_laid hk hord tyP (by rw [Y.suppType]; exact fits_refV_object _ sen))
    (Takes.of_laid hk hord tyM (by rw [Y.msgType]; exact fits_refV_object _ ⟨msg, hmsg⟩)) Y.objLocals hskip htr [] hd6
    (by simp only [List.length_cons, hlen]; omega) (by simp only [List.length_cons, hlen]; exact hRl)
  obtain ⟨hwalk, hrun, hended, hWU, hsame⟩ := X2.athrowLeaves hexec (g := { g with stack := .ref a :: rest, pc := g.pc + 3 }) hg hlocked hentered hout (a := a) (rest := rest) rfl hd9
  have hlt : a < ((V.setVm vm1).setVm vm2).heap.size := (Array.getElem?_eq_some_iff.mp hcell).1
  have hU := heapAt_setCell_self (s := (V.setVm vm1).setVm vm2) (plainBareV T.toThrowableT (freshCell P1.m.cls kX) a u0 sen msg) hlt
  refine ⟨_, st1 _ (fun acts => ?_), hrun, hended, hWU, hsame.weaken (fun y hy hlt' => ?_) (Nat.le_refl _) (Nat.le_refl _), _, hU, rfl, hfound⟩
  · rw [doInvoke_state]
    exact st2 _ hwalk
  · rcases List.mem_append.mp hy with h1 | h1
    · exact h1
    · exfalso
      have hb : y.base = a := by
        simp only [List.mem_cons, List.not_mem_nil, or_false] at h1
        rcases h1 with rfl | rfl | rfl | rfl | rfl <;> rfl
      rw [hb] at hlt'
      exact Nat.not_lt.mpr hnew hlt'
end CT
section CTW
variable {p : Program} {l : Launch} {e : Env} {R : Room} {s : State} {m : MethodId} {args : Array Value} {below : List Frame} {meth : Method} {c : Code} {H : Heap} {locs : List Loc} {cells slots : Nat} {free : Addr → Prop} {ls : Array Slot} {rest : List Value} {Qc : Array Value → State → Outcome → State → Prop} {XC : String → State → State → Prop}
set_option maxHeartbeats 4000000 in
/-- 'throw new E("text")' of such a class -/
theorem ct_throw {cc : ByteArray} {pc : Nat} (hexec : p.tables.exec = Jvm.exec) (hb : c.code = cc) (hl : l.stackTraces = false) {own cls up text : String} {names : List String} {ik is ic ix mc ms sa : Nat} {bs : ByteArray} {A : Nat → Prop}
    (b0 : decode bs 0 = .ok (.aload_n 0, 1)) (b1 : decode bs 1 = .ok (.aload_n 1, 1)) (b2 : decode bs 2 = .ok (.invokespecial ix, 3)) (b5 : decode bs 5 = .ok (.return_, 1))
    (hown : s.vm.findClass own = some m.cls) (hcls : Bundle.fit cls = true) (hup : Bundle.fit up = true) (hnames : ∀ n ∈ names, Bundle.fit n = true)
    (hk : (Cond.classLink own ik cls).before args s = true) (hini : (Cond.initialized cls).before args s = true) (hstr : vk_R own is text sa s) (hat : ∀ w ∈ (ctAt own ic cls up ix bs names).filter vx_no, w.before args s = true)
    (hgood : ∀ w ∈ Cond.classLink own ik cls :: Cond.initialized cls :: (ctAt own ic cls up ix bs names).filter vx_no, vx_ot w = true)
    (hU : vx_Zq Bundle.tN "UNASSIGNED_STACK" Bundle.steD A s s.heap) (hN : vx_Zq Bundle.tN "SUPPRESSED_SENTINEL" Bundle.listD A s s.heap) (hS : va_S A s.heap H locs) (hsize : ls.size = c.maxLocals)
    (d0 : decode cc pc = .ok (.new ik, 3)) (d3 : decode cc (pc + 3) = .ok (.dup, 1)) (d4 : decode cc (pc + 4) = .ok (.ldc is, 2)) (d6 : decode cc (pc + 6) = .ok (.invokespecial ic, 3)) (d9 : decode cc (pc + 9) = .ok (.athrow, 1))
    (hout : ∀ x ∈ c.exceptionTable.toList, covers x (pc + 9) = false)
    (hRf : names.length + 4 < R.frames) (hRl : (rest.map fun v => v.category).sum + (13 * (names.length + 2) + 43) ≤ R.locals) (hRc : cells + 1 ≤ R.cells) (hRs : slots + 6 ≤ R.slots) (hlocks : meth.locks = false)
    (hx : ∀ t : State, s.vm.Alike t.vm → H.size ≤ t.heap.size → (∀ q : Nat, q < H.size → t.heap[q]? = H[q]?) → XC cls s t)
    (hf : ∀ z ∈ locs, free z.base) (hc : cells + 1 ≤ mc) (hs : slots + 6 ≤ ms) :
    W p l e R s m args below meth c H locs cells slots (vx_MQ below Qc XC args s mc ms free) (F0 m pc ls rest) := by
  intro T hT X
  have htr : e.platform.stackTraces = false := (show e.platform.stackTraces = l.stackTraces by rw [X.admits.platform]).trans hl
  have Y := vx_rebase X (R' := { frames := R.frames, locals := R.locals, cells := 1, slots := 6 }) (Nat.le_refl _) (Nat.le_refl _) hRc hRs
  obtain ⟨s', hA⟩ : ∃ z, z = (T.setVm s.vm).setFrames (.invoking m args :: below) := ⟨_, rfl⟩
  rw [← hA] at Y
  have hvm : s'.vm = s.vm := by rw [hA]; rfl
  have hhp : s'.heap = H := by rw [hA]; exact hT
  have hW0 : s.WarmedH s'.vm := by rw [hvm]; exact State.WarmedH.refl s
  have mv : ∀ w, vx_ot w = true → w.before args s = true → w.before args s' = true := fun w h1 h2 => vx_ot_at hW0 hvm.symm h1 h2
  have hU' : vx_Zq Bundle.tN "UNASSIGNED_STACK" Bundle.steD A s' s'.heap := by rw [hhp]; exact vx_Zq.moved hW0.alike (hU.kept hS.2.1)
  have hN' : vx_Zq Bundle.tN "SUPPRESSED_SENTINEL" Bundle.listD A s' s'.heap := by rw [hhp]; exact vx_Zq.moved hW0.alike (hN.kept hS.2.1)
  have h : ∀ w ∈ ctAt own ic cls up ix bs names, w.before args s' = true := vx_own (fun w hw => mv w (hgood w (List.mem_cons_of_mem _ (List.mem_cons_of_mem _ hw))) (hat w hw)) (vx_isRefq hU'.1) (vx_isRefq hN'.1) hU'.2.word hN'.2.word
  have hown' : s'.vm.findClass own = some m.cls := by rw [hvm]; exact hown
  have hins : (Cond.instantiable cls 6).before args s' = true := h _ (by simp [ctAt, ctOwn])
  obtain ⟨vm1, cX, kX, hfX, hkX, -, -, X1, st1⟩ := Y.newCold hexec (own := own) (C := cls) (index := ik) (n := 6) hown' (mv _ (hgood _ List.mem_cons_self) hk) hins (mv _ (hgood _ (List.mem_cons_of_mem _ List.mem_cons_self)) hini)
    (g := F0 m pc ls rest) rfl (by rw [hb]; exact d0) (Nat.le_refl _) (Nat.le_refl _)
  generalize hT1 : (T.setVm vm1).pushCell { cls := cX, slots := kX.instanceTypes.map defaultValue, vm := .none } = T1 at X1 st1
  have hcat : (Value.ref T.heap.size).category = 1 := rfl
  have hcellA : T1.heap[T.heap.size]? = some (freshCell cX kX) := by rw [← hT1]; exact State.heap_pushCell_size _ _
  have d3' : decode c.code (pc + 3) = .ok (.dup, 1) := by rw [hb]; exact d3
  have d4' : decode c.code (pc + 4) = .ok (.ldc is, 2) := by rw [hb]; exact d4
  have hstr' : vk_R own is text sa s' := vk_R.warm hW0 hstr
  obtain ⟨U, hsteps, hrun, hend, hW, hsame, ce, hce, hcv, hcl⟩ := ct_ctor X1 hexec htr b0 b1 b2 b5 hown' hcls hup hnames h (fun x hx => nomatch hx) hfX hkX hcellA (by rw [hhp, hT]; exact Nat.le_refl _) (msg := .ref sa) rfl
    (g := { method := m, pc := pc + 6, locals := ls, stack := .ref sa :: .ref T.heap.size :: .ref T.heap.size :: rest, locked := none }) rfl hsize rfl rfl (rest := rest) rfl
    (by rw [hb]; exact d6) (by rw [hb]; exact d9) hout hRf (by simp only [List.map_cons, List.sum_cons, hcat]; omega) hlocks
  obtain ⟨f1, f2⟩ := vx_frame hsame
  rw [hhp] at f1 f2
  have hWs : s.WarmedH U.vm := State.WarmedH.trans hW0 hW
  have hcl' : s.vm.findClass cls = some ce.cls := by
    rw [hvm] at hcl
    exact hcl
  have hall : s.sameButNew ({ U with vm := s.vm } : State) locs mc ms := by
    subst hA
    obtain ⟨e1, e2⟩ := hsame
    rw [State.setFrames_setFrames] at e1
    have h2 : (T.setVm s.vm).sameButNew ({ U with vm := s.vm } : State) [] (0 + 1) (0 + 6) := ⟨e1, e2⟩
    have h3 := X.same.trans h2
    rw [List.append_nil] at h3
    exact h3.mono hc hs
  refine ⟨U, ?_, .threw T.heap.size, hrun, hend, Or.inr ⟨T.heap.size, rfl, cls, ce, locs, hx U hWs.alike f1 (fun q hq => f2 q hq (fun z hz => nomatch hz)), hce, hcv, hcl', hWs, hall, hf⟩⟩
  refine st1 _ ?_
  show Steps p.tables e below (T1.setTop { method := m, pc := pc + 3, locals := ls, stack := .ref T.heap.size :: rest, locked := none }) _
  jvm_step X1.here [X1.here.top, hexec, d3', Value.category]
  exact X1.ldcString hexec (own := own) (text := text) (index := is) (a := sa) hown' hstr'.1 hstr'.2
    (g := { method := m, pc := pc + 4, locals := ls, stack := .ref T.heap.size :: .ref T.heap.size :: rest, locked := none }) rfl d4' _ hsteps
end CTW
abbrev ctNs : List Cond := (ctAt RX11 182 "java/util/NoSuchElementException" "java/lang/RuntimeException" 13 prog_32_method_4_code ["java/lang/Exception"]).filter vx_no
theorem ctNs_0 : decode prog_32_method_4_code 0 = .ok (.aload_n 0, 1) := by decide +kernel
theorem ctNs_1 : decode prog_32_method_4_code 1 = .ok (.aload_n 1, 1) := by decide +kernel
theorem ctNs_2 : decode prog_32_method_4_code 2 = .ok (.invokespecial 13, 3) := by decide +kernel
theorem ctNs_5 : decode prog_32_method_4_code 5 = .ok (.return_, 1) := by decide +kernel
theorem ctNs_good : ∀ w ∈ ctNs.filter goodWord, w ∈ lw_tbl := by decide +kernel
theorem ctNs_tab : ∀ w ∈ xthr2, w.onTables = true := by decide +kernel
theorem ctNs_bad : ∀ w ∈ ctNs.filter (fun w => !goodWord w), w ∈ xthr2 := by decide +kernel
theorem xat2 {args : Array Value} {s : State} (hts : ∀ w ∈ xgt, w.before args s = true) (h : ∀ w ∈ xthr2, va_Nw w s) : ∀ w ∈ ctNs, w.before args s = true := by
  intro w hw
  by_cases hg : goodWord w = true
  · exact hts w (List.mem_filter.mpr ⟨ctNs_good w (List.mem_filter.mpr ⟨hw, hg⟩), hg⟩)
  · have hx : w ∈ xthr2 := ctNs_bad w (List.mem_filter.mpr ⟨hw, by simpa using hg⟩)
    exact va_Nw.use (ctNs_tab w hx) (h w hx)
end
section
/-! look: it returns, or throws one of two -/
theorem xthr_good : ∀ w ∈ (vx_atS RX11 153 "java/lang/IndexOutOfBoundsException" ["java/lang/RuntimeException", "java/lang/Exception"]).filter goodWord, w ∈ lw_tbl := by decide +kernel
theorem xthr_tab : ∀ w ∈ xthr, w.onTables = true := by decide +kernel
theorem xat {args : Array Value} {s : State} (hts : ∀ w ∈ xgt, w.before args s = true) (h : ∀ w ∈ xthr, va_Nw w s) : ∀ w ∈ vx_atS RX11 153 "java/lang/IndexOutOfBoundsException" ["java/lang/RuntimeException", "java/lang/Exception"], w.before args s = true := by
  intro w hw
  by_cases hg : goodWord w = true
  · exact hts w (List.mem_filter.mpr ⟨xthr_good w (List.mem_filter.mpr ⟨hw, hg⟩), hg⟩)
  · have hx : w ∈ xthr := List.mem_filter.mpr ⟨hw, by simpa using hg⟩
    exact va_Nw.use (xthr_tab w hx) (h w hx)
theorem xA_lo {b n sz q : Nat} (h : b ≤ sz) (hq : xA b n sz q) : b ≤ q := by
  rcases hq with hq | hq
  · exact hq.1
  · omega
abbrev lkRm : Room := { frames := 12, cells := 1, slots := 6, locals := 1000 }
abbrev lkWs : List Cond := .code yX11_look cX11_look 3 (some .int) :: xgt
abbrev lkX (E : yE) (mem : yMem) (sz : Nat) : String → State → State → Prop := vx_X (fun _ : Unit => True) (fun C _ t => (C = "java/lang/IndexOutOfBoundsException" ∨ C = "java/util/NoSuchElementException") ∧ va_P (yD E) vwCl (yW E mem) t.heap) (xA (yb E) ysh.length sz)
abbrev lkQ (E : yE) (mem : yMem) (sz : Nat) : Array Value → State → Outcome → State → Prop := va_Qi (fun (_ : Int32) (_ : Unit) => True) (fun _ t => va_P (yD E) vwCl (yW E mem) t.heap) (xA (yb E) ysh.length sz)
set_option maxHeartbeats 4000000 in
theorem y_look {E : yE} (hE : yEok E) {mem : yMem} (hG : aGok mem) (x y : Int) (sz : Nat) (hb : yb E + ysh.length ≤ sz) : vx_Met (yl E) yX11_look lkWs lkRm (va_Pc [.ref (yb E + 0), .int (iI x), .int (iI y)] (yPp E mem sz)) (lkQ E mem sz) (lkX E mem sz) 1 6 (xA (yb E) ysh.length sz) := by
  refine vx_ofW (cc := cX11_look) (maxL := 3) (ret := some .int) (by decide +kernel) rfl ?_
  intro p e s m args below meth c s₁ B hml htab hvv
  obtain ⟨rfl, hPp⟩ := hvv
  have hts := atoms_spec (ws := lkWs) B.pre
  have hC : yCtx E xm_LK p s m ([Value.ref (yb E + 0), Value.int (iI x), Value.int (iI y)] : List Value).toArray meth c (xA (yb E) ysh.length sz) := yw_ctx B rfl rfl hml rfl rfl (fun w hw => hts w (List.mem_cons_of_mem _ hw)) hb hPp
  obtain ⟨hsz, hP, hK, hEX⟩ := hPp
  have hl := lv_entry ([.ref (yb E + 0), .int (iI x), .int (iI y)]) (n := 3) (Nat.le_of_ble_eq_true rfl)
  rw [lg_entry_eq]
  generalize (lg_sl ([.ref (yb E + 0), .int (iI x), .int (iI y)]) ++ List.replicate (3 - (lg_sl ([.ref (yb E + 0), .int (iI x), .int (iI y)])).length) Slot.unset).toArray = ls at hl ⊢
  have hl : lv_has ls 3 (ydL E (lklv x y)) := hl
  have hR : ∀ ce sl, ce ≤ 1 → sl ≤ 6 → yRm (headSpec lkWs lkRm).room 2 ce sl := fun ce sl h1 h2 => ⟨⟨by decide, by decide⟩, h1, h2⟩
  have C := hC.1.1
  refine lv_aload_n C.1 C.2.1 dX11_look_0 rfl (lv_at hl 0 rfl) ?_
  refine yw_getf (i := 0) (v := (1, 2)) (lko (show xfind xk_LK 1 = some (16, 4, 11, 1, []) from rfl)) rfl rfl hC hP ?_
  refine yw_getf (i := 2) (v := (1, 5)) (lko (show xfind xk_LK 4 = some (16, 7, 4, 1, []) from rfl)) rfl rfl hC hP ?_
  refine lv_iload_n C.1 C.2.1 dX11_look_7 rfl (lv_at hl 1 rfl) ?_
  obtain ⟨-, M', hmi, hc, q6, hq6, hqn⟩ := lko (show xfind xk_LK 8 = some (28, 11, 103, 6, []) from rfl)
  have hmi' : M' = xm_103 := by
    have h2 : xmt[103]? = some xm_103 := rfl
    rw [show xmt[((28, 11, 103, 6, []) : xOp).2.2.1]? = xmt[103]? from rfl, h2] at hmi
    exact (Option.some.inj hmi).symm
  subst hmi'
  have g51 := ag hG 5 1 ag_5_1
  refine yw_call (st := [(0, x), (1, 5)]) (rest := []) hC va_S.rf (y_runV (d := 2) (ci := 6) (z := 5) (avs := [(0, x)]) (rest := []) (st := [(0, x), (1, 5)]) (Pc := fun r m => m = mem ∧ ((r = some (0, 1) ∧ 0 ≤ w32 x ∧ w32 x < 6) ∨ r = some (0, 0))) hE (xmt_ok _ _ hmi) hc (by decide) ⟨by decide, by decide⟩ ⟨by decide, by decide⟩ rfl hq6 hqn rfl rfl (by decide) (c_holds5 hE (by decide) (fun h1 h2 => ⟨rfl, Or.inl ⟨rfl, h1, by omega⟩⟩) ⟨rfl, Or.inr rfl⟩) p e s m _ below meth c _ hC _ _ ls hl hP va_S.rf) (fun r mem' H1 locs1 hr hP1 hS1 => ?_)
  obtain ⟨rfl, hr⟩ := hr
  have hF := (hE.2.2.2 s hEX)
  have hAB : ∀ q, xA (yb E) ysh.length sz q → yb E ≤ q := fun q hq => xA_lo (by omega) hq
  obtain ⟨hU, hN, hstr, hthr, -, hstr2, hthr2⟩ := hF.2.2.2.2.2.2.2
  have hxc : ∀ (C0 : String), (C0 = "java/lang/IndexOutOfBoundsException" ∨ C0 = "java/util/NoSuchElementException") → ∀ t : State, s.vm.Alike t.vm → H1.size ≤ t.heap.size → (∀ q : Nat, q < H1.size → t.heap[q]? = H1[q]?) → lkX E mem' sz C0 s t := fun C0 hC0 t hv1 hz2 hk2 =>
    ⟨(), trivial, ⟨hC0, hP1.kept (fun k q hq => hk2 q.1 ((hP1 k q hq).lt))⟩, Nat.le_trans hS1.1 hz2, fun q hq hn => (hk2 q (Nat.lt_of_lt_of_le hq hS1.1)).trans (hS1.2.1 q hq hn)⟩
  rcases hr with ⟨rfl, hx0, hx6⟩ | rfl
  · refine lv_if_ne (tgt := 24) C.1 C.2.1 dX11_look_11 (by decide) (fun _ => ?_) (fun h0 => absurd (show iI 1 = 0 from h0) (by decide))
    have hQ : ∀ (r : Option yV) (m9 : yMem) (t : State), ((∃ v, r = some (0, v)) ∧ m9 = mem') → va_P (yD E) vwCl (yW E m9) t.heap → va_F (xA (yb E) ysh.length sz) s t → lkQ E mem' sz ([Value.ref (yb E + 0), Value.int (iI x), Value.int (iI y)] : List Value).toArray s (.returned (r.map (ydv E))) t := by
      rintro r m9 t ⟨⟨v, rfl⟩, rfl⟩ k1 k2
      exact ⟨⟨iI v, (), rfl, trivial, k1⟩, k2⟩
    have norm : ∀ pc, (yG E (headSpec lkWs lkRm).room xm_LK pc (lklv x y) [] mem' 0 0 (fun r m9 => (∃ v, r = some (0, v)) ∧ m9 = mem')) → W p (yl E) e (headSpec lkWs lkRm).room s m ([Value.ref (yb E + 0), Value.int (iI x), Value.int (iI y)] : List Value).toArray below meth c H1 locs1 (0 + 0) (0 + 0) (vx_MQ below (lkQ E mem' sz) (lkX E mem' sz) ([Value.ref (yb E + 0), Value.int (iI x), Value.int (iI y)] : List Value).toArray s 1 6 (xA (yb E) ysh.length sz)) (F0 m pc ls []) := fun pc h => vx_ret (h p e s m _ below meth c _ _ hC hQ H1 locs1 ls hl hP1 hS1)
    refine lv_iload_n C.1 C.2.1 dX11_look_24 rfl (lv_at hl 2 rfl) ?_
    refine lko (show xfind xk_LK 25 = some (15, 0, 146, 0, [(0, 64), (1, 74), (2, 84), (3, 94), (4, 104), (5, 114)]) from rfl) p (yl E) e _ s m _ below meth c _ _ _ _ _ ls _ C (iI y) ?_
    by_cases hy : ∃ q ∈ ([(0, 64), (1, 74), (2, 84), (3, 94), (4, 104), (5, 114)] : List (Nat × Nat)), iI y = nI q.1
    · obtain ⟨q, hq, hq2⟩ := hy
      refine Or.inl ⟨q, hq, hq2, norm _ ?_⟩
      have ok : ∀ v, (∃ v', some ((0, v) : yV) = some (0, v')) ∧ mem' = mem' := fun v => ⟨⟨v, rfl⟩, rfl⟩
      simp only [List.mem_cons, List.not_mem_nil, or_false] at hq
      rcases hq with rfl | rfl | rfl | rfl | rfl | rfl
      · exact lk_get (c1 := 2) (c2 := 13) (n := 6) hE (hR 0 0 (by decide) (by decide)) rfl rfl rfl rfl rfl rfl rfl rfl rfl rfl rfl hx0 hx6 ok
      · exact lk_get (c1 := 2) (c2 := 14) (n := 6) hE (hR 0 0 (by decide) (by decide)) rfl rfl rfl rfl rfl rfl rfl rfl rfl rfl rfl hx0 hx6 ok
      · exact lk_get (c1 := 2) (c2 := 15) (n := 6) hE (hR 0 0 (by decide) (by decide)) rfl rfl rfl rfl rfl rfl rfl rfl rfl rfl rfl hx0 hx6 ok
      · exact lk_get (c1 := 2) (c2 := 16) (n := 6) hE (hR 0 0 (by decide) (by decide)) rfl rfl rfl rfl rfl rfl rfl rfl rfl rfl rfl hx0 hx6 ok
      · exact lk_get (c1 := 57) (c2 := 59) (n := 6) hE (hR 0 0 (by decide) (by decide)) rfl rfl rfl rfl rfl rfl rfl rfl rfl rfl rfl hx0 hx6 ok
      · exact lk_5 hE (hR 0 0 (by decide) (by decide)) ok
    · refine Or.inr ⟨fun q hq hq2 => hy ⟨q, hq, hq2⟩, ?_⟩
      exact ct_throw C.1 C.2.1 hE.1 (own := RX11) (cls := "java/util/NoSuchElementException") (up := "java/lang/RuntimeException") (names := ["java/lang/Exception"]) (ik := 178) (is := 180) (ic := 182) (A := xA (yb E) ysh.length sz) ctNs_0 ctNs_1 ctNs_2 ctNs_5 C.2.2.1 (by decide +kernel) (by decide +kernel) (by decide +kernel) (C.2.2.2 _ (xwm 1369 (by decide +kernel) (by decide +kernel))) (C.2.2.2 _ (xwm 140 (by decide +kernel) (by decide +kernel))) hstr2 (xat2 C.2.2.2 hthr2) (by decide +kernel) (hU.narrow hAB) (hN.narrow hAB) hS1 (by rw [hml]; exact hl.1) dX11_look_146 dX11_look_149 dX11_look_150 dX11_look_152 dX11_look_155 (fun z hz => absurd hz (fun hz => htab z hz)) (by decide) (Nat.le_of_ble_eq_true rfl) (Nat.le_of_ble_eq_true rfl) (Nat.le_of_ble_eq_true rfl) B.notSynchronized (hxc _ (Or.inr rfl)) (fun z hz => hS1.2.2 z hz) (Nat.le_of_ble_eq_true rfl) (Nat.le_of_ble_eq_true rfl)
  · refine lv_if_ne (tgt := 24) C.1 C.2.1 dX11_look_11 (by decide) (fun h0 => absurd (show iI 0 = 0 from by decide) h0) (fun _ => ?_)
    exact vx_throwS C.1 C.2.1 hE.1 (own := RX11) (cls := "java/lang/IndexOutOfBoundsException") (names := ["java/lang/RuntimeException", "java/lang/Exception"]) (ik := 149) (is := 151) (ic := 153) (A := xA (yb E) ysh.length sz) C.2.2.1 (by decide +kernel) (by decide +kernel) (C.2.2.2 _ (xwm 1303 (by decide +kernel) (by decide +kernel))) (C.2.2.2 _ (xwm 139 (by decide +kernel) (by decide +kernel))) hstr (xat C.2.2.2 hthr) (by decide +kernel) (hU.narrow hAB) (hN.narrow hAB) hS1 (by rw [hml]; exact hl.1) dX11_look_14 dX11_look_17 dX11_look_18 dX11_look_20 dX11_look_23 (fun z hz => absurd hz (fun hz => htab z hz)) (by decide) (Nat.le_of_ble_eq_true rfl) (Nat.le_of_ble_eq_true rfl) (Nat.le_of_ble_eq_true rfl) B.notSynchronized (hxc _ (Or.inl rfl)) (fun z hz => hS1.2.2 z hz) (Nat.le_of_ble_eq_true rfl) (Nat.le_of_ble_eq_true rfl)
end
section
/-! WHAT A TEXT SAYS: its tokens. ch: the bytes (0 to 255), n: how many; from a on -/
def sRn (ch : Nat → Int) (lo hi : Int) (n a e : Nat) : Prop := a ≤ e ∧ e ≤ n ∧ (∀ j, a ≤ j → j < e → lo ≤ ch j ∧ ch j ≤ hi) ∧ (e < n → ¬ (lo ≤ ch e ∧ ch e ≤ hi))
def sBk (ch : Nat → Int) (n a p : Nat) : Prop := a ≤ p ∧ p ≤ n ∧ (∀ j, a ≤ j → j < p → ch j = 10 ∨ ch j = 32) ∧ (p < n → ¬ (ch p = 10 ∨ ch p = 32))
def sNm (ch : Nat → Int) (p : Nat) : Nat → Int
  | 0 => 0
  | k + 1 => min (10 * sNm ch p k + (ch (p + k) - 48)) 100000
def sLt (ch : Nat → Int) (p e k : Nat) : Int := if p + k < e then ch (p + k) - 96 else 0
def sPk (ch : Nat → Int) (p e : Nat) : Int := zix (sLt ch p e) 32 6
def sWd : List Int := [672863822, 754224288, 744049824, 68523584, 559500448, 642945024, 404455424, 83656704, 538687488, 507661312, 538529792, 156401664, 119573856, 522190848, 48365568, 486146048, 139546624, 605688832, 486151776, 609866336, 278110208, 777169920, 538530400]
def sWi : List Int → Int → Nat → Nat
  | [], _, _ => 3
  | w :: r, v, i => if v = w then i else sWi r v (i + 1)
def sWk (v : Int) : Nat := sWi sWd v 17
/-- a sign's kind and length -/
def sSg (c b : Int) : Nat × Nat := if c = 59 then (4, 1) else if c = 40 then (5, 1) else if c = 41 then (6, 1) else if c = 60 then (if b = 61 then (8, 2) else if b = 62 then (10, 2) else (7, 1)) else if c = 61 then (9, 1) else if c = 62 then (if b = 61 then (11, 2) else (12, 1)) else if c = 43 then (13, 1) else if c = 45 then (14, 1) else if c = 42 then (15, 1) else if c = 47 then (16, 1) else (1, 1)
/-- the token from a on: its kind, place, value, end -/
def sTk (ch : Nat → Int) (n a k p : Nat) (v : Int) (e : Nat) : Prop := sBk ch n a p ∧
  ((p = n ∧ k = 0 ∧ v = 0 ∧ e = n) ∨
   (p < n ∧ (97 ≤ ch p ∧ ch p ≤ 122) ∧ sRn ch 97 122 n p e ∧ ((p + 6 < e ∧ k = 1 ∧ v = 0) ∨ (e ≤ p + 6 ∧ k = sWk (sPk ch p e) ∧ v = sPk ch p e))) ∨
   (p < n ∧ (48 ≤ ch p ∧ ch p ≤ 57) ∧ sRn ch 48 57 n p e ∧ k = 2 ∧ v = sNm ch p (e - p)) ∨
   (p < n ∧ ¬ (97 ≤ ch p ∧ ch p ≤ 122) ∧ ¬ (48 ≤ ch p ∧ ch p ≤ 57) ∧ k = (sSg (ch p) (if p + 1 < n then ch (p + 1) else 0)).1 ∧ e = p + (sSg (ch p) (if p + 1 < n then ch (p + 1) else 0)).2 ∧ v = 0))
theorem sRn_u {ch : Nat → Int} {lo hi : Int} {n a e e' : Nat} (h : sRn ch lo hi n a e) (h' : sRn ch lo hi n a e') : e = e' := by
  obtain ⟨h1, h2, h3, h4⟩ := h
  obtain ⟨g1, g2, g3, g4⟩ := h'
  rcases Nat.lt_trichotomy e e' with hl | hl | hl
  · exact absurd (g3 e h1 hl) (h4 (by omega))
  · exact hl
  · exact absurd (h3 e' g1 hl) (g4 (by omega))
theorem sBk_u {ch : Nat → Int} {n a p p' : Nat} (h : sBk ch n a p) (h' : sBk ch n a p') : p = p' := by
  obtain ⟨h1, h2, h3, h4⟩ := h
  obtain ⟨g1, g2, g3, g4⟩ := h'
  rcases Nat.lt_trichotomy p p' with hl | hl | hl
  · exact absurd (g3 p h1 hl) (h4 (by omega))
  · exact hl
  · exact absurd (h3 p' g1 hl) (g4 (by omega))
/-- there is but one -/
theorem sTk_u {ch : Nat → Int} {n a k p e k' p' e' : Nat} {v v' : Int} (h : sTk ch n a k p v e) (h' : sTk ch n a k' p' v' e') : k = k' ∧ p = p' ∧ v = v' ∧ e = e' := by
  obtain ⟨hb, h⟩ := h
  obtain ⟨gb, g⟩ := h'
  have hp := sBk_u hb gb
  subst hp
  rcases h with ⟨h1, h2, h3, h4⟩ | ⟨h1, h2, h3, h4⟩ | ⟨h1, h2, h3, h4, h5⟩ | ⟨h1, h2, h3, h4, h5, h6⟩ <;> rcases g with ⟨g1, g2, g3, g4⟩ | ⟨g1, g2, g3, g4⟩ | ⟨g1, g2, g3, g4, g5⟩ | ⟨g1, g2, g3, g4, g5, g6⟩
  · exact ⟨by rw [h2, g2], rfl, by rw [h3, g3], by rw [h4, g4]⟩
  · omega
  · omega
  · omega
  · omega
  · have he := sRn_u h3 g3
    subst he
    rcases h4 with ⟨a1, a2, a3⟩ | ⟨a1, a2, a3⟩ <;> rcases g4 with ⟨b1, b2, b3⟩ | ⟨b1, b2, b3⟩
    · exact ⟨by rw [a2, b2], rfl, by rw [a3, b3], rfl⟩
    · omega
    · omega
    · exact ⟨by rw [a2, b2], rfl, by rw [a3, b3], rfl⟩
  · omega
  · exact absurd h2 g2
  · omega
  · omega
  · have he := sRn_u h3 g3
    subst he
    exact ⟨by rw [h4, g4], rfl, by rw [h5, g5], rfl⟩
  · exact absurd h2 g3
  · omega
  · exact absurd g2 h2
  · exact absurd g2 h3
  · exact ⟨by rw [h4, g4], rfl, by rw [h6, g6], by rw [h5, g5]⟩
theorem sSg_l (c b : Int) : 1 ≤ (sSg c b).2 ∧ (sSg c b).2 ≤ 2 ∧ ((sSg c b).2 = 2 → b = 61 ∨ b = 62) := by
  unfold sSg
  repeat' split
  all_goals first | (refine ⟨by decide, by decide, fun h => ?_⟩; first | exact absurd h (by decide) | exact Or.inl (by assumption) | exact Or.inr (by assumption))
theorem sSg_2 (c b : Int) : ((sSg c b).2 = 2 ∧ ((sSg c b).1 = 8 ∨ (sSg c b).1 = 10 ∨ (sSg c b).1 = 11)) ∨ ((sSg c b).2 = 1 ∧ ¬ (sSg c b).1 = 8 ∧ ¬ (sSg c b).1 = 10 ∧ ¬ (sSg c b).1 = 11) := by
  unfold sSg
  repeat' split
  all_goals decide
/-- a token that isn't the end has its bytes -/
theorem sTk_lt {ch : Nat → Int} {n a k p e : Nat} {v : Int} (h : sTk ch n a k p v e) : a ≤ p ∧ p ≤ e ∧ e ≤ n ∧ (¬ k = 0 → p < e) := by
  obtain ⟨⟨b1, b2, b3, b4⟩, h⟩ := h
  rcases h with ⟨h1, h2, h3, h4⟩ | ⟨h1, h2, h3, h4⟩ | ⟨h1, h2, h3, h4, h5⟩ | ⟨h1, h2, h3, h4, h5, h6⟩
  · exact ⟨b1, by omega, by omega, fun h => absurd h2 h⟩
  · have hlt : p < e := by
      rcases Nat.lt_or_ge p e with h | h
      · exact h
      · have : e = p := by have := h3.1; omega
        subst this
        exact absurd h2 (h3.2.2.2 h1)
    exact ⟨b1, by omega, h3.2.1, fun _ => hlt⟩
  · have hlt : p < e := by
      rcases Nat.lt_or_ge p e with h | h
      · exact h
      · have : e = p := by have := h3.1; omega
        subst this
        exact absurd h2 (h3.2.2.2 h1)
    exact ⟨b1, by omega, h3.2.1, fun _ => hlt⟩
  · have hl := sSg_l (ch p) (if p + 1 < n then ch (p + 1) else 0)
    refine ⟨b1, by omega, ?_, fun _ => by omega⟩
    by_cases hn : p + 1 < n
    · omega
    · rw [if_neg hn] at hl h5
      have : ¬ (sSg (ch p) 0).2 = 2 := fun h => by
        rcases hl.2.2 h with h | h <;> exact absurd h (by decide)
      omega
/-! words -/
def sgm (m j : Nat) : Int := if j < zwe.getD m 0 - zws.getD m 0 then ((zW (zws.getD m 0 + j) : Nat) : Int) - 96 else 0
/-- the reference's word m among the class's -/
def sPm (m : Nat) : Nat := [0, 1, 2, 3, 4, 5, 6, 10, 7, 8, 9, 11, 12, 13, 14, 15, 16, 17, 18, 19, 20, 21, 22].getD m 0
def sRw (k : Nat) : Int := [0, 1, 2, 3, 4, 5, 6, 8, 9, 10, 7, 11, 12, 13, 14, 15, 16, 17, 18, 19, 20, 21, 22].getD (k - 17) 0
theorem sgm_ok : ∀ m : Nat, m < 23 → zix (sgm m) 32 6 = sWd.getD (sPm m) 0 ∧ sWk (sWd.getD (sPm m) 0) = 17 + sPm m ∧ sRw (17 + sPm m) = (m : Int) ∧ sPm m < 23 := by decide +kernel
theorem sgm_l : ∀ m : Nat, m < 23 → 1 ≤ zwe.getD m 0 - zws.getD m 0 ∧ zwe.getD m 0 - zws.getD m 0 ≤ 6 ∧ zws.getD m 0 ≤ zwe.getD m 0 := by decide +kernel
theorem sgm_d : ∀ m : Nat, m < 23 → ∀ j : Nat, j < 6 → 0 ≤ sgm m j ∧ sgm m j < 32 ∧ (j < zwe.getD m 0 - zws.getD m 0 ↔ 1 ≤ sgm m j) := by decide +kernel
theorem sWd_all : ∀ i : Nat, i < 23 → ∃ m : Nat, m < 23 ∧ sWd.getD i 0 = sWd.getD (sPm m) 0 := by decide +kernel
/-- the letters from p to e are word m -/
def sMt (ch : Nat → Int) (p e m : Nat) : Prop := e - p = zwe.getD m 0 - zws.getD m 0 ∧ ∀ i, i < zwe.getD m 0 - zws.getD m 0 → ch (p + i) = ((zW (zws.getD m 0 + i) : Nat) : Int)
theorem sLt_d {ch : Nat → Int} {p e : Nat} (hl : ∀ j, p ≤ j → j < e → 97 ≤ ch j ∧ ch j ≤ 122) (j : Nat) : 0 ≤ sLt ch p e j ∧ sLt ch p e j < 32 ∧ (p + j < e ↔ 1 ≤ sLt ch p e j) := by
  unfold sLt
  split
  · next h =>
    have := hl (p + j) (by omega) h
    omega
  · next h => omega
theorem sMt_pk {ch : Nat → Int} {p e : Nat} (hpe : p ≤ e) (h6 : e ≤ p + 6) (hl : ∀ j, p ≤ j → j < e → 97 ≤ ch j ∧ ch j ≤ 122) {m : Nat} (hm : m < 23) : sMt ch p e m ↔ sPk ch p e = sWd.getD (sPm m) 0 := by
  have l1 := sgm_l m hm
  constructor
  · rintro ⟨h1, h2⟩
    rw [← (sgm_ok m hm).1]
    refine zix_ext 6 (fun j hj => ?_)
    unfold sLt sgm
    by_cases hj2 : j < zwe.getD m 0 - zws.getD m 0
    · rw [if_pos (by omega), if_pos hj2, h2 j hj2]
    · rw [if_neg (by omega), if_neg hj2]
  · intro h
    rw [← (sgm_ok m hm).1] at h
    have wd : ∀ x : Int, 0 ≤ x → x < 32 → w32 x = x := fun x a b => w32_of (by omega) (by omega)
    have dg := zix_inj (f := sLt ch p e) (g := sgm m) (b := 32) (by decide) 6 (fun j _ => by
      have := sLt_d hl j
      rw [wd _ this.1 this.2.1]
      exact ⟨this.1, this.2.1⟩) (fun j hj => by
      have := sgm_d m hm j hj
      rw [wd _ this.1 this.2.1]
      exact ⟨this.1, this.2.1⟩) h
    have de : ∀ j, j < 6 → sLt ch p e j = sgm m j := fun j hj => by
      have a := sLt_d hl j
      have b := sgm_d m hm j hj
      have := dg j hj
      rw [wd _ a.1 a.2.1, wd _ b.1 b.2.1] at this
      exact this
    have iff : ∀ j, j < 6 → (p + j < e ↔ j < zwe.getD m 0 - zws.getD m 0) := fun j hj => by
      rw [(sLt_d hl j).2.2, (sgm_d m hm j hj).2.2, de j hj]
    have hlen : e - p = zwe.getD m 0 - zws.getD m 0 := by
      rcases Nat.lt_trichotomy (e - p) (zwe.getD m 0 - zws.getD m 0) with hlt | heq | hgt
      · have := (iff (e - p) (by omega)).mpr hlt
        omega
      · exact heq
      · have := (iff (zwe.getD m 0 - zws.getD m 0) (by omega)).mp (by omega)
        omega
    refine ⟨hlen, fun i hi => ?_⟩
    have := de i (by omega)
    unfold sLt sgm at this
    rw [if_pos (by omega), if_pos hi] at this
    omega
theorem sWi_no {v : Int} : ∀ (l : List Int) (i : Nat), (∀ j, j < l.length → ¬ v = l.getD j 0) → sWi l v i = 3
  | [], _, _ => rfl
  | w :: r, i, h => by
    simp only [sWi]
    have h0 := h 0 (by simp)
    simp only [List.getD_cons_zero] at h0
    rw [if_neg h0]
    exact sWi_no r (i + 1) (fun j hj => by
      have := h (j + 1) (by simp; omega)
      simpa using this)
/-- a run of letters that is a word, and one that is none -/
theorem sWk_yes {ch : Nat → Int} {p e : Nat} (hpe : p ≤ e) (hl : ∀ j, p ≤ j → j < e → 97 ≤ ch j ∧ ch j ≤ 122) {m : Nat} (hm : m < 23) (h : sMt ch p e m) : e ≤ p + 6 ∧ sWk (sPk ch p e) = 17 + sPm m := by
  have h6 : e ≤ p + 6 := by have := h.1; have := (sgm_l m hm).2.1; omega
  rw [(sMt_pk hpe h6 hl hm).mp h]
  exact ⟨h6, (sgm_ok m hm).2.1⟩
theorem sWk_no {ch : Nat → Int} {p e : Nat} (hpe : p ≤ e) (h6 : e ≤ p + 6) (hl : ∀ j, p ≤ j → j < e → 97 ≤ ch j ∧ ch j ≤ 122) (h : ∀ m, m < 23 → ¬ sMt ch p e m) : sWk (sPk ch p e) = 3 := by
  refine sWi_no sWd 17 (fun j hj hv => ?_)
  obtain ⟨m, hm, e1⟩ := sWd_all j hj
  rw [e1] at hv
  exact h m hm ((sMt_pk hpe h6 hl hm).mpr hv)
/-- how the reference holds a token -/
def sSc (k : Nat) : Int := [59, 40, 41, 60, 256, 61, 257, 258, 62, 43, 45, 42, 47].getD (k - 4) 0
def sRk (so va : Int) (k : Nat) (v : Int) : Prop := (k = 0 ∧ so = 4) ∨ (k = 1 ∧ so = 5) ∨ (k = 2 ∧ so = 2 ∧ 0 ≤ va ∧ min va 100000 = v) ∨ (k = 3 ∧ so = 1 ∧ va = v) ∨ (4 ≤ k ∧ k ≤ 16 ∧ so = 3 ∧ va = sSc k) ∨ (17 ≤ k ∧ k ≤ 39 ∧ so = 0 ∧ va = sRw k)
end
section
/-! THE REFERENCE'S TOKENS, as they are -/
theorem iI_natE {x : Int} {a : Nat} (h : w32 x = (a : Int)) : iI x = nI a := by rw [← iI_n, ← h, iI_w]
theorem w32_nI {a : Nat} (h : a < 2147483648) : w32 (nI a).toInt = (a : Int) := by
  show (Int32.ofInt (nI a).toInt).toInt = _
  rw [Int32.ofInt_toInt, ← iI_n]
  exact w32_of (by (first | exact Nat.le_of_ble_eq_true rfl | exact (fun h => absurd h.1 (by decide)) | omega)) (by (first | exact Nat.le_of_ble_eq_true rfl | exact (fun h => absurd h.1 (by decide)) | omega))
theorem bb31 : ∀ s : Nat, s < 32 → (nI s &&& 31) = nI s ∧ ((nI s).toBitVec.smod 32).toNat = s := by decide +kernel
theorem yb_shl {x y : Int} {a s : Nat} (hx : w32 x = (a : Int)) (hy : w32 y = (s : Int)) (hs : s < 32) (h : a * 2 ^ s < 2147483648) : w32 (ybin 6 x y) = ((a * 2 ^ s : Nat) : Int) := by
  show w32 (fbin 6 (iI x) (iI y)).toInt = _
  rw [iI_natE hx, iI_natE hy]
  show w32 (nI a <<< (nI s &&& 31)).toInt = _
  rw [(bb31 s hs).1, pk_shlN (nI s) s (bb31 s hs).2 (by (first | exact Nat.le_of_ble_eq_true rfl | exact (fun h => absurd h.1 (by decide)) | omega)), w32_nI h]
theorem nI_or {p q : Nat} (hp : p < 2 ^ 32) (hq : q < 2 ^ 32) : nI p ||| nI q = nI (p ||| q) := by
  apply Int32.toBitVec_inj.mp
  apply BitVec.eq_of_toNat_eq
  rw [Int32.toBitVec_or, BitVec.toNat_or, pk_tn hp, pk_tn hq, pk_tn (Nat.or_lt_two_pow hp hq)]
theorem yb_or {x y : Int} {a b k : Nat} (hx : w32 x = ((2 ^ k * a : Nat) : Int)) (hy : w32 y = (b : Int)) (hb : b < 2 ^ k) (h : 2 ^ k * a + b < 2147483648) : w32 (ybin 4 x y) = ((2 ^ k * a + b : Nat) : Int) := by
  show w32 (fbin 4 (iI x) (iI y)).toInt = _
  rw [iI_natE hx, iI_natE hy]
  show w32 (nI (2 ^ k * a) ||| nI b).toInt = _
  rw [nI_or (by (first | exact Nat.le_of_ble_eq_true rfl | exact (fun h => absurd h.1 (by decide)) | omega)) (by (first | exact Nat.le_of_ble_eq_true rfl | exact (fun h => absurd h.1 (by decide)) | omega)), ← Nat.two_pow_add_eq_or_of_lt hb, w32_nI h]
/-- the reference's bytes -/
abbrev rch (mem : yMem) : Nat → Int := fun j => w32 (mem 96 j)
abbrev rpl (mem : yMem) : Nat := (w32 (mem 95 28)).toNat
abbrev rat (mem : yMem) : Nat := (w32 (mem 95 27)).toNat
theorem fw_cmp {E : yE} (hE : yEok E) {d : Nat} {mem : yMem} {Q : Option yV → yMem → Prop} (hp : 0 ≤ w32 (mem 95 28)) (hpe : w32 (mem 95 28) ≤ w32 (mem 95 27)) (ha : w32 (mem 95 27) ≤ 800) {m : Nat} (hm : m < 23) {n k : Int} (hk : w32 k = ((zws.getD m 0 : Nat) : Int)) (hn : sMt (rch mem) (rpl mem) (rat mem) m → Q (some (0, n)) mem) (go : ¬ sMt (rch mem) (rpl mem) (rat mem) m → ∀ r3, zG E (d + 4) xm_252 97 [some (1, 95), some (0, n), some (0, k), r3] [] mem Q) : ∀ (c : Nat) (i : Int), zwe.getD m 0 - (w32 k + w32 i).toNat = c → 0 ≤ w32 i → (w32 k + w32 i).toNat ≤ zwe.getD m 0 → w32 (mem 95 28) + w32 i ≤ w32 (mem 95 27) → (∀ j : Nat, (j : Int) < w32 i → rch mem (rpl mem + j) = ((zW (zws.getD m 0 + j) : Nat) : Int)) → zG E (d + 4) xm_252 15 [some (1, 95), some (0, n), some (0, k), some (0, i)] [] mem Q := by
  obtain ⟨z1, z2, z3⟩ := zword_ok m hm
  have rp : rpl mem = (w32 (mem 95 28)).toNat := rfl
  have ra : rat mem = (w32 (mem 95 27)).toNat := rfl
  intro c
  induction c with
  | zero =>
    intro i hc h0 h2 hpi hM
    refine zgo_ok (n := 60) hE xmo_252 (cs := zc_252) ?_
    have eki : w32 (k + i) = w32 k + w32 i := w32_ad (by (first | exact Nat.le_of_ble_eq_true rfl | exact (fun h => absurd h.1 (by decide)) | omega)) (by (first | exact Nat.le_of_ble_eq_true rfl | exact (fun h => absurd h.1 (by decide)) | omega))
    have epi : w32 (mem 95 28 + i) = w32 (mem 95 28) + w32 i := w32_ad (by (first | exact Nat.le_of_ble_eq_true rfl | exact (fun h => absurd h.1 (by decide)) | omega)) (by (first | exact Nat.le_of_ble_eq_true rfl | exact (fun h => absurd h.1 (by decide)) | omega))
    have e := (zword_sp m hm (w32 (k + i)).toNat (by (first | exact Nat.le_of_ble_eq_true rfl | exact (fun h => absurd h.1 (by decide)) | omega)) (by (first | exact Nat.le_of_ble_eq_true rfl | exact (fun h => absurd h.1 (by decide)) | omega)) (by (first | exact Nat.le_of_ble_eq_true rfl | exact (fun h => absurd h.1 (by decide)) | omega))).mpr (by (first | exact Nat.le_of_ble_eq_true rfl | exact (fun h => absurd h.1 (by decide)) | omega))
    have tail : yCon E (d + 4) xm_257 [(5, 2), (0, k + i)] mem (fun v mem' => zgk E (d + 4) xm_252 77 [some (1, 95), some (0, n), some (0, k), some (0, i)] [] v mem' Q) := by
      refine c_charAt hE (by (first | exact Nat.le_of_ble_eq_true rfl | exact (fun h => absurd h.1 (by decide)) | omega)) (by (first | exact Nat.le_of_ble_eq_true rfl | exact (fun h => absurd h.1 (by decide)) | omega)) (by (first | exact Nat.le_of_ble_eq_true rfl | exact (fun h => absurd h.1 (by decide)) | omega)) ?_
      refine zgk_s hE xmo_252 60 zc_252 ?_
      simp only [ynok_30, ynok_31, w32c_0, w32c_1, w32c_2, w32c_3, w32c_4, w32c_5, w32c_6, w32c_7, w32c_8, w32c_9, w32c_10, w32c_11, w32c_12, w32c_13, w32c_14, w32c_m1, w32c_m2, w32c_118, Int.reduceAdd, Int.reduceSub, Int.reduceMul, yput_s, yput_n, znl_n, znl_0, znl_1, znl_4, ysum_n, ysum_0, ysum_1, ysum_4, true_and, and_true, Nat.reduceAdd, Nat.reduceLeDiff, true_implies, eq_self, true_or, or_true, or_false, false_or, not_true_eq_false, not_false_eq_true, false_implies, implies_true, yset_s, yset_o, yset_d, ne_eq, Nat.reduceEqDiff, Int.reduceToNat, Int.reduceEq, Int.reduceLE, Int.reduceLT, Classical.not_not, Nat.reduceLT, ↓zvk_s, ↓zvk_n, ↓s_252_0, ↓s_252_1n, ↓s_252_1i, ↓s_252_1p, ↓s_252_2, ↓s_252_3n, ↓s_252_3i, ↓s_252_3p, ↓g_252_4, ↓k_252_4, ↓s_252_5, ↓s_252_7, ↓s_252_10, ↓s_252_13, ↓s_252_14n, ↓s_252_14i, ↓s_252_14p, ↓g_252_15, ↓k_252_15, ↓s_252_17, ↓s_252_18, ↓s_252_19, ↓s_252_20, ↓s_252_23, ↓s_252_25, ↓s_252_28, ↓s_252_29, ↓s_252_32, ↓s_252_33, ↓s_252_34, ↓s_252_35, ↓s_252_38, ↓s_252_41, ↓s_252_42, ↓s_252_45, ↓s_252_46, ↓s_252_49, ↓s_252_50, ↓s_252_51, ↓s_252_52, ↓s_252_54, ↓s_252_55, ↓s_252_56, ↓s_252_57, ↓s_252_60, ↓s_252_63n, ↓s_252_63i, ↓s_252_63p, ↓s_252_66, ↓s_252_69, ↓s_252_71, ↓s_252_72, ↓s_252_73, ↓s_252_74, ↓s_252_77, ↓s_252_79, ↓s_252_82, ↓s_252_83, ↓s_252_86, ↓s_252_87, ↓s_252_88, ↓s_252_89, ↓s_252_92, ↓s_252_95, ↓s_252_96, ↓g_252_97, ↓k_252_97, ↓s_252_99, ↓s_252_100, ↓s_252_103, ↓s_252_105, ↓s_252_108n, ↓s_252_108i, ↓s_252_108p, ↓s_252_111, ↓s_252_114n, ↓s_252_114i, ↓s_252_114p, ↓s_252_117n, ↓s_252_117i, ↓s_252_117p, ↓s_252_120, ↓s_252_123, ↓s_252_124, w32c_32, zar_96, zia_96, zln_96, zit_96, zio_95]
      rw [e, epi]
      refine ⟨fun h => absurd (show w32 ((32 : Nat) : Int) = 32 by decide) h, fun _ => ⟨fun h => go (fun z => h ?_) _, fun h => hn ⟨?_, fun j hj => hM j (by (first | exact Nat.le_of_ble_eq_true rfl | exact (fun h => absurd h.1 (by decide)) | omega))⟩⟩⟩
      · have := z.1
        (first | exact Nat.le_of_ble_eq_true rfl | exact (fun h => absurd h.1 (by decide)) | omega)
      · (first | exact Nat.le_of_ble_eq_true rfl | exact (fun h => absurd h.1 (by decide)) | omega)
    simp only [ynok_30, ynok_31, w32c_0, w32c_1, w32c_2, w32c_3, w32c_4, w32c_5, w32c_6, w32c_7, w32c_8, w32c_9, w32c_10, w32c_11, w32c_12, w32c_13, w32c_14, w32c_m1, w32c_m2, w32c_118, Int.reduceAdd, Int.reduceSub, Int.reduceMul, yput_s, yput_n, znl_n, znl_0, znl_1, znl_4, ysum_n, ysum_0, ysum_1, ysum_4, true_and, and_true, Nat.reduceAdd, Nat.reduceLeDiff, true_implies, eq_self, true_or, or_true, or_false, false_or, not_true_eq_false, not_false_eq_true, false_implies, implies_true, yset_s, yset_o, yset_d, ne_eq, Nat.reduceEqDiff, Int.reduceToNat, Int.reduceEq, Int.reduceLE, Int.reduceLT, Classical.not_not, Nat.reduceLT, ↓zvk_s, ↓zvk_n, ↓s_252_0, ↓s_252_1n, ↓s_252_1i, ↓s_252_1p, ↓s_252_2, ↓s_252_3n, ↓s_252_3i, ↓s_252_3p, ↓g_252_4, ↓k_252_4, ↓s_252_5, ↓s_252_7, ↓s_252_10, ↓s_252_13, ↓s_252_14n, ↓s_252_14i, ↓s_252_14p, ↓g_252_15, ↓k_252_15, ↓s_252_17, ↓s_252_18, ↓s_252_19, ↓s_252_20, ↓s_252_23, ↓s_252_25, ↓s_252_28, ↓s_252_29, ↓s_252_32, ↓s_252_33, ↓s_252_34, ↓s_252_35, ↓s_252_38, ↓s_252_41, ↓s_252_42, ↓s_252_45, ↓s_252_46, ↓s_252_49, ↓s_252_50, ↓s_252_51, ↓s_252_52, ↓s_252_54, ↓s_252_55, ↓s_252_56, ↓s_252_57, ↓s_252_60, ↓s_252_63n, ↓s_252_63i, ↓s_252_63p, ↓s_252_66, ↓s_252_69, ↓s_252_71, ↓s_252_72, ↓s_252_73, ↓s_252_74, ↓s_252_77, ↓s_252_79, ↓s_252_82, ↓s_252_83, ↓s_252_86, ↓s_252_87, ↓s_252_88, ↓s_252_89, ↓s_252_92, ↓s_252_95, ↓s_252_96, ↓g_252_97, ↓k_252_97, ↓s_252_99, ↓s_252_100, ↓s_252_103, ↓s_252_105, ↓s_252_108n, ↓s_252_108i, ↓s_252_108p, ↓s_252_111, ↓s_252_114n, ↓s_252_114i, ↓s_252_114p, ↓s_252_117n, ↓s_252_117i, ↓s_252_117p, ↓s_252_120, ↓s_252_123, ↓s_252_124, w32c_32, zar_96, zia_96, zln_96, zit_96, zio_95]
    refine c_charAt hE (by (first | exact Nat.le_of_ble_eq_true rfl | exact (fun h => absurd h.1 (by decide)) | omega)) (by (first | exact Nat.le_of_ble_eq_true rfl | exact (fun h => absurd h.1 (by decide)) | omega)) (by (first | exact Nat.le_of_ble_eq_true rfl | exact (fun h => absurd h.1 (by decide)) | omega)) ?_
    refine zgk_s hE xmo_252 60 zc_252 ?_
    rw [e]
    simp only [ynok_30, ynok_31, w32c_0, w32c_1, w32c_2, w32c_3, w32c_4, w32c_5, w32c_6, w32c_7, w32c_8, w32c_9, w32c_10, w32c_11, w32c_12, w32c_13, w32c_14, w32c_m1, w32c_m2, w32c_118, Int.reduceAdd, Int.reduceSub, Int.reduceMul, yput_s, yput_n, znl_n, znl_0, znl_1, znl_4, ysum_n, ysum_0, ysum_1, ysum_4, true_and, and_true, Nat.reduceAdd, Nat.reduceLeDiff, true_implies, eq_self, true_or, or_true, or_false, false_or, not_true_eq_false, not_false_eq_true, false_implies, implies_true, yset_s, yset_o, yset_d, ne_eq, Nat.reduceEqDiff, Int.reduceToNat, Int.reduceEq, Int.reduceLE, Int.reduceLT, Classical.not_not, Nat.reduceLT, ↓zvk_s, ↓zvk_n, ↓s_252_0, ↓s_252_1n, ↓s_252_1i, ↓s_252_1p, ↓s_252_2, ↓s_252_3n, ↓s_252_3i, ↓s_252_3p, ↓g_252_4, ↓k_252_4, ↓s_252_5, ↓s_252_7, ↓s_252_10, ↓s_252_13, ↓s_252_14n, ↓s_252_14i, ↓s_252_14p, ↓g_252_15, ↓k_252_15, ↓s_252_17, ↓s_252_18, ↓s_252_19, ↓s_252_20, ↓s_252_23, ↓s_252_25, ↓s_252_28, ↓s_252_29, ↓s_252_32, ↓s_252_33, ↓s_252_34, ↓s_252_35, ↓s_252_38, ↓s_252_41, ↓s_252_42, ↓s_252_45, ↓s_252_46, ↓s_252_49, ↓s_252_50, ↓s_252_51, ↓s_252_52, ↓s_252_54, ↓s_252_55, ↓s_252_56, ↓s_252_57, ↓s_252_60, ↓s_252_63n, ↓s_252_63i, ↓s_252_63p, ↓s_252_66, ↓s_252_69, ↓s_252_71, ↓s_252_72, ↓s_252_73, ↓s_252_74, ↓s_252_77, ↓s_252_79, ↓s_252_82, ↓s_252_83, ↓s_252_86, ↓s_252_87, ↓s_252_88, ↓s_252_89, ↓s_252_92, ↓s_252_95, ↓s_252_96, ↓g_252_97, ↓k_252_97, ↓s_252_99, ↓s_252_100, ↓s_252_103, ↓s_252_105, ↓s_252_108n, ↓s_252_108i, ↓s_252_108p, ↓s_252_111, ↓s_252_114n, ↓s_252_114i, ↓s_252_114p, ↓s_252_117n, ↓s_252_117i, ↓s_252_117p, ↓s_252_120, ↓s_252_123, ↓s_252_124, w32c_32, zar_96, zia_96, zln_96, zit_96, zio_95]
    exact ⟨fun _ => tail, fun h => absurd (show w32 ((32 : Nat) : Int) = 32 by decide) h⟩
  | succ c ih =>
    intro i hc h0 h2 hpi hM
    have hi1 : w32 (i + 1) = w32 i + 1 := by rw [w32_ad (by rw [w32c_1]; (first | exact Nat.le_of_ble_eq_true rfl | exact (fun h => absurd h.1 (by decide)) | omega)) (by rw [w32c_1]; (first | exact Nat.le_of_ble_eq_true rfl | exact (fun h => absurd h.1 (by decide)) | omega)), w32c_1]
    refine zgo_ok (n := 60) hE xmo_252 (cs := zc_252) ?_
    have eki : w32 (k + i) = w32 k + w32 i := w32_ad (by (first | exact Nat.le_of_ble_eq_true rfl | exact (fun h => absurd h.1 (by decide)) | omega)) (by (first | exact Nat.le_of_ble_eq_true rfl | exact (fun h => absurd h.1 (by decide)) | omega))
    have epi : w32 (mem 95 28 + i) = w32 (mem 95 28) + w32 i := w32_ad (by (first | exact Nat.le_of_ble_eq_true rfl | exact (fun h => absurd h.1 (by decide)) | omega)) (by (first | exact Nat.le_of_ble_eq_true rfl | exact (fun h => absurd h.1 (by decide)) | omega))
    have hz := zW_lt (w32 (k + i)).toNat (by (first | exact Nat.le_of_ble_eq_true rfl | exact (fun h => absurd h.1 (by decide)) | omega))
    have wz : w32 ((zW (w32 (k + i)).toNat : Nat) : Int) = ((zW (w32 (k + i)).toNat : Nat) : Int) := w32_of (by (first | exact Nat.le_of_ble_eq_true rfl | exact (fun h => absurd h.1 (by decide)) | omega)) (by (first | exact Nat.le_of_ble_eq_true rfl | exact (fun h => absurd h.1 (by decide)) | omega))
    have e : ¬ zW (w32 (k + i)).toNat = 32 := fun h => by
      have := (zword_sp m hm (w32 (k + i)).toNat (by (first | exact Nat.le_of_ble_eq_true rfl | exact (fun h => absurd h.1 (by decide)) | omega)) (by (first | exact Nat.le_of_ble_eq_true rfl | exact (fun h => absurd h.1 (by decide)) | omega)) (by (first | exact Nat.le_of_ble_eq_true rfl | exact (fun h => absurd h.1 (by decide)) | omega))).mp h
      (first | exact Nat.le_of_ble_eq_true rfl | exact (fun h => absurd h.1 (by decide)) | omega)
    have tail : ¬ sMt (rch mem) (rpl mem) (rat mem) m → yCon E (d + 4) xm_257 [(5, 2), (0, k + i)] mem (fun v mem' => zgk E (d + 4) xm_252 77 [some (1, 95), some (0, n), some (0, k), some (0, i)] [] v mem' Q) := fun hno => by
      refine c_charAt hE (by (first | exact Nat.le_of_ble_eq_true rfl | exact (fun h => absurd h.1 (by decide)) | omega)) (by (first | exact Nat.le_of_ble_eq_true rfl | exact (fun h => absurd h.1 (by decide)) | omega)) (by (first | exact Nat.le_of_ble_eq_true rfl | exact (fun h => absurd h.1 (by decide)) | omega)) ?_
      refine zgk_s hE xmo_252 60 zc_252 ?_
      simp only [ynok_30, ynok_31, w32c_0, w32c_1, w32c_2, w32c_3, w32c_4, w32c_5, w32c_6, w32c_7, w32c_8, w32c_9, w32c_10, w32c_11, w32c_12, w32c_13, w32c_14, w32c_m1, w32c_m2, w32c_118, Int.reduceAdd, Int.reduceSub, Int.reduceMul, yput_s, yput_n, znl_n, znl_0, znl_1, znl_4, ysum_n, ysum_0, ysum_1, ysum_4, true_and, and_true, Nat.reduceAdd, Nat.reduceLeDiff, true_implies, eq_self, true_or, or_true, or_false, false_or, not_true_eq_false, not_false_eq_true, false_implies, implies_true, yset_s, yset_o, yset_d, ne_eq, Nat.reduceEqDiff, Int.reduceToNat, Int.reduceEq, Int.reduceLE, Int.reduceLT, Classical.not_not, Nat.reduceLT, ↓zvk_s, ↓zvk_n, ↓s_252_0, ↓s_252_1n, ↓s_252_1i, ↓s_252_1p, ↓s_252_2, ↓s_252_3n, ↓s_252_3i, ↓s_252_3p, ↓g_252_4, ↓k_252_4, ↓s_252_5, ↓s_252_7, ↓s_252_10, ↓s_252_13, ↓s_252_14n, ↓s_252_14i, ↓s_252_14p, ↓g_252_15, ↓k_252_15, ↓s_252_17, ↓s_252_18, ↓s_252_19, ↓s_252_20, ↓s_252_23, ↓s_252_25, ↓s_252_28, ↓s_252_29, ↓s_252_32, ↓s_252_33, ↓s_252_34, ↓s_252_35, ↓s_252_38, ↓s_252_41, ↓s_252_42, ↓s_252_45, ↓s_252_46, ↓s_252_49, ↓s_252_50, ↓s_252_51, ↓s_252_52, ↓s_252_54, ↓s_252_55, ↓s_252_56, ↓s_252_57, ↓s_252_60, ↓s_252_63n, ↓s_252_63i, ↓s_252_63p, ↓s_252_66, ↓s_252_69, ↓s_252_71, ↓s_252_72, ↓s_252_73, ↓s_252_74, ↓s_252_77, ↓s_252_79, ↓s_252_82, ↓s_252_83, ↓s_252_86, ↓s_252_87, ↓s_252_88, ↓s_252_89, ↓s_252_92, ↓s_252_95, ↓s_252_96, ↓g_252_97, ↓k_252_97, ↓s_252_99, ↓s_252_100, ↓s_252_103, ↓s_252_105, ↓s_252_108n, ↓s_252_108i, ↓s_252_108p, ↓s_252_111, ↓s_252_114n, ↓s_252_114i, ↓s_252_114p, ↓s_252_117n, ↓s_252_117i, ↓s_252_117p, ↓s_252_120, ↓s_252_123, ↓s_252_124, w32c_32, zar_96, zia_96, zln_96, zit_96, zio_95]
      rw [wz]
      exact ⟨fun _ => go hno _, fun h => absurd h (by (first | exact Nat.le_of_ble_eq_true rfl | exact (fun h => absurd h.1 (by decide)) | omega))⟩
    simp only [ynok_30, ynok_31, w32c_0, w32c_1, w32c_2, w32c_3, w32c_4, w32c_5, w32c_6, w32c_7, w32c_8, w32c_9, w32c_10, w32c_11, w32c_12, w32c_13, w32c_14, w32c_m1, w32c_m2, w32c_118, Int.reduceAdd, Int.reduceSub, Int.reduceMul, yput_s, yput_n, znl_n, znl_0, znl_1, znl_4, ysum_n, ysum_0, ysum_1, ysum_4, true_and, and_true, Nat.reduceAdd, Nat.reduceLeDiff, true_implies, eq_self, true_or, or_true, or_false, false_or, not_true_eq_false, not_false_eq_true, false_implies, implies_true, yset_s, yset_o, yset_d, ne_eq, Nat.reduceEqDiff, Int.reduceToNat, Int.reduceEq, Int.reduceLE, Int.reduceLT, Classical.not_not, Nat.reduceLT, ↓zvk_s, ↓zvk_n, ↓s_252_0, ↓s_252_1n, ↓s_252_1i, ↓s_252_1p, ↓s_252_2, ↓s_252_3n, ↓s_252_3i, ↓s_252_3p, ↓g_252_4, ↓k_252_4, ↓s_252_5, ↓s_252_7, ↓s_252_10, ↓s_252_13, ↓s_252_14n, ↓s_252_14i, ↓s_252_14p, ↓g_252_15, ↓k_252_15, ↓s_252_17, ↓s_252_18, ↓s_252_19, ↓s_252_20, ↓s_252_23, ↓s_252_25, ↓s_252_28, ↓s_252_29, ↓s_252_32, ↓s_252_33, ↓s_252_34, ↓s_252_35, ↓s_252_38, ↓s_252_41, ↓s_252_42, ↓s_252_45, ↓s_252_46, ↓s_252_49, ↓s_252_50, ↓s_252_51, ↓s_252_52, ↓s_252_54, ↓s_252_55, ↓s_252_56, ↓s_252_57, ↓s_252_60, ↓s_252_63n, ↓s_252_63i, ↓s_252_63p, ↓s_252_66, ↓s_252_69, ↓s_252_71, ↓s_252_72, ↓s_252_73, ↓s_252_74, ↓s_252_77, ↓s_252_79, ↓s_252_82, ↓s_252_83, ↓s_252_86, ↓s_252_87, ↓s_252_88, ↓s_252_89, ↓s_252_92, ↓s_252_95, ↓s_252_96, ↓g_252_97, ↓k_252_97, ↓s_252_99, ↓s_252_100, ↓s_252_103, ↓s_252_105, ↓s_252_108n, ↓s_252_108i, ↓s_252_108p, ↓s_252_111, ↓s_252_114n, ↓s_252_114i, ↓s_252_114p, ↓s_252_117n, ↓s_252_117i, ↓s_252_117p, ↓s_252_120, ↓s_252_123, ↓s_252_124, w32c_32, zar_96, zia_96, zln_96, zit_96, zio_95]
    refine c_charAt hE (by (first | exact Nat.le_of_ble_eq_true rfl | exact (fun h => absurd h.1 (by decide)) | omega)) (by (first | exact Nat.le_of_ble_eq_true rfl | exact (fun h => absurd h.1 (by decide)) | omega)) (by (first | exact Nat.le_of_ble_eq_true rfl | exact (fun h => absurd h.1 (by decide)) | omega)) ?_
    refine zgk_s hE xmo_252 60 zc_252 ?_
    simp only [ynok_30, ynok_31, w32c_0, w32c_1, w32c_2, w32c_3, w32c_4, w32c_5, w32c_6, w32c_7, w32c_8, w32c_9, w32c_10, w32c_11, w32c_12, w32c_13, w32c_14, w32c_m1, w32c_m2, w32c_118, Int.reduceAdd, Int.reduceSub, Int.reduceMul, yput_s, yput_n, znl_n, znl_0, znl_1, znl_4, ysum_n, ysum_0, ysum_1, ysum_4, true_and, and_true, Nat.reduceAdd, Nat.reduceLeDiff, true_implies, eq_self, true_or, or_true, or_false, false_or, not_true_eq_false, not_false_eq_true, false_implies, implies_true, yset_s, yset_o, yset_d, ne_eq, Nat.reduceEqDiff, Int.reduceToNat, Int.reduceEq, Int.reduceLE, Int.reduceLT, Classical.not_not, Nat.reduceLT, ↓zvk_s, ↓zvk_n, ↓s_252_0, ↓s_252_1n, ↓s_252_1i, ↓s_252_1p, ↓s_252_2, ↓s_252_3n, ↓s_252_3i, ↓s_252_3p, ↓g_252_4, ↓k_252_4, ↓s_252_5, ↓s_252_7, ↓s_252_10, ↓s_252_13, ↓s_252_14n, ↓s_252_14i, ↓s_252_14p, ↓g_252_15, ↓k_252_15, ↓s_252_17, ↓s_252_18, ↓s_252_19, ↓s_252_20, ↓s_252_23, ↓s_252_25, ↓s_252_28, ↓s_252_29, ↓s_252_32, ↓s_252_33, ↓s_252_34, ↓s_252_35, ↓s_252_38, ↓s_252_41, ↓s_252_42, ↓s_252_45, ↓s_252_46, ↓s_252_49, ↓s_252_50, ↓s_252_51, ↓s_252_52, ↓s_252_54, ↓s_252_55, ↓s_252_56, ↓s_252_57, ↓s_252_60, ↓s_252_63n, ↓s_252_63i, ↓s_252_63p, ↓s_252_66, ↓s_252_69, ↓s_252_71, ↓s_252_72, ↓s_252_73, ↓s_252_74, ↓s_252_77, ↓s_252_79, ↓s_252_82, ↓s_252_83, ↓s_252_86, ↓s_252_87, ↓s_252_88, ↓s_252_89, ↓s_252_92, ↓s_252_95, ↓s_252_96, ↓g_252_97, ↓k_252_97, ↓s_252_99, ↓s_252_100, ↓s_252_103, ↓s_252_105, ↓s_252_108n, ↓s_252_108i, ↓s_252_108p, ↓s_252_111, ↓s_252_114n, ↓s_252_114i, ↓s_252_114p, ↓s_252_117n, ↓s_252_117i, ↓s_252_117p, ↓s_252_120, ↓s_252_123, ↓s_252_124, w32c_32, zar_96, zia_96, zln_96, zit_96, zio_95]
    rw [wz, epi]
    have eidx : (w32 (mem 95 28) + w32 i).toNat = rpl mem + (w32 i).toNat := by
      show _ = (w32 (mem 95 28)).toNat + _
      (first | exact Nat.le_of_ble_eq_true rfl | exact (fun h => absurd h.1 (by decide)) | omega)
    have ezx : zW (w32 (k + i)).toNat = zW (zws.getD m 0 + (w32 i).toNat) := by rw [show (w32 (k + i)).toNat = zws.getD m 0 + (w32 i).toNat by (first | exact Nat.le_of_ble_eq_true rfl | exact (fun h => absurd h.1 (by decide)) | omega)]
    refine ⟨fun h => absurd h (by (first | exact Nat.le_of_ble_eq_true rfl | exact (fun h => absurd h.1 (by decide)) | omega)), fun _ => ⟨fun hge => tail (fun z => ?_), fun hlt => ⟨⟨by (first | exact Nat.le_of_ble_eq_true rfl | exact (fun h => absurd h.1 (by decide)) | omega), by (first | exact Nat.le_of_ble_eq_true rfl | exact (fun h => absurd h.1 (by decide)) | omega)⟩, ?_⟩⟩⟩
    · have := z.1
      (first | exact Nat.le_of_ble_eq_true rfl | exact (fun h => absurd h.1 (by decide)) | omega)
    refine c_charAt hE (by (first | exact Nat.le_of_ble_eq_true rfl | exact (fun h => absurd h.1 (by decide)) | omega)) (by (first | exact Nat.le_of_ble_eq_true rfl | exact (fun h => absurd h.1 (by decide)) | omega)) (by (first | exact Nat.le_of_ble_eq_true rfl | exact (fun h => absurd h.1 (by decide)) | omega)) ?_
    refine zgk_s hE xmo_252 60 zc_252 ?_
    simp only [ynok_30, ynok_31, w32c_0, w32c_1, w32c_2, w32c_3, w32c_4, w32c_5, w32c_6, w32c_7, w32c_8, w32c_9, w32c_10, w32c_11, w32c_12, w32c_13, w32c_14, w32c_m1, w32c_m2, w32c_118, Int.reduceAdd, Int.reduceSub, Int.reduceMul, yput_s, yput_n, znl_n, znl_0, znl_1, znl_4, ysum_n, ysum_0, ysum_1, ysum_4, true_and, and_true, Nat.reduceAdd, Nat.reduceLeDiff, true_implies, eq_self, true_or, or_true, or_false, false_or, not_true_eq_false, not_false_eq_true, false_implies, implies_true, yset_s, yset_o, yset_d, ne_eq, Nat.reduceEqDiff, Int.reduceToNat, Int.reduceEq, Int.reduceLE, Int.reduceLT, Classical.not_not, Nat.reduceLT, ↓zvk_s, ↓zvk_n, ↓s_252_0, ↓s_252_1n, ↓s_252_1i, ↓s_252_1p, ↓s_252_2, ↓s_252_3n, ↓s_252_3i, ↓s_252_3p, ↓g_252_4, ↓k_252_4, ↓s_252_5, ↓s_252_7, ↓s_252_10, ↓s_252_13, ↓s_252_14n, ↓s_252_14i, ↓s_252_14p, ↓g_252_15, ↓k_252_15, ↓s_252_17, ↓s_252_18, ↓s_252_19, ↓s_252_20, ↓s_252_23, ↓s_252_25, ↓s_252_28, ↓s_252_29, ↓s_252_32, ↓s_252_33, ↓s_252_34, ↓s_252_35, ↓s_252_38, ↓s_252_41, ↓s_252_42, ↓s_252_45, ↓s_252_46, ↓s_252_49, ↓s_252_50, ↓s_252_51, ↓s_252_52, ↓s_252_54, ↓s_252_55, ↓s_252_56, ↓s_252_57, ↓s_252_60, ↓s_252_63n, ↓s_252_63i, ↓s_252_63p, ↓s_252_66, ↓s_252_69, ↓s_252_71, ↓s_252_72, ↓s_252_73, ↓s_252_74, ↓s_252_77, ↓s_252_79, ↓s_252_82, ↓s_252_83, ↓s_252_86, ↓s_252_87, ↓s_252_88, ↓s_252_89, ↓s_252_92, ↓s_252_95, ↓s_252_96, ↓g_252_97, ↓k_252_97, ↓s_252_99, ↓s_252_100, ↓s_252_103, ↓s_252_105, ↓s_252_108n, ↓s_252_108i, ↓s_252_108p, ↓s_252_111, ↓s_252_114n, ↓s_252_114i, ↓s_252_114p, ↓s_252_117n, ↓s_252_117i, ↓s_252_117p, ↓s_252_120, ↓s_252_123, ↓s_252_124, w32c_32, zar_96, zia_96, zln_96, zit_96, zio_95]
    rw [wz, eidx]
    refine ⟨fun hne => tail (fun z => hne ?_), fun heq => ih (i + 1) (by (first | exact Nat.le_of_ble_eq_true rfl | exact (fun h => absurd h.1 (by decide)) | omega)) (by (first | exact Nat.le_of_ble_eq_true rfl | exact (fun h => absurd h.1 (by decide)) | omega)) (by (first | exact Nat.le_of_ble_eq_true rfl | exact (fun h => absurd h.1 (by decide)) | omega)) (by (first | exact Nat.le_of_ble_eq_true rfl | exact (fun h => absurd h.1 (by decide)) | omega)) (fun j hj => ?_)⟩
    · have := z.2 (w32 i).toNat (by (first | exact Nat.le_of_ble_eq_true rfl | exact (fun h => absurd h.1 (by decide)) | omega))
      rw [ezx]
      exact this
    · by_cases hj2 : j = (w32 i).toNat
      · subst hj2
        rw [ezx] at heq
        exact heq
      · exact hM j (by (first | exact Nat.le_of_ble_eq_true rfl | exact (fun h => absurd h.1 (by decide)) | omega))
theorem fw_loop {E : yE} (hE : yEok E) {d : Nat} {mem : yMem} {Q : Option yV → yMem → Prop} (hp : 0 ≤ w32 (mem 95 28)) (hpe : w32 (mem 95 28) ≤ w32 (mem 95 27)) (ha : w32 (mem 95 27) ≤ 800) (yes : ∀ (m : Nat) (r : Int), m < 23 → w32 r = (m : Int) → sMt (rch mem) (rpl mem) (rat mem) m → Q (some (0, r)) mem) (no : (∀ m, m < 23 → ¬ sMt (rch mem) (rpl mem) (rat mem) m) → Q (some (0, -1)) mem) : ∀ (c m : Nat), m + c = 23 → ∀ (n k : Int) (r3 : Option yV), w32 n = (m : Int) → w32 k = ((zws.getD m 0 : Nat) : Int) → (∀ m', m' < m → ¬ sMt (rch mem) (rpl mem) (rat mem) m') → zG E (d + 4) xm_252 4 [some (1, 95), some (0, n), some (0, k), r3] [] mem Q := by
  intro c
  induction c with
  | zero =>
    intro m hm n k r3 hn hk hA
    have hz := zws_lt m (by (first | exact Nat.le_of_ble_eq_true rfl | exact (fun h => absurd h.1 (by decide)) | omega))
    refine zgo_ok (n := 60) hE xmo_252 (cs := zc_252) ?_
    simp only [ynok_30, ynok_31, w32c_0, w32c_1, w32c_2, w32c_3, w32c_4, w32c_5, w32c_6, w32c_7, w32c_8, w32c_9, w32c_10, w32c_11, w32c_12, w32c_13, w32c_14, w32c_m1, w32c_m2, w32c_118, Int.reduceAdd, Int.reduceSub, Int.reduceMul, yput_s, yput_n, znl_n, znl_0, znl_1, znl_4, ysum_n, ysum_0, ysum_1, ysum_4, true_and, and_true, Nat.reduceAdd, Nat.reduceLeDiff, true_implies, eq_self, true_or, or_true, or_false, false_or, not_true_eq_false, not_false_eq_true, false_implies, implies_true, yset_s, yset_o, yset_d, ne_eq, Nat.reduceEqDiff, Int.reduceToNat, Int.reduceEq, Int.reduceLE, Int.reduceLT, Classical.not_not, Nat.reduceLT, ↓zvk_s, ↓zvk_n, ↓s_252_0, ↓s_252_1n, ↓s_252_1i, ↓s_252_1p, ↓s_252_2, ↓s_252_3n, ↓s_252_3i, ↓s_252_3p, ↓g_252_4, ↓k_252_4, ↓s_252_5, ↓s_252_7, ↓s_252_10, ↓s_252_13, ↓s_252_14n, ↓s_252_14i, ↓s_252_14p, ↓g_252_15, ↓k_252_15, ↓s_252_17, ↓s_252_18, ↓s_252_19, ↓s_252_20, ↓s_252_23, ↓s_252_25, ↓s_252_28, ↓s_252_29, ↓s_252_32, ↓s_252_33, ↓s_252_34, ↓s_252_35, ↓s_252_38, ↓s_252_41, ↓s_252_42, ↓s_252_45, ↓s_252_46, ↓s_252_49, ↓s_252_50, ↓s_252_51, ↓s_252_52, ↓s_252_54, ↓s_252_55, ↓s_252_56, ↓s_252_57, ↓s_252_60, ↓s_252_63n, ↓s_252_63i, ↓s_252_63p, ↓s_252_66, ↓s_252_69, ↓s_252_71, ↓s_252_72, ↓s_252_73, ↓s_252_74, ↓s_252_77, ↓s_252_79, ↓s_252_82, ↓s_252_83, ↓s_252_86, ↓s_252_87, ↓s_252_88, ↓s_252_89, ↓s_252_92, ↓s_252_95, ↓s_252_96, ↓g_252_97, ↓k_252_97, ↓s_252_99, ↓s_252_100, ↓s_252_103, ↓s_252_105, ↓s_252_108n, ↓s_252_108i, ↓s_252_108p, ↓s_252_111, ↓s_252_114n, ↓s_252_114i, ↓s_252_114p, ↓s_252_117n, ↓s_252_117i, ↓s_252_117p, ↓s_252_120, ↓s_252_123, ↓s_252_124, w32c_32, zar_96, zia_96, zln_96, zit_96, zio_95]
    refine c_strlen hE (by (first | exact Nat.le_of_ble_eq_true rfl | exact (fun h => absurd h.1 (by decide)) | omega)) ?_
    refine zgk_s hE xmo_252 60 zc_252 ?_
    simp only [ynok_30, ynok_31, w32c_0, w32c_1, w32c_2, w32c_3, w32c_4, w32c_5, w32c_6, w32c_7, w32c_8, w32c_9, w32c_10, w32c_11, w32c_12, w32c_13, w32c_14, w32c_m1, w32c_m2, w32c_118, Int.reduceAdd, Int.reduceSub, Int.reduceMul, yput_s, yput_n, znl_n, znl_0, znl_1, znl_4, ysum_n, ysum_0, ysum_1, ysum_4, true_and, and_true, Nat.reduceAdd, Nat.reduceLeDiff, true_implies, eq_self, true_or, or_true, or_false, false_or, not_true_eq_false, not_false_eq_true, false_implies, implies_true, yset_s, yset_o, yset_d, ne_eq, Nat.reduceEqDiff, Int.reduceToNat, Int.reduceEq, Int.reduceLE, Int.reduceLT, Classical.not_not, Nat.reduceLT, ↓zvk_s, ↓zvk_n, ↓s_252_0, ↓s_252_1n, ↓s_252_1i, ↓s_252_1p, ↓s_252_2, ↓s_252_3n, ↓s_252_3i, ↓s_252_3p, ↓g_252_4, ↓k_252_4, ↓s_252_5, ↓s_252_7, ↓s_252_10, ↓s_252_13, ↓s_252_14n, ↓s_252_14i, ↓s_252_14p, ↓g_252_15, ↓k_252_15, ↓s_252_17, ↓s_252_18, ↓s_252_19, ↓s_252_20, ↓s_252_23, ↓s_252_25, ↓s_252_28, ↓s_252_29, ↓s_252_32, ↓s_252_33, ↓s_252_34, ↓s_252_35, ↓s_252_38, ↓s_252_41, ↓s_252_42, ↓s_252_45, ↓s_252_46, ↓s_252_49, ↓s_252_50, ↓s_252_51, ↓s_252_52, ↓s_252_54, ↓s_252_55, ↓s_252_56, ↓s_252_57, ↓s_252_60, ↓s_252_63n, ↓s_252_63i, ↓s_252_63p, ↓s_252_66, ↓s_252_69, ↓s_252_71, ↓s_252_72, ↓s_252_73, ↓s_252_74, ↓s_252_77, ↓s_252_79, ↓s_252_82, ↓s_252_83, ↓s_252_86, ↓s_252_87, ↓s_252_88, ↓s_252_89, ↓s_252_92, ↓s_252_95, ↓s_252_96, ↓g_252_97, ↓k_252_97, ↓s_252_99, ↓s_252_100, ↓s_252_103, ↓s_252_105, ↓s_252_108n, ↓s_252_108i, ↓s_252_108p, ↓s_252_111, ↓s_252_114n, ↓s_252_114i, ↓s_252_114p, ↓s_252_117n, ↓s_252_117i, ↓s_252_117p, ↓s_252_120, ↓s_252_123, ↓s_252_124, w32c_32, zar_96, zia_96, zln_96, zit_96, zio_95]
    exact ⟨fun _ => no (fun m' hm' => hA m' (by (first | exact Nat.le_of_ble_eq_true rfl | exact (fun h => absurd h.1 (by decide)) | omega))), fun h => absurd (show 118 ≤ w32 k by (first | exact Nat.le_of_ble_eq_true rfl | exact (fun h => absurd h.1 (by decide)) | omega)) h⟩
  | succ c ih =>
    intro m hm n k r3 hn hk hA
    have hz := zws_lt m (by (first | exact Nat.le_of_ble_eq_true rfl | exact (fun h => absurd h.1 (by decide)) | omega))
    obtain ⟨z1, z2, z3⟩ := zword_ok m (by (first | exact Nat.le_of_ble_eq_true rfl | exact (fun h => absurd h.1 (by decide)) | omega))
    have hn1 : w32 (n + 1) = w32 n + 1 := by rw [w32_ad (by rw [w32c_1]; (first | exact Nat.le_of_ble_eq_true rfl | exact (fun h => absurd h.1 (by decide)) | omega)) (by rw [w32c_1]; (first | exact Nat.le_of_ble_eq_true rfl | exact (fun h => absurd h.1 (by decide)) | omega)), w32c_1]
    refine zgo_ok (n := 60) hE xmo_252 (cs := zc_252) ?_
    simp only [ynok_30, ynok_31, w32c_0, w32c_1, w32c_2, w32c_3, w32c_4, w32c_5, w32c_6, w32c_7, w32c_8, w32c_9, w32c_10, w32c_11, w32c_12, w32c_13, w32c_14, w32c_m1, w32c_m2, w32c_118, Int.reduceAdd, Int.reduceSub, Int.reduceMul, yput_s, yput_n, znl_n, znl_0, znl_1, znl_4, ysum_n, ysum_0, ysum_1, ysum_4, true_and, and_true, Nat.reduceAdd, Nat.reduceLeDiff, true_implies, eq_self, true_or, or_true, or_false, false_or, not_true_eq_false, not_false_eq_true, false_implies, implies_true, yset_s, yset_o, yset_d, ne_eq, Nat.reduceEqDiff, Int.reduceToNat, Int.reduceEq, Int.reduceLE, Int.reduceLT, Classical.not_not, Nat.reduceLT, ↓zvk_s, ↓zvk_n, ↓s_252_0, ↓s_252_1n, ↓s_252_1i, ↓s_252_1p, ↓s_252_2, ↓s_252_3n, ↓s_252_3i, ↓s_252_3p, ↓g_252_4, ↓k_252_4, ↓s_252_5, ↓s_252_7, ↓s_252_10, ↓s_252_13, ↓s_252_14n, ↓s_252_14i, ↓s_252_14p, ↓g_252_15, ↓k_252_15, ↓s_252_17, ↓s_252_18, ↓s_252_19, ↓s_252_20, ↓s_252_23, ↓s_252_25, ↓s_252_28, ↓s_252_29, ↓s_252_32, ↓s_252_33, ↓s_252_34, ↓s_252_35, ↓s_252_38, ↓s_252_41, ↓s_252_42, ↓s_252_45, ↓s_252_46, ↓s_252_49, ↓s_252_50, ↓s_252_51, ↓s_252_52, ↓s_252_54, ↓s_252_55, ↓s_252_56, ↓s_252_57, ↓s_252_60, ↓s_252_63n, ↓s_252_63i, ↓s_252_63p, ↓s_252_66, ↓s_252_69, ↓s_252_71, ↓s_252_72, ↓s_252_73, ↓s_252_74, ↓s_252_77, ↓s_252_79, ↓s_252_82, ↓s_252_83, ↓s_252_86, ↓s_252_87, ↓s_252_88, ↓s_252_89, ↓s_252_92, ↓s_252_95, ↓s_252_96, ↓g_252_97, ↓k_252_97, ↓s_252_99, ↓s_252_100, ↓s_252_103, ↓s_252_105, ↓s_252_108n, ↓s_252_108i, ↓s_252_108p, ↓s_252_111, ↓s_252_114n, ↓s_252_114i, ↓s_252_114p, ↓s_252_117n, ↓s_252_117i, ↓s_252_117p, ↓s_252_120, ↓s_252_123, ↓s_252_124, w32c_32, zar_96, zia_96, zln_96, zit_96, zio_95]
    refine c_strlen hE (by (first | exact Nat.le_of_ble_eq_true rfl | exact (fun h => absurd h.1 (by decide)) | omega)) ?_
    refine zgk_s hE xmo_252 60 zc_252 ?_
    simp only [ynok_30, ynok_31, w32c_0, w32c_1, w32c_2, w32c_3, w32c_4, w32c_5, w32c_6, w32c_7, w32c_8, w32c_9, w32c_10, w32c_11, w32c_12, w32c_13, w32c_14, w32c_m1, w32c_m2, w32c_118, Int.reduceAdd, Int.reduceSub, Int.reduceMul, yput_s, yput_n, znl_n, znl_0, znl_1, znl_4, ysum_n, ysum_0, ysum_1, ysum_4, true_and, and_true, Nat.reduceAdd, Nat.reduceLeDiff, true_implies, eq_self, true_or, or_true, or_false, false_or, not_true_eq_false, not_false_eq_true, false_implies, implies_true, yset_s, yset_o, yset_d, ne_eq, Nat.reduceEqDiff, Int.reduceToNat, Int.reduceEq, Int.reduceLE, Int.reduceLT, Classical.not_not, Nat.reduceLT, ↓zvk_s, ↓zvk_n, ↓s_252_0, ↓s_252_1n, ↓s_252_1i, ↓s_252_1p, ↓s_252_2, ↓s_252_3n, ↓s_252_3i, ↓s_252_3p, ↓g_252_4, ↓k_252_4, ↓s_252_5, ↓s_252_7, ↓s_252_10, ↓s_252_13, ↓s_252_14n, ↓s_252_14i, ↓s_252_14p, ↓g_252_15, ↓k_252_15, ↓s_252_17, ↓s_252_18, ↓s_252_19, ↓s_252_20, ↓s_252_23, ↓s_252_25, ↓s_252_28, ↓s_252_29, ↓s_252_32, ↓s_252_33, ↓s_252_34, ↓s_252_35, ↓s_252_38, ↓s_252_41, ↓s_252_42, ↓s_252_45, ↓s_252_46, ↓s_252_49, ↓s_252_50, ↓s_252_51, ↓s_252_52, ↓s_252_54, ↓s_252_55, ↓s_252_56, ↓s_252_57, ↓s_252_60, ↓s_252_63n, ↓s_252_63i, ↓s_252_63p, ↓s_252_66, ↓s_252_69, ↓s_252_71, ↓s_252_72, ↓s_252_73, ↓s_252_74, ↓s_252_77, ↓s_252_79, ↓s_252_82, ↓s_252_83, ↓s_252_86, ↓s_252_87, ↓s_252_88, ↓s_252_89, ↓s_252_92, ↓s_252_95, ↓s_252_96, ↓g_252_97, ↓k_252_97, ↓s_252_99, ↓s_252_100, ↓s_252_103, ↓s_252_105, ↓s_252_108n, ↓s_252_108i, ↓s_252_108p, ↓s_252_111, ↓s_252_114n, ↓s_252_114i, ↓s_252_114p, ↓s_252_117n, ↓s_252_117i, ↓s_252_117p, ↓s_252_120, ↓s_252_123, ↓s_252_124, w32c_32, zar_96, zia_96, zln_96, zit_96, zio_95]
    refine ⟨fun h => absurd h (by (first | exact Nat.le_of_ble_eq_true rfl | exact (fun h => absurd h.1 (by decide)) | omega)), fun _ => ?_⟩
    refine fw_cmp hE hp hpe ha (m := m) (by (first | exact Nat.le_of_ble_eq_true rfl | exact (fun h => absurd h.1 (by decide)) | omega)) hk (yes m n (by (first | exact Nat.le_of_ble_eq_true rfl | exact (fun h => absurd h.1 (by decide)) | omega)) hn) (fun hno r3 => ?_) _ _ rfl (by rw [w32c_0]; (first | exact Nat.le_of_ble_eq_true rfl | exact (fun h => absurd h.1 (by decide)) | omega)) (by rw [w32c_0]; (first | exact Nat.le_of_ble_eq_true rfl | exact (fun h => absurd h.1 (by decide)) | omega)) (by rw [w32c_0]; (first | exact Nat.le_of_ble_eq_true rfl | exact (fun h => absurd h.1 (by decide)) | omega)) (fun j hj => absurd hj (by rw [w32c_0]; (first | exact Nat.le_of_ble_eq_true rfl | exact (fun h => absurd h.1 (by decide)) | omega)))
    exact word_skip hE (m := m) (by (first | exact Nat.le_of_ble_eq_true rfl | exact (fun h => absurd h.1 (by decide)) | omega)) (fun k' r3' hk' => ih (m + 1) (by (first | exact Nat.le_of_ble_eq_true rfl | exact (fun h => absurd h.1 (by decide)) | omega)) (n + 1) k' r3' (by (first | exact Nat.le_of_ble_eq_true rfl | exact (fun h => absurd h.1 (by decide)) | omega)) hk' (fun m' hm' => by
      by_cases h : m' = m
      · subst h; exact hno
      · exact hA m' (by (first | exact Nat.le_of_ble_eq_true rfl | exact (fun h => absurd h.1 (by decide)) | omega)))) _ _ rfl (by (first | exact Nat.le_of_ble_eq_true rfl | exact (fun h => absurd h.1 (by decide)) | omega)) (by (first | exact Nat.le_of_ble_eq_true rfl | exact (fun h => absurd h.1 (by decide)) | omega)) (by (first | exact Nat.le_of_ble_eq_true rfl | exact (fun h => absurd h.1 (by decide)) | omega))
theorem f_word {E : yE} (hE : yEok E) {D : Nat} (hD : 5 ≤ D) {mem : yMem} {Q : Option yV → yMem → Prop} (hp : 0 ≤ w32 (mem 95 28)) (hpe : w32 (mem 95 28) ≤ w32 (mem 95 27)) (ha : w32 (mem 95 27) ≤ 800) (yes : ∀ (m : Nat) (r : Int), m < 23 → w32 r = (m : Int) → sMt (rch mem) (rpl mem) (rat mem) m → Q (some (0, r)) mem) (no : (∀ m, m < 23 → ¬ sMt (rch mem) (rpl mem) (rat mem) m) → Q (some (0, -1)) mem) : yCon E D xm_252 [(1, 95)] mem Q := by
  obtain ⟨d, rfl⟩ := Nat.exists_eq_add_of_le' hD
  refine e_252 ?_
  refine zvc_ok hE 60 zc_252 _ _ _ _ _ _ _ xmo_252 ?_
  simp only [ynok_30, ynok_31, w32c_0, w32c_1, w32c_2, w32c_3, w32c_4, w32c_5, w32c_6, w32c_7, w32c_8, w32c_9, w32c_10, w32c_11, w32c_12, w32c_13, w32c_14, w32c_m1, w32c_m2, w32c_118, Int.reduceAdd, Int.reduceSub, Int.reduceMul, yput_s, yput_n, znl_n, znl_0, znl_1, znl_4, ysum_n, ysum_0, ysum_1, ysum_4, true_and, and_true, Nat.reduceAdd, Nat.reduceLeDiff, true_implies, eq_self, true_or, or_true, or_false, false_or, not_true_eq_false, not_false_eq_true, false_implies, implies_true, yset_s, yset_o, yset_d, ne_eq, Nat.reduceEqDiff, Int.reduceToNat, Int.reduceEq, Int.reduceLE, Int.reduceLT, Classical.not_not, Nat.reduceLT, ↓zvk_s, ↓zvk_n, ↓s_252_0, ↓s_252_1n, ↓s_252_1i, ↓s_252_1p, ↓s_252_2, ↓s_252_3n, ↓s_252_3i, ↓s_252_3p, ↓g_252_4, ↓k_252_4, ↓s_252_5, ↓s_252_7, ↓s_252_10, ↓s_252_13, ↓s_252_14n, ↓s_252_14i, ↓s_252_14p, ↓g_252_15, ↓k_252_15, ↓s_252_17, ↓s_252_18, ↓s_252_19, ↓s_252_20, ↓s_252_23, ↓s_252_25, ↓s_252_28, ↓s_252_29, ↓s_252_32, ↓s_252_33, ↓s_252_34, ↓s_252_35, ↓s_252_38, ↓s_252_41, ↓s_252_42, ↓s_252_45, ↓s_252_46, ↓s_252_49, ↓s_252_50, ↓s_252_51, ↓s_252_52, ↓s_252_54, ↓s_252_55, ↓s_252_56, ↓s_252_57, ↓s_252_60, ↓s_252_63n, ↓s_252_63i, ↓s_252_63p, ↓s_252_66, ↓s_252_69, ↓s_252_71, ↓s_252_72, ↓s_252_73, ↓s_252_74, ↓s_252_77, ↓s_252_79, ↓s_252_82, ↓s_252_83, ↓s_252_86, ↓s_252_87, ↓s_252_88, ↓s_252_89, ↓s_252_92, ↓s_252_95, ↓s_252_96, ↓g_252_97, ↓k_252_97, ↓s_252_99, ↓s_252_100, ↓s_252_103, ↓s_252_105, ↓s_252_108n, ↓s_252_108i, ↓s_252_108p, ↓s_252_111, ↓s_252_114n, ↓s_252_114i, ↓s_252_114p, ↓s_252_117n, ↓s_252_117i, ↓s_252_117p, ↓s_252_120, ↓s_252_123, ↓s_252_124, w32c_32, zar_96, zia_96, zln_96, zit_96, zio_95]
  exact fw_loop hE hp hpe ha yes no 23 0 rfl 0 0 _ (by decide) (by decide) (fun m' hm' => absurd hm' (by (first | exact Nat.le_of_ble_eq_true rfl | exact (fun h => absurd h.1 (by decide)) | omega)))
theorem zix_b32 {f : Nat → Int} (hf : ∀ j, 0 ≤ w32 (f j) ∧ w32 (f j) < 32) : ∀ n : Nat, 0 ≤ zix f 32 n ∧ zix f 32 n < 32 ^ n := fun n => zix_lt (by decide) n (fun j _ => hf j)
theorem fn_loop {E : yE} (hE : yEok E) {d : Nat} {mem : yMem} {Q : Option yV → yMem → Prop} (hp : 0 ≤ w32 (mem 95 28)) (hpe : w32 (mem 95 28) ≤ w32 (mem 95 27)) (ha : w32 (mem 95 27) ≤ 800) (hl : ∀ j, rpl mem ≤ j → j < rat mem → 97 ≤ rch mem j ∧ rch mem j ≤ 122) (hQ : ∀ m, aFrm [(95, 31)] mem m → w32 (m 95 30) = sPk (rch mem) (rpl mem) (rat mem) → Q none m) : ∀ (c : Nat) (k : Int) (m : yMem), (6 - w32 k).toNat = c → 0 ≤ w32 k → w32 k ≤ 6 → aFrm [(95, 31)] mem m → w32 (m 95 30) = zix (sLt (rch mem) (rpl mem) (rat mem)) 32 (w32 k).toNat → zG E d xm_209 7 [some (1, 95), some (0, k)] [] m Q := by
  have sd := fun j => sLt_d hl j
  have sw : ∀ j, w32 (sLt (rch mem) (rpl mem) (rat mem) j) = sLt (rch mem) (rpl mem) (rat mem) j := fun j => w32_of (by have := sd j; (first | exact Nat.le_of_ble_eq_true rfl | exact (fun h => absurd h.1 (by decide)) | omega)) (by have := sd j; (first | exact Nat.le_of_ble_eq_true rfl | exact (fun h => absurd h.1 (by decide)) | omega))
  intro c
  induction c with
  | zero =>
    intro k m hc h0 h1 hF hv
    refine zgo_ok (n := 60) hE xmo_209 (cs := zc_209) ?_
    simp only [ynok_30, ynok_31, w32c_0, w32c_1, w32c_2, w32c_3, w32c_4, w32c_5, w32c_6, w32c_7, w32c_8, w32c_9, w32c_10, w32c_11, w32c_12, w32c_13, w32c_14, w32c_m1, w32c_m2, w32c_118, Int.reduceAdd, Int.reduceSub, Int.reduceMul, yput_s, yput_n, znl_n, znl_0, znl_1, znl_4, ysum_n, ysum_0, ysum_1, ysum_4, true_and, and_true, Nat.reduceAdd, Nat.reduceLeDiff, true_implies, eq_self, true_or, or_true, or_false, false_or, not_true_eq_false, not_false_eq_true, false_implies, implies_true, yset_s, yset_o, yset_d, ne_eq, Nat.reduceEqDiff, Int.reduceToNat, Int.reduceEq, Int.reduceLE, Int.reduceLT, Classical.not_not, Nat.reduceLT, ↓zvk_s, ↓zvk_n, ↓s_209_0, ↓s_209_1, ↓s_209_2, ↓s_209_5, ↓s_209_6n, ↓s_209_6i, ↓s_209_6p, ↓g_209_7, ↓k_209_7, ↓s_209_8, ↓s_209_10, ↓s_209_13, ↓s_209_14, ↓s_209_15, ↓s_209_18, ↓s_209_19, ↓s_209_20, ↓s_209_21, ↓s_209_24, ↓s_209_25, ↓s_209_26, ↓s_209_27, ↓s_209_30, ↓s_209_33, ↓s_209_34, ↓s_209_37, ↓s_209_38, ↓s_209_41, ↓s_209_42, ↓s_209_43, ↓s_209_44, ↓s_209_46, ↓s_209_47, ↓s_209_48, ↓s_209_49, ↓s_209_52, ↓s_209_53, ↓s_209_54, ↓s_209_57n, ↓s_209_57i, ↓s_209_57p, ↓s_209_60, ↓s_209_63, w32c_97, zar_96, zia_96, zln_96, zit_96, zio_95]
    refine ⟨fun _ => hQ m hF ?_, fun h => absurd (show 6 ≤ w32 k by (first | exact Nat.le_of_ble_eq_true rfl | exact (fun h => absurd h.1 (by decide)) | omega)) h⟩
    rw [hv, show (w32 k).toNat = 6 by (first | exact Nat.le_of_ble_eq_true rfl | exact (fun h => absurd h.1 (by decide)) | omega)]
    rfl
  | succ c ih =>
    intro k m hc h0 h1 hF hv
    refine zgo_ok (n := 60) hE xmo_209 (cs := zc_209) ?_
    have e28 : m 95 28 = mem 95 28 := hF 95 28 rfl
    have e27 : m 95 27 = mem 95 27 := hF 95 27 rfl
    have hk1 : w32 (k + 1) = w32 k + 1 := by rw [w32_ad (by rw [w32c_1]; (first | exact Nat.le_of_ble_eq_true rfl | exact (fun h => absurd h.1 (by decide)) | omega)) (by rw [w32c_1]; (first | exact Nat.le_of_ble_eq_true rfl | exact (fun h => absurd h.1 (by decide)) | omega)), w32c_1]
    have epk : w32 (mem 95 28 + k) = w32 (mem 95 28) + w32 k := w32_ad (by (first | exact Nat.le_of_ble_eq_true rfl | exact (fun h => absurd h.1 (by decide)) | omega)) (by (first | exact Nat.le_of_ble_eq_true rfl | exact (fun h => absurd h.1 (by decide)) | omega))
    have zb := zix_b32 (f := sLt (rch mem) (rpl mem) (rat mem)) (fun j => by rw [sw j]; exact ⟨(sd j).1, (sd j).2.1⟩) (w32 k).toNat
    have hb : zix (sLt (rch mem) (rpl mem) (rat mem)) 32 (w32 k).toNat < 33554432 := by
      have : ∀ q : Nat, q ≤ 5 → (32 : Int) ^ q ≤ 33554432 := by decide
      have := this (w32 k).toNat (by (first | exact Nat.le_of_ble_eq_true rfl | exact (fun h => absurd h.1 (by decide)) | omega))
      (first | exact Nat.le_of_ble_eq_true rfl | exact (fun h => absurd h.1 (by decide)) | omega)
    have s1 : w32 (ybin 6 (m 95 30) 5) = ((32 * (zix (sLt (rch mem) (rpl mem) (rat mem)) 32 (w32 k).toNat).toNat : Nat) : Int) := by
      have := yb_shl (x := m 95 30) (y := 5) (a := (zix (sLt (rch mem) (rpl mem) (rat mem)) 32 (w32 k).toNat).toNat) (s := 5) (by rw [hv]; (first | exact Nat.le_of_ble_eq_true rfl | exact (fun h => absurd h.1 (by decide)) | omega)) (by decide) (by decide) (by (first | exact Nat.le_of_ble_eq_true rfl | exact (fun h => absurd h.1 (by decide)) | omega))
      rw [this]
      (first | exact Nat.le_of_ble_eq_true rfl | exact (fun h => absurd h.1 (by decide)) | omega)
    have step : ∀ x : Int, w32 x = sLt (rch mem) (rpl mem) (rat mem) (w32 k).toNat → w32 (ybin 4 (ybin 6 (m 95 30) 5) x) = zix (sLt (rch mem) (rpl mem) (rat mem)) 32 ((w32 k).toNat + 1) := fun x hx => by
      have sk := sd (w32 k).toNat
      have := yb_or (x := ybin 6 (m 95 30) 5) (y := x) (a := (zix (sLt (rch mem) (rpl mem) (rat mem)) 32 (w32 k).toNat).toNat) (b := (sLt (rch mem) (rpl mem) (rat mem) (w32 k).toNat).toNat) (k := 5) s1 (by rw [hx]; (first | exact Nat.le_of_ble_eq_true rfl | exact (fun h => absurd h.1 (by decide)) | omega)) (by (first | exact Nat.le_of_ble_eq_true rfl | exact (fun h => absurd h.1 (by decide)) | omega)) (by (first | exact Nat.le_of_ble_eq_true rfl | exact (fun h => absurd h.1 (by decide)) | omega))
      rw [this]
      simp only [zix]
      rw [sw]
      (first | exact Nat.le_of_ble_eq_true rfl | exact (fun h => absurd h.1 (by decide)) | omega)
    have go : ∀ v, w32 v = zix (sLt (rch mem) (rpl mem) (rat mem)) 32 ((w32 k).toNat + 1) → zG E d xm_209 7 [some (1, 95), some (0, k + 1)] [] (yset m 95 30 v) Q := fun v hv' => ih (k + 1) _ (by (first | exact Nat.le_of_ble_eq_true rfl | exact (fun h => absurd h.1 (by decide)) | omega)) (by (first | exact Nat.le_of_ble_eq_true rfl | exact (fun h => absurd h.1 (by decide)) | omega)) (by (first | exact Nat.le_of_ble_eq_true rfl | exact (fun h => absurd h.1 (by decide)) | omega)) (aFrm_set hF rfl) (by rw [yset_s, hv', show (w32 (k + 1)).toNat = (w32 k).toNat + 1 by (first | exact Nat.le_of_ble_eq_true rfl | exact (fun h => absurd h.1 (by decide)) | omega)])
    simp only [ynok_30, ynok_31, w32c_0, w32c_1, w32c_2, w32c_3, w32c_4, w32c_5, w32c_6, w32c_7, w32c_8, w32c_9, w32c_10, w32c_11, w32c_12, w32c_13, w32c_14, w32c_m1, w32c_m2, w32c_118, Int.reduceAdd, Int.reduceSub, Int.reduceMul, yput_s, yput_n, znl_n, znl_0, znl_1, znl_4, ysum_n, ysum_0, ysum_1, ysum_4, true_and, and_true, Nat.reduceAdd, Nat.reduceLeDiff, true_implies, eq_self, true_or, or_true, or_false, false_or, not_true_eq_false, not_false_eq_true, false_implies, implies_true, yset_s, yset_o, yset_d, ne_eq, Nat.reduceEqDiff, Int.reduceToNat, Int.reduceEq, Int.reduceLE, Int.reduceLT, Classical.not_not, Nat.reduceLT, ↓zvk_s, ↓zvk_n, ↓s_209_0, ↓s_209_1, ↓s_209_2, ↓s_209_5, ↓s_209_6n, ↓s_209_6i, ↓s_209_6p, ↓g_209_7, ↓k_209_7, ↓s_209_8, ↓s_209_10, ↓s_209_13, ↓s_209_14, ↓s_209_15, ↓s_209_18, ↓s_209_19, ↓s_209_20, ↓s_209_21, ↓s_209_24, ↓s_209_25, ↓s_209_26, ↓s_209_27, ↓s_209_30, ↓s_209_33, ↓s_209_34, ↓s_209_37, ↓s_209_38, ↓s_209_41, ↓s_209_42, ↓s_209_43, ↓s_209_44, ↓s_209_46, ↓s_209_47, ↓s_209_48, ↓s_209_49, ↓s_209_52, ↓s_209_53, ↓s_209_54, ↓s_209_57n, ↓s_209_57i, ↓s_209_57p, ↓s_209_60, ↓s_209_63, w32c_97, zar_96, zia_96, zln_96, zit_96, zio_95]
    rw [e28, e27, hF 96 _ rfl]
    refine ⟨fun h => absurd h (by (first | exact Nat.le_of_ble_eq_true rfl | exact (fun h => absurd h.1 (by decide)) | omega)), fun _ => ⟨fun hge => go _ (step _ ?_), fun hlt => ⟨⟨by (first | exact Nat.le_of_ble_eq_true rfl | exact (fun h => absurd h.1 (by decide)) | omega), by (first | exact Nat.le_of_ble_eq_true rfl | exact (fun h => absurd h.1 (by decide)) | omega)⟩, go _ (step _ ?_)⟩⟩⟩
    · unfold sLt
      rw [if_neg (by show ¬ (w32 (mem 95 28)).toNat + (w32 k).toNat < (w32 (mem 95 27)).toNat; (first | exact Nat.le_of_ble_eq_true rfl | exact (fun h => absurd h.1 (by decide)) | omega))]
      decide
    · have hin : rpl mem + (w32 k).toNat < rat mem := by show (w32 (mem 95 28)).toNat + (w32 k).toNat < (w32 (mem 95 27)).toNat; (first | exact Nat.le_of_ble_eq_true rfl | exact (fun h => absurd h.1 (by decide)) | omega)
      have hlk := hl (rpl mem + (w32 k).toNat) (by (first | exact Nat.le_of_ble_eq_true rfl | exact (fun h => absurd h.1 (by decide)) | omega)) hin
      have ei : (w32 (mem 95 28 + k)).toNat = rpl mem + (w32 k).toNat := by show _ = (w32 (mem 95 28)).toNat + (w32 k).toNat; (first | exact Nat.le_of_ble_eq_true rfl | exact (fun h => absurd h.1 (by decide)) | omega)
      unfold sLt
      rw [if_pos hin, ei]
      have e97 : w32 97 = 97 := by decide
      have h1' : w32 (mem 96 (rpl mem + (w32 k).toNat) - 97) = w32 (mem 96 (rpl mem + (w32 k).toNat)) - 97 := by rw [w32_sb (by rw [e97]; have := hlk.1; have := hlk.2; show -2147483648 ≤ rch mem (rpl mem + (w32 k).toNat) - 97; (first | exact Nat.le_of_ble_eq_true rfl | exact (fun h => absurd h.1 (by decide)) | omega)) (by rw [e97]; have := hlk.2; show rch mem (rpl mem + (w32 k).toNat) - 97 < 2147483648; (first | exact Nat.le_of_ble_eq_true rfl | exact (fun h => absurd h.1 (by decide)) | omega)), e97]
      rw [w32_ad (by rw [w32c_1, h1']; have := hlk.1; show -2147483648 ≤ rch mem (rpl mem + (w32 k).toNat) - 97 + 1; (first | exact Nat.le_of_ble_eq_true rfl | exact (fun h => absurd h.1 (by decide)) | omega)) (by rw [w32c_1, h1']; have := hlk.2; show rch mem (rpl mem + (w32 k).toNat) - 97 + 1 < 2147483648; (first | exact Nat.le_of_ble_eq_true rfl | exact (fun h => absurd h.1 (by decide)) | omega)), w32c_1, h1']
      show rch mem (rpl mem + (w32 k).toNat) - 97 + 1 = rch mem (rpl mem + (w32 k).toNat) - 96
      (first | exact Nat.le_of_ble_eq_true rfl | exact (fun h => absurd h.1 (by decide)) | omega)
theorem f_name {E : yE} (hE : yEok E) {D : Nat} (hD : 1 ≤ D) {mem : yMem} {Q : Option yV → yMem → Prop} (hp : 0 ≤ w32 (mem 95 28)) (hpe : w32 (mem 95 28) ≤ w32 (mem 95 27)) (ha : w32 (mem 95 27) ≤ 800) (hl : ∀ j, rpl mem ≤ j → j < rat mem → 97 ≤ rch mem j ∧ rch mem j ≤ 122) (hQ : ∀ m, aFrm [(95, 31)] mem m → w32 (m 95 30) = sPk (rch mem) (rpl mem) (rat mem) → Q none m) : yCon E D xm_209 [(1, 95)] mem Q := by
  obtain ⟨d, rfl⟩ := Nat.exists_eq_add_of_le' hD
  refine e_209 ?_
  refine zvc_ok hE 60 zc_209 _ _ _ _ _ _ _ xmo_209 ?_
  simp only [ynok_30, ynok_31, w32c_0, w32c_1, w32c_2, w32c_3, w32c_4, w32c_5, w32c_6, w32c_7, w32c_8, w32c_9, w32c_10, w32c_11, w32c_12, w32c_13, w32c_14, w32c_m1, w32c_m2, w32c_118, Int.reduceAdd, Int.reduceSub, Int.reduceMul, yput_s, yput_n, znl_n, znl_0, znl_1, znl_4, ysum_n, ysum_0, ysum_1, ysum_4, true_and, and_true, Nat.reduceAdd, Nat.reduceLeDiff, true_implies, eq_self, true_or, or_true, or_false, false_or, not_true_eq_false, not_false_eq_true, false_implies, implies_true, yset_s, yset_o, yset_d, ne_eq, Nat.reduceEqDiff, Int.reduceToNat, Int.reduceEq, Int.reduceLE, Int.reduceLT, Classical.not_not, Nat.reduceLT, ↓zvk_s, ↓zvk_n, ↓s_209_0, ↓s_209_1, ↓s_209_2, ↓s_209_5, ↓s_209_6n, ↓s_209_6i, ↓s_209_6p, ↓g_209_7, ↓k_209_7, ↓s_209_8, ↓s_209_10, ↓s_209_13, ↓s_209_14, ↓s_209_15, ↓s_209_18, ↓s_209_19, ↓s_209_20, ↓s_209_21, ↓s_209_24, ↓s_209_25, ↓s_209_26, ↓s_209_27, ↓s_209_30, ↓s_209_33, ↓s_209_34, ↓s_209_37, ↓s_209_38, ↓s_209_41, ↓s_209_42, ↓s_209_43, ↓s_209_44, ↓s_209_46, ↓s_209_47, ↓s_209_48, ↓s_209_49, ↓s_209_52, ↓s_209_53, ↓s_209_54, ↓s_209_57n, ↓s_209_57i, ↓s_209_57p, ↓s_209_60, ↓s_209_63, w32c_97, zar_96, zia_96, zln_96, zit_96, zio_95]
  exact fn_loop hE hp hpe ha hl hQ _ _ _ rfl (by decide) (by decide) (aFrm_set aFrm_rf rfl) (by rw [yset_s, w32c_0]; rfl)
end
section
/-! the reference's sign and token, as they are -/
abbrev rsz (mem : yMem) : Nat := (w32 (mem 95 26)).toNat
def sIn (c : Int) : Prop := c = 59 ∨ c = 40 ∨ c = 41 ∨ c = 43 ∨ c = 45 ∨ c = 42 ∨ c = 47 ∨ c = 60 ∨ c = 61 ∨ c = 62
def sVl (c b : Int) : Int := if c = 60 ∧ b = 61 then 256 else if c = 60 ∧ b = 62 then 257 else if c = 62 ∧ b = 61 then 258 else c
theorem sg_fin {c b b0 s : Int} (hc : c ≤ 255) (hb : b = b0 ∨ (b = -1 ∧ b0 = 0)) (hs : (sIn c ∧ s = 3) ∨ (¬ sIn c ∧ s = 5)) : sRk s (sVl c b) (sSg c b0).1 0 ∧ (if 256 ≤ sVl c b then (2 : Int) else 1) = ((sSg c b0).2 : Int) := by
  have key : sIn c → s = 3 := fun h => by
    rcases hs with h' | h'
    · exact h'.2
    · exact absurd h h'.1
  have mk : ∀ k : Nat, 4 ≤ k → k ≤ 16 → s = 3 → sVl c b = sSc k → sRk s (sVl c b) k 0 := fun k h1 h2 h3 h4 => Or.inr (Or.inr (Or.inr (Or.inr (Or.inl ⟨h1, h2, h3, h4⟩))))
  unfold sSg
  by_cases h59 : c = 59
  · rw [if_pos h59]; subst h59
    have ev : sVl 59 b = 59 := by unfold sVl; rw [if_neg (by (first | exact Nat.le_of_ble_eq_true rfl | exact (fun h => absurd h.1 (by decide)) | omega)), if_neg (by (first | exact Nat.le_of_ble_eq_true rfl | exact (fun h => absurd h.1 (by decide)) | omega)), if_neg (by (first | exact Nat.le_of_ble_eq_true rfl | exact (fun h => absurd h.1 (by decide)) | omega))]
    rw [ev]
    rw [ev] at mk
    exact ⟨mk 4 (by decide) (by decide) (key (by unfold sIn; (first | exact Nat.le_of_ble_eq_true rfl | exact (fun h => absurd h.1 (by decide)) | omega))) rfl, by decide⟩
  rw [if_neg h59]
  by_cases h40 : c = 40
  · rw [if_pos h40]; subst h40
    have ev : sVl 40 b = 40 := by unfold sVl; rw [if_neg (by (first | exact Nat.le_of_ble_eq_true rfl | exact (fun h => absurd h.1 (by decide)) | omega)), if_neg (by (first | exact Nat.le_of_ble_eq_true rfl | exact (fun h => absurd h.1 (by decide)) | omega)), if_neg (by (first | exact Nat.le_of_ble_eq_true rfl | exact (fun h => absurd h.1 (by decide)) | omega))]
    rw [ev]
    rw [ev] at mk
    exact ⟨mk 5 (by decide) (by decide) (key (by unfold sIn; (first | exact Nat.le_of_ble_eq_true rfl | exact (fun h => absurd h.1 (by decide)) | omega))) rfl, by decide⟩
  rw [if_neg h40]
  by_cases h41 : c = 41
  · rw [if_pos h41]; subst h41
    have ev : sVl 41 b = 41 := by unfold sVl; rw [if_neg (by (first | exact Nat.le_of_ble_eq_true rfl | exact (fun h => absurd h.1 (by decide)) | omega)), if_neg (by (first | exact Nat.le_of_ble_eq_true rfl | exact (fun h => absurd h.1 (by decide)) | omega)), if_neg (by (first | exact Nat.le_of_ble_eq_true rfl | exact (fun h => absurd h.1 (by decide)) | omega))]
    rw [ev]
    rw [ev] at mk
    exact ⟨mk 6 (by decide) (by decide) (key (by unfold sIn; (first | exact Nat.le_of_ble_eq_true rfl | exact (fun h => absurd h.1 (by decide)) | omega))) rfl, by decide⟩
  rw [if_neg h41]
  by_cases h60 : c = 60
  · rw [if_pos h60]; subst h60
    by_cases hb1 : b0 = 61
    · rw [if_pos hb1]
      have ev : sVl 60 b = 256 := by unfold sVl; rw [if_pos ⟨rfl, by (first | exact Nat.le_of_ble_eq_true rfl | exact (fun h => absurd h.1 (by decide)) | omega)⟩]
      rw [ev]
      rw [ev] at mk
      exact ⟨mk 8 (by decide) (by decide) (key (by unfold sIn; (first | exact Nat.le_of_ble_eq_true rfl | exact (fun h => absurd h.1 (by decide)) | omega))) rfl, by decide⟩
    · rw [if_neg hb1]
      by_cases hb2 : b0 = 62
      · rw [if_pos hb2]
        have ev : sVl 60 b = 257 := by unfold sVl; rw [if_neg (by (first | exact Nat.le_of_ble_eq_true rfl | exact (fun h => absurd h.1 (by decide)) | omega)), if_pos ⟨rfl, by (first | exact Nat.le_of_ble_eq_true rfl | exact (fun h => absurd h.1 (by decide)) | omega)⟩]
        rw [ev]
        rw [ev] at mk
        exact ⟨mk 10 (by decide) (by decide) (key (by unfold sIn; (first | exact Nat.le_of_ble_eq_true rfl | exact (fun h => absurd h.1 (by decide)) | omega))) rfl, by decide⟩
      · rw [if_neg hb2]
        have ev : sVl 60 b = 60 := by unfold sVl; rw [if_neg (by (first | exact Nat.le_of_ble_eq_true rfl | exact (fun h => absurd h.1 (by decide)) | omega)), if_neg (by (first | exact Nat.le_of_ble_eq_true rfl | exact (fun h => absurd h.1 (by decide)) | omega)), if_neg (by (first | exact Nat.le_of_ble_eq_true rfl | exact (fun h => absurd h.1 (by decide)) | omega))]
        rw [ev]
        rw [ev] at mk
        exact ⟨mk 7 (by decide) (by decide) (key (by unfold sIn; (first | exact Nat.le_of_ble_eq_true rfl | exact (fun h => absurd h.1 (by decide)) | omega))) rfl, by decide⟩
  rw [if_neg h60]
  by_cases h61 : c = 61
  · rw [if_pos h61]; subst h61
    have ev : sVl 61 b = 61 := by unfold sVl; rw [if_neg (by (first | exact Nat.le_of_ble_eq_true rfl | exact (fun h => absurd h.1 (by decide)) | omega)), if_neg (by (first | exact Nat.le_of_ble_eq_true rfl | exact (fun h => absurd h.1 (by decide)) | omega)), if_neg (by (first | exact Nat.le_of_ble_eq_true rfl | exact (fun h => absurd h.1 (by decide)) | omega))]
    rw [ev]
    rw [ev] at mk
    exact ⟨mk 9 (by decide) (by decide) (key (by unfold sIn; (first | exact Nat.le_of_ble_eq_true rfl | exact (fun h => absurd h.1 (by decide)) | omega))) rfl, by decide⟩
  rw [if_neg h61]
  by_cases h62 : c = 62
  · rw [if_pos h62]; subst h62
    by_cases hb1 : b0 = 61
    · rw [if_pos hb1]
      have ev : sVl 62 b = 258 := by unfold sVl; rw [if_neg (by (first | exact Nat.le_of_ble_eq_true rfl | exact (fun h => absurd h.1 (by decide)) | omega)), if_neg (by (first | exact Nat.le_of_ble_eq_true rfl | exact (fun h => absurd h.1 (by decide)) | omega)), if_pos ⟨rfl, by (first | exact Nat.le_of_ble_eq_true rfl | exact (fun h => absurd h.1 (by decide)) | omega)⟩]
      rw [ev]
      rw [ev] at mk
      exact ⟨mk 11 (by decide) (by decide) (key (by unfold sIn; (first | exact Nat.le_of_ble_eq_true rfl | exact (fun h => absurd h.1 (by decide)) | omega))) rfl, by decide⟩
    · rw [if_neg hb1]
      have ev : sVl 62 b = 62 := by unfold sVl; rw [if_neg (by (first | exact Nat.le_of_ble_eq_true rfl | exact (fun h => absurd h.1 (by decide)) | omega)), if_neg (by (first | exact Nat.le_of_ble_eq_true rfl | exact (fun h => absurd h.1 (by decide)) | omega)), if_neg (by (first | exact Nat.le_of_ble_eq_true rfl | exact (fun h => absurd h.1 (by decide)) | omega))]
      rw [ev]
      rw [ev] at mk
      exact ⟨mk 12 (by decide) (by decide) (key (by unfold sIn; (first | exact Nat.le_of_ble_eq_true rfl | exact (fun h => absurd h.1 (by decide)) | omega))) rfl, by decide⟩
  rw [if_neg h62]
  by_cases h43 : c = 43
  · rw [if_pos h43]; subst h43
    have ev : sVl 43 b = 43 := by unfold sVl; rw [if_neg (by (first | exact Nat.le_of_ble_eq_true rfl | exact (fun h => absurd h.1 (by decide)) | omega)), if_neg (by (first | exact Nat.le_of_ble_eq_true rfl | exact (fun h => absurd h.1 (by decide)) | omega)), if_neg (by (first | exact Nat.le_of_ble_eq_true rfl | exact (fun h => absurd h.1 (by decide)) | omega))]
    rw [ev]
    rw [ev] at mk
    exact ⟨mk 13 (by decide) (by decide) (key (by unfold sIn; (first | exact Nat.le_of_ble_eq_true rfl | exact (fun h => absurd h.1 (by decide)) | omega))) rfl, by decide⟩
  rw [if_neg h43]
  by_cases h45 : c = 45
  · rw [if_pos h45]; subst h45
    have ev : sVl 45 b = 45 := by unfold sVl; rw [if_neg (by (first | exact Nat.le_of_ble_eq_true rfl | exact (fun h => absurd h.1 (by decide)) | omega)), if_neg (by (first | exact Nat.le_of_ble_eq_true rfl | exact (fun h => absurd h.1 (by decide)) | omega)), if_neg (by (first | exact Nat.le_of_ble_eq_true rfl | exact (fun h => absurd h.1 (by decide)) | omega))]
    rw [ev]
    rw [ev] at mk
    exact ⟨mk 14 (by decide) (by decide) (key (by unfold sIn; (first | exact Nat.le_of_ble_eq_true rfl | exact (fun h => absurd h.1 (by decide)) | omega))) rfl, by decide⟩
  rw [if_neg h45]
  by_cases h42 : c = 42
  · rw [if_pos h42]; subst h42
    have ev : sVl 42 b = 42 := by unfold sVl; rw [if_neg (by (first | exact Nat.le_of_ble_eq_true rfl | exact (fun h => absurd h.1 (by decide)) | omega)), if_neg (by (first | exact Nat.le_of_ble_eq_true rfl | exact (fun h => absurd h.1 (by decide)) | omega)), if_neg (by (first | exact Nat.le_of_ble_eq_true rfl | exact (fun h => absurd h.1 (by decide)) | omega))]
    rw [ev]
    rw [ev] at mk
    exact ⟨mk 15 (by decide) (by decide) (key (by unfold sIn; (first | exact Nat.le_of_ble_eq_true rfl | exact (fun h => absurd h.1 (by decide)) | omega))) rfl, by decide⟩
  rw [if_neg h42]
  by_cases h47 : c = 47
  · rw [if_pos h47]; subst h47
    have ev : sVl 47 b = 47 := by unfold sVl; rw [if_neg (by (first | exact Nat.le_of_ble_eq_true rfl | exact (fun h => absurd h.1 (by decide)) | omega)), if_neg (by (first | exact Nat.le_of_ble_eq_true rfl | exact (fun h => absurd h.1 (by decide)) | omega)), if_neg (by (first | exact Nat.le_of_ble_eq_true rfl | exact (fun h => absurd h.1 (by decide)) | omega))]
    rw [ev]
    rw [ev] at mk
    exact ⟨mk 16 (by decide) (by decide) (key (by unfold sIn; (first | exact Nat.le_of_ble_eq_true rfl | exact (fun h => absurd h.1 (by decide)) | omega))) rfl, by decide⟩
  rw [if_neg h47]
  have ev : sVl c b = c := by unfold sVl; rw [if_neg (by (first | exact Nat.le_of_ble_eq_true rfl | exact (fun h => absurd h.1 (by decide)) | omega)), if_neg (by (first | exact Nat.le_of_ble_eq_true rfl | exact (fun h => absurd h.1 (by decide)) | omega)), if_neg (by (first | exact Nat.le_of_ble_eq_true rfl | exact (fun h => absurd h.1 (by decide)) | omega))]
  rw [ev, if_neg (show ¬ 256 ≤ c by (first | exact Nat.le_of_ble_eq_true rfl | exact (fun h => absurd h.1 (by decide)) | omega))]
  refine ⟨Or.inr (Or.inl ⟨rfl, ?_⟩), rfl⟩
  rcases hs with h' | h'
  · have := h'.1
    unfold sIn at this
    (first | exact Nat.le_of_ble_eq_true rfl | exact (fun h => absurd h.1 (by decide)) | omega)
  · exact h'.2
/-- what stands behind the sign -/
def rHb (mem : yMem) : Int := if w32 (mem 95 27) + 1 < w32 (mem 95 26) then w32 (mem 96 (w32 (mem 95 27) + 1).toNat) else -1
def SfI (mem m : yMem) (s : Int) : Prop := aFrm [(95, 28), (95, 30), (95, 31)] mem m ∧ w32 (m 95 27) = w32 (mem 95 27) + 1 ∧ w32 (m 95 29) = s
theorem sf150 {E : yE} (hE : yEok E) {d : Nat} {mem m : yMem} {Q : Option yV → yMem → Prop} {r1 : Option yV} {s : Int} (hs : w32 (mem 95 26) ≤ 800) (ha : 0 ≤ w32 (mem 95 27)) (ha2 : w32 (mem 95 27) < w32 (mem 95 26)) (hI : SfI mem m s) (fin : ∀ m', aFrm [(95, 28), (95, 30), (95, 31)] mem m' → w32 (m' 95 27) = w32 (mem 95 27) + (if 256 ≤ w32 (m 95 30) then 2 else 1) → w32 (m' 95 29) = s → w32 (m' 95 30) = w32 (m 95 30) → Q none m') : zG E (d + 1) xm_228 150 [some (1, 95), r1] [] m Q := by
  obtain ⟨h1, h2, h3⟩ := hI
  refine zgo_ok (n := 60) hE xmo_228 (cs := zc_228) ?_
  have e1 : w32 (m 95 27 + 1) = w32 (m 95 27) + 1 := by rw [w32_ad (by rw [w32c_1]; (first | exact Nat.le_of_ble_eq_true rfl | exact (fun h => absurd h.1 (by decide)) | omega)) (by rw [w32c_1]; (first | exact Nat.le_of_ble_eq_true rfl | exact (fun h => absurd h.1 (by decide)) | omega)), w32c_1]
  simp only [ynok_30, ynok_31, w32c_0, w32c_1, w32c_2, w32c_3, w32c_4, w32c_5, w32c_6, w32c_7, w32c_8, w32c_9, w32c_10, w32c_11, w32c_12, w32c_13, w32c_14, w32c_m1, w32c_m2, w32c_118, Int.reduceAdd, Int.reduceSub, Int.reduceMul, yput_s, yput_n, znl_n, znl_0, znl_1, znl_4, ysum_n, ysum_0, ysum_1, ysum_4, true_and, and_true, Nat.reduceAdd, Nat.reduceLeDiff, true_implies, eq_self, true_or, or_true, or_false, false_or, not_true_eq_false, not_false_eq_true, false_implies, implies_true, yset_s, yset_o, yset_d, ne_eq, Nat.reduceEqDiff, Int.reduceToNat, Int.reduceEq, Int.reduceLE, Int.reduceLT, Classical.not_not, Nat.reduceLT, ↓zvk_s, ↓zvk_n, ↓s_228_0, ↓s_228_1a, ↓s_228_1b, ↓s_228_2, ↓s_228_5, ↓s_228_6, ↓s_228_7, ↓s_228_10, ↓s_228_11, ↓s_228_12, ↓s_228_14, ↓s_228_17, ↓s_228_18, ↓s_228_20, ↓s_228_23, ↓s_228_24, ↓s_228_26, ↓s_228_29, ↓s_228_30, ↓s_228_32, ↓s_228_35, ↓s_228_36, ↓s_228_38, ↓s_228_41, ↓s_228_42, ↓s_228_44, ↓s_228_47, ↓s_228_48, ↓s_228_50, ↓s_228_53, ↓s_228_54, ↓s_228_56, ↓s_228_59, ↓s_228_60, ↓s_228_62, ↓s_228_65, ↓s_228_66, ↓s_228_68, ↓s_228_71, ↓s_228_72, ↓s_228_75, ↓s_228_76, ↓g_228_79, ↓k_228_79, ↓s_228_80, ↓s_228_81, ↓s_228_84, ↓s_228_85, ↓s_228_87, ↓s_228_90, ↓s_228_91, ↓s_228_94, ↓s_228_96, ↓s_228_99, ↓s_228_100, ↓s_228_103, ↓g_228_106, ↓k_228_106, ↓s_228_107, ↓s_228_109, ↓s_228_112, ↓s_228_113, ↓s_228_116, ↓s_228_118, ↓s_228_121, ↓s_228_122, ↓s_228_125, ↓g_228_128, ↓k_228_128, ↓s_228_129, ↓s_228_131, ↓s_228_134, ↓s_228_135, ↓s_228_138, ↓s_228_140, ↓s_228_143, ↓s_228_144, ↓s_228_147, ↓g_228_150, ↓k_228_150, ↓s_228_151, ↓s_228_154, ↓s_228_157, ↓s_228_160, ↓s_228_161a, ↓s_228_161b, ↓s_228_162, ↓s_228_165, ↓s_228_166, ↓s_228_167, ↓s_228_170, w32c_59, w32c_40, w32c_41, w32c_43, w32c_45, w32c_42, w32c_47, w32c_60, w32c_61, w32c_62, w32c_256, w32c_257, w32c_258, zio_95]
  refine ⟨fun h => fin m h1 ?_ h3 rfl, fun h => fin _ (aFrm_set h1 rfl) ?_ ?_ ?_⟩
  · rw [if_neg (by (first | exact Nat.le_of_ble_eq_true rfl | exact (fun h => absurd h.1 (by decide)) | omega)), h2]
  · rw [yset_s, e1, if_pos (by (first | exact Nat.le_of_ble_eq_true rfl | exact (fun h => absurd h.1 (by decide)) | omega)), h2]; (first | exact Nat.le_of_ble_eq_true rfl | exact (fun h => absurd h.1 (by decide)) | omega)
  · rw [yset_d (by decide)]; exact h3
  · rw [yset_d (by decide)]
theorem SfI_val {mem m : yMem} {s : Int} (hI : SfI mem m s) {v : Int} : SfI mem (yset m 95 30 v) s := ⟨aFrm_set hI.1 rfl, by rw [yset_d (by decide)]; exact hI.2.1, by rw [yset_d (by decide)]; exact hI.2.2⟩
theorem rHb1 {mem : yMem} {x : Int} (e27 : x = w32 (mem 95 27) + 1) (h : x < w32 (mem 95 26)) : rHb mem = w32 (mem 96 x.toNat) := by
  unfold rHb
  rw [if_pos (by (first | exact Nat.le_of_ble_eq_true rfl | exact (fun h => absurd h.1 (by decide)) | omega)), e27]
theorem rHb2 {mem : yMem} {x : Int} (e27 : x = w32 (mem 95 27) + 1) (h : w32 (mem 95 26) ≤ x) : rHb mem = -1 := by
  unfold rHb
  rw [if_neg (by (first | exact Nat.le_of_ble_eq_true rfl | exact (fun h => absurd h.1 (by decide)) | omega))]
def sv150 (_ _ v : Int) : Int := v
def sv128 (c b v : Int) : Int := if c = 62 ∧ b = 61 then 258 else v
def sv106 (c b v : Int) : Int := if c = 60 ∧ b = 62 then sv128 c b 257 else sv128 c b v
def sv79 (c b v : Int) : Int := if c = 60 ∧ b = 61 then sv106 c b 256 else sv106 c b v
theorem sv128_n {c b v : Int} (h : ¬ (c = 62 ∧ b = 61)) : sv128 c b v = sv150 c b v := if_neg h
theorem sv128_y {c b v : Int} (h : c = 62 ∧ b = 61) : sv128 c b v = sv150 c b (w32 258) := (if_pos h).trans (by first | (rw [show w32 258 = 258 by decide]; done) | (rw [show w32 258 = 258 by decide]; rfl))
theorem sv106_n {c b v : Int} (h : ¬ (c = 60 ∧ b = 62)) : sv106 c b v = sv128 c b v := if_neg h
theorem sv106_y {c b v : Int} (h : c = 60 ∧ b = 62) : sv106 c b v = sv128 c b (w32 257) := (if_pos h).trans (by first | (rw [show w32 257 = 257 by decide]; done) | (rw [show w32 257 = 257 by decide]; rfl))
theorem sv79_n {c b v : Int} (h : ¬ (c = 60 ∧ b = 61)) : sv79 c b v = sv106 c b v := if_neg h
theorem sv79_y {c b v : Int} (h : c = 60 ∧ b = 61) : sv79 c b v = sv106 c b (w32 256) := (if_pos h).trans (by first | (rw [show w32 256 = 256 by decide]; done) | (rw [show w32 256 = 256 by decide]; rfl))
theorem sf128 {E : yE} (hE : yEok E) {d : Nat} {mem m : yMem} {Q : Option yV → yMem → Prop} {c s : Int} (hs : w32 (mem 95 26) ≤ 800) (ha : 0 ≤ w32 (mem 95 27)) (ha2 : w32 (mem 95 27) < w32 (mem 95 26)) (hI : SfI mem m s) (fin : ∀ m', aFrm [(95, 28), (95, 30), (95, 31)] mem m' → w32 (m' 95 27) = w32 (mem 95 27) + (if 256 ≤ sv128 (w32 c) (rHb mem) (w32 (m 95 30)) then 2 else 1) → w32 (m' 95 29) = s → w32 (m' 95 30) = sv128 (w32 c) (rHb mem) (w32 (m 95 30)) → Q none m') : zG E (d + 1) xm_228 128 [some (1, 95), some (0, c)] [] m Q := by
  have e26 : m 95 26 = mem 95 26 := hI.1 95 26 rfl
  have e27 := hI.2.1
  have no : ¬ (w32 c = 62 ∧ rHb mem = 61) → zG E (d + 1) xm_228 150 [some (1, 95), some (0, c)] [] m Q := fun hn => sf150 hE hs ha ha2 hI (fun m' g1 g2 g3 g4 => fin m' g1 (by rw [sv128_n hn]; exact g2) g3 (by rw [sv128_n hn]; exact g4))
  have yes : w32 c = 62 ∧ rHb mem = 61 → zG E (d + 1) xm_228 150 [some (1, 95), some (0, c)] [] (yset m 95 30 258) Q := fun hy => sf150 hE hs ha ha2 (SfI_val hI) (fun m' g1 g2 g3 g4 => fin m' g1 (by rw [sv128_y hy]; rw [yset_s] at g2; exact g2) g3 (by rw [sv128_y hy]; rw [yset_s] at g4; exact g4))
  refine zgo_ok (n := 60) hE xmo_228 (cs := zc_228) ?_
  simp only [ynok_30, ynok_31, w32c_0, w32c_1, w32c_2, w32c_3, w32c_4, w32c_5, w32c_6, w32c_7, w32c_8, w32c_9, w32c_10, w32c_11, w32c_12, w32c_13, w32c_14, w32c_m1, w32c_m2, w32c_118, Int.reduceAdd, Int.reduceSub, Int.reduceMul, yput_s, yput_n, znl_n, znl_0, znl_1, znl_4, ysum_n, ysum_0, ysum_1, ysum_4, true_and, and_true, Nat.reduceAdd, Nat.reduceLeDiff, true_implies, eq_self, true_or, or_true, or_false, false_or, not_true_eq_false, not_false_eq_true, false_implies, implies_true, yset_s, yset_o, yset_d, ne_eq, Nat.reduceEqDiff, Int.reduceToNat, Int.reduceEq, Int.reduceLE, Int.reduceLT, Classical.not_not, Nat.reduceLT, ↓zvk_s, ↓zvk_n, ↓s_228_0, ↓s_228_1a, ↓s_228_1b, ↓s_228_2, ↓s_228_5, ↓s_228_6, ↓s_228_7, ↓s_228_10, ↓s_228_11, ↓s_228_12, ↓s_228_14, ↓s_228_17, ↓s_228_18, ↓s_228_20, ↓s_228_23, ↓s_228_24, ↓s_228_26, ↓s_228_29, ↓s_228_30, ↓s_228_32, ↓s_228_35, ↓s_228_36, ↓s_228_38, ↓s_228_41, ↓s_228_42, ↓s_228_44, ↓s_228_47, ↓s_228_48, ↓s_228_50, ↓s_228_53, ↓s_228_54, ↓s_228_56, ↓s_228_59, ↓s_228_60, ↓s_228_62, ↓s_228_65, ↓s_228_66, ↓s_228_68, ↓s_228_71, ↓s_228_72, ↓s_228_75, ↓s_228_76, ↓g_228_79, ↓k_228_79, ↓s_228_80, ↓s_228_81, ↓s_228_84, ↓s_228_85, ↓s_228_87, ↓s_228_90, ↓s_228_91, ↓s_228_94, ↓s_228_96, ↓s_228_99, ↓s_228_100, ↓s_228_103, ↓g_228_106, ↓k_228_106, ↓s_228_107, ↓s_228_109, ↓s_228_112, ↓s_228_113, ↓s_228_116, ↓s_228_118, ↓s_228_121, ↓s_228_122, ↓s_228_125, ↓g_228_128, ↓k_228_128, ↓s_228_129, ↓s_228_131, ↓s_228_134, ↓s_228_135, ↓s_228_138, ↓s_228_140, ↓s_228_143, ↓s_228_144, ↓s_228_147, ↓g_228_150, ↓k_228_150, ↓s_228_151, ↓s_228_154, ↓s_228_157, ↓s_228_160, ↓s_228_161a, ↓s_228_161b, ↓s_228_162, ↓s_228_165, ↓s_228_166, ↓s_228_167, ↓s_228_170, w32c_59, w32c_40, w32c_41, w32c_43, w32c_45, w32c_42, w32c_47, w32c_60, w32c_61, w32c_62, w32c_256, w32c_257, w32c_258, ↓s_178_0, ↓s_178_1, ↓s_178_4, ↓s_178_5, ↓s_178_8, ↓s_178_11, ↓s_178_12, ↓s_178_15, ↓s_178_16, ↓s_178_19, ↓s_178_20, ↓s_178_23, ↓s_178_24, zar_96, zia_96, zln_96, zit_96, zio_95]
  rw [e26, hI.1 96 _ rfl]
  exact ⟨fun h => no (fun z => h z.1), fun h => ⟨fun h2 => no (fun z => by have := rHb2 e27 h2; (first | exact Nat.le_of_ble_eq_true rfl | exact (fun h => absurd h.1 (by decide)) | omega)), fun h2 => ⟨⟨by (first | exact Nat.le_of_ble_eq_true rfl | exact (fun h => absurd h.1 (by decide)) | omega), by (first | exact Nat.le_of_ble_eq_true rfl | exact (fun h => absurd h.1 (by decide)) | omega)⟩, fun h3 => no (fun z => h3 (by rw [← rHb1 e27 (by (first | exact Nat.le_of_ble_eq_true rfl | exact (fun h => absurd h.1 (by decide)) | omega))]; exact z.2)), fun h3 => yes ⟨h, by rw [rHb1 e27 (by (first | exact Nat.le_of_ble_eq_true rfl | exact (fun h => absurd h.1 (by decide)) | omega))]; exact h3⟩⟩⟩⟩
theorem sf106 {E : yE} (hE : yEok E) {d : Nat} {mem m : yMem} {Q : Option yV → yMem → Prop} {c s : Int} (hs : w32 (mem 95 26) ≤ 800) (ha : 0 ≤ w32 (mem 95 27)) (ha2 : w32 (mem 95 27) < w32 (mem 95 26)) (hI : SfI mem m s) (fin : ∀ m', aFrm [(95, 28), (95, 30), (95, 31)] mem m' → w32 (m' 95 27) = w32 (mem 95 27) + (if 256 ≤ sv106 (w32 c) (rHb mem) (w32 (m 95 30)) then 2 else 1) → w32 (m' 95 29) = s → w32 (m' 95 30) = sv106 (w32 c) (rHb mem) (w32 (m 95 30)) → Q none m') : zG E (d + 1) xm_228 106 [some (1, 95), some (0, c)] [] m Q := by
  have e26 : m 95 26 = mem 95 26 := hI.1 95 26 rfl
  have e27 := hI.2.1
  have no : ¬ (w32 c = 60 ∧ rHb mem = 62) → zG E (d + 1) xm_228 128 [some (1, 95), some (0, c)] [] m Q := fun hn => sf128 hE hs ha ha2 hI (fun m' g1 g2 g3 g4 => fin m' g1 (by rw [sv106_n hn]; exact g2) g3 (by rw [sv106_n hn]; exact g4))
  have yes : w32 c = 60 ∧ rHb mem = 62 → zG E (d + 1) xm_228 128 [some (1, 95), some (0, c)] [] (yset m 95 30 257) Q := fun hy => sf128 hE hs ha ha2 (SfI_val hI) (fun m' g1 g2 g3 g4 => fin m' g1 (by rw [sv106_y hy]; rw [yset_s] at g2; exact g2) g3 (by rw [sv106_y hy]; rw [yset_s] at g4; exact g4))
  refine zgo_ok (n := 60) hE xmo_228 (cs := zc_228) ?_
  simp only [ynok_30, ynok_31, w32c_0, w32c_1, w32c_2, w32c_3, w32c_4, w32c_5, w32c_6, w32c_7, w32c_8, w32c_9, w32c_10, w32c_11, w32c_12, w32c_13, w32c_14, w32c_m1, w32c_m2, w32c_118, Int.reduceAdd, Int.reduceSub, Int.reduceMul, yput_s, yput_n, znl_n, znl_0, znl_1, znl_4, ysum_n, ysum_0, ysum_1, ysum_4, true_and, and_true, Nat.reduceAdd, Nat.reduceLeDiff, true_implies, eq_self, true_or, or_true, or_false, false_or, not_true_eq_false, not_false_eq_true, false_implies, implies_true, yset_s, yset_o, yset_d, ne_eq, Nat.reduceEqDiff, Int.reduceToNat, Int.reduceEq, Int.reduceLE, Int.reduceLT, Classical.not_not, Nat.reduceLT, ↓zvk_s, ↓zvk_n, ↓s_228_0, ↓s_228_1a, ↓s_228_1b, ↓s_228_2, ↓s_228_5, ↓s_228_6, ↓s_228_7, ↓s_228_10, ↓s_228_11, ↓s_228_12, ↓s_228_14, ↓s_228_17, ↓s_228_18, ↓s_228_20, ↓s_228_23, ↓s_228_24, ↓s_228_26, ↓s_228_29, ↓s_228_30, ↓s_228_32, ↓s_228_35, ↓s_228_36, ↓s_228_38, ↓s_228_41, ↓s_228_42, ↓s_228_44, ↓s_228_47, ↓s_228_48, ↓s_228_50, ↓s_228_53, ↓s_228_54, ↓s_228_56, ↓s_228_59, ↓s_228_60, ↓s_228_62, ↓s_228_65, ↓s_228_66, ↓s_228_68, ↓s_228_71, ↓s_228_72, ↓s_228_75, ↓s_228_76, ↓g_228_79, ↓k_228_79, ↓s_228_80, ↓s_228_81, ↓s_228_84, ↓s_228_85, ↓s_228_87, ↓s_228_90, ↓s_228_91, ↓s_228_94, ↓s_228_96, ↓s_228_99, ↓s_228_100, ↓s_228_103, ↓g_228_106, ↓k_228_106, ↓s_228_107, ↓s_228_109, ↓s_228_112, ↓s_228_113, ↓s_228_116, ↓s_228_118, ↓s_228_121, ↓s_228_122, ↓s_228_125, ↓g_228_128, ↓k_228_128, ↓s_228_129, ↓s_228_131, ↓s_228_134, ↓s_228_135, ↓s_228_138, ↓s_228_140, ↓s_228_143, ↓s_228_144, ↓s_228_147, ↓g_228_150, ↓k_228_150, ↓s_228_151, ↓s_228_154, ↓s_228_157, ↓s_228_160, ↓s_228_161a, ↓s_228_161b, ↓s_228_162, ↓s_228_165, ↓s_228_166, ↓s_228_167, ↓s_228_170, w32c_59, w32c_40, w32c_41, w32c_43, w32c_45, w32c_42, w32c_47, w32c_60, w32c_61, w32c_62, w32c_256, w32c_257, w32c_258, ↓s_178_0, ↓s_178_1, ↓s_178_4, ↓s_178_5, ↓s_178_8, ↓s_178_11, ↓s_178_12, ↓s_178_15, ↓s_178_16, ↓s_178_19, ↓s_178_20, ↓s_178_23, ↓s_178_24, zar_96, zia_96, zln_96, zit_96, zio_95]
  rw [e26, hI.1 96 _ rfl]
  exact ⟨fun h => no (fun z => h z.1), fun h => ⟨fun h2 => no (fun z => by have := rHb2 e27 h2; (first | exact Nat.le_of_ble_eq_true rfl | exact (fun h => absurd h.1 (by decide)) | omega)), fun h2 => ⟨⟨by (first | exact Nat.le_of_ble_eq_true rfl | exact (fun h => absurd h.1 (by decide)) | omega), by (first | exact Nat.le_of_ble_eq_true rfl | exact (fun h => absurd h.1 (by decide)) | omega)⟩, fun h3 => no (fun z => h3 (by rw [← rHb1 e27 (by (first | exact Nat.le_of_ble_eq_true rfl | exact (fun h => absurd h.1 (by decide)) | omega))]; exact z.2)), fun h3 => yes ⟨h, by rw [rHb1 e27 (by (first | exact Nat.le_of_ble_eq_true rfl | exact (fun h => absurd h.1 (by decide)) | omega))]; exact h3⟩⟩⟩⟩
theorem sv79_V {c b : Int} (hc : c ≤ 255) : sv79 c b c = sVl c b := by
  unfold sv79 sv106 sv128 sVl
  by_cases h1 : c = 60 ∧ b = 61
  · rw [if_pos h1, if_pos h1, if_neg (by (first | exact Nat.le_of_ble_eq_true rfl | exact (fun h => absurd h.1 (by decide)) | omega)), if_neg (by (first | exact Nat.le_of_ble_eq_true rfl | exact (fun h => absurd h.1 (by decide)) | omega))]
  · rw [if_neg h1, if_neg h1]
    by_cases h2 : c = 60 ∧ b = 62
    · rw [if_pos h2, if_pos h2, if_neg (by (first | exact Nat.le_of_ble_eq_true rfl | exact (fun h => absurd h.1 (by decide)) | omega))]
    · rw [if_neg h2, if_neg h2]
theorem sf79 {E : yE} (hE : yEok E) {d : Nat} {mem m : yMem} {Q : Option yV → yMem → Prop} {c s : Int} (hs : w32 (mem 95 26) ≤ 800) (ha : 0 ≤ w32 (mem 95 27)) (ha2 : w32 (mem 95 27) < w32 (mem 95 26)) (hI : SfI mem m s) (fin : ∀ m', aFrm [(95, 28), (95, 30), (95, 31)] mem m' → w32 (m' 95 27) = w32 (mem 95 27) + (if 256 ≤ sv79 (w32 c) (rHb mem) (w32 c) then 2 else 1) → w32 (m' 95 29) = s → w32 (m' 95 30) = sv79 (w32 c) (rHb mem) (w32 c) → Q none m') : zG E (d + 1) xm_228 79 [some (1, 95), some (0, c)] [] m Q := by
  have e26 : m 95 26 = mem 95 26 := hI.1 95 26 rfl
  have e27 := hI.2.1
  have hI2 : SfI mem (yset m 95 30 c) s := SfI_val hI
  have no : ¬ (w32 c = 60 ∧ rHb mem = 61) → zG E (d + 1) xm_228 106 [some (1, 95), some (0, c)] [] (yset m 95 30 c) Q := fun hn => sf106 hE hs ha ha2 hI2 (fun m' g1 g2 g3 g4 => fin m' g1 (by rw [sv79_n hn]; rw [yset_s] at g2; exact g2) g3 (by rw [sv79_n hn]; rw [yset_s] at g4; exact g4))
  have yes : w32 c = 60 ∧ rHb mem = 61 → zG E (d + 1) xm_228 106 [some (1, 95), some (0, c)] [] (yset (yset m 95 30 c) 95 30 256) Q := fun hy => sf106 hE hs ha ha2 (SfI_val hI2) (fun m' g1 g2 g3 g4 => fin m' g1 (by rw [sv79_y hy]; rw [yset_s] at g2; exact g2) g3 (by rw [sv79_y hy]; rw [yset_s] at g4; exact g4))
  refine zgo_ok (n := 60) hE xmo_228 (cs := zc_228) ?_
  simp only [ynok_30, ynok_31, w32c_0, w32c_1, w32c_2, w32c_3, w32c_4, w32c_5, w32c_6, w32c_7, w32c_8, w32c_9, w32c_10, w32c_11, w32c_12, w32c_13, w32c_14, w32c_m1, w32c_m2, w32c_118, Int.reduceAdd, Int.reduceSub, Int.reduceMul, yput_s, yput_n, znl_n, znl_0, znl_1, znl_4, ysum_n, ysum_0, ysum_1, ysum_4, true_and, and_true, Nat.reduceAdd, Nat.reduceLeDiff, true_implies, eq_self, true_or, or_true, or_false, false_or, not_true_eq_false, not_false_eq_true, false_implies, implies_true, yset_s, yset_o, yset_d, ne_eq, Nat.reduceEqDiff, Int.reduceToNat, Int.reduceEq, Int.reduceLE, Int.reduceLT, Classical.not_not, Nat.reduceLT, ↓zvk_s, ↓zvk_n, ↓s_228_0, ↓s_228_1a, ↓s_228_1b, ↓s_228_2, ↓s_228_5, ↓s_228_6, ↓s_228_7, ↓s_228_10, ↓s_228_11, ↓s_228_12, ↓s_228_14, ↓s_228_17, ↓s_228_18, ↓s_228_20, ↓s_228_23, ↓s_228_24, ↓s_228_26, ↓s_228_29, ↓s_228_30, ↓s_228_32, ↓s_228_35, ↓s_228_36, ↓s_228_38, ↓s_228_41, ↓s_228_42, ↓s_228_44, ↓s_228_47, ↓s_228_48, ↓s_228_50, ↓s_228_53, ↓s_228_54, ↓s_228_56, ↓s_228_59, ↓s_228_60, ↓s_228_62, ↓s_228_65, ↓s_228_66, ↓s_228_68, ↓s_228_71, ↓s_228_72, ↓s_228_75, ↓s_228_76, ↓g_228_79, ↓k_228_79, ↓s_228_80, ↓s_228_81, ↓s_228_84, ↓s_228_85, ↓s_228_87, ↓s_228_90, ↓s_228_91, ↓s_228_94, ↓s_228_96, ↓s_228_99, ↓s_228_100, ↓s_228_103, ↓g_228_106, ↓k_228_106, ↓s_228_107, ↓s_228_109, ↓s_228_112, ↓s_228_113, ↓s_228_116, ↓s_228_118, ↓s_228_121, ↓s_228_122, ↓s_228_125, ↓g_228_128, ↓k_228_128, ↓s_228_129, ↓s_228_131, ↓s_228_134, ↓s_228_135, ↓s_228_138, ↓s_228_140, ↓s_228_143, ↓s_228_144, ↓s_228_147, ↓g_228_150, ↓k_228_150, ↓s_228_151, ↓s_228_154, ↓s_228_157, ↓s_228_160, ↓s_228_161a, ↓s_228_161b, ↓s_228_162, ↓s_228_165, ↓s_228_166, ↓s_228_167, ↓s_228_170, w32c_59, w32c_40, w32c_41, w32c_43, w32c_45, w32c_42, w32c_47, w32c_60, w32c_61, w32c_62, w32c_256, w32c_257, w32c_258, ↓s_178_0, ↓s_178_1, ↓s_178_4, ↓s_178_5, ↓s_178_8, ↓s_178_11, ↓s_178_12, ↓s_178_15, ↓s_178_16, ↓s_178_19, ↓s_178_20, ↓s_178_23, ↓s_178_24, zar_96, zia_96, zln_96, zit_96, zio_95]
  rw [e26, hI.1 96 _ rfl]
  exact ⟨fun h => no (fun z => h z.1), fun h => ⟨fun h2 => no (fun z => by have := rHb2 e27 h2; (first | exact Nat.le_of_ble_eq_true rfl | exact (fun h => absurd h.1 (by decide)) | omega)), fun h2 => ⟨⟨by (first | exact Nat.le_of_ble_eq_true rfl | exact (fun h => absurd h.1 (by decide)) | omega), by (first | exact Nat.le_of_ble_eq_true rfl | exact (fun h => absurd h.1 (by decide)) | omega)⟩, fun h3 => no (fun z => h3 (by rw [← rHb1 e27 (by (first | exact Nat.le_of_ble_eq_true rfl | exact (fun h => absurd h.1 (by decide)) | omega))]; exact z.2)), fun h3 => yes ⟨h, by rw [rHb1 e27 (by (first | exact Nat.le_of_ble_eq_true rfl | exact (fun h => absurd h.1 (by decide)) | omega))]; exact h3⟩⟩⟩⟩
/-- behind sign -/
theorem f_sign {E : yE} (hE : yEok E) {D : Nat} (hD : 2 ≤ D) {mem : yMem} {Q : Option yV → yMem → Prop} {c : Int} (hs : w32 (mem 95 26) ≤ 800) (ha : 0 ≤ w32 (mem 95 27)) (ha2 : w32 (mem 95 27) < w32 (mem 95 26)) (hc : w32 c ≤ 255) (hQ : ∀ m, aFrm [(95, 28), (95, 30), (95, 31)] mem m → w32 (m 95 27) = w32 (mem 95 27) + ((sSg (w32 c) (if rat mem + 1 < rsz mem then rch mem (rat mem + 1) else 0)).2 : Int) → sRk (w32 (m 95 29)) (w32 (m 95 30)) (sSg (w32 c) (if rat mem + 1 < rsz mem then rch mem (rat mem + 1) else 0)).1 0 → Q none m) : yCon E D xm_228 [(1, 95), (0, c)] mem Q := by
  obtain ⟨d, rfl⟩ := Nat.exists_eq_add_of_le' hD
  refine e_228 ?_
  refine zvc_ok hE 80 zc_228 _ _ _ _ _ _ _ xmo_228 ?_
  have e1 : w32 (mem 95 27 + 1) = w32 (mem 95 27) + 1 := by rw [w32_ad (by rw [w32c_1]; (first | exact Nat.le_of_ble_eq_true rfl | exact (fun h => absurd h.1 (by decide)) | omega)) (by rw [w32c_1]; (first | exact Nat.le_of_ble_eq_true rfl | exact (fun h => absurd h.1 (by decide)) | omega)), w32c_1]
  have hb : rHb mem = (if rat mem + 1 < rsz mem then rch mem (rat mem + 1) else 0) ∨ (rHb mem = -1 ∧ (if rat mem + 1 < rsz mem then rch mem (rat mem + 1) else 0) = 0) := by
    have r1 : rat mem = (w32 (mem 95 27)).toNat := rfl
    have r2 : rsz mem = (w32 (mem 95 26)).toNat := rfl
    unfold rHb
    by_cases h : w32 (mem 95 27) + 1 < w32 (mem 95 26)
    · left
      rw [if_pos h, if_pos (by (first | exact Nat.le_of_ble_eq_true rfl | exact (fun h => absurd h.1 (by decide)) | omega)), show (w32 (mem 95 27) + 1).toNat = rat mem + 1 by (first | exact Nat.le_of_ble_eq_true rfl | exact (fun h => absurd h.1 (by decide)) | omega)]
    · right
      rw [if_neg h, if_neg (by (first | exact Nat.le_of_ble_eq_true rfl | exact (fun h => absurd h.1 (by decide)) | omega))]
      exact ⟨rfl, rfl⟩
  have fin : ∀ v s : Int, w32 v = s → ((sIn (w32 c) ∧ s = 3) ∨ (¬ sIn (w32 c) ∧ s = 5)) → zG E (d + 1) xm_228 79 [some (1, 95), some (0, c)] [] (yset (yset mem 95 27 (mem 95 27 + 1)) 95 29 v) Q := fun v s hv hsn =>
    sf79 (s := s) hE hs ha ha2 ⟨aFrm_set (aFrm_set aFrm_rf rfl) rfl, by rw [yset_d (by decide), yset_s, e1], by rw [yset_s]; exact hv⟩ (fun m' g1 g2 g3 g4 => by
      have sf := sg_fin hc hb hsn
      rw [sv79_V hc] at g2 g4
      refine hQ m' g1 ?_ ?_
      · rw [g2, sf.2]
      · rw [g3, g4]
        exact sf.1)
  have f3 : sIn (w32 c) → zG E (d + 1) xm_228 79 [some (1, 95), some (0, c)] [] (yset (yset mem 95 27 (mem 95 27 + 1)) 95 29 3) Q := fun h => fin 3 3 (by decide) (Or.inl ⟨h, rfl⟩)
  have f5 : ¬ sIn (w32 c) → zG E (d + 1) xm_228 79 [some (1, 95), some (0, c)] [] (yset (yset mem 95 27 (mem 95 27 + 1)) 95 29 5) Q := fun h => fin 5 5 (by decide) (Or.inr ⟨h, rfl⟩)
  simp only [ynok_30, ynok_31, w32c_0, w32c_1, w32c_2, w32c_3, w32c_4, w32c_5, w32c_6, w32c_7, w32c_8, w32c_9, w32c_10, w32c_11, w32c_12, w32c_13, w32c_14, w32c_m1, w32c_m2, w32c_118, Int.reduceAdd, Int.reduceSub, Int.reduceMul, yput_s, yput_n, znl_n, znl_0, znl_1, znl_4, ysum_n, ysum_0, ysum_1, ysum_4, true_and, and_true, Nat.reduceAdd, Nat.reduceLeDiff, true_implies, eq_self, true_or, or_true, or_false, false_or, not_true_eq_false, not_false_eq_true, false_implies, implies_true, yset_s, yset_o, yset_d, ne_eq, Nat.reduceEqDiff, Int.reduceToNat, Int.reduceEq, Int.reduceLE, Int.reduceLT, Classical.not_not, Nat.reduceLT, ↓zvk_s, ↓zvk_n, ↓s_228_0, ↓s_228_1a, ↓s_228_1b, ↓s_228_2, ↓s_228_5, ↓s_228_6, ↓s_228_7, ↓s_228_10, ↓s_228_11, ↓s_228_12, ↓s_228_14, ↓s_228_17, ↓s_228_18, ↓s_228_20, ↓s_228_23, ↓s_228_24, ↓s_228_26, ↓s_228_29, ↓s_228_30, ↓s_228_32, ↓s_228_35, ↓s_228_36, ↓s_228_38, ↓s_228_41, ↓s_228_42, ↓s_228_44, ↓s_228_47, ↓s_228_48, ↓s_228_50, ↓s_228_53, ↓s_228_54, ↓s_228_56, ↓s_228_59, ↓s_228_60, ↓s_228_62, ↓s_228_65, ↓s_228_66, ↓s_228_68, ↓s_228_71, ↓s_228_72, ↓s_228_75, ↓s_228_76, ↓g_228_79, ↓k_228_79, ↓s_228_80, ↓s_228_81, ↓s_228_84, ↓s_228_85, ↓s_228_87, ↓s_228_90, ↓s_228_91, ↓s_228_94, ↓s_228_96, ↓s_228_99, ↓s_228_100, ↓s_228_103, ↓g_228_106, ↓k_228_106, ↓s_228_107, ↓s_228_109, ↓s_228_112, ↓s_228_113, ↓s_228_116, ↓s_228_118, ↓s_228_121, ↓s_228_122, ↓s_228_125, ↓g_228_128, ↓k_228_128, ↓s_228_129, ↓s_228_131, ↓s_228_134, ↓s_228_135, ↓s_228_138, ↓s_228_140, ↓s_228_143, ↓s_228_144, ↓s_228_147, ↓g_228_150, ↓k_228_150, ↓s_228_151, ↓s_228_154, ↓s_228_157, ↓s_228_160, ↓s_228_161a, ↓s_228_161b, ↓s_228_162, ↓s_228_165, ↓s_228_166, ↓s_228_167, ↓s_228_170, w32c_59, w32c_40, w32c_41, w32c_43, w32c_45, w32c_42, w32c_47, w32c_60, w32c_61, w32c_62, w32c_256, w32c_257, w32c_258, ↓s_178_0, ↓s_178_1, ↓s_178_4, ↓s_178_5, ↓s_178_8, ↓s_178_11, ↓s_178_12, ↓s_178_15, ↓s_178_16, ↓s_178_19, ↓s_178_20, ↓s_178_23, ↓s_178_24, zar_96, zia_96, zln_96, zit_96, zio_95]
  repeat' first | exact f3 (by unfold sIn; (first | exact Nat.le_of_ble_eq_true rfl | exact (fun h => absurd h.1 (by decide)) | omega)) | exact f5 (by unfold sIn; (first | exact Nat.le_of_ble_eq_true rfl | exact (fun h => absurd h.1 (by decide)) | omega)) | refine And.intro ?_ ?_ | intro _
end
section
/-- what token does -/
abbrev tkF : List (Nat × Nat) := [(95, 28), (95, 29), (95, 30), (95, 31)]
/-- the token's first byte is behind the blanks -/
def TfI (mem m : yMem) (p : Nat) : Prop := aFrm tkF mem m ∧ sBk (rch mem) (rsz mem) (rat mem) p ∧ p < rsz mem ∧ w32 (m 95 28) = (p : Int)
section TF
variable {E : yE} {d : Nat} {mem m : yMem} {Q : Option yV → yMem → Prop} {r1 : Option yV} {p : Nat}
theorem tf_num (hE : yEok E) (hs : w32 (mem 95 26) ≤ 800) (ha : 0 ≤ w32 (mem 95 27)) (hp : 48 ≤ rch mem p ∧ rch mem p ≤ 57) (hQ : ∀ m k p v e, aFrm tkF mem m → sTk (rch mem) (rsz mem) (rat mem) k p v e → w32 (m 95 27) = (e : Int) → w32 (m 95 28) = (p : Int) → sRk (w32 (m 95 29)) (w32 (m 95 30)) k v → Q none m) : ∀ (c : Nat) (m : yMem) (x : Nat), rsz mem - x = c → TfI mem m p → w32 (m 95 27) = (x : Int) → p ≤ x → x ≤ rsz mem → (∀ j, p ≤ j → j < x → 48 ≤ rch mem j ∧ rch mem j ≤ 57) → w32 (m 95 29) = 2 → 0 ≤ w32 (m 95 30) → w32 (m 95 30) ≤ 999999 → min (w32 (m 95 30)) 100000 = sNm (rch mem) p (x - p) → zG E (d + 1) xm_244 162 [some (1, 95), r1] [] m Q := by
  have r2 : rsz mem = (w32 (mem 95 26)).toNat := rfl
  intro c
  induction c with
  | zero =>
    intro m x hc hI hx h1 h2 hA h29 hv0 hv1 hv
    obtain ⟨hF, hB, hpn, h28⟩ := hI
    refine zgo_ok (n := 60) hE xmo_244 (cs := zc_244) ?_
    have e26 : m 95 26 = mem 95 26 := hF 95 26 rfl
    simp only [ynok_30, ynok_31, w32c_0, w32c_1, w32c_2, w32c_3, w32c_4, w32c_5, w32c_6, w32c_7, w32c_8, w32c_9, w32c_10, w32c_11, w32c_12, w32c_13, w32c_14, w32c_m1, w32c_m2, w32c_118, Int.reduceAdd, Int.reduceSub, Int.reduceMul, yput_s, yput_n, znl_n, znl_0, znl_1, znl_4, ysum_n, ysum_0, ysum_1, ysum_4, true_and, and_true, Nat.reduceAdd, Nat.reduceLeDiff, true_implies, eq_self, true_or, or_true, or_false, false_or, not_true_eq_false, not_false_eq_true, false_implies, implies_true, yset_s, yset_o, yset_d, ne_eq, Nat.reduceEqDiff, Int.reduceToNat, Int.reduceEq, Int.reduceLE, Int.reduceLT, Classical.not_not, Nat.reduceLT, ↓zvk_s, ↓zvk_n, ↓g_244_0, ↓k_244_0, ↓s_244_1, ↓s_244_4, ↓s_244_6, ↓s_244_9, ↓s_244_10, ↓s_244_13, ↓s_244_15, ↓s_244_18, ↓s_244_19a, ↓s_244_19b, ↓s_244_20, ↓s_244_23, ↓s_244_24, ↓s_244_25, ↓s_244_28, ↓g_244_31, ↓k_244_31, ↓s_244_32, ↓s_244_33, ↓s_244_36, ↓s_244_39, ↓s_244_40, ↓s_244_43n, ↓s_244_43i, ↓s_244_43p, ↓s_244_44, ↓s_244_45, ↓s_244_46, ↓s_244_49, ↓s_244_50, ↓s_244_51, ↓s_244_54, ↓s_244_57, ↓s_244_58, ↓s_244_61, ↓g_244_64, ↓k_244_64, ↓s_244_65, ↓s_244_68, ↓s_244_71, ↓s_244_74, ↓s_244_75a, ↓s_244_75b, ↓s_244_76, ↓s_244_79, ↓s_244_80, ↓s_244_81, ↓s_244_84, ↓g_244_87, ↓k_244_87, ↓s_244_88, ↓s_244_89, ↓s_244_92, ↓s_244_95, ↓s_244_96, ↓s_244_97, ↓s_244_100, ↓s_244_101, ↓s_244_104, ↓s_244_105, ↓s_244_108, ↓s_244_109, ↓s_244_112, ↓s_244_113, ↓s_244_116, ↓s_244_117, ↓s_244_119, ↓s_244_122, ↓s_244_123, ↓s_244_126, ↓s_244_127, ↓s_244_130, ↓s_244_131, ↓s_244_134, ↓s_244_135, ↓s_244_138, ↓s_244_139, ↓s_244_142, ↓s_244_145, ↓s_244_146, ↓s_244_149, ↓s_244_152, ↓s_244_153, ↓s_244_154, ↓s_244_157, ↓s_244_158, ↓s_244_159, ↓g_244_162, ↓k_244_162, ↓s_244_163, ↓s_244_166, ↓s_244_169, ↓s_244_172, ↓s_244_173, ↓s_244_174, ↓s_244_177, ↓s_244_179, ↓s_244_182, ↓s_244_183, ↓s_244_186, ↓s_244_189, ↓s_244_191, ↓s_244_192, ↓s_244_195, ↓s_244_196, ↓s_244_197, ↓s_244_200, ↓s_244_201, ↓s_244_203, ↓s_244_204, ↓s_244_207, ↓s_244_208a, ↓s_244_208b, ↓s_244_209, ↓s_244_212, ↓s_244_213, ↓s_244_214, ↓s_244_217, ↓s_244_220, ↓s_244_221, ↓s_244_222, ↓s_244_225, w32c_32, w32c_99999, w32c_48, ↓s_178_0, ↓s_178_1, ↓s_178_4, ↓s_178_5, ↓s_178_8, ↓s_178_11, ↓s_178_12, ↓s_178_15, ↓s_178_16, ↓s_178_19, ↓s_178_20, ↓s_178_23, ↓s_178_24, ↓s_185_0, ↓s_185_1, ↓s_185_3, ↓s_185_6, ↓s_185_7, ↓s_185_9, ↓s_185_12, ↓s_185_13, ↓s_185_16, ↓s_185_17, w32c_57, zar_96, zia_96, zln_96, zit_96, zio_95]
    rw [e26, hx]
    refine ⟨fun _ => hQ m 2 p (sNm (rch mem) p (x - p)) x hF ⟨hB, Or.inr (Or.inr (Or.inl ⟨hpn, hp, ⟨h1, h2, hA, fun h => absurd h (by (first | exact Nat.le_of_ble_eq_true rfl | exact (fun h => absurd h.1 (by decide)) | omega))⟩, rfl, rfl⟩))⟩ hx h28 (Or.inr (Or.inr (Or.inl ⟨rfl, h29, hv0, hv⟩))), fun h => absurd (show w32 (mem 95 26) ≤ (x : Int) by (first | exact Nat.le_of_ble_eq_true rfl | exact (fun h => absurd h.1 (by decide)) | omega)) h⟩
  | succ c ih =>
    intro m x hc hI hx h1 h2 hA h29 hv0 hv1 hv
    have hI0 := hI
    obtain ⟨hF, hB, hpn, h28⟩ := hI
    have e26 : m 95 26 = mem 95 26 := hF 95 26 rfl
    have e1 : w32 (m 95 27 + 1) = (x : Int) + 1 := by rw [w32_ad (by rw [w32c_1]; (first | exact Nat.le_of_ble_eq_true rfl | exact (fun h => absurd h.1 (by decide)) | omega)) (by rw [w32c_1]; (first | exact Nat.le_of_ble_eq_true rfl | exact (fun h => absurd h.1 (by decide)) | omega)), w32c_1, hx]
    have fin : ¬ (48 ≤ rch mem x ∧ rch mem x ≤ 57) → Q none m := fun hn => hQ m 2 p (sNm (rch mem) p (x - p)) x hF ⟨hB, Or.inr (Or.inr (Or.inl ⟨hpn, hp, ⟨h1, h2, hA, fun _ => hn⟩, rfl, rfl⟩))⟩ hx h28 (Or.inr (Or.inr (Or.inl ⟨rfl, h29, hv0, hv⟩)))
    have go : ∀ v, 48 ≤ rch mem x → rch mem x ≤ 57 → 0 ≤ w32 v → w32 v ≤ 999999 → min (w32 v) 100000 = sNm (rch mem) p (x - p + 1) → zG E (d + 1) xm_244 162 [some (1, 95), r1] [] (yset (yset m 95 30 v) 95 27 (m 95 27 + 1)) Q := fun v g1 g2 g3 g4 g5 => by
      refine ih _ (x + 1) (by (first | exact Nat.le_of_ble_eq_true rfl | exact (fun h => absurd h.1 (by decide)) | omega)) ⟨aFrm_set (aFrm_set hF rfl) rfl, hB, hpn, by rw [yset_d (by decide), yset_d (by decide)]; exact h28⟩ (by rw [yset_s, e1]; (first | exact Nat.le_of_ble_eq_true rfl | exact (fun h => absurd h.1 (by decide)) | omega)) (by (first | exact Nat.le_of_ble_eq_true rfl | exact (fun h => absurd h.1 (by decide)) | omega)) (by (first | exact Nat.le_of_ble_eq_true rfl | exact (fun h => absurd h.1 (by decide)) | omega)) (fun j j1 j2 => ?_) (by rw [yset_d (by decide), yset_d (by decide)]; exact h29) (by rw [yset_d (by decide), yset_s]; exact g3) (by rw [yset_d (by decide), yset_s]; exact g4) (by rw [yset_d (by decide), yset_s, show x + 1 - p = x - p + 1 by (first | exact Nat.le_of_ble_eq_true rfl | exact (fun h => absurd h.1 (by decide)) | omega)]; exact g5)
      by_cases hj : j = x
      · subst hj; exact ⟨g1, g2⟩
      · exact hA j j1 (by (first | exact Nat.le_of_ble_eq_true rfl | exact (fun h => absurd h.1 (by decide)) | omega))
    have hst : sNm (rch mem) p (x - p + 1) = min (10 * sNm (rch mem) p (x - p) + (rch mem x - 48)) 100000 := by
      simp only [sNm]
      rw [show p + (x - p) = x by (first | exact Nat.le_of_ble_eq_true rfl | exact (fun h => absurd h.1 (by decide)) | omega)]
    refine zgo_ok (n := 60) hE xmo_244 (cs := zc_244) ?_
    simp only [ynok_30, ynok_31, w32c_0, w32c_1, w32c_2, w32c_3, w32c_4, w32c_5, w32c_6, w32c_7, w32c_8, w32c_9, w32c_10, w32c_11, w32c_12, w32c_13, w32c_14, w32c_m1, w32c_m2, w32c_118, Int.reduceAdd, Int.reduceSub, Int.reduceMul, yput_s, yput_n, znl_n, znl_0, znl_1, znl_4, ysum_n, ysum_0, ysum_1, ysum_4, true_and, and_true, Nat.reduceAdd, Nat.reduceLeDiff, true_implies, eq_self, true_or, or_true, or_false, false_or, not_true_eq_false, not_false_eq_true, false_implies, implies_true, yset_s, yset_o, yset_d, ne_eq, Nat.reduceEqDiff, Int.reduceToNat, Int.reduceEq, Int.reduceLE, Int.reduceLT, Classical.not_not, Nat.reduceLT, ↓zvk_s, ↓zvk_n, ↓g_244_0, ↓k_244_0, ↓s_244_1, ↓s_244_4, ↓s_244_6, ↓s_244_9, ↓s_244_10, ↓s_244_13, ↓s_244_15, ↓s_244_18, ↓s_244_19a, ↓s_244_19b, ↓s_244_20, ↓s_244_23, ↓s_244_24, ↓s_244_25, ↓s_244_28, ↓g_244_31, ↓k_244_31, ↓s_244_32, ↓s_244_33, ↓s_244_36, ↓s_244_39, ↓s_244_40, ↓s_244_43n, ↓s_244_43i, ↓s_244_43p, ↓s_244_44, ↓s_244_45, ↓s_244_46, ↓s_244_49, ↓s_244_50, ↓s_244_51, ↓s_244_54, ↓s_244_57, ↓s_244_58, ↓s_244_61, ↓g_244_64, ↓k_244_64, ↓s_244_65, ↓s_244_68, ↓s_244_71, ↓s_244_74, ↓s_244_75a, ↓s_244_75b, ↓s_244_76, ↓s_244_79, ↓s_244_80, ↓s_244_81, ↓s_244_84, ↓g_244_87, ↓k_244_87, ↓s_244_88, ↓s_244_89, ↓s_244_92, ↓s_244_95, ↓s_244_96, ↓s_244_97, ↓s_244_100, ↓s_244_101, ↓s_244_104, ↓s_244_105, ↓s_244_108, ↓s_244_109, ↓s_244_112, ↓s_244_113, ↓s_244_116, ↓s_244_117, ↓s_244_119, ↓s_244_122, ↓s_244_123, ↓s_244_126, ↓s_244_127, ↓s_244_130, ↓s_244_131, ↓s_244_134, ↓s_244_135, ↓s_244_138, ↓s_244_139, ↓s_244_142, ↓s_244_145, ↓s_244_146, ↓s_244_149, ↓s_244_152, ↓s_244_153, ↓s_244_154, ↓s_244_157, ↓s_244_158, ↓s_244_159, ↓g_244_162, ↓k_244_162, ↓s_244_163, ↓s_244_166, ↓s_244_169, ↓s_244_172, ↓s_244_173, ↓s_244_174, ↓s_244_177, ↓s_244_179, ↓s_244_182, ↓s_244_183, ↓s_244_186, ↓s_244_189, ↓s_244_191, ↓s_244_192, ↓s_244_195, ↓s_244_196, ↓s_244_197, ↓s_244_200, ↓s_244_201, ↓s_244_203, ↓s_244_204, ↓s_244_207, ↓s_244_208a, ↓s_244_208b, ↓s_244_209, ↓s_244_212, ↓s_244_213, ↓s_244_214, ↓s_244_217, ↓s_244_220, ↓s_244_221, ↓s_244_222, ↓s_244_225, w32c_32, w32c_99999, w32c_48, ↓s_178_0, ↓s_178_1, ↓s_178_4, ↓s_178_5, ↓s_178_8, ↓s_178_11, ↓s_178_12, ↓s_178_15, ↓s_178_16, ↓s_178_19, ↓s_178_20, ↓s_178_23, ↓s_178_24, ↓s_185_0, ↓s_185_1, ↓s_185_3, ↓s_185_6, ↓s_185_7, ↓s_185_9, ↓s_185_12, ↓s_185_13, ↓s_185_16, ↓s_185_17, w32c_57, zar_96, zia_96, zln_96, zit_96, zio_95]
    rw [e26, hx, hF 96 _ rfl, Int.toNat_natCast]
    have e48 : w32 48 = 48 := by decide
    have e10 : w32 (m 95 30) ≤ 99999 → w32 (10 * m 95 30) = 10 * w32 (m 95 30) := fun h => w32_k (by decide) (by (first | exact Nat.le_of_ble_eq_true rfl | exact (fun h => absurd h.1 (by decide)) | omega)) (by (first | exact Nat.le_of_ble_eq_true rfl | exact (fun h => absurd h.1 (by decide)) | omega))
    have ev : w32 (m 95 30) ≤ 99999 → 48 ≤ rch mem x → rch mem x ≤ 57 → w32 (10 * m 95 30 + mem 96 x - 48) = 10 * w32 (m 95 30) + (rch mem x - 48) := fun h g1 g2 => by
      have a1 : w32 (10 * m 95 30 + mem 96 x) = 10 * w32 (m 95 30) + rch mem x := by
        have := e10 h
        rw [w32_ad (by rw [this]; show _ ≤ _ + rch mem x; (first | exact Nat.le_of_ble_eq_true rfl | exact (fun h => absurd h.1 (by decide)) | omega)) (by rw [this]; show _ + rch mem x < _; (first | exact Nat.le_of_ble_eq_true rfl | exact (fun h => absurd h.1 (by decide)) | omega)), this]
      rw [w32_sb (by rw [a1, e48]; (first | exact Nat.le_of_ble_eq_true rfl | exact (fun h => absurd h.1 (by decide)) | omega)) (by rw [a1, e48]; (first | exact Nat.le_of_ble_eq_true rfl | exact (fun h => absurd h.1 (by decide)) | omega)), a1, e48]
      (first | exact Nat.le_of_ble_eq_true rfl | exact (fun h => absurd h.1 (by decide)) | omega)
    have rx : rch mem x = w32 (mem 96 x) := rfl
    refine ⟨fun h => absurd h (by (first | exact Nat.le_of_ble_eq_true rfl | exact (fun h => absurd h.1 (by decide)) | omega)), fun _ => ⟨⟨by (first | exact Nat.le_of_ble_eq_true rfl | exact (fun h => absurd h.1 (by decide)) | omega), by (first | exact Nat.le_of_ble_eq_true rfl | exact (fun h => absurd h.1 (by decide)) | omega)⟩, fun h => fin (fun z => by (first | exact Nat.le_of_ble_eq_true rfl | exact (fun h => absurd h.1 (by decide)) | omega)), fun h48 => ⟨fun h => fin (fun z => by (first | exact Nat.le_of_ble_eq_true rfl | exact (fun h => absurd h.1 (by decide)) | omega)), fun h57 => ⟨fun hle => ⟨fun h => absurd h (by (first | exact Nat.le_of_ble_eq_true rfl | exact (fun h => absurd h.1 (by decide)) | omega)), fun _ => ⟨⟨by (first | exact Nat.le_of_ble_eq_true rfl | exact (fun h => absurd h.1 (by decide)) | omega), by (first | exact Nat.le_of_ble_eq_true rfl | exact (fun h => absurd h.1 (by decide)) | omega)⟩, ?_⟩⟩, fun hgt => go _ (by (first | exact Nat.le_of_ble_eq_true rfl | exact (fun h => absurd h.1 (by decide)) | omega)) (by (first | exact Nat.le_of_ble_eq_true rfl | exact (fun h => absurd h.1 (by decide)) | omega)) hv0 hv1 (by rw [hst]; (first | exact Nat.le_of_ble_eq_true rfl | exact (fun h => absurd h.1 (by decide)) | omega))⟩⟩⟩⟩
    have := ev hle (by (first | exact Nat.le_of_ble_eq_true rfl | exact (fun h => absurd h.1 (by decide)) | omega)) (by (first | exact Nat.le_of_ble_eq_true rfl | exact (fun h => absurd h.1 (by decide)) | omega))
    exact go _ (by (first | exact Nat.le_of_ble_eq_true rfl | exact (fun h => absurd h.1 (by decide)) | omega)) (by (first | exact Nat.le_of_ble_eq_true rfl | exact (fun h => absurd h.1 (by decide)) | omega)) (by (first | exact Nat.le_of_ble_eq_true rfl | exact (fun h => absurd h.1 (by decide)) | omega)) (by (first | exact Nat.le_of_ble_eq_true rfl | exact (fun h => absurd h.1 (by decide)) | omega)) (by rw [hst]; (first | exact Nat.le_of_ble_eq_true rfl | exact (fun h => absurd h.1 (by decide)) | omega))
/-- behind a word's letters -/
theorem tf87 (hE : yEok E) (hs : w32 (mem 95 26) ≤ 800) (ha : 0 ≤ w32 (mem 95 27)) (hp : 97 ≤ rch mem p ∧ rch mem p ≤ 122) (hQ : ∀ m k p v e, aFrm tkF mem m → sTk (rch mem) (rsz mem) (rat mem) k p v e → w32 (m 95 27) = (e : Int) → w32 (m 95 28) = (p : Int) → sRk (w32 (m 95 29)) (w32 (m 95 30)) k v → Q none m) {x : Nat} (hI : TfI mem m p) (hx : w32 (m 95 27) = (x : Int)) (hR : sRn (rch mem) 97 122 (rsz mem) p x) : zG E (d + 5) xm_244 87 [some (1, 95), r1] [] m Q := by
  have r2 : rsz mem = (w32 (mem 95 26)).toNat := rfl
  obtain ⟨hF, hB, hpn, h28⟩ := hI
  have ech : rch m = rch mem := funext fun j => by show w32 (m 96 j) = w32 (mem 96 j); rw [hF 96 j rfl]
  have erp : rpl m = p := by show (w32 (m 95 28)).toNat = p; rw [h28]; exact Int.toNat_natCast p
  have era : rat m = x := by show (w32 (m 95 27)).toNat = x; rw [hx]; exact Int.toNat_natCast x
  have hx8 : x ≤ 800 := by have := hR.2.1; (first | exact Nat.le_of_ble_eq_true rfl | exact (fun h => absurd h.1 (by decide)) | omega)
  have fin : ∀ m' k v, aFrm tkF mem m' → m' 95 27 = m 95 27 → m' 95 28 = m 95 28 → ((p + 6 < x ∧ k = 1 ∧ v = 0) ∨ (x ≤ p + 6 ∧ k = sWk (sPk (rch mem) p x) ∧ v = sPk (rch mem) p x)) → sRk (w32 (m' 95 29)) (w32 (m' 95 30)) k v → Q none m' := fun m' k v g1 g2 g3 g4 g5 => hQ m' k p v x g1 ⟨hB, Or.inr (Or.inl ⟨hpn, hp, hR, g4⟩)⟩ (by rw [g2]; exact hx) (by rw [g3]; exact h28) g5
  refine zgo_ok (n := 60) hE xmo_244 (cs := zc_244) ?_
  simp only [ynok_30, ynok_31, w32c_0, w32c_1, w32c_2, w32c_3, w32c_4, w32c_5, w32c_6, w32c_7, w32c_8, w32c_9, w32c_10, w32c_11, w32c_12, w32c_13, w32c_14, w32c_m1, w32c_m2, w32c_118, Int.reduceAdd, Int.reduceSub, Int.reduceMul, yput_s, yput_n, znl_n, znl_0, znl_1, znl_4, ysum_n, ysum_0, ysum_1, ysum_4, true_and, and_true, Nat.reduceAdd, Nat.reduceLeDiff, true_implies, eq_self, true_or, or_true, or_false, false_or, not_true_eq_false, not_false_eq_true, false_implies, implies_true, yset_s, yset_o, yset_d, ne_eq, Nat.reduceEqDiff, Int.reduceToNat, Int.reduceEq, Int.reduceLE, Int.reduceLT, Classical.not_not, Nat.reduceLT, ↓zvk_s, ↓zvk_n, ↓g_244_0, ↓k_244_0, ↓s_244_1, ↓s_244_4, ↓s_244_6, ↓s_244_9, ↓s_244_10, ↓s_244_13, ↓s_244_15, ↓s_244_18, ↓s_244_19a, ↓s_244_19b, ↓s_244_20, ↓s_244_23, ↓s_244_24, ↓s_244_25, ↓s_244_28, ↓g_244_31, ↓k_244_31, ↓s_244_32, ↓s_244_33, ↓s_244_36, ↓s_244_39, ↓s_244_40, ↓s_244_43n, ↓s_244_43i, ↓s_244_43p, ↓s_244_44, ↓s_244_45, ↓s_244_46, ↓s_244_49, ↓s_244_50, ↓s_244_51, ↓s_244_54, ↓s_244_57, ↓s_244_58, ↓s_244_61, ↓g_244_64, ↓k_244_64, ↓s_244_65, ↓s_244_68, ↓s_244_71, ↓s_244_74, ↓s_244_75a, ↓s_244_75b, ↓s_244_76, ↓s_244_79, ↓s_244_80, ↓s_244_81, ↓s_244_84, ↓g_244_87, ↓k_244_87, ↓s_244_88, ↓s_244_89, ↓s_244_92, ↓s_244_95, ↓s_244_96, ↓s_244_97, ↓s_244_100, ↓s_244_101, ↓s_244_104, ↓s_244_105, ↓s_244_108, ↓s_244_109, ↓s_244_112, ↓s_244_113, ↓s_244_116, ↓s_244_117, ↓s_244_119, ↓s_244_122, ↓s_244_123, ↓s_244_126, ↓s_244_127, ↓s_244_130, ↓s_244_131, ↓s_244_134, ↓s_244_135, ↓s_244_138, ↓s_244_139, ↓s_244_142, ↓s_244_145, ↓s_244_146, ↓s_244_149, ↓s_244_152, ↓s_244_153, ↓s_244_154, ↓s_244_157, ↓s_244_158, ↓s_244_159, ↓g_244_162, ↓k_244_162, ↓s_244_163, ↓s_244_166, ↓s_244_169, ↓s_244_172, ↓s_244_173, ↓s_244_174, ↓s_244_177, ↓s_244_179, ↓s_244_182, ↓s_244_183, ↓s_244_186, ↓s_244_189, ↓s_244_191, ↓s_244_192, ↓s_244_195, ↓s_244_196, ↓s_244_197, ↓s_244_200, ↓s_244_201, ↓s_244_203, ↓s_244_204, ↓s_244_207, ↓s_244_208a, ↓s_244_208b, ↓s_244_209, ↓s_244_212, ↓s_244_213, ↓s_244_214, ↓s_244_217, ↓s_244_220, ↓s_244_221, ↓s_244_222, ↓s_244_225, w32c_32, w32c_99999, w32c_48, ↓s_178_0, ↓s_178_1, ↓s_178_4, ↓s_178_5, ↓s_178_8, ↓s_178_11, ↓s_178_12, ↓s_178_15, ↓s_178_16, ↓s_178_19, ↓s_178_20, ↓s_178_23, ↓s_178_24, ↓s_185_0, ↓s_185_1, ↓s_185_3, ↓s_185_6, ↓s_185_7, ↓s_185_9, ↓s_185_12, ↓s_185_13, ↓s_185_16, ↓s_185_17, w32c_57, zar_96, zia_96, zln_96, zit_96, zio_95]
  have fr : ∀ r s, aFrm tkF mem (yset (yset m 95 30 r) 95 29 s) := fun r s => aFrm_set (aFrm_set hF rfl) rfl
  have d27 : ∀ r s, yset (yset m 95 30 r) 95 29 s 95 27 = m 95 27 := fun r s => by rw [yset_d (by decide), yset_d (by decide)]
  have d28 : ∀ r s, yset (yset m 95 30 r) 95 29 s 95 28 = m 95 28 := fun r s => by rw [yset_d (by decide), yset_d (by decide)]
  have d30 : ∀ r s, yset (yset m 95 30 r) 95 29 s 95 30 = r := fun r s => by rw [yset_d (by decide), yset_s]
  have hle := hR.1
  refine f_word hE (by (first | exact Nat.le_of_ble_eq_true rfl | exact (fun h => absurd h.1 (by decide)) | omega)) (by (first | exact Nat.le_of_ble_eq_true rfl | exact (fun h => absurd h.1 (by decide)) | omega)) (by (first | exact Nat.le_of_ble_eq_true rfl | exact (fun h => absurd h.1 (by decide)) | omega)) (by (first | exact Nat.le_of_ble_eq_true rfl | exact (fun h => absurd h.1 (by decide)) | omega)) (fun w r hw hr hM => ?_) (fun hno => ?_)
  · rw [ech, erp, era] at hM
    obtain ⟨k1, k2⟩ := sWk_yes hle hR.2.2.1 hw hM
    have sp := sgm_ok w hw
    refine zgk_s hE xmo_244 60 zc_244 ?_
    simp only [ynok_30, ynok_31, w32c_0, w32c_1, w32c_2, w32c_3, w32c_4, w32c_5, w32c_6, w32c_7, w32c_8, w32c_9, w32c_10, w32c_11, w32c_12, w32c_13, w32c_14, w32c_m1, w32c_m2, w32c_118, Int.reduceAdd, Int.reduceSub, Int.reduceMul, yput_s, yput_n, znl_n, znl_0, znl_1, znl_4, ysum_n, ysum_0, ysum_1, ysum_4, true_and, and_true, Nat.reduceAdd, Nat.reduceLeDiff, true_implies, eq_self, true_or, or_true, or_false, false_or, not_true_eq_false, not_false_eq_true, false_implies, implies_true, yset_s, yset_o, yset_d, ne_eq, Nat.reduceEqDiff, Int.reduceToNat, Int.reduceEq, Int.reduceLE, Int.reduceLT, Classical.not_not, Nat.reduceLT, ↓zvk_s, ↓zvk_n, ↓g_244_0, ↓k_244_0, ↓s_244_1, ↓s_244_4, ↓s_244_6, ↓s_244_9, ↓s_244_10, ↓s_244_13, ↓s_244_15, ↓s_244_18, ↓s_244_19a, ↓s_244_19b, ↓s_244_20, ↓s_244_23, ↓s_244_24, ↓s_244_25, ↓s_244_28, ↓g_244_31, ↓k_244_31, ↓s_244_32, ↓s_244_33, ↓s_244_36, ↓s_244_39, ↓s_244_40, ↓s_244_43n, ↓s_244_43i, ↓s_244_43p, ↓s_244_44, ↓s_244_45, ↓s_244_46, ↓s_244_49, ↓s_244_50, ↓s_244_51, ↓s_244_54, ↓s_244_57, ↓s_244_58, ↓s_244_61, ↓g_244_64, ↓k_244_64, ↓s_244_65, ↓s_244_68, ↓s_244_71, ↓s_244_74, ↓s_244_75a, ↓s_244_75b, ↓s_244_76, ↓s_244_79, ↓s_244_80, ↓s_244_81, ↓s_244_84, ↓g_244_87, ↓k_244_87, ↓s_244_88, ↓s_244_89, ↓s_244_92, ↓s_244_95, ↓s_244_96, ↓s_244_97, ↓s_244_100, ↓s_244_101, ↓s_244_104, ↓s_244_105, ↓s_244_108, ↓s_244_109, ↓s_244_112, ↓s_244_113, ↓s_244_116, ↓s_244_117, ↓s_244_119, ↓s_244_122, ↓s_244_123, ↓s_244_126, ↓s_244_127, ↓s_244_130, ↓s_244_131, ↓s_244_134, ↓s_244_135, ↓s_244_138, ↓s_244_139, ↓s_244_142, ↓s_244_145, ↓s_244_146, ↓s_244_149, ↓s_244_152, ↓s_244_153, ↓s_244_154, ↓s_244_157, ↓s_244_158, ↓s_244_159, ↓g_244_162, ↓k_244_162, ↓s_244_163, ↓s_244_166, ↓s_244_169, ↓s_244_172, ↓s_244_173, ↓s_244_174, ↓s_244_177, ↓s_244_179, ↓s_244_182, ↓s_244_183, ↓s_244_186, ↓s_244_189, ↓s_244_191, ↓s_244_192, ↓s_244_195, ↓s_244_196, ↓s_244_197, ↓s_244_200, ↓s_244_201, ↓s_244_203, ↓s_244_204, ↓s_244_207, ↓s_244_208a, ↓s_244_208b, ↓s_244_209, ↓s_244_212, ↓s_244_213, ↓s_244_214, ↓s_244_217, ↓s_244_220, ↓s_244_221, ↓s_244_222, ↓s_244_225, w32c_32, w32c_99999, w32c_48, ↓s_178_0, ↓s_178_1, ↓s_178_4, ↓s_178_5, ↓s_178_8, ↓s_178_11, ↓s_178_12, ↓s_178_15, ↓s_178_16, ↓s_178_19, ↓s_178_20, ↓s_178_23, ↓s_178_24, ↓s_185_0, ↓s_185_1, ↓s_185_3, ↓s_185_6, ↓s_185_7, ↓s_185_9, ↓s_185_12, ↓s_185_13, ↓s_185_16, ↓s_185_17, w32c_57, zar_96, zia_96, zln_96, zit_96, zio_95]
    refine ⟨fun h => absurd h (by (first | exact Nat.le_of_ble_eq_true rfl | exact (fun h => absurd h.1 (by decide)) | omega)), fun _ => fin _ (17 + sPm w) (sPk (rch mem) p x) (fr r 0) (d27 r 0) (d28 r 0) (Or.inr ⟨k1, k2.symm, rfl⟩) (Or.inr (Or.inr (Or.inr (Or.inr (Or.inr ⟨by (first | exact Nat.le_of_ble_eq_true rfl | exact (fun h => absurd h.1 (by decide)) | omega), by (first | exact Nat.le_of_ble_eq_true rfl | exact (fun h => absurd h.1 (by decide)) | omega), by rw [yset_s]; decide, by rw [d30, hr, sp.2.2.1]⟩)))))⟩
  · rw [ech, erp, era] at hno
    refine zgk_s hE xmo_244 60 zc_244 ?_
    simp only [ynok_30, ynok_31, w32c_0, w32c_1, w32c_2, w32c_3, w32c_4, w32c_5, w32c_6, w32c_7, w32c_8, w32c_9, w32c_10, w32c_11, w32c_12, w32c_13, w32c_14, w32c_m1, w32c_m2, w32c_118, Int.reduceAdd, Int.reduceSub, Int.reduceMul, yput_s, yput_n, znl_n, znl_0, znl_1, znl_4, ysum_n, ysum_0, ysum_1, ysum_4, true_and, and_true, Nat.reduceAdd, Nat.reduceLeDiff, true_implies, eq_self, true_or, or_true, or_false, false_or, not_true_eq_false, not_false_eq_true, false_implies, implies_true, yset_s, yset_o, yset_d, ne_eq, Nat.reduceEqDiff, Int.reduceToNat, Int.reduceEq, Int.reduceLE, Int.reduceLT, Classical.not_not, Nat.reduceLT, ↓zvk_s, ↓zvk_n, ↓g_244_0, ↓k_244_0, ↓s_244_1, ↓s_244_4, ↓s_244_6, ↓s_244_9, ↓s_244_10, ↓s_244_13, ↓s_244_15, ↓s_244_18, ↓s_244_19a, ↓s_244_19b, ↓s_244_20, ↓s_244_23, ↓s_244_24, ↓s_244_25, ↓s_244_28, ↓g_244_31, ↓k_244_31, ↓s_244_32, ↓s_244_33, ↓s_244_36, ↓s_244_39, ↓s_244_40, ↓s_244_43n, ↓s_244_43i, ↓s_244_43p, ↓s_244_44, ↓s_244_45, ↓s_244_46, ↓s_244_49, ↓s_244_50, ↓s_244_51, ↓s_244_54, ↓s_244_57, ↓s_244_58, ↓s_244_61, ↓g_244_64, ↓k_244_64, ↓s_244_65, ↓s_244_68, ↓s_244_71, ↓s_244_74, ↓s_244_75a, ↓s_244_75b, ↓s_244_76, ↓s_244_79, ↓s_244_80, ↓s_244_81, ↓s_244_84, ↓g_244_87, ↓k_244_87, ↓s_244_88, ↓s_244_89, ↓s_244_92, ↓s_244_95, ↓s_244_96, ↓s_244_97, ↓s_244_100, ↓s_244_101, ↓s_244_104, ↓s_244_105, ↓s_244_108, ↓s_244_109, ↓s_244_112, ↓s_244_113, ↓s_244_116, ↓s_244_117, ↓s_244_119, ↓s_244_122, ↓s_244_123, ↓s_244_126, ↓s_244_127, ↓s_244_130, ↓s_244_131, ↓s_244_134, ↓s_244_135, ↓s_244_138, ↓s_244_139, ↓s_244_142, ↓s_244_145, ↓s_244_146, ↓s_244_149, ↓s_244_152, ↓s_244_153, ↓s_244_154, ↓s_244_157, ↓s_244_158, ↓s_244_159, ↓g_244_162, ↓k_244_162, ↓s_244_163, ↓s_244_166, ↓s_244_169, ↓s_244_172, ↓s_244_173, ↓s_244_174, ↓s_244_177, ↓s_244_179, ↓s_244_182, ↓s_244_183, ↓s_244_186, ↓s_244_189, ↓s_244_191, ↓s_244_192, ↓s_244_195, ↓s_244_196, ↓s_244_197, ↓s_244_200, ↓s_244_201, ↓s_244_203, ↓s_244_204, ↓s_244_207, ↓s_244_208a, ↓s_244_208b, ↓s_244_209, ↓s_244_212, ↓s_244_213, ↓s_244_214, ↓s_244_217, ↓s_244_220, ↓s_244_221, ↓s_244_222, ↓s_244_225, w32c_32, w32c_99999, w32c_48, ↓s_178_0, ↓s_178_1, ↓s_178_4, ↓s_178_5, ↓s_178_8, ↓s_178_11, ↓s_178_12, ↓s_178_15, ↓s_178_16, ↓s_178_19, ↓s_178_20, ↓s_178_23, ↓s_178_24, ↓s_185_0, ↓s_185_1, ↓s_185_3, ↓s_185_6, ↓s_185_7, ↓s_185_9, ↓s_185_12, ↓s_185_13, ↓s_185_16, ↓s_185_17, w32c_57, zar_96, zia_96, zln_96, zit_96, zio_95]
    have e6 : w32 (m 95 27 - m 95 28) = (x : Int) - (p : Int) := by rw [w32_sb (by (first | exact Nat.le_of_ble_eq_true rfl | exact (fun h => absurd h.1 (by decide)) | omega)) (by (first | exact Nat.le_of_ble_eq_true rfl | exact (fun h => absurd h.1 (by decide)) | omega)), hx, h28]
    rw [e6]
    refine ⟨fun h6 => ?_, fun h6 => fin _ 1 0 (fr (-1) 5) (d27 (-1) 5) (d28 (-1) 5) (Or.inl ⟨by (first | exact Nat.le_of_ble_eq_true rfl | exact (fun h => absurd h.1 (by decide)) | omega), rfl, rfl⟩) (Or.inr (Or.inl ⟨rfl, by rw [yset_s]; decide⟩))⟩
    have gch : rch (yset (yset m 95 30 (-1)) 95 29 1) = rch mem := funext fun j => by show w32 (yset (yset m 95 30 (-1)) 95 29 1 96 j) = w32 (mem 96 j); rw [fr (-1) 1 96 j rfl]
    have grp : rpl (yset (yset m 95 30 (-1)) 95 29 1) = p := by show (w32 (yset (yset m 95 30 (-1)) 95 29 1 95 28)).toNat = p; rw [d28, h28]; exact Int.toNat_natCast p
    have gra : rat (yset (yset m 95 30 (-1)) 95 29 1) = x := by show (w32 (yset (yset m 95 30 (-1)) 95 29 1 95 27)).toNat = x; rw [d27, hx]; exact Int.toNat_natCast x
    refine f_name hE (by (first | exact Nat.le_of_ble_eq_true rfl | exact (fun h => absurd h.1 (by decide)) | omega)) (by rw [d28]; (first | exact Nat.le_of_ble_eq_true rfl | exact (fun h => absurd h.1 (by decide)) | omega)) (by rw [d28, d27]; (first | exact Nat.le_of_ble_eq_true rfl | exact (fun h => absurd h.1 (by decide)) | omega)) (by rw [d27]; (first | exact Nat.le_of_ble_eq_true rfl | exact (fun h => absurd h.1 (by decide)) | omega)) (by rw [gch, grp, gra]; exact hR.2.2.1) (fun m2 hF2 hv2 => ?_)
    rw [gch, grp, gra] at hv2
    refine zgk_n hE xmo_244 60 zc_244 ?_
    simp only [ynok_30, ynok_31, w32c_0, w32c_1, w32c_2, w32c_3, w32c_4, w32c_5, w32c_6, w32c_7, w32c_8, w32c_9, w32c_10, w32c_11, w32c_12, w32c_13, w32c_14, w32c_m1, w32c_m2, w32c_118, Int.reduceAdd, Int.reduceSub, Int.reduceMul, yput_s, yput_n, znl_n, znl_0, znl_1, znl_4, ysum_n, ysum_0, ysum_1, ysum_4, true_and, and_true, Nat.reduceAdd, Nat.reduceLeDiff, true_implies, eq_self, true_or, or_true, or_false, false_or, not_true_eq_false, not_false_eq_true, false_implies, implies_true, yset_s, yset_o, yset_d, ne_eq, Nat.reduceEqDiff, Int.reduceToNat, Int.reduceEq, Int.reduceLE, Int.reduceLT, Classical.not_not, Nat.reduceLT, ↓zvk_s, ↓zvk_n, ↓g_244_0, ↓k_244_0, ↓s_244_1, ↓s_244_4, ↓s_244_6, ↓s_244_9, ↓s_244_10, ↓s_244_13, ↓s_244_15, ↓s_244_18, ↓s_244_19a, ↓s_244_19b, ↓s_244_20, ↓s_244_23, ↓s_244_24, ↓s_244_25, ↓s_244_28, ↓g_244_31, ↓k_244_31, ↓s_244_32, ↓s_244_33, ↓s_244_36, ↓s_244_39, ↓s_244_40, ↓s_244_43n, ↓s_244_43i, ↓s_244_43p, ↓s_244_44, ↓s_244_45, ↓s_244_46, ↓s_244_49, ↓s_244_50, ↓s_244_51, ↓s_244_54, ↓s_244_57, ↓s_244_58, ↓s_244_61, ↓g_244_64, ↓k_244_64, ↓s_244_65, ↓s_244_68, ↓s_244_71, ↓s_244_74, ↓s_244_75a, ↓s_244_75b, ↓s_244_76, ↓s_244_79, ↓s_244_80, ↓s_244_81, ↓s_244_84, ↓g_244_87, ↓k_244_87, ↓s_244_88, ↓s_244_89, ↓s_244_92, ↓s_244_95, ↓s_244_96, ↓s_244_97, ↓s_244_100, ↓s_244_101, ↓s_244_104, ↓s_244_105, ↓s_244_108, ↓s_244_109, ↓s_244_112, ↓s_244_113, ↓s_244_116, ↓s_244_117, ↓s_244_119, ↓s_244_122, ↓s_244_123, ↓s_244_126, ↓s_244_127, ↓s_244_130, ↓s_244_131, ↓s_244_134, ↓s_244_135, ↓s_244_138, ↓s_244_139, ↓s_244_142, ↓s_244_145, ↓s_244_146, ↓s_244_149, ↓s_244_152, ↓s_244_153, ↓s_244_154, ↓s_244_157, ↓s_244_158, ↓s_244_159, ↓g_244_162, ↓k_244_162, ↓s_244_163, ↓s_244_166, ↓s_244_169, ↓s_244_172, ↓s_244_173, ↓s_244_174, ↓s_244_177, ↓s_244_179, ↓s_244_182, ↓s_244_183, ↓s_244_186, ↓s_244_189, ↓s_244_191, ↓s_244_192, ↓s_244_195, ↓s_244_196, ↓s_244_197, ↓s_244_200, ↓s_244_201, ↓s_244_203, ↓s_244_204, ↓s_244_207, ↓s_244_208a, ↓s_244_208b, ↓s_244_209, ↓s_244_212, ↓s_244_213, ↓s_244_214, ↓s_244_217, ↓s_244_220, ↓s_244_221, ↓s_244_222, ↓s_244_225, w32c_32, w32c_99999, w32c_48, ↓s_178_0, ↓s_178_1, ↓s_178_4, ↓s_178_5, ↓s_178_8, ↓s_178_11, ↓s_178_12, ↓s_178_15, ↓s_178_16, ↓s_178_19, ↓s_178_20, ↓s_178_23, ↓s_178_24, ↓s_185_0, ↓s_185_1, ↓s_185_3, ↓s_185_6, ↓s_185_7, ↓s_185_9, ↓s_185_12, ↓s_185_13, ↓s_185_16, ↓s_185_17, w32c_57, zar_96, zia_96, zln_96, zit_96, zio_95]
    refine fin m2 3 (sPk (rch mem) p x) (fun i j hij => ?_) (by rw [hF2 95 27 rfl, d27]) (by rw [hF2 95 28 rfl, d28]) (Or.inr ⟨by (first | exact Nat.le_of_ble_eq_true rfl | exact (fun h => absurd h.1 (by decide)) | omega), (sWk_no hle (by (first | exact Nat.le_of_ble_eq_true rfl | exact (fun h => absurd h.1 (by decide)) | omega)) hR.2.2.1 hno).symm, rfl⟩) (Or.inr (Or.inr (Or.inr (Or.inl ⟨rfl, by rw [hF2 95 29 rfl, yset_s]; decide, hv2⟩))))
    rw [hF2 i j, fr (-1) 1 i j hij]
    revert hij
    simp only [amod, Bool.or_eq_false_iff]
    intro hij
    exact hij.2.2.2
theorem tf_let (hE : yEok E) (hs : w32 (mem 95 26) ≤ 800) (ha : 0 ≤ w32 (mem 95 27)) (hp : 97 ≤ rch mem p ∧ rch mem p ≤ 122) (hQ : ∀ m k p v e, aFrm tkF mem m → sTk (rch mem) (rsz mem) (rat mem) k p v e → w32 (m 95 27) = (e : Int) → w32 (m 95 28) = (p : Int) → sRk (w32 (m 95 29)) (w32 (m 95 30)) k v → Q none m) : ∀ (c : Nat) (m : yMem) (x : Nat), rsz mem - x = c → TfI mem m p → w32 (m 95 27) = (x : Int) → p ≤ x → x ≤ rsz mem → (∀ j, p ≤ j → j < x → 97 ≤ rch mem j ∧ rch mem j ≤ 122) → zG E (d + 5) xm_244 64 [some (1, 95), r1] [] m Q := by
  have r2 : rsz mem = (w32 (mem 95 26)).toNat := rfl
  intro c
  induction c with
  | zero =>
    intro m x hc hI hx h1 h2 hA
    have fin := tf87 (d := d) (r1 := r1) hE hs ha hp hQ hI hx ⟨h1, h2, hA, fun h => absurd h (by (first | exact Nat.le_of_ble_eq_true rfl | exact (fun h => absurd h.1 (by decide)) | omega))⟩
    obtain ⟨hF, hB, hpn, h28⟩ := hI
    refine zgo_ok (n := 60) hE xmo_244 (cs := zc_244) ?_
    have e26 : m 95 26 = mem 95 26 := hF 95 26 rfl
    simp only [ynok_30, ynok_31, w32c_0, w32c_1, w32c_2, w32c_3, w32c_4, w32c_5, w32c_6, w32c_7, w32c_8, w32c_9, w32c_10, w32c_11, w32c_12, w32c_13, w32c_14, w32c_m1, w32c_m2, w32c_118, Int.reduceAdd, Int.reduceSub, Int.reduceMul, yput_s, yput_n, znl_n, znl_0, znl_1, znl_4, ysum_n, ysum_0, ysum_1, ysum_4, true_and, and_true, Nat.reduceAdd, Nat.reduceLeDiff, true_implies, eq_self, true_or, or_true, or_false, false_or, not_true_eq_false, not_false_eq_true, false_implies, implies_true, yset_s, yset_o, yset_d, ne_eq, Nat.reduceEqDiff, Int.reduceToNat, Int.reduceEq, Int.reduceLE, Int.reduceLT, Classical.not_not, Nat.reduceLT, ↓zvk_s, ↓zvk_n, ↓g_244_0, ↓k_244_0, ↓s_244_1, ↓s_244_4, ↓s_244_6, ↓s_244_9, ↓s_244_10, ↓s_244_13, ↓s_244_15, ↓s_244_18, ↓s_244_19a, ↓s_244_19b, ↓s_244_20, ↓s_244_23, ↓s_244_24, ↓s_244_25, ↓s_244_28, ↓g_244_31, ↓k_244_31, ↓s_244_32, ↓s_244_33, ↓s_244_36, ↓s_244_39, ↓s_244_40, ↓s_244_43n, ↓s_244_43i, ↓s_244_43p, ↓s_244_44, ↓s_244_45, ↓s_244_46, ↓s_244_49, ↓s_244_50, ↓s_244_51, ↓s_244_54, ↓s_244_57, ↓s_244_58, ↓s_244_61, ↓g_244_64, ↓k_244_64, ↓s_244_65, ↓s_244_68, ↓s_244_71, ↓s_244_74, ↓s_244_75a, ↓s_244_75b, ↓s_244_76, ↓s_244_79, ↓s_244_80, ↓s_244_81, ↓s_244_84, ↓g_244_87, ↓k_244_87, ↓s_244_88, ↓s_244_89, ↓s_244_92, ↓s_244_95, ↓s_244_96, ↓s_244_97, ↓s_244_100, ↓s_244_101, ↓s_244_104, ↓s_244_105, ↓s_244_108, ↓s_244_109, ↓s_244_112, ↓s_244_113, ↓s_244_116, ↓s_244_117, ↓s_244_119, ↓s_244_122, ↓s_244_123, ↓s_244_126, ↓s_244_127, ↓s_244_130, ↓s_244_131, ↓s_244_134, ↓s_244_135, ↓s_244_138, ↓s_244_139, ↓s_244_142, ↓s_244_145, ↓s_244_146, ↓s_244_149, ↓s_244_152, ↓s_244_153, ↓s_244_154, ↓s_244_157, ↓s_244_158, ↓s_244_159, ↓g_244_162, ↓k_244_162, ↓s_244_163, ↓s_244_166, ↓s_244_169, ↓s_244_172, ↓s_244_173, ↓s_244_174, ↓s_244_177, ↓s_244_179, ↓s_244_182, ↓s_244_183, ↓s_244_186, ↓s_244_189, ↓s_244_191, ↓s_244_192, ↓s_244_195, ↓s_244_196, ↓s_244_197, ↓s_244_200, ↓s_244_201, ↓s_244_203, ↓s_244_204, ↓s_244_207, ↓s_244_208a, ↓s_244_208b, ↓s_244_209, ↓s_244_212, ↓s_244_213, ↓s_244_214, ↓s_244_217, ↓s_244_220, ↓s_244_221, ↓s_244_222, ↓s_244_225, w32c_32, w32c_99999, w32c_48, ↓s_178_0, ↓s_178_1, ↓s_178_4, ↓s_178_5, ↓s_178_8, ↓s_178_11, ↓s_178_12, ↓s_178_15, ↓s_178_16, ↓s_178_19, ↓s_178_20, ↓s_178_23, ↓s_178_24, ↓s_192_0, ↓s_192_1, ↓s_192_3, ↓s_192_6, ↓s_192_7, ↓s_192_9, ↓s_192_12, ↓s_192_13, ↓s_192_16, ↓s_192_17, w32c_97, w32c_122, zar_96, zia_96, zln_96, zit_96, zio_95]
    rw [e26, hx]
    exact ⟨fun _ => fin, fun h => absurd (show w32 (mem 95 26) ≤ (x : Int) by (first | exact Nat.le_of_ble_eq_true rfl | exact (fun h => absurd h.1 (by decide)) | omega)) h⟩
  | succ c ih =>
    intro m x hc hI hx h1 h2 hA
    have hI0 := hI
    obtain ⟨hF, hB, hpn, h28⟩ := hI
    have e26 : m 95 26 = mem 95 26 := hF 95 26 rfl
    have e1 : w32 (m 95 27 + 1) = (x : Int) + 1 := by rw [w32_ad (by rw [w32c_1]; (first | exact Nat.le_of_ble_eq_true rfl | exact (fun h => absurd h.1 (by decide)) | omega)) (by rw [w32c_1]; (first | exact Nat.le_of_ble_eq_true rfl | exact (fun h => absurd h.1 (by decide)) | omega)), w32c_1, hx]
    have fin : ¬ (97 ≤ rch mem x ∧ rch mem x ≤ 122) → zG E (d + 5) xm_244 87 [some (1, 95), r1] [] m Q := fun hn => tf87 hE hs ha hp hQ hI0 hx ⟨h1, h2, hA, fun _ => hn⟩
    have go : 97 ≤ rch mem x → rch mem x ≤ 122 → zG E (d + 5) xm_244 64 [some (1, 95), r1] [] (yset m 95 27 (m 95 27 + 1)) Q := fun g1 g2 => by
      refine ih _ (x + 1) (by (first | exact Nat.le_of_ble_eq_true rfl | exact (fun h => absurd h.1 (by decide)) | omega)) ⟨aFrm_set hF rfl, hB, hpn, by rw [yset_d (by decide)]; exact h28⟩ (by rw [yset_s, e1]; (first | exact Nat.le_of_ble_eq_true rfl | exact (fun h => absurd h.1 (by decide)) | omega)) (by (first | exact Nat.le_of_ble_eq_true rfl | exact (fun h => absurd h.1 (by decide)) | omega)) (by (first | exact Nat.le_of_ble_eq_true rfl | exact (fun h => absurd h.1 (by decide)) | omega)) (fun j j1 j2 => ?_)
      by_cases hj : j = x
      · subst hj; exact ⟨g1, g2⟩
      · exact hA j j1 (by (first | exact Nat.le_of_ble_eq_true rfl | exact (fun h => absurd h.1 (by decide)) | omega))
    refine zgo_ok (n := 60) hE xmo_244 (cs := zc_244) ?_
    simp only [ynok_30, ynok_31, w32c_0, w32c_1, w32c_2, w32c_3, w32c_4, w32c_5, w32c_6, w32c_7, w32c_8, w32c_9, w32c_10, w32c_11, w32c_12, w32c_13, w32c_14, w32c_m1, w32c_m2, w32c_118, Int.reduceAdd, Int.reduceSub, Int.reduceMul, yput_s, yput_n, znl_n, znl_0, znl_1, znl_4, ysum_n, ysum_0, ysum_1, ysum_4, true_and, and_true, Nat.reduceAdd, Nat.reduceLeDiff, true_implies, eq_self, true_or, or_true, or_false, false_or, not_true_eq_false, not_false_eq_true, false_implies, implies_true, yset_s, yset_o, yset_d, ne_eq, Nat.reduceEqDiff, Int.reduceToNat, Int.reduceEq, Int.reduceLE, Int.reduceLT, Classical.not_not, Nat.reduceLT, ↓zvk_s, ↓zvk_n, ↓g_244_0, ↓k_244_0, ↓s_244_1, ↓s_244_4, ↓s_244_6, ↓s_244_9, ↓s_244_10, ↓s_244_13, ↓s_244_15, ↓s_244_18, ↓s_244_19a, ↓s_244_19b, ↓s_244_20, ↓s_244_23, ↓s_244_24, ↓s_244_25, ↓s_244_28, ↓g_244_31, ↓k_244_31, ↓s_244_32, ↓s_244_33, ↓s_244_36, ↓s_244_39, ↓s_244_40, ↓s_244_43n, ↓s_244_43i, ↓s_244_43p, ↓s_244_44, ↓s_244_45, ↓s_244_46, ↓s_244_49, ↓s_244_50, ↓s_244_51, ↓s_244_54, ↓s_244_57, ↓s_244_58, ↓s_244_61, ↓g_244_64, ↓k_244_64, ↓s_244_65, ↓s_244_68, ↓s_244_71, ↓s_244_74, ↓s_244_75a, ↓s_244_75b, ↓s_244_76, ↓s_244_79, ↓s_244_80, ↓s_244_81, ↓s_244_84, ↓g_244_87, ↓k_244_87, ↓s_244_88, ↓s_244_89, ↓s_244_92, ↓s_244_95, ↓s_244_96, ↓s_244_97, ↓s_244_100, ↓s_244_101, ↓s_244_104, ↓s_244_105, ↓s_244_108, ↓s_244_109, ↓s_244_112, ↓s_244_113, ↓s_244_116, ↓s_244_117, ↓s_244_119, ↓s_244_122, ↓s_244_123, ↓s_244_126, ↓s_244_127, ↓s_244_130, ↓s_244_131, ↓s_244_134, ↓s_244_135, ↓s_244_138, ↓s_244_139, ↓s_244_142, ↓s_244_145, ↓s_244_146, ↓s_244_149, ↓s_244_152, ↓s_244_153, ↓s_244_154, ↓s_244_157, ↓s_244_158, ↓s_244_159, ↓g_244_162, ↓k_244_162, ↓s_244_163, ↓s_244_166, ↓s_244_169, ↓s_244_172, ↓s_244_173, ↓s_244_174, ↓s_244_177, ↓s_244_179, ↓s_244_182, ↓s_244_183, ↓s_244_186, ↓s_244_189, ↓s_244_191, ↓s_244_192, ↓s_244_195, ↓s_244_196, ↓s_244_197, ↓s_244_200, ↓s_244_201, ↓s_244_203, ↓s_244_204, ↓s_244_207, ↓s_244_208a, ↓s_244_208b, ↓s_244_209, ↓s_244_212, ↓s_244_213, ↓s_244_214, ↓s_244_217, ↓s_244_220, ↓s_244_221, ↓s_244_222, ↓s_244_225, w32c_32, w32c_99999, w32c_48, ↓s_178_0, ↓s_178_1, ↓s_178_4, ↓s_178_5, ↓s_178_8, ↓s_178_11, ↓s_178_12, ↓s_178_15, ↓s_178_16, ↓s_178_19, ↓s_178_20, ↓s_178_23, ↓s_178_24, ↓s_192_0, ↓s_192_1, ↓s_192_3, ↓s_192_6, ↓s_192_7, ↓s_192_9, ↓s_192_12, ↓s_192_13, ↓s_192_16, ↓s_192_17, w32c_97, w32c_122, zar_96, zia_96, zln_96, zit_96, zio_95]
    rw [e26, hx, hF 96 _ rfl, Int.toNat_natCast]
    have rx : rch mem x = w32 (mem 96 x) := rfl
    exact ⟨fun h => absurd h (by (first | exact Nat.le_of_ble_eq_true rfl | exact (fun h => absurd h.1 (by decide)) | omega)), fun _ => ⟨⟨by (first | exact Nat.le_of_ble_eq_true rfl | exact (fun h => absurd h.1 (by decide)) | omega), by (first | exact Nat.le_of_ble_eq_true rfl | exact (fun h => absurd h.1 (by decide)) | omega)⟩, fun _ => fin (by (first | exact Nat.le_of_ble_eq_true rfl | exact (fun h => absurd h.1 (by decide)) | omega)), fun _ => ⟨fun _ => fin (by (first | exact Nat.le_of_ble_eq_true rfl | exact (fun h => absurd h.1 (by decide)) | omega)), fun _ => go (by (first | exact Nat.le_of_ble_eq_true rfl | exact (fun h => absurd h.1 (by decide)) | omega)) (by (first | exact Nat.le_of_ble_eq_true rfl | exact (fun h => absurd h.1 (by decide)) | omega))⟩⟩⟩
/-- behind the blanks -/
theorem tf31 (hE : yEok E) (hs : w32 (mem 95 26) ≤ 800) (hs0 : 0 ≤ w32 (mem 95 26)) (ha : 0 ≤ w32 (mem 95 27)) (ht : ∀ j, 0 ≤ w32 (mem 96 j) ∧ w32 (mem 96 j) ≤ 255) (hQ : ∀ m k p v e, aFrm tkF mem m → sTk (rch mem) (rsz mem) (rat mem) k p v e → w32 (m 95 27) = (e : Int) → w32 (m 95 28) = (p : Int) → sRk (w32 (m 95 29)) (w32 (m 95 30)) k v → Q none m) (hF : aFrm tkF mem m) (hx : w32 (m 95 27) = (p : Int)) (hB : sBk (rch mem) (rsz mem) (rat mem) p) : zG E (d + 5) xm_244 31 [some (1, 95), r1] [] m Q := by
  have r2 : rsz mem = (w32 (mem 95 26)).toNat := rfl
  have rx : rch mem p = w32 (mem 96 p) := rfl
  have hpn := hB.2.1
  refine zgo_ok (n := 60) hE xmo_244 (cs := zc_244) ?_
  have e26 : m 95 26 = mem 95 26 := hF 95 26 rfl
  have d27 : yset m 95 28 (m 95 27) 95 27 = m 95 27 := yset_d (by decide)
  have F1 : aFrm tkF mem (yset m 95 28 (m 95 27)) := aFrm_set hF rfl
  have ht1 := ht p
  simp only [ynok_30, ynok_31, w32c_0, w32c_1, w32c_2, w32c_3, w32c_4, w32c_5, w32c_6, w32c_7, w32c_8, w32c_9, w32c_10, w32c_11, w32c_12, w32c_13, w32c_14, w32c_m1, w32c_m2, w32c_118, Int.reduceAdd, Int.reduceSub, Int.reduceMul, yput_s, yput_n, znl_n, znl_0, znl_1, znl_4, ysum_n, ysum_0, ysum_1, ysum_4, true_and, and_true, Nat.reduceAdd, Nat.reduceLeDiff, true_implies, eq_self, true_or, or_true, or_false, false_or, not_true_eq_false, not_false_eq_true, false_implies, implies_true, yset_s, yset_o, yset_d, ne_eq, Nat.reduceEqDiff, Int.reduceToNat, Int.reduceEq, Int.reduceLE, Int.reduceLT, Classical.not_not, Nat.reduceLT, ↓zvk_s, ↓zvk_n, ↓g_244_0, ↓k_244_0, ↓s_244_1, ↓s_244_4, ↓s_244_6, ↓s_244_9, ↓s_244_10, ↓s_244_13, ↓s_244_15, ↓s_244_18, ↓s_244_19a, ↓s_244_19b, ↓s_244_20, ↓s_244_23, ↓s_244_24, ↓s_244_25, ↓s_244_28, ↓g_244_31, ↓k_244_31, ↓s_244_32, ↓s_244_33, ↓s_244_36, ↓s_244_39, ↓s_244_40, ↓s_244_43n, ↓s_244_43i, ↓s_244_43p, ↓s_244_44, ↓s_244_45, ↓s_244_46, ↓s_244_49, ↓s_244_50, ↓s_244_51, ↓s_244_54, ↓s_244_57, ↓s_244_58, ↓s_244_61, ↓g_244_64, ↓k_244_64, ↓s_244_65, ↓s_244_68, ↓s_244_71, ↓s_244_74, ↓s_244_75a, ↓s_244_75b, ↓s_244_76, ↓s_244_79, ↓s_244_80, ↓s_244_81, ↓s_244_84, ↓g_244_87, ↓k_244_87, ↓s_244_88, ↓s_244_89, ↓s_244_92, ↓s_244_95, ↓s_244_96, ↓s_244_97, ↓s_244_100, ↓s_244_101, ↓s_244_104, ↓s_244_105, ↓s_244_108, ↓s_244_109, ↓s_244_112, ↓s_244_113, ↓s_244_116, ↓s_244_117, ↓s_244_119, ↓s_244_122, ↓s_244_123, ↓s_244_126, ↓s_244_127, ↓s_244_130, ↓s_244_131, ↓s_244_134, ↓s_244_135, ↓s_244_138, ↓s_244_139, ↓s_244_142, ↓s_244_145, ↓s_244_146, ↓s_244_149, ↓s_244_152, ↓s_244_153, ↓s_244_154, ↓s_244_157, ↓s_244_158, ↓s_244_159, ↓g_244_162, ↓k_244_162, ↓s_244_163, ↓s_244_166, ↓s_244_169, ↓s_244_172, ↓s_244_173, ↓s_244_174, ↓s_244_177, ↓s_244_179, ↓s_244_182, ↓s_244_183, ↓s_244_186, ↓s_244_189, ↓s_244_191, ↓s_244_192, ↓s_244_195, ↓s_244_196, ↓s_244_197, ↓s_244_200, ↓s_244_201, ↓s_244_203, ↓s_244_204, ↓s_244_207, ↓s_244_208a, ↓s_244_208b, ↓s_244_209, ↓s_244_212, ↓s_244_213, ↓s_244_214, ↓s_244_217, ↓s_244_220, ↓s_244_221, ↓s_244_222, ↓s_244_225, w32c_32, w32c_99999, w32c_48, ↓s_178_0, ↓s_178_1, ↓s_178_4, ↓s_178_5, ↓s_178_8, ↓s_178_11, ↓s_178_12, ↓s_178_15, ↓s_178_16, ↓s_178_19, ↓s_178_20, ↓s_178_23, ↓s_178_24, ↓s_192_0, ↓s_192_1, ↓s_192_3, ↓s_192_6, ↓s_192_7, ↓s_192_9, ↓s_192_12, ↓s_192_13, ↓s_192_16, ↓s_192_17, w32c_97, w32c_122, ↓s_185_0, ↓s_185_1, ↓s_185_3, ↓s_185_6, ↓s_185_7, ↓s_185_9, ↓s_185_12, ↓s_185_13, ↓s_185_16, ↓s_185_17, w32c_57, zar_96, zia_96, zln_96, zit_96, zio_95]
  rw [e26, hx, hF 96 _ rfl, Int.toNat_natCast]
  refine ⟨fun h => ?_, fun h => ⟨⟨by (first | exact Nat.le_of_ble_eq_true rfl | exact (fun h => absurd h.1 (by decide)) | omega), by (first | exact Nat.le_of_ble_eq_true rfl | exact (fun h => absurd h.1 (by decide)) | omega)⟩, fun h0 => ?_, fun h0 => ?_⟩⟩
  · have ep : p = rsz mem := by (first | exact Nat.le_of_ble_eq_true rfl | exact (fun h => absurd h.1 (by decide)) | omega)
    refine hQ _ 0 p 0 p (aFrm_set F1 rfl) ⟨hB, Or.inl ⟨ep, rfl, rfl, ep⟩⟩ ?_ ?_ (Or.inl ⟨rfl, ?_⟩)
    · rw [yset_d (by decide), d27]; exact hx
    · rw [yset_d (by decide), yset_s]; exact hx
    · rw [yset_s]; decide
  · have sg : ¬ (97 ≤ rch mem p ∧ rch mem p ≤ 122) → ¬ (48 ≤ rch mem p ∧ rch mem p ≤ 57) → yCon E (d + 4 + 1) xm_228 [(1, 95), (0, mem 96 p)] (yset m 95 28 (m 95 27)) (fun v mem' => zgk E (d + 4 + 1) xm_244 225 [some (1, 95), some (0, mem 96 p)] [] v mem' Q) := fun n1 n2 => by
      have e26' : yset m 95 28 (m 95 27) 95 26 = mem 95 26 := by rw [yset_d (by decide), e26]
      have gch : rch (yset m 95 28 (m 95 27)) = rch mem := funext fun j => by show w32 (yset m 95 28 (m 95 27) 96 j) = w32 (mem 96 j); rw [F1 96 j rfl]
      have gra : rat (yset m 95 28 (m 95 27)) = p := by show (w32 (yset m 95 28 (m 95 27) 95 27)).toNat = p; rw [d27, hx]; exact Int.toNat_natCast p
      have grs : rsz (yset m 95 28 (m 95 27)) = rsz mem := by show (w32 (yset m 95 28 (m 95 27) 95 26)).toNat = _; rw [e26']
      refine f_sign hE (by (first | exact Nat.le_of_ble_eq_true rfl | exact (fun h => absurd h.1 (by decide)) | omega)) (by rw [e26']; exact hs) (by rw [d27]; (first | exact Nat.le_of_ble_eq_true rfl | exact (fun h => absurd h.1 (by decide)) | omega)) (by rw [d27, e26']; (first | exact Nat.le_of_ble_eq_true rfl | exact (fun h => absurd h.1 (by decide)) | omega)) (by (first | exact Nat.le_of_ble_eq_true rfl | exact (fun h => absurd h.1 (by decide)) | omega)) (fun m2 g1 g2 g3 => ?_)
      rw [gch, gra, grs] at g2 g3
      rw [d27, hx] at g2
      refine zgk_n hE xmo_244 60 zc_244 ?_
      simp only [ynok_30, ynok_31, w32c_0, w32c_1, w32c_2, w32c_3, w32c_4, w32c_5, w32c_6, w32c_7, w32c_8, w32c_9, w32c_10, w32c_11, w32c_12, w32c_13, w32c_14, w32c_m1, w32c_m2, w32c_118, Int.reduceAdd, Int.reduceSub, Int.reduceMul, yput_s, yput_n, znl_n, znl_0, znl_1, znl_4, ysum_n, ysum_0, ysum_1, ysum_4, true_and, and_true, Nat.reduceAdd, Nat.reduceLeDiff, true_implies, eq_self, true_or, or_true, or_false, false_or, not_true_eq_false, not_false_eq_true, false_implies, implies_true, yset_s, yset_o, yset_d, ne_eq, Nat.reduceEqDiff, Int.reduceToNat, Int.reduceEq, Int.reduceLE, Int.reduceLT, Classical.not_not, Nat.reduceLT, ↓zvk_s, ↓zvk_n, ↓g_244_0, ↓k_244_0, ↓s_244_1, ↓s_244_4, ↓s_244_6, ↓s_244_9, ↓s_244_10, ↓s_244_13, ↓s_244_15, ↓s_244_18, ↓s_244_19a, ↓s_244_19b, ↓s_244_20, ↓s_244_23, ↓s_244_24, ↓s_244_25, ↓s_244_28, ↓g_244_31, ↓k_244_31, ↓s_244_32, ↓s_244_33, ↓s_244_36, ↓s_244_39, ↓s_244_40, ↓s_244_43n, ↓s_244_43i, ↓s_244_43p, ↓s_244_44, ↓s_244_45, ↓s_244_46, ↓s_244_49, ↓s_244_50, ↓s_244_51, ↓s_244_54, ↓s_244_57, ↓s_244_58, ↓s_244_61, ↓g_244_64, ↓k_244_64, ↓s_244_65, ↓s_244_68, ↓s_244_71, ↓s_244_74, ↓s_244_75a, ↓s_244_75b, ↓s_244_76, ↓s_244_79, ↓s_244_80, ↓s_244_81, ↓s_244_84, ↓g_244_87, ↓k_244_87, ↓s_244_88, ↓s_244_89, ↓s_244_92, ↓s_244_95, ↓s_244_96, ↓s_244_97, ↓s_244_100, ↓s_244_101, ↓s_244_104, ↓s_244_105, ↓s_244_108, ↓s_244_109, ↓s_244_112, ↓s_244_113, ↓s_244_116, ↓s_244_117, ↓s_244_119, ↓s_244_122, ↓s_244_123, ↓s_244_126, ↓s_244_127, ↓s_244_130, ↓s_244_131, ↓s_244_134, ↓s_244_135, ↓s_244_138, ↓s_244_139, ↓s_244_142, ↓s_244_145, ↓s_244_146, ↓s_244_149, ↓s_244_152, ↓s_244_153, ↓s_244_154, ↓s_244_157, ↓s_244_158, ↓s_244_159, ↓g_244_162, ↓k_244_162, ↓s_244_163, ↓s_244_166, ↓s_244_169, ↓s_244_172, ↓s_244_173, ↓s_244_174, ↓s_244_177, ↓s_244_179, ↓s_244_182, ↓s_244_183, ↓s_244_186, ↓s_244_189, ↓s_244_191, ↓s_244_192, ↓s_244_195, ↓s_244_196, ↓s_244_197, ↓s_244_200, ↓s_244_201, ↓s_244_203, ↓s_244_204, ↓s_244_207, ↓s_244_208a, ↓s_244_208b, ↓s_244_209, ↓s_244_212, ↓s_244_213, ↓s_244_214, ↓s_244_217, ↓s_244_220, ↓s_244_221, ↓s_244_222, ↓s_244_225, w32c_32, w32c_99999, w32c_48, zio_95]
      refine hQ m2 (sSg (rch mem p) (if p + 1 < rsz mem then rch mem (p + 1) else 0)).1 p 0 (p + (sSg (rch mem p) (if p + 1 < rsz mem then rch mem (p + 1) else 0)).2) (fun i j hij => ?_) ⟨hB, Or.inr (Or.inr (Or.inr ⟨by (first | exact Nat.le_of_ble_eq_true rfl | exact (fun h => absurd h.1 (by decide)) | omega), n1, n2, rfl, rfl, rfl⟩))⟩ ?_ ?_ g3
      · rw [g1 i j, F1 i j hij]
        revert hij
        simp only [amod, Bool.or_eq_false_iff]
        intro hij
        exact ⟨hij.1, hij.2.2.1, hij.2.2.2⟩
      · rw [g2]
        exact (Int.natCast_add p _).symm
      · rw [g1 95 28 rfl, yset_s]; exact hx
    have nm : ¬ w32 (mem 96 p) < 48 → ¬ 57 < w32 (mem 96 p) → zG E (d + 4 + 1) xm_244 162 [some (1, 95), some (0, mem 96 p)] [] (yset (yset (yset m 95 28 (m 95 27)) 95 29 2) 95 30 0) Q := fun k1 k2 => by
      have q27 : yset (yset (yset m 95 28 (m 95 27)) 95 29 2) 95 30 0 95 27 = m 95 27 := by rw [yset_d (by decide), yset_d (by decide), d27]
      have q28 : yset (yset (yset m 95 28 (m 95 27)) 95 29 2) 95 30 0 95 28 = m 95 27 := by rw [yset_d (by decide), yset_d (by decide), yset_s]
      exact tf_num (p := p) hE hs ha (by (first | exact Nat.le_of_ble_eq_true rfl | exact (fun h => absurd h.1 (by decide)) | omega)) hQ _ _ p rfl ⟨aFrm_set (aFrm_set F1 rfl) rfl, hB, by (first | exact Nat.le_of_ble_eq_true rfl | exact (fun h => absurd h.1 (by decide)) | omega), by rw [q28]; exact hx⟩ (by rw [q27]; exact hx) (Nat.le_refl _) hpn (fun j j1 j2 => absurd j2 (by (first | exact Nat.le_of_ble_eq_true rfl | exact (fun h => absurd h.1 (by decide)) | omega))) (by rw [yset_d (by decide), yset_s]; decide) (by rw [yset_s]; decide) (by rw [yset_s]; decide) (by rw [yset_s, Nat.sub_self]; show min (w32 0) 100000 = 0; decide)
    have lt : ¬ w32 (mem 96 p) < 97 → ¬ 122 < w32 (mem 96 p) → zG E (d + 4 + 1) xm_244 64 [some (1, 95), some (0, mem 96 p)] [] (yset m 95 28 (m 95 27)) Q := fun k1 k2 =>
      tf_let (p := p) hE hs ha (by (first | exact Nat.le_of_ble_eq_true rfl | exact (fun h => absurd h.1 (by decide)) | omega)) hQ _ _ p rfl ⟨F1, hB, by (first | exact Nat.le_of_ble_eq_true rfl | exact (fun h => absurd h.1 (by decide)) | omega), by rw [yset_s]; exact hx⟩ (by rw [d27]; exact hx) (Nat.le_refl _) hpn (fun j j1 j2 => absurd j2 (by (first | exact Nat.le_of_ble_eq_true rfl | exact (fun h => absurd h.1 (by decide)) | omega)))
    exact ⟨fun _ => ⟨fun _ => sg (by (first | exact Nat.le_of_ble_eq_true rfl | exact (fun h => absurd h.1 (by decide)) | omega)) (by (first | exact Nat.le_of_ble_eq_true rfl | exact (fun h => absurd h.1 (by decide)) | omega)), fun k1 => ⟨fun _ => sg (by (first | exact Nat.le_of_ble_eq_true rfl | exact (fun h => absurd h.1 (by decide)) | omega)) (by (first | exact Nat.le_of_ble_eq_true rfl | exact (fun h => absurd h.1 (by decide)) | omega)), fun k2 => nm k1 k2⟩⟩, fun k0 => ⟨fun _ => ⟨fun _ => sg (by (first | exact Nat.le_of_ble_eq_true rfl | exact (fun h => absurd h.1 (by decide)) | omega)) (by (first | exact Nat.le_of_ble_eq_true rfl | exact (fun h => absurd h.1 (by decide)) | omega)), fun k1 => ⟨fun _ => sg (by (first | exact Nat.le_of_ble_eq_true rfl | exact (fun h => absurd h.1 (by decide)) | omega)) (by (first | exact Nat.le_of_ble_eq_true rfl | exact (fun h => absurd h.1 (by decide)) | omega)), fun k2 => nm k1 k2⟩⟩, fun k2 => lt k0 k2⟩⟩
  · (first | exact Nat.le_of_ble_eq_true rfl | exact (fun h => absurd h.1 (by decide)) | omega)
theorem tf_blank (hE : yEok E) (hs : w32 (mem 95 26) ≤ 800) (hs0 : 0 ≤ w32 (mem 95 26)) (ha : 0 ≤ w32 (mem 95 27)) (ht : ∀ j, 0 ≤ w32 (mem 96 j) ∧ w32 (mem 96 j) ≤ 255) (hQ : ∀ m k p v e, aFrm tkF mem m → sTk (rch mem) (rsz mem) (rat mem) k p v e → w32 (m 95 27) = (e : Int) → w32 (m 95 28) = (p : Int) → sRk (w32 (m 95 29)) (w32 (m 95 30)) k v → Q none m) : ∀ (c : Nat) (m : yMem) (x : Nat), rsz mem - x = c → aFrm tkF mem m → w32 (m 95 27) = (x : Int) → rat mem ≤ x → x ≤ rsz mem → (∀ j, rat mem ≤ j → j < x → rch mem j = 10 ∨ rch mem j = 32) → zG E (d + 5) xm_244 0 [some (1, 95), r1] [] m Q := by
  have r2 : rsz mem = (w32 (mem 95 26)).toNat := rfl
  intro c
  induction c with
  | zero =>
    intro m x hc hF hx h1 h2 hA
    have fin := tf31 (d := d) (r1 := r1) hE hs hs0 ha ht hQ hF hx ⟨h1, h2, hA, fun h => absurd h (by (first | exact Nat.le_of_ble_eq_true rfl | exact (fun h => absurd h.1 (by decide)) | omega))⟩
    refine zgo_ok (n := 60) hE xmo_244 (cs := zc_244) ?_
    have e26 : m 95 26 = mem 95 26 := hF 95 26 rfl
    simp only [ynok_30, ynok_31, w32c_0, w32c_1, w32c_2, w32c_3, w32c_4, w32c_5, w32c_6, w32c_7, w32c_8, w32c_9, w32c_10, w32c_11, w32c_12, w32c_13, w32c_14, w32c_m1, w32c_m2, w32c_118, Int.reduceAdd, Int.reduceSub, Int.reduceMul, yput_s, yput_n, znl_n, znl_0, znl_1, znl_4, ysum_n, ysum_0, ysum_1, ysum_4, true_and, and_true, Nat.reduceAdd, Nat.reduceLeDiff, true_implies, eq_self, true_or, or_true, or_false, false_or, not_true_eq_false, not_false_eq_true, false_implies, implies_true, yset_s, yset_o, yset_d, ne_eq, Nat.reduceEqDiff, Int.reduceToNat, Int.reduceEq, Int.reduceLE, Int.reduceLT, Classical.not_not, Nat.reduceLT, ↓zvk_s, ↓zvk_n, ↓g_244_0, ↓k_244_0, ↓s_244_1, ↓s_244_4, ↓s_244_6, ↓s_244_9, ↓s_244_10, ↓s_244_13, ↓s_244_15, ↓s_244_18, ↓s_244_19a, ↓s_244_19b, ↓s_244_20, ↓s_244_23, ↓s_244_24, ↓s_244_25, ↓s_244_28, ↓g_244_31, ↓k_244_31, ↓s_244_32, ↓s_244_33, ↓s_244_36, ↓s_244_39, ↓s_244_40, ↓s_244_43n, ↓s_244_43i, ↓s_244_43p, ↓s_244_44, ↓s_244_45, ↓s_244_46, ↓s_244_49, ↓s_244_50, ↓s_244_51, ↓s_244_54, ↓s_244_57, ↓s_244_58, ↓s_244_61, ↓g_244_64, ↓k_244_64, ↓s_244_65, ↓s_244_68, ↓s_244_71, ↓s_244_74, ↓s_244_75a, ↓s_244_75b, ↓s_244_76, ↓s_244_79, ↓s_244_80, ↓s_244_81, ↓s_244_84, ↓g_244_87, ↓k_244_87, ↓s_244_88, ↓s_244_89, ↓s_244_92, ↓s_244_95, ↓s_244_96, ↓s_244_97, ↓s_244_100, ↓s_244_101, ↓s_244_104, ↓s_244_105, ↓s_244_108, ↓s_244_109, ↓s_244_112, ↓s_244_113, ↓s_244_116, ↓s_244_117, ↓s_244_119, ↓s_244_122, ↓s_244_123, ↓s_244_126, ↓s_244_127, ↓s_244_130, ↓s_244_131, ↓s_244_134, ↓s_244_135, ↓s_244_138, ↓s_244_139, ↓s_244_142, ↓s_244_145, ↓s_244_146, ↓s_244_149, ↓s_244_152, ↓s_244_153, ↓s_244_154, ↓s_244_157, ↓s_244_158, ↓s_244_159, ↓g_244_162, ↓k_244_162, ↓s_244_163, ↓s_244_166, ↓s_244_169, ↓s_244_172, ↓s_244_173, ↓s_244_174, ↓s_244_177, ↓s_244_179, ↓s_244_182, ↓s_244_183, ↓s_244_186, ↓s_244_189, ↓s_244_191, ↓s_244_192, ↓s_244_195, ↓s_244_196, ↓s_244_197, ↓s_244_200, ↓s_244_201, ↓s_244_203, ↓s_244_204, ↓s_244_207, ↓s_244_208a, ↓s_244_208b, ↓s_244_209, ↓s_244_212, ↓s_244_213, ↓s_244_214, ↓s_244_217, ↓s_244_220, ↓s_244_221, ↓s_244_222, ↓s_244_225, w32c_32, w32c_99999, w32c_48, ↓s_178_0, ↓s_178_1, ↓s_178_4, ↓s_178_5, ↓s_178_8, ↓s_178_11, ↓s_178_12, ↓s_178_15, ↓s_178_16, ↓s_178_19, ↓s_178_20, ↓s_178_23, ↓s_178_24, zar_96, zia_96, zln_96, zit_96, zio_95]
    simp only [fin, implies_true, and_true, true_and]
    rw [e26, hx]
    exact ⟨fun h k => absurd h k, fun k => absurd (show w32 (mem 95 26) ≤ (x : Int) by (first | exact Nat.le_of_ble_eq_true rfl | exact (fun h => absurd h.1 (by decide)) | omega)) k⟩
  | succ c ih =>
    intro m x hc hF hx h1 h2 hA
    have e1 : w32 (m 95 27 + 1) = (x : Int) + 1 := by rw [w32_ad (by rw [w32c_1]; (first | exact Nat.le_of_ble_eq_true rfl | exact (fun h => absurd h.1 (by decide)) | omega)) (by rw [w32c_1]; (first | exact Nat.le_of_ble_eq_true rfl | exact (fun h => absurd h.1 (by decide)) | omega)), w32c_1, hx]
    have rx : rch mem x = w32 (mem 96 x) := rfl
    have fin : ¬ (rch mem x = 10 ∨ rch mem x = 32) → zG E (d + 5) xm_244 31 [some (1, 95), r1] [] m Q := fun hn => tf31 hE hs hs0 ha ht hQ hF hx ⟨h1, h2, hA, fun _ => hn⟩
    have go : (rch mem x = 10 ∨ rch mem x = 32) → zG E (d + 5) xm_244 0 [some (1, 95), r1] [] (yset m 95 27 (m 95 27 + 1)) Q := fun hy => ih _ (x + 1) (by (first | exact Nat.le_of_ble_eq_true rfl | exact (fun h => absurd h.1 (by decide)) | omega)) (aFrm_set hF rfl) (by rw [yset_s, e1]; (first | exact Nat.le_of_ble_eq_true rfl | exact (fun h => absurd h.1 (by decide)) | omega)) (by (first | exact Nat.le_of_ble_eq_true rfl | exact (fun h => absurd h.1 (by decide)) | omega)) (by (first | exact Nat.le_of_ble_eq_true rfl | exact (fun h => absurd h.1 (by decide)) | omega)) (fun j j1 j2 => by
      by_cases hj : j = x
      · subst hj; exact hy
      · exact hA j j1 (by (first | exact Nat.le_of_ble_eq_true rfl | exact (fun h => absurd h.1 (by decide)) | omega)))
    refine zgo_ok (n := 60) hE xmo_244 (cs := zc_244) ?_
    have e26 : m 95 26 = mem 95 26 := hF 95 26 rfl
    simp only [ynok_30, ynok_31, w32c_0, w32c_1, w32c_2, w32c_3, w32c_4, w32c_5, w32c_6, w32c_7, w32c_8, w32c_9, w32c_10, w32c_11, w32c_12, w32c_13, w32c_14, w32c_m1, w32c_m2, w32c_118, Int.reduceAdd, Int.reduceSub, Int.reduceMul, yput_s, yput_n, znl_n, znl_0, znl_1, znl_4, ysum_n, ysum_0, ysum_1, ysum_4, true_and, and_true, Nat.reduceAdd, Nat.reduceLeDiff, true_implies, eq_self, true_or, or_true, or_false, false_or, not_true_eq_false, not_false_eq_true, false_implies, implies_true, yset_s, yset_o, yset_d, ne_eq, Nat.reduceEqDiff, Int.reduceToNat, Int.reduceEq, Int.reduceLE, Int.reduceLT, Classical.not_not, Nat.reduceLT, ↓zvk_s, ↓zvk_n, ↓g_244_0, ↓k_244_0, ↓s_244_1, ↓s_244_4, ↓s_244_6, ↓s_244_9, ↓s_244_10, ↓s_244_13, ↓s_244_15, ↓s_244_18, ↓s_244_19a, ↓s_244_19b, ↓s_244_20, ↓s_244_23, ↓s_244_24, ↓s_244_25, ↓s_244_28, ↓g_244_31, ↓k_244_31, ↓s_244_32, ↓s_244_33, ↓s_244_36, ↓s_244_39, ↓s_244_40, ↓s_244_43n, ↓s_244_43i, ↓s_244_43p, ↓s_244_44, ↓s_244_45, ↓s_244_46, ↓s_244_49, ↓s_244_50, ↓s_244_51, ↓s_244_54, ↓s_244_57, ↓s_244_58, ↓s_244_61, ↓g_244_64, ↓k_244_64, ↓s_244_65, ↓s_244_68, ↓s_244_71, ↓s_244_74, ↓s_244_75a, ↓s_244_75b, ↓s_244_76, ↓s_244_79, ↓s_244_80, ↓s_244_81, ↓s_244_84, ↓g_244_87, ↓k_244_87, ↓s_244_88, ↓s_244_89, ↓s_244_92, ↓s_244_95, ↓s_244_96, ↓s_244_97, ↓s_244_100, ↓s_244_101, ↓s_244_104, ↓s_244_105, ↓s_244_108, ↓s_244_109, ↓s_244_112, ↓s_244_113, ↓s_244_116, ↓s_244_117, ↓s_244_119, ↓s_244_122, ↓s_244_123, ↓s_244_126, ↓s_244_127, ↓s_244_130, ↓s_244_131, ↓s_244_134, ↓s_244_135, ↓s_244_138, ↓s_244_139, ↓s_244_142, ↓s_244_145, ↓s_244_146, ↓s_244_149, ↓s_244_152, ↓s_244_153, ↓s_244_154, ↓s_244_157, ↓s_244_158, ↓s_244_159, ↓g_244_162, ↓k_244_162, ↓s_244_163, ↓s_244_166, ↓s_244_169, ↓s_244_172, ↓s_244_173, ↓s_244_174, ↓s_244_177, ↓s_244_179, ↓s_244_182, ↓s_244_183, ↓s_244_186, ↓s_244_189, ↓s_244_191, ↓s_244_192, ↓s_244_195, ↓s_244_196, ↓s_244_197, ↓s_244_200, ↓s_244_201, ↓s_244_203, ↓s_244_204, ↓s_244_207, ↓s_244_208a, ↓s_244_208b, ↓s_244_209, ↓s_244_212, ↓s_244_213, ↓s_244_214, ↓s_244_217, ↓s_244_220, ↓s_244_221, ↓s_244_222, ↓s_244_225, w32c_32, w32c_99999, w32c_48, ↓s_178_0, ↓s_178_1, ↓s_178_4, ↓s_178_5, ↓s_178_8, ↓s_178_11, ↓s_178_12, ↓s_178_15, ↓s_178_16, ↓s_178_19, ↓s_178_20, ↓s_178_23, ↓s_178_24, zar_96, zia_96, zln_96, zit_96, zio_95]
    rw [e26, hx, hF 96 _ rfl, Int.toNat_natCast]
    exact ⟨fun h => absurd h (by (first | exact Nat.le_of_ble_eq_true rfl | exact (fun h => absurd h.1 (by decide)) | omega)), fun _ => ⟨⟨by (first | exact Nat.le_of_ble_eq_true rfl | exact (fun h => absurd h.1 (by decide)) | omega), by (first | exact Nat.le_of_ble_eq_true rfl | exact (fun h => absurd h.1 (by decide)) | omega)⟩, fun h => go (Or.inl h), fun h10 => ⟨fun h => absurd h (by (first | exact Nat.le_of_ble_eq_true rfl | exact (fun h => absurd h.1 (by decide)) | omega)), fun _ => ⟨⟨by (first | exact Nat.le_of_ble_eq_true rfl | exact (fun h => absurd h.1 (by decide)) | omega), by (first | exact Nat.le_of_ble_eq_true rfl | exact (fun h => absurd h.1 (by decide)) | omega)⟩, fun h => fin (by (first | exact Nat.le_of_ble_eq_true rfl | exact (fun h => absurd h.1 (by decide)) | omega)), fun h => go (Or.inr h)⟩⟩⟩⟩
theorem f_token (hE : yEok E) {D : Nat} (hD : 6 ≤ D) (hs : w32 (mem 95 26) ≤ 800) (ha : 0 ≤ w32 (mem 95 27)) (ha2 : w32 (mem 95 27) ≤ w32 (mem 95 26)) (ht : ∀ j, 0 ≤ w32 (mem 96 j) ∧ w32 (mem 96 j) ≤ 255) (hQ : ∀ m k p v e, aFrm tkF mem m → sTk (rch mem) (rsz mem) (rat mem) k p v e → w32 (m 95 27) = (e : Int) → w32 (m 95 28) = (p : Int) → sRk (w32 (m 95 29)) (w32 (m 95 30)) k v → Q none m) : yCon E D xm_244 [(1, 95)] mem Q := by
  obtain ⟨d, rfl⟩ := Nat.exists_eq_add_of_le' hD
  refine e_244 ?_
  have r2 : rsz mem = (w32 (mem 95 26)).toNat := rfl
  have r3 : rat mem = (w32 (mem 95 27)).toNat := rfl
  exact tf_blank hE hs (by (first | exact Nat.le_of_ble_eq_true rfl | exact (fun h => absurd h.1 (by decide)) | omega)) ha ht hQ _ _ (rat mem) rfl aFrm_rf (by (first | exact Nat.le_of_ble_eq_true rfl | exact (fun h => absurd h.1 (by decide)) | omega)) (Nat.le_refl _) (by (first | exact Nat.le_of_ble_eq_true rfl | exact (fun h => absurd h.1 (by decide)) | omega)) (fun j j1 j2 => absurd j2 (by (first | exact Nat.le_of_ble_eq_true rfl | exact (fun h => absurd h.1 (by decide)) | omega)))
end TF
end
section
theorem s_124_0 {E : yE} {n d : Nat} {mem : yMem} {Post : Option yV → yMem → Prop} {st : List yV} {x : Int} : zvc E (n + 1) [] d xm_124 0 [some (0, x)] (st) mem Post = (zvc E n [] d xm_124 1 [some (0, x)] ((0, x) :: st) mem Post) := zrf rfl
theorem s_124_1 {E : yE} {n d : Nat} {mem : yMem} {Post : Option yV → yMem → Prop} {st : List yV} {r0 : Option yV} : zvc E (n + 1) [] d xm_124 1 [r0] (st) mem Post = (zvc E n [] d xm_124 3 [r0] ((0, 48) :: st) mem Post) := zrf rfl
theorem s_124_3 {E : yE} {n d : Nat} {mem : yMem} {Post : Option yV → yMem → Prop} {st : List yV} {r0 : Option yV} {x y : Int} : zvc E (n + 1) [] d xm_124 3 [r0] ((0, y) :: (0, x) :: st) mem Post = ((w32 x < w32 y → zvc E n [] d xm_124 16 [r0] (st) mem Post) ∧ (¬ (w32 x < w32 y) → zvc E n [] d xm_124 6 [r0] (st) mem Post)) := zrf rfl
theorem s_124_6 {E : yE} {n d : Nat} {mem : yMem} {Post : Option yV → yMem → Prop} {st : List yV} {x : Int} : zvc E (n + 1) [] d xm_124 6 [some (0, x)] (st) mem Post = (zvc E n [] d xm_124 7 [some (0, x)] ((0, x) :: st) mem Post) := zrf rfl
theorem s_124_7 {E : yE} {n d : Nat} {mem : yMem} {Post : Option yV → yMem → Prop} {st : List yV} {r0 : Option yV} : zvc E (n + 1) [] d xm_124 7 [r0] (st) mem Post = (zvc E n [] d xm_124 9 [r0] ((0, 57) :: st) mem Post) := zrf rfl
theorem s_124_9 {E : yE} {n d : Nat} {mem : yMem} {Post : Option yV → yMem → Prop} {st : List yV} {r0 : Option yV} {x y : Int} : zvc E (n + 1) [] d xm_124 9 [r0] ((0, y) :: (0, x) :: st) mem Post = ((w32 y < w32 x → zvc E n [] d xm_124 16 [r0] (st) mem Post) ∧ (¬ (w32 y < w32 x) → zvc E n [] d xm_124 12 [r0] (st) mem Post)) := zrf rfl
theorem s_124_12 {E : yE} {n d : Nat} {mem : yMem} {Post : Option yV → yMem → Prop} {st : List yV} {r0 : Option yV} : zvc E (n + 1) [] d xm_124 12 [r0] (st) mem Post = (zvc E n [] d xm_124 13 [r0] ((0, 1) :: st) mem Post) := zrf rfl
theorem s_124_13 {E : yE} {n d : Nat} {mem : yMem} {Post : Option yV → yMem → Prop} {st : List yV} {r0 : Option yV} : zvc E (n + 1) [] d xm_124 13 [r0] (st) mem Post = (zvc E n [] d xm_124 17 [r0] (st) mem Post) := zrf rfl
theorem s_124_16 {E : yE} {n d : Nat} {mem : yMem} {Post : Option yV → yMem → Prop} {st : List yV} {r0 : Option yV} : zvc E (n + 1) [] d xm_124 16 [r0] (st) mem Post = (zvc E n [] d xm_124 17 [r0] ((0, 0) :: st) mem Post) := zrf rfl
theorem s_124_17 {E : yE} {n d : Nat} {mem : yMem} {Post : Option yV → yMem → Prop} {r0 : Option yV} {x : Int} : zvc E (n + 1) [] d xm_124 17 [r0] ([(0, x)]) mem Post = ((w32 x = 0 ∨ w32 x = 1) ∧ Post (some (0, x)) mem) := zrf rfl
theorem s_125_0 {E : yE} {n d : Nat} {mem : yMem} {Post : Option yV → yMem → Prop} {st : List yV} {x : Int} : zvc E (n + 1) [] d xm_125 0 [some (0, x)] (st) mem Post = (zvc E n [] d xm_125 1 [some (0, x)] ((0, x) :: st) mem Post) := zrf rfl
theorem s_125_1 {E : yE} {n d : Nat} {mem : yMem} {Post : Option yV → yMem → Prop} {st : List yV} {r0 : Option yV} : zvc E (n + 1) [] d xm_125 1 [r0] (st) mem Post = (zvc E n [] d xm_125 3 [r0] ((0, 97) :: st) mem Post) := zrf rfl
theorem s_125_3 {E : yE} {n d : Nat} {mem : yMem} {Post : Option yV → yMem → Prop} {st : List yV} {r0 : Option yV} {x y : Int} : zvc E (n + 1) [] d xm_125 3 [r0] ((0, y) :: (0, x) :: st) mem Post = ((w32 x < w32 y → zvc E n [] d xm_125 16 [r0] (st) mem Post) ∧ (¬ (w32 x < w32 y) → zvc E n [] d xm_125 6 [r0] (st) mem Post)) := zrf rfl
theorem s_125_6 {E : yE} {n d : Nat} {mem : yMem} {Post : Option yV → yMem → Prop} {st : List yV} {x : Int} : zvc E (n + 1) [] d xm_125 6 [some (0, x)] (st) mem Post = (zvc E n [] d xm_125 7 [some (0, x)] ((0, x) :: st) mem Post) := zrf rfl
theorem s_125_7 {E : yE} {n d : Nat} {mem : yMem} {Post : Option yV → yMem → Prop} {st : List yV} {r0 : Option yV} : zvc E (n + 1) [] d xm_125 7 [r0] (st) mem Post = (zvc E n [] d xm_125 9 [r0] ((0, 122) :: st) mem Post) := zrf rfl
theorem s_125_9 {E : yE} {n d : Nat} {mem : yMem} {Post : Option yV → yMem → Prop} {st : List yV} {r0 : Option yV} {x y : Int} : zvc E (n + 1) [] d xm_125 9 [r0] ((0, y) :: (0, x) :: st) mem Post = ((w32 y < w32 x → zvc E n [] d xm_125 16 [r0] (st) mem Post) ∧ (¬ (w32 y < w32 x) → zvc E n [] d xm_125 12 [r0] (st) mem Post)) := zrf rfl
theorem s_125_12 {E : yE} {n d : Nat} {mem : yMem} {Post : Option yV → yMem → Prop} {st : List yV} {r0 : Option yV} : zvc E (n + 1) [] d xm_125 12 [r0] (st) mem Post = (zvc E n [] d xm_125 13 [r0] ((0, 1) :: st) mem Post) := zrf rfl
theorem s_125_13 {E : yE} {n d : Nat} {mem : yMem} {Post : Option yV → yMem → Prop} {st : List yV} {r0 : Option yV} : zvc E (n + 1) [] d xm_125 13 [r0] (st) mem Post = (zvc E n [] d xm_125 17 [r0] (st) mem Post) := zrf rfl
theorem s_125_16 {E : yE} {n d : Nat} {mem : yMem} {Post : Option yV → yMem → Prop} {st : List yV} {r0 : Option yV} : zvc E (n + 1) [] d xm_125 16 [r0] (st) mem Post = (zvc E n [] d xm_125 17 [r0] ((0, 0) :: st) mem Post) := zrf rfl
theorem s_125_17 {E : yE} {n d : Nat} {mem : yMem} {Post : Option yV → yMem → Prop} {r0 : Option yV} {x : Int} : zvc E (n + 1) [] d xm_125 17 [r0] ([(0, x)]) mem Post = ((w32 x = 0 ∨ w32 x = 1) ∧ Post (some (0, x)) mem) := zrf rfl
def zc_128 : List Nat := [0]
theorem g_128_0 {E : yE} {n d : Nat} {mem : yMem} {Post : Option yV → yMem → Prop} {st : List yV} {x : Int} : zgo E n zc_128 d xm_128 0 [some (1, x)] (st) mem Post = (zvc E n zc_128 d xm_128 1 [some (1, x)] ((1, x) :: st) mem Post) := zrf rfl
theorem k_128_0 {E : yE} {n d : Nat} {mem : yMem} {Post : Option yV → yMem → Prop} {st : List yV} {rg : zR} : zvc E (n + 1) zc_128 d xm_128 0 rg st mem Post = zG E d xm_128 0 rg st mem Post := zrf rfl
theorem s_128_1 {E : yE} {n d : Nat} {mem : yMem} {Post : Option yV → yMem → Prop} {st : List yV} {r0 : Option yV} : zvc E (n + 1) zc_128 d xm_128 1 [r0] ((1, 55) :: st) mem Post = (zvc E n zc_128 d xm_128 4 [r0] ((0, mem 55 3) :: st) mem Post) := zrf rfl
theorem s_128_4 {E : yE} {n d : Nat} {mem : yMem} {Post : Option yV → yMem → Prop} {st : List yV} {x : Int} : zvc E (n + 1) zc_128 d xm_128 4 [some (1, x)] (st) mem Post = (zvc E n zc_128 d xm_128 5 [some (1, x)] ((1, x) :: st) mem Post) := zrf rfl
theorem s_128_5 {E : yE} {n d : Nat} {mem : yMem} {Post : Option yV → yMem → Prop} {st : List yV} {r0 : Option yV} : zvc E (n + 1) zc_128 d xm_128 5 [r0] ((1, 55) :: st) mem Post = (zvc E n zc_128 d xm_128 8 [r0] ((0, mem 55 2) :: st) mem Post) := zrf rfl
theorem s_128_8 {E : yE} {n d : Nat} {mem : yMem} {Post : Option yV → yMem → Prop} {st : List yV} {r0 : Option yV} {x y : Int} : zvc E (n + 1) zc_128 d xm_128 8 [r0] ((0, y) :: (0, x) :: st) mem Post = ((w32 y ≤ w32 x → zvc E n zc_128 d xm_128 68 [r0] (st) mem Post) ∧ (¬ (w32 y ≤ w32 x) → zvc E n zc_128 d xm_128 11 [r0] (st) mem Post)) := zrf rfl
theorem s_128_11 {E : yE} {n d : Nat} {mem : yMem} {Post : Option yV → yMem → Prop} {st : List yV} {x : Int} : zvc E (n + 1) zc_128 d xm_128 11 [some (1, x)] (st) mem Post = (zvc E n zc_128 d xm_128 12 [some (1, x)] ((1, x) :: st) mem Post) := zrf rfl
theorem s_128_12 {E : yE} {n d : Nat} {mem : yMem} {Post : Option yV → yMem → Prop} {st : List yV} {r0 : Option yV} : zvc E (n + 1) zc_128 d xm_128 12 [r0] ((1, 55) :: st) mem Post = (zvc E n zc_128 d xm_128 15 [r0] ((1, 1) :: st) mem Post) := zrf rfl
theorem s_128_15 {E : yE} {n d : Nat} {mem : yMem} {Post : Option yV → yMem → Prop} {st : List yV} {x : Int} : zvc E (n + 1) zc_128 d xm_128 15 [some (1, x)] (st) mem Post = (zvc E n zc_128 d xm_128 16 [some (1, x)] ((1, x) :: st) mem Post) := zrf rfl
theorem s_128_16 {E : yE} {n d : Nat} {mem : yMem} {Post : Option yV → yMem → Prop} {st : List yV} {r0 : Option yV} : zvc E (n + 1) zc_128 d xm_128 16 [r0] ((1, 55) :: st) mem Post = (zvc E n zc_128 d xm_128 19 [r0] ((0, mem 55 3) :: st) mem Post) := zrf rfl
theorem s_128_19 {E : yE} {n d : Nat} {mem : yMem} {Post : Option yV → yMem → Prop} {st : List yV} {r0 : Option yV} {z j : Int} : zvc E (n + 1) zc_128 d xm_128 19 [r0] ((0, j) :: (1, z) :: st) mem Post = ((0 ≤ w32 j ∧ w32 j < ((zar z 1 : Nat) : Int)) ∧ zvc E n zc_128 d xm_128 20 [r0] ((0, mem z.toNat (w32 j).toNat) :: st) mem Post) := zrf rfl
theorem s_128_20 {E : yE} {n d : Nat} {mem : yMem} {Post : Option yV → yMem → Prop} {st : List yV} {r0 : Option yV} {a0 : Int} : zvc E (n + 1) zc_128 (d + 1) xm_128 20 [r0] ((0, a0) :: st) mem Post = (True ∧ ysum st ≤ 8 ∧ zvc E n [] d xm_124 0 [some (0, a0)] [] mem (fun v mem' => zvk E n zc_128 (d + 1) xm_128 23 [r0] st v mem' Post)) := zrf rfl
theorem s_128_23 {E : yE} {n d : Nat} {mem : yMem} {Post : Option yV → yMem → Prop} {st : List yV} {r0 : Option yV} {x : Int} : zvc E (n + 1) zc_128 d xm_128 23 [r0] ((0, x) :: st) mem Post = ((w32 x = w32 0 → zvc E n zc_128 d xm_128 68 [r0] (st) mem Post) ∧ (¬ (w32 x = w32 0) → zvc E n zc_128 d xm_128 26 [r0] (st) mem Post)) := zrf rfl
theorem s_128_26 {E : yE} {n d : Nat} {mem : yMem} {Post : Option yV → yMem → Prop} {st : List yV} {x : Int} : zvc E (n + 1) zc_128 d xm_128 26 [some (1, x)] (st) mem Post = (zvc E n zc_128 d xm_128 27 [some (1, x)] ((1, x) :: st) mem Post) := zrf rfl
theorem s_128_27 {E : yE} {n d : Nat} {mem : yMem} {Post : Option yV → yMem → Prop} {st : List yV} {x : Int} : zvc E (n + 1) zc_128 d xm_128 27 [some (1, x)] (st) mem Post = (zvc E n zc_128 d xm_128 28 [some (1, x)] ((1, x) :: st) mem Post) := zrf rfl
theorem s_128_28 {E : yE} {n d : Nat} {mem : yMem} {Post : Option yV → yMem → Prop} {st : List yV} {r0 : Option yV} : zvc E (n + 1) zc_128 d xm_128 28 [r0] ((1, 55) :: st) mem Post = (zvc E n zc_128 d xm_128 31 [r0] ((0, mem 55 6) :: st) mem Post) := zrf rfl
theorem s_128_31 {E : yE} {n d : Nat} {mem : yMem} {Post : Option yV → yMem → Prop} {st : List yV} {r0 : Option yV} : zvc E (n + 1) zc_128 d xm_128 31 [r0] (st) mem Post = (zvc E n zc_128 d xm_128 33 [r0] ((0, 10) :: st) mem Post) := zrf rfl
theorem s_128_33 {E : yE} {n d : Nat} {mem : yMem} {Post : Option yV → yMem → Prop} {st : List yV} {r0 : Option yV} {x y : Int} : zvc E (n + 1) zc_128 d xm_128 33 [r0] ((0, y) :: (0, x) :: st) mem Post = (zvc E n zc_128 d xm_128 34 [r0] ((0, x * y) :: st) mem Post) := zrf rfl
theorem s_128_34 {E : yE} {n d : Nat} {mem : yMem} {Post : Option yV → yMem → Prop} {st : List yV} {x : Int} : zvc E (n + 1) zc_128 d xm_128 34 [some (1, x)] (st) mem Post = (zvc E n zc_128 d xm_128 35 [some (1, x)] ((1, x) :: st) mem Post) := zrf rfl
theorem s_128_35 {E : yE} {n d : Nat} {mem : yMem} {Post : Option yV → yMem → Prop} {st : List yV} {r0 : Option yV} : zvc E (n + 1) zc_128 d xm_128 35 [r0] ((1, 55) :: st) mem Post = (zvc E n zc_128 d xm_128 38 [r0] ((1, 1) :: st) mem Post) := zrf rfl
theorem s_128_38 {E : yE} {n d : Nat} {mem : yMem} {Post : Option yV → yMem → Prop} {st : List yV} {x : Int} : zvc E (n + 1) zc_128 d xm_128 38 [some (1, x)] (st) mem Post = (zvc E n zc_128 d xm_128 39 [some (1, x)] ((1, x) :: st) mem Post) := zrf rfl
theorem s_128_39 {E : yE} {n d : Nat} {mem : yMem} {Post : Option yV → yMem → Prop} {st : List yV} {r0 : Option yV} : zvc E (n + 1) zc_128 d xm_128 39 [r0] ((1, 55) :: st) mem Post = (zvc E n zc_128 d xm_128 42 [r0] ((0, mem 55 3) :: st) mem Post) := zrf rfl
theorem s_128_42 {E : yE} {n d : Nat} {mem : yMem} {Post : Option yV → yMem → Prop} {st : List yV} {r0 : Option yV} {z j : Int} : zvc E (n + 1) zc_128 d xm_128 42 [r0] ((0, j) :: (1, z) :: st) mem Post = ((0 ≤ w32 j ∧ w32 j < ((zar z 1 : Nat) : Int)) ∧ zvc E n zc_128 d xm_128 43 [r0] ((0, mem z.toNat (w32 j).toNat) :: st) mem Post) := zrf rfl
theorem s_128_43 {E : yE} {n d : Nat} {mem : yMem} {Post : Option yV → yMem → Prop} {st : List yV} {r0 : Option yV} {x y : Int} : zvc E (n + 1) zc_128 d xm_128 43 [r0] ((0, y) :: (0, x) :: st) mem Post = (zvc E n zc_128 d xm_128 44 [r0] ((0, x + y) :: st) mem Post) := zrf rfl
theorem s_128_44 {E : yE} {n d : Nat} {mem : yMem} {Post : Option yV → yMem → Prop} {st : List yV} {r0 : Option yV} : zvc E (n + 1) zc_128 d xm_128 44 [r0] (st) mem Post = (zvc E n zc_128 d xm_128 46 [r0] ((0, 48) :: st) mem Post) := zrf rfl
theorem s_128_46 {E : yE} {n d : Nat} {mem : yMem} {Post : Option yV → yMem → Prop} {st : List yV} {r0 : Option yV} {x y : Int} : zvc E (n + 1) zc_128 d xm_128 46 [r0] ((0, y) :: (0, x) :: st) mem Post = (zvc E n zc_128 d xm_128 47 [r0] ((0, x - y) :: st) mem Post) := zrf rfl
theorem s_128_47 {E : yE} {n d : Nat} {mem : yMem} {Post : Option yV → yMem → Prop} {st : List yV} {r0 : Option yV} : zvc E (n + 1) zc_128 d xm_128 47 [r0] (st) mem Post = (zvc E n zc_128 d xm_128 49 [r0] ((0, 1000000) :: st) mem Post) := zrf rfl
theorem s_128_49 {E : yE} {n d : Nat} {mem : yMem} {Post : Option yV → yMem → Prop} {st : List yV} {r0 : Option yV} {x y : Int} : zvc E (n + 1) zc_128 d xm_128 49 [r0] ((0, y) :: (0, x) :: st) mem Post = (ysum st ≤ 8 ∧ zvc E n zc_128 d xm_128 52 [r0] ((0, zmni x y) :: st) mem Post) := zrf rfl
theorem s_128_52 {E : yE} {n d : Nat} {mem : yMem} {Post : Option yV → yMem → Prop} {st : List yV} {r0 : Option yV} {x : Int} : zvc E (n + 1) zc_128 d xm_128 52 [r0] ((0, x) :: (1, 55) :: st) mem Post = (zvc E n zc_128 d xm_128 55 [r0] (st) (yset mem 55 6 x) Post) := zrf rfl
theorem s_128_55 {E : yE} {n d : Nat} {mem : yMem} {Post : Option yV → yMem → Prop} {st : List yV} {x : Int} : zvc E (n + 1) zc_128 d xm_128 55 [some (1, x)] (st) mem Post = (zvc E n zc_128 d xm_128 56 [some (1, x)] ((1, x) :: st) mem Post) := zrf rfl
theorem s_128_56a {E : yE} {n d : Nat} {mem : yMem} {Post : Option yV → yMem → Prop} {st : List yV} {r0 : Option yV} {x : Int} : zvc E (n + 1) zc_128 d xm_128 56 [r0] ((0, x) :: st) mem Post = (zvc E n zc_128 d xm_128 57 [r0] ((0, x) :: (0, x) :: st) mem Post) := zrf rfl
theorem s_128_56b {E : yE} {n d : Nat} {mem : yMem} {Post : Option yV → yMem → Prop} {st : List yV} {r0 : Option yV} {x : Int} : zvc E (n + 1) zc_128 d xm_128 56 [r0] ((1, x) :: st) mem Post = (zvc E n zc_128 d xm_128 57 [r0] ((1, x) :: (1, x) :: st) mem Post) := zrf rfl
theorem s_128_57 {E : yE} {n d : Nat} {mem : yMem} {Post : Option yV → yMem → Prop} {st : List yV} {r0 : Option yV} : zvc E (n + 1) zc_128 d xm_128 57 [r0] ((1, 55) :: st) mem Post = (zvc E n zc_128 d xm_128 60 [r0] ((0, mem 55 3) :: st) mem Post) := zrf rfl
theorem s_128_60 {E : yE} {n d : Nat} {mem : yMem} {Post : Option yV → yMem → Prop} {st : List yV} {r0 : Option yV} : zvc E (n + 1) zc_128 d xm_128 60 [r0] (st) mem Post = (zvc E n zc_128 d xm_128 61 [r0] ((0, 1) :: st) mem Post) := zrf rfl
theorem s_128_61 {E : yE} {n d : Nat} {mem : yMem} {Post : Option yV → yMem → Prop} {st : List yV} {r0 : Option yV} {x y : Int} : zvc E (n + 1) zc_128 d xm_128 61 [r0] ((0, y) :: (0, x) :: st) mem Post = (zvc E n zc_128 d xm_128 62 [r0] ((0, x + y) :: st) mem Post) := zrf rfl
theorem s_128_62 {E : yE} {n d : Nat} {mem : yMem} {Post : Option yV → yMem → Prop} {st : List yV} {r0 : Option yV} {x : Int} : zvc E (n + 1) zc_128 d xm_128 62 [r0] ((0, x) :: (1, 55) :: st) mem Post = (zvc E n zc_128 d xm_128 65 [r0] (st) (yset mem 55 3 x) Post) := zrf rfl
theorem s_128_65 {E : yE} {n d : Nat} {mem : yMem} {Post : Option yV → yMem → Prop} {st : List yV} {r0 : Option yV} : zvc E (n + 1) zc_128 d xm_128 65 [r0] (st) mem Post = (zvc E n zc_128 d xm_128 0 [r0] (st) mem Post) := zrf rfl
theorem s_128_68 {E : yE} {n d : Nat} {mem : yMem} {Post : Option yV → yMem → Prop} {st : List yV} {x : Int} : zvc E (n + 1) zc_128 d xm_128 68 [some (1, x)] (st) mem Post = (zvc E n zc_128 d xm_128 69 [some (1, x)] ((1, x) :: st) mem Post) := zrf rfl
theorem s_128_69 {E : yE} {n d : Nat} {mem : yMem} {Post : Option yV → yMem → Prop} {st : List yV} {r0 : Option yV} : zvc E (n + 1) zc_128 d xm_128 69 [r0] (st) mem Post = (zvc E n zc_128 d xm_128 70 [r0] ((0, 2) :: st) mem Post) := zrf rfl
theorem s_128_70 {E : yE} {n d : Nat} {mem : yMem} {Post : Option yV → yMem → Prop} {st : List yV} {r0 : Option yV} {x : Int} : zvc E (n + 1) zc_128 d xm_128 70 [r0] ((0, x) :: (1, 55) :: st) mem Post = (zvc E n zc_128 d xm_128 73 [r0] (st) (yset mem 55 4 x) Post) := zrf rfl
theorem s_128_73 {E : yE} {n d : Nat} {mem : yMem} {Post : Option yV → yMem → Prop} {r0 : Option yV} : zvc E (n + 1) zc_128 d xm_128 73 [r0] ([]) mem Post = (Post none mem) := zrf rfl
def zc_130 : List Nat := [3, 91]
theorem s_130_0 {E : yE} {n d : Nat} {mem : yMem} {Post : Option yV → yMem → Prop} {st : List yV} {r0 r1 r2 : Option yV} : zvc E (n + 1) zc_130 d xm_130 0 [r0, r1, r2] (st) mem Post = (zvc E n zc_130 d xm_130 2 [r0, r1, r2] ((0, 25) :: st) mem Post) := zrf rfl
theorem s_130_2n {E : yE} {n d : Nat} {mem : yMem} {Post : Option yV → yMem → Prop} {st : List yV} {r1 r2 : Option yV} {x : Int} : zvc E (n + 1) zc_130 d xm_130 2 [none, r1, r2] ((0, x) :: st) mem Post = (zvc E n zc_130 d xm_130 3 [none, some (0, x), r2] (st) mem Post) := zrf rfl
theorem s_130_2i {E : yE} {n d : Nat} {mem : yMem} {Post : Option yV → yMem → Prop} {st : List yV} {r1 r2 : Option yV} {x w : Int} : zvc E (n + 1) zc_130 d xm_130 2 [some (0, w), r1, r2] ((0, x) :: st) mem Post = (zvc E n zc_130 d xm_130 3 [some (0, w), some (0, x), r2] (st) mem Post) := zrf rfl
theorem s_130_2p {E : yE} {n d : Nat} {mem : yMem} {Post : Option yV → yMem → Prop} {st : List yV} {r1 r2 : Option yV} {x w : Int} : zvc E (n + 1) zc_130 d xm_130 2 [some (1, w), r1, r2] ((0, x) :: st) mem Post = (zvc E n zc_130 d xm_130 3 [some (1, w), some (0, x), r2] (st) mem Post) := zrf rfl
theorem s_130_2j {E : yE} {n d : Nat} {mem : yMem} {Post : Option yV → yMem → Prop} {st : List yV} {r0 r1 r2 : Option yV} {x : Int} : zvc E (n + 1) zc_130 d xm_130 2 [r0, r1, r2] ((0, x) :: st) mem Post = (zvc E n zc_130 d xm_130 3 [znl r0, some (0, x), r2] (st) mem Post) := zrf rfl
theorem g_130_3 {E : yE} {n d : Nat} {mem : yMem} {Post : Option yV → yMem → Prop} {st : List yV} {r1 r2 : Option yV} {x : Int} : zgo E n zc_130 d xm_130 3 [some (1, x), r1, r2] (st) mem Post = (zvc E n zc_130 d xm_130 4 [some (1, x), r1, r2] ((1, x) :: st) mem Post) := zrf rfl
theorem k_130_3 {E : yE} {n d : Nat} {mem : yMem} {Post : Option yV → yMem → Prop} {st : List yV} {rg : zR} : zvc E (n + 1) zc_130 d xm_130 3 rg st mem Post = zG E d xm_130 3 rg st mem Post := zrf rfl
theorem s_130_4 {E : yE} {n d : Nat} {mem : yMem} {Post : Option yV → yMem → Prop} {st : List yV} {r0 r1 r2 : Option yV} : zvc E (n + 1) zc_130 d xm_130 4 [r0, r1, r2] ((1, 55) :: st) mem Post = (zvc E n zc_130 d xm_130 7 [r0, r1, r2] ((0, mem 55 3) :: st) mem Post) := zrf rfl
theorem s_130_7 {E : yE} {n d : Nat} {mem : yMem} {Post : Option yV → yMem → Prop} {st : List yV} {r1 r2 : Option yV} {x : Int} : zvc E (n + 1) zc_130 d xm_130 7 [some (1, x), r1, r2] (st) mem Post = (zvc E n zc_130 d xm_130 8 [some (1, x), r1, r2] ((1, x) :: st) mem Post) := zrf rfl
theorem s_130_8 {E : yE} {n d : Nat} {mem : yMem} {Post : Option yV → yMem → Prop} {st : List yV} {r0 r1 r2 : Option yV} : zvc E (n + 1) zc_130 d xm_130 8 [r0, r1, r2] ((1, 55) :: st) mem Post = (zvc E n zc_130 d xm_130 11 [r0, r1, r2] ((0, mem 55 2) :: st) mem Post) := zrf rfl
theorem s_130_11 {E : yE} {n d : Nat} {mem : yMem} {Post : Option yV → yMem → Prop} {st : List yV} {r0 r1 r2 : Option yV} {x y : Int} : zvc E (n + 1) zc_130 d xm_130 11 [r0, r1, r2] ((0, y) :: (0, x) :: st) mem Post = ((w32 y ≤ w32 x → zvc E n zc_130 d xm_130 74 [r0, r1, r2] (st) mem Post) ∧ (¬ (w32 y ≤ w32 x) → zvc E n zc_130 d xm_130 14 [r0, r1, r2] (st) mem Post)) := zrf rfl
theorem s_130_14 {E : yE} {n d : Nat} {mem : yMem} {Post : Option yV → yMem → Prop} {st : List yV} {r1 r2 : Option yV} {x : Int} : zvc E (n + 1) zc_130 d xm_130 14 [some (1, x), r1, r2] (st) mem Post = (zvc E n zc_130 d xm_130 15 [some (1, x), r1, r2] ((1, x) :: st) mem Post) := zrf rfl
theorem s_130_15 {E : yE} {n d : Nat} {mem : yMem} {Post : Option yV → yMem → Prop} {st : List yV} {r0 r1 r2 : Option yV} : zvc E (n + 1) zc_130 d xm_130 15 [r0, r1, r2] ((1, 55) :: st) mem Post = (zvc E n zc_130 d xm_130 18 [r0, r1, r2] ((1, 1) :: st) mem Post) := zrf rfl
theorem s_130_18 {E : yE} {n d : Nat} {mem : yMem} {Post : Option yV → yMem → Prop} {st : List yV} {r1 r2 : Option yV} {x : Int} : zvc E (n + 1) zc_130 d xm_130 18 [some (1, x), r1, r2] (st) mem Post = (zvc E n zc_130 d xm_130 19 [some (1, x), r1, r2] ((1, x) :: st) mem Post) := zrf rfl
theorem s_130_19 {E : yE} {n d : Nat} {mem : yMem} {Post : Option yV → yMem → Prop} {st : List yV} {r0 r1 r2 : Option yV} : zvc E (n + 1) zc_130 d xm_130 19 [r0, r1, r2] ((1, 55) :: st) mem Post = (zvc E n zc_130 d xm_130 22 [r0, r1, r2] ((0, mem 55 3) :: st) mem Post) := zrf rfl
theorem s_130_22 {E : yE} {n d : Nat} {mem : yMem} {Post : Option yV → yMem → Prop} {st : List yV} {r0 r1 r2 : Option yV} {z j : Int} : zvc E (n + 1) zc_130 d xm_130 22 [r0, r1, r2] ((0, j) :: (1, z) :: st) mem Post = ((0 ≤ w32 j ∧ w32 j < ((zar z 1 : Nat) : Int)) ∧ zvc E n zc_130 d xm_130 23 [r0, r1, r2] ((0, mem z.toNat (w32 j).toNat) :: st) mem Post) := zrf rfl
theorem s_130_23 {E : yE} {n d : Nat} {mem : yMem} {Post : Option yV → yMem → Prop} {st : List yV} {r0 r1 r2 : Option yV} {a0 : Int} : zvc E (n + 1) zc_130 (d + 1) xm_130 23 [r0, r1, r2] ((0, a0) :: st) mem Post = (True ∧ ysum st ≤ 8 ∧ zvc E n [] d xm_125 0 [some (0, a0)] [] mem (fun v mem' => zvk E n zc_130 (d + 1) xm_130 26 [r0, r1, r2] st v mem' Post)) := zrf rfl
theorem s_130_26 {E : yE} {n d : Nat} {mem : yMem} {Post : Option yV → yMem → Prop} {st : List yV} {r0 r1 r2 : Option yV} {x : Int} : zvc E (n + 1) zc_130 d xm_130 26 [r0, r1, r2] ((0, x) :: st) mem Post = ((w32 x = w32 0 → zvc E n zc_130 d xm_130 74 [r0, r1, r2] (st) mem Post) ∧ (¬ (w32 x = w32 0) → zvc E n zc_130 d xm_130 29 [r0, r1, r2] (st) mem Post)) := zrf rfl
theorem s_130_29 {E : yE} {n d : Nat} {mem : yMem} {Post : Option yV → yMem → Prop} {st : List yV} {r0 r2 : Option yV} {x : Int} : zvc E (n + 1) zc_130 d xm_130 29 [r0, some (0, x), r2] (st) mem Post = (zvc E n zc_130 d xm_130 30 [r0, some (0, x), r2] ((0, x) :: st) mem Post) := zrf rfl
theorem s_130_30 {E : yE} {n d : Nat} {mem : yMem} {Post : Option yV → yMem → Prop} {st : List yV} {r0 r1 r2 : Option yV} {x : Int} : zvc E (n + 1) zc_130 d xm_130 30 [r0, r1, r2] ((0, x) :: st) mem Post = ((w32 x < w32 0 → zvc E n zc_130 d xm_130 58 [r0, r1, r2] (st) mem Post) ∧ (¬ (w32 x < w32 0) → zvc E n zc_130 d xm_130 33 [r0, r1, r2] (st) mem Post)) := zrf rfl
theorem s_130_33 {E : yE} {n d : Nat} {mem : yMem} {Post : Option yV → yMem → Prop} {st : List yV} {r1 r2 : Option yV} {x : Int} : zvc E (n + 1) zc_130 d xm_130 33 [some (1, x), r1, r2] (st) mem Post = (zvc E n zc_130 d xm_130 34 [some (1, x), r1, r2] ((1, x) :: st) mem Post) := zrf rfl
theorem s_130_34a {E : yE} {n d : Nat} {mem : yMem} {Post : Option yV → yMem → Prop} {st : List yV} {r0 r1 r2 : Option yV} {x : Int} : zvc E (n + 1) zc_130 d xm_130 34 [r0, r1, r2] ((0, x) :: st) mem Post = (zvc E n zc_130 d xm_130 35 [r0, r1, r2] ((0, x) :: (0, x) :: st) mem Post) := zrf rfl
theorem s_130_34b {E : yE} {n d : Nat} {mem : yMem} {Post : Option yV → yMem → Prop} {st : List yV} {r0 r1 r2 : Option yV} {x : Int} : zvc E (n + 1) zc_130 d xm_130 34 [r0, r1, r2] ((1, x) :: st) mem Post = (zvc E n zc_130 d xm_130 35 [r0, r1, r2] ((1, x) :: (1, x) :: st) mem Post) := zrf rfl
theorem s_130_35 {E : yE} {n d : Nat} {mem : yMem} {Post : Option yV → yMem → Prop} {st : List yV} {r0 r1 r2 : Option yV} : zvc E (n + 1) zc_130 d xm_130 35 [r0, r1, r2] ((1, 55) :: st) mem Post = (zvc E n zc_130 d xm_130 38 [r0, r1, r2] ((0, mem 55 6) :: st) mem Post) := zrf rfl
theorem s_130_38 {E : yE} {n d : Nat} {mem : yMem} {Post : Option yV → yMem → Prop} {st : List yV} {r1 r2 : Option yV} {x : Int} : zvc E (n + 1) zc_130 d xm_130 38 [some (1, x), r1, r2] (st) mem Post = (zvc E n zc_130 d xm_130 39 [some (1, x), r1, r2] ((1, x) :: st) mem Post) := zrf rfl
theorem s_130_39 {E : yE} {n d : Nat} {mem : yMem} {Post : Option yV → yMem → Prop} {st : List yV} {r0 r1 r2 : Option yV} : zvc E (n + 1) zc_130 d xm_130 39 [r0, r1, r2] ((1, 55) :: st) mem Post = (zvc E n zc_130 d xm_130 42 [r0, r1, r2] ((1, 1) :: st) mem Post) := zrf rfl
theorem s_130_42 {E : yE} {n d : Nat} {mem : yMem} {Post : Option yV → yMem → Prop} {st : List yV} {r1 r2 : Option yV} {x : Int} : zvc E (n + 1) zc_130 d xm_130 42 [some (1, x), r1, r2] (st) mem Post = (zvc E n zc_130 d xm_130 43 [some (1, x), r1, r2] ((1, x) :: st) mem Post) := zrf rfl
theorem s_130_43 {E : yE} {n d : Nat} {mem : yMem} {Post : Option yV → yMem → Prop} {st : List yV} {r0 r1 r2 : Option yV} : zvc E (n + 1) zc_130 d xm_130 43 [r0, r1, r2] ((1, 55) :: st) mem Post = (zvc E n zc_130 d xm_130 46 [r0, r1, r2] ((0, mem 55 3) :: st) mem Post) := zrf rfl
theorem s_130_46 {E : yE} {n d : Nat} {mem : yMem} {Post : Option yV → yMem → Prop} {st : List yV} {r0 r1 r2 : Option yV} {z j : Int} : zvc E (n + 1) zc_130 d xm_130 46 [r0, r1, r2] ((0, j) :: (1, z) :: st) mem Post = ((0 ≤ w32 j ∧ w32 j < ((zar z 1 : Nat) : Int)) ∧ zvc E n zc_130 d xm_130 47 [r0, r1, r2] ((0, mem z.toNat (w32 j).toNat) :: st) mem Post) := zrf rfl
theorem s_130_47 {E : yE} {n d : Nat} {mem : yMem} {Post : Option yV → yMem → Prop} {st : List yV} {r0 r1 r2 : Option yV} : zvc E (n + 1) zc_130 d xm_130 47 [r0, r1, r2] (st) mem Post = (zvc E n zc_130 d xm_130 49 [r0, r1, r2] ((0, 97) :: st) mem Post) := zrf rfl
theorem s_130_49 {E : yE} {n d : Nat} {mem : yMem} {Post : Option yV → yMem → Prop} {st : List yV} {r0 r1 r2 : Option yV} {x y : Int} : zvc E (n + 1) zc_130 d xm_130 49 [r0, r1, r2] ((0, y) :: (0, x) :: st) mem Post = (zvc E n zc_130 d xm_130 50 [r0, r1, r2] ((0, x - y) :: st) mem Post) := zrf rfl
theorem s_130_50 {E : yE} {n d : Nat} {mem : yMem} {Post : Option yV → yMem → Prop} {st : List yV} {r0 r1 r2 : Option yV} : zvc E (n + 1) zc_130 d xm_130 50 [r0, r1, r2] (st) mem Post = (zvc E n zc_130 d xm_130 51 [r0, r1, r2] ((0, 1) :: st) mem Post) := zrf rfl
theorem s_130_51 {E : yE} {n d : Nat} {mem : yMem} {Post : Option yV → yMem → Prop} {st : List yV} {r0 r1 r2 : Option yV} {x y : Int} : zvc E (n + 1) zc_130 d xm_130 51 [r0, r1, r2] ((0, y) :: (0, x) :: st) mem Post = (zvc E n zc_130 d xm_130 52 [r0, r1, r2] ((0, x + y) :: st) mem Post) := zrf rfl
theorem s_130_52 {E : yE} {n d : Nat} {mem : yMem} {Post : Option yV → yMem → Prop} {st : List yV} {r0 r2 : Option yV} {x : Int} : zvc E (n + 1) zc_130 d xm_130 52 [r0, some (0, x), r2] (st) mem Post = (zvc E n zc_130 d xm_130 53 [r0, some (0, x), r2] ((0, x) :: st) mem Post) := zrf rfl
theorem s_130_53 {E : yE} {n d : Nat} {mem : yMem} {Post : Option yV → yMem → Prop} {st : List yV} {r0 r1 r2 : Option yV} {x y : Int} : zvc E (n + 1) zc_130 d xm_130 53 [r0, r1, r2] ((0, y) :: (0, x) :: st) mem Post = (zvc E n zc_130 d xm_130 54 [r0, r1, r2] ((0, ybin 6 x y) :: st) mem Post) := zrf rfl
theorem s_130_54 {E : yE} {n d : Nat} {mem : yMem} {Post : Option yV → yMem → Prop} {st : List yV} {r0 r1 r2 : Option yV} {x y : Int} : zvc E (n + 1) zc_130 d xm_130 54 [r0, r1, r2] ((0, y) :: (0, x) :: st) mem Post = (zvc E n zc_130 d xm_130 55 [r0, r1, r2] ((0, ybin 4 x y) :: st) mem Post) := zrf rfl
theorem s_130_55 {E : yE} {n d : Nat} {mem : yMem} {Post : Option yV → yMem → Prop} {st : List yV} {r0 r1 r2 : Option yV} {x : Int} : zvc E (n + 1) zc_130 d xm_130 55 [r0, r1, r2] ((0, x) :: (1, 55) :: st) mem Post = (zvc E n zc_130 d xm_130 58 [r0, r1, r2] (st) (yset mem 55 6 x) Post) := zrf rfl
theorem s_130_58n {E : yE} {n d : Nat} {mem : yMem} {Post : Option yV → yMem → Prop} {st : List yV} {r2 : Option yV} {x : Int} : zvc E (n + 1) zc_130 d xm_130 58 [none, some (0, x), r2] (st) mem Post = (zvc E n zc_130 d xm_130 61 [none, some (0, x + (-5)), r2] (st) mem Post) := zrf rfl
theorem s_130_58i {E : yE} {n d : Nat} {mem : yMem} {Post : Option yV → yMem → Prop} {st : List yV} {r2 : Option yV} {x w : Int} : zvc E (n + 1) zc_130 d xm_130 58 [some (0, w), some (0, x), r2] (st) mem Post = (zvc E n zc_130 d xm_130 61 [some (0, w), some (0, x + (-5)), r2] (st) mem Post) := zrf rfl
theorem s_130_58p {E : yE} {n d : Nat} {mem : yMem} {Post : Option yV → yMem → Prop} {st : List yV} {r2 : Option yV} {x w : Int} : zvc E (n + 1) zc_130 d xm_130 58 [some (1, w), some (0, x), r2] (st) mem Post = (zvc E n zc_130 d xm_130 61 [some (1, w), some (0, x + (-5)), r2] (st) mem Post) := zrf rfl
theorem s_130_58j {E : yE} {n d : Nat} {mem : yMem} {Post : Option yV → yMem → Prop} {st : List yV} {r0 r2 : Option yV} {x : Int} : zvc E (n + 1) zc_130 d xm_130 58 [r0, some (0, x), r2] (st) mem Post = (zvc E n zc_130 d xm_130 61 [znl r0, some (0, x + (-5)), r2] (st) mem Post) := zrf rfl
theorem s_130_61 {E : yE} {n d : Nat} {mem : yMem} {Post : Option yV → yMem → Prop} {st : List yV} {r1 r2 : Option yV} {x : Int} : zvc E (n + 1) zc_130 d xm_130 61 [some (1, x), r1, r2] (st) mem Post = (zvc E n zc_130 d xm_130 62 [some (1, x), r1, r2] ((1, x) :: st) mem Post) := zrf rfl
theorem s_130_62a {E : yE} {n d : Nat} {mem : yMem} {Post : Option yV → yMem → Prop} {st : List yV} {r0 r1 r2 : Option yV} {x : Int} : zvc E (n + 1) zc_130 d xm_130 62 [r0, r1, r2] ((0, x) :: st) mem Post = (zvc E n zc_130 d xm_130 63 [r0, r1, r2] ((0, x) :: (0, x) :: st) mem Post) := zrf rfl
theorem s_130_62b {E : yE} {n d : Nat} {mem : yMem} {Post : Option yV → yMem → Prop} {st : List yV} {r0 r1 r2 : Option yV} {x : Int} : zvc E (n + 1) zc_130 d xm_130 62 [r0, r1, r2] ((1, x) :: st) mem Post = (zvc E n zc_130 d xm_130 63 [r0, r1, r2] ((1, x) :: (1, x) :: st) mem Post) := zrf rfl
theorem s_130_63 {E : yE} {n d : Nat} {mem : yMem} {Post : Option yV → yMem → Prop} {st : List yV} {r0 r1 r2 : Option yV} : zvc E (n + 1) zc_130 d xm_130 63 [r0, r1, r2] ((1, 55) :: st) mem Post = (zvc E n zc_130 d xm_130 66 [r0, r1, r2] ((0, mem 55 3) :: st) mem Post) := zrf rfl
theorem s_130_66 {E : yE} {n d : Nat} {mem : yMem} {Post : Option yV → yMem → Prop} {st : List yV} {r0 r1 r2 : Option yV} : zvc E (n + 1) zc_130 d xm_130 66 [r0, r1, r2] (st) mem Post = (zvc E n zc_130 d xm_130 67 [r0, r1, r2] ((0, 1) :: st) mem Post) := zrf rfl
theorem s_130_67 {E : yE} {n d : Nat} {mem : yMem} {Post : Option yV → yMem → Prop} {st : List yV} {r0 r1 r2 : Option yV} {x y : Int} : zvc E (n + 1) zc_130 d xm_130 67 [r0, r1, r2] ((0, y) :: (0, x) :: st) mem Post = (zvc E n zc_130 d xm_130 68 [r0, r1, r2] ((0, x + y) :: st) mem Post) := zrf rfl
theorem s_130_68 {E : yE} {n d : Nat} {mem : yMem} {Post : Option yV → yMem → Prop} {st : List yV} {r0 r1 r2 : Option yV} {x : Int} : zvc E (n + 1) zc_130 d xm_130 68 [r0, r1, r2] ((0, x) :: (1, 55) :: st) mem Post = (zvc E n zc_130 d xm_130 71 [r0, r1, r2] (st) (yset mem 55 3 x) Post) := zrf rfl
theorem s_130_71 {E : yE} {n d : Nat} {mem : yMem} {Post : Option yV → yMem → Prop} {st : List yV} {r0 r1 r2 : Option yV} : zvc E (n + 1) zc_130 d xm_130 71 [r0, r1, r2] (st) mem Post = (zvc E n zc_130 d xm_130 3 [r0, r1, r2] (st) mem Post) := zrf rfl
theorem s_130_74 {E : yE} {n d : Nat} {mem : yMem} {Post : Option yV → yMem → Prop} {st : List yV} {r1 r2 : Option yV} {x : Int} : zvc E (n + 1) zc_130 d xm_130 74 [some (1, x), r1, r2] (st) mem Post = (zvc E n zc_130 d xm_130 75 [some (1, x), r1, r2] ((1, x) :: st) mem Post) := zrf rfl
theorem s_130_75 {E : yE} {n d : Nat} {mem : yMem} {Post : Option yV → yMem → Prop} {st : List yV} {r0 r2 : Option yV} {x : Int} : zvc E (n + 1) zc_130 d xm_130 75 [r0, some (0, x), r2] (st) mem Post = (zvc E n zc_130 d xm_130 76 [r0, some (0, x), r2] ((0, x) :: st) mem Post) := zrf rfl
theorem s_130_76 {E : yE} {n d : Nat} {mem : yMem} {Post : Option yV → yMem → Prop} {st : List yV} {r0 r1 r2 : Option yV} : zvc E (n + 1) zc_130 d xm_130 76 [r0, r1, r2] (st) mem Post = (zvc E n zc_130 d xm_130 78 [r0, r1, r2] ((0, (-5)) :: st) mem Post) := zrf rfl
theorem s_130_78 {E : yE} {n d : Nat} {mem : yMem} {Post : Option yV → yMem → Prop} {st : List yV} {r0 r1 r2 : Option yV} {x y : Int} : zvc E (n + 1) zc_130 d xm_130 78 [r0, r1, r2] ((0, y) :: (0, x) :: st) mem Post = ((w32 x < w32 y → zvc E n zc_130 d xm_130 85 [r0, r1, r2] (st) mem Post) ∧ (¬ (w32 x < w32 y) → zvc E n zc_130 d xm_130 81 [r0, r1, r2] (st) mem Post)) := zrf rfl
theorem s_130_81 {E : yE} {n d : Nat} {mem : yMem} {Post : Option yV → yMem → Prop} {st : List yV} {r0 r1 r2 : Option yV} : zvc E (n + 1) zc_130 d xm_130 81 [r0, r1, r2] (st) mem Post = (zvc E n zc_130 d xm_130 82 [r0, r1, r2] ((0, 3) :: st) mem Post) := zrf rfl
theorem s_130_82 {E : yE} {n d : Nat} {mem : yMem} {Post : Option yV → yMem → Prop} {st : List yV} {r0 r1 r2 : Option yV} : zvc E (n + 1) zc_130 d xm_130 82 [r0, r1, r2] (st) mem Post = (zvc E n zc_130 d xm_130 86 [r0, r1, r2] (st) mem Post) := zrf rfl
theorem s_130_85 {E : yE} {n d : Nat} {mem : yMem} {Post : Option yV → yMem → Prop} {st : List yV} {r0 r1 r2 : Option yV} : zvc E (n + 1) zc_130 d xm_130 85 [r0, r1, r2] (st) mem Post = (zvc E n zc_130 d xm_130 86 [r0, r1, r2] ((0, 1) :: st) mem Post) := zrf rfl
theorem s_130_86 {E : yE} {n d : Nat} {mem : yMem} {Post : Option yV → yMem → Prop} {st : List yV} {r0 r1 r2 : Option yV} {x : Int} : zvc E (n + 1) zc_130 d xm_130 86 [r0, r1, r2] ((0, x) :: (1, 55) :: st) mem Post = (zvc E n zc_130 d xm_130 89 [r0, r1, r2] (st) (yset mem 55 4 x) Post) := zrf rfl
theorem s_130_89 {E : yE} {n d : Nat} {mem : yMem} {Post : Option yV → yMem → Prop} {st : List yV} {r0 r1 r2 : Option yV} : zvc E (n + 1) zc_130 d xm_130 89 [r0, r1, r2] (st) mem Post = (zvc E n zc_130 d xm_130 90 [r0, r1, r2] ((0, 0) :: st) mem Post) := zrf rfl
theorem s_130_90n {E : yE} {n d : Nat} {mem : yMem} {Post : Option yV → yMem → Prop} {st : List yV} {r0 r2 : Option yV} {x : Int} : zvc E (n + 1) zc_130 d xm_130 90 [r0, none, r2] ((0, x) :: st) mem Post = (zvc E n zc_130 d xm_130 91 [r0, none, some (0, x)] (st) mem Post) := zrf rfl
theorem s_130_90i {E : yE} {n d : Nat} {mem : yMem} {Post : Option yV → yMem → Prop} {st : List yV} {r0 r2 : Option yV} {x w : Int} : zvc E (n + 1) zc_130 d xm_130 90 [r0, some (0, w), r2] ((0, x) :: st) mem Post = (zvc E n zc_130 d xm_130 91 [r0, some (0, w), some (0, x)] (st) mem Post) := zrf rfl
theorem s_130_90p {E : yE} {n d : Nat} {mem : yMem} {Post : Option yV → yMem → Prop} {st : List yV} {r0 r2 : Option yV} {x w : Int} : zvc E (n + 1) zc_130 d xm_130 90 [r0, some (1, w), r2] ((0, x) :: st) mem Post = (zvc E n zc_130 d xm_130 91 [r0, some (1, w), some (0, x)] (st) mem Post) := zrf rfl
theorem s_130_90j {E : yE} {n d : Nat} {mem : yMem} {Post : Option yV → yMem → Prop} {st : List yV} {r0 r1 r2 : Option yV} {x : Int} : zvc E (n + 1) zc_130 d xm_130 90 [r0, r1, r2] ((0, x) :: st) mem Post = (zvc E n zc_130 d xm_130 91 [r0, znl r1, some (0, x)] (st) mem Post) := zrf rfl
theorem g_130_91 {E : yE} {n d : Nat} {mem : yMem} {Post : Option yV → yMem → Prop} {st : List yV} {r0 r1 : Option yV} {x : Int} : zgo E n zc_130 d xm_130 91 [r0, r1, some (0, x)] (st) mem Post = (zvc E n zc_130 d xm_130 92 [r0, r1, some (0, x)] ((0, x) :: st) mem Post) := zrf rfl
theorem k_130_91 {E : yE} {n d : Nat} {mem : yMem} {Post : Option yV → yMem → Prop} {st : List yV} {rg : zR} : zvc E (n + 1) zc_130 d xm_130 91 rg st mem Post = zG E d xm_130 91 rg st mem Post := zrf rfl
theorem s_130_92 {E : yE} {n d : Nat} {mem : yMem} {Post : Option yV → yMem → Prop} {st : List yV} {r0 r1 r2 : Option yV} : zvc E (n + 1) zc_130 d xm_130 92 [r0, r1, r2] (st) mem Post = (zvc E n zc_130 d xm_130 94 [r0, r1, r2] ((0, 23) :: st) mem Post) := zrf rfl
theorem s_130_94 {E : yE} {n d : Nat} {mem : yMem} {Post : Option yV → yMem → Prop} {st : List yV} {r0 r1 r2 : Option yV} {x y : Int} : zvc E (n + 1) zc_130 d xm_130 94 [r0, r1, r2] ((0, y) :: (0, x) :: st) mem Post = ((w32 y ≤ w32 x → zvc E n zc_130 d xm_130 132 [r0, r1, r2] (st) mem Post) ∧ (¬ (w32 y ≤ w32 x) → zvc E n zc_130 d xm_130 97 [r0, r1, r2] (st) mem Post)) := zrf rfl
theorem s_130_97 {E : yE} {n d : Nat} {mem : yMem} {Post : Option yV → yMem → Prop} {st : List yV} {r1 r2 : Option yV} {x : Int} : zvc E (n + 1) zc_130 d xm_130 97 [some (1, x), r1, r2] (st) mem Post = (zvc E n zc_130 d xm_130 98 [some (1, x), r1, r2] ((1, x) :: st) mem Post) := zrf rfl
theorem s_130_98 {E : yE} {n d : Nat} {mem : yMem} {Post : Option yV → yMem → Prop} {st : List yV} {r0 r1 r2 : Option yV} : zvc E (n + 1) zc_130 d xm_130 98 [r0, r1, r2] ((1, 55) :: st) mem Post = (zvc E n zc_130 d xm_130 101 [r0, r1, r2] ((0, mem 55 4) :: st) mem Post) := zrf rfl
theorem s_130_101 {E : yE} {n d : Nat} {mem : yMem} {Post : Option yV → yMem → Prop} {st : List yV} {r0 r1 r2 : Option yV} : zvc E (n + 1) zc_130 d xm_130 101 [r0, r1, r2] (st) mem Post = (zvc E n zc_130 d xm_130 102 [r0, r1, r2] ((0, 3) :: st) mem Post) := zrf rfl
theorem s_130_102 {E : yE} {n d : Nat} {mem : yMem} {Post : Option yV → yMem → Prop} {st : List yV} {r0 r1 r2 : Option yV} {x y : Int} : zvc E (n + 1) zc_130 d xm_130 102 [r0, r1, r2] ((0, y) :: (0, x) :: st) mem Post = ((¬ w32 x = w32 y → zvc E n zc_130 d xm_130 132 [r0, r1, r2] (st) mem Post) ∧ (¬ (¬ w32 x = w32 y) → zvc E n zc_130 d xm_130 105 [r0, r1, r2] (st) mem Post)) := zrf rfl
theorem s_130_105 {E : yE} {n d : Nat} {mem : yMem} {Post : Option yV → yMem → Prop} {st : List yV} {r1 r2 : Option yV} {x : Int} : zvc E (n + 1) zc_130 d xm_130 105 [some (1, x), r1, r2] (st) mem Post = (zvc E n zc_130 d xm_130 106 [some (1, x), r1, r2] ((1, x) :: st) mem Post) := zrf rfl
theorem s_130_106 {E : yE} {n d : Nat} {mem : yMem} {Post : Option yV → yMem → Prop} {st : List yV} {r0 r1 r2 : Option yV} : zvc E (n + 1) zc_130 d xm_130 106 [r0, r1, r2] ((1, 55) :: st) mem Post = (zvc E n zc_130 d xm_130 109 [r0, r1, r2] ((1, 56) :: st) mem Post) := zrf rfl
theorem s_130_109 {E : yE} {n d : Nat} {mem : yMem} {Post : Option yV → yMem → Prop} {st : List yV} {r0 r1 : Option yV} {x : Int} : zvc E (n + 1) zc_130 d xm_130 109 [r0, r1, some (0, x)] (st) mem Post = (zvc E n zc_130 d xm_130 110 [r0, r1, some (0, x)] ((0, x) :: st) mem Post) := zrf rfl
theorem s_130_110 {E : yE} {n d : Nat} {mem : yMem} {Post : Option yV → yMem → Prop} {st : List yV} {r0 r1 r2 : Option yV} {z j : Int} : zvc E (n + 1) zc_130 d xm_130 110 [r0, r1, r2] ((0, j) :: (1, z) :: st) mem Post = ((0 ≤ w32 j ∧ w32 j < ((zar z 0 : Nat) : Int)) ∧ zvc E n zc_130 d xm_130 111 [r0, r1, r2] ((0, mem z.toNat (w32 j).toNat) :: st) mem Post) := zrf rfl
theorem s_130_111 {E : yE} {n d : Nat} {mem : yMem} {Post : Option yV → yMem → Prop} {st : List yV} {r1 r2 : Option yV} {x : Int} : zvc E (n + 1) zc_130 d xm_130 111 [some (1, x), r1, r2] (st) mem Post = (zvc E n zc_130 d xm_130 112 [some (1, x), r1, r2] ((1, x) :: st) mem Post) := zrf rfl
theorem s_130_112 {E : yE} {n d : Nat} {mem : yMem} {Post : Option yV → yMem → Prop} {st : List yV} {r0 r1 r2 : Option yV} : zvc E (n + 1) zc_130 d xm_130 112 [r0, r1, r2] ((1, 55) :: st) mem Post = (zvc E n zc_130 d xm_130 115 [r0, r1, r2] ((0, mem 55 6) :: st) mem Post) := zrf rfl
theorem s_130_115 {E : yE} {n d : Nat} {mem : yMem} {Post : Option yV → yMem → Prop} {st : List yV} {r0 r1 r2 : Option yV} {x y : Int} : zvc E (n + 1) zc_130 d xm_130 115 [r0, r1, r2] ((0, y) :: (0, x) :: st) mem Post = ((¬ w32 x = w32 y → zvc E n zc_130 d xm_130 126 [r0, r1, r2] (st) mem Post) ∧ (¬ (¬ w32 x = w32 y) → zvc E n zc_130 d xm_130 118 [r0, r1, r2] (st) mem Post)) := zrf rfl
theorem s_130_118 {E : yE} {n d : Nat} {mem : yMem} {Post : Option yV → yMem → Prop} {st : List yV} {r1 r2 : Option yV} {x : Int} : zvc E (n + 1) zc_130 d xm_130 118 [some (1, x), r1, r2] (st) mem Post = (zvc E n zc_130 d xm_130 119 [some (1, x), r1, r2] ((1, x) :: st) mem Post) := zrf rfl
theorem s_130_119 {E : yE} {n d : Nat} {mem : yMem} {Post : Option yV → yMem → Prop} {st : List yV} {r0 r1 r2 : Option yV} : zvc E (n + 1) zc_130 d xm_130 119 [r0, r1, r2] (st) mem Post = (zvc E n zc_130 d xm_130 121 [r0, r1, r2] ((0, 17) :: st) mem Post) := zrf rfl
theorem s_130_121 {E : yE} {n d : Nat} {mem : yMem} {Post : Option yV → yMem → Prop} {st : List yV} {r0 r1 : Option yV} {x : Int} : zvc E (n + 1) zc_130 d xm_130 121 [r0, r1, some (0, x)] (st) mem Post = (zvc E n zc_130 d xm_130 122 [r0, r1, some (0, x)] ((0, x) :: st) mem Post) := zrf rfl
theorem s_130_122 {E : yE} {n d : Nat} {mem : yMem} {Post : Option yV → yMem → Prop} {st : List yV} {r0 r1 r2 : Option yV} {x y : Int} : zvc E (n + 1) zc_130 d xm_130 122 [r0, r1, r2] ((0, y) :: (0, x) :: st) mem Post = (zvc E n zc_130 d xm_130 123 [r0, r1, r2] ((0, x + y) :: st) mem Post) := zrf rfl
theorem s_130_123 {E : yE} {n d : Nat} {mem : yMem} {Post : Option yV → yMem → Prop} {st : List yV} {r0 r1 r2 : Option yV} {x : Int} : zvc E (n + 1) zc_130 d xm_130 123 [r0, r1, r2] ((0, x) :: (1, 55) :: st) mem Post = (zvc E n zc_130 d xm_130 126 [r0, r1, r2] (st) (yset mem 55 4 x) Post) := zrf rfl
theorem s_130_126n {E : yE} {n d : Nat} {mem : yMem} {Post : Option yV → yMem → Prop} {st : List yV} {r0 : Option yV} {x : Int} : zvc E (n + 1) zc_130 d xm_130 126 [r0, none, some (0, x)] (st) mem Post = (zvc E n zc_130 d xm_130 129 [r0, none, some (0, x + 1)] (st) mem Post) := zrf rfl
theorem s_130_126i {E : yE} {n d : Nat} {mem : yMem} {Post : Option yV → yMem → Prop} {st : List yV} {r0 : Option yV} {x w : Int} : zvc E (n + 1) zc_130 d xm_130 126 [r0, some (0, w), some (0, x)] (st) mem Post = (zvc E n zc_130 d xm_130 129 [r0, some (0, w), some (0, x + 1)] (st) mem Post) := zrf rfl
theorem s_130_126p {E : yE} {n d : Nat} {mem : yMem} {Post : Option yV → yMem → Prop} {st : List yV} {r0 : Option yV} {x w : Int} : zvc E (n + 1) zc_130 d xm_130 126 [r0, some (1, w), some (0, x)] (st) mem Post = (zvc E n zc_130 d xm_130 129 [r0, some (1, w), some (0, x + 1)] (st) mem Post) := zrf rfl
theorem s_130_126j {E : yE} {n d : Nat} {mem : yMem} {Post : Option yV → yMem → Prop} {st : List yV} {r0 r1 : Option yV} {x : Int} : zvc E (n + 1) zc_130 d xm_130 126 [r0, r1, some (0, x)] (st) mem Post = (zvc E n zc_130 d xm_130 129 [r0, znl r1, some (0, x + 1)] (st) mem Post) := zrf rfl
theorem s_130_129 {E : yE} {n d : Nat} {mem : yMem} {Post : Option yV → yMem → Prop} {st : List yV} {r0 r1 r2 : Option yV} : zvc E (n + 1) zc_130 d xm_130 129 [r0, r1, r2] (st) mem Post = (zvc E n zc_130 d xm_130 91 [r0, r1, r2] (st) mem Post) := zrf rfl
theorem s_130_132 {E : yE} {n d : Nat} {mem : yMem} {Post : Option yV → yMem → Prop} {r0 r1 r2 : Option yV} : zvc E (n + 1) zc_130 d xm_130 132 [r0, r1, r2] ([]) mem Post = (Post none mem) := zrf rfl
def zc_129 : List Nat := [28]
theorem s_129_0 {E : yE} {n d : Nat} {mem : yMem} {Post : Option yV → yMem → Prop} {st : List yV} {r1 r2 : Option yV} {x : Int} : zvc E (n + 1) zc_129 d xm_129 0 [some (1, x), r1, r2] (st) mem Post = (zvc E n zc_129 d xm_129 1 [some (1, x), r1, r2] ((1, x) :: st) mem Post) := zrf rfl
theorem s_129_1 {E : yE} {n d : Nat} {mem : yMem} {Post : Option yV → yMem → Prop} {st : List yV} {r0 r1 r2 : Option yV} : zvc E (n + 1) zc_129 d xm_129 1 [r0, r1, r2] ((1, 55) :: st) mem Post = (zvc E n zc_129 d xm_129 4 [r0, r1, r2] ((0, mem 55 3) :: st) mem Post) := zrf rfl
theorem s_129_4 {E : yE} {n d : Nat} {mem : yMem} {Post : Option yV → yMem → Prop} {st : List yV} {r0 r1 r2 : Option yV} : zvc E (n + 1) zc_129 d xm_129 4 [r0, r1, r2] (st) mem Post = (zvc E n zc_129 d xm_129 5 [r0, r1, r2] ((0, 1) :: st) mem Post) := zrf rfl
theorem s_129_5 {E : yE} {n d : Nat} {mem : yMem} {Post : Option yV → yMem → Prop} {st : List yV} {r0 r1 r2 : Option yV} {x y : Int} : zvc E (n + 1) zc_129 d xm_129 5 [r0, r1, r2] ((0, y) :: (0, x) :: st) mem Post = (zvc E n zc_129 d xm_129 6 [r0, r1, r2] ((0, x + y) :: st) mem Post) := zrf rfl
theorem s_129_6 {E : yE} {n d : Nat} {mem : yMem} {Post : Option yV → yMem → Prop} {st : List yV} {r1 r2 : Option yV} {x : Int} : zvc E (n + 1) zc_129 d xm_129 6 [some (1, x), r1, r2] (st) mem Post = (zvc E n zc_129 d xm_129 7 [some (1, x), r1, r2] ((1, x) :: st) mem Post) := zrf rfl
theorem s_129_7 {E : yE} {n d : Nat} {mem : yMem} {Post : Option yV → yMem → Prop} {st : List yV} {r0 r1 r2 : Option yV} : zvc E (n + 1) zc_129 d xm_129 7 [r0, r1, r2] ((1, 55) :: st) mem Post = (zvc E n zc_129 d xm_129 10 [r0, r1, r2] ((0, mem 55 2) :: st) mem Post) := zrf rfl
theorem s_129_10 {E : yE} {n d : Nat} {mem : yMem} {Post : Option yV → yMem → Prop} {st : List yV} {r0 r1 r2 : Option yV} {x y : Int} : zvc E (n + 1) zc_129 d xm_129 10 [r0, r1, r2] ((0, y) :: (0, x) :: st) mem Post = ((w32 y ≤ w32 x → zvc E n zc_129 d xm_129 27 [r0, r1, r2] (st) mem Post) ∧ (¬ (w32 y ≤ w32 x) → zvc E n zc_129 d xm_129 13 [r0, r1, r2] (st) mem Post)) := zrf rfl
theorem s_129_13 {E : yE} {n d : Nat} {mem : yMem} {Post : Option yV → yMem → Prop} {st : List yV} {r1 r2 : Option yV} {x : Int} : zvc E (n + 1) zc_129 d xm_129 13 [some (1, x), r1, r2] (st) mem Post = (zvc E n zc_129 d xm_129 14 [some (1, x), r1, r2] ((1, x) :: st) mem Post) := zrf rfl
theorem s_129_14 {E : yE} {n d : Nat} {mem : yMem} {Post : Option yV → yMem → Prop} {st : List yV} {r0 r1 r2 : Option yV} : zvc E (n + 1) zc_129 d xm_129 14 [r0, r1, r2] ((1, 55) :: st) mem Post = (zvc E n zc_129 d xm_129 17 [r0, r1, r2] ((1, 1) :: st) mem Post) := zrf rfl
theorem s_129_17 {E : yE} {n d : Nat} {mem : yMem} {Post : Option yV → yMem → Prop} {st : List yV} {r1 r2 : Option yV} {x : Int} : zvc E (n + 1) zc_129 d xm_129 17 [some (1, x), r1, r2] (st) mem Post = (zvc E n zc_129 d xm_129 18 [some (1, x), r1, r2] ((1, x) :: st) mem Post) := zrf rfl
theorem s_129_18 {E : yE} {n d : Nat} {mem : yMem} {Post : Option yV → yMem → Prop} {st : List yV} {r0 r1 r2 : Option yV} : zvc E (n + 1) zc_129 d xm_129 18 [r0, r1, r2] ((1, 55) :: st) mem Post = (zvc E n zc_129 d xm_129 21 [r0, r1, r2] ((0, mem 55 3) :: st) mem Post) := zrf rfl
theorem s_129_21 {E : yE} {n d : Nat} {mem : yMem} {Post : Option yV → yMem → Prop} {st : List yV} {r0 r1 r2 : Option yV} : zvc E (n + 1) zc_129 d xm_129 21 [r0, r1, r2] (st) mem Post = (zvc E n zc_129 d xm_129 22 [r0, r1, r2] ((0, 1) :: st) mem Post) := zrf rfl
theorem s_129_22 {E : yE} {n d : Nat} {mem : yMem} {Post : Option yV → yMem → Prop} {st : List yV} {r0 r1 r2 : Option yV} {x y : Int} : zvc E (n + 1) zc_129 d xm_129 22 [r0, r1, r2] ((0, y) :: (0, x) :: st) mem Post = (zvc E n zc_129 d xm_129 23 [r0, r1, r2] ((0, x + y) :: st) mem Post) := zrf rfl
theorem s_129_23 {E : yE} {n d : Nat} {mem : yMem} {Post : Option yV → yMem → Prop} {st : List yV} {r0 r1 r2 : Option yV} {z j : Int} : zvc E (n + 1) zc_129 d xm_129 23 [r0, r1, r2] ((0, j) :: (1, z) :: st) mem Post = ((0 ≤ w32 j ∧ w32 j < ((zar z 1 : Nat) : Int)) ∧ zvc E n zc_129 d xm_129 24 [r0, r1, r2] ((0, mem z.toNat (w32 j).toNat) :: st) mem Post) := zrf rfl
theorem s_129_24 {E : yE} {n d : Nat} {mem : yMem} {Post : Option yV → yMem → Prop} {st : List yV} {r0 r1 r2 : Option yV} : zvc E (n + 1) zc_129 d xm_129 24 [r0, r1, r2] (st) mem Post = (zvc E n zc_129 d xm_129 28 [r0, r1, r2] (st) mem Post) := zrf rfl
theorem s_129_27 {E : yE} {n d : Nat} {mem : yMem} {Post : Option yV → yMem → Prop} {st : List yV} {r0 r1 r2 : Option yV} : zvc E (n + 1) zc_129 d xm_129 27 [r0, r1, r2] (st) mem Post = (zvc E n zc_129 d xm_129 28 [r0, r1, r2] ((0, 0) :: st) mem Post) := zrf rfl
theorem g_129_28n {E : yE} {n d : Nat} {mem : yMem} {Post : Option yV → yMem → Prop} {st : List yV} {r1 r2 : Option yV} {x : Int} : zgo E n zc_129 d xm_129 28 [none, r1, r2] ((0, x) :: st) mem Post = (zvc E n zc_129 d xm_129 29 [none, some (0, x), r2] (st) mem Post) := zrf rfl
theorem g_129_28i {E : yE} {n d : Nat} {mem : yMem} {Post : Option yV → yMem → Prop} {st : List yV} {r1 r2 : Option yV} {x w : Int} : zgo E n zc_129 d xm_129 28 [some (0, w), r1, r2] ((0, x) :: st) mem Post = (zvc E n zc_129 d xm_129 29 [some (0, w), some (0, x), r2] (st) mem Post) := zrf rfl
theorem g_129_28p {E : yE} {n d : Nat} {mem : yMem} {Post : Option yV → yMem → Prop} {st : List yV} {r1 r2 : Option yV} {x w : Int} : zgo E n zc_129 d xm_129 28 [some (1, w), r1, r2] ((0, x) :: st) mem Post = (zvc E n zc_129 d xm_129 29 [some (1, w), some (0, x), r2] (st) mem Post) := zrf rfl
theorem k_129_28 {E : yE} {n d : Nat} {mem : yMem} {Post : Option yV → yMem → Prop} {st : List yV} {rg : zR} : zvc E (n + 1) zc_129 d xm_129 28 rg st mem Post = zG E d xm_129 28 rg st mem Post := zrf rfl
theorem s_129_29 {E : yE} {n d : Nat} {mem : yMem} {Post : Option yV → yMem → Prop} {st : List yV} {r1 r2 : Option yV} {x : Int} : zvc E (n + 1) zc_129 d xm_129 29 [some (1, x), r1, r2] (st) mem Post = (zvc E n zc_129 d xm_129 30 [some (1, x), r1, r2] ((1, x) :: st) mem Post) := zrf rfl
theorem s_129_30 {E : yE} {n d : Nat} {mem : yMem} {Post : Option yV → yMem → Prop} {st : List yV} {r1 r2 : Option yV} {x : Int} : zvc E (n + 1) zc_129 d xm_129 30 [some (1, x), r1, r2] (st) mem Post = (zvc E n zc_129 d xm_129 31 [some (1, x), r1, r2] ((1, x) :: st) mem Post) := zrf rfl
theorem s_129_31 {E : yE} {n d : Nat} {mem : yMem} {Post : Option yV → yMem → Prop} {st : List yV} {r0 r1 r2 : Option yV} : zvc E (n + 1) zc_129 d xm_129 31 [r0, r1, r2] ((1, 55) :: st) mem Post = (zvc E n zc_129 d xm_129 34 [r0, r1, r2] ((1, 1) :: st) mem Post) := zrf rfl
theorem s_129_34 {E : yE} {n d : Nat} {mem : yMem} {Post : Option yV → yMem → Prop} {st : List yV} {r1 r2 : Option yV} {x : Int} : zvc E (n + 1) zc_129 d xm_129 34 [some (1, x), r1, r2] (st) mem Post = (zvc E n zc_129 d xm_129 35 [some (1, x), r1, r2] ((1, x) :: st) mem Post) := zrf rfl
theorem s_129_35 {E : yE} {n d : Nat} {mem : yMem} {Post : Option yV → yMem → Prop} {st : List yV} {r0 r1 r2 : Option yV} : zvc E (n + 1) zc_129 d xm_129 35 [r0, r1, r2] ((1, 55) :: st) mem Post = (zvc E n zc_129 d xm_129 38 [r0, r1, r2] ((0, mem 55 3) :: st) mem Post) := zrf rfl
theorem s_129_38 {E : yE} {n d : Nat} {mem : yMem} {Post : Option yV → yMem → Prop} {st : List yV} {r0 r1 r2 : Option yV} {z j : Int} : zvc E (n + 1) zc_129 d xm_129 38 [r0, r1, r2] ((0, j) :: (1, z) :: st) mem Post = ((0 ≤ w32 j ∧ w32 j < ((zar z 1 : Nat) : Int)) ∧ zvc E n zc_129 d xm_129 39 [r0, r1, r2] ((0, mem z.toNat (w32 j).toNat) :: st) mem Post) := zrf rfl
theorem s_129_39 {E : yE} {n d : Nat} {mem : yMem} {Post : Option yV → yMem → Prop} {st : List yV} {r0 r2 : Option yV} {x : Int} : zvc E (n + 1) zc_129 d xm_129 39 [r0, some (0, x), r2] (st) mem Post = (zvc E n zc_129 d xm_129 40 [r0, some (0, x), r2] ((0, x) :: st) mem Post) := zrf rfl
theorem s_129_40 {E : yE} {n d : Nat} {mem : yMem} {Post : Option yV → yMem → Prop} {st : List yV} {r0 r1 r2 : Option yV} {a0 a1 : Int} : zvc E (n + 1) zc_129 d xm_129 40 [r0, r1, r2] ((0, a1) :: (0, a0) :: st) mem Post = (True ∧ ysum st ≤ 8 ∧ yCon E d xm_131 [(0, a0), (0, a1)] mem (fun v mem' => zgk E d xm_129 43 [r0, r1, r2] st v mem' Post)) := zrf rfl
theorem s_129_43 {E : yE} {n d : Nat} {mem : yMem} {Post : Option yV → yMem → Prop} {st : List yV} {r0 r1 r2 : Option yV} {x : Int} : zvc E (n + 1) zc_129 d xm_129 43 [r0, r1, r2] ((0, x) :: (1, 55) :: st) mem Post = (zvc E n zc_129 d xm_129 46 [r0, r1, r2] (st) (yset mem 55 4 x) Post) := zrf rfl
theorem s_129_46 {E : yE} {n d : Nat} {mem : yMem} {Post : Option yV → yMem → Prop} {st : List yV} {r1 r2 : Option yV} {x : Int} : zvc E (n + 1) zc_129 d xm_129 46 [some (1, x), r1, r2] (st) mem Post = (zvc E n zc_129 d xm_129 47 [some (1, x), r1, r2] ((1, x) :: st) mem Post) := zrf rfl
theorem s_129_47 {E : yE} {n d : Nat} {mem : yMem} {Post : Option yV → yMem → Prop} {st : List yV} {r0 r1 r2 : Option yV} : zvc E (n + 1) zc_129 d xm_129 47 [r0, r1, r2] ((1, 55) :: st) mem Post = (zvc E n zc_129 d xm_129 50 [r0, r1, r2] ((0, mem 55 4) :: st) mem Post) := zrf rfl
theorem s_129_50 {E : yE} {n d : Nat} {mem : yMem} {Post : Option yV → yMem → Prop} {st : List yV} {r0 r1 r2 : Option yV} : zvc E (n + 1) zc_129 d xm_129 50 [r0, r1, r2] (st) mem Post = (zvc E n zc_129 d xm_129 52 [r0, r1, r2] ((0, 8) :: st) mem Post) := zrf rfl
theorem s_129_52 {E : yE} {n d : Nat} {mem : yMem} {Post : Option yV → yMem → Prop} {st : List yV} {r0 r1 r2 : Option yV} {x y : Int} : zvc E (n + 1) zc_129 d xm_129 52 [r0, r1, r2] ((0, y) :: (0, x) :: st) mem Post = ((w32 x = w32 y → zvc E n zc_129 d xm_129 73 [r0, r1, r2] (st) mem Post) ∧ (¬ (w32 x = w32 y) → zvc E n zc_129 d xm_129 55 [r0, r1, r2] (st) mem Post)) := zrf rfl
theorem s_129_55 {E : yE} {n d : Nat} {mem : yMem} {Post : Option yV → yMem → Prop} {st : List yV} {r1 r2 : Option yV} {x : Int} : zvc E (n + 1) zc_129 d xm_129 55 [some (1, x), r1, r2] (st) mem Post = (zvc E n zc_129 d xm_129 56 [some (1, x), r1, r2] ((1, x) :: st) mem Post) := zrf rfl
theorem s_129_56 {E : yE} {n d : Nat} {mem : yMem} {Post : Option yV → yMem → Prop} {st : List yV} {r0 r1 r2 : Option yV} : zvc E (n + 1) zc_129 d xm_129 56 [r0, r1, r2] ((1, 55) :: st) mem Post = (zvc E n zc_129 d xm_129 59 [r0, r1, r2] ((0, mem 55 4) :: st) mem Post) := zrf rfl
theorem s_129_59 {E : yE} {n d : Nat} {mem : yMem} {Post : Option yV → yMem → Prop} {st : List yV} {r0 r1 r2 : Option yV} : zvc E (n + 1) zc_129 d xm_129 59 [r0, r1, r2] (st) mem Post = (zvc E n zc_129 d xm_129 61 [r0, r1, r2] ((0, 10) :: st) mem Post) := zrf rfl
theorem s_129_61 {E : yE} {n d : Nat} {mem : yMem} {Post : Option yV → yMem → Prop} {st : List yV} {r0 r1 r2 : Option yV} {x y : Int} : zvc E (n + 1) zc_129 d xm_129 61 [r0, r1, r2] ((0, y) :: (0, x) :: st) mem Post = ((w32 x = w32 y → zvc E n zc_129 d xm_129 73 [r0, r1, r2] (st) mem Post) ∧ (¬ (w32 x = w32 y) → zvc E n zc_129 d xm_129 64 [r0, r1, r2] (st) mem Post)) := zrf rfl
theorem s_129_64 {E : yE} {n d : Nat} {mem : yMem} {Post : Option yV → yMem → Prop} {st : List yV} {r1 r2 : Option yV} {x : Int} : zvc E (n + 1) zc_129 d xm_129 64 [some (1, x), r1, r2] (st) mem Post = (zvc E n zc_129 d xm_129 65 [some (1, x), r1, r2] ((1, x) :: st) mem Post) := zrf rfl
theorem s_129_65 {E : yE} {n d : Nat} {mem : yMem} {Post : Option yV → yMem → Prop} {st : List yV} {r0 r1 r2 : Option yV} : zvc E (n + 1) zc_129 d xm_129 65 [r0, r1, r2] ((1, 55) :: st) mem Post = (zvc E n zc_129 d xm_129 68 [r0, r1, r2] ((0, mem 55 4) :: st) mem Post) := zrf rfl
theorem s_129_68 {E : yE} {n d : Nat} {mem : yMem} {Post : Option yV → yMem → Prop} {st : List yV} {r0 r1 r2 : Option yV} : zvc E (n + 1) zc_129 d xm_129 68 [r0, r1, r2] (st) mem Post = (zvc E n zc_129 d xm_129 70 [r0, r1, r2] ((0, 11) :: st) mem Post) := zrf rfl
theorem s_129_70 {E : yE} {n d : Nat} {mem : yMem} {Post : Option yV → yMem → Prop} {st : List yV} {r0 r1 r2 : Option yV} {x y : Int} : zvc E (n + 1) zc_129 d xm_129 70 [r0, r1, r2] ((0, y) :: (0, x) :: st) mem Post = ((¬ w32 x = w32 y → zvc E n zc_129 d xm_129 77 [r0, r1, r2] (st) mem Post) ∧ (¬ (¬ w32 x = w32 y) → zvc E n zc_129 d xm_129 73 [r0, r1, r2] (st) mem Post)) := zrf rfl
theorem s_129_73 {E : yE} {n d : Nat} {mem : yMem} {Post : Option yV → yMem → Prop} {st : List yV} {r0 r1 r2 : Option yV} : zvc E (n + 1) zc_129 d xm_129 73 [r0, r1, r2] (st) mem Post = (zvc E n zc_129 d xm_129 74 [r0, r1, r2] ((0, 1) :: st) mem Post) := zrf rfl
theorem s_129_74 {E : yE} {n d : Nat} {mem : yMem} {Post : Option yV → yMem → Prop} {st : List yV} {r0 r1 r2 : Option yV} : zvc E (n + 1) zc_129 d xm_129 74 [r0, r1, r2] (st) mem Post = (zvc E n zc_129 d xm_129 78 [r0, r1, r2] (st) mem Post) := zrf rfl
theorem s_129_77 {E : yE} {n d : Nat} {mem : yMem} {Post : Option yV → yMem → Prop} {st : List yV} {r0 r1 r2 : Option yV} : zvc E (n + 1) zc_129 d xm_129 77 [r0, r1, r2] (st) mem Post = (zvc E n zc_129 d xm_129 78 [r0, r1, r2] ((0, 0) :: st) mem Post) := zrf rfl
theorem s_129_78n {E : yE} {n d : Nat} {mem : yMem} {Post : Option yV → yMem → Prop} {st : List yV} {r0 r2 : Option yV} {x : Int} : zvc E (n + 1) zc_129 d xm_129 78 [r0, none, r2] ((0, x) :: st) mem Post = (zvc E n zc_129 d xm_129 79 [r0, none, some (0, x)] (st) mem Post) := zrf rfl
theorem s_129_78i {E : yE} {n d : Nat} {mem : yMem} {Post : Option yV → yMem → Prop} {st : List yV} {r0 r2 : Option yV} {x w : Int} : zvc E (n + 1) zc_129 d xm_129 78 [r0, some (0, w), r2] ((0, x) :: st) mem Post = (zvc E n zc_129 d xm_129 79 [r0, some (0, w), some (0, x)] (st) mem Post) := zrf rfl
theorem s_129_78p {E : yE} {n d : Nat} {mem : yMem} {Post : Option yV → yMem → Prop} {st : List yV} {r0 r2 : Option yV} {x w : Int} : zvc E (n + 1) zc_129 d xm_129 78 [r0, some (1, w), r2] ((0, x) :: st) mem Post = (zvc E n zc_129 d xm_129 79 [r0, some (1, w), some (0, x)] (st) mem Post) := zrf rfl
theorem s_129_79 {E : yE} {n d : Nat} {mem : yMem} {Post : Option yV → yMem → Prop} {st : List yV} {r1 r2 : Option yV} {x : Int} : zvc E (n + 1) zc_129 d xm_129 79 [some (1, x), r1, r2] (st) mem Post = (zvc E n zc_129 d xm_129 80 [some (1, x), r1, r2] ((1, x) :: st) mem Post) := zrf rfl
theorem s_129_80a {E : yE} {n d : Nat} {mem : yMem} {Post : Option yV → yMem → Prop} {st : List yV} {r0 r1 r2 : Option yV} {x : Int} : zvc E (n + 1) zc_129 d xm_129 80 [r0, r1, r2] ((0, x) :: st) mem Post = (zvc E n zc_129 d xm_129 81 [r0, r1, r2] ((0, x) :: (0, x) :: st) mem Post) := zrf rfl
theorem s_129_80b {E : yE} {n d : Nat} {mem : yMem} {Post : Option yV → yMem → Prop} {st : List yV} {r0 r1 r2 : Option yV} {x : Int} : zvc E (n + 1) zc_129 d xm_129 80 [r0, r1, r2] ((1, x) :: st) mem Post = (zvc E n zc_129 d xm_129 81 [r0, r1, r2] ((1, x) :: (1, x) :: st) mem Post) := zrf rfl
theorem s_129_81 {E : yE} {n d : Nat} {mem : yMem} {Post : Option yV → yMem → Prop} {st : List yV} {r0 r1 r2 : Option yV} : zvc E (n + 1) zc_129 d xm_129 81 [r0, r1, r2] ((1, 55) :: st) mem Post = (zvc E n zc_129 d xm_129 84 [r0, r1, r2] ((0, mem 55 3) :: st) mem Post) := zrf rfl
theorem s_129_84 {E : yE} {n d : Nat} {mem : yMem} {Post : Option yV → yMem → Prop} {st : List yV} {r0 r1 : Option yV} {x : Int} : zvc E (n + 1) zc_129 d xm_129 84 [r0, r1, some (0, x)] (st) mem Post = (zvc E n zc_129 d xm_129 85 [r0, r1, some (0, x)] ((0, x) :: st) mem Post) := zrf rfl
theorem s_129_85 {E : yE} {n d : Nat} {mem : yMem} {Post : Option yV → yMem → Prop} {st : List yV} {r0 r1 r2 : Option yV} {x : Int} : zvc E (n + 1) zc_129 d xm_129 85 [r0, r1, r2] ((0, x) :: st) mem Post = ((w32 x = w32 0 → zvc E n zc_129 d xm_129 92 [r0, r1, r2] (st) mem Post) ∧ (¬ (w32 x = w32 0) → zvc E n zc_129 d xm_129 88 [r0, r1, r2] (st) mem Post)) := zrf rfl
theorem s_129_88 {E : yE} {n d : Nat} {mem : yMem} {Post : Option yV → yMem → Prop} {st : List yV} {r0 r1 r2 : Option yV} : zvc E (n + 1) zc_129 d xm_129 88 [r0, r1, r2] (st) mem Post = (zvc E n zc_129 d xm_129 89 [r0, r1, r2] ((0, 2) :: st) mem Post) := zrf rfl
theorem s_129_89 {E : yE} {n d : Nat} {mem : yMem} {Post : Option yV → yMem → Prop} {st : List yV} {r0 r1 r2 : Option yV} : zvc E (n + 1) zc_129 d xm_129 89 [r0, r1, r2] (st) mem Post = (zvc E n zc_129 d xm_129 93 [r0, r1, r2] (st) mem Post) := zrf rfl
theorem s_129_92 {E : yE} {n d : Nat} {mem : yMem} {Post : Option yV → yMem → Prop} {st : List yV} {r0 r1 r2 : Option yV} : zvc E (n + 1) zc_129 d xm_129 92 [r0, r1, r2] (st) mem Post = (zvc E n zc_129 d xm_129 93 [r0, r1, r2] ((0, 1) :: st) mem Post) := zrf rfl
theorem s_129_93 {E : yE} {n d : Nat} {mem : yMem} {Post : Option yV → yMem → Prop} {st : List yV} {r0 r1 r2 : Option yV} {x y : Int} : zvc E (n + 1) zc_129 d xm_129 93 [r0, r1, r2] ((0, y) :: (0, x) :: st) mem Post = (zvc E n zc_129 d xm_129 94 [r0, r1, r2] ((0, x + y) :: st) mem Post) := zrf rfl
theorem s_129_94 {E : yE} {n d : Nat} {mem : yMem} {Post : Option yV → yMem → Prop} {st : List yV} {r0 r1 r2 : Option yV} {x : Int} : zvc E (n + 1) zc_129 d xm_129 94 [r0, r1, r2] ((0, x) :: (1, 55) :: st) mem Post = (zvc E n zc_129 d xm_129 97 [r0, r1, r2] (st) (yset mem 55 3 x) Post) := zrf rfl
theorem s_129_97 {E : yE} {n d : Nat} {mem : yMem} {Post : Option yV → yMem → Prop} {r0 r1 r2 : Option yV} : zvc E (n + 1) zc_129 d xm_129 97 [r0, r1, r2] ([]) mem Post = (Post none mem) := zrf rfl
theorem s_131_0 {E : yE} {n d : Nat} {mem : yMem} {Post : Option yV → yMem → Prop} {st : List yV} {r1 : Option yV} {x : Int} : zvc E (n + 1) [] d xm_131 0 [some (0, x), r1] (st) mem Post = (zvc E n [] d xm_131 1 [some (0, x), r1] ((0, x) :: st) mem Post) := zrf rfl
theorem s_131_1 {E : yE} {n d : Nat} {mem : yMem} {Post : Option yV → yMem → Prop} {st : List yV} {r0 r1 : Option yV} {x : Int} : zvc E (n + 1) [] d xm_131 1 [r0, r1] ((0, x) :: st) mem Post = ((w32 x = 40 → zvc E n [] d xm_131 110 [r0, r1] (st) mem Post) ∧ (¬ w32 x = 40 → (w32 x = 41 → zvc E n [] d xm_131 112 [r0, r1] (st) mem Post) ∧ (¬ w32 x = 41 → (w32 x = 42 → zvc E n [] d xm_131 163 [r0, r1] (st) mem Post) ∧ (¬ w32 x = 42 → (w32 x = 43 → zvc E n [] d xm_131 157 [r0, r1] (st) mem Post) ∧ (¬ w32 x = 43 → (w32 x = 44 → zvc E n [] d xm_131 169 [r0, r1] (st) mem Post) ∧ (¬ w32 x = 44 → (w32 x = 45 → zvc E n [] d xm_131 160 [r0, r1] (st) mem Post) ∧ (¬ w32 x = 45 → (w32 x = 46 → zvc E n [] d xm_131 169 [r0, r1] (st) mem Post) ∧ (¬ w32 x = 46 → (w32 x = 47 → zvc E n [] d xm_131 166 [r0, r1] (st) mem Post) ∧ (¬ w32 x = 47 → (w32 x = 48 → zvc E n [] d xm_131 169 [r0, r1] (st) mem Post) ∧ (¬ w32 x = 48 → (w32 x = 49 → zvc E n [] d xm_131 169 [r0, r1] (st) mem Post) ∧ (¬ w32 x = 49 → (w32 x = 50 → zvc E n [] d xm_131 169 [r0, r1] (st) mem Post) ∧ (¬ w32 x = 50 → (w32 x = 51 → zvc E n [] d xm_131 169 [r0, r1] (st) mem Post) ∧ (¬ w32 x = 51 → (w32 x = 52 → zvc E n [] d xm_131 169 [r0, r1] (st) mem Post) ∧ (¬ w32 x = 52 → (w32 x = 53 → zvc E n [] d xm_131 169 [r0, r1] (st) mem Post) ∧ (¬ w32 x = 53 → (w32 x = 54 → zvc E n [] d xm_131 169 [r0, r1] (st) mem Post) ∧ (¬ w32 x = 54 → (w32 x = 55 → zvc E n [] d xm_131 169 [r0, r1] (st) mem Post) ∧ (¬ w32 x = 55 → (w32 x = 56 → zvc E n [] d xm_131 169 [r0, r1] (st) mem Post) ∧ (¬ w32 x = 56 → (w32 x = 57 → zvc E n [] d xm_131 169 [r0, r1] (st) mem Post) ∧ (¬ w32 x = 57 → (w32 x = 58 → zvc E n [] d xm_131 169 [r0, r1] (st) mem Post) ∧ (¬ w32 x = 58 → (w32 x = 59 → zvc E n [] d xm_131 108 [r0, r1] (st) mem Post) ∧ (¬ w32 x = 59 → (w32 x = 60 → zvc E n [] d xm_131 115 [r0, r1] (st) mem Post) ∧ (¬ w32 x = 60 → (w32 x = 61 → zvc E n [] d xm_131 140 [r0, r1] (st) mem Post) ∧ (¬ w32 x = 61 → (w32 x = 62 → zvc E n [] d xm_131 143 [r0, r1] (st) mem Post) ∧ (¬ w32 x = 62 → zvc E n [] d xm_131 169 [r0, r1] (st) mem Post)))))))))))))))))))))))) := zrf rfl
theorem s_131_108 {E : yE} {n d : Nat} {mem : yMem} {Post : Option yV → yMem → Prop} {st : List yV} {r0 r1 : Option yV} : zvc E (n + 1) [] d xm_131 108 [r0, r1] (st) mem Post = (zvc E n [] d xm_131 109 [r0, r1] ((0, 4) :: st) mem Post) := zrf rfl
theorem s_131_109 {E : yE} {n d : Nat} {mem : yMem} {Post : Option yV → yMem → Prop} {r0 r1 : Option yV} {x : Int} : zvc E (n + 1) [] d xm_131 109 [r0, r1] ([(0, x)]) mem Post = (Post (some (0, x)) mem) := zrf rfl
theorem s_131_110 {E : yE} {n d : Nat} {mem : yMem} {Post : Option yV → yMem → Prop} {st : List yV} {r0 r1 : Option yV} : zvc E (n + 1) [] d xm_131 110 [r0, r1] (st) mem Post = (zvc E n [] d xm_131 111 [r0, r1] ((0, 5) :: st) mem Post) := zrf rfl
theorem s_131_111 {E : yE} {n d : Nat} {mem : yMem} {Post : Option yV → yMem → Prop} {r0 r1 : Option yV} {x : Int} : zvc E (n + 1) [] d xm_131 111 [r0, r1] ([(0, x)]) mem Post = (Post (some (0, x)) mem) := zrf rfl
theorem s_131_112 {E : yE} {n d : Nat} {mem : yMem} {Post : Option yV → yMem → Prop} {st : List yV} {r0 r1 : Option yV} : zvc E (n + 1) [] d xm_131 112 [r0, r1] (st) mem Post = (zvc E n [] d xm_131 114 [r0, r1] ((0, 6) :: st) mem Post) := zrf rfl
theorem s_131_114 {E : yE} {n d : Nat} {mem : yMem} {Post : Option yV → yMem → Prop} {r0 r1 : Option yV} {x : Int} : zvc E (n + 1) [] d xm_131 114 [r0, r1] ([(0, x)]) mem Post = (Post (some (0, x)) mem) := zrf rfl
theorem s_131_115 {E : yE} {n d : Nat} {mem : yMem} {Post : Option yV → yMem → Prop} {st : List yV} {r0 : Option yV} {x : Int} : zvc E (n + 1) [] d xm_131 115 [r0, some (0, x)] (st) mem Post = (zvc E n [] d xm_131 116 [r0, some (0, x)] ((0, x) :: st) mem Post) := zrf rfl
theorem s_131_116 {E : yE} {n d : Nat} {mem : yMem} {Post : Option yV → yMem → Prop} {st : List yV} {r0 r1 : Option yV} : zvc E (n + 1) [] d xm_131 116 [r0, r1] (st) mem Post = (zvc E n [] d xm_131 118 [r0, r1] ((0, 61) :: st) mem Post) := zrf rfl
theorem s_131_118 {E : yE} {n d : Nat} {mem : yMem} {Post : Option yV → yMem → Prop} {st : List yV} {r0 r1 : Option yV} {x y : Int} : zvc E (n + 1) [] d xm_131 118 [r0, r1] ((0, y) :: (0, x) :: st) mem Post = ((¬ w32 x = w32 y → zvc E n [] d xm_131 126 [r0, r1] (st) mem Post) ∧ (¬ (¬ w32 x = w32 y) → zvc E n [] d xm_131 121 [r0, r1] (st) mem Post)) := zrf rfl
theorem s_131_121 {E : yE} {n d : Nat} {mem : yMem} {Post : Option yV → yMem → Prop} {st : List yV} {r0 r1 : Option yV} : zvc E (n + 1) [] d xm_131 121 [r0, r1] (st) mem Post = (zvc E n [] d xm_131 123 [r0, r1] ((0, 8) :: st) mem Post) := zrf rfl
theorem s_131_123 {E : yE} {n d : Nat} {mem : yMem} {Post : Option yV → yMem → Prop} {st : List yV} {r0 r1 : Option yV} : zvc E (n + 1) [] d xm_131 123 [r0, r1] (st) mem Post = (zvc E n [] d xm_131 139 [r0, r1] (st) mem Post) := zrf rfl
theorem s_131_126 {E : yE} {n d : Nat} {mem : yMem} {Post : Option yV → yMem → Prop} {st : List yV} {r0 : Option yV} {x : Int} : zvc E (n + 1) [] d xm_131 126 [r0, some (0, x)] (st) mem Post = (zvc E n [] d xm_131 127 [r0, some (0, x)] ((0, x) :: st) mem Post) := zrf rfl
theorem s_131_127 {E : yE} {n d : Nat} {mem : yMem} {Post : Option yV → yMem → Prop} {st : List yV} {r0 r1 : Option yV} : zvc E (n + 1) [] d xm_131 127 [r0, r1] (st) mem Post = (zvc E n [] d xm_131 129 [r0, r1] ((0, 62) :: st) mem Post) := zrf rfl
theorem s_131_129 {E : yE} {n d : Nat} {mem : yMem} {Post : Option yV → yMem → Prop} {st : List yV} {r0 r1 : Option yV} {x y : Int} : zvc E (n + 1) [] d xm_131 129 [r0, r1] ((0, y) :: (0, x) :: st) mem Post = ((¬ w32 x = w32 y → zvc E n [] d xm_131 137 [r0, r1] (st) mem Post) ∧ (¬ (¬ w32 x = w32 y) → zvc E n [] d xm_131 132 [r0, r1] (st) mem Post)) := zrf rfl
theorem s_131_132 {E : yE} {n d : Nat} {mem : yMem} {Post : Option yV → yMem → Prop} {st : List yV} {r0 r1 : Option yV} : zvc E (n + 1) [] d xm_131 132 [r0, r1] (st) mem Post = (zvc E n [] d xm_131 134 [r0, r1] ((0, 10) :: st) mem Post) := zrf rfl
theorem s_131_134 {E : yE} {n d : Nat} {mem : yMem} {Post : Option yV → yMem → Prop} {st : List yV} {r0 r1 : Option yV} : zvc E (n + 1) [] d xm_131 134 [r0, r1] (st) mem Post = (zvc E n [] d xm_131 139 [r0, r1] (st) mem Post) := zrf rfl
theorem s_131_137 {E : yE} {n d : Nat} {mem : yMem} {Post : Option yV → yMem → Prop} {st : List yV} {r0 r1 : Option yV} : zvc E (n + 1) [] d xm_131 137 [r0, r1] (st) mem Post = (zvc E n [] d xm_131 139 [r0, r1] ((0, 7) :: st) mem Post) := zrf rfl
theorem s_131_139 {E : yE} {n d : Nat} {mem : yMem} {Post : Option yV → yMem → Prop} {r0 r1 : Option yV} {x : Int} : zvc E (n + 1) [] d xm_131 139 [r0, r1] ([(0, x)]) mem Post = (Post (some (0, x)) mem) := zrf rfl
theorem s_131_140 {E : yE} {n d : Nat} {mem : yMem} {Post : Option yV → yMem → Prop} {st : List yV} {r0 r1 : Option yV} : zvc E (n + 1) [] d xm_131 140 [r0, r1] (st) mem Post = (zvc E n [] d xm_131 142 [r0, r1] ((0, 9) :: st) mem Post) := zrf rfl
theorem s_131_142 {E : yE} {n d : Nat} {mem : yMem} {Post : Option yV → yMem → Prop} {r0 r1 : Option yV} {x : Int} : zvc E (n + 1) [] d xm_131 142 [r0, r1] ([(0, x)]) mem Post = (Post (some (0, x)) mem) := zrf rfl
theorem s_131_143 {E : yE} {n d : Nat} {mem : yMem} {Post : Option yV → yMem → Prop} {st : List yV} {r0 : Option yV} {x : Int} : zvc E (n + 1) [] d xm_131 143 [r0, some (0, x)] (st) mem Post = (zvc E n [] d xm_131 144 [r0, some (0, x)] ((0, x) :: st) mem Post) := zrf rfl
theorem s_131_144 {E : yE} {n d : Nat} {mem : yMem} {Post : Option yV → yMem → Prop} {st : List yV} {r0 r1 : Option yV} : zvc E (n + 1) [] d xm_131 144 [r0, r1] (st) mem Post = (zvc E n [] d xm_131 146 [r0, r1] ((0, 61) :: st) mem Post) := zrf rfl
theorem s_131_146 {E : yE} {n d : Nat} {mem : yMem} {Post : Option yV → yMem → Prop} {st : List yV} {r0 r1 : Option yV} {x y : Int} : zvc E (n + 1) [] d xm_131 146 [r0, r1] ((0, y) :: (0, x) :: st) mem Post = ((¬ w32 x = w32 y → zvc E n [] d xm_131 154 [r0, r1] (st) mem Post) ∧ (¬ (¬ w32 x = w32 y) → zvc E n [] d xm_131 149 [r0, r1] (st) mem Post)) := zrf rfl
theorem s_131_149 {E : yE} {n d : Nat} {mem : yMem} {Post : Option yV → yMem → Prop} {st : List yV} {r0 r1 : Option yV} : zvc E (n + 1) [] d xm_131 149 [r0, r1] (st) mem Post = (zvc E n [] d xm_131 151 [r0, r1] ((0, 11) :: st) mem Post) := zrf rfl
theorem s_131_151 {E : yE} {n d : Nat} {mem : yMem} {Post : Option yV → yMem → Prop} {st : List yV} {r0 r1 : Option yV} : zvc E (n + 1) [] d xm_131 151 [r0, r1] (st) mem Post = (zvc E n [] d xm_131 156 [r0, r1] (st) mem Post) := zrf rfl
theorem s_131_154 {E : yE} {n d : Nat} {mem : yMem} {Post : Option yV → yMem → Prop} {st : List yV} {r0 r1 : Option yV} : zvc E (n + 1) [] d xm_131 154 [r0, r1] (st) mem Post = (zvc E n [] d xm_131 156 [r0, r1] ((0, 12) :: st) mem Post) := zrf rfl
theorem s_131_156 {E : yE} {n d : Nat} {mem : yMem} {Post : Option yV → yMem → Prop} {r0 r1 : Option yV} {x : Int} : zvc E (n + 1) [] d xm_131 156 [r0, r1] ([(0, x)]) mem Post = (Post (some (0, x)) mem) := zrf rfl
theorem s_131_157 {E : yE} {n d : Nat} {mem : yMem} {Post : Option yV → yMem → Prop} {st : List yV} {r0 r1 : Option yV} : zvc E (n + 1) [] d xm_131 157 [r0, r1] (st) mem Post = (zvc E n [] d xm_131 159 [r0, r1] ((0, 13) :: st) mem Post) := zrf rfl
theorem s_131_159 {E : yE} {n d : Nat} {mem : yMem} {Post : Option yV → yMem → Prop} {r0 r1 : Option yV} {x : Int} : zvc E (n + 1) [] d xm_131 159 [r0, r1] ([(0, x)]) mem Post = (Post (some (0, x)) mem) := zrf rfl
theorem s_131_160 {E : yE} {n d : Nat} {mem : yMem} {Post : Option yV → yMem → Prop} {st : List yV} {r0 r1 : Option yV} : zvc E (n + 1) [] d xm_131 160 [r0, r1] (st) mem Post = (zvc E n [] d xm_131 162 [r0, r1] ((0, 14) :: st) mem Post) := zrf rfl
theorem s_131_162 {E : yE} {n d : Nat} {mem : yMem} {Post : Option yV → yMem → Prop} {r0 r1 : Option yV} {x : Int} : zvc E (n + 1) [] d xm_131 162 [r0, r1] ([(0, x)]) mem Post = (Post (some (0, x)) mem) := zrf rfl
theorem s_131_163 {E : yE} {n d : Nat} {mem : yMem} {Post : Option yV → yMem → Prop} {st : List yV} {r0 r1 : Option yV} : zvc E (n + 1) [] d xm_131 163 [r0, r1] (st) mem Post = (zvc E n [] d xm_131 165 [r0, r1] ((0, 15) :: st) mem Post) := zrf rfl
theorem s_131_165 {E : yE} {n d : Nat} {mem : yMem} {Post : Option yV → yMem → Prop} {r0 r1 : Option yV} {x : Int} : zvc E (n + 1) [] d xm_131 165 [r0, r1] ([(0, x)]) mem Post = (Post (some (0, x)) mem) := zrf rfl
theorem s_131_166 {E : yE} {n d : Nat} {mem : yMem} {Post : Option yV → yMem → Prop} {st : List yV} {r0 r1 : Option yV} : zvc E (n + 1) [] d xm_131 166 [r0, r1] (st) mem Post = (zvc E n [] d xm_131 168 [r0, r1] ((0, 16) :: st) mem Post) := zrf rfl
theorem s_131_168 {E : yE} {n d : Nat} {mem : yMem} {Post : Option yV → yMem → Prop} {r0 r1 : Option yV} {x : Int} : zvc E (n + 1) [] d xm_131 168 [r0, r1] ([(0, x)]) mem Post = (Post (some (0, x)) mem) := zrf rfl
theorem s_131_169 {E : yE} {n d : Nat} {mem : yMem} {Post : Option yV → yMem → Prop} {st : List yV} {r0 r1 : Option yV} : zvc E (n + 1) [] d xm_131 169 [r0, r1] (st) mem Post = (zvc E n [] d xm_131 170 [r0, r1] ((0, 1) :: st) mem Post) := zrf rfl
theorem s_131_170 {E : yE} {n d : Nat} {mem : yMem} {Post : Option yV → yMem → Prop} {r0 r1 : Option yV} {x : Int} : zvc E (n + 1) [] d xm_131 170 [r0, r1] ([(0, x)]) mem Post = (Post (some (0, x)) mem) := zrf rfl
def zc_126 : List Nat := [8, 60]
theorem s_126_0 {E : yE} {n d : Nat} {mem : yMem} {Post : Option yV → yMem → Prop} {st : List yV} {x : Int} : zvc E (n + 1) zc_126 d xm_126 0 [some (1, x)] (st) mem Post = (zvc E n zc_126 d xm_126 1 [some (1, x)] ((1, x) :: st) mem Post) := zrf rfl
theorem s_126_1 {E : yE} {n d : Nat} {mem : yMem} {Post : Option yV → yMem → Prop} {st : List yV} {r0 : Option yV} : zvc E (n + 1) zc_126 d xm_126 1 [r0] ((1, 55) :: st) mem Post = (zvc E n zc_126 d xm_126 4 [r0] ((0, mem 55 7) :: st) mem Post) := zrf rfl
theorem s_126_4 {E : yE} {n d : Nat} {mem : yMem} {Post : Option yV → yMem → Prop} {st : List yV} {r0 : Option yV} {x : Int} : zvc E (n + 1) zc_126 d xm_126 4 [r0] ((0, x) :: st) mem Post = ((w32 x = w32 0 → zvc E n zc_126 d xm_126 8 [r0] (st) mem Post) ∧ (¬ (w32 x = w32 0) → zvc E n zc_126 d xm_126 7 [r0] (st) mem Post)) := zrf rfl
theorem s_126_7 {E : yE} {n d : Nat} {mem : yMem} {Post : Option yV → yMem → Prop} {r0 : Option yV} : zvc E (n + 1) zc_126 d xm_126 7 [r0] ([]) mem Post = (Post none mem) := zrf rfl
theorem g_126_8 {E : yE} {n d : Nat} {mem : yMem} {Post : Option yV → yMem → Prop} {st : List yV} {x : Int} : zgo E n zc_126 d xm_126 8 [some (1, x)] (st) mem Post = (zvc E n zc_126 d xm_126 9 [some (1, x)] ((1, x) :: st) mem Post) := zrf rfl
theorem k_126_8 {E : yE} {n d : Nat} {mem : yMem} {Post : Option yV → yMem → Prop} {st : List yV} {rg : zR} : zvc E (n + 1) zc_126 d xm_126 8 rg st mem Post = zG E d xm_126 8 rg st mem Post := zrf rfl
theorem s_126_9 {E : yE} {n d : Nat} {mem : yMem} {Post : Option yV → yMem → Prop} {st : List yV} {r0 : Option yV} : zvc E (n + 1) zc_126 d xm_126 9 [r0] ((1, 55) :: st) mem Post = (zvc E n zc_126 d xm_126 12 [r0] ((0, mem 55 3) :: st) mem Post) := zrf rfl
theorem s_126_12 {E : yE} {n d : Nat} {mem : yMem} {Post : Option yV → yMem → Prop} {st : List yV} {x : Int} : zvc E (n + 1) zc_126 d xm_126 12 [some (1, x)] (st) mem Post = (zvc E n zc_126 d xm_126 13 [some (1, x)] ((1, x) :: st) mem Post) := zrf rfl
theorem s_126_13 {E : yE} {n d : Nat} {mem : yMem} {Post : Option yV → yMem → Prop} {st : List yV} {r0 : Option yV} : zvc E (n + 1) zc_126 d xm_126 13 [r0] ((1, 55) :: st) mem Post = (zvc E n zc_126 d xm_126 16 [r0] ((0, mem 55 2) :: st) mem Post) := zrf rfl
theorem s_126_16 {E : yE} {n d : Nat} {mem : yMem} {Post : Option yV → yMem → Prop} {st : List yV} {r0 : Option yV} {x y : Int} : zvc E (n + 1) zc_126 d xm_126 16 [r0] ((0, y) :: (0, x) :: st) mem Post = ((w32 y ≤ w32 x → zvc E n zc_126 d xm_126 60 [r0] (st) mem Post) ∧ (¬ (w32 y ≤ w32 x) → zvc E n zc_126 d xm_126 19 [r0] (st) mem Post)) := zrf rfl
theorem s_126_19 {E : yE} {n d : Nat} {mem : yMem} {Post : Option yV → yMem → Prop} {st : List yV} {x : Int} : zvc E (n + 1) zc_126 d xm_126 19 [some (1, x)] (st) mem Post = (zvc E n zc_126 d xm_126 20 [some (1, x)] ((1, x) :: st) mem Post) := zrf rfl
theorem s_126_20 {E : yE} {n d : Nat} {mem : yMem} {Post : Option yV → yMem → Prop} {st : List yV} {r0 : Option yV} : zvc E (n + 1) zc_126 d xm_126 20 [r0] ((1, 55) :: st) mem Post = (zvc E n zc_126 d xm_126 23 [r0] ((1, 1) :: st) mem Post) := zrf rfl
theorem s_126_23 {E : yE} {n d : Nat} {mem : yMem} {Post : Option yV → yMem → Prop} {st : List yV} {x : Int} : zvc E (n + 1) zc_126 d xm_126 23 [some (1, x)] (st) mem Post = (zvc E n zc_126 d xm_126 24 [some (1, x)] ((1, x) :: st) mem Post) := zrf rfl
theorem s_126_24 {E : yE} {n d : Nat} {mem : yMem} {Post : Option yV → yMem → Prop} {st : List yV} {r0 : Option yV} : zvc E (n + 1) zc_126 d xm_126 24 [r0] ((1, 55) :: st) mem Post = (zvc E n zc_126 d xm_126 27 [r0] ((0, mem 55 3) :: st) mem Post) := zrf rfl
theorem s_126_27 {E : yE} {n d : Nat} {mem : yMem} {Post : Option yV → yMem → Prop} {st : List yV} {r0 : Option yV} {z j : Int} : zvc E (n + 1) zc_126 d xm_126 27 [r0] ((0, j) :: (1, z) :: st) mem Post = ((0 ≤ w32 j ∧ w32 j < ((zar z 1 : Nat) : Int)) ∧ zvc E n zc_126 d xm_126 28 [r0] ((0, mem z.toNat (w32 j).toNat) :: st) mem Post) := zrf rfl
theorem s_126_28 {E : yE} {n d : Nat} {mem : yMem} {Post : Option yV → yMem → Prop} {st : List yV} {r0 : Option yV} : zvc E (n + 1) zc_126 d xm_126 28 [r0] (st) mem Post = (zvc E n zc_126 d xm_126 30 [r0] ((0, 10) :: st) mem Post) := zrf rfl
theorem s_126_30 {E : yE} {n d : Nat} {mem : yMem} {Post : Option yV → yMem → Prop} {st : List yV} {r0 : Option yV} {x y : Int} : zvc E (n + 1) zc_126 d xm_126 30 [r0] ((0, y) :: (0, x) :: st) mem Post = ((w32 x = w32 y → zvc E n zc_126 d xm_126 47 [r0] (st) mem Post) ∧ (¬ (w32 x = w32 y) → zvc E n zc_126 d xm_126 33 [r0] (st) mem Post)) := zrf rfl
theorem s_126_33 {E : yE} {n d : Nat} {mem : yMem} {Post : Option yV → yMem → Prop} {st : List yV} {x : Int} : zvc E (n + 1) zc_126 d xm_126 33 [some (1, x)] (st) mem Post = (zvc E n zc_126 d xm_126 34 [some (1, x)] ((1, x) :: st) mem Post) := zrf rfl
theorem s_126_34 {E : yE} {n d : Nat} {mem : yMem} {Post : Option yV → yMem → Prop} {st : List yV} {r0 : Option yV} : zvc E (n + 1) zc_126 d xm_126 34 [r0] ((1, 55) :: st) mem Post = (zvc E n zc_126 d xm_126 37 [r0] ((1, 1) :: st) mem Post) := zrf rfl
theorem s_126_37 {E : yE} {n d : Nat} {mem : yMem} {Post : Option yV → yMem → Prop} {st : List yV} {x : Int} : zvc E (n + 1) zc_126 d xm_126 37 [some (1, x)] (st) mem Post = (zvc E n zc_126 d xm_126 38 [some (1, x)] ((1, x) :: st) mem Post) := zrf rfl
theorem s_126_38 {E : yE} {n d : Nat} {mem : yMem} {Post : Option yV → yMem → Prop} {st : List yV} {r0 : Option yV} : zvc E (n + 1) zc_126 d xm_126 38 [r0] ((1, 55) :: st) mem Post = (zvc E n zc_126 d xm_126 41 [r0] ((0, mem 55 3) :: st) mem Post) := zrf rfl
theorem s_126_41 {E : yE} {n d : Nat} {mem : yMem} {Post : Option yV → yMem → Prop} {st : List yV} {r0 : Option yV} {z j : Int} : zvc E (n + 1) zc_126 d xm_126 41 [r0] ((0, j) :: (1, z) :: st) mem Post = ((0 ≤ w32 j ∧ w32 j < ((zar z 1 : Nat) : Int)) ∧ zvc E n zc_126 d xm_126 42 [r0] ((0, mem z.toNat (w32 j).toNat) :: st) mem Post) := zrf rfl
theorem s_126_42 {E : yE} {n d : Nat} {mem : yMem} {Post : Option yV → yMem → Prop} {st : List yV} {r0 : Option yV} : zvc E (n + 1) zc_126 d xm_126 42 [r0] (st) mem Post = (zvc E n zc_126 d xm_126 44 [r0] ((0, 32) :: st) mem Post) := zrf rfl
theorem s_126_44 {E : yE} {n d : Nat} {mem : yMem} {Post : Option yV → yMem → Prop} {st : List yV} {r0 : Option yV} {x y : Int} : zvc E (n + 1) zc_126 d xm_126 44 [r0] ((0, y) :: (0, x) :: st) mem Post = ((¬ w32 x = w32 y → zvc E n zc_126 d xm_126 60 [r0] (st) mem Post) ∧ (¬ (¬ w32 x = w32 y) → zvc E n zc_126 d xm_126 47 [r0] (st) mem Post)) := zrf rfl
theorem s_126_47 {E : yE} {n d : Nat} {mem : yMem} {Post : Option yV → yMem → Prop} {st : List yV} {x : Int} : zvc E (n + 1) zc_126 d xm_126 47 [some (1, x)] (st) mem Post = (zvc E n zc_126 d xm_126 48 [some (1, x)] ((1, x) :: st) mem Post) := zrf rfl
theorem s_126_48a {E : yE} {n d : Nat} {mem : yMem} {Post : Option yV → yMem → Prop} {st : List yV} {r0 : Option yV} {x : Int} : zvc E (n + 1) zc_126 d xm_126 48 [r0] ((0, x) :: st) mem Post = (zvc E n zc_126 d xm_126 49 [r0] ((0, x) :: (0, x) :: st) mem Post) := zrf rfl
theorem s_126_48b {E : yE} {n d : Nat} {mem : yMem} {Post : Option yV → yMem → Prop} {st : List yV} {r0 : Option yV} {x : Int} : zvc E (n + 1) zc_126 d xm_126 48 [r0] ((1, x) :: st) mem Post = (zvc E n zc_126 d xm_126 49 [r0] ((1, x) :: (1, x) :: st) mem Post) := zrf rfl
theorem s_126_49 {E : yE} {n d : Nat} {mem : yMem} {Post : Option yV → yMem → Prop} {st : List yV} {r0 : Option yV} : zvc E (n + 1) zc_126 d xm_126 49 [r0] ((1, 55) :: st) mem Post = (zvc E n zc_126 d xm_126 52 [r0] ((0, mem 55 3) :: st) mem Post) := zrf rfl
theorem s_126_52 {E : yE} {n d : Nat} {mem : yMem} {Post : Option yV → yMem → Prop} {st : List yV} {r0 : Option yV} : zvc E (n + 1) zc_126 d xm_126 52 [r0] (st) mem Post = (zvc E n zc_126 d xm_126 53 [r0] ((0, 1) :: st) mem Post) := zrf rfl
theorem s_126_53 {E : yE} {n d : Nat} {mem : yMem} {Post : Option yV → yMem → Prop} {st : List yV} {r0 : Option yV} {x y : Int} : zvc E (n + 1) zc_126 d xm_126 53 [r0] ((0, y) :: (0, x) :: st) mem Post = (zvc E n zc_126 d xm_126 54 [r0] ((0, x + y) :: st) mem Post) := zrf rfl
theorem s_126_54 {E : yE} {n d : Nat} {mem : yMem} {Post : Option yV → yMem → Prop} {st : List yV} {r0 : Option yV} {x : Int} : zvc E (n + 1) zc_126 d xm_126 54 [r0] ((0, x) :: (1, 55) :: st) mem Post = (zvc E n zc_126 d xm_126 57 [r0] (st) (yset mem 55 3 x) Post) := zrf rfl
theorem s_126_57 {E : yE} {n d : Nat} {mem : yMem} {Post : Option yV → yMem → Prop} {st : List yV} {r0 : Option yV} : zvc E (n + 1) zc_126 d xm_126 57 [r0] (st) mem Post = (zvc E n zc_126 d xm_126 8 [r0] (st) mem Post) := zrf rfl
theorem g_126_60 {E : yE} {n d : Nat} {mem : yMem} {Post : Option yV → yMem → Prop} {st : List yV} {x : Int} : zgo E n zc_126 d xm_126 60 [some (1, x)] (st) mem Post = (zvc E n zc_126 d xm_126 61 [some (1, x)] ((1, x) :: st) mem Post) := zrf rfl
theorem k_126_60 {E : yE} {n d : Nat} {mem : yMem} {Post : Option yV → yMem → Prop} {st : List yV} {rg : zR} : zvc E (n + 1) zc_126 d xm_126 60 rg st mem Post = zG E d xm_126 60 rg st mem Post := zrf rfl
theorem s_126_61 {E : yE} {n d : Nat} {mem : yMem} {Post : Option yV → yMem → Prop} {st : List yV} {x : Int} : zvc E (n + 1) zc_126 d xm_126 61 [some (1, x)] (st) mem Post = (zvc E n zc_126 d xm_126 62 [some (1, x)] ((1, x) :: st) mem Post) := zrf rfl
theorem s_126_62 {E : yE} {n d : Nat} {mem : yMem} {Post : Option yV → yMem → Prop} {st : List yV} {r0 : Option yV} : zvc E (n + 1) zc_126 d xm_126 62 [r0] ((1, 55) :: st) mem Post = (zvc E n zc_126 d xm_126 65 [r0] ((0, mem 55 3) :: st) mem Post) := zrf rfl
theorem s_126_65 {E : yE} {n d : Nat} {mem : yMem} {Post : Option yV → yMem → Prop} {st : List yV} {r0 : Option yV} {x : Int} : zvc E (n + 1) zc_126 d xm_126 65 [r0] ((0, x) :: (1, 55) :: st) mem Post = (zvc E n zc_126 d xm_126 68 [r0] (st) (yset mem 55 5 x) Post) := zrf rfl
theorem s_126_68 {E : yE} {n d : Nat} {mem : yMem} {Post : Option yV → yMem → Prop} {st : List yV} {x : Int} : zvc E (n + 1) zc_126 d xm_126 68 [some (1, x)] (st) mem Post = (zvc E n zc_126 d xm_126 69 [some (1, x)] ((1, x) :: st) mem Post) := zrf rfl
theorem s_126_69 {E : yE} {n d : Nat} {mem : yMem} {Post : Option yV → yMem → Prop} {st : List yV} {r0 : Option yV} : zvc E (n + 1) zc_126 d xm_126 69 [r0] (st) mem Post = (zvc E n zc_126 d xm_126 70 [r0] ((0, 0) :: st) mem Post) := zrf rfl
theorem s_126_70 {E : yE} {n d : Nat} {mem : yMem} {Post : Option yV → yMem → Prop} {st : List yV} {r0 : Option yV} {x : Int} : zvc E (n + 1) zc_126 d xm_126 70 [r0] ((0, x) :: (1, 55) :: st) mem Post = (zvc E n zc_126 d xm_126 73 [r0] (st) (yset mem 55 6 x) Post) := zrf rfl
theorem s_126_73 {E : yE} {n d : Nat} {mem : yMem} {Post : Option yV → yMem → Prop} {st : List yV} {x : Int} : zvc E (n + 1) zc_126 d xm_126 73 [some (1, x)] (st) mem Post = (zvc E n zc_126 d xm_126 74 [some (1, x)] ((1, x) :: st) mem Post) := zrf rfl
theorem s_126_74 {E : yE} {n d : Nat} {mem : yMem} {Post : Option yV → yMem → Prop} {st : List yV} {r0 : Option yV} : zvc E (n + 1) zc_126 d xm_126 74 [r0] ((1, 55) :: st) mem Post = (zvc E n zc_126 d xm_126 77 [r0] ((0, mem 55 3) :: st) mem Post) := zrf rfl
theorem s_126_77 {E : yE} {n d : Nat} {mem : yMem} {Post : Option yV → yMem → Prop} {st : List yV} {x : Int} : zvc E (n + 1) zc_126 d xm_126 77 [some (1, x)] (st) mem Post = (zvc E n zc_126 d xm_126 78 [some (1, x)] ((1, x) :: st) mem Post) := zrf rfl
theorem s_126_78 {E : yE} {n d : Nat} {mem : yMem} {Post : Option yV → yMem → Prop} {st : List yV} {r0 : Option yV} : zvc E (n + 1) zc_126 d xm_126 78 [r0] ((1, 55) :: st) mem Post = (zvc E n zc_126 d xm_126 81 [r0] ((0, mem 55 2) :: st) mem Post) := zrf rfl
theorem s_126_81 {E : yE} {n d : Nat} {mem : yMem} {Post : Option yV → yMem → Prop} {st : List yV} {r0 : Option yV} {x y : Int} : zvc E (n + 1) zc_126 d xm_126 81 [r0] ((0, y) :: (0, x) :: st) mem Post = ((w32 x < w32 y → zvc E n zc_126 d xm_126 92 [r0] (st) mem Post) ∧ (¬ (w32 x < w32 y) → zvc E n zc_126 d xm_126 84 [r0] (st) mem Post)) := zrf rfl
theorem s_126_84 {E : yE} {n d : Nat} {mem : yMem} {Post : Option yV → yMem → Prop} {st : List yV} {x : Int} : zvc E (n + 1) zc_126 d xm_126 84 [some (1, x)] (st) mem Post = (zvc E n zc_126 d xm_126 85 [some (1, x)] ((1, x) :: st) mem Post) := zrf rfl
theorem s_126_85 {E : yE} {n d : Nat} {mem : yMem} {Post : Option yV → yMem → Prop} {st : List yV} {r0 : Option yV} : zvc E (n + 1) zc_126 d xm_126 85 [r0] (st) mem Post = (zvc E n zc_126 d xm_126 86 [r0] ((0, 0) :: st) mem Post) := zrf rfl
theorem s_126_86 {E : yE} {n d : Nat} {mem : yMem} {Post : Option yV → yMem → Prop} {st : List yV} {r0 : Option yV} {x : Int} : zvc E (n + 1) zc_126 d xm_126 86 [r0] ((0, x) :: (1, 55) :: st) mem Post = (zvc E n zc_126 d xm_126 89 [r0] (st) (yset mem 55 4 x) Post) := zrf rfl
theorem s_126_89 {E : yE} {n d : Nat} {mem : yMem} {Post : Option yV → yMem → Prop} {st : List yV} {r0 : Option yV} : zvc E (n + 1) zc_126 d xm_126 89 [r0] (st) mem Post = (zvc E n zc_126 d xm_126 140 [r0] (st) mem Post) := zrf rfl
theorem s_126_92 {E : yE} {n d : Nat} {mem : yMem} {Post : Option yV → yMem → Prop} {st : List yV} {x : Int} : zvc E (n + 1) zc_126 d xm_126 92 [some (1, x)] (st) mem Post = (zvc E n zc_126 d xm_126 93 [some (1, x)] ((1, x) :: st) mem Post) := zrf rfl
theorem s_126_93 {E : yE} {n d : Nat} {mem : yMem} {Post : Option yV → yMem → Prop} {st : List yV} {r0 : Option yV} : zvc E (n + 1) zc_126 d xm_126 93 [r0] ((1, 55) :: st) mem Post = (zvc E n zc_126 d xm_126 96 [r0] ((1, 1) :: st) mem Post) := zrf rfl
theorem s_126_96 {E : yE} {n d : Nat} {mem : yMem} {Post : Option yV → yMem → Prop} {st : List yV} {x : Int} : zvc E (n + 1) zc_126 d xm_126 96 [some (1, x)] (st) mem Post = (zvc E n zc_126 d xm_126 97 [some (1, x)] ((1, x) :: st) mem Post) := zrf rfl
theorem s_126_97 {E : yE} {n d : Nat} {mem : yMem} {Post : Option yV → yMem → Prop} {st : List yV} {r0 : Option yV} : zvc E (n + 1) zc_126 d xm_126 97 [r0] ((1, 55) :: st) mem Post = (zvc E n zc_126 d xm_126 100 [r0] ((0, mem 55 3) :: st) mem Post) := zrf rfl
theorem s_126_100 {E : yE} {n d : Nat} {mem : yMem} {Post : Option yV → yMem → Prop} {st : List yV} {r0 : Option yV} {z j : Int} : zvc E (n + 1) zc_126 d xm_126 100 [r0] ((0, j) :: (1, z) :: st) mem Post = ((0 ≤ w32 j ∧ w32 j < ((zar z 1 : Nat) : Int)) ∧ zvc E n zc_126 d xm_126 101 [r0] ((0, mem z.toNat (w32 j).toNat) :: st) mem Post) := zrf rfl
theorem s_126_101 {E : yE} {n d : Nat} {mem : yMem} {Post : Option yV → yMem → Prop} {st : List yV} {r0 : Option yV} {a0 : Int} : zvc E (n + 1) zc_126 (d + 1) xm_126 101 [r0] ((0, a0) :: st) mem Post = (True ∧ ysum st ≤ 8 ∧ zvc E n [] d xm_125 0 [some (0, a0)] [] mem (fun v mem' => zvk E n zc_126 (d + 1) xm_126 104 [r0] st v mem' Post)) := zrf rfl
theorem s_126_104 {E : yE} {n d : Nat} {mem : yMem} {Post : Option yV → yMem → Prop} {st : List yV} {r0 : Option yV} {x : Int} : zvc E (n + 1) zc_126 d xm_126 104 [r0] ((0, x) :: st) mem Post = ((w32 x = w32 0 → zvc E n zc_126 d xm_126 114 [r0] (st) mem Post) ∧ (¬ (w32 x = w32 0) → zvc E n zc_126 d xm_126 107 [r0] (st) mem Post)) := zrf rfl
theorem s_126_107 {E : yE} {n d : Nat} {mem : yMem} {Post : Option yV → yMem → Prop} {st : List yV} {x : Int} : zvc E (n + 1) zc_126 d xm_126 107 [some (1, x)] (st) mem Post = (zvc E n zc_126 d xm_126 108 [some (1, x)] ((1, x) :: st) mem Post) := zrf rfl
theorem s_126_108 {E : yE} {n d : Nat} {mem : yMem} {Post : Option yV → yMem → Prop} {st : List yV} {r0 : Option yV} {z : Int} : zvc E (n + 1) zc_126 d xm_126 108 [r0] ((1, z) :: st) mem Post = (zio z 9 = true ∧ ysum st ≤ 8 ∧ yCon E d xm_130 [(1, z)] mem (fun v mem' => zgk E d xm_126 111 [r0] st v mem' Post)) := zrf rfl
theorem s_126_111 {E : yE} {n d : Nat} {mem : yMem} {Post : Option yV → yMem → Prop} {st : List yV} {r0 : Option yV} : zvc E (n + 1) zc_126 d xm_126 111 [r0] (st) mem Post = (zvc E n zc_126 d xm_126 140 [r0] (st) mem Post) := zrf rfl
theorem s_126_114 {E : yE} {n d : Nat} {mem : yMem} {Post : Option yV → yMem → Prop} {st : List yV} {x : Int} : zvc E (n + 1) zc_126 d xm_126 114 [some (1, x)] (st) mem Post = (zvc E n zc_126 d xm_126 115 [some (1, x)] ((1, x) :: st) mem Post) := zrf rfl
theorem s_126_115 {E : yE} {n d : Nat} {mem : yMem} {Post : Option yV → yMem → Prop} {st : List yV} {r0 : Option yV} : zvc E (n + 1) zc_126 d xm_126 115 [r0] ((1, 55) :: st) mem Post = (zvc E n zc_126 d xm_126 118 [r0] ((1, 1) :: st) mem Post) := zrf rfl
theorem s_126_118 {E : yE} {n d : Nat} {mem : yMem} {Post : Option yV → yMem → Prop} {st : List yV} {x : Int} : zvc E (n + 1) zc_126 d xm_126 118 [some (1, x)] (st) mem Post = (zvc E n zc_126 d xm_126 119 [some (1, x)] ((1, x) :: st) mem Post) := zrf rfl
theorem s_126_119 {E : yE} {n d : Nat} {mem : yMem} {Post : Option yV → yMem → Prop} {st : List yV} {r0 : Option yV} : zvc E (n + 1) zc_126 d xm_126 119 [r0] ((1, 55) :: st) mem Post = (zvc E n zc_126 d xm_126 122 [r0] ((0, mem 55 3) :: st) mem Post) := zrf rfl
theorem s_126_122 {E : yE} {n d : Nat} {mem : yMem} {Post : Option yV → yMem → Prop} {st : List yV} {r0 : Option yV} {z j : Int} : zvc E (n + 1) zc_126 d xm_126 122 [r0] ((0, j) :: (1, z) :: st) mem Post = ((0 ≤ w32 j ∧ w32 j < ((zar z 1 : Nat) : Int)) ∧ zvc E n zc_126 d xm_126 123 [r0] ((0, mem z.toNat (w32 j).toNat) :: st) mem Post) := zrf rfl
theorem s_126_123 {E : yE} {n d : Nat} {mem : yMem} {Post : Option yV → yMem → Prop} {st : List yV} {r0 : Option yV} {a0 : Int} : zvc E (n + 1) zc_126 (d + 1) xm_126 123 [r0] ((0, a0) :: st) mem Post = (True ∧ ysum st ≤ 8 ∧ zvc E n [] d xm_124 0 [some (0, a0)] [] mem (fun v mem' => zvk E n zc_126 (d + 1) xm_126 126 [r0] st v mem' Post)) := zrf rfl
theorem s_126_126 {E : yE} {n d : Nat} {mem : yMem} {Post : Option yV → yMem → Prop} {st : List yV} {r0 : Option yV} {x : Int} : zvc E (n + 1) zc_126 d xm_126 126 [r0] ((0, x) :: st) mem Post = ((w32 x = w32 0 → zvc E n zc_126 d xm_126 136 [r0] (st) mem Post) ∧ (¬ (w32 x = w32 0) → zvc E n zc_126 d xm_126 129 [r0] (st) mem Post)) := zrf rfl
theorem s_126_129 {E : yE} {n d : Nat} {mem : yMem} {Post : Option yV → yMem → Prop} {st : List yV} {x : Int} : zvc E (n + 1) zc_126 d xm_126 129 [some (1, x)] (st) mem Post = (zvc E n zc_126 d xm_126 130 [some (1, x)] ((1, x) :: st) mem Post) := zrf rfl
theorem s_126_130 {E : yE} {n d : Nat} {mem : yMem} {Post : Option yV → yMem → Prop} {st : List yV} {r0 : Option yV} {z : Int} : zvc E (n + 1) zc_126 d xm_126 130 [r0] ((1, z) :: st) mem Post = (zio z 9 = true ∧ ysum st ≤ 8 ∧ yCon E d xm_128 [(1, z)] mem (fun v mem' => zgk E d xm_126 133 [r0] st v mem' Post)) := zrf rfl
theorem s_126_133 {E : yE} {n d : Nat} {mem : yMem} {Post : Option yV → yMem → Prop} {st : List yV} {r0 : Option yV} : zvc E (n + 1) zc_126 d xm_126 133 [r0] (st) mem Post = (zvc E n zc_126 d xm_126 140 [r0] (st) mem Post) := zrf rfl
theorem s_126_136 {E : yE} {n d : Nat} {mem : yMem} {Post : Option yV → yMem → Prop} {st : List yV} {x : Int} : zvc E (n + 1) zc_126 d xm_126 136 [some (1, x)] (st) mem Post = (zvc E n zc_126 d xm_126 137 [some (1, x)] ((1, x) :: st) mem Post) := zrf rfl
theorem s_126_137 {E : yE} {n d : Nat} {mem : yMem} {Post : Option yV → yMem → Prop} {st : List yV} {r0 : Option yV} {z : Int} : zvc E (n + 1) zc_126 d xm_126 137 [r0] ((1, z) :: st) mem Post = (zio z 9 = true ∧ ysum st ≤ 8 ∧ yCon E d xm_129 [(1, z)] mem (fun v mem' => zgk E d xm_126 140 [r0] st v mem' Post)) := zrf rfl
theorem s_126_140 {E : yE} {n d : Nat} {mem : yMem} {Post : Option yV → yMem → Prop} {r0 : Option yV} : zvc E (n + 1) zc_126 d xm_126 140 [r0] ([]) mem Post = (Post none mem) := zrf rfl
theorem e_128 {E : yE} {d : Nat} {mem : yMem} {Q : Option yV → yMem → Prop} {z : Int} (h : zG E d xm_128 0 [some (1, z)] [] mem Q) : yCon E (d + 1) xm_128 [(1, z)] mem Q := zcon_of xmo_128 (Nat.le_of_ble_eq_true rfl) h
theorem e_130 {E : yE} {d : Nat} {mem : yMem} {Q : Option yV → yMem → Prop} {z : Int} (h : zG E d xm_130 0 [some (1, z), none, none] [] mem Q) : yCon E (d + 1) xm_130 [(1, z)] mem Q := zcon_of xmo_130 (Nat.le_of_ble_eq_true rfl) h
theorem e_129 {E : yE} {d : Nat} {mem : yMem} {Q : Option yV → yMem → Prop} {z : Int} (h : zG E d xm_129 0 [some (1, z), none, none] [] mem Q) : yCon E (d + 1) xm_129 [(1, z)] mem Q := zcon_of xmo_129 (Nat.le_of_ble_eq_true rfl) h
theorem e_131 {E : yE} {d : Nat} {mem : yMem} {Q : Option yV → yMem → Prop} {a0 a1 : Int} (h : zG E d xm_131 0 [some (0, a0), some (0, a1)] [] mem Q) : yCon E (d + 1) xm_131 [(0, a0), (0, a1)] mem Q := zcon_of xmo_131 (Nat.le_of_ble_eq_true rfl) h
theorem e_126 {E : yE} {d : Nat} {mem : yMem} {Q : Option yV → yMem → Prop} {z : Int} (h : zG E d xm_126 0 [some (1, z)] [] mem Q) : yCon E (d + 1) xm_126 [(1, z)] mem Q := zcon_of xmo_126 (Nat.le_of_ble_eq_true rfl) h

/-! THE CLASS'S TOKENS, as they are -/
/-- a byte as the class holds it -/
def sBs (c : Int) : Int := if c < 128 then c else c - 256
abbrev ctF : List (Nat × Nat) := [(55, 4), (55, 5), (55, 6), (55, 7)]
abbrev cat (mem : yMem) : Nat := (w32 (mem 55 3)).toNat
abbrev cen (mem : yMem) : Nat := (w32 (mem 55 2)).toNat
/-- the class's bytes are these -/
def cBy (mem : yMem) (ch : Nat → Int) : Prop := ∀ j, w32 (mem 1 j) = sBs (ch j) ∧ 0 ≤ ch j ∧ ch j ≤ 255
/-- how the class holds a token's value -/
def sCk (va : Int) (k : Nat) (v : Int) : Prop := (k = 2 ∧ 0 ≤ va ∧ min va 100000 = v) ∨ ((k = 3 ∨ 17 ≤ k) ∧ va = v) ∨ k = 0 ∨ k = 1 ∨ (4 ≤ k ∧ k ≤ 16)
theorem cBy_c {mem : yMem} {ch : Nat → Int} (h : cBy mem ch) (j : Nat) : 0 ≤ ch j ∧ ch j ≤ 255 ∧ ((ch j < 128 ∧ w32 (mem 1 j) = ch j) ∨ (128 ≤ ch j ∧ w32 (mem 1 j) = ch j - 256)) := by
  obtain ⟨h1, h2, h3⟩ := h j
  refine ⟨h2, h3, ?_⟩
  unfold sBs at h1
  by_cases hc : ch j < 128
  · rw [if_pos hc] at h1; exact Or.inl ⟨hc, h1⟩
  · rw [if_neg hc] at h1; exact Or.inr ⟨by (first | exact Nat.le_of_ble_eq_true rfl | exact (fun h => absurd h.1 (by decide)) | omega), h1⟩
theorem cBy_fr {mem m : yMem} {ch : Nat → Int} (h : cBy mem ch) (hF : aFrm ctF mem m) : cBy m ch := fun j => by rw [hF 1 j rfl]; exact h j
section CF
variable {E : yE} {d : Nat} {mem m : yMem} {Q : Option yV → yMem → Prop} {p : Nat} {ch : Nat → Int}
theorem cf_num (hE : yEok E) (hs : w32 (mem 55 2) ≤ 800) (hB0 : cBy mem ch) (hQ : ∀ m x, aFrm ctF mem m → sRn ch 48 57 (cen mem) p x → w32 (m 55 3) = (x : Int) → w32 (m 55 5) = (p : Int) → w32 (m 55 4) = 2 → 0 ≤ w32 (m 55 6) → min (w32 (m 55 6)) 100000 = sNm ch p (x - p) → Q none m) : ∀ (c : Nat) (m : yMem) (x : Nat), cen mem - x = c → aFrm ctF mem m → w32 (m 55 5) = (p : Int) → w32 (m 55 3) = (x : Int) → p ≤ x → x ≤ cen mem → (∀ j, p ≤ j → j < x → 48 ≤ ch j ∧ ch j ≤ 57) → 0 ≤ w32 (m 55 6) → w32 (m 55 6) ≤ 1000000 → min (w32 (m 55 6)) 100000 = sNm ch p (x - p) → zG E (d + 1) xm_128 0 [some (1, 55)] [] m Q := by
  have r2 : cen mem = (w32 (mem 55 2)).toNat := rfl
  intro c
  induction c with
  | zero =>
    intro m x hc hF h5 hx h1 h2 hA hv0 hv1 hv
    refine zgo_ok (n := 60) hE xmo_128 (cs := zc_128) ?_
    have e2 : m 55 2 = mem 55 2 := hF 55 2 rfl
    simp only [ynok_30, ynok_31, w32c_0, w32c_1, w32c_2, w32c_3, w32c_4, w32c_5, w32c_6, w32c_7, w32c_8, w32c_9, w32c_10, w32c_11, w32c_12, w32c_13, w32c_14, w32c_m1, w32c_m2, w32c_118, Int.reduceAdd, Int.reduceSub, Int.reduceMul, yput_s, yput_n, znl_n, znl_0, znl_1, znl_4, ysum_n, ysum_0, ysum_1, ysum_4, true_and, and_true, Nat.reduceAdd, Nat.reduceLeDiff, true_implies, eq_self, true_or, or_true, or_false, false_or, not_true_eq_false, not_false_eq_true, false_implies, implies_true, yset_s, yset_o, yset_d, ne_eq, Nat.reduceEqDiff, Int.reduceToNat, Int.reduceEq, Int.reduceLE, Int.reduceLT, Classical.not_not, Nat.reduceLT, ↓zvk_s, ↓zvk_n, ↓g_128_0, ↓k_128_0, ↓s_128_1, ↓s_128_4, ↓s_128_5, ↓s_128_8, ↓s_128_11, ↓s_128_12, ↓s_128_15, ↓s_128_16, ↓s_128_19, ↓s_128_20, ↓s_128_23, ↓s_128_26, ↓s_128_27, ↓s_128_28, ↓s_128_31, ↓s_128_33, ↓s_128_34, ↓s_128_35, ↓s_128_38, ↓s_128_39, ↓s_128_42, ↓s_128_43, ↓s_128_44, ↓s_128_46, ↓s_128_47, ↓s_128_49, ↓s_128_52, ↓s_128_55, ↓s_128_56a, ↓s_128_56b, ↓s_128_57, ↓s_128_60, ↓s_128_61, ↓s_128_62, ↓s_128_65, ↓s_128_68, ↓s_128_69, ↓s_128_70, ↓s_128_73, w32c_48, w32c_1000000, ↓s_124_0, ↓s_124_1, ↓s_124_3, ↓s_124_6, ↓s_124_7, ↓s_124_9, ↓s_124_12, ↓s_124_13, ↓s_124_16, ↓s_124_17, w32c_57, zar_1, zia_1, zln_1, zit_1, zio_55]
    rw [e2, hx]
    refine ⟨fun _ => hQ _ x (aFrm_set hF rfl) ⟨h1, h2, hA, fun h => absurd h (by (first | exact Nat.le_of_ble_eq_true rfl | exact (fun h => absurd h.1 (by decide)) | omega))⟩ ?_ ?_ ?_ ?_ ?_, fun h => absurd (show w32 (mem 55 2) ≤ (x : Int) by (first | exact Nat.le_of_ble_eq_true rfl | exact (fun h => absurd h.1 (by decide)) | omega)) h⟩
    · rw [yset_d (by decide)]; exact hx
    · rw [yset_d (by decide)]; exact h5
    · rw [yset_s]; decide
    · rw [yset_d (by decide)]; exact hv0
    · rw [yset_d (by decide)]; exact hv
  | succ c ih =>
    intro m x hc hF h5 hx h1 h2 hA hv0 hv1 hv
    have e2 : m 55 2 = mem 55 2 := hF 55 2 rfl
    have e1 : w32 (m 55 3 + 1) = (x : Int) + 1 := by rw [w32_ad (by rw [w32c_1]; (first | exact Nat.le_of_ble_eq_true rfl | exact (fun h => absurd h.1 (by decide)) | omega)) (by rw [w32c_1]; (first | exact Nat.le_of_ble_eq_true rfl | exact (fun h => absurd h.1 (by decide)) | omega)), w32c_1, hx]
    have hbs := cBy_c hB0 x
    have fin : ¬ (48 ≤ ch x ∧ ch x ≤ 57) → Q none (yset m 55 4 2) := fun hn => by
      refine hQ _ x (aFrm_set hF rfl) ⟨h1, h2, hA, fun _ => hn⟩ ?_ ?_ ?_ ?_ ?_
      · rw [yset_d (by decide)]; exact hx
      · rw [yset_d (by decide)]; exact h5
      · rw [yset_s]; decide
      · rw [yset_d (by decide)]; exact hv0
      · rw [yset_d (by decide)]; exact hv
    have go : ∀ v, 48 ≤ ch x → ch x ≤ 57 → 0 ≤ w32 v → w32 v ≤ 1000000 → min (w32 v) 100000 = sNm ch p (x - p + 1) → zG E (d + 1) xm_128 0 [some (1, 55)] [] (yset (yset m 55 6 v) 55 3 (m 55 3 + 1)) Q := fun v g1 g2 g3 g4 g5 => by
      refine ih _ (x + 1) (by (first | exact Nat.le_of_ble_eq_true rfl | exact (fun h => absurd h.1 (by decide)) | omega)) (aFrm_set (aFrm_set hF rfl) rfl) (by rw [yset_d (by decide), yset_d (by decide)]; exact h5) (by rw [yset_s, e1]; (first | exact Nat.le_of_ble_eq_true rfl | exact (fun h => absurd h.1 (by decide)) | omega)) (by (first | exact Nat.le_of_ble_eq_true rfl | exact (fun h => absurd h.1 (by decide)) | omega)) (by (first | exact Nat.le_of_ble_eq_true rfl | exact (fun h => absurd h.1 (by decide)) | omega)) (fun j j1 j2 => ?_) (by rw [yset_d (by decide), yset_s]; exact g3) (by rw [yset_d (by decide), yset_s]; exact g4) (by rw [yset_d (by decide), yset_s, show x + 1 - p = x - p + 1 by (first | exact Nat.le_of_ble_eq_true rfl | exact (fun h => absurd h.1 (by decide)) | omega)]; exact g5)
      by_cases hj : j = x
      · subst hj; exact ⟨g1, g2⟩
      · exact hA j j1 (by (first | exact Nat.le_of_ble_eq_true rfl | exact (fun h => absurd h.1 (by decide)) | omega))
    have hst : sNm ch p (x - p + 1) = min (10 * sNm ch p (x - p) + (ch x - 48)) 100000 := by
      simp only [sNm]
      rw [show p + (x - p) = x by (first | exact Nat.le_of_ble_eq_true rfl | exact (fun h => absurd h.1 (by decide)) | omega)]
    refine zgo_ok (n := 60) hE xmo_128 (cs := zc_128) ?_
    simp only [ynok_30, ynok_31, w32c_0, w32c_1, w32c_2, w32c_3, w32c_4, w32c_5, w32c_6, w32c_7, w32c_8, w32c_9, w32c_10, w32c_11, w32c_12, w32c_13, w32c_14, w32c_m1, w32c_m2, w32c_118, Int.reduceAdd, Int.reduceSub, Int.reduceMul, yput_s, yput_n, znl_n, znl_0, znl_1, znl_4, ysum_n, ysum_0, ysum_1, ysum_4, true_and, and_true, Nat.reduceAdd, Nat.reduceLeDiff, true_implies, eq_self, true_or, or_true, or_false, false_or, not_true_eq_false, not_false_eq_true, false_implies, implies_true, yset_s, yset_o, yset_d, ne_eq, Nat.reduceEqDiff, Int.reduceToNat, Int.reduceEq, Int.reduceLE, Int.reduceLT, Classical.not_not, Nat.reduceLT, ↓zvk_s, ↓zvk_n, ↓g_128_0, ↓k_128_0, ↓s_128_1, ↓s_128_4, ↓s_128_5, ↓s_128_8, ↓s_128_11, ↓s_128_12, ↓s_128_15, ↓s_128_16, ↓s_128_19, ↓s_128_20, ↓s_128_23, ↓s_128_26, ↓s_128_27, ↓s_128_28, ↓s_128_31, ↓s_128_33, ↓s_128_34, ↓s_128_35, ↓s_128_38, ↓s_128_39, ↓s_128_42, ↓s_128_43, ↓s_128_44, ↓s_128_46, ↓s_128_47, ↓s_128_49, ↓s_128_52, ↓s_128_55, ↓s_128_56a, ↓s_128_56b, ↓s_128_57, ↓s_128_60, ↓s_128_61, ↓s_128_62, ↓s_128_65, ↓s_128_68, ↓s_128_69, ↓s_128_70, ↓s_128_73, w32c_48, w32c_1000000, ↓s_124_0, ↓s_124_1, ↓s_124_3, ↓s_124_6, ↓s_124_7, ↓s_124_9, ↓s_124_12, ↓s_124_13, ↓s_124_16, ↓s_124_17, w32c_57, zar_1, zia_1, zln_1, zit_1, zio_55]
    rw [e2, hx, hF 1 _ rfl, Int.toNat_natCast]
    have e48 : w32 48 = 48 := by decide
    have eM : w32 1000000 = 1000000 := by decide
    have ev : 48 ≤ ch x → ch x ≤ 57 → w32 (m 55 6 * 10 + mem 1 x - 48) = 10 * w32 (m 55 6) + (ch x - 48) := fun g1 g2 => by
      have a0 : w32 (m 55 6 * 10) = 10 * w32 (m 55 6) := by rw [Int.mul_comm]; exact w32_k (by decide) (by (first | exact Nat.le_of_ble_eq_true rfl | exact (fun h => absurd h.1 (by decide)) | omega)) (by (first | exact Nat.le_of_ble_eq_true rfl | exact (fun h => absurd h.1 (by decide)) | omega))
      have a1 : w32 (m 55 6 * 10 + mem 1 x) = 10 * w32 (m 55 6) + ch x := by rw [w32_ad (by rw [a0]; (first | exact Nat.le_of_ble_eq_true rfl | exact (fun h => absurd h.1 (by decide)) | omega)) (by rw [a0]; (first | exact Nat.le_of_ble_eq_true rfl | exact (fun h => absurd h.1 (by decide)) | omega)), a0]; (first | exact Nat.le_of_ble_eq_true rfl | exact (fun h => absurd h.1 (by decide)) | omega)
      rw [w32_sb (by rw [a1, e48]; (first | exact Nat.le_of_ble_eq_true rfl | exact (fun h => absurd h.1 (by decide)) | omega)) (by rw [a1, e48]; (first | exact Nat.le_of_ble_eq_true rfl | exact (fun h => absurd h.1 (by decide)) | omega)), a1, e48]
      (first | exact Nat.le_of_ble_eq_true rfl | exact (fun h => absurd h.1 (by decide)) | omega)
    refine ⟨fun h => absurd h (by (first | exact Nat.le_of_ble_eq_true rfl | exact (fun h => absurd h.1 (by decide)) | omega)), fun _ => ⟨⟨by (first | exact Nat.le_of_ble_eq_true rfl | exact (fun h => absurd h.1 (by decide)) | omega), by (first | exact Nat.le_of_ble_eq_true rfl | exact (fun h => absurd h.1 (by decide)) | omega)⟩, fun h => fin (fun z => by (first | exact Nat.le_of_ble_eq_true rfl | exact (fun h => absurd h.1 (by decide)) | omega)), fun h48 => ⟨fun h => fin (fun z => by (first | exact Nat.le_of_ble_eq_true rfl | exact (fun h => absurd h.1 (by decide)) | omega)), fun h57 => ⟨⟨by (first | exact Nat.le_of_ble_eq_true rfl | exact (fun h => absurd h.1 (by decide)) | omega), by (first | exact Nat.le_of_ble_eq_true rfl | exact (fun h => absurd h.1 (by decide)) | omega)⟩, ?_⟩⟩⟩⟩
    have e := ev (by (first | exact Nat.le_of_ble_eq_true rfl | exact (fun h => absurd h.1 (by decide)) | omega)) (by (first | exact Nat.le_of_ble_eq_true rfl | exact (fun h => absurd h.1 (by decide)) | omega))
    have em : w32 (zmni (m 55 6 * 10 + mem 1 x - 48) 1000000) = min (10 * w32 (m 55 6) + (ch x - 48)) 1000000 := by
      unfold zmni
      rw [eM, e]
      split <;> (first | exact Nat.le_of_ble_eq_true rfl | exact (fun h => absurd h.1 (by decide)) | omega)
    exact go _ (by (first | exact Nat.le_of_ble_eq_true rfl | exact (fun h => absurd h.1 (by decide)) | omega)) (by (first | exact Nat.le_of_ble_eq_true rfl | exact (fun h => absurd h.1 (by decide)) | omega)) (by rw [em]; (first | exact Nat.le_of_ble_eq_true rfl | exact (fun h => absurd h.1 (by decide)) | omega)) (by rw [em]; (first | exact Nat.le_of_ble_eq_true rfl | exact (fun h => absurd h.1 (by decide)) | omega)) (by rw [hst, em]; (first | exact Nat.le_of_ble_eq_true rfl | exact (fun h => absurd h.1 (by decide)) | omega))
/-- the letters of a word, packed from the left -/
theorem zix_z {f : Nat → Int} {b : Int} {c : Nat} (h : ∀ j, c ≤ j → w32 (f j) = 0) : ∀ d : Nat, zix f b (c + d) = zix f b c * b ^ d
  | 0 => by simp
  | d + 1 => by
    rw [show c + (d + 1) = c + d + 1 by (first | exact Nat.le_of_ble_eq_true rfl | exact (fun h => absurd h.1 (by decide)) | omega)]
    simp only [zix]
    rw [zix_z h d, h (c + d) (by (first | exact Nat.le_of_ble_eq_true rfl | exact (fun h => absurd h.1 (by decide)) | omega)), Int.pow_succ, Int.mul_assoc]
    (first | exact Nat.le_of_ble_eq_true rfl | exact (fun h => absurd h.1 (by decide)) | omega)
def cPv (ch : Nat → Int) (p c : Nat) : Int := zix (sLt ch p (p + c)) 32 6
theorem cPv_a0 {A B C D a t K M P q : Int} (hA : A = K) (hB : B = M) (hC : C = K) (hD : D = M) (hK : K = 32 * M) (hP : q < P) (hPK : P * K = 1073741824) (ha0 : 0 ≤ q) (hM : 1 ≤ M) (ht : 0 ≤ t) (ht2 : t ≤ 26) (hq : a = q) : a * A = C * a ∧ (a * 32 + t) * B = C * a + t * D ∧ C * a + t * D < 1073741824 ∧ t * D < C := by
  subst hA; subst hB; subst hq
  rw [hC, hD]
  have e1 : (a * 32 + t) * B = a * (32 * B) + t * B := by rw [Int.add_mul, Int.mul_assoc]
  have e2 : t * B ≤ 26 * B := Int.mul_le_mul_of_nonneg_right ht2 (by (first | exact Nat.le_of_ble_eq_true rfl | exact (fun h => absurd h.1 (by decide)) | omega))
  have e3 : (a + 1) * A ≤ P * A := Int.mul_le_mul_of_nonneg_right (by (first | exact Nat.le_of_ble_eq_true rfl | exact (fun h => absurd h.1 (by decide)) | omega)) (by (first | exact Nat.le_of_ble_eq_true rfl | exact (fun h => absurd h.1 (by decide)) | omega))
  rw [Int.add_mul, Int.one_mul, hPK] at e3
  refine ⟨Int.mul_comm _ _, ?_, ?_, by (first | exact Nat.le_of_ble_eq_true rfl | exact (fun h => absurd h.1 (by decide)) | omega)⟩
  · rw [e1, hK, Int.mul_comm (32 * B) a]
  · rw [Int.mul_comm A a]; (first | exact Nat.le_of_ble_eq_true rfl | exact (fun h => absurd h.1 (by decide)) | omega)
theorem cPv_p (c : Nat) (hc : c < 6) : (32 : Int) ^ (6 - c) = ((2 ^ (30 - 5 * c) : Nat) : Int) ∧ (32 : Int) ^ (5 - c) = ((2 ^ (25 - 5 * c) : Nat) : Int) ∧ ((2 ^ (30 - 5 * c) : Nat) : Int) = 32 * ((2 ^ (25 - 5 * c) : Nat) : Int) ∧ (32 : Int) ^ c * ((2 ^ (30 - 5 * c) : Nat) : Int) = 1073741824 := by
  revert c
  decide +kernel
theorem cPv_ar (c a t : Nat) (hc : c < 6) (h : (a : Int) < 32 ^ c) (ht : t ≤ 26) : (a : Int) * 32 ^ (6 - c) = ((2 ^ (30 - 5 * c) * a : Nat) : Int) ∧ ((a : Int) * 32 + (t : Int)) * 32 ^ (5 - c) = ((2 ^ (30 - 5 * c) * a + t * 2 ^ (25 - 5 * c) : Nat) : Int) ∧ 2 ^ (30 - 5 * c) * a + t * 2 ^ (25 - 5 * c) < 1073741824 ∧ t * 2 ^ (25 - 5 * c) < 2 ^ (30 - 5 * c) := by
  obtain ⟨p1, p2, p3, p4⟩ := cPv_p c hc
  have hpos : 1 ≤ 2 ^ (25 - 5 * c) := Nat.one_le_two_pow
  generalize 2 ^ (30 - 5 * c) = K at p1 p3 p4 ⊢
  generalize 2 ^ (25 - 5 * c) = M at p2 p3 hpos ⊢
  generalize (32 : Int) ^ c = P at h p4
  obtain ⟨r1, r2, r3, r4⟩ := cPv_a0 (a := (a : Int)) (t := (t : Int)) (q := (a : Int)) p1 p2 (C := (K : Int)) (D := (M : Int)) rfl rfl p3 h p4 (by (first | exact Nat.le_of_ble_eq_true rfl | exact (fun h => absurd h.1 (by decide)) | omega)) (by (first | exact Nat.le_of_ble_eq_true rfl | exact (fun h => absurd h.1 (by decide)) | omega)) (by (first | exact Nat.le_of_ble_eq_true rfl | exact (fun h => absurd h.1 (by decide)) | omega)) (by (first | exact Nat.le_of_ble_eq_true rfl | exact (fun h => absurd h.1 (by decide)) | omega)) rfl
  refine ⟨?_, ?_, ?_, ?_⟩
  · rw [r1, Int.natCast_mul]
  · rw [r2, Int.natCast_add, Int.natCast_mul, Int.natCast_mul]
  · have : ((K * a + t * M : Nat) : Int) < 1073741824 := by rw [Int.natCast_add, Int.natCast_mul, Int.natCast_mul]; exact r3
    (first | exact Nat.le_of_ble_eq_true rfl | exact (fun h => absurd h.1 (by decide)) | omega)
  · have : ((t * M : Nat) : Int) < (K : Int) := by rw [Int.natCast_mul]; exact r4
    (first | exact Nat.le_of_ble_eq_true rfl | exact (fun h => absurd h.1 (by decide)) | omega)
theorem cPv_s {ch : Nat → Int} {p c : Nat} (hl : ∀ j, p ≤ j → j < p + c + 1 → 97 ≤ ch j ∧ ch j ≤ 122) (hc : c < 6) : ∃ a : Nat, cPv ch p c = ((2 ^ (30 - 5 * c) * a : Nat) : Int) ∧ cPv ch p (c + 1) = ((2 ^ (30 - 5 * c) * a + (ch (p + c) - 96).toNat * 2 ^ (25 - 5 * c) : Nat) : Int) ∧ 2 ^ (30 - 5 * c) * a + (ch (p + c) - 96).toNat * 2 ^ (25 - 5 * c) < 1073741824 ∧ (ch (p + c) - 96).toNat * 2 ^ (25 - 5 * c) < 2 ^ (30 - 5 * c) := by
  have hl0 : ∀ j, p ≤ j → j < p + c → 97 ≤ ch j ∧ ch j ≤ 122 := fun j j1 j2 => hl j j1 (by (first | exact Nat.le_of_ble_eq_true rfl | exact (fun h => absurd h.1 (by decide)) | omega))
  have sw : ∀ (e : Nat) (he : ∀ j, p ≤ j → j < e → 97 ≤ ch j ∧ ch j ≤ 122) (j : Nat), w32 (sLt ch p e j) = sLt ch p e j := fun e he j => by
    have := sLt_d he j
    exact w32_of (by (first | exact Nat.le_of_ble_eq_true rfl | exact (fun h => absurd h.1 (by decide)) | omega)) (by (first | exact Nat.le_of_ble_eq_true rfl | exact (fun h => absurd h.1 (by decide)) | omega))
  have z0 : ∀ j, c ≤ j → w32 (sLt ch p (p + c) j) = 0 := fun j hj => by
    unfold sLt
    rw [if_neg (by (first | exact Nat.le_of_ble_eq_true rfl | exact (fun h => absurd h.1 (by decide)) | omega))]
    decide
  have z1 : ∀ j, c + 1 ≤ j → w32 (sLt ch p (p + (c + 1)) j) = 0 := fun j hj => by
    unfold sLt
    rw [if_neg (by (first | exact Nat.le_of_ble_eq_true rfl | exact (fun h => absurd h.1 (by decide)) | omega))]
    decide
  have b := zix_b32 (f := sLt ch p (p + c)) (fun j => by rw [sw _ hl0 j]; have := sLt_d hl0 j; exact ⟨this.1, this.2.1⟩) c
  have x0 : zix (sLt ch p (p + (c + 1))) 32 c = zix (sLt ch p (p + c)) 32 c := zix_ext c (fun j hj => by
    unfold sLt
    rw [if_pos (by (first | exact Nat.le_of_ble_eq_true rfl | exact (fun h => absurd h.1 (by decide)) | omega)), if_pos (by (first | exact Nat.le_of_ble_eq_true rfl | exact (fun h => absurd h.1 (by decide)) | omega))])
  have lc := hl (p + c) (by (first | exact Nat.le_of_ble_eq_true rfl | exact (fun h => absurd h.1 (by decide)) | omega)) (by (first | exact Nat.le_of_ble_eq_true rfl | exact (fun h => absurd h.1 (by decide)) | omega))
  have x1 : zix (sLt ch p (p + (c + 1))) 32 (c + 1) = zix (sLt ch p (p + c)) 32 c * 32 + (ch (p + c) - 96) := by
    simp only [zix]
    rw [x0]
    congr 1
    unfold sLt
    rw [if_pos (by (first | exact Nat.le_of_ble_eq_true rfl | exact (fun h => absurd h.1 (by decide)) | omega))]
    exact w32_of (by (first | exact Nat.le_of_ble_eq_true rfl | exact (fun h => absurd h.1 (by decide)) | omega)) (by (first | exact Nat.le_of_ble_eq_true rfl | exact (fun h => absurd h.1 (by decide)) | omega))
  have p0 : cPv ch p c = zix (sLt ch p (p + c)) 32 c * 32 ^ (6 - c) := by
    unfold cPv
    have := zix_z (b := 32) z0 (6 - c)
    rwa [show c + (6 - c) = 6 by (first | exact Nat.le_of_ble_eq_true rfl | exact (fun h => absurd h.1 (by decide)) | omega)] at this
  have p1 : cPv ch p (c + 1) = (zix (sLt ch p (p + c)) 32 c * 32 + (ch (p + c) - 96)) * 32 ^ (5 - c) := by
    unfold cPv
    have := zix_z (b := 32) z1 (5 - c)
    rw [show c + 1 + (5 - c) = 6 by (first | exact Nat.le_of_ble_eq_true rfl | exact (fun h => absurd h.1 (by decide)) | omega)] at this
    rw [this, x1]
  rw [p0, p1]
  generalize zix (sLt ch p (p + c)) 32 c = Z at b ⊢
  generalize hy : ch (p + c) - 96 = y at lc ⊢
  obtain ⟨a, rfl⟩ : ∃ a : Nat, Z = (a : Int) := ⟨Z.toNat, by (first | exact Nat.le_of_ble_eq_true rfl | exact (fun h => absurd h.1 (by decide)) | omega)⟩
  obtain ⟨t, rfl⟩ : ∃ t : Nat, y = (t : Int) := ⟨y.toNat, by (first | exact Nat.le_of_ble_eq_true rfl | exact (fun h => absurd h.1 (by decide)) | omega)⟩
  rw [Int.toNat_natCast]
  exact ⟨a, cPv_ar c a t hc b.2 (by (first | exact Nat.le_of_ble_eq_true rfl | exact (fun h => absurd h.1 (by decide)) | omega))⟩
end CF
end
