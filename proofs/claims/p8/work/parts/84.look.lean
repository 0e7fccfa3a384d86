theorem s_103_0 {E : yE} {n d : Nat} {mem : yMem} {Post : Option yV → yMem → Prop} {st : List yV} {r0 : Option yV} {x : Int} : zvc E (n + 1) [] d xm_103 0 [r0, some (0, x)] (st) mem Post = (zvc E n [] d xm_103 1 [r0, some (0, x)] ((0, x) :: st) mem Post) := zrf rfl
theorem s_103_1 {E : yE} {n d : Nat} {mem : yMem} {Post : Option yV → yMem → Prop} {st : List yV} {r0 r1 : Option yV} {x : Int} : zvc E (n + 1) [] d xm_103 1 [r0, r1] ((0, x) :: st) mem Post = ((w32 x < w32 0 → zvc E n [] d xm_103 16 [r0, r1] (st) mem Post) ∧ (¬ (w32 x < w32 0) → zvc E n [] d xm_103 4 [r0, r1] (st) mem Post)) := zrf rfl
theorem s_103_4 {E : yE} {n d : Nat} {mem : yMem} {Post : Option yV → yMem → Prop} {st : List yV} {r0 : Option yV} {x : Int} : zvc E (n + 1) [] d xm_103 4 [r0, some (0, x)] (st) mem Post = (zvc E n [] d xm_103 5 [r0, some (0, x)] ((0, x) :: st) mem Post) := zrf rfl
theorem s_103_5 {E : yE} {n d : Nat} {mem : yMem} {Post : Option yV → yMem → Prop} {st : List yV} {r1 : Option yV} {x : Int} : zvc E (n + 1) [] d xm_103 5 [some (1, x), r1] (st) mem Post = (zvc E n [] d xm_103 6 [some (1, x), r1] ((1, x) :: st) mem Post) := zrf rfl
theorem s_103_6_3 {E : yE} {n d : Nat} {mem : yMem} {Post : Option yV → yMem → Prop} {st : List yV} {r0 r1 : Option yV} : zvc E (n + 1) [] d xm_103 6 [r0, r1] ((1, 3) :: st) mem Post = (zvc E n [] d xm_103 9 [r0, r1] ((0, mem 3 1) :: st) mem Post) := zrf rfl
theorem s_103_6_5 {E : yE} {n d : Nat} {mem : yMem} {Post : Option yV → yMem → Prop} {st : List yV} {r0 r1 : Option yV} : zvc E (n + 1) [] d xm_103 6 [r0, r1] ((1, 5) :: st) mem Post = (zvc E n [] d xm_103 9 [r0, r1] ((0, mem 5 1) :: st) mem Post) := zrf rfl
theorem s_103_6_7 {E : yE} {n d : Nat} {mem : yMem} {Post : Option yV → yMem → Prop} {st : List yV} {r0 r1 : Option yV} : zvc E (n + 1) [] d xm_103 6 [r0, r1] ((1, 7) :: st) mem Post = (zvc E n [] d xm_103 9 [r0, r1] ((0, mem 7 1) :: st) mem Post) := zrf rfl
theorem s_103_6_9 {E : yE} {n d : Nat} {mem : yMem} {Post : Option yV → yMem → Prop} {st : List yV} {r0 r1 : Option yV} : zvc E (n + 1) [] d xm_103 6 [r0, r1] ((1, 9) :: st) mem Post = (zvc E n [] d xm_103 9 [r0, r1] ((0, mem 9 1) :: st) mem Post) := zrf rfl
theorem s_103_6_29 {E : yE} {n d : Nat} {mem : yMem} {Post : Option yV → yMem → Prop} {st : List yV} {r0 r1 : Option yV} : zvc E (n + 1) [] d xm_103 6 [r0, r1] ((1, 29) :: st) mem Post = (zvc E n [] d xm_103 9 [r0, r1] ((0, mem 29 1) :: st) mem Post) := zrf rfl
theorem s_103_6_31 {E : yE} {n d : Nat} {mem : yMem} {Post : Option yV → yMem → Prop} {st : List yV} {r0 r1 : Option yV} : zvc E (n + 1) [] d xm_103 6 [r0, r1] ((1, 31) :: st) mem Post = (zvc E n [] d xm_103 9 [r0, r1] ((0, mem 31 1) :: st) mem Post) := zrf rfl
theorem s_103_6_33 {E : yE} {n d : Nat} {mem : yMem} {Post : Option yV → yMem → Prop} {st : List yV} {r0 r1 : Option yV} : zvc E (n + 1) [] d xm_103 6 [r0, r1] ((1, 33) :: st) mem Post = (zvc E n [] d xm_103 9 [r0, r1] ((0, mem 33 1) :: st) mem Post) := zrf rfl
theorem s_103_6_35 {E : yE} {n d : Nat} {mem : yMem} {Post : Option yV → yMem → Prop} {st : List yV} {r0 r1 : Option yV} : zvc E (n + 1) [] d xm_103 6 [r0, r1] ((1, 35) :: st) mem Post = (zvc E n [] d xm_103 9 [r0, r1] ((0, mem 35 1) :: st) mem Post) := zrf rfl
theorem s_103_9 {E : yE} {n d : Nat} {mem : yMem} {Post : Option yV → yMem → Prop} {st : List yV} {r0 r1 : Option yV} {x y : Int} : zvc E (n + 1) [] d xm_103 9 [r0, r1] ((0, y) :: (0, x) :: st) mem Post = ((w32 y ≤ w32 x → zvc E n [] d xm_103 16 [r0, r1] (st) mem Post) ∧ (¬ (w32 y ≤ w32 x) → zvc E n [] d xm_103 12 [r0, r1] (st) mem Post)) := zrf rfl
theorem s_103_12 {E : yE} {n d : Nat} {mem : yMem} {Post : Option yV → yMem → Prop} {st : List yV} {r0 r1 : Option yV} : zvc E (n + 1) [] d xm_103 12 [r0, r1] (st) mem Post = (zvc E n [] d xm_103 13 [r0, r1] ((0, 1) :: st) mem Post) := zrf rfl
theorem s_103_13 {E : yE} {n d : Nat} {mem : yMem} {Post : Option yV → yMem → Prop} {st : List yV} {r0 r1 : Option yV} : zvc E (n + 1) [] d xm_103 13 [r0, r1] (st) mem Post = (zvc E n [] d xm_103 17 [r0, r1] (st) mem Post) := zrf rfl
theorem s_103_16 {E : yE} {n d : Nat} {mem : yMem} {Post : Option yV → yMem → Prop} {st : List yV} {r0 r1 : Option yV} : zvc E (n + 1) [] d xm_103 16 [r0, r1] (st) mem Post = (zvc E n [] d xm_103 17 [r0, r1] ((0, 0) :: st) mem Post) := zrf rfl
theorem s_103_17 {E : yE} {n d : Nat} {mem : yMem} {Post : Option yV → yMem → Prop} {r0 r1 : Option yV} {x : Int} : zvc E (n + 1) [] d xm_103 17 [r0, r1] ([(0, x)]) mem Post = ((w32 x = 0 ∨ w32 x = 1) ∧ Post (some (0, x)) mem) := zrf rfl
theorem s_139_0 {E : yE} {n d : Nat} {mem : yMem} {Post : Option yV → yMem → Prop} {st : List yV} {r1 : Option yV} {x : Int} : zvc E (n + 1) [] d xm_139 0 [some (1, x), r1] (st) mem Post = (zvc E n [] d xm_139 1 [some (1, x), r1] ((1, x) :: st) mem Post) := zrf rfl
theorem s_139_1_57 {E : yE} {n d : Nat} {mem : yMem} {Post : Option yV → yMem → Prop} {st : List yV} {r0 r1 : Option yV} : zvc E (n + 1) [] d xm_139 1 [r0, r1] ((1, 57) :: st) mem Post = (zvc E n [] d xm_139 4 [r0, r1] ((0, mem 57 10) :: st) mem Post) := zrf rfl
theorem s_139_1_64 {E : yE} {n d : Nat} {mem : yMem} {Post : Option yV → yMem → Prop} {st : List yV} {r0 r1 : Option yV} : zvc E (n + 1) [] d xm_139 1 [r0, r1] ((1, 64) :: st) mem Post = (zvc E n [] d xm_139 4 [r0, r1] ((0, mem 64 10) :: st) mem Post) := zrf rfl
theorem s_139_4 {E : yE} {n d : Nat} {mem : yMem} {Post : Option yV → yMem → Prop} {st : List yV} {r0 : Option yV} {x : Int} : zvc E (n + 1) [] d xm_139 4 [r0, some (0, x)] (st) mem Post = (zvc E n [] d xm_139 5 [r0, some (0, x)] ((0, x) :: st) mem Post) := zrf rfl
theorem s_139_5 {E : yE} {n d : Nat} {mem : yMem} {Post : Option yV → yMem → Prop} {st : List yV} {r0 r1 : Option yV} {x y : Int} : zvc E (n + 1) [] d xm_139 5 [r0, r1] ((0, y) :: (0, x) :: st) mem Post = (zvc E n [] d xm_139 6 [r0, r1] ((0, ybin 7 x y) :: st) mem Post) := zrf rfl
theorem s_139_6 {E : yE} {n d : Nat} {mem : yMem} {Post : Option yV → yMem → Prop} {st : List yV} {r0 r1 : Option yV} : zvc E (n + 1) [] d xm_139 6 [r0, r1] (st) mem Post = (zvc E n [] d xm_139 7 [r0, r1] ((0, 1) :: st) mem Post) := zrf rfl
theorem s_139_7 {E : yE} {n d : Nat} {mem : yMem} {Post : Option yV → yMem → Prop} {st : List yV} {r0 r1 : Option yV} {x y : Int} : zvc E (n + 1) [] d xm_139 7 [r0, r1] ((0, y) :: (0, x) :: st) mem Post = (zvc E n [] d xm_139 8 [r0, r1] ((0, ybin 3 x y) :: st) mem Post) := zrf rfl
theorem s_139_8 {E : yE} {n d : Nat} {mem : yMem} {Post : Option yV → yMem → Prop} {st : List yV} {r0 r1 : Option yV} {x : Int} : zvc E (n + 1) [] d xm_139 8 [r0, r1] ((0, x) :: st) mem Post = ((w32 x = w32 0 → zvc E n [] d xm_139 15 [r0, r1] (st) mem Post) ∧ (¬ (w32 x = w32 0) → zvc E n [] d xm_139 11 [r0, r1] (st) mem Post)) := zrf rfl
theorem s_139_11 {E : yE} {n d : Nat} {mem : yMem} {Post : Option yV → yMem → Prop} {st : List yV} {r0 r1 : Option yV} : zvc E (n + 1) [] d xm_139 11 [r0, r1] (st) mem Post = (zvc E n [] d xm_139 12 [r0, r1] ((0, 1) :: st) mem Post) := zrf rfl
theorem s_139_12 {E : yE} {n d : Nat} {mem : yMem} {Post : Option yV → yMem → Prop} {st : List yV} {r0 r1 : Option yV} : zvc E (n + 1) [] d xm_139 12 [r0, r1] (st) mem Post = (zvc E n [] d xm_139 16 [r0, r1] (st) mem Post) := zrf rfl
theorem s_139_15 {E : yE} {n d : Nat} {mem : yMem} {Post : Option yV → yMem → Prop} {st : List yV} {r0 r1 : Option yV} : zvc E (n + 1) [] d xm_139 15 [r0, r1] (st) mem Post = (zvc E n [] d xm_139 16 [r0, r1] ((0, 0) :: st) mem Post) := zrf rfl
theorem s_139_16 {E : yE} {n d : Nat} {mem : yMem} {Post : Option yV → yMem → Prop} {r0 r1 : Option yV} {x : Int} : zvc E (n + 1) [] d xm_139 16 [r0, r1] ([(0, x)]) mem Post = ((w32 x = 0 ∨ w32 x = 1) ∧ Post (some (0, x)) mem) := zrf rfl
theorem s_81_0 {E : yE} {n d : Nat} {mem : yMem} {Post : Option yV → yMem → Prop} {st : List yV} {r1 : Option yV} {x : Int} : zvc E (n + 1) [] d xm_81 0 [some (1, x), r1] (st) mem Post = (zvc E n [] d xm_81 1 [some (1, x), r1] ((1, x) :: st) mem Post) := zrf rfl
theorem s_81_1_2 {E : yE} {n d : Nat} {mem : yMem} {Post : Option yV → yMem → Prop} {st : List yV} {r0 r1 : Option yV} : zvc E (n + 1) [] d xm_81 1 [r0, r1] ((1, 2) :: st) mem Post = (zvc E n [] d xm_81 4 [r0, r1] ((0, mem 2 16) :: st) mem Post) := zrf rfl
theorem s_81_1_28 {E : yE} {n d : Nat} {mem : yMem} {Post : Option yV → yMem → Prop} {st : List yV} {r0 r1 : Option yV} : zvc E (n + 1) [] d xm_81 1 [r0, r1] ((1, 28) :: st) mem Post = (zvc E n [] d xm_81 4 [r0, r1] ((0, mem 28 16) :: st) mem Post) := zrf rfl
theorem s_81_4 {E : yE} {n d : Nat} {mem : yMem} {Post : Option yV → yMem → Prop} {st : List yV} {r0 : Option yV} {x : Int} : zvc E (n + 1) [] d xm_81 4 [r0, some (0, x)] (st) mem Post = (zvc E n [] d xm_81 5 [r0, some (0, x)] ((0, x) :: st) mem Post) := zrf rfl
theorem s_81_5 {E : yE} {n d : Nat} {mem : yMem} {Post : Option yV → yMem → Prop} {st : List yV} {r0 r1 : Option yV} {x y : Int} : zvc E (n + 1) [] d xm_81 5 [r0, r1] ((0, y) :: (0, x) :: st) mem Post = (zvc E n [] d xm_81 6 [r0, r1] ((0, ybin 7 x y) :: st) mem Post) := zrf rfl
theorem s_81_6 {E : yE} {n d : Nat} {mem : yMem} {Post : Option yV → yMem → Prop} {st : List yV} {r0 r1 : Option yV} : zvc E (n + 1) [] d xm_81 6 [r0, r1] (st) mem Post = (zvc E n [] d xm_81 7 [r0, r1] ((0, 1) :: st) mem Post) := zrf rfl
theorem s_81_7 {E : yE} {n d : Nat} {mem : yMem} {Post : Option yV → yMem → Prop} {st : List yV} {r0 r1 : Option yV} {x y : Int} : zvc E (n + 1) [] d xm_81 7 [r0, r1] ((0, y) :: (0, x) :: st) mem Post = (zvc E n [] d xm_81 8 [r0, r1] ((0, ybin 3 x y) :: st) mem Post) := zrf rfl
theorem s_81_8 {E : yE} {n d : Nat} {mem : yMem} {Post : Option yV → yMem → Prop} {st : List yV} {r0 r1 : Option yV} {x : Int} : zvc E (n + 1) [] d xm_81 8 [r0, r1] ((0, x) :: st) mem Post = ((w32 x = w32 0 → zvc E n [] d xm_81 15 [r0, r1] (st) mem Post) ∧ (¬ (w32 x = w32 0) → zvc E n [] d xm_81 11 [r0, r1] (st) mem Post)) := zrf rfl
theorem s_81_11 {E : yE} {n d : Nat} {mem : yMem} {Post : Option yV → yMem → Prop} {st : List yV} {r0 r1 : Option yV} : zvc E (n + 1) [] d xm_81 11 [r0, r1] (st) mem Post = (zvc E n [] d xm_81 12 [r0, r1] ((0, 1) :: st) mem Post) := zrf rfl
theorem s_81_12 {E : yE} {n d : Nat} {mem : yMem} {Post : Option yV → yMem → Prop} {st : List yV} {r0 r1 : Option yV} : zvc E (n + 1) [] d xm_81 12 [r0, r1] (st) mem Post = (zvc E n [] d xm_81 16 [r0, r1] (st) mem Post) := zrf rfl
theorem s_81_15 {E : yE} {n d : Nat} {mem : yMem} {Post : Option yV → yMem → Prop} {st : List yV} {r0 r1 : Option yV} : zvc E (n + 1) [] d xm_81 15 [r0, r1] (st) mem Post = (zvc E n [] d xm_81 16 [r0, r1] ((0, 0) :: st) mem Post) := zrf rfl
theorem s_81_16 {E : yE} {n d : Nat} {mem : yMem} {Post : Option yV → yMem → Prop} {r0 r1 : Option yV} {x : Int} : zvc E (n + 1) [] d xm_81 16 [r0, r1] ([(0, x)]) mem Post = ((w32 x = 0 ∨ w32 x = 1) ∧ Post (some (0, x)) mem) := zrf rfl
theorem e_103 {E : yE} {d : Nat} {mem : yMem} {Q : Option yV → yMem → Prop} {z a0 : Int} (h : zG E d xm_103 0 [some (1, z), some (0, a0)] [] mem Q) : yCon E (d + 1) xm_103 [(1, z), (0, a0)] mem Q := zcon_of xmo_103 (Nat.le_of_ble_eq_true rfl) h
theorem e_139 {E : yE} {d : Nat} {mem : yMem} {Q : Option yV → yMem → Prop} {z a0 : Int} (h : zG E d xm_139 0 [some (1, z), some (0, a0)] [] mem Q) : yCon E (d + 1) xm_139 [(1, z), (0, a0)] mem Q := zcon_of xmo_139 (Nat.le_of_ble_eq_true rfl) h
theorem e_81 {E : yE} {d : Nat} {mem : yMem} {Q : Option yV → yMem → Prop} {z a0 : Int} (h : zG E d xm_81 0 [some (1, z), some (0, a0)] [] mem Q) : yCon E (d + 1) xm_81 [(1, z), (0, a0)] mem Q := zcon_of xmo_81 (Nat.le_of_ble_eq_true rfl) h

theorem c_holds5 {E : yE} (hE : yEok E) {D : Nat} (hD : 1 ≤ D) {mem : yMem} {Q : Option yV → yMem → Prop} {x : Int} (yes : 0 ≤ w32 x → w32 x < w32 (mem 5 1) → Q (some (0, 1)) mem) (no : Q (some (0, 0)) mem) : yCon E D xm_103 [(1, 5), (0, x)] mem Q := by
  obtain ⟨d, rfl⟩ := Nat.exists_eq_add_of_le' hD
  refine e_103 ?_
  refine zvc_ok hE 60 [] _ _ _ _ _ _ _ xmo_103 ?_
  simp only [ynok_30, ynok_31, w32c_0, w32c_1, w32c_2, w32c_3, w32c_4, w32c_5, w32c_6, w32c_7, w32c_8, w32c_9, w32c_10, w32c_11, w32c_12, w32c_13, w32c_14, w32c_m1, w32c_m2, w32c_118, Int.reduceAdd, Int.reduceSub, Int.reduceMul, yput_s, yput_n, znl_n, znl_0, znl_1, znl_4, ysum_n, ysum_0, ysum_1, ysum_4, true_and, and_true, Nat.reduceAdd, Nat.reduceLeDiff, true_implies, eq_self, true_or, or_true, or_false, false_or, not_true_eq_false, not_false_eq_true, false_implies, implies_true, yset_s, yset_o, yset_d, ne_eq, Nat.reduceEqDiff, Int.reduceToNat, Int.reduceEq, Int.reduceLE, Int.reduceLT, Classical.not_not, Nat.reduceLT, ↓zvk_s, ↓zvk_n, ↓s_103_0, ↓s_103_1, ↓s_103_4, ↓s_103_5, ↓s_103_6_3, ↓s_103_6_5, ↓s_103_6_7, ↓s_103_6_9, ↓s_103_6_29, ↓s_103_6_31, ↓s_103_6_33, ↓s_103_6_35, ↓s_103_9, ↓s_103_12, ↓s_103_13, ↓s_103_16, ↓s_103_17, zio_33, zio_3, zio_35, zio_5, zio_7, zio_9, zio_29, zio_31]
  exact ⟨fun _ => no, fun h => ⟨fun _ => no, fun h2 => yes (by omega) (by omega)⟩⟩
theorem c_isCracked57 {E : yE} (hE : yEok E) {D : Nat} (hD : 1 ≤ D) {mem : yMem} {Q : Option yV → yMem → Prop} {x : Int} (hQ : ∀ v, Q (some (0, v)) mem) : yCon E D xm_139 [(1, 57), (0, x)] mem Q := by
  obtain ⟨d, rfl⟩ := Nat.exists_eq_add_of_le' hD
  refine e_139 ?_
  refine zvc_ok hE 60 [] _ _ _ _ _ _ _ xmo_139 ?_
  simp only [ynok_30, ynok_31, w32c_0, w32c_1, w32c_2, w32c_3, w32c_4, w32c_5, w32c_6, w32c_7, w32c_8, w32c_9, w32c_10, w32c_11, w32c_12, w32c_13, w32c_14, w32c_m1, w32c_m2, w32c_118, Int.reduceAdd, Int.reduceSub, Int.reduceMul, yput_s, yput_n, znl_n, znl_0, znl_1, znl_4, ysum_n, ysum_0, ysum_1, ysum_4, true_and, and_true, Nat.reduceAdd, Nat.reduceLeDiff, true_implies, eq_self, true_or, or_true, or_false, false_or, not_true_eq_false, not_false_eq_true, false_implies, implies_true, yset_s, yset_o, yset_d, ne_eq, Nat.reduceEqDiff, Int.reduceToNat, Int.reduceEq, Int.reduceLE, Int.reduceLT, Classical.not_not, Nat.reduceLT, ↓zvk_s, ↓zvk_n, ↓s_139_0, ↓s_139_1_57, ↓s_139_1_64, ↓s_139_4, ↓s_139_5, ↓s_139_6, ↓s_139_7, ↓s_139_8, ↓s_139_11, ↓s_139_12, ↓s_139_15, ↓s_139_16, zio_64, zio_57]
  exact ⟨fun _ => hQ _, fun _ => hQ _⟩
theorem c_isBoy2 {E : yE} (hE : yEok E) {D : Nat} (hD : 1 ≤ D) {mem : yMem} {Q : Option yV → yMem → Prop} {x : Int} (hQ : ∀ v, Q (some (0, v)) mem) : yCon E D xm_81 [(1, 2), (0, x)] mem Q := by
  obtain ⟨d, rfl⟩ := Nat.exists_eq_add_of_le' hD
  refine e_81 ?_
  refine zvc_ok hE 60 [] _ _ _ _ _ _ _ xmo_81 ?_
  simp only [ynok_30, ynok_31, w32c_0, w32c_1, w32c_2, w32c_3, w32c_4, w32c_5, w32c_6, w32c_7, w32c_8, w32c_9, w32c_10, w32c_11, w32c_12, w32c_13, w32c_14, w32c_m1, w32c_m2, w32c_118, Int.reduceAdd, Int.reduceSub, Int.reduceMul, yput_s, yput_n, znl_n, znl_0, znl_1, znl_4, ysum_n, ysum_0, ysum_1, ysum_4, true_and, and_true, Nat.reduceAdd, Nat.reduceLeDiff, true_implies, eq_self, true_or, or_true, or_false, false_or, not_true_eq_false, not_false_eq_true, false_implies, implies_true, yset_s, yset_o, yset_d, ne_eq, Nat.reduceEqDiff, Int.reduceToNat, Int.reduceEq, Int.reduceLE, Int.reduceLT, Classical.not_not, Nat.reduceLT, ↓zvk_s, ↓zvk_n, ↓s_81_0, ↓s_81_1_2, ↓s_81_1_28, ↓s_81_4, ↓s_81_5, ↓s_81_6, ↓s_81_7, ↓s_81_8, ↓s_81_11, ↓s_81_12, ↓s_81_15, ↓s_81_16, zio_2, zio_28]
  exact ⟨fun _ => hQ _, fun _ => hQ _⟩
/-! the machine's own level -/
section YW
variable {E : yE} {M : xM} {p : Program} {e : Env} {R : Room} {s : State} {m : MethodId} {args : Array Value} {below : List Frame} {meth : Method} {c : Code} {A : Nat → Prop} {H : Heap} {locs : List Loc} {ce sl : Nat} {Q : State → Prop} {ls : Array Slot} {mem : yMem} {pc nx : Nat}
theorem yw_getf {ci k i : Nat} {fs : List yV} {v : yV} {rest : List Value} (hT : xGf (xMc M) (xMo M) pc nx ci k) (hK : ysh[i]? = some (.inr (ci, fs))) (hv : fs[k]? = some v) (hC : yCtx E M p s m args meth c A) (hP : va_P (yD E) vwCl (yW E mem) H) (h : W p (yl E) e R s m args below meth c H locs ce sl Q (F0 m nx ls (ydv E (yfv v (mem i k)) :: rest))) : W p (yl E) e R s m args below meth c H locs ce sl Q (F0 m pc ls (.ref (yb E + i) :: rest)) :=
  hT p (yl E) e R s m args below meth c H locs ce sl Q ls rest hC.1.1 (yD E) (xtys (yda E)) _ i (yb E + i) (yfs E 0 fs (mem i)) _ hC.1.2.2.1 hP (yW_at hK) (by rw [yfs_get, hv, Nat.zero_add]; rfl) h
theorem yw_call {st rest : List yV} {Pc : Option yV → yMem → Prop} {mc ms : Nat} (hC : yCtx E M p s m args meth c A) (hS : va_S A s.heap H locs)
    (hrun : va_Run p (yl E) e R s m args below meth c H locs ce sl mc ms (F0 m pc ls (st.map (ydv E))) (rest.map (ydv E)) (yQp E H.size Pc) (xA (yb E) ysh.length H.size))
    (hall : ∀ r mem' H1 locs1, Pc r mem' → va_P (yD E) vwCl (yW E mem') H1 → va_S A s.heap H1 locs1 → W p (yl E) e R s m args below meth c H1 locs1 (ce + mc) (sl + ms) Q (F0 m (pc + 3) ls ((yput rest r).map (ydv E)))) : W p (yl E) e R s m args below meth c H locs ce sl Q (F0 m pc ls (st.map (ydv E))) := by
  intro T hT X
  obtain ⟨v, st₀, t, T', L, h0, X', hL, e1, e2, ⟨r, mem', k1, k2, k3, k6⟩, stp⟩ := hrun T hT X
  have ev : v = r.map (ydv E) := by injection k2
  have hsub : ∀ q, xA (yb E) ysh.length H.size q → A q := by
    rintro q (⟨a1, a2⟩ | a1)
    · have := hC.2 (q - yb E) (by omega)
      rwa [show yb E + (q - yb E) = q by omega] at this
    · exact hC.1.2.2.2.1 q (Nat.le_trans hS.1 a1)
  obtain ⟨f1, f2⟩ := k6
  rw [h0] at f1 f2
  have hS2 : va_S A s.heap T'.heap (locs ++ L) := ⟨by rw [e1]; exact Nat.le_trans hS.1 f1, fun q q1 q2 => by
    rw [e1, f2 q (Nat.lt_of_lt_of_le q1 hS.1) (fun z => q2 (hsub q z))]
    exact hS.2.1 q q1 q2, fun q hq => by
    rcases List.mem_append.mp hq with h | h
    · exact hS.2.2 q h
    · exact hsub _ (hL q h)⟩
  have W2 := hall r mem' T'.heap (locs ++ L) k1 (by rw [e1]; exact k3) hS2
  obtain ⟨t2, a1, b1⟩ := W2 T' rfl X'
  refine ⟨t2, stp t2 ?_, b1⟩
  have es : v.toList ++ rest.map (ydv E) = (yput rest r).map (ydv E) := by
    rw [ev]
    cases r <;> rfl
  rw [es]
  exact a1
/-- what stands at a method's entry -/
theorem yw_ctx {y : MethodName} {spec : Spec} {cc : ByteArray} {ml : Nat} {ret : Option FieldType} {s₁ : State} {sz : Nat} (B : BodyLoose p (yl E) y spec cc ml ret e s m args below meth c s₁) (hM1 : xMc M = cc) (hM2 : xMo M = y.cls) (hM3 : c.maxLocals = xMl M) (hM4 : xMr M = ret) (hM5 : (xMy M).name = y.name) (hts : ∀ w ∈ xgt, w.before args s = true) (hb : yb E + ysh.length ≤ sz) (hP : yPp E mem sz s) : yCtx E M p s m args meth c (xA (yb E) ysh.length sz) := by
  obtain ⟨hsz, hP, hK, hEX⟩ := hP
  refine ⟨⟨⟨B.exec, by rw [hM1]; exact B.bytes, by rw [hM2]; exact findClass_of_methodNamed B.named, hts⟩, hM3, hK, fun q h => Or.inr (by omega), fun q h => ?_, by rw [hM4]; exact B.returns, B.notSynchronized, fun h => ?_, hEX, by omega⟩, fun i hi => Or.inl ⟨by omega, by omega⟩⟩
  · rcases h with h | h
    · exact h.1
    · omega
  · exact (name_of_methodNamed B.named B.method).1.trans (hM5.symm.trans h)
end YW
/-! single instructions -/
section YO
variable {E : yE} {R : Room} {d : Nat} {M : xM} {pc nx : Nat} {lv : yL} {st : List yV} {mem : yMem} {ce sl : Nat} {Post : Option yV → yMem → Prop}
def yRm (R : Room) (d ce sl : Nat) : Prop := (d + 1 ≤ R.frames ∧ 64 * d + 64 ≤ R.locals) ∧ ce ≤ R.cells ∧ sl ≤ R.slots
theorem yo_c (hE : yEok E) (hR : yRm R d ce sl) {a : Nat} (hok : xok xmt M pc (0, nx, a, 0, [])) (h : yG E R M nx lv ((0, cI a) :: st) mem ce sl Post) : yG E R M pc lv st mem ce sl Post := yst (d := d) hE hR.1 hR.2 hok h
theorem yo_ld (hE : yEok E) (hR : yRm R d ce sl) {k i : Nat} {v : yV} (hok : xok xmt M pc (2, nx, k, i, [])) (hv : ylk lv i = some v) (hk : ykdb k v = true) (h : yG E R M nx lv (v :: st) mem ce sl Post) : yG E R M pc lv st mem ce sl Post := yst (d := d) hE hR.1 hR.2 hok (show ∃ v, ylk lv i = some v ∧ ykdb k v = true ∧ yG E R M nx lv (v :: st) mem ce sl Post from ⟨v, hv, hk, h⟩)
theorem yo_st (hE : yEok E) (hR : yRm R d ce sl) {k i : Nat} {v : yV} (hok : xok xmt M pc (3, nx, k, i, [])) (hk : ykdb k v = true) (hi : i + xwd k < xMl M) (h : yG E R M nx ((i, v) :: lv.filter (yflb k i)) st mem ce sl Post) : yG E R M pc lv (v :: st) mem ce sl Post := yst (d := d) hE hR.1 hR.2 hok (show ykdb k v = true ∧ i + xwd k < xMl M ∧ yG E R M nx ((i, v) :: lv.filter (yflb k i)) st mem ce sl Post from ⟨hk, hi, h⟩)
theorem yo_inc (hE : yEok E) (hR : yRm R d ce sl) {i a : Nat} {x : Int} (hok : xok xmt M pc (4, nx, i, a, [])) (hv : ylk lv i = some (0, x)) (hi : i < xMl M) (h : yG E R M nx ((i, (0, x + cI a)) :: lv.filter (yflb 0 i)) st mem ce sl Post) : yG E R M pc lv st mem ce sl Post := yst (d := d) hE hR.1 hR.2 hok (show ∃ x, ylk lv i = some (0, x) ∧ i < xMl M ∧ yG E R M nx ((i, (0, x + cI a)) :: lv.filter (yflb 0 i)) st mem ce sl Post from ⟨x, hv, hi, h⟩)
theorem yo_bin (hE : yEok E) (hR : yRm R d ce sl) {o : Nat} {x y : Int} (hok : xok xmt M pc (5, nx, o, 0, [])) (ho : o < 9) (h : yG E R M nx lv ((0, ybin o x y) :: st) mem ce sl Post) : yG E R M pc lv ((0, y) :: (0, x) :: st) mem ce sl Post := yst (d := d) hE hR.1 hR.2 hok (show ((o = 9 ∨ o = 10) → ¬ w32 y = 0) ∧ yG E R M nx lv ((0, ybin o x y) :: st) mem ce sl Post from ⟨fun z => by omega, h⟩)
theorem yo_pop (hE : yEok E) (hR : yRm R d ce sl) {v : yV} (hok : xok xmt M pc (10, nx, 0, 0, [])) (hv : ycat v = 1) (h : yG E R M nx lv st mem ce sl Post) : yG E R M pc lv (v :: st) mem ce sl Post := yst (d := d) hE hR.1 hR.2 hok (show ycat v = 1 ∧ yG E R M nx lv st mem ce sl Post from ⟨hv, h⟩)
theorem yo_pop2 (hE : yEok E) (hR : yRm R d ce sl) {v : yV} (hok : xok xmt M pc (69, nx, 0, 0, [])) (hv : ycat v = 2) (h : yG E R M nx lv st mem ce sl Post) : yG E R M pc lv (v :: st) mem ce sl Post := yst (d := d) hE hR.1 hR.2 hok (show ycat v = 2 ∧ yG E R M nx lv st mem ce sl Post from ⟨hv, h⟩)
theorem yo_if (hE : yEok E) (hR : yRm R d ce sl) {t c : Nat} {x : Int} (hok : xok xmt M pc (12, nx, t, c, [])) (h1 : ycp c x 0 → yG E R M t lv st mem ce sl Post) (h2 : ¬ ycp c x 0 → yG E R M nx lv st mem ce sl Post) : yG E R M pc lv ((0, x) :: st) mem ce sl Post := yst (d := d) hE hR.1 hR.2 hok (show (ycp c x 0 → yG E R M t lv st mem ce sl Post) ∧ (¬ ycp c x 0 → yG E R M nx lv st mem ce sl Post) from ⟨h1, h2⟩)
theorem yo_cmp (hE : yEok E) (hR : yRm R d ce sl) {t c : Nat} {x y : Int} (hok : xok xmt M pc (13, nx, t, c, [])) (h1 : ycp c x y → yG E R M t lv st mem ce sl Post) (h2 : ¬ ycp c x y → yG E R M nx lv st mem ce sl Post) : yG E R M pc lv ((0, y) :: (0, x) :: st) mem ce sl Post := yst (d := d) hE hR.1 hR.2 hok (show (ycp c x y → yG E R M t lv st mem ce sl Post) ∧ (¬ ycp c x y → yG E R M nx lv st mem ce sl Post) from ⟨h1, h2⟩)
theorem yo_go (hE : yEok E) (hR : yRm R d ce sl) (hok : xok xmt M pc (14, nx, 0, 0, [])) (h : yG E R M nx lv st mem ce sl Post) : yG E R M pc lv st mem ce sl Post := yst (d := d) hE hR.1 hR.2 hok h
theorem yo_gf (hE : yEok E) (hR : yRm R d ce sl) {ci k i : Nat} {fs : List yV} {v : yV} (hok : xok xmt M pc (16, nx, ci, k, [])) (hK : ysh[i]? = some (.inr (ci, fs))) (hv : fs[k]? = some v) (h : yG E R M nx lv (yfv v (mem i k) :: st) mem ce sl Post) : yG E R M pc lv ((1, (i : Int)) :: st) mem ce sl Post := yst (d := d) hE hR.1 hR.2 hok (show ∃ fs v, ysh[i]? = some (.inr (ci, fs)) ∧ fs[k]? = some v ∧ yG E R M nx lv (yfv v (mem i k) :: st) mem ce sl Post from ⟨fs, v, hK, hv, h⟩)
theorem yo_rd (hE : yEok E) (hR : yRm R d ce sl) {i n : Nat} {rs : List Nat} {j : Int} (hok : xok xmt M pc (19, nx, 0, 0, [])) (hK : ysh[i]? = some (.inl (0, n, rs))) (h0 : 0 ≤ w32 j) (h1 : w32 j < (n : Int)) (h : yG E R M nx lv ((0, mem i (w32 j).toNat) :: st) mem ce sl Post) : yG E R M pc lv ((0, j) :: (1, (i : Int)) :: st) mem ce sl Post := yst (d := d) hE hR.1 hR.2 hok (show ∃ n rs, ysh[i]? = some (.inl (0, n, rs)) ∧ 0 ≤ w32 j ∧ w32 j < (n : Int) ∧ yG E R M nx lv ((0, mem i (w32 j).toNat) :: st) mem ce sl Post from ⟨n, rs, hK, h0, h1, h⟩)
theorem yo_call (hE : yEok E) (hR : yRm R d ce sl) {mi ci i : Nat} {fs avs rest : List yV} {M' : xM} (hok : xok xmt M pc (28, pc + 3, mi, ci, [])) (hmi : xmt[mi]? = some M') (hn : avs.length = xMn M') (hrest : ysum rest ≤ 8) (hs : ysum ((1, (i : Int)) :: avs) ≤ xMl M') (hl : xMl M' ≤ 45) (hK : ysh[i]? = some (.inr (ci, fs))) (h : yCon E d M' ((1, (i : Int)) :: avs) mem (fun r mem' => yG E R M (pc + 3) lv (yput rest r) mem' ce sl Post)) : yG E R M pc lv (avs.reverse ++ (1, (i : Int)) :: rest) mem ce sl Post := by
  refine yst (d := d) hE hR.1 hR.2 hok ?_
  have e1 : (avs.reverse ++ (1, (i : Int)) :: rest).drop (xMn M') = (1, (i : Int)) :: rest := List.drop_left' (by rw [List.length_reverse, hn])
  have e2 : (avs.reverse ++ (1, (i : Int)) :: rest).drop (xMn M' + 1) = rest := by
    rw [← List.drop_drop, e1]
    rfl
  have e3 : (avs.reverse ++ (1, (i : Int)) :: rest).take (xMn M' + 1) = avs.reverse ++ [(1, (i : Int))] := by
    rw [List.append_cons]
    exact List.take_left' (by simp [hn])
  have e4 : ((avs.reverse ++ (1, (i : Int)) :: rest).take (xMn M' + 1)).reverse = (1, (i : Int)) :: avs := by rw [e3]; simp
  have hc : ycall E d mi 1 (avs.reverse ++ (1, (i : Int)) :: rest) mem (fun st' mem' => yG E R M (pc + 3) lv st' mem' ce sl Post) := by
    unfold ycall
    rw [hmi]
    refine ⟨by simp [hn], by rw [e2]; exact hrest, ?_, hl, ?_⟩
    · rw [e3, ysum_app, ysum_rev]
      simp only [ysum] at hs ⊢
      omega
    · rw [e4, e2]
      exact h
  refine (show (match xmt[mi]? with
    | some M' => match (avs.reverse ++ (1, (i : Int)) :: rest).drop (xMn M') with
      | (1, i) :: _ => ∃ fs, ysh[i.toNat]? = some (.inr (ci, fs))
      | _ => False
    | none => False) ∧ ycall E d mi 1 (avs.reverse ++ (1, (i : Int)) :: rest) mem (fun st' mem' => yG E R M (pc + 3) lv st' mem' ce sl Post) from ⟨?_, hc⟩)
  rw [hmi]
  dsimp only
  rw [e1]
  exact ⟨fs, hK⟩
theorem yo_rt (hE : yEok E) (hR : yRm R d ce sl) {b : Nat} {x : Int} (hok : xok xmt M pc (30, nx, 0, b, [])) (hb : b = 0 ∨ (b = 3 ∧ (w32 x = 0 ∨ w32 x = 1))) (h : Post (some (0, x)) mem) : yG E R M pc lv [(0, x)] mem ce sl Post := yst (d := d) hE hR.1 hR.2 hok (show (b = 0 ∨ (b = 3 ∧ (w32 x = 0 ∨ w32 x = 1))) ∧ Post (some (0, x)) mem from ⟨hb, h⟩)
theorem yo_i2l (hE : yEok E) (hR : yRm R d ce sl) {x : Int} (hok : xok xmt M pc (65, nx, 0, 0, [])) (h : yG E R M nx lv ((4, w32 x) :: st) mem ce sl Post) : yG E R M pc lv ((0, x) :: st) mem ce sl Post := yst (d := d) hE hR.1 hR.2 hok h
theorem yo_lst (hE : yEok E) (hR : yRm R d ce sl) {i n : Nat} {rs : List Nat} {x j : Int} (hok : xok xmt M pc (68, nx, 0, 0, [])) (hK : ysh[i]? = some (.inl (2, n, rs))) (h0 : 0 ≤ w32 j) (h1 : w32 j < (n : Int)) (h : yG E R M nx lv st (yset mem i (w32 j).toNat x) ce sl Post) : yG E R M pc lv ((4, x) :: (0, j) :: (1, (i : Int)) :: st) mem ce sl Post := yst (d := d) hE hR.1 hR.2 hok (show ∃ n rs, ysh[i]? = some (.inl (2, n, rs)) ∧ 0 ≤ w32 j ∧ w32 j < (n : Int) ∧ yG E R M nx lv st (yset mem i (w32 j).toNat x) ce sl Post from ⟨n, rs, hK, h0, h1, h⟩)
theorem yo_sw (hE : yEok E) (hR : yRm R d ce sl) {t : Nat} {cs : List (Nat × Nat)} {x : Int} (hok : xok xmt M pc (15, 0, t, 0, cs)) (h1 : ∀ q ∈ cs, w32 x = cI q.1 → yG E R M q.2 lv st mem ce sl Post) (h2 : (∀ q ∈ cs, ¬ w32 x = cI q.1) → yG E R M t lv st mem ce sl Post) (h3 : ∀ q ∈ cs, q.1 < 4294967296) : yG E R M pc lv ((0, x) :: st) mem ce sl Post := yst (d := d) hE hR.1 hR.2 hok (show (∀ q ∈ cs, w32 x = cI q.1 → yG E R M q.2 lv st mem ce sl Post) ∧ ((∀ q ∈ cs, ¬ w32 x = cI q.1) → yG E R M t lv st mem ce sl Post) ∧ (∀ q ∈ cs, q.1 < 4294967296) from ⟨h1, h2, h3⟩)
end YO
/-! look's ways that return -/
section LKG
variable {E : yE} {R : Room} {mem : yMem} {ce sl : Nat} {Post : Option yV → yMem → Prop} {x y : Int}
abbrev lklv (x y : Int) : yL := [(0, (1, 0)), (1, (0, x)), (2, (0, y))]
theorem lko {pc : Nat} {op : xOp} (h : xfind xk_LK pc = some op) : xok xmt xm_LK pc op := xo_LK _ (xfind_mem h)
theorem lk_get (hE : yEok E) (hR : yRm R 2 ce sl) {pc f1 c1 c2 ci f2 n nx : Nat} {fs gs : List yV} {rs : List Nat}
    (h0 : xfind xk_LK pc = some (2, pc + 1, 1, 0, [])) (h1 : xfind xk_LK (pc + 1) = some (16, pc + 4, 11, f1, [])) (h2 : xfind xk_LK (pc + 4) = some (16, pc + 7, ci, f2, [])) (h3 : xfind xk_LK (pc + 7) = some (2, pc + 8, 0, 1, [])) (h4 : xfind xk_LK (pc + 8) = some (19, pc + 9, 0, 0, [])) (h5 : xfind xk_LK (pc + 9) = some (30, nx, 0, 0, []))
    (k0 : ysh[0]? = some (.inr (11, fs))) (k1 : fs[f1]? = some (1, (c1 : Int))) (k2 : ysh[c1]? = some (.inr (ci, gs))) (k3 : gs[f2]? = some (1, (c2 : Int))) (k4 : ysh[c2]? = some (.inl (0, n, rs))) (hx : 0 ≤ w32 x) (hx2 : w32 x < (n : Int))
    (hQ : ∀ v, Post (some (0, v)) mem) : yG E R xm_LK pc (lklv x y) [] mem ce sl Post :=
  yo_ld (v := (1, 0)) hE hR (lko h0) rfl rfl <|
  yo_gf (i := 0) hE hR (lko h1) k0 k1 <|
  yo_gf (i := c1) hE hR (lko h2) k2 k3 <|
  yo_ld (v := (0, x)) hE hR (lko h3) rfl rfl <|
  yo_rd (i := c2) hE hR (lko h4) k4 hx hx2 <|
  yo_rt hE hR (lko h5) (Or.inl rfl) (hQ _)
theorem lk_5 (hE : yEok E) (hR : yRm R 2 ce sl) (hQ : ∀ v, Post (some (0, v)) mem) : yG E R xm_LK 114 (lklv x y) [] mem ce sl Post := by
  have rt : ∀ v, yG E R xm_LK 145 (lklv x y) [(0, v)] mem ce sl Post := fun v => yo_rt (nx := 146) (b := 0) hE hR (lko rfl) (Or.inl rfl) (hQ _)
  refine yo_ld (nx := 115) (k := 1) (i := 0) (v := (1, 0)) hE hR (lko rfl) rfl rfl ?_
  refine yo_gf (nx := 118) (ci := 11) (k := 4) (i := 0) (v := (1, 57)) hE hR (lko rfl) rfl rfl ?_
  refine yo_ld (nx := 119) (k := 0) (i := 1) (v := (0, x)) hE hR (lko rfl) rfl rfl ?_
  refine yo_call (mi := 139) (ci := 10) (i := 57) (avs := [(0, x)]) (rest := []) (M' := xm_139) hE hR (lko rfl) rfl rfl (by decide) (Nat.le_of_ble_eq_true rfl) (by decide) rfl (c_isCracked57 hE (by decide) (fun v => ?_))
  refine yo_if (pc := 122) (nx := 125) (t := 129) (c := 0) hE hR (lko rfl) (fun _ => ?_) (fun _ => ?_)
  · refine yo_ld (nx := 130) (k := 1) (i := 0) (v := (1, 0)) hE hR (lko rfl) rfl rfl ?_
    refine yo_gf (nx := 133) (ci := 11) (k := 1) (i := 0) (v := (1, 2)) hE hR (lko rfl) rfl rfl ?_
    refine yo_ld (nx := 134) (k := 0) (i := 1) (v := (0, x)) hE hR (lko rfl) rfl rfl ?_
    refine yo_call (mi := 81) (ci := 4) (i := 2) (avs := [(0, x)]) (rest := []) (M' := xm_81) hE hR (lko rfl) rfl rfl (by decide) (Nat.le_of_ble_eq_true rfl) (by decide) rfl (c_isBoy2 hE (by decide) (fun v => ?_))
    refine yo_if (pc := 137) (nx := 140) (t := 144) (c := 0) hE hR (lko rfl) (fun _ => ?_) (fun _ => ?_)
    · exact yo_c (nx := 145) (a := 0) hE hR (lko rfl) (rt _)
    · exact yo_c (nx := 141) (a := 1) hE hR (lko rfl) (yo_go (nx := 145) hE hR (lko rfl) (rt _))
  · exact yo_c (nx := 126) (a := 2) hE hR (lko rfl) (yo_go (nx := 145) hE hR (lko rfl) (rt _))
end LKG
