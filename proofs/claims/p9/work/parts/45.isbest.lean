theorem s_53_0 {E : yE} {n d : Nat} {mem : yMem} {Post : Option yV → yMem → Prop} {st : List yV} {r1 r2 : Option yV} {x : Int} : zvc E (n + 1) [] d xm_53 0 [some (1, x), r1, r2] (st) mem Post = (zvc E n [] d xm_53 1 [some (1, x), r1, r2] ((1, x) :: st) mem Post) := zrf rfl
theorem s_53_1 {E : yE} {n d : Nat} {mem : yMem} {Post : Option yV → yMem → Prop} {st : List yV} {r0 r1 r2 : Option yV} : zvc E (n + 1) [] d xm_53 1 [r0, r1, r2] ((1, 76) :: st) mem Post = (zvc E n [] d xm_53 4 [r0, r1, r2] ((0, mem 76 8) :: st) mem Post) := zrf rfl
theorem s_53_4 {E : yE} {n d : Nat} {mem : yMem} {Post : Option yV → yMem → Prop} {st : List yV} {r0 r1 : Option yV} {x : Int} : zvc E (n + 1) [] d xm_53 4 [r0, r1, some (0, x)] (st) mem Post = (zvc E n [] d xm_53 5 [r0, r1, some (0, x)] ((0, x) :: st) mem Post) := zrf rfl
theorem s_53_5 {E : yE} {n d : Nat} {mem : yMem} {Post : Option yV → yMem → Prop} {st : List yV} {r0 r1 r2 : Option yV} {x y : Int} : zvc E (n + 1) [] d xm_53 5 [r0, r1, r2] ((0, y) :: (0, x) :: st) mem Post = ((w32 y < w32 x → zvc E n [] d xm_53 43 [r0, r1, r2] (st) mem Post) ∧ (¬ (w32 y < w32 x) → zvc E n [] d xm_53 8 [r0, r1, r2] (st) mem Post)) := zrf rfl
theorem s_53_8 {E : yE} {n d : Nat} {mem : yMem} {Post : Option yV → yMem → Prop} {st : List yV} {r1 r2 : Option yV} {x : Int} : zvc E (n + 1) [] d xm_53 8 [some (1, x), r1, r2] (st) mem Post = (zvc E n [] d xm_53 9 [some (1, x), r1, r2] ((1, x) :: st) mem Post) := zrf rfl
theorem s_53_9 {E : yE} {n d : Nat} {mem : yMem} {Post : Option yV → yMem → Prop} {st : List yV} {r0 r1 r2 : Option yV} : zvc E (n + 1) [] d xm_53 9 [r0, r1, r2] ((1, 76) :: st) mem Post = (zvc E n [] d xm_53 12 [r0, r1, r2] ((0, mem 76 9) :: st) mem Post) := zrf rfl
theorem s_53_12 {E : yE} {n d : Nat} {mem : yMem} {Post : Option yV → yMem → Prop} {st : List yV} {r1 r2 : Option yV} {x : Int} : zvc E (n + 1) [] d xm_53 12 [some (1, x), r1, r2] (st) mem Post = (zvc E n [] d xm_53 13 [some (1, x), r1, r2] ((1, x) :: st) mem Post) := zrf rfl
theorem s_53_13 {E : yE} {n d : Nat} {mem : yMem} {Post : Option yV → yMem → Prop} {st : List yV} {r0 r1 r2 : Option yV} : zvc E (n + 1) [] d xm_53 13 [r0, r1, r2] ((1, 76) :: st) mem Post = (zvc E n [] d xm_53 16 [r0, r1, r2] ((1, 80) :: st) mem Post) := zrf rfl
theorem s_53_16 {E : yE} {n d : Nat} {mem : yMem} {Post : Option yV → yMem → Prop} {st : List yV} {r0 r2 : Option yV} {x : Int} : zvc E (n + 1) [] d xm_53 16 [r0, some (0, x), r2] (st) mem Post = (zvc E n [] d xm_53 17 [r0, some (0, x), r2] ((0, x) :: st) mem Post) := zrf rfl
theorem s_53_17 {E : yE} {n d : Nat} {mem : yMem} {Post : Option yV → yMem → Prop} {st : List yV} {r0 r1 r2 : Option yV} : zvc E (n + 1) [] d xm_53 17 [r0, r1, r2] (st) mem Post = (zvc E n [] d xm_53 18 [r0, r1, r2] ((0, 1) :: st) mem Post) := zrf rfl
theorem s_53_18 {E : yE} {n d : Nat} {mem : yMem} {Post : Option yV → yMem → Prop} {st : List yV} {r0 r1 r2 : Option yV} {x y : Int} : zvc E (n + 1) [] d xm_53 18 [r0, r1, r2] ((0, y) :: (0, x) :: st) mem Post = (zvc E n [] d xm_53 19 [r0, r1, r2] ((0, x + y) :: st) mem Post) := zrf rfl
theorem s_53_19 {E : yE} {n d : Nat} {mem : yMem} {Post : Option yV → yMem → Prop} {st : List yV} {r0 r1 r2 : Option yV} {z j : Int} : zvc E (n + 1) [] d xm_53 19 [r0, r1, r2] ((0, j) :: (1, z) :: st) mem Post = (∃ m rs q, ysh[z.toNat]? = some (.inl (4, m, rs)) ∧ 0 ≤ w32 j ∧ w32 j < (m : Int) ∧ rs[(w32 j).toNat]? = some q ∧ zvc E n [] d xm_53 20 [r0, r1, r2] ((1, (q : Int)) :: st) mem Post) := zrf rfl
theorem s_53_20 {E : yE} {n d : Nat} {mem : yMem} {Post : Option yV → yMem → Prop} {st : List yV} {r0 r1 : Option yV} {x : Int} : zvc E (n + 1) [] d xm_53 20 [r0, r1, some (0, x)] (st) mem Post = (zvc E n [] d xm_53 21 [r0, r1, some (0, x)] ((0, x) :: st) mem Post) := zrf rfl
theorem s_53_21 {E : yE} {n d : Nat} {mem : yMem} {Post : Option yV → yMem → Prop} {st : List yV} {r1 r2 : Option yV} {x : Int} : zvc E (n + 1) [] d xm_53 21 [some (1, x), r1, r2] (st) mem Post = (zvc E n [] d xm_53 22 [some (1, x), r1, r2] ((1, x) :: st) mem Post) := zrf rfl
theorem s_53_22 {E : yE} {n d : Nat} {mem : yMem} {Post : Option yV → yMem → Prop} {st : List yV} {r0 r1 r2 : Option yV} : zvc E (n + 1) [] d xm_53 22 [r0, r1, r2] ((1, 76) :: st) mem Post = (zvc E n [] d xm_53 25 [r0, r1, r2] ((0, mem 76 8) :: st) mem Post) := zrf rfl
theorem s_53_25 {E : yE} {n d : Nat} {mem : yMem} {Post : Option yV → yMem → Prop} {st : List yV} {r0 r1 r2 : Option yV} {x y : Int} : zvc E (n + 1) [] d xm_53 25 [r0, r1, r2] ((0, y) :: (0, x) :: st) mem Post = (zvc E n [] d xm_53 26 [r0, r1, r2] ((0, x - y) :: st) mem Post) := zrf rfl
theorem s_53_26 {E : yE} {n d : Nat} {mem : yMem} {Post : Option yV → yMem → Prop} {st : List yV} {r0 r1 r2 : Option yV} {z j : Int} : zvc E (n + 1) [] d xm_53 26 [r0, r1, r2] ((0, j) :: (1, z) :: st) mem Post = ((0 ≤ w32 j ∧ w32 j < ((zar z 0 : Nat) : Int)) ∧ zvc E n [] d xm_53 27 [r0, r1, r2] ((0, mem z.toNat (w32 j).toNat) :: st) mem Post) := zrf rfl
theorem s_53_27 {E : yE} {n d : Nat} {mem : yMem} {Post : Option yV → yMem → Prop} {st : List yV} {r0 r1 r2 : Option yV} {x y : Int} : zvc E (n + 1) [] d xm_53 27 [r0, r1, r2] ((0, y) :: (0, x) :: st) mem Post = (zvc E n [] d xm_53 28 [r0, r1, r2] ((0, x + y) :: st) mem Post) := zrf rfl
theorem s_53_28 {E : yE} {n d : Nat} {mem : yMem} {Post : Option yV → yMem → Prop} {st : List yV} {r1 r2 : Option yV} {x : Int} : zvc E (n + 1) [] d xm_53 28 [some (1, x), r1, r2] (st) mem Post = (zvc E n [] d xm_53 29 [some (1, x), r1, r2] ((1, x) :: st) mem Post) := zrf rfl
theorem s_53_29 {E : yE} {n d : Nat} {mem : yMem} {Post : Option yV → yMem → Prop} {st : List yV} {r0 r1 r2 : Option yV} : zvc E (n + 1) [] d xm_53 29 [r0, r1, r2] ((1, 76) :: st) mem Post = (zvc E n [] d xm_53 32 [r0, r1, r2] ((1, 80) :: st) mem Post) := zrf rfl
theorem s_53_32 {E : yE} {n d : Nat} {mem : yMem} {Post : Option yV → yMem → Prop} {st : List yV} {r0 r2 : Option yV} {x : Int} : zvc E (n + 1) [] d xm_53 32 [r0, some (0, x), r2] (st) mem Post = (zvc E n [] d xm_53 33 [r0, some (0, x), r2] ((0, x) :: st) mem Post) := zrf rfl
theorem s_53_33 {E : yE} {n d : Nat} {mem : yMem} {Post : Option yV → yMem → Prop} {st : List yV} {r0 r1 r2 : Option yV} {z j : Int} : zvc E (n + 1) [] d xm_53 33 [r0, r1, r2] ((0, j) :: (1, z) :: st) mem Post = (∃ m rs q, ysh[z.toNat]? = some (.inl (4, m, rs)) ∧ 0 ≤ w32 j ∧ w32 j < (m : Int) ∧ rs[(w32 j).toNat]? = some q ∧ zvc E n [] d xm_53 34 [r0, r1, r2] ((1, (q : Int)) :: st) mem Post) := zrf rfl
theorem s_53_34 {E : yE} {n d : Nat} {mem : yMem} {Post : Option yV → yMem → Prop} {st : List yV} {r0 r1 : Option yV} {x : Int} : zvc E (n + 1) [] d xm_53 34 [r0, r1, some (0, x)] (st) mem Post = (zvc E n [] d xm_53 35 [r0, r1, some (0, x)] ((0, x) :: st) mem Post) := zrf rfl
theorem s_53_35 {E : yE} {n d : Nat} {mem : yMem} {Post : Option yV → yMem → Prop} {st : List yV} {r0 r1 r2 : Option yV} {z j : Int} : zvc E (n + 1) [] d xm_53 35 [r0, r1, r2] ((0, j) :: (1, z) :: st) mem Post = ((0 ≤ w32 j ∧ w32 j < ((zar z 0 : Nat) : Int)) ∧ zvc E n [] d xm_53 36 [r0, r1, r2] ((0, mem z.toNat (w32 j).toNat) :: st) mem Post) := zrf rfl
theorem s_53_36 {E : yE} {n d : Nat} {mem : yMem} {Post : Option yV → yMem → Prop} {st : List yV} {r0 r1 r2 : Option yV} {x y : Int} : zvc E (n + 1) [] d xm_53 36 [r0, r1, r2] ((0, y) :: (0, x) :: st) mem Post = ((¬ w32 x = w32 y → zvc E n [] d xm_53 43 [r0, r1, r2] (st) mem Post) ∧ (¬ (¬ w32 x = w32 y) → zvc E n [] d xm_53 39 [r0, r1, r2] (st) mem Post)) := zrf rfl
theorem s_53_39 {E : yE} {n d : Nat} {mem : yMem} {Post : Option yV → yMem → Prop} {st : List yV} {r0 r1 r2 : Option yV} : zvc E (n + 1) [] d xm_53 39 [r0, r1, r2] (st) mem Post = (zvc E n [] d xm_53 40 [r0, r1, r2] ((0, 1) :: st) mem Post) := zrf rfl
theorem s_53_40 {E : yE} {n d : Nat} {mem : yMem} {Post : Option yV → yMem → Prop} {st : List yV} {r0 r1 r2 : Option yV} : zvc E (n + 1) [] d xm_53 40 [r0, r1, r2] (st) mem Post = (zvc E n [] d xm_53 44 [r0, r1, r2] (st) mem Post) := zrf rfl
theorem s_53_43 {E : yE} {n d : Nat} {mem : yMem} {Post : Option yV → yMem → Prop} {st : List yV} {r0 r1 r2 : Option yV} : zvc E (n + 1) [] d xm_53 43 [r0, r1, r2] (st) mem Post = (zvc E n [] d xm_53 44 [r0, r1, r2] ((0, 0) :: st) mem Post) := zrf rfl
theorem s_53_44 {E : yE} {n d : Nat} {mem : yMem} {Post : Option yV → yMem → Prop} {r0 r1 r2 : Option yV} {x : Int} : zvc E (n + 1) [] d xm_53 44 [r0, r1, r2] ([(0, x)]) mem Post = ((w32 x = 0 ∨ w32 x = 1) ∧ Post (some (0, x)) mem) := zrf rfl
theorem e_53 {E : yE} {d : Nat} {mem : yMem} {Q : Option yV → yMem → Prop} {z a0 a1 : Int} (h : zG E d xm_53 0 [some (1, z), some (0, a0), some (0, a1)] [] mem Q) : yCon E (d + 1) xm_53 [(1, z), (0, a0), (0, a1)] mem Q := zcon_of xmo_53 (Nat.le_of_ble_eq_true rfl) h

theorem c_isbest {E : yE} (hE : yEok E) {D : Nat} (hD : 1 ≤ D) {mem : yMem} {Q : Option yV → yMem → Prop} {v l : Int} (hv : 0 ≤ w32 v) (hv2 : w32 v ≤ 3) (hl : w32 l ≤ 96) (hG : aGok mem) (hQ : ∀ x : Int, x = 0 ∨ x = 1 → Q (some (0, x)) mem) : yCon E D xm_53 [(1, 76), (0, v), (0, l)] mem Q := by
  obtain ⟨d, rfl⟩ := Nat.exists_eq_add_of_le' hD
  refine e_53 ?_
  refine zvc_ok hE 60 [] _ _ _ _ _ _ _ xmo_53 ?_
  have hr := ag hG 76 8 ag_76_8
  simp only [ynok_30, ynok_31, w32c_0, w32c_1, w32c_2, w32c_3, w32c_4, w32c_5, w32c_6, w32c_7, w32c_8, w32c_9, w32c_10, w32c_11, w32c_12, w32c_13, w32c_14, w32c_m1, w32c_m2, w32c_118, Int.reduceAdd, Int.reduceSub, Int.reduceMul, yput_s, yput_n, znl_n, znl_0, znl_1, znl_4, ysum_n, ysum_0, ysum_1, ysum_4, true_and, and_true, Nat.reduceAdd, Nat.reduceLeDiff, true_implies, eq_self, true_or, or_true, or_false, false_or, not_true_eq_false, not_false_eq_true, false_implies, implies_true, yset_s, yset_o, yset_d, ne_eq, Nat.reduceEqDiff, Int.reduceToNat, Int.reduceEq, Int.reduceLE, Int.reduceLT, Classical.not_not, Nat.reduceLT, ↓zvk_s, ↓zvk_n, ↓s_53_0, ↓s_53_1, ↓s_53_4, ↓s_53_5, ↓s_53_8, ↓s_53_9, ↓s_53_12, ↓s_53_13, ↓s_53_16, ↓s_53_17, ↓s_53_18, ↓s_53_19, ↓s_53_20, ↓s_53_21, ↓s_53_22, ↓s_53_25, ↓s_53_26, ↓s_53_27, ↓s_53_28, ↓s_53_29, ↓s_53_32, ↓s_53_33, ↓s_53_34, ↓s_53_35, ↓s_53_36, ↓s_53_39, ↓s_53_40, ↓s_53_43, ↓s_53_44, zar_80, zia_80, zln_80, zit_80, zio_76]
  have one : ∀ j : Int, 0 ≤ w32 j → w32 j ≤ 4 → ∃ q : Nat, [81, 82, 83, 84, 85][(w32 j).toNat]? = some q ∧ (zar (q : Int) 0 = 97) := by
    intro j h1 h2
    have : w32 j = 0 ∨ w32 j = 1 ∨ w32 j = 2 ∨ w32 j = 3 ∨ w32 j = 4 := by omega
    rcases this with e | e | e | e | e <;> rw [e]
    · exact ⟨81, rfl, rfl⟩
    · exact ⟨82, rfl, rfl⟩
    · exact ⟨83, rfl, rfl⟩
    · exact ⟨84, rfl, rfl⟩
    · exact ⟨85, rfl, rfl⟩
  refine ⟨fun _ => hQ _ (Or.inl rfl), fun h => ?_⟩
  have e1 : w32 (v + 1) = w32 v + 1 := by rw [w32_ad (by rw [w32c_1]; omega) (by rw [w32c_1]; omega), w32c_1]
  obtain ⟨q1, g1, g2⟩ := one (v + 1) (by omega) (by omega)
  obtain ⟨q0, g3, g4⟩ := one v (by omega) (by omega)
  have e2 : w32 (l - mem 76 8) = w32 l - w32 (mem 76 8) := w32_sb (by omega) (by omega)
  refine ⟨5, [81, 82, 83, 84, 85], q1, rfl, by omega, by omega, g1, ?_⟩
  rw [g2]
  refine ⟨⟨by omega, by omega⟩, ?_⟩
  refine ⟨5, [81, 82, 83, 84, 85], q0, rfl, by omega, by omega, g3, ?_⟩
  rw [g4]
  refine ⟨⟨by omega, by omega⟩, ⟨fun _ => hQ _ (Or.inl rfl), fun _ => hQ _ (Or.inr rfl)⟩⟩
