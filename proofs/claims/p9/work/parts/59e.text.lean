def zc_176 : List Nat := [7]
theorem s_176_0 {E : yE} {n d : Nat} {mem : yMem} {Post : Option yV → yMem → Prop} {st : List yV} {r1 r2 : Option yV} {x : Int} : zvc E (n + 1) zc_176 d xm_176 0 [some (1, x), r1, r2] (st) mem Post = (zvc E n zc_176 d xm_176 1 [some (1, x), r1, r2] ((1, x) :: st) mem Post) := zrf rfl
theorem s_176_1 {E : yE} {n d : Nat} {mem : yMem} {Post : Option yV → yMem → Prop} {st : List yV} {r0 r1 r2 : Option yV} {z : Int} : zvc E (n + 1) zc_176 d xm_176 1 [r0, r1, r2] ((1, z) :: st) mem Post = (zia z = true ∧ zvc E n zc_176 d xm_176 2 [r0, r1, r2] ((0, ((zln z : Nat) : Int)) :: st) mem Post) := zrf rfl
theorem s_176_2 {E : yE} {n d : Nat} {mem : yMem} {Post : Option yV → yMem → Prop} {st : List yV} {r0 r1 r2 : Option yV} : zvc E (n + 1) zc_176 d xm_176 2 [r0, r1, r2] (st) mem Post = (zvc E n zc_176 d xm_176 3 [r0, r1, r2] ((0, 2) :: st) mem Post) := zrf rfl
theorem s_176_3 {E : yE} {n d : Nat} {mem : yMem} {Post : Option yV → yMem → Prop} {st : List yV} {r0 r1 r2 : Option yV} {x y : Int} : zvc E (n + 1) zc_176 d xm_176 3 [r0, r1, r2] ((0, y) :: (0, x) :: st) mem Post = (¬ w32 y = 0 ∧ zvc E n zc_176 d xm_176 4 [r0, r1, r2] ((0, ybin 9 x y) :: st) mem Post) := zrf rfl
theorem s_176_4n {E : yE} {n d : Nat} {mem : yMem} {Post : Option yV → yMem → Prop} {st : List yV} {r1 r2 : Option yV} {x : Int} : zvc E (n + 1) zc_176 d xm_176 4 [none, r1, r2] ((0, x) :: st) mem Post = (zvc E n zc_176 d xm_176 5 [none, some (0, x), r2] (st) mem Post) := zrf rfl
theorem s_176_4i {E : yE} {n d : Nat} {mem : yMem} {Post : Option yV → yMem → Prop} {st : List yV} {r1 r2 : Option yV} {x w : Int} : zvc E (n + 1) zc_176 d xm_176 4 [some (0, w), r1, r2] ((0, x) :: st) mem Post = (zvc E n zc_176 d xm_176 5 [some (0, w), some (0, x), r2] (st) mem Post) := zrf rfl
theorem s_176_4p {E : yE} {n d : Nat} {mem : yMem} {Post : Option yV → yMem → Prop} {st : List yV} {r1 r2 : Option yV} {x w : Int} : zvc E (n + 1) zc_176 d xm_176 4 [some (1, w), r1, r2] ((0, x) :: st) mem Post = (zvc E n zc_176 d xm_176 5 [some (1, w), some (0, x), r2] (st) mem Post) := zrf rfl
theorem s_176_4j {E : yE} {n d : Nat} {mem : yMem} {Post : Option yV → yMem → Prop} {st : List yV} {r0 r1 r2 : Option yV} {x : Int} : zvc E (n + 1) zc_176 d xm_176 4 [r0, r1, r2] ((0, x) :: st) mem Post = (zvc E n zc_176 d xm_176 5 [znl r0, some (0, x), r2] (st) mem Post) := zrf rfl
theorem s_176_5 {E : yE} {n d : Nat} {mem : yMem} {Post : Option yV → yMem → Prop} {st : List yV} {r0 r1 r2 : Option yV} : zvc E (n + 1) zc_176 d xm_176 5 [r0, r1, r2] (st) mem Post = (zvc E n zc_176 d xm_176 6 [r0, r1, r2] ((0, 0) :: st) mem Post) := zrf rfl
theorem s_176_6n {E : yE} {n d : Nat} {mem : yMem} {Post : Option yV → yMem → Prop} {st : List yV} {r0 r2 : Option yV} {x : Int} : zvc E (n + 1) zc_176 d xm_176 6 [r0, none, r2] ((0, x) :: st) mem Post = (zvc E n zc_176 d xm_176 7 [r0, none, some (0, x)] (st) mem Post) := zrf rfl
theorem s_176_6i {E : yE} {n d : Nat} {mem : yMem} {Post : Option yV → yMem → Prop} {st : List yV} {r0 r2 : Option yV} {x w : Int} : zvc E (n + 1) zc_176 d xm_176 6 [r0, some (0, w), r2] ((0, x) :: st) mem Post = (zvc E n zc_176 d xm_176 7 [r0, some (0, w), some (0, x)] (st) mem Post) := zrf rfl
theorem s_176_6p {E : yE} {n d : Nat} {mem : yMem} {Post : Option yV → yMem → Prop} {st : List yV} {r0 r2 : Option yV} {x w : Int} : zvc E (n + 1) zc_176 d xm_176 6 [r0, some (1, w), r2] ((0, x) :: st) mem Post = (zvc E n zc_176 d xm_176 7 [r0, some (1, w), some (0, x)] (st) mem Post) := zrf rfl
theorem s_176_6j {E : yE} {n d : Nat} {mem : yMem} {Post : Option yV → yMem → Prop} {st : List yV} {r0 r1 r2 : Option yV} {x : Int} : zvc E (n + 1) zc_176 d xm_176 6 [r0, r1, r2] ((0, x) :: st) mem Post = (zvc E n zc_176 d xm_176 7 [r0, znl r1, some (0, x)] (st) mem Post) := zrf rfl
theorem g_176_7 {E : yE} {n d : Nat} {mem : yMem} {Post : Option yV → yMem → Prop} {st : List yV} {r0 r1 : Option yV} {x : Int} : zgo E n zc_176 d xm_176 7 [r0, r1, some (0, x)] (st) mem Post = (zvc E n zc_176 d xm_176 8 [r0, r1, some (0, x)] ((0, x) :: st) mem Post) := zrf rfl
theorem k_176_7 {E : yE} {n d : Nat} {mem : yMem} {Post : Option yV → yMem → Prop} {st : List yV} {rg : zR} : zvc E (n + 1) zc_176 d xm_176 7 rg st mem Post = zG E d xm_176 7 rg st mem Post := zrf rfl
theorem s_176_8 {E : yE} {n d : Nat} {mem : yMem} {Post : Option yV → yMem → Prop} {st : List yV} {r0 r2 : Option yV} {x : Int} : zvc E (n + 1) zc_176 d xm_176 8 [r0, some (0, x), r2] (st) mem Post = (zvc E n zc_176 d xm_176 9 [r0, some (0, x), r2] ((0, x) :: st) mem Post) := zrf rfl
theorem s_176_9 {E : yE} {n d : Nat} {mem : yMem} {Post : Option yV → yMem → Prop} {st : List yV} {r0 r1 r2 : Option yV} {x y : Int} : zvc E (n + 1) zc_176 d xm_176 9 [r0, r1, r2] ((0, y) :: (0, x) :: st) mem Post = ((w32 y ≤ w32 x → zvc E n zc_176 d xm_176 26 [r0, r1, r2] (st) mem Post) ∧ (¬ (w32 y ≤ w32 x) → zvc E n zc_176 d xm_176 12 [r0, r1, r2] (st) mem Post)) := zrf rfl
theorem s_176_12 {E : yE} {n d : Nat} {mem : yMem} {Post : Option yV → yMem → Prop} {st : List yV} {r1 r2 : Option yV} {x : Int} : zvc E (n + 1) zc_176 d xm_176 12 [some (1, x), r1, r2] (st) mem Post = (zvc E n zc_176 d xm_176 13 [some (1, x), r1, r2] ((1, x) :: st) mem Post) := zrf rfl
theorem s_176_13 {E : yE} {n d : Nat} {mem : yMem} {Post : Option yV → yMem → Prop} {st : List yV} {r0 r1 : Option yV} {x : Int} : zvc E (n + 1) zc_176 d xm_176 13 [r0, r1, some (0, x)] (st) mem Post = (zvc E n zc_176 d xm_176 14 [r0, r1, some (0, x)] ((0, x) :: st) mem Post) := zrf rfl
theorem s_176_14 {E : yE} {n d : Nat} {mem : yMem} {Post : Option yV → yMem → Prop} {st : List yV} {r1 r2 : Option yV} {x : Int} : zvc E (n + 1) zc_176 d xm_176 14 [some (1, x), r1, r2] (st) mem Post = (zvc E n zc_176 d xm_176 15 [some (1, x), r1, r2] ((1, x) :: st) mem Post) := zrf rfl
theorem s_176_15 {E : yE} {n d : Nat} {mem : yMem} {Post : Option yV → yMem → Prop} {st : List yV} {r0 r2 : Option yV} {x : Int} : zvc E (n + 1) zc_176 d xm_176 15 [r0, some (0, x), r2] (st) mem Post = (zvc E n zc_176 d xm_176 16 [r0, some (0, x), r2] ((0, x) :: st) mem Post) := zrf rfl
theorem s_176_16 {E : yE} {n d : Nat} {mem : yMem} {Post : Option yV → yMem → Prop} {st : List yV} {r0 r1 : Option yV} {x : Int} : zvc E (n + 1) zc_176 d xm_176 16 [r0, r1, some (0, x)] (st) mem Post = (zvc E n zc_176 d xm_176 17 [r0, r1, some (0, x)] ((0, x) :: st) mem Post) := zrf rfl
theorem s_176_17 {E : yE} {n d : Nat} {mem : yMem} {Post : Option yV → yMem → Prop} {st : List yV} {r0 r1 r2 : Option yV} {x y : Int} : zvc E (n + 1) zc_176 d xm_176 17 [r0, r1, r2] ((0, y) :: (0, x) :: st) mem Post = (zvc E n zc_176 d xm_176 18 [r0, r1, r2] ((0, x + y) :: st) mem Post) := zrf rfl
theorem s_176_18 {E : yE} {n d : Nat} {mem : yMem} {Post : Option yV → yMem → Prop} {st : List yV} {r0 r1 r2 : Option yV} {z j : Int} : zvc E (n + 1) zc_176 d xm_176 18 [r0, r1, r2] ((0, j) :: (1, z) :: st) mem Post = ((0 ≤ w32 j ∧ w32 j < ((zar z 0 : Nat) : Int)) ∧ zvc E n zc_176 d xm_176 19 [r0, r1, r2] ((0, mem z.toNat (w32 j).toNat) :: st) mem Post) := zrf rfl
theorem s_176_19 {E : yE} {n d : Nat} {mem : yMem} {Post : Option yV → yMem → Prop} {st : List yV} {r0 r1 r2 : Option yV} {x z j : Int} : zvc E (n + 1) zc_176 d xm_176 19 [r0, r1, r2] ((0, x) :: (0, j) :: (1, z) :: st) mem Post = ((0 ≤ w32 j ∧ w32 j < ((zar z 0 : Nat) : Int)) ∧ zvc E n zc_176 d xm_176 20 [r0, r1, r2] (st) (yset mem z.toNat (w32 j).toNat x) Post) := zrf rfl
theorem s_176_20n {E : yE} {n d : Nat} {mem : yMem} {Post : Option yV → yMem → Prop} {st : List yV} {r0 : Option yV} {x : Int} : zvc E (n + 1) zc_176 d xm_176 20 [r0, none, some (0, x)] (st) mem Post = (zvc E n zc_176 d xm_176 23 [r0, none, some (0, x + 1)] (st) mem Post) := zrf rfl
theorem s_176_20i {E : yE} {n d : Nat} {mem : yMem} {Post : Option yV → yMem → Prop} {st : List yV} {r0 : Option yV} {x w : Int} : zvc E (n + 1) zc_176 d xm_176 20 [r0, some (0, w), some (0, x)] (st) mem Post = (zvc E n zc_176 d xm_176 23 [r0, some (0, w), some (0, x + 1)] (st) mem Post) := zrf rfl
theorem s_176_20p {E : yE} {n d : Nat} {mem : yMem} {Post : Option yV → yMem → Prop} {st : List yV} {r0 : Option yV} {x w : Int} : zvc E (n + 1) zc_176 d xm_176 20 [r0, some (1, w), some (0, x)] (st) mem Post = (zvc E n zc_176 d xm_176 23 [r0, some (1, w), some (0, x + 1)] (st) mem Post) := zrf rfl
theorem s_176_20j {E : yE} {n d : Nat} {mem : yMem} {Post : Option yV → yMem → Prop} {st : List yV} {r0 r1 : Option yV} {x : Int} : zvc E (n + 1) zc_176 d xm_176 20 [r0, r1, some (0, x)] (st) mem Post = (zvc E n zc_176 d xm_176 23 [r0, znl r1, some (0, x + 1)] (st) mem Post) := zrf rfl
theorem s_176_23 {E : yE} {n d : Nat} {mem : yMem} {Post : Option yV → yMem → Prop} {st : List yV} {r0 r1 r2 : Option yV} : zvc E (n + 1) zc_176 d xm_176 23 [r0, r1, r2] (st) mem Post = (zvc E n zc_176 d xm_176 7 [r0, r1, r2] (st) mem Post) := zrf rfl
theorem s_176_26 {E : yE} {n d : Nat} {mem : yMem} {Post : Option yV → yMem → Prop} {r0 r1 r2 : Option yV} : zvc E (n + 1) zc_176 d xm_176 26 [r0, r1, r2] ([]) mem Post = (Post none mem) := zrf rfl
theorem e_176 {E : yE} {d : Nat} {mem : yMem} {Q : Option yV → yMem → Prop} {a0 : Int} (h : zG E d xm_176 0 [some (1, a0), none, none] [] mem Q) : yCon E (d + 1) xm_176 [(1, a0)] mem Q := zcon_of xmo_176 (Nat.le_of_ble_eq_true rfl) h

/-- the upper half of the cell z behind, as far as k -/
def zhalf (mem : yMem) (z n k : Nat) : yMem := fun i j => if i = z ∧ j < k then mem z (n + j) else mem i j
theorem zhalf_0 (mem : yMem) (z n : Nat) : zhalf mem z n 0 = mem := by
  funext i j
  unfold zhalf
  rw [if_neg (by omega)]
theorem zhalf_s (mem : yMem) (z n k : Nat) (hk : k < n) : yset (zhalf mem z n k) z k (zhalf mem z n k z (n + k)) = zhalf mem z n (k + 1) := by
  have e : zhalf mem z n k z (n + k) = mem z (n + k) := by
    unfold zhalf
    rw [if_neg (by omega)]
  rw [e]
  funext i j
  unfold yset zhalf
  by_cases hi : i = z
  · subst hi
    rw [if_pos rfl]
    by_cases hj : j = k
    · subst hj
      rw [if_pos rfl, if_pos ⟨rfl, by omega⟩]
    · rw [if_neg hj]
      by_cases hlt : j < k
      · rw [if_pos ⟨rfl, hlt⟩, if_pos ⟨rfl, by omega⟩]
      · rw [if_neg (by omega), if_neg (by omega)]
  · rw [if_neg hi, if_neg (by omega), if_neg (by omega)]
theorem half_loop {E : yE} (hE : yEok E) {d : Nat} {mem : yMem} {Q : Option yV → yMem → Prop} {z : Int} {n : Nat} (hz : zar z 0 = 2 * n) (hn : n < 1000) (nn : Int) (hnn : w32 nn = (n : Int)) (hQ : Q none (zhalf mem z.toNat n n)) : ∀ (c : Nat) (k : Int), (n - (w32 k).toNat) = c → 0 ≤ w32 k → (w32 k).toNat ≤ n → zG E d xm_176 7 [some (1, z), some (0, nn), some (0, k)] [] (zhalf mem z.toNat n (w32 k).toNat) Q := by
  intro c
  induction c with
  | zero =>
    intro k hc h0 h1
    refine zgo_ok (n := 60) hE xmo_176 (cs := zc_176) ?_
    simp only [ynok_30, ynok_31, w32c_0, w32c_1, w32c_2, w32c_3, w32c_4, w32c_5, w32c_6, w32c_7, w32c_8, w32c_9, w32c_10, w32c_11, w32c_12, w32c_13, w32c_14, w32c_m1, w32c_m2, w32c_118, Int.reduceAdd, Int.reduceSub, Int.reduceMul, yput_s, yput_n, znl_n, znl_0, znl_1, znl_4, ysum_n, ysum_0, ysum_1, ysum_4, true_and, and_true, Nat.reduceAdd, Nat.reduceLeDiff, true_implies, eq_self, true_or, or_true, or_false, false_or, not_true_eq_false, not_false_eq_true, false_implies, implies_true, yset_s, yset_o, yset_d, ne_eq, Nat.reduceEqDiff, Int.reduceToNat, Int.reduceEq, Int.reduceLE, Int.reduceLT, Classical.not_not, Nat.reduceLT, ↓zvk_s, ↓zvk_n, ↓s_176_0, ↓s_176_1, ↓s_176_2, ↓s_176_3, ↓s_176_4n, ↓s_176_4i, ↓s_176_4p, ↓s_176_5, ↓s_176_6n, ↓s_176_6i, ↓s_176_6p, ↓g_176_7, ↓k_176_7, ↓s_176_8, ↓s_176_9, ↓s_176_12, ↓s_176_13, ↓s_176_14, ↓s_176_15, ↓s_176_16, ↓s_176_17, ↓s_176_18, ↓s_176_19, ↓s_176_20n, ↓s_176_20i, ↓s_176_20p, ↓s_176_23, ↓s_176_26]
    refine ⟨fun _ => ?_, fun h => absurd (show w32 nn ≤ w32 k by omega) h⟩
    rw [show (w32 k).toNat = n by omega]
    exact hQ
  | succ c ih =>
    intro k hc h0 h1
    have hk1 : w32 (k + 1) = w32 k + 1 := by rw [w32_ad (by rw [w32c_1]; omega) (by rw [w32c_1]; omega), w32c_1]
    have hnk : w32 (nn + k) = (n : Int) + w32 k := by rw [w32_ad (by omega) (by omega), hnn]
    refine zgo_ok (n := 60) hE xmo_176 (cs := zc_176) ?_
    simp only [ynok_30, ynok_31, w32c_0, w32c_1, w32c_2, w32c_3, w32c_4, w32c_5, w32c_6, w32c_7, w32c_8, w32c_9, w32c_10, w32c_11, w32c_12, w32c_13, w32c_14, w32c_m1, w32c_m2, w32c_118, Int.reduceAdd, Int.reduceSub, Int.reduceMul, yput_s, yput_n, znl_n, znl_0, znl_1, znl_4, ysum_n, ysum_0, ysum_1, ysum_4, true_and, and_true, Nat.reduceAdd, Nat.reduceLeDiff, true_implies, eq_self, true_or, or_true, or_false, false_or, not_true_eq_false, not_false_eq_true, false_implies, implies_true, yset_s, yset_o, yset_d, ne_eq, Nat.reduceEqDiff, Int.reduceToNat, Int.reduceEq, Int.reduceLE, Int.reduceLT, Classical.not_not, Nat.reduceLT, ↓zvk_s, ↓zvk_n, ↓s_176_0, ↓s_176_1, ↓s_176_2, ↓s_176_3, ↓s_176_4n, ↓s_176_4i, ↓s_176_4p, ↓s_176_5, ↓s_176_6n, ↓s_176_6i, ↓s_176_6p, ↓g_176_7, ↓k_176_7, ↓s_176_8, ↓s_176_9, ↓s_176_12, ↓s_176_13, ↓s_176_14, ↓s_176_15, ↓s_176_16, ↓s_176_17, ↓s_176_18, ↓s_176_19, ↓s_176_20n, ↓s_176_20i, ↓s_176_20p, ↓s_176_23, ↓s_176_26]
    rw [hz, hnk]
    refine ⟨fun h => absurd h (by omega), fun _ => ⟨⟨by omega, by omega⟩, ⟨by omega, by omega⟩, ?_⟩⟩
    rw [show ((n : Int) + w32 k).toNat = n + (w32 k).toNat by omega, zhalf_s mem z.toNat n (w32 k).toNat (by omega)]
    have := ih (k + 1) (by omega) (by omega) (by omega)
    rwa [show (w32 (k + 1)).toNat = (w32 k).toNat + 1 by omega] at this
theorem ydiv2 : ∀ n : Nat, n < 100 → ybin 9 ((2 * n : Nat) : Int) 2 = (n : Int) := by decide +kernel
theorem c_half {E : yE} (hE : yEok E) {D : Nat} (hD : 1 ≤ D) {mem : yMem} {Q : Option yV → yMem → Prop} {z : Int} {n : Nat} (hz : zar z 0 = 2 * n) (hl : zia z = true ∧ zln z = 2 * n) (hn : n < 100) (hQ : Q none (zhalf mem z.toNat n n)) : yCon E D xm_176 [(1, z)] mem Q := by
  obtain ⟨d, rfl⟩ := Nat.exists_eq_add_of_le' hD
  refine e_176 ?_
  refine zvc_ok hE 60 zc_176 _ _ _ _ _ _ _ xmo_176 ?_
  simp only [ynok_30, ynok_31, w32c_0, w32c_1, w32c_2, w32c_3, w32c_4, w32c_5, w32c_6, w32c_7, w32c_8, w32c_9, w32c_10, w32c_11, w32c_12, w32c_13, w32c_14, w32c_m1, w32c_m2, w32c_118, Int.reduceAdd, Int.reduceSub, Int.reduceMul, yput_s, yput_n, znl_n, znl_0, znl_1, znl_4, ysum_n, ysum_0, ysum_1, ysum_4, true_and, and_true, Nat.reduceAdd, Nat.reduceLeDiff, true_implies, eq_self, true_or, or_true, or_false, false_or, not_true_eq_false, not_false_eq_true, false_implies, implies_true, yset_s, yset_o, yset_d, ne_eq, Nat.reduceEqDiff, Int.reduceToNat, Int.reduceEq, Int.reduceLE, Int.reduceLT, Classical.not_not, Nat.reduceLT, ↓zvk_s, ↓zvk_n, ↓s_176_0, ↓s_176_1, ↓s_176_2, ↓s_176_3, ↓s_176_4n, ↓s_176_4i, ↓s_176_4p, ↓s_176_5, ↓s_176_6n, ↓s_176_6i, ↓s_176_6p, ↓g_176_7, ↓k_176_7, ↓s_176_8, ↓s_176_9, ↓s_176_12, ↓s_176_13, ↓s_176_14, ↓s_176_15, ↓s_176_16, ↓s_176_17, ↓s_176_18, ↓s_176_19, ↓s_176_20n, ↓s_176_20i, ↓s_176_20p, ↓s_176_23, ↓s_176_26]
  rw [hl.2, ydiv2 n hn]
  refine ⟨hl.1, ?_⟩
  have := half_loop hE (d := d) (mem := mem) (Q := Q) hz (by omega) (n : Int) (w32_of (by omega) (by omega)) hQ n 0 (by rw [w32c_0]; rfl) (by rw [w32c_0]; omega) (by rw [w32c_0]; omega)
  rw [w32c_0] at this
  rw [show ((0 : Int)).toNat = 0 from rfl, zhalf_0] at this
  exact this
