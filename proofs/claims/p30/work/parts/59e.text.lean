section
def zc_176 : List Nat := [7]
theorem s_176_0 {E : yE} {n d : Nat} {mem : yMem} {Post : Option yV → yMem → Prop} {st : List yV} {r1 r2 : Option yV} {x : Int} : zvc E (n + 1) zc_176 d xm_176 0 [some (1, x), r1, r2] (st) mem Post = (zvc E n zc_176 d xm_176 1 [some (1, x), r1, r2] ((1, x) :: st) mem Post) := zrf rfl
theorem s_176_1 {E : yE} {n d : Nat} {mem : yMem} {Post : Option yV → yMem → Prop} {st : List yV} {r0 r1 r2 : Option yV} {z : Int} : zvc E (n + 1) zc_176 d xm_176 1 [r0, r1, r2] ((1, z) :: st) mem Post = (zia z = true ∧ zvc E n zc_176 d xm_176 2 [r0, r1, r2] ((0, ((zln z : Nat) : Int)) :: st) mem Post) := zrf rfl
theorem s_176_2 {E : yE} {n d : Nat} {mem : yMem} {Post : Option yV → yMem → Prop} {st : List yV} {r0 r1 r2 : Option yV} : zvc E (n + 1) zc_176 d xm_176 2 [r0, r1, r2] (st) mem Post = (zvc E n zc_176 d xm_176 3 [r0, r1, r2] ((0, 2) :: st) mem Post) := zrf rfl
theorem s_176_3 {E : yE} {n d : Nat} {mem : yMem} {Post : Option yV → yMem → Prop} {st : List yV} {r0 r1 r2 : Option yV} {x y : Int} : zvc E (n + 1) zc_176 d xm_176 3 [r0, r1, r2] ((0, y) :: (0, x) :: st) mem Post = (¬ w32 y = 0 ∧ zvc E n zc_176 d xm_176 4 [r0, r1, r2] ((0, ybin 9 x y) :: st) mem Post) := zrf rfl
theorem s_176_4n {E : yE} {n d : Nat} {mem : yMem} {Post : Option yV → yMem → Prop} {st : List yV} {r1 r2 : Option yV} {x : Int} : zvc E (n + 1) zc_176 d xm_176 4 [none, r1, r2] ((0, x) :: st) mem Post = (zvc E n zc_176 d xm_176 5 [none, some (0, x), r2] (st) mem Post) := zrf rfl
theorem s_176_4i {E : yE} {n d : Nat} {mem : yMem} {Post : Option yV → yMem → Prop} {st : List yV} {r1 r2 : Option yV} {x w : Int} : zvc E (n + 1) zc_176 d xm_176 4 [some (0, w), r1, r2] ((0, x) :: st) mem Post = (zvc E n zc_176 d xm_176 5 [some (0, w), some (0, x), r2] (st) mem Post) := zrf rfl
theorem s_176_4p {E : yE} {n d : Nat} {mem : yMem} {Post : Option yV → yMem → Prop} {st : List yV} {r1 r2 : Option yV} {x w : Int} : zvc E (n + 1) zc_176 d xm_176 4 [some (1, w), r1, r2] ((0, x) :: st) mem Post = (zvc E n zc_176 d xm_176 5 [some (1, w), some (0, x), r2] (st) mem Post) := zrf rfl
theorem s_176_4j {E : yE} {n d : Nat} {mem : yMem} {Post : Option yV → yMem → Prop} {st : List yV} {r0 r1 r2 : Option yV} {x : Int} : zvc E (n + 1) zc_176 d xm_176 4 [r0, r1, r2] ((0, x) :: st) mem Post = (zvc E n zc_176 d xm_176 5 [znl r0, some (0, x), r2] (st) mem Post) := zrf rfl
theorem s_176_5 {E : yE} {n d : Nat} {mem : yMem} {Post : Option yV → yMem → Prop} {st : List yV} {r0 r1 r2 : Option yV} : zvc E (n + 1) zc_176 d xm_176 5 [r0, r1, r2] (st) mem Post = (zvc E n zc_176 d xm_176 6 [r0, r1, r2] ((0, 0) :: st) mem Post) := zrf rfl
theorem s_176_6n {E : yE} {n d : Nat} {mem : yMem} {Post : Option yV → yMem → Prop} {st : List yV} {r0 r2 : Option yV} {x : Int} : zvc E (n + 1) zc_176 d xm_176 6 [r0, none, r2] ((0, x) :: st) mem Post = (zvc E n zc_176 d xm_176 7 [r0, none, some (0, x)] (st) mem Post) := zrf rfl
theorem s_176_6i {E : yE} {n d : Nat} {mem : yMem} {Post : Option yV → yMem → Prop} {st : List yV} {r0 r2 : Option yV} {x w : Int} : zvc E (n + 1) zc_176 d xm_176 6 [r0, some (0, w), r2] ((0, x) :: st) mem Post = (zvc E n zc_176 d xm_176 7 [r0, some (0, w), some (0, x)] (st) mem Post) := zrf rfl
theorem s_176_6p {E : yE} {n d : Nat} {mem : yMem} {Post : Option yV → yMem → Prop} {st : List yV} {r0 r2 : Option yV} {x w : Int} : zvc E (n + 1) zc_176 d xm_176 6 [r0, some (1, w), r2] ((0, x) :: st) mem Post = (zvc E n zc_176 d xm_176 7 [r0, some (1, w), some (0, x)] (st) mem Post) := zrf rfl
theorem s_176_6j {E : yE} {n d : Nat} {mem : yMem} {Post : Option yV → yMem → Prop} {st : List yV} {r0 r1 r2 : Option yV} {x : Int} : zvc E (n + 1) zc_176 d xm_176 6 [r0, r1, r2] ((0, x) :: st) mem Post = (zvc E n zc_176 d xm_176 7 [r0, znl r1, some (0, x)] (st) mem Post) := zrf rfl
theorem g_176_7 {E : yE} {n d : Nat} {mem : yMem} {Post : Option yV → yMem → Prop} {st : List yV} {r0 r1 : Option yV} {x : Int} : zgo E n zc_176 d xm_176 7 [r0, r1, some (0, x)] (st) mem Post = (zvc E n zc_176 d xm_176 8 [r0, r1, some (0, x)] ((0, x) :: st) mem Post) := zrf rfl
theorem k_176_7 {E : yE} {n d : Nat} {mem : yMem} {Post : Option yV → yMem → Prop} {st : List yV} {rg : zR} : zvc E (n + 1) zc_176 d xm_176 7 rg st mem Post = zG E d xm_176 7 rg st mem Post := zrf rfl
theorem s_176_8 {E : yE} {n d : Nat} {mem : yMem} {Post : Option yV → yMem → Prop} {st : List yV} {r0 r2 : Option yV} {x : Int} : zvc E (n + 1) zc_176 d xm_176 8 [r0, some (0, x), r2] (st) mem Post = (zvc E n zc_176 d xm_176 9 [r0, some (0, x), r2] ((0, x) :: st) mem Post) := zrf rfl
theorem s_176_9 {E : yE} {n d : Nat} {mem : yMem} {Post : Option yV → yMem → Prop} {st : List yV} {r0 r1 r2 : Option yV} {x y : Int} : zvc E (n + 1) zc_176 d xm_176 9 [r0, r1, r2] ((0, y) :: (0, x) :: st) mem Post = ((w32 y ≤ w32 x → zvc E n zc_176 d xm_176 26 [r0, r1, r2] (st) mem Post) ∧ (¬ (w32 y ≤ w32 x) → zvc E n zc_176 d xm_176 12 [r0, r1, r2] (st) mem Post)) := zrf rfl
theorem s_176_12 {E : yE} {n d : Nat} {mem : yMem} {Post : Option yV → yMem → Prop} {st : List yV} {r1 r2 : Option yV} {x : Int} : zvc E (n + 1) zc_176 d xm_176 12 [some (1, x), r1, r2] (st) mem Post = (zvc E n zc_176 d xm_176 13 [some (1, x), r1, r2] ((1, x) :: st) mem Post) := zrf rfl
theorem s_176_13 {E : yE} {n d : Nat} {mem : yMem} {Post : Option yV → yMem → Prop} {st : List yV} {r0 r1 : Option yV} {x : Int} : zvc E (n + 1) zc_176 d xm_176 13 [r0, r1, some (0, x)] (st) mem Post = (zvc E n zc_176 d xm_176 14 [r0, r1, some (0, x)] ((0, x) :: st) mem Post) := zrf rfl
theorem s_176_14 {E : yE} {n d : Nat} {mem : yMem} {Post : Option yV → yMem → Prop} {st : List yV} {r1 r2 : Option yV} {x : Int} : zvc E (n + 1) zc_176 d xm_176 14 [some (1, x), r1, r2] (st) mem Post = (zvc E n zc_176 d xm_176 15 [some (1, x), r1, r2] ((1, x) :: st) mem Post) := zrf rfl
theorem s_176_15 {E : yE} {n d : Nat} {mem : yMem} {Post : Option yV → yMem → Prop} {st : List yV} {r0 r2 : Option yV} {x : Int} : zvc E (n + 1) zc_176 d xm_176 15 [r0, some (0, x), r2] (st) mem Post = (zvc E n zc_176 d xm_176 16 [r0, some (0, x), r2] ((0, x) :: st) mem Post) := zrf rfl
theorem s_176_16 {E : yE} {n d : Nat} {mem : yMem} {Post : Option yV → yMem → Prop} {st : List yV} {r0 r1 : Option yV} {x : Int} : zvc E (n + 1) zc_176 d xm_176 16 [r0, r1, some (0, x)] (st) mem Post = (zvc E n zc_176 d xm_176 17 [r0, r1, some (0, x)] ((0, x) :: st) mem Post) := zrf rfl
theorem s_176_17 {E : yE} {n d : Nat} {mem : yMem} {Post : Option yV → yMem → Prop} {st : List yV} {r0 r1 r2 : Option yV} {x y : Int} : zvc E (n + 1) zc_176 d xm_176 17 [r0, r1, r2] ((0, y) :: (0, x) :: st) mem Post = (zvc E n zc_176 d xm_176 18 [r0, r1, r2] ((0, x + y) :: st) mem Post) := zrf rfl
theorem s_176_18 {E : yE} {n d : Nat} {mem : yMem} {Post : Option yV → yMem → Prop} {st : List yV} {r0 r1 r2 : Option yV} {z j : Int} : zvc E (n + 1) zc_176 d xm_176 18 [r0, r1, r2] ((0, j) :: (1, z) :: st) mem Post = ((0 ≤ w32 j ∧ w32 j < ((zar z 0 : Nat) : Int)) ∧ zvc E n zc_176 d xm_176 19 [r0, r1, r2] ((0, mem z.toNat (w32 j).toNat) :: st) mem Post) := zrf rfl
theorem s_176_19 {E : yE} {n d : Nat} {mem : yMem} {Post : Option yV → yMem → Prop} {st : List yV} {r0 r1 r2 : Option yV} {x z j : Int} : zvc E (n + 1) zc_176 d xm_176 19 [r0, r1, r2] ((0, x) :: (0, j) :: (1, z) :: st) mem Post = ((0 ≤ w32 j ∧ w32 j < ((zar z 0 : Nat) : Int)) ∧ zvc E n zc_176 d xm_176 20 [r0, r1, r2] (st) (yset mem z.toNat (w32 j).toNat x) Post) := zrf rfl
theorem s_176_20n {E : yE} {n d : Nat} {mem : yMem} {Post : Option yV → yMem → Prop} {st : List yV} {r0 : Option yV} {x : Int} : zvc E (n + 1) zc_176 d xm_176 20 [r0, none, some (0, x)] (st) mem Post = (zvc E n zc_176 d xm_176 23 [r0, none, some (0, x + 1)] (st) mem Post) := zrf rfl
theorem s_176_20i {E : yE} {n d : Nat} {mem : yMem} {Post : Option yV → yMem → Prop} {st : List yV} {r0 : Option yV} {x w : Int} : zvc E (n + 1) zc_176 d xm_176 20 [r0, some (0, w), some (0, x)] (st) mem Post = (zvc E n zc_176 d xm_176 23 [r0, some (0, w), some (0, x + 1)] (st) mem Post) := zrf rfl
theorem s_176_20p {E : yE} {n d : Nat} {mem : yMem} {Post : Option yV → yMem → Prop} {st : List yV} {r0 : Option yV} {x w : Int} : zvc E (n + 1) zc_176 d xm_176 20 [r0, some (1, w), some (0, x)] (st) mem Post = (zvc E n zc_176 d xm_176 23 [r0, some (1, w), some (0, x + 1)] (st) mem Post) := zrf rfl
theorem s_176_20j {E : yE} {n d : Nat} {mem : yMem} {Post : Option yV → yMem → Prop} {st : List yV} {r0 r1 : Option yV} {x : Int} : zvc E (n + 1) zc_176 d xm_176 20 [r0, r1, some (0, x)] (st) mem Post = (zvc E n zc_176 d xm_176 23 [r0, znl r1, some (0, x + 1)] (st) mem Post) := zrf rfl
theorem s_176_23 {E : yE} {n d : Nat} {mem : yMem} {Post : Option yV → yMem → Prop} {st : List yV} {r0 r1 r2 : Option yV} : zvc E (n + 1) zc_176 d xm_176 23 [r0, r1, r2] (st) mem Post = (zvc E n zc_176 d xm_176 7 [r0, r1, r2] (st) mem Post) := zrf rfl
theorem s_176_26 {E : yE} {n d : Nat} {mem : yMem} {Post : Option yV → yMem → Prop} {r0 r1 r2 : Option yV} : zvc E (n + 1) zc_176 d xm_176 26 [r0, r1, r2] ([]) mem Post = (Post none mem) := zrf rfl
theorem e_176 {E : yE} {d : Nat} {mem : yMem} {Q : Option yV → yMem → Prop} {a0 : Int} (h : zG E d xm_176 0 [some (1, a0), none, none] [] mem Q) : yCon E (d + 1) xm_176 [(1, a0)] mem Q := zcon_of xmo_176 (Nat.le_of_ble_eq_true rfl) h

/-- the upper half of the cell z behind, as far as k -/
def zhalf (mem : yMem) (z n k : Nat) : yMem := fun i j => if i = z ∧ j < k then mem z (n + j) else mem i j
theorem zhalf_0 (mem : yMem) (z n : Nat) : zhalf mem z n 0 = mem := by
  funext i j
  unfold zhalf
  rw [if_neg (by omega)]
theorem zhalf_s (mem : yMem) (z n k : Nat) (hk : k < n) : yset (zhalf mem z n k) z k (zhalf mem z n k z (n + k)) = zhalf mem z n (k + 1) := by
  have e : zhalf mem z n k z (n + k) = mem z (n + k) := by
    unfold zhalf
    rw [if_neg (by omega)]
  rw [e]
  funext i j
  unfold yset zhalf
  by_cases hi : i = z
  · subst hi
    rw [if_pos rfl]
    by_cases hj : j = k
    · subst hj
      rw [if_pos rfl, if_pos ⟨rfl, by omega⟩]
    · rw [if_neg hj]
      by_cases hlt : j < k
      · rw [if_pos ⟨rfl, hlt⟩, if_pos ⟨rfl, by omega⟩]
      · rw [if_neg (by omega), if_neg (by omega)]
  · rw [if_neg hi, if_neg (by omega), if_neg (by omega)]
theorem half_loop {E : yE} (hE : yEok E) {d : Nat} {mem : yMem} {Q : Option yV → yMem → Prop} {z : Int} {n : Nat} (hz : zar z 0 = 2 * n) (hn : n < 1000) (nn : Int) (hnn : w32 nn = (n : Int)) (hQ : Q none (zhalf mem z.toNat n n)) : ∀ (c : Nat) (k : Int), (n - (w32 k).toNat) = c → 0 ≤ w32 k → (w32 k).toNat ≤ n → zG E d xm_176 7 [some (1, z), some (0, nn), some (0, k)] [] (zhalf mem z.toNat n (w32 k).toNat) Q := by
  intro c
  induction c with
  | zero =>
    intro k hc h0 h1
    refine zgo_ok (n := 60) hE xmo_176 (cs := zc_176) ?_
    simp only [ynok_30, ynok_31, w32c_0, w32c_1, w32c_2, w32c_3, w32c_4, w32c_5, w32c_6, w32c_7, w32c_8, w32c_9, w32c_10, w32c_11, w32c_12, w32c_13, w32c_14, w32c_m1, w32c_m2, w32c_118, Int.reduceAdd, Int.reduceSub, Int.reduceMul, yput_s, yput_n, znl_n, znl_0, znl_1, znl_4, ysum_n, ysum_0, ysum_1, ysum_4, true_and, and_true, Nat.reduceAdd, Nat.reduceLeDiff, true_implies, eq_self, true_or, or_true, or_false, false_or, not_true_eq_false, not_false_eq_true, false_implies, implies_true, yset_s, yset_o, yset_d, ne_eq, Nat.reduceEqDiff, Int.reduceToNat, Int.reduceEq, Int.reduceLE, Int.reduceLT, Classical.not_not, Nat.reduceLT, ↓zvk_s, ↓zvk_n, ↓s_176_0, ↓s_176_1, ↓s_176_2, ↓s_176_3, ↓s_176_4n, ↓s_176_4i, ↓s_176_4p, ↓s_176_5, ↓s_176_6n, ↓s_176_6i, ↓s_176_6p, ↓g_176_7, ↓k_176_7, ↓s_176_8, ↓s_176_9, ↓s_176_12, ↓s_176_13, ↓s_176_14, ↓s_176_15, ↓s_176_16, ↓s_176_17, ↓s_176_18, ↓s_176_19, ↓s_176_20n, ↓s_176_20i, ↓s_176_20p, ↓s_176_23, ↓s_176_26]
    refine ⟨fun _ => ?_, fun h => absurd (show w32 nn ≤ w32 k by omega) h⟩
    rw [show (w32 k).toNat = n by omega]
    exact hQ
  | succ c ih =>
    intro k hc h0 h1
    have hk1 : w32 (k + 1) = w32 k + 1 := by rw [w32_ad (by rw [w32c_1]; omega) (by rw [w32c_1]; omega), w32c_1]
    have hnk : w32 (nn + k) = (n : Int) + w32 k := by rw [w32_ad (by omega) (by omega), hnn]
    refine zgo_ok (n := 60) hE xmo_176 (cs := zc_176) ?_
    simp only [ynok_30, ynok_31, w32c_0, w32c_1, w32c_2, w32c_3, w32c_4, w32c_5, w32c_6, w32c_7, w32c_8, w32c_9, w32c_10, w32c_11, w32c_12, w32c_13, w32c_14, w32c_m1, w32c_m2, w32c_118, Int.reduceAdd, Int.reduceSub, Int.reduceMul, yput_s, yput_n, znl_n, znl_0, znl_1, znl_4, ysum_n, ysum_0, ysum_1, ysum_4, true_and, and_true, Nat.reduceAdd, Nat.reduceLeDiff, true_implies, eq_self, true_or, or_true, or_false, false_or, not_true_eq_false, not_false_eq_true, false_implies, implies_true, yset_s, yset_o, yset_d, ne_eq, Nat.reduceEqDiff, Int.reduceToNat, Int.reduceEq, Int.reduceLE, Int.reduceLT, Classical.not_not, Nat.reduceLT, ↓zvk_s, ↓zvk_n, ↓s_176_0, ↓s_176_1, ↓s_176_2, ↓s_176_3, ↓s_176_4n, ↓s_176_4i, ↓s_176_4p, ↓s_176_5, ↓s_176_6n, ↓s_176_6i, ↓s_176_6p, ↓g_176_7, ↓k_176_7, ↓s_176_8, ↓s_176_9, ↓s_176_12, ↓s_176_13, ↓s_176_14, ↓s_176_15, ↓s_176_16, ↓s_176_17, ↓s_176_18, ↓s_176_19, ↓s_176_20n, ↓s_176_20i, ↓s_176_20p, ↓s_176_23, ↓s_176_26]
    rw [hz, hnk]
    refine ⟨fun h => absurd h (by omega), fun _ => ⟨⟨by omega, by omega⟩, ⟨by omega, by omega⟩, ?_⟩⟩
    rw [show ((n : Int) + w32 k).toNat = n + (w32 k).toNat by omega, zhalf_s mem z.toNat n (w32 k).toNat (by omega)]
    have := ih (k + 1) (by omega) (by omega) (by omega)
    rwa [show (w32 (k + 1)).toNat = (w32 k).toNat + 1 by omega] at this
theorem ydiv2 : ∀ n : Nat, n < 100 → ybin 9 ((2 * n : Nat) : Int) 2 = (n : Int) := by decide +kernel
theorem c_half {E : yE} (hE : yEok E) {D : Nat} (hD : 1 ≤ D) {mem : yMem} {Q : Option yV → yMem → Prop} {z : Int} {n : Nat} (hz : zar z 0 = 2 * n) (hl : zia z = true ∧ zln z = 2 * n) (hn : n < 100) (hQ : Q none (zhalf mem z.toNat n n)) : yCon E D xm_176 [(1, z)] mem Q := by
  obtain ⟨d, rfl⟩ := Nat.exists_eq_add_of_le' hD
  refine e_176 ?_
  refine zvc_ok hE 60 zc_176 _ _ _ _ _ _ _ xmo_176 ?_
  simp only [ynok_30, ynok_31, w32c_0, w32c_1, w32c_2, w32c_3, w32c_4, w32c_5, w32c_6, w32c_7, w32c_8, w32c_9, w32c_10, w32c_11, w32c_12, w32c_13, w32c_14, w32c_m1, w32c_m2, w32c_118, Int.reduceAdd, Int.reduceSub, Int.reduceMul, yput_s, yput_n, znl_n, znl_0, znl_1, znl_4, ysum_n, ysum_0, ysum_1, ysum_4, true_and, and_true, Nat.reduceAdd, Nat.reduceLeDiff, true_implies, eq_self, true_or, or_true, or_false, false_or, not_true_eq_false, not_false_eq_true, false_implies, implies_true, yset_s, yset_o, yset_d, ne_eq, Nat.reduceEqDiff, Int.reduceToNat, Int.reduceEq, Int.reduceLE, Int.reduceLT, Classical.not_not, Nat.reduceLT, ↓zvk_s, ↓zvk_n, ↓s_176_0, ↓s_176_1, ↓s_176_2, ↓s_176_3, ↓s_176_4n, ↓s_176_4i, ↓s_176_4p, ↓s_176_5, ↓s_176_6n, ↓s_176_6i, ↓s_176_6p, ↓g_176_7, ↓k_176_7, ↓s_176_8, ↓s_176_9, ↓s_176_12, ↓s_176_13, ↓s_176_14, ↓s_176_15, ↓s_176_16, ↓s_176_17, ↓s_176_18, ↓s_176_19, ↓s_176_20n, ↓s_176_20i, ↓s_176_20p, ↓s_176_23, ↓s_176_26]
  rw [hl.2, ydiv2 n hn]
  refine ⟨hl.1, ?_⟩
  have := half_loop hE (d := d) (mem := mem) (Q := Q) hz (by omega) (n : Int) (w32_of (by omega) (by omega)) hQ n 0 (by rw [w32c_0]; rfl) (by rw [w32c_0]; omega) (by rw [w32c_0]; omega)
  rw [w32c_0] at this
  rw [show ((0 : Int)).toNat = 0 from rfl, zhalf_0] at this
  exact this
end
section
def abc_begins : aCon := (146, [(1, 95, 0, 0)], [], (99, 0, 0, 0), [((127, 0), 0, 0)], [(118, 0), (119, 0), (120, 0), (121, 0), (122, 0), (123, 0), (124, 0), (125, 0), (126, 1), (126, 2), (126, 3), (126, 4), (126, 5), (126, 6), (126, 7), (126, 8), (126, 9), (126, 10), (126, 11), (126, 12), (127, 1)], 1, [(54, 0, [([(0, (1, 95, 0, 0)), (1, (3, 0, 0, 3))], [((127, 0), 0, 0)], 5000, (1, 1, 0, -1, 13), (0, 0, 0, 0, 1099511627776))]), (93, 0, [([(0, (1, 95, 0, 0)), (1, (3, 0, 0, 3))], [((127, 0), 0, 0)], 4000, (1, 1, 0, -1, 13), (0, 0, 0, 0, 1099511627776))]), (132, 0, [([(0, (1, 95, 0, 0)), (1, (3, 0, 0, 6))], [((127, 0), 0, 0)], 3000, (1, 1, 0, -1, 13), (0, 0, 0, 0, 1099511627776))]), (153, 0, [([(0, (1, 95, 0, 0)), (1, (0, 0, 0, 0))], [((127, 0), 0, 0)], 2000, (1, 1, 0, -1, 13), (0, 0, 0, 0, 1099511627776)), ([(0, (1, 95, 0, 0)), (1, (0, 0, 1, 0))], [((127, 0), 0, 0)], 2000, (1, 1, 0, -1, 13), (0, 0, 0, 0, 1099511627776)), ([(0, (1, 95, 0, 0)), (1, (0, 0, 2, 0))], [((127, 0), 0, 0)], 2000, (1, 1, 0, -1, 13), (0, 0, 0, 0, 1099511627776)), ([(0, (1, 95, 0, 0)), (1, (0, 0, 3, 0))], [((127, 0), 0, 0)], 2000, (1, 1, 0, -1, 13), (0, 0, 0, 0, 1099511627776)), ([(0, (1, 95, 0, 0)), (1, (0, 0, 4, 0))], [((127, 0), 0, 0)], 2000, (1, 1, 0, -1, 13), (0, 0, 0, 0, 1099511627776)), ([(0, (1, 95, 0, 0)), (1, (0, 0, 5, 0))], [((127, 0), 0, 0)], 2000, (1, 1, 0, -1, 13), (0, 0, 0, 0, 1099511627776)), ([(0, (1, 95, 0, 0)), (1, (0, 0, 6, 0))], [((127, 0), 0, 0)], 2000, (1, 1, 0, -1, 13), (0, 0, 0, 0, 1099511627776)), ([(0, (1, 95, 0, 0)), (1, (0, 0, 7, 0))], [((127, 0), 0, 0)], 2000, (1, 1, 0, -1, 13), (0, 0, 0, 0, 1099511627776)), ([(0, (1, 95, 0, 0)), (1, (0, 0, 8, 0))], [((127, 0), 0, 0)], 2000, (1, 1, 0, -1, 13), (0, 0, 0, 0, 1099511627776)), ([(0, (1, 95, 0, 0)), (1, (0, 0, 9, 0))], [((127, 0), 0, 0)], 2000, (1, 1, 0, -1, 13), (0, 0, 0, 0, 1099511627776)), ([(0, (1, 95, 0, 0)), (1, (0, 0, 10, 0))], [((127, 0), 0, 0)], 2000, (1, 1, 0, -1, 13), (0, 0, 0, 0, 1099511627776)), ([(0, (1, 95, 0, 0)), (1, (0, 0, 11, 0))], [((127, 0), 0, 0)], 2000, (1, 1, 0, -1, 13), (0, 0, 0, 0, 1099511627776)), ([(0, (1, 95, 0, 0)), (1, (0, 0, 12, 0))], [((127, 0), 0, 0)], 2000, (1, 1, 0, -1, 13), (0, 0, 0, 0, 1099511627776))])])
set_option maxRecDepth 1000000 in
theorem abs_begins : aSnd (fun _ => True) abc_begins := aSnd_of (oc := []) (T := []) (fun _ _ _ h => h) (xnl) 49 (by decide +kernel) (by decide +kernel)
end
section
def zc_146 : List Nat := [54, 93, 132, 153]
theorem s_146_0 {E : yE} {n d : Nat} {mem : yMem} {Post : Option yV → yMem → Prop} {st : List yV} {r1 : Option yV} {x : Int} : zvc E (n + 1) zc_146 d xm_146 0 [some (1, x), r1] (st) mem Post = (zvc E n zc_146 d xm_146 1 [some (1, x), r1] ((1, x) :: st) mem Post) := zrf rfl
theorem s_146_1 {E : yE} {n d : Nat} {mem : yMem} {Post : Option yV → yMem → Prop} {st : List yV} {r0 r1 : Option yV} : zvc E (n + 1) zc_146 d xm_146 1 [r0, r1] ((1, 95) :: st) mem Post = (zvc E n zc_146 d xm_146 4 [r0, r1] ((1, 118) :: st) mem Post) := zrf rfl
theorem s_146_4 {E : yE} {n d : Nat} {mem : yMem} {Post : Option yV → yMem → Prop} {st : List yV} {r0 r1 : Option yV} : zvc E (n + 1) zc_146 d xm_146 4 [r0, r1] (st) mem Post = (zvc E n zc_146 d xm_146 5 [r0, r1] ((0, 0) :: st) mem Post) := zrf rfl
theorem s_146_5 {E : yE} {n d : Nat} {mem : yMem} {Post : Option yV → yMem → Prop} {st : List yV} {r0 r1 : Option yV} : zvc E (n + 1) zc_146 d xm_146 5 [r0, r1] (st) mem Post = (zvc E n zc_146 d xm_146 6 [r0, r1] ((0, 0) :: st) mem Post) := zrf rfl
theorem s_146_6 {E : yE} {n d : Nat} {mem : yMem} {Post : Option yV → yMem → Prop} {st : List yV} {r0 r1 : Option yV} {x z j : Int} : zvc E (n + 1) zc_146 d xm_146 6 [r0, r1] ((0, x) :: (0, j) :: (1, z) :: st) mem Post = ((0 ≤ w32 j ∧ w32 j < ((zar z 0 : Nat) : Int)) ∧ zvc E n zc_146 d xm_146 7 [r0, r1] (st) (yset mem z.toNat (w32 j).toNat x) Post) := zrf rfl
theorem s_146_7 {E : yE} {n d : Nat} {mem : yMem} {Post : Option yV → yMem → Prop} {st : List yV} {r1 : Option yV} {x : Int} : zvc E (n + 1) zc_146 d xm_146 7 [some (1, x), r1] (st) mem Post = (zvc E n zc_146 d xm_146 8 [some (1, x), r1] ((1, x) :: st) mem Post) := zrf rfl
theorem s_146_8 {E : yE} {n d : Nat} {mem : yMem} {Post : Option yV → yMem → Prop} {st : List yV} {r0 r1 : Option yV} : zvc E (n + 1) zc_146 d xm_146 8 [r0, r1] ((1, 95) :: st) mem Post = (zvc E n zc_146 d xm_146 11 [r0, r1] ((1, 119) :: st) mem Post) := zrf rfl
theorem s_146_11 {E : yE} {n d : Nat} {mem : yMem} {Post : Option yV → yMem → Prop} {st : List yV} {r0 r1 : Option yV} : zvc E (n + 1) zc_146 d xm_146 11 [r0, r1] (st) mem Post = (zvc E n zc_146 d xm_146 12 [r0, r1] ((0, 0) :: st) mem Post) := zrf rfl
theorem s_146_12 {E : yE} {n d : Nat} {mem : yMem} {Post : Option yV → yMem → Prop} {st : List yV} {r1 : Option yV} {x : Int} : zvc E (n + 1) zc_146 d xm_146 12 [some (1, x), r1] (st) mem Post = (zvc E n zc_146 d xm_146 13 [some (1, x), r1] ((1, x) :: st) mem Post) := zrf rfl
theorem s_146_13 {E : yE} {n d : Nat} {mem : yMem} {Post : Option yV → yMem → Prop} {st : List yV} {r0 r1 : Option yV} : zvc E (n + 1) zc_146 d xm_146 13 [r0, r1] ((1, 95) :: st) mem Post = (zvc E n zc_146 d xm_146 16 [r0, r1] ((1, 97) :: st) mem Post) := zrf rfl
theorem s_146_16 {E : yE} {n d : Nat} {mem : yMem} {Post : Option yV → yMem → Prop} {st : List yV} {r0 r1 : Option yV} : zvc E (n + 1) zc_146 d xm_146 16 [r0, r1] (st) mem Post = (zvc E n zc_146 d xm_146 17 [r0, r1] ((0, 4) :: st) mem Post) := zrf rfl
theorem s_146_17 {E : yE} {n d : Nat} {mem : yMem} {Post : Option yV → yMem → Prop} {st : List yV} {r0 r1 : Option yV} {z j : Int} : zvc E (n + 1) zc_146 d xm_146 17 [r0, r1] ((0, j) :: (1, z) :: st) mem Post = ((0 ≤ w32 j ∧ w32 j < ((zar z 0 : Nat) : Int)) ∧ zvc E n zc_146 d xm_146 18 [r0, r1] ((0, mem z.toNat (w32 j).toNat) :: st) mem Post) := zrf rfl
theorem s_146_18 {E : yE} {n d : Nat} {mem : yMem} {Post : Option yV → yMem → Prop} {st : List yV} {r0 r1 : Option yV} {x z j : Int} : zvc E (n + 1) zc_146 d xm_146 18 [r0, r1] ((0, x) :: (0, j) :: (1, z) :: st) mem Post = ((0 ≤ w32 j ∧ w32 j < ((zar z 0 : Nat) : Int)) ∧ zvc E n zc_146 d xm_146 19 [r0, r1] (st) (yset mem z.toNat (w32 j).toNat x) Post) := zrf rfl
theorem s_146_19 {E : yE} {n d : Nat} {mem : yMem} {Post : Option yV → yMem → Prop} {st : List yV} {r1 : Option yV} {x : Int} : zvc E (n + 1) zc_146 d xm_146 19 [some (1, x), r1] (st) mem Post = (zvc E n zc_146 d xm_146 20 [some (1, x), r1] ((1, x) :: st) mem Post) := zrf rfl
theorem s_146_20 {E : yE} {n d : Nat} {mem : yMem} {Post : Option yV → yMem → Prop} {st : List yV} {r0 r1 : Option yV} : zvc E (n + 1) zc_146 d xm_146 20 [r0, r1] ((1, 95) :: st) mem Post = (zvc E n zc_146 d xm_146 23 [r0, r1] ((1, 120) :: st) mem Post) := zrf rfl
theorem s_146_23 {E : yE} {n d : Nat} {mem : yMem} {Post : Option yV → yMem → Prop} {st : List yV} {r0 r1 : Option yV} : zvc E (n + 1) zc_146 d xm_146 23 [r0, r1] (st) mem Post = (zvc E n zc_146 d xm_146 24 [r0, r1] ((0, 0) :: st) mem Post) := zrf rfl
theorem s_146_24 {E : yE} {n d : Nat} {mem : yMem} {Post : Option yV → yMem → Prop} {st : List yV} {r1 : Option yV} {x : Int} : zvc E (n + 1) zc_146 d xm_146 24 [some (1, x), r1] (st) mem Post = (zvc E n zc_146 d xm_146 25 [some (1, x), r1] ((1, x) :: st) mem Post) := zrf rfl
theorem s_146_25 {E : yE} {n d : Nat} {mem : yMem} {Post : Option yV → yMem → Prop} {st : List yV} {r0 r1 : Option yV} : zvc E (n + 1) zc_146 d xm_146 25 [r0, r1] ((1, 95) :: st) mem Post = (zvc E n zc_146 d xm_146 28 [r0, r1] ((1, 97) :: st) mem Post) := zrf rfl
theorem s_146_28 {E : yE} {n d : Nat} {mem : yMem} {Post : Option yV → yMem → Prop} {st : List yV} {r0 r1 : Option yV} : zvc E (n + 1) zc_146 d xm_146 28 [r0, r1] (st) mem Post = (zvc E n zc_146 d xm_146 29 [r0, r1] ((0, 5) :: st) mem Post) := zrf rfl
theorem s_146_29 {E : yE} {n d : Nat} {mem : yMem} {Post : Option yV → yMem → Prop} {st : List yV} {r0 r1 : Option yV} {z j : Int} : zvc E (n + 1) zc_146 d xm_146 29 [r0, r1] ((0, j) :: (1, z) :: st) mem Post = ((0 ≤ w32 j ∧ w32 j < ((zar z 0 : Nat) : Int)) ∧ zvc E n zc_146 d xm_146 30 [r0, r1] ((0, mem z.toNat (w32 j).toNat) :: st) mem Post) := zrf rfl
theorem s_146_30 {E : yE} {n d : Nat} {mem : yMem} {Post : Option yV → yMem → Prop} {st : List yV} {r0 r1 : Option yV} {x z j : Int} : zvc E (n + 1) zc_146 d xm_146 30 [r0, r1] ((0, x) :: (0, j) :: (1, z) :: st) mem Post = ((0 ≤ w32 j ∧ w32 j < ((zar z 0 : Nat) : Int)) ∧ zvc E n zc_146 d xm_146 31 [r0, r1] (st) (yset mem z.toNat (w32 j).toNat x) Post) := zrf rfl
theorem s_146_31 {E : yE} {n d : Nat} {mem : yMem} {Post : Option yV → yMem → Prop} {st : List yV} {r1 : Option yV} {x : Int} : zvc E (n + 1) zc_146 d xm_146 31 [some (1, x), r1] (st) mem Post = (zvc E n zc_146 d xm_146 32 [some (1, x), r1] ((1, x) :: st) mem Post) := zrf rfl
theorem s_146_32 {E : yE} {n d : Nat} {mem : yMem} {Post : Option yV → yMem → Prop} {st : List yV} {r0 r1 : Option yV} : zvc E (n + 1) zc_146 d xm_146 32 [r0, r1] ((1, 95) :: st) mem Post = (zvc E n zc_146 d xm_146 35 [r0, r1] ((1, 121) :: st) mem Post) := zrf rfl
theorem s_146_35 {E : yE} {n d : Nat} {mem : yMem} {Post : Option yV → yMem → Prop} {st : List yV} {r0 r1 : Option yV} : zvc E (n + 1) zc_146 d xm_146 35 [r0, r1] (st) mem Post = (zvc E n zc_146 d xm_146 36 [r0, r1] ((0, 0) :: st) mem Post) := zrf rfl
theorem s_146_36 {E : yE} {n d : Nat} {mem : yMem} {Post : Option yV → yMem → Prop} {st : List yV} {r0 r1 : Option yV} : zvc E (n + 1) zc_146 d xm_146 36 [r0, r1] (st) mem Post = (zvc E n zc_146 d xm_146 37 [r0, r1] ((0, 0) :: st) mem Post) := zrf rfl
theorem s_146_37 {E : yE} {n d : Nat} {mem : yMem} {Post : Option yV → yMem → Prop} {st : List yV} {r0 r1 : Option yV} {x z j : Int} : zvc E (n + 1) zc_146 d xm_146 37 [r0, r1] ((0, x) :: (0, j) :: (1, z) :: st) mem Post = ((0 ≤ w32 j ∧ w32 j < ((zar z 0 : Nat) : Int)) ∧ zvc E n zc_146 d xm_146 38 [r0, r1] (st) (yset mem z.toNat (w32 j).toNat x) Post) := zrf rfl
theorem s_146_38 {E : yE} {n d : Nat} {mem : yMem} {Post : Option yV → yMem → Prop} {st : List yV} {r1 : Option yV} {x : Int} : zvc E (n + 1) zc_146 d xm_146 38 [some (1, x), r1] (st) mem Post = (zvc E n zc_146 d xm_146 39 [some (1, x), r1] ((1, x) :: st) mem Post) := zrf rfl
theorem s_146_39 {E : yE} {n d : Nat} {mem : yMem} {Post : Option yV → yMem → Prop} {st : List yV} {r0 r1 : Option yV} : zvc E (n + 1) zc_146 d xm_146 39 [r0, r1] ((1, 95) :: st) mem Post = (zvc E n zc_146 d xm_146 42 [r0, r1] ((1, 122) :: st) mem Post) := zrf rfl
theorem s_146_42 {E : yE} {n d : Nat} {mem : yMem} {Post : Option yV → yMem → Prop} {st : List yV} {r0 r1 : Option yV} : zvc E (n + 1) zc_146 d xm_146 42 [r0, r1] (st) mem Post = (zvc E n zc_146 d xm_146 43 [r0, r1] ((0, 0) :: st) mem Post) := zrf rfl
theorem s_146_43 {E : yE} {n d : Nat} {mem : yMem} {Post : Option yV → yMem → Prop} {st : List yV} {r0 r1 : Option yV} : zvc E (n + 1) zc_146 d xm_146 43 [r0, r1] (st) mem Post = (zvc E n zc_146 d xm_146 44 [r0, r1] ((0, 0) :: st) mem Post) := zrf rfl
theorem s_146_44 {E : yE} {n d : Nat} {mem : yMem} {Post : Option yV → yMem → Prop} {st : List yV} {r0 r1 : Option yV} {x z j : Int} : zvc E (n + 1) zc_146 d xm_146 44 [r0, r1] ((0, x) :: (0, j) :: (1, z) :: st) mem Post = ((0 ≤ w32 j ∧ w32 j < ((zar z 0 : Nat) : Int)) ∧ zvc E n zc_146 d xm_146 45 [r0, r1] (st) (yset mem z.toNat (w32 j).toNat x) Post) := zrf rfl
theorem s_146_45 {E : yE} {n d : Nat} {mem : yMem} {Post : Option yV → yMem → Prop} {st : List yV} {r1 : Option yV} {x : Int} : zvc E (n + 1) zc_146 d xm_146 45 [some (1, x), r1] (st) mem Post = (zvc E n zc_146 d xm_146 46 [some (1, x), r1] ((1, x) :: st) mem Post) := zrf rfl
theorem s_146_46 {E : yE} {n d : Nat} {mem : yMem} {Post : Option yV → yMem → Prop} {st : List yV} {r0 r1 : Option yV} : zvc E (n + 1) zc_146 d xm_146 46 [r0, r1] ((1, 95) :: st) mem Post = (zvc E n zc_146 d xm_146 49 [r0, r1] ((1, 127) :: st) mem Post) := zrf rfl
theorem s_146_49 {E : yE} {n d : Nat} {mem : yMem} {Post : Option yV → yMem → Prop} {st : List yV} {r0 r1 : Option yV} : zvc E (n + 1) zc_146 d xm_146 49 [r0, r1] (st) mem Post = (zvc E n zc_146 d xm_146 50 [r0, r1] ((0, 0) :: st) mem Post) := zrf rfl
theorem s_146_50 {E : yE} {n d : Nat} {mem : yMem} {Post : Option yV → yMem → Prop} {st : List yV} {r0 r1 : Option yV} : zvc E (n + 1) zc_146 d xm_146 50 [r0, r1] (st) mem Post = (zvc E n zc_146 d xm_146 51 [r0, r1] ((0, 0) :: st) mem Post) := zrf rfl
theorem s_146_51 {E : yE} {n d : Nat} {mem : yMem} {Post : Option yV → yMem → Prop} {st : List yV} {r0 r1 : Option yV} {x z j : Int} : zvc E (n + 1) zc_146 d xm_146 51 [r0, r1] ((0, x) :: (0, j) :: (1, z) :: st) mem Post = ((0 ≤ w32 j ∧ w32 j < ((zar z 0 : Nat) : Int)) ∧ zvc E n zc_146 d xm_146 52 [r0, r1] (st) (yset mem z.toNat (w32 j).toNat x) Post) := zrf rfl
theorem s_146_52 {E : yE} {n d : Nat} {mem : yMem} {Post : Option yV → yMem → Prop} {st : List yV} {r0 r1 : Option yV} : zvc E (n + 1) zc_146 d xm_146 52 [r0, r1] (st) mem Post = (zvc E n zc_146 d xm_146 53 [r0, r1] ((0, 0) :: st) mem Post) := zrf rfl
theorem s_146_53n {E : yE} {n d : Nat} {mem : yMem} {Post : Option yV → yMem → Prop} {st : List yV} {r1 : Option yV} {x : Int} : zvc E (n + 1) zc_146 d xm_146 53 [none, r1] ((0, x) :: st) mem Post = (zvc E n zc_146 d xm_146 54 [none, some (0, x)] (st) mem Post) := zrf rfl
theorem s_146_53i {E : yE} {n d : Nat} {mem : yMem} {Post : Option yV → yMem → Prop} {st : List yV} {r1 : Option yV} {x w : Int} : zvc E (n + 1) zc_146 d xm_146 53 [some (0, w), r1] ((0, x) :: st) mem Post = (zvc E n zc_146 d xm_146 54 [some (0, w), some (0, x)] (st) mem Post) := zrf rfl
theorem s_146_53p {E : yE} {n d : Nat} {mem : yMem} {Post : Option yV → yMem → Prop} {st : List yV} {r1 : Option yV} {x w : Int} : zvc E (n + 1) zc_146 d xm_146 53 [some (1, w), r1] ((0, x) :: st) mem Post = (zvc E n zc_146 d xm_146 54 [some (1, w), some (0, x)] (st) mem Post) := zrf rfl
theorem s_146_53j {E : yE} {n d : Nat} {mem : yMem} {Post : Option yV → yMem → Prop} {st : List yV} {r0 r1 : Option yV} {x : Int} : zvc E (n + 1) zc_146 d xm_146 53 [r0, r1] ((0, x) :: st) mem Post = (zvc E n zc_146 d xm_146 54 [znl r0, some (0, x)] (st) mem Post) := zrf rfl
theorem g_146_54 {E : yE} {n d : Nat} {mem : yMem} {Post : Option yV → yMem → Prop} {st : List yV} {r0 : Option yV} {x : Int} : zgo E n zc_146 d xm_146 54 [r0, some (0, x)] (st) mem Post = (zvc E n zc_146 d xm_146 55 [r0, some (0, x)] ((0, x) :: st) mem Post) := zrf rfl
theorem k_146_54 {E : yE} {n d : Nat} {mem : yMem} {Post : Option yV → yMem → Prop} {st : List yV} {rg : zR} : zvc E (n + 1) zc_146 d xm_146 54 rg st mem Post = zG E d xm_146 54 rg st mem Post := zrf rfl
theorem s_146_55 {E : yE} {n d : Nat} {mem : yMem} {Post : Option yV → yMem → Prop} {st : List yV} {r0 r1 : Option yV} : zvc E (n + 1) zc_146 d xm_146 55 [r0, r1] (st) mem Post = (zvc E n zc_146 d xm_146 56 [r0, r1] ((0, 3) :: st) mem Post) := zrf rfl
theorem s_146_56 {E : yE} {n d : Nat} {mem : yMem} {Post : Option yV → yMem → Prop} {st : List yV} {r0 r1 : Option yV} {x y : Int} : zvc E (n + 1) zc_146 d xm_146 56 [r0, r1] ((0, y) :: (0, x) :: st) mem Post = ((w32 y ≤ w32 x → zvc E n zc_146 d xm_146 91 [r0, r1] (st) mem Post) ∧ (¬ (w32 y ≤ w32 x) → zvc E n zc_146 d xm_146 59 [r0, r1] (st) mem Post)) := zrf rfl
theorem s_146_59 {E : yE} {n d : Nat} {mem : yMem} {Post : Option yV → yMem → Prop} {st : List yV} {r1 : Option yV} {x : Int} : zvc E (n + 1) zc_146 d xm_146 59 [some (1, x), r1] (st) mem Post = (zvc E n zc_146 d xm_146 60 [some (1, x), r1] ((1, x) :: st) mem Post) := zrf rfl
theorem s_146_60 {E : yE} {n d : Nat} {mem : yMem} {Post : Option yV → yMem → Prop} {st : List yV} {r0 r1 : Option yV} : zvc E (n + 1) zc_146 d xm_146 60 [r0, r1] ((1, 95) :: st) mem Post = (zvc E n zc_146 d xm_146 63 [r0, r1] ((1, 123) :: st) mem Post) := zrf rfl
theorem s_146_63 {E : yE} {n d : Nat} {mem : yMem} {Post : Option yV → yMem → Prop} {st : List yV} {r0 : Option yV} {x : Int} : zvc E (n + 1) zc_146 d xm_146 63 [r0, some (0, x)] (st) mem Post = (zvc E n zc_146 d xm_146 64 [r0, some (0, x)] ((0, x) :: st) mem Post) := zrf rfl
theorem s_146_64 {E : yE} {n d : Nat} {mem : yMem} {Post : Option yV → yMem → Prop} {st : List yV} {r0 : Option yV} {x : Int} : zvc E (n + 1) zc_146 d xm_146 64 [r0, some (0, x)] (st) mem Post = (zvc E n zc_146 d xm_146 65 [r0, some (0, x)] ((0, x) :: st) mem Post) := zrf rfl
theorem s_146_65 {E : yE} {n d : Nat} {mem : yMem} {Post : Option yV → yMem → Prop} {st : List yV} {r1 : Option yV} {x : Int} : zvc E (n + 1) zc_146 d xm_146 65 [some (1, x), r1] (st) mem Post = (zvc E n zc_146 d xm_146 66 [some (1, x), r1] ((1, x) :: st) mem Post) := zrf rfl
theorem s_146_66 {E : yE} {n d : Nat} {mem : yMem} {Post : Option yV → yMem → Prop} {st : List yV} {r0 r1 : Option yV} : zvc E (n + 1) zc_146 d xm_146 66 [r0, r1] ((1, 95) :: st) mem Post = (zvc E n zc_146 d xm_146 69 [r0, r1] ((1, 97) :: st) mem Post) := zrf rfl
theorem s_146_69 {E : yE} {n d : Nat} {mem : yMem} {Post : Option yV → yMem → Prop} {st : List yV} {r0 r1 : Option yV} : zvc E (n + 1) zc_146 d xm_146 69 [r0, r1] (st) mem Post = (zvc E n zc_146 d xm_146 70 [r0, r1] ((0, 0) :: st) mem Post) := zrf rfl
theorem s_146_70 {E : yE} {n d : Nat} {mem : yMem} {Post : Option yV → yMem → Prop} {st : List yV} {r0 r1 : Option yV} {z j : Int} : zvc E (n + 1) zc_146 d xm_146 70 [r0, r1] ((0, j) :: (1, z) :: st) mem Post = ((0 ≤ w32 j ∧ w32 j < ((zar z 0 : Nat) : Int)) ∧ zvc E n zc_146 d xm_146 71 [r0, r1] ((0, mem z.toNat (w32 j).toNat) :: st) mem Post) := zrf rfl
theorem s_146_71 {E : yE} {n d : Nat} {mem : yMem} {Post : Option yV → yMem → Prop} {st : List yV} {r0 r1 : Option yV} {x y : Int} : zvc E (n + 1) zc_146 d xm_146 71 [r0, r1] ((0, y) :: (0, x) :: st) mem Post = ((w32 y ≤ w32 x → zvc E n zc_146 d xm_146 83 [r0, r1] (st) mem Post) ∧ (¬ (w32 y ≤ w32 x) → zvc E n zc_146 d xm_146 74 [r0, r1] (st) mem Post)) := zrf rfl
theorem s_146_74 {E : yE} {n d : Nat} {mem : yMem} {Post : Option yV → yMem → Prop} {st : List yV} {r1 : Option yV} {x : Int} : zvc E (n + 1) zc_146 d xm_146 74 [some (1, x), r1] (st) mem Post = (zvc E n zc_146 d xm_146 75 [some (1, x), r1] ((1, x) :: st) mem Post) := zrf rfl
theorem s_146_75 {E : yE} {n d : Nat} {mem : yMem} {Post : Option yV → yMem → Prop} {st : List yV} {r0 r1 : Option yV} : zvc E (n + 1) zc_146 d xm_146 75 [r0, r1] ((1, 95) :: st) mem Post = (zvc E n zc_146 d xm_146 78 [r0, r1] ((1, 100) :: st) mem Post) := zrf rfl
theorem s_146_78 {E : yE} {n d : Nat} {mem : yMem} {Post : Option yV → yMem → Prop} {st : List yV} {r0 : Option yV} {x : Int} : zvc E (n + 1) zc_146 d xm_146 78 [r0, some (0, x)] (st) mem Post = (zvc E n zc_146 d xm_146 79 [r0, some (0, x)] ((0, x) :: st) mem Post) := zrf rfl
theorem s_146_79 {E : yE} {n d : Nat} {mem : yMem} {Post : Option yV → yMem → Prop} {st : List yV} {r0 r1 : Option yV} {z j : Int} : zvc E (n + 1) zc_146 d xm_146 79 [r0, r1] ((0, j) :: (1, z) :: st) mem Post = ((0 ≤ w32 j ∧ w32 j < ((zar z 0 : Nat) : Int)) ∧ zvc E n zc_146 d xm_146 80 [r0, r1] ((0, mem z.toNat (w32 j).toNat) :: st) mem Post) := zrf rfl
theorem s_146_80 {E : yE} {n d : Nat} {mem : yMem} {Post : Option yV → yMem → Prop} {st : List yV} {r0 r1 : Option yV} : zvc E (n + 1) zc_146 d xm_146 80 [r0, r1] (st) mem Post = (zvc E n zc_146 d xm_146 84 [r0, r1] (st) mem Post) := zrf rfl
theorem s_146_83 {E : yE} {n d : Nat} {mem : yMem} {Post : Option yV → yMem → Prop} {st : List yV} {r0 r1 : Option yV} : zvc E (n + 1) zc_146 d xm_146 83 [r0, r1] (st) mem Post = (zvc E n zc_146 d xm_146 84 [r0, r1] ((0, 0) :: st) mem Post) := zrf rfl
theorem s_146_84 {E : yE} {n d : Nat} {mem : yMem} {Post : Option yV → yMem → Prop} {st : List yV} {r0 r1 : Option yV} {x z j : Int} : zvc E (n + 1) zc_146 d xm_146 84 [r0, r1] ((0, x) :: (0, j) :: (1, z) :: st) mem Post = ((0 ≤ w32 j ∧ w32 j < ((zar z 0 : Nat) : Int)) ∧ zvc E n zc_146 d xm_146 85 [r0, r1] (st) (yset mem z.toNat (w32 j).toNat x) Post) := zrf rfl
theorem s_146_85n {E : yE} {n d : Nat} {mem : yMem} {Post : Option yV → yMem → Prop} {st : List yV} {x : Int} : zvc E (n + 1) zc_146 d xm_146 85 [none, some (0, x)] (st) mem Post = (zvc E n zc_146 d xm_146 88 [none, some (0, x + 1)] (st) mem Post) := zrf rfl
theorem s_146_85i {E : yE} {n d : Nat} {mem : yMem} {Post : Option yV → yMem → Prop} {st : List yV} {x w : Int} : zvc E (n + 1) zc_146 d xm_146 85 [some (0, w), some (0, x)] (st) mem Post = (zvc E n zc_146 d xm_146 88 [some (0, w), some (0, x + 1)] (st) mem Post) := zrf rfl
theorem s_146_85p {E : yE} {n d : Nat} {mem : yMem} {Post : Option yV → yMem → Prop} {st : List yV} {x w : Int} : zvc E (n + 1) zc_146 d xm_146 85 [some (1, w), some (0, x)] (st) mem Post = (zvc E n zc_146 d xm_146 88 [some (1, w), some (0, x + 1)] (st) mem Post) := zrf rfl
theorem s_146_85j {E : yE} {n d : Nat} {mem : yMem} {Post : Option yV → yMem → Prop} {st : List yV} {r0 : Option yV} {x : Int} : zvc E (n + 1) zc_146 d xm_146 85 [r0, some (0, x)] (st) mem Post = (zvc E n zc_146 d xm_146 88 [znl r0, some (0, x + 1)] (st) mem Post) := zrf rfl
theorem s_146_88 {E : yE} {n d : Nat} {mem : yMem} {Post : Option yV → yMem → Prop} {st : List yV} {r0 r1 : Option yV} : zvc E (n + 1) zc_146 d xm_146 88 [r0, r1] (st) mem Post = (zvc E n zc_146 d xm_146 54 [r0, r1] (st) mem Post) := zrf rfl
theorem s_146_91 {E : yE} {n d : Nat} {mem : yMem} {Post : Option yV → yMem → Prop} {st : List yV} {r0 r1 : Option yV} : zvc E (n + 1) zc_146 d xm_146 91 [r0, r1] (st) mem Post = (zvc E n zc_146 d xm_146 92 [r0, r1] ((0, 0) :: st) mem Post) := zrf rfl
theorem s_146_92n {E : yE} {n d : Nat} {mem : yMem} {Post : Option yV → yMem → Prop} {st : List yV} {r1 : Option yV} {x : Int} : zvc E (n + 1) zc_146 d xm_146 92 [none, r1] ((0, x) :: st) mem Post = (zvc E n zc_146 d xm_146 93 [none, some (0, x)] (st) mem Post) := zrf rfl
theorem s_146_92i {E : yE} {n d : Nat} {mem : yMem} {Post : Option yV → yMem → Prop} {st : List yV} {r1 : Option yV} {x w : Int} : zvc E (n + 1) zc_146 d xm_146 92 [some (0, w), r1] ((0, x) :: st) mem Post = (zvc E n zc_146 d xm_146 93 [some (0, w), some (0, x)] (st) mem Post) := zrf rfl
theorem s_146_92p {E : yE} {n d : Nat} {mem : yMem} {Post : Option yV → yMem → Prop} {st : List yV} {r1 : Option yV} {x w : Int} : zvc E (n + 1) zc_146 d xm_146 92 [some (1, w), r1] ((0, x) :: st) mem Post = (zvc E n zc_146 d xm_146 93 [some (1, w), some (0, x)] (st) mem Post) := zrf rfl
theorem s_146_92j {E : yE} {n d : Nat} {mem : yMem} {Post : Option yV → yMem → Prop} {st : List yV} {r0 r1 : Option yV} {x : Int} : zvc E (n + 1) zc_146 d xm_146 92 [r0, r1] ((0, x) :: st) mem Post = (zvc E n zc_146 d xm_146 93 [znl r0, some (0, x)] (st) mem Post) := zrf rfl
theorem g_146_93 {E : yE} {n d : Nat} {mem : yMem} {Post : Option yV → yMem → Prop} {st : List yV} {r0 : Option yV} {x : Int} : zgo E n zc_146 d xm_146 93 [r0, some (0, x)] (st) mem Post = (zvc E n zc_146 d xm_146 94 [r0, some (0, x)] ((0, x) :: st) mem Post) := zrf rfl
theorem k_146_93 {E : yE} {n d : Nat} {mem : yMem} {Post : Option yV → yMem → Prop} {st : List yV} {rg : zR} : zvc E (n + 1) zc_146 d xm_146 93 rg st mem Post = zG E d xm_146 93 rg st mem Post := zrf rfl
theorem s_146_94 {E : yE} {n d : Nat} {mem : yMem} {Post : Option yV → yMem → Prop} {st : List yV} {r0 r1 : Option yV} : zvc E (n + 1) zc_146 d xm_146 94 [r0, r1] (st) mem Post = (zvc E n zc_146 d xm_146 95 [r0, r1] ((0, 3) :: st) mem Post) := zrf rfl
theorem s_146_95 {E : yE} {n d : Nat} {mem : yMem} {Post : Option yV → yMem → Prop} {st : List yV} {r0 r1 : Option yV} {x y : Int} : zvc E (n + 1) zc_146 d xm_146 95 [r0, r1] ((0, y) :: (0, x) :: st) mem Post = ((w32 y ≤ w32 x → zvc E n zc_146 d xm_146 130 [r0, r1] (st) mem Post) ∧ (¬ (w32 y ≤ w32 x) → zvc E n zc_146 d xm_146 98 [r0, r1] (st) mem Post)) := zrf rfl
theorem s_146_98 {E : yE} {n d : Nat} {mem : yMem} {Post : Option yV → yMem → Prop} {st : List yV} {r1 : Option yV} {x : Int} : zvc E (n + 1) zc_146 d xm_146 98 [some (1, x), r1] (st) mem Post = (zvc E n zc_146 d xm_146 99 [some (1, x), r1] ((1, x) :: st) mem Post) := zrf rfl
theorem s_146_99 {E : yE} {n d : Nat} {mem : yMem} {Post : Option yV → yMem → Prop} {st : List yV} {r0 r1 : Option yV} : zvc E (n + 1) zc_146 d xm_146 99 [r0, r1] ((1, 95) :: st) mem Post = (zvc E n zc_146 d xm_146 102 [r0, r1] ((1, 124) :: st) mem Post) := zrf rfl
theorem s_146_102 {E : yE} {n d : Nat} {mem : yMem} {Post : Option yV → yMem → Prop} {st : List yV} {r0 : Option yV} {x : Int} : zvc E (n + 1) zc_146 d xm_146 102 [r0, some (0, x)] (st) mem Post = (zvc E n zc_146 d xm_146 103 [r0, some (0, x)] ((0, x) :: st) mem Post) := zrf rfl
theorem s_146_103 {E : yE} {n d : Nat} {mem : yMem} {Post : Option yV → yMem → Prop} {st : List yV} {r0 : Option yV} {x : Int} : zvc E (n + 1) zc_146 d xm_146 103 [r0, some (0, x)] (st) mem Post = (zvc E n zc_146 d xm_146 104 [r0, some (0, x)] ((0, x) :: st) mem Post) := zrf rfl
theorem s_146_104 {E : yE} {n d : Nat} {mem : yMem} {Post : Option yV → yMem → Prop} {st : List yV} {r1 : Option yV} {x : Int} : zvc E (n + 1) zc_146 d xm_146 104 [some (1, x), r1] (st) mem Post = (zvc E n zc_146 d xm_146 105 [some (1, x), r1] ((1, x) :: st) mem Post) := zrf rfl
theorem s_146_105 {E : yE} {n d : Nat} {mem : yMem} {Post : Option yV → yMem → Prop} {st : List yV} {r0 r1 : Option yV} : zvc E (n + 1) zc_146 d xm_146 105 [r0, r1] ((1, 95) :: st) mem Post = (zvc E n zc_146 d xm_146 108 [r0, r1] ((1, 97) :: st) mem Post) := zrf rfl
theorem s_146_108 {E : yE} {n d : Nat} {mem : yMem} {Post : Option yV → yMem → Prop} {st : List yV} {r0 r1 : Option yV} : zvc E (n + 1) zc_146 d xm_146 108 [r0, r1] (st) mem Post = (zvc E n zc_146 d xm_146 109 [r0, r1] ((0, 3) :: st) mem Post) := zrf rfl
theorem s_146_109 {E : yE} {n d : Nat} {mem : yMem} {Post : Option yV → yMem → Prop} {st : List yV} {r0 r1 : Option yV} {z j : Int} : zvc E (n + 1) zc_146 d xm_146 109 [r0, r1] ((0, j) :: (1, z) :: st) mem Post = ((0 ≤ w32 j ∧ w32 j < ((zar z 0 : Nat) : Int)) ∧ zvc E n zc_146 d xm_146 110 [r0, r1] ((0, mem z.toNat (w32 j).toNat) :: st) mem Post) := zrf rfl
theorem s_146_110 {E : yE} {n d : Nat} {mem : yMem} {Post : Option yV → yMem → Prop} {st : List yV} {r0 r1 : Option yV} {x y : Int} : zvc E (n + 1) zc_146 d xm_146 110 [r0, r1] ((0, y) :: (0, x) :: st) mem Post = ((w32 y ≤ w32 x → zvc E n zc_146 d xm_146 122 [r0, r1] (st) mem Post) ∧ (¬ (w32 y ≤ w32 x) → zvc E n zc_146 d xm_146 113 [r0, r1] (st) mem Post)) := zrf rfl
theorem s_146_113 {E : yE} {n d : Nat} {mem : yMem} {Post : Option yV → yMem → Prop} {st : List yV} {r1 : Option yV} {x : Int} : zvc E (n + 1) zc_146 d xm_146 113 [some (1, x), r1] (st) mem Post = (zvc E n zc_146 d xm_146 114 [some (1, x), r1] ((1, x) :: st) mem Post) := zrf rfl
theorem s_146_114 {E : yE} {n d : Nat} {mem : yMem} {Post : Option yV → yMem → Prop} {st : List yV} {r0 r1 : Option yV} : zvc E (n + 1) zc_146 d xm_146 114 [r0, r1] ((1, 95) :: st) mem Post = (zvc E n zc_146 d xm_146 117 [r0, r1] ((1, 113) :: st) mem Post) := zrf rfl
theorem s_146_117 {E : yE} {n d : Nat} {mem : yMem} {Post : Option yV → yMem → Prop} {st : List yV} {r0 : Option yV} {x : Int} : zvc E (n + 1) zc_146 d xm_146 117 [r0, some (0, x)] (st) mem Post = (zvc E n zc_146 d xm_146 118 [r0, some (0, x)] ((0, x) :: st) mem Post) := zrf rfl
theorem s_146_118 {E : yE} {n d : Nat} {mem : yMem} {Post : Option yV → yMem → Prop} {st : List yV} {r0 r1 : Option yV} {z j : Int} : zvc E (n + 1) zc_146 d xm_146 118 [r0, r1] ((0, j) :: (1, z) :: st) mem Post = ((0 ≤ w32 j ∧ w32 j < ((zar z 0 : Nat) : Int)) ∧ zvc E n zc_146 d xm_146 119 [r0, r1] ((0, mem z.toNat (w32 j).toNat) :: st) mem Post) := zrf rfl
theorem s_146_119 {E : yE} {n d : Nat} {mem : yMem} {Post : Option yV → yMem → Prop} {st : List yV} {r0 r1 : Option yV} : zvc E (n + 1) zc_146 d xm_146 119 [r0, r1] (st) mem Post = (zvc E n zc_146 d xm_146 123 [r0, r1] (st) mem Post) := zrf rfl
theorem s_146_122 {E : yE} {n d : Nat} {mem : yMem} {Post : Option yV → yMem → Prop} {st : List yV} {r0 r1 : Option yV} : zvc E (n + 1) zc_146 d xm_146 122 [r0, r1] (st) mem Post = (zvc E n zc_146 d xm_146 123 [r0, r1] ((0, 0) :: st) mem Post) := zrf rfl
theorem s_146_123 {E : yE} {n d : Nat} {mem : yMem} {Post : Option yV → yMem → Prop} {st : List yV} {r0 r1 : Option yV} {x z j : Int} : zvc E (n + 1) zc_146 d xm_146 123 [r0, r1] ((0, x) :: (0, j) :: (1, z) :: st) mem Post = ((0 ≤ w32 j ∧ w32 j < ((zar z 0 : Nat) : Int)) ∧ zvc E n zc_146 d xm_146 124 [r0, r1] (st) (yset mem z.toNat (w32 j).toNat x) Post) := zrf rfl
theorem s_146_124n {E : yE} {n d : Nat} {mem : yMem} {Post : Option yV → yMem → Prop} {st : List yV} {x : Int} : zvc E (n + 1) zc_146 d xm_146 124 [none, some (0, x)] (st) mem Post = (zvc E n zc_146 d xm_146 127 [none, some (0, x + 1)] (st) mem Post) := zrf rfl
theorem s_146_124i {E : yE} {n d : Nat} {mem : yMem} {Post : Option yV → yMem → Prop} {st : List yV} {x w : Int} : zvc E (n + 1) zc_146 d xm_146 124 [some (0, w), some (0, x)] (st) mem Post = (zvc E n zc_146 d xm_146 127 [some (0, w), some (0, x + 1)] (st) mem Post) := zrf rfl
theorem s_146_124p {E : yE} {n d : Nat} {mem : yMem} {Post : Option yV → yMem → Prop} {st : List yV} {x w : Int} : zvc E (n + 1) zc_146 d xm_146 124 [some (1, w), some (0, x)] (st) mem Post = (zvc E n zc_146 d xm_146 127 [some (1, w), some (0, x + 1)] (st) mem Post) := zrf rfl
theorem s_146_124j {E : yE} {n d : Nat} {mem : yMem} {Post : Option yV → yMem → Prop} {st : List yV} {r0 : Option yV} {x : Int} : zvc E (n + 1) zc_146 d xm_146 124 [r0, some (0, x)] (st) mem Post = (zvc E n zc_146 d xm_146 127 [znl r0, some (0, x + 1)] (st) mem Post) := zrf rfl
theorem s_146_127 {E : yE} {n d : Nat} {mem : yMem} {Post : Option yV → yMem → Prop} {st : List yV} {r0 r1 : Option yV} : zvc E (n + 1) zc_146 d xm_146 127 [r0, r1] (st) mem Post = (zvc E n zc_146 d xm_146 93 [r0, r1] (st) mem Post) := zrf rfl
theorem s_146_130 {E : yE} {n d : Nat} {mem : yMem} {Post : Option yV → yMem → Prop} {st : List yV} {r0 r1 : Option yV} : zvc E (n + 1) zc_146 d xm_146 130 [r0, r1] (st) mem Post = (zvc E n zc_146 d xm_146 131 [r0, r1] ((0, 0) :: st) mem Post) := zrf rfl
theorem s_146_131n {E : yE} {n d : Nat} {mem : yMem} {Post : Option yV → yMem → Prop} {st : List yV} {r1 : Option yV} {x : Int} : zvc E (n + 1) zc_146 d xm_146 131 [none, r1] ((0, x) :: st) mem Post = (zvc E n zc_146 d xm_146 132 [none, some (0, x)] (st) mem Post) := zrf rfl
theorem s_146_131i {E : yE} {n d : Nat} {mem : yMem} {Post : Option yV → yMem → Prop} {st : List yV} {r1 : Option yV} {x w : Int} : zvc E (n + 1) zc_146 d xm_146 131 [some (0, w), r1] ((0, x) :: st) mem Post = (zvc E n zc_146 d xm_146 132 [some (0, w), some (0, x)] (st) mem Post) := zrf rfl
theorem s_146_131p {E : yE} {n d : Nat} {mem : yMem} {Post : Option yV → yMem → Prop} {st : List yV} {r1 : Option yV} {x w : Int} : zvc E (n + 1) zc_146 d xm_146 131 [some (1, w), r1] ((0, x) :: st) mem Post = (zvc E n zc_146 d xm_146 132 [some (1, w), some (0, x)] (st) mem Post) := zrf rfl
theorem s_146_131j {E : yE} {n d : Nat} {mem : yMem} {Post : Option yV → yMem → Prop} {st : List yV} {r0 r1 : Option yV} {x : Int} : zvc E (n + 1) zc_146 d xm_146 131 [r0, r1] ((0, x) :: st) mem Post = (zvc E n zc_146 d xm_146 132 [znl r0, some (0, x)] (st) mem Post) := zrf rfl
theorem g_146_132 {E : yE} {n d : Nat} {mem : yMem} {Post : Option yV → yMem → Prop} {st : List yV} {r0 : Option yV} {x : Int} : zgo E n zc_146 d xm_146 132 [r0, some (0, x)] (st) mem Post = (zvc E n zc_146 d xm_146 133 [r0, some (0, x)] ((0, x) :: st) mem Post) := zrf rfl
theorem k_146_132 {E : yE} {n d : Nat} {mem : yMem} {Post : Option yV → yMem → Prop} {st : List yV} {rg : zR} : zvc E (n + 1) zc_146 d xm_146 132 rg st mem Post = zG E d xm_146 132 rg st mem Post := zrf rfl
theorem s_146_133 {E : yE} {n d : Nat} {mem : yMem} {Post : Option yV → yMem → Prop} {st : List yV} {r0 r1 : Option yV} : zvc E (n + 1) zc_146 d xm_146 133 [r0, r1] (st) mem Post = (zvc E n zc_146 d xm_146 135 [r0, r1] ((0, 6) :: st) mem Post) := zrf rfl
theorem s_146_135 {E : yE} {n d : Nat} {mem : yMem} {Post : Option yV → yMem → Prop} {st : List yV} {r0 r1 : Option yV} {x y : Int} : zvc E (n + 1) zc_146 d xm_146 135 [r0, r1] ((0, y) :: (0, x) :: st) mem Post = ((w32 y ≤ w32 x → zvc E n zc_146 d xm_146 151 [r0, r1] (st) mem Post) ∧ (¬ (w32 y ≤ w32 x) → zvc E n zc_146 d xm_146 138 [r0, r1] (st) mem Post)) := zrf rfl
theorem s_146_138 {E : yE} {n d : Nat} {mem : yMem} {Post : Option yV → yMem → Prop} {st : List yV} {r1 : Option yV} {x : Int} : zvc E (n + 1) zc_146 d xm_146 138 [some (1, x), r1] (st) mem Post = (zvc E n zc_146 d xm_146 139 [some (1, x), r1] ((1, x) :: st) mem Post) := zrf rfl
theorem s_146_139 {E : yE} {n d : Nat} {mem : yMem} {Post : Option yV → yMem → Prop} {st : List yV} {r0 r1 : Option yV} : zvc E (n + 1) zc_146 d xm_146 139 [r0, r1] ((1, 95) :: st) mem Post = (zvc E n zc_146 d xm_146 142 [r0, r1] ((1, 125) :: st) mem Post) := zrf rfl
theorem s_146_142 {E : yE} {n d : Nat} {mem : yMem} {Post : Option yV → yMem → Prop} {st : List yV} {r0 : Option yV} {x : Int} : zvc E (n + 1) zc_146 d xm_146 142 [r0, some (0, x)] (st) mem Post = (zvc E n zc_146 d xm_146 143 [r0, some (0, x)] ((0, x) :: st) mem Post) := zrf rfl
theorem s_146_143 {E : yE} {n d : Nat} {mem : yMem} {Post : Option yV → yMem → Prop} {st : List yV} {r0 r1 : Option yV} : zvc E (n + 1) zc_146 d xm_146 143 [r0, r1] (st) mem Post = (zvc E n zc_146 d xm_146 144 [r0, r1] ((0, 0) :: st) mem Post) := zrf rfl
theorem s_146_144 {E : yE} {n d : Nat} {mem : yMem} {Post : Option yV → yMem → Prop} {st : List yV} {r0 r1 : Option yV} {x z j : Int} : zvc E (n + 1) zc_146 d xm_146 144 [r0, r1] ((0, x) :: (0, j) :: (1, z) :: st) mem Post = ((0 ≤ w32 j ∧ w32 j < ((zar z 0 : Nat) : Int)) ∧ zvc E n zc_146 d xm_146 145 [r0, r1] (st) (yset mem z.toNat (w32 j).toNat x) Post) := zrf rfl
theorem s_146_145n {E : yE} {n d : Nat} {mem : yMem} {Post : Option yV → yMem → Prop} {st : List yV} {x : Int} : zvc E (n + 1) zc_146 d xm_146 145 [none, some (0, x)] (st) mem Post = (zvc E n zc_146 d xm_146 148 [none, some (0, x + 1)] (st) mem Post) := zrf rfl
theorem s_146_145i {E : yE} {n d : Nat} {mem : yMem} {Post : Option yV → yMem → Prop} {st : List yV} {x w : Int} : zvc E (n + 1) zc_146 d xm_146 145 [some (0, w), some (0, x)] (st) mem Post = (zvc E n zc_146 d xm_146 148 [some (0, w), some (0, x + 1)] (st) mem Post) := zrf rfl
theorem s_146_145p {E : yE} {n d : Nat} {mem : yMem} {Post : Option yV → yMem → Prop} {st : List yV} {x w : Int} : zvc E (n + 1) zc_146 d xm_146 145 [some (1, w), some (0, x)] (st) mem Post = (zvc E n zc_146 d xm_146 148 [some (1, w), some (0, x + 1)] (st) mem Post) := zrf rfl
theorem s_146_145j {E : yE} {n d : Nat} {mem : yMem} {Post : Option yV → yMem → Prop} {st : List yV} {r0 : Option yV} {x : Int} : zvc E (n + 1) zc_146 d xm_146 145 [r0, some (0, x)] (st) mem Post = (zvc E n zc_146 d xm_146 148 [znl r0, some (0, x + 1)] (st) mem Post) := zrf rfl
theorem s_146_148 {E : yE} {n d : Nat} {mem : yMem} {Post : Option yV → yMem → Prop} {st : List yV} {r0 r1 : Option yV} : zvc E (n + 1) zc_146 d xm_146 148 [r0, r1] (st) mem Post = (zvc E n zc_146 d xm_146 132 [r0, r1] (st) mem Post) := zrf rfl
theorem s_146_151 {E : yE} {n d : Nat} {mem : yMem} {Post : Option yV → yMem → Prop} {st : List yV} {r0 r1 : Option yV} : zvc E (n + 1) zc_146 d xm_146 151 [r0, r1] (st) mem Post = (zvc E n zc_146 d xm_146 152 [r0, r1] ((0, 0) :: st) mem Post) := zrf rfl
theorem s_146_152n {E : yE} {n d : Nat} {mem : yMem} {Post : Option yV → yMem → Prop} {st : List yV} {r1 : Option yV} {x : Int} : zvc E (n + 1) zc_146 d xm_146 152 [none, r1] ((0, x) :: st) mem Post = (zvc E n zc_146 d xm_146 153 [none, some (0, x)] (st) mem Post) := zrf rfl
theorem s_146_152i {E : yE} {n d : Nat} {mem : yMem} {Post : Option yV → yMem → Prop} {st : List yV} {r1 : Option yV} {x w : Int} : zvc E (n + 1) zc_146 d xm_146 152 [some (0, w), r1] ((0, x) :: st) mem Post = (zvc E n zc_146 d xm_146 153 [some (0, w), some (0, x)] (st) mem Post) := zrf rfl
theorem s_146_152p {E : yE} {n d : Nat} {mem : yMem} {Post : Option yV → yMem → Prop} {st : List yV} {r1 : Option yV} {x w : Int} : zvc E (n + 1) zc_146 d xm_146 152 [some (1, w), r1] ((0, x) :: st) mem Post = (zvc E n zc_146 d xm_146 153 [some (1, w), some (0, x)] (st) mem Post) := zrf rfl
theorem s_146_152j {E : yE} {n d : Nat} {mem : yMem} {Post : Option yV → yMem → Prop} {st : List yV} {r0 r1 : Option yV} {x : Int} : zvc E (n + 1) zc_146 d xm_146 152 [r0, r1] ((0, x) :: st) mem Post = (zvc E n zc_146 d xm_146 153 [znl r0, some (0, x)] (st) mem Post) := zrf rfl
theorem g_146_153 {E : yE} {n d : Nat} {mem : yMem} {Post : Option yV → yMem → Prop} {st : List yV} {r0 : Option yV} {x : Int} : zgo E n zc_146 d xm_146 153 [r0, some (0, x)] (st) mem Post = (zvc E n zc_146 d xm_146 154 [r0, some (0, x)] ((0, x) :: st) mem Post) := zrf rfl
theorem k_146_153 {E : yE} {n d : Nat} {mem : yMem} {Post : Option yV → yMem → Prop} {st : List yV} {rg : zR} : zvc E (n + 1) zc_146 d xm_146 153 rg st mem Post = zG E d xm_146 153 rg st mem Post := zrf rfl
theorem s_146_154 {E : yE} {n d : Nat} {mem : yMem} {Post : Option yV → yMem → Prop} {st : List yV} {r0 r1 : Option yV} : zvc E (n + 1) zc_146 d xm_146 154 [r0, r1] (st) mem Post = (zvc E n zc_146 d xm_146 156 [r0, r1] ((0, 12) :: st) mem Post) := zrf rfl
theorem s_146_156 {E : yE} {n d : Nat} {mem : yMem} {Post : Option yV → yMem → Prop} {st : List yV} {r0 r1 : Option yV} {x y : Int} : zvc E (n + 1) zc_146 d xm_146 156 [r0, r1] ((0, y) :: (0, x) :: st) mem Post = ((w32 y ≤ w32 x → zvc E n zc_146 d xm_146 172 [r0, r1] (st) mem Post) ∧ (¬ (w32 y ≤ w32 x) → zvc E n zc_146 d xm_146 159 [r0, r1] (st) mem Post)) := zrf rfl
theorem s_146_159 {E : yE} {n d : Nat} {mem : yMem} {Post : Option yV → yMem → Prop} {st : List yV} {r1 : Option yV} {x : Int} : zvc E (n + 1) zc_146 d xm_146 159 [some (1, x), r1] (st) mem Post = (zvc E n zc_146 d xm_146 160 [some (1, x), r1] ((1, x) :: st) mem Post) := zrf rfl
theorem s_146_160 {E : yE} {n d : Nat} {mem : yMem} {Post : Option yV → yMem → Prop} {st : List yV} {r0 r1 : Option yV} : zvc E (n + 1) zc_146 d xm_146 160 [r0, r1] ((1, 95) :: st) mem Post = (zvc E n zc_146 d xm_146 163 [r0, r1] ((1, 126) :: st) mem Post) := zrf rfl
theorem s_146_163 {E : yE} {n d : Nat} {mem : yMem} {Post : Option yV → yMem → Prop} {st : List yV} {r0 : Option yV} {x : Int} : zvc E (n + 1) zc_146 d xm_146 163 [r0, some (0, x)] (st) mem Post = (zvc E n zc_146 d xm_146 164 [r0, some (0, x)] ((0, x) :: st) mem Post) := zrf rfl
theorem s_146_164 {E : yE} {n d : Nat} {mem : yMem} {Post : Option yV → yMem → Prop} {st : List yV} {r0 r1 : Option yV} : zvc E (n + 1) zc_146 d xm_146 164 [r0, r1] (st) mem Post = (zvc E n zc_146 d xm_146 165 [r0, r1] ((0, (-1)) :: st) mem Post) := zrf rfl
theorem s_146_165 {E : yE} {n d : Nat} {mem : yMem} {Post : Option yV → yMem → Prop} {st : List yV} {r0 r1 : Option yV} {x z j : Int} : zvc E (n + 1) zc_146 d xm_146 165 [r0, r1] ((0, x) :: (0, j) :: (1, z) :: st) mem Post = ((0 ≤ w32 j ∧ w32 j < ((zar z 0 : Nat) : Int)) ∧ zvc E n zc_146 d xm_146 166 [r0, r1] (st) (yset mem z.toNat (w32 j).toNat x) Post) := zrf rfl
theorem s_146_166n {E : yE} {n d : Nat} {mem : yMem} {Post : Option yV → yMem → Prop} {st : List yV} {x : Int} : zvc E (n + 1) zc_146 d xm_146 166 [none, some (0, x)] (st) mem Post = (zvc E n zc_146 d xm_146 169 [none, some (0, x + 1)] (st) mem Post) := zrf rfl
theorem s_146_166i {E : yE} {n d : Nat} {mem : yMem} {Post : Option yV → yMem → Prop} {st : List yV} {x w : Int} : zvc E (n + 1) zc_146 d xm_146 166 [some (0, w), some (0, x)] (st) mem Post = (zvc E n zc_146 d xm_146 169 [some (0, w), some (0, x + 1)] (st) mem Post) := zrf rfl
theorem s_146_166p {E : yE} {n d : Nat} {mem : yMem} {Post : Option yV → yMem → Prop} {st : List yV} {x w : Int} : zvc E (n + 1) zc_146 d xm_146 166 [some (1, w), some (0, x)] (st) mem Post = (zvc E n zc_146 d xm_146 169 [some (1, w), some (0, x + 1)] (st) mem Post) := zrf rfl
theorem s_146_166j {E : yE} {n d : Nat} {mem : yMem} {Post : Option yV → yMem → Prop} {st : List yV} {r0 : Option yV} {x : Int} : zvc E (n + 1) zc_146 d xm_146 166 [r0, some (0, x)] (st) mem Post = (zvc E n zc_146 d xm_146 169 [znl r0, some (0, x + 1)] (st) mem Post) := zrf rfl
theorem s_146_169 {E : yE} {n d : Nat} {mem : yMem} {Post : Option yV → yMem → Prop} {st : List yV} {r0 r1 : Option yV} : zvc E (n + 1) zc_146 d xm_146 169 [r0, r1] (st) mem Post = (zvc E n zc_146 d xm_146 153 [r0, r1] (st) mem Post) := zrf rfl
theorem s_146_172 {E : yE} {n d : Nat} {mem : yMem} {Post : Option yV → yMem → Prop} {r0 r1 : Option yV} : zvc E (n + 1) zc_146 d xm_146 172 [r0, r1] ([]) mem Post = (Post none mem) := zrf rfl
theorem e_146 {E : yE} {d : Nat} {mem : yMem} {Q : Option yV → yMem → Prop} {z : Int} (h : zG E d xm_146 0 [some (1, z), none] [] mem Q) : yCon E (d + 1) xm_146 [(1, z)] mem Q := zcon_of xmo_146 (Nat.le_of_ble_eq_true rfl) h

/-! begins, exactly -/
/-- a TEXT's world, told by the memory of the reference itself; b: the memory ahead of it -/
def rBg (b m : yMem) : Prop := (w32 (m 118 0) = 0 ∧ w32 (m 119 0) = w32 (m 97 4) ∧ w32 (m 120 0) = w32 (m 97 5) ∧ w32 (m 121 0) = 0 ∧ w32 (m 122 0) = 0 ∧ w32 (m 127 0) = 0) ∧ (∀ j : Nat, j < 3 → w32 (m 123 j) = if (j : Int) < w32 (m 97 0) then w32 (m 100 j) else 0) ∧ (∀ j : Nat, j < 3 → w32 (m 124 j) = if (j : Int) < w32 (m 97 3) then w32 (m 113 j) else 0) ∧ (∀ j : Nat, j < 6 → w32 (m 125 j) = 0) ∧ (∀ j : Nat, j < 12 → w32 (m 126 j) = -1) ∧ ∀ i j : Nat, (118 ≤ i ∧ i ≤ 122 ∧ j ≠ 0) ∨ (i = 123 ∧ 3 ≤ j) ∨ (i = 124 ∧ 3 ≤ j) ∨ (i = 125 ∧ 6 ≤ j) ∨ (i = 126 ∧ 12 ≤ j) ∨ (i = 127 ∧ j ≠ 0) ∨ i = 128 ∨ i = 129 → m i j = b i j
section RB
variable {E : yE} {d : Nat} {Q : Option yV → yMem → Prop} {b : yMem}
theorem rb153 (hE : yEok E) (hN : ∀ m', (∀ i j : Nat, ¬ (i = 126 ∧ j < 12) → m' i j = b i j) → (∀ j : Nat, j < 12 → m' 126 j = -1) → Q none m') : ∀ (c : Nat) (k : Int) (m : yMem), (12 - w32 k).toNat = c → 0 ≤ w32 k → w32 k ≤ 12 → (∀ i j : Nat, ¬ (i = 126 ∧ j < 12) → m i j = b i j) → (∀ j : Nat, (j : Int) < w32 k → m 126 j = -1) → zG E d xm_146 153 [some (1, 95), some (0, k)] [] m Q := by
  intro c
  induction c with
  | zero =>
    intro k m hc h0 h1 hF hV
    refine zgo_ok (n := 40) hE xmo_146 (cs := zc_146) ?_
    simp only [ynok_30, ynok_31, w32c_0, w32c_1, w32c_2, w32c_3, w32c_4, w32c_5, w32c_6, w32c_7, w32c_8, w32c_9, w32c_10, w32c_11, w32c_12, w32c_13, w32c_14, w32c_m1, w32c_m2, w32c_118, Int.reduceAdd, Int.reduceSub, Int.reduceMul, yput_s, yput_n, znl_n, znl_0, znl_1, znl_4, ysum_n, ysum_0, ysum_1, ysum_4, true_and, and_true, Nat.reduceAdd, Nat.reduceLeDiff, true_implies, eq_self, true_or, or_true, or_false, false_or, not_true_eq_false, not_false_eq_true, false_implies, implies_true, yset_s, yset_o, yset_d, ne_eq, Nat.reduceEqDiff, Int.reduceToNat, Int.reduceEq, Int.reduceLE, Int.reduceLT, Classical.not_not, Nat.reduceLT, ↓zvk_s, ↓zvk_n, ↓s_146_0, ↓s_146_1, ↓s_146_4, ↓s_146_5, ↓s_146_6, ↓s_146_7, ↓s_146_8, ↓s_146_11, ↓s_146_12, ↓s_146_13, ↓s_146_16, ↓s_146_17, ↓s_146_18, ↓s_146_19, ↓s_146_20, ↓s_146_23, ↓s_146_24, ↓s_146_25, ↓s_146_28, ↓s_146_29, ↓s_146_30, ↓s_146_31, ↓s_146_32, ↓s_146_35, ↓s_146_36, ↓s_146_37, ↓s_146_38, ↓s_146_39, ↓s_146_42, ↓s_146_43, ↓s_146_44, ↓s_146_45, ↓s_146_46, ↓s_146_49, ↓s_146_50, ↓s_146_51, ↓s_146_52, ↓s_146_53n, ↓s_146_53i, ↓s_146_53p, ↓g_146_54, ↓k_146_54, ↓s_146_55, ↓s_146_56, ↓s_146_59, ↓s_146_60, ↓s_146_63, ↓s_146_64, ↓s_146_65, ↓s_146_66, ↓s_146_69, ↓s_146_70, ↓s_146_71, ↓s_146_74, ↓s_146_75, ↓s_146_78, ↓s_146_79, ↓s_146_80, ↓s_146_83, ↓s_146_84, ↓s_146_85n, ↓s_146_85i, ↓s_146_85p, ↓s_146_88, ↓s_146_91, ↓s_146_92n, ↓s_146_92i, ↓s_146_92p, ↓g_146_93, ↓k_146_93, ↓s_146_94, ↓s_146_95, ↓s_146_98, ↓s_146_99, ↓s_146_102, ↓s_146_103, ↓s_146_104, ↓s_146_105, ↓s_146_108, ↓s_146_109, ↓s_146_110, ↓s_146_113, ↓s_146_114, ↓s_146_117, ↓s_146_118, ↓s_146_119, ↓s_146_122, ↓s_146_123, ↓s_146_124n, ↓s_146_124i, ↓s_146_124p, ↓s_146_127, ↓s_146_130, ↓s_146_131n, ↓s_146_131i, ↓s_146_131p, ↓g_146_132, ↓k_146_132, ↓s_146_133, ↓s_146_135, ↓s_146_138, ↓s_146_139, ↓s_146_142, ↓s_146_143, ↓s_146_144, ↓s_146_145n, ↓s_146_145i, ↓s_146_145p, ↓s_146_148, ↓s_146_151, ↓s_146_152n, ↓s_146_152i, ↓s_146_152p, ↓g_146_153, ↓k_146_153, ↓s_146_154, ↓s_146_156, ↓s_146_159, ↓s_146_160, ↓s_146_163, ↓s_146_164, ↓s_146_165, ↓s_146_166n, ↓s_146_166i, ↓s_146_166p, ↓s_146_169, ↓s_146_172, zar_97, zia_97, zln_97, zit_97, zar_126, zia_126, zln_126, zit_126, zar_100, zia_100, zln_100, zit_100, zar_113, zia_113, zln_113, zit_113, zar_118, zia_118, zln_118, zit_118, zar_119, zia_119, zln_119, zit_119, zar_120, zia_120, zln_120, zit_120, zar_121, zia_121, zln_121, zit_121, zar_122, zia_122, zln_122, zit_122, zar_123, zia_123, zln_123, zit_123, zar_124, zia_124, zln_124, zit_124, zar_125, zia_125, zln_125, zit_125, zio_95, zar_127, zia_127, zln_127, zit_127]
    exact ⟨fun _ => hN m hF (fun j hj => hV j (by omega)), fun h => absurd (show (12 : Int) ≤ w32 k by omega) h⟩
  | succ c ih =>
    intro k m hc h0 h1 hF hV
    have e1 : w32 (k + 1) = w32 k + 1 := by rw [w32_ad (by rw [w32c_1]; omega) (by rw [w32c_1]; omega), w32c_1]
    refine zgo_ok (n := 40) hE xmo_146 (cs := zc_146) ?_
    simp only [ynok_30, ynok_31, w32c_0, w32c_1, w32c_2, w32c_3, w32c_4, w32c_5, w32c_6, w32c_7, w32c_8, w32c_9, w32c_10, w32c_11, w32c_12, w32c_13, w32c_14, w32c_m1, w32c_m2, w32c_118, Int.reduceAdd, Int.reduceSub, Int.reduceMul, yput_s, yput_n, znl_n, znl_0, znl_1, znl_4, ysum_n, ysum_0, ysum_1, ysum_4, true_and, and_true, Nat.reduceAdd, Nat.reduceLeDiff, true_implies, eq_self, true_or, or_true, or_false, false_or, not_true_eq_false, not_false_eq_true, false_implies, implies_true, yset_s, yset_o, yset_d, ne_eq, Nat.reduceEqDiff, Int.reduceToNat, Int.reduceEq, Int.reduceLE, Int.reduceLT, Classical.not_not, Nat.reduceLT, ↓zvk_s, ↓zvk_n, ↓s_146_0, ↓s_146_1, ↓s_146_4, ↓s_146_5, ↓s_146_6, ↓s_146_7, ↓s_146_8, ↓s_146_11, ↓s_146_12, ↓s_146_13, ↓s_146_16, ↓s_146_17, ↓s_146_18, ↓s_146_19, ↓s_146_20, ↓s_146_23, ↓s_146_24, ↓s_146_25, ↓s_146_28, ↓s_146_29, ↓s_146_30, ↓s_146_31, ↓s_146_32, ↓s_146_35, ↓s_146_36, ↓s_146_37, ↓s_146_38, ↓s_146_39, ↓s_146_42, ↓s_146_43, ↓s_146_44, ↓s_146_45, ↓s_146_46, ↓s_146_49, ↓s_146_50, ↓s_146_51, ↓s_146_52, ↓s_146_53n, ↓s_146_53i, ↓s_146_53p, ↓g_146_54, ↓k_146_54, ↓s_146_55, ↓s_146_56, ↓s_146_59, ↓s_146_60, ↓s_146_63, ↓s_146_64, ↓s_146_65, ↓s_146_66, ↓s_146_69, ↓s_146_70, ↓s_146_71, ↓s_146_74, ↓s_146_75, ↓s_146_78, ↓s_146_79, ↓s_146_80, ↓s_146_83, ↓s_146_84, ↓s_146_85n, ↓s_146_85i, ↓s_146_85p, ↓s_146_88, ↓s_146_91, ↓s_146_92n, ↓s_146_92i, ↓s_146_92p, ↓g_146_93, ↓k_146_93, ↓s_146_94, ↓s_146_95, ↓s_146_98, ↓s_146_99, ↓s_146_102, ↓s_146_103, ↓s_146_104, ↓s_146_105, ↓s_146_108, ↓s_146_109, ↓s_146_110, ↓s_146_113, ↓s_146_114, ↓s_146_117, ↓s_146_118, ↓s_146_119, ↓s_146_122, ↓s_146_123, ↓s_146_124n, ↓s_146_124i, ↓s_146_124p, ↓s_146_127, ↓s_146_130, ↓s_146_131n, ↓s_146_131i, ↓s_146_131p, ↓g_146_132, ↓k_146_132, ↓s_146_133, ↓s_146_135, ↓s_146_138, ↓s_146_139, ↓s_146_142, ↓s_146_143, ↓s_146_144, ↓s_146_145n, ↓s_146_145i, ↓s_146_145p, ↓s_146_148, ↓s_146_151, ↓s_146_152n, ↓s_146_152i, ↓s_146_152p, ↓g_146_153, ↓k_146_153, ↓s_146_154, ↓s_146_156, ↓s_146_159, ↓s_146_160, ↓s_146_163, ↓s_146_164, ↓s_146_165, ↓s_146_166n, ↓s_146_166i, ↓s_146_166p, ↓s_146_169, ↓s_146_172, zar_97, zia_97, zln_97, zit_97, zar_126, zia_126, zln_126, zit_126, zar_100, zia_100, zln_100, zit_100, zar_113, zia_113, zln_113, zit_113, zar_118, zia_118, zln_118, zit_118, zar_119, zia_119, zln_119, zit_119, zar_120, zia_120, zln_120, zit_120, zar_121, zia_121, zln_121, zit_121, zar_122, zia_122, zln_122, zit_122, zar_123, zia_123, zln_123, zit_123, zar_124, zia_124, zln_124, zit_124, zar_125, zia_125, zln_125, zit_125, zio_95, zar_127, zia_127, zln_127, zit_127]
    refine ⟨fun h => absurd h (by omega), fun _ => ⟨⟨by omega, by omega⟩, ih (k + 1) _ (by omega) (by omega) (by omega) (fun i j hij => ?_) (fun j hj => ?_)⟩⟩
    · rw [yset_a]
      split
      · next e => rw [if_neg (by omega)]; exact hF i j hij
      · exact hF i j hij
    · by_cases e : j = (w32 k).toNat
      · rw [e, yset_s]
      · rw [yset_d e]
        exact hV j (by omega)
theorem rb132 (hE : yEok E) (hN : ∀ m', (∀ i j : Nat, ¬ (i = 125 ∧ j < 6) → m' i j = b i j) → (∀ j : Nat, j < 6 → m' 125 j = 0) → zG E d xm_146 153 [some (1, 95), some (0, 0)] [] m' Q) : ∀ (c : Nat) (k : Int) (m : yMem), (6 - w32 k).toNat = c → 0 ≤ w32 k → w32 k ≤ 6 → (∀ i j : Nat, ¬ (i = 125 ∧ j < 6) → m i j = b i j) → (∀ j : Nat, (j : Int) < w32 k → m 125 j = 0) → zG E d xm_146 132 [some (1, 95), some (0, k)] [] m Q := by
  intro c
  induction c with
  | zero =>
    intro k m hc h0 h1 hF hV
    refine zgo_ok (n := 40) hE xmo_146 (cs := zc_146) ?_
    simp only [ynok_30, ynok_31, w32c_0, w32c_1, w32c_2, w32c_3, w32c_4, w32c_5, w32c_6, w32c_7, w32c_8, w32c_9, w32c_10, w32c_11, w32c_12, w32c_13, w32c_14, w32c_m1, w32c_m2, w32c_118, Int.reduceAdd, Int.reduceSub, Int.reduceMul, yput_s, yput_n, znl_n, znl_0, znl_1, znl_4, ysum_n, ysum_0, ysum_1, ysum_4, true_and, and_true, Nat.reduceAdd, Nat.reduceLeDiff, true_implies, eq_self, true_or, or_true, or_false, false_or, not_true_eq_false, not_false_eq_true, false_implies, implies_true, yset_s, yset_o, yset_d, ne_eq, Nat.reduceEqDiff, Int.reduceToNat, Int.reduceEq, Int.reduceLE, Int.reduceLT, Classical.not_not, Nat.reduceLT, ↓zvk_s, ↓zvk_n, ↓s_146_0, ↓s_146_1, ↓s_146_4, ↓s_146_5, ↓s_146_6, ↓s_146_7, ↓s_146_8, ↓s_146_11, ↓s_146_12, ↓s_146_13, ↓s_146_16, ↓s_146_17, ↓s_146_18, ↓s_146_19, ↓s_146_20, ↓s_146_23, ↓s_146_24, ↓s_146_25, ↓s_146_28, ↓s_146_29, ↓s_146_30, ↓s_146_31, ↓s_146_32, ↓s_146_35, ↓s_146_36, ↓s_146_37, ↓s_146_38, ↓s_146_39, ↓s_146_42, ↓s_146_43, ↓s_146_44, ↓s_146_45, ↓s_146_46, ↓s_146_49, ↓s_146_50, ↓s_146_51, ↓s_146_52, ↓s_146_53n, ↓s_146_53i, ↓s_146_53p, ↓g_146_54, ↓k_146_54, ↓s_146_55, ↓s_146_56, ↓s_146_59, ↓s_146_60, ↓s_146_63, ↓s_146_64, ↓s_146_65, ↓s_146_66, ↓s_146_69, ↓s_146_70, ↓s_146_71, ↓s_146_74, ↓s_146_75, ↓s_146_78, ↓s_146_79, ↓s_146_80, ↓s_146_83, ↓s_146_84, ↓s_146_85n, ↓s_146_85i, ↓s_146_85p, ↓s_146_88, ↓s_146_91, ↓s_146_92n, ↓s_146_92i, ↓s_146_92p, ↓g_146_93, ↓k_146_93, ↓s_146_94, ↓s_146_95, ↓s_146_98, ↓s_146_99, ↓s_146_102, ↓s_146_103, ↓s_146_104, ↓s_146_105, ↓s_146_108, ↓s_146_109, ↓s_146_110, ↓s_146_113, ↓s_146_114, ↓s_146_117, ↓s_146_118, ↓s_146_119, ↓s_146_122, ↓s_146_123, ↓s_146_124n, ↓s_146_124i, ↓s_146_124p, ↓s_146_127, ↓s_146_130, ↓s_146_131n, ↓s_146_131i, ↓s_146_131p, ↓g_146_132, ↓k_146_132, ↓s_146_133, ↓s_146_135, ↓s_146_138, ↓s_146_139, ↓s_146_142, ↓s_146_143, ↓s_146_144, ↓s_146_145n, ↓s_146_145i, ↓s_146_145p, ↓s_146_148, ↓s_146_151, ↓s_146_152n, ↓s_146_152i, ↓s_146_152p, ↓g_146_153, ↓k_146_153, ↓s_146_154, ↓s_146_156, ↓s_146_159, ↓s_146_160, ↓s_146_163, ↓s_146_164, ↓s_146_165, ↓s_146_166n, ↓s_146_166i, ↓s_146_166p, ↓s_146_169, ↓s_146_172, zar_97, zia_97, zln_97, zit_97, zar_126, zia_126, zln_126, zit_126, zar_100, zia_100, zln_100, zit_100, zar_113, zia_113, zln_113, zit_113, zar_118, zia_118, zln_118, zit_118, zar_119, zia_119, zln_119, zit_119, zar_120, zia_120, zln_120, zit_120, zar_121, zia_121, zln_121, zit_121, zar_122, zia_122, zln_122, zit_122, zar_123, zia_123, zln_123, zit_123, zar_124, zia_124, zln_124, zit_124, zar_125, zia_125, zln_125, zit_125, zio_95, zar_127, zia_127, zln_127, zit_127]
    exact ⟨fun _ => hN m hF (fun j hj => hV j (by omega)), fun h => absurd (show (6 : Int) ≤ w32 k by omega) h⟩
  | succ c ih =>
    intro k m hc h0 h1 hF hV
    have e1 : w32 (k + 1) = w32 k + 1 := by rw [w32_ad (by rw [w32c_1]; omega) (by rw [w32c_1]; omega), w32c_1]
    refine zgo_ok (n := 40) hE xmo_146 (cs := zc_146) ?_
    simp only [ynok_30, ynok_31, w32c_0, w32c_1, w32c_2, w32c_3, w32c_4, w32c_5, w32c_6, w32c_7, w32c_8, w32c_9, w32c_10, w32c_11, w32c_12, w32c_13, w32c_14, w32c_m1, w32c_m2, w32c_118, Int.reduceAdd, Int.reduceSub, Int.reduceMul, yput_s, yput_n, znl_n, znl_0, znl_1, znl_4, ysum_n, ysum_0, ysum_1, ysum_4, true_and, and_true, Nat.reduceAdd, Nat.reduceLeDiff, true_implies, eq_self, true_or, or_true, or_false, false_or, not_true_eq_false, not_false_eq_true, false_implies, implies_true, yset_s, yset_o, yset_d, ne_eq, Nat.reduceEqDiff, Int.reduceToNat, Int.reduceEq, Int.reduceLE, Int.reduceLT, Classical.not_not, Nat.reduceLT, ↓zvk_s, ↓zvk_n, ↓s_146_0, ↓s_146_1, ↓s_146_4, ↓s_146_5, ↓s_146_6, ↓s_146_7, ↓s_146_8, ↓s_146_11, ↓s_146_12, ↓s_146_13, ↓s_146_16, ↓s_146_17, ↓s_146_18, ↓s_146_19, ↓s_146_20, ↓s_146_23, ↓s_146_24, ↓s_146_25, ↓s_146_28, ↓s_146_29, ↓s_146_30, ↓s_146_31, ↓s_146_32, ↓s_146_35, ↓s_146_36, ↓s_146_37, ↓s_146_38, ↓s_146_39, ↓s_146_42, ↓s_146_43, ↓s_146_44, ↓s_146_45, ↓s_146_46, ↓s_146_49, ↓s_146_50, ↓s_146_51, ↓s_146_52, ↓s_146_53n, ↓s_146_53i, ↓s_146_53p, ↓g_146_54, ↓k_146_54, ↓s_146_55, ↓s_146_56, ↓s_146_59, ↓s_146_60, ↓s_146_63, ↓s_146_64, ↓s_146_65, ↓s_146_66, ↓s_146_69, ↓s_146_70, ↓s_146_71, ↓s_146_74, ↓s_146_75, ↓s_146_78, ↓s_146_79, ↓s_146_80, ↓s_146_83, ↓s_146_84, ↓s_146_85n, ↓s_146_85i, ↓s_146_85p, ↓s_146_88, ↓s_146_91, ↓s_146_92n, ↓s_146_92i, ↓s_146_92p, ↓g_146_93, ↓k_146_93, ↓s_146_94, ↓s_146_95, ↓s_146_98, ↓s_146_99, ↓s_146_102, ↓s_146_103, ↓s_146_104, ↓s_146_105, ↓s_146_108, ↓s_146_109, ↓s_146_110, ↓s_146_113, ↓s_146_114, ↓s_146_117, ↓s_146_118, ↓s_146_119, ↓s_146_122, ↓s_146_123, ↓s_146_124n, ↓s_146_124i, ↓s_146_124p, ↓s_146_127, ↓s_146_130, ↓s_146_131n, ↓s_146_131i, ↓s_146_131p, ↓g_146_132, ↓k_146_132, ↓s_146_133, ↓s_146_135, ↓s_146_138, ↓s_146_139, ↓s_146_142, ↓s_146_143, ↓s_146_144, ↓s_146_145n, ↓s_146_145i, ↓s_146_145p, ↓s_146_148, ↓s_146_151, ↓s_146_152n, ↓s_146_152i, ↓s_146_152p, ↓g_146_153, ↓k_146_153, ↓s_146_154, ↓s_146_156, ↓s_146_159, ↓s_146_160, ↓s_146_163, ↓s_146_164, ↓s_146_165, ↓s_146_166n, ↓s_146_166i, ↓s_146_166p, ↓s_146_169, ↓s_146_172, zar_97, zia_97, zln_97, zit_97, zar_126, zia_126, zln_126, zit_126, zar_100, zia_100, zln_100, zit_100, zar_113, zia_113, zln_113, zit_113, zar_118, zia_118, zln_118, zit_118, zar_119, zia_119, zln_119, zit_119, zar_120, zia_120, zln_120, zit_120, zar_121, zia_121, zln_121, zit_121, zar_122, zia_122, zln_122, zit_122, zar_123, zia_123, zln_123, zit_123, zar_124, zia_124, zln_124, zit_124, zar_125, zia_125, zln_125, zit_125, zio_95, zar_127, zia_127, zln_127, zit_127]
    refine ⟨fun h => absurd h (by omega), fun _ => ⟨⟨by omega, by omega⟩, ih (k + 1) _ (by omega) (by omega) (by omega) (fun i j hij => ?_) (fun j hj => ?_)⟩⟩
    · rw [yset_a]
      split
      · next e => rw [if_neg (by omega)]; exact hF i j hij
      · exact hF i j hij
    · by_cases e : j = (w32 k).toNat
      · rw [e, yset_s]
      · rw [yset_d e]
        exact hV j (by omega)
theorem rb93 (hE : yEok E) (hN : ∀ m', (∀ i j : Nat, ¬ (i = 124 ∧ j < 3) → m' i j = b i j) → (∀ j : Nat, j < 3 → w32 (m' 124 j) = if (j : Int) < w32 (b 97 3) then w32 (b 113 j) else 0) → zG E d xm_146 132 [some (1, 95), some (0, 0)] [] m' Q) : ∀ (c : Nat) (k : Int) (m : yMem), (3 - w32 k).toNat = c → 0 ≤ w32 k → w32 k ≤ 3 → (∀ i j : Nat, ¬ (i = 124 ∧ j < 3) → m i j = b i j) → (∀ j : Nat, (j : Int) < w32 k → w32 (m 124 j) = if (j : Int) < w32 (b 97 3) then w32 (b 113 j) else 0) → zG E d xm_146 93 [some (1, 95), some (0, k)] [] m Q := by
  intro c
  induction c with
  | zero =>
    intro k m hc h0 h1 hF hV
    refine zgo_ok (n := 40) hE xmo_146 (cs := zc_146) ?_
    simp only [ynok_30, ynok_31, w32c_0, w32c_1, w32c_2, w32c_3, w32c_4, w32c_5, w32c_6, w32c_7, w32c_8, w32c_9, w32c_10, w32c_11, w32c_12, w32c_13, w32c_14, w32c_m1, w32c_m2, w32c_118, Int.reduceAdd, Int.reduceSub, Int.reduceMul, yput_s, yput_n, znl_n, znl_0, znl_1, znl_4, ysum_n, ysum_0, ysum_1, ysum_4, true_and, and_true, Nat.reduceAdd, Nat.reduceLeDiff, true_implies, eq_self, true_or, or_true, or_false, false_or, not_true_eq_false, not_false_eq_true, false_implies, implies_true, yset_s, yset_o, yset_d, ne_eq, Nat.reduceEqDiff, Int.reduceToNat, Int.reduceEq, Int.reduceLE, Int.reduceLT, Classical.not_not, Nat.reduceLT, ↓zvk_s, ↓zvk_n, ↓s_146_0, ↓s_146_1, ↓s_146_4, ↓s_146_5, ↓s_146_6, ↓s_146_7, ↓s_146_8, ↓s_146_11, ↓s_146_12, ↓s_146_13, ↓s_146_16, ↓s_146_17, ↓s_146_18, ↓s_146_19, ↓s_146_20, ↓s_146_23, ↓s_146_24, ↓s_146_25, ↓s_146_28, ↓s_146_29, ↓s_146_30, ↓s_146_31, ↓s_146_32, ↓s_146_35, ↓s_146_36, ↓s_146_37, ↓s_146_38, ↓s_146_39, ↓s_146_42, ↓s_146_43, ↓s_146_44, ↓s_146_45, ↓s_146_46, ↓s_146_49, ↓s_146_50, ↓s_146_51, ↓s_146_52, ↓s_146_53n, ↓s_146_53i, ↓s_146_53p, ↓g_146_54, ↓k_146_54, ↓s_146_55, ↓s_146_56, ↓s_146_59, ↓s_146_60, ↓s_146_63, ↓s_146_64, ↓s_146_65, ↓s_146_66, ↓s_146_69, ↓s_146_70, ↓s_146_71, ↓s_146_74, ↓s_146_75, ↓s_146_78, ↓s_146_79, ↓s_146_80, ↓s_146_83, ↓s_146_84, ↓s_146_85n, ↓s_146_85i, ↓s_146_85p, ↓s_146_88, ↓s_146_91, ↓s_146_92n, ↓s_146_92i, ↓s_146_92p, ↓g_146_93, ↓k_146_93, ↓s_146_94, ↓s_146_95, ↓s_146_98, ↓s_146_99, ↓s_146_102, ↓s_146_103, ↓s_146_104, ↓s_146_105, ↓s_146_108, ↓s_146_109, ↓s_146_110, ↓s_146_113, ↓s_146_114, ↓s_146_117, ↓s_146_118, ↓s_146_119, ↓s_146_122, ↓s_146_123, ↓s_146_124n, ↓s_146_124i, ↓s_146_124p, ↓s_146_127, ↓s_146_130, ↓s_146_131n, ↓s_146_131i, ↓s_146_131p, ↓g_146_132, ↓k_146_132, ↓s_146_133, ↓s_146_135, ↓s_146_138, ↓s_146_139, ↓s_146_142, ↓s_146_143, ↓s_146_144, ↓s_146_145n, ↓s_146_145i, ↓s_146_145p, ↓s_146_148, ↓s_146_151, ↓s_146_152n, ↓s_146_152i, ↓s_146_152p, ↓g_146_153, ↓k_146_153, ↓s_146_154, ↓s_146_156, ↓s_146_159, ↓s_146_160, ↓s_146_163, ↓s_146_164, ↓s_146_165, ↓s_146_166n, ↓s_146_166i, ↓s_146_166p, ↓s_146_169, ↓s_146_172, zar_97, zia_97, zln_97, zit_97, zar_126, zia_126, zln_126, zit_126, zar_100, zia_100, zln_100, zit_100, zar_113, zia_113, zln_113, zit_113, zar_118, zia_118, zln_118, zit_118, zar_119, zia_119, zln_119, zit_119, zar_120, zia_120, zln_120, zit_120, zar_121, zia_121, zln_121, zit_121, zar_122, zia_122, zln_122, zit_122, zar_123, zia_123, zln_123, zit_123, zar_124, zia_124, zln_124, zit_124, zar_125, zia_125, zln_125, zit_125, zio_95, zar_127, zia_127, zln_127, zit_127]
    exact ⟨fun _ => hN m hF (fun j hj => hV j (by omega)), fun h => absurd (show (3 : Int) ≤ w32 k by omega) h⟩
  | succ c ih =>
    intro k m hc h0 h1 hF hV
    have e1 : w32 (k + 1) = w32 k + 1 := by rw [w32_ad (by rw [w32c_1]; omega) (by rw [w32c_1]; omega), w32c_1]
    have ek : (((w32 k).toNat : Nat) : Int) = w32 k := by omega
    have go : ∀ x, w32 x = (if w32 k < w32 (b 97 3) then w32 (b 113 (w32 k).toNat) else 0) → zG E d xm_146 93 [some (1, 95), some (0, k + 1)] [] (yset m 124 (w32 k).toNat x) Q := fun x hx => ih (k + 1) _ (by omega) (by omega) (by omega) (fun i j hij => by
      rw [yset_a]
      split
      · next e => rw [if_neg (by omega)]; exact hF i j hij
      · exact hF i j hij) (fun j hj => by
      by_cases e : j = (w32 k).toNat
      · rw [e, yset_s, ek]
        exact hx
      · rw [yset_d e]
        exact hV j (by omega))
    have f97 : m 97 3 = b 97 3 := hF 97 3 (by omega)
    have f113 : ∀ j, m 113 j = b 113 j := fun j => hF 113 j (by omega)
    refine zgo_ok (n := 40) hE xmo_146 (cs := zc_146) ?_
    simp only [ynok_30, ynok_31, w32c_0, w32c_1, w32c_2, w32c_3, w32c_4, w32c_5, w32c_6, w32c_7, w32c_8, w32c_9, w32c_10, w32c_11, w32c_12, w32c_13, w32c_14, w32c_m1, w32c_m2, w32c_118, Int.reduceAdd, Int.reduceSub, Int.reduceMul, yput_s, yput_n, znl_n, znl_0, znl_1, znl_4, ysum_n, ysum_0, ysum_1, ysum_4, true_and, and_true, Nat.reduceAdd, Nat.reduceLeDiff, true_implies, eq_self, true_or, or_true, or_false, false_or, not_true_eq_false, not_false_eq_true, false_implies, implies_true, yset_s, yset_o, yset_d, ne_eq, Nat.reduceEqDiff, Int.reduceToNat, Int.reduceEq, Int.reduceLE, Int.reduceLT, Classical.not_not, Nat.reduceLT, ↓zvk_s, ↓zvk_n, ↓s_146_0, ↓s_146_1, ↓s_146_4, ↓s_146_5, ↓s_146_6, ↓s_146_7, ↓s_146_8, ↓s_146_11, ↓s_146_12, ↓s_146_13, ↓s_146_16, ↓s_146_17, ↓s_146_18, ↓s_146_19, ↓s_146_20, ↓s_146_23, ↓s_146_24, ↓s_146_25, ↓s_146_28, ↓s_146_29, ↓s_146_30, ↓s_146_31, ↓s_146_32, ↓s_146_35, ↓s_146_36, ↓s_146_37, ↓s_146_38, ↓s_146_39, ↓s_146_42, ↓s_146_43, ↓s_146_44, ↓s_146_45, ↓s_146_46, ↓s_146_49, ↓s_146_50, ↓s_146_51, ↓s_146_52, ↓s_146_53n, ↓s_146_53i, ↓s_146_53p, ↓g_146_54, ↓k_146_54, ↓s_146_55, ↓s_146_56, ↓s_146_59, ↓s_146_60, ↓s_146_63, ↓s_146_64, ↓s_146_65, ↓s_146_66, ↓s_146_69, ↓s_146_70, ↓s_146_71, ↓s_146_74, ↓s_146_75, ↓s_146_78, ↓s_146_79, ↓s_146_80, ↓s_146_83, ↓s_146_84, ↓s_146_85n, ↓s_146_85i, ↓s_146_85p, ↓s_146_88, ↓s_146_91, ↓s_146_92n, ↓s_146_92i, ↓s_146_92p, ↓g_146_93, ↓k_146_93, ↓s_146_94, ↓s_146_95, ↓s_146_98, ↓s_146_99, ↓s_146_102, ↓s_146_103, ↓s_146_104, ↓s_146_105, ↓s_146_108, ↓s_146_109, ↓s_146_110, ↓s_146_113, ↓s_146_114, ↓s_146_117, ↓s_146_118, ↓s_146_119, ↓s_146_122, ↓s_146_123, ↓s_146_124n, ↓s_146_124i, ↓s_146_124p, ↓s_146_127, ↓s_146_130, ↓s_146_131n, ↓s_146_131i, ↓s_146_131p, ↓g_146_132, ↓k_146_132, ↓s_146_133, ↓s_146_135, ↓s_146_138, ↓s_146_139, ↓s_146_142, ↓s_146_143, ↓s_146_144, ↓s_146_145n, ↓s_146_145i, ↓s_146_145p, ↓s_146_148, ↓s_146_151, ↓s_146_152n, ↓s_146_152i, ↓s_146_152p, ↓g_146_153, ↓k_146_153, ↓s_146_154, ↓s_146_156, ↓s_146_159, ↓s_146_160, ↓s_146_163, ↓s_146_164, ↓s_146_165, ↓s_146_166n, ↓s_146_166i, ↓s_146_166p, ↓s_146_169, ↓s_146_172, zar_97, zia_97, zln_97, zit_97, zar_126, zia_126, zln_126, zit_126, zar_100, zia_100, zln_100, zit_100, zar_113, zia_113, zln_113, zit_113, zar_118, zia_118, zln_118, zit_118, zar_119, zia_119, zln_119, zit_119, zar_120, zia_120, zln_120, zit_120, zar_121, zia_121, zln_121, zit_121, zar_122, zia_122, zln_122, zit_122, zar_123, zia_123, zln_123, zit_123, zar_124, zia_124, zln_124, zit_124, zar_125, zia_125, zln_125, zit_125, zio_95, zar_127, zia_127, zln_127, zit_127, f97, f113]
    refine ⟨fun h => absurd h (by omega), fun _ => ⟨by decide, fun h => ⟨⟨by omega, by omega⟩, go _ (by rw [if_neg (by omega)]; exact w32c_0)⟩, fun h => ⟨⟨by omega, by omega⟩, ⟨by omega, by omega⟩, go _ (by rw [if_pos (by omega)])⟩⟩⟩
theorem rb54 (hE : yEok E) (hN : ∀ m', (∀ i j : Nat, ¬ (i = 123 ∧ j < 3) → m' i j = b i j) → (∀ j : Nat, j < 3 → w32 (m' 123 j) = if (j : Int) < w32 (b 97 0) then w32 (b 100 j) else 0) → zG E d xm_146 93 [some (1, 95), some (0, 0)] [] m' Q) : ∀ (c : Nat) (k : Int) (m : yMem), (3 - w32 k).toNat = c → 0 ≤ w32 k → w32 k ≤ 3 → (∀ i j : Nat, ¬ (i = 123 ∧ j < 3) → m i j = b i j) → (∀ j : Nat, (j : Int) < w32 k → w32 (m 123 j) = if (j : Int) < w32 (b 97 0) then w32 (b 100 j) else 0) → zG E d xm_146 54 [some (1, 95), some (0, k)] [] m Q := by
  intro c
  induction c with
  | zero =>
    intro k m hc h0 h1 hF hV
    refine zgo_ok (n := 40) hE xmo_146 (cs := zc_146) ?_
    simp only [ynok_30, ynok_31, w32c_0, w32c_1, w32c_2, w32c_3, w32c_4, w32c_5, w32c_6, w32c_7, w32c_8, w32c_9, w32c_10, w32c_11, w32c_12, w32c_13, w32c_14, w32c_m1, w32c_m2, w32c_118, Int.reduceAdd, Int.reduceSub, Int.reduceMul, yput_s, yput_n, znl_n, znl_0, znl_1, znl_4, ysum_n, ysum_0, ysum_1, ysum_4, true_and, and_true, Nat.reduceAdd, Nat.reduceLeDiff, true_implies, eq_self, true_or, or_true, or_false, false_or, not_true_eq_false, not_false_eq_true, false_implies, implies_true, yset_s, yset_o, yset_d, ne_eq, Nat.reduceEqDiff, Int.reduceToNat, Int.reduceEq, Int.reduceLE, Int.reduceLT, Classical.not_not, Nat.reduceLT, ↓zvk_s, ↓zvk_n, ↓s_146_0, ↓s_146_1, ↓s_146_4, ↓s_146_5, ↓s_146_6, ↓s_146_7, ↓s_146_8, ↓s_146_11, ↓s_146_12, ↓s_146_13, ↓s_146_16, ↓s_146_17, ↓s_146_18, ↓s_146_19, ↓s_146_20, ↓s_146_23, ↓s_146_24, ↓s_146_25, ↓s_146_28, ↓s_146_29, ↓s_146_30, ↓s_146_31, ↓s_146_32, ↓s_146_35, ↓s_146_36, ↓s_146_37, ↓s_146_38, ↓s_146_39, ↓s_146_42, ↓s_146_43, ↓s_146_44, ↓s_146_45, ↓s_146_46, ↓s_146_49, ↓s_146_50, ↓s_146_51, ↓s_146_52, ↓s_146_53n, ↓s_146_53i, ↓s_146_53p, ↓g_146_54, ↓k_146_54, ↓s_146_55, ↓s_146_56, ↓s_146_59, ↓s_146_60, ↓s_146_63, ↓s_146_64, ↓s_146_65, ↓s_146_66, ↓s_146_69, ↓s_146_70, ↓s_146_71, ↓s_146_74, ↓s_146_75, ↓s_146_78, ↓s_146_79, ↓s_146_80, ↓s_146_83, ↓s_146_84, ↓s_146_85n, ↓s_146_85i, ↓s_146_85p, ↓s_146_88, ↓s_146_91, ↓s_146_92n, ↓s_146_92i, ↓s_146_92p, ↓g_146_93, ↓k_146_93, ↓s_146_94, ↓s_146_95, ↓s_146_98, ↓s_146_99, ↓s_146_102, ↓s_146_103, ↓s_146_104, ↓s_146_105, ↓s_146_108, ↓s_146_109, ↓s_146_110, ↓s_146_113, ↓s_146_114, ↓s_146_117, ↓s_146_118, ↓s_146_119, ↓s_146_122, ↓s_146_123, ↓s_146_124n, ↓s_146_124i, ↓s_146_124p, ↓s_146_127, ↓s_146_130, ↓s_146_131n, ↓s_146_131i, ↓s_146_131p, ↓g_146_132, ↓k_146_132, ↓s_146_133, ↓s_146_135, ↓s_146_138, ↓s_146_139, ↓s_146_142, ↓s_146_143, ↓s_146_144, ↓s_146_145n, ↓s_146_145i, ↓s_146_145p, ↓s_146_148, ↓s_146_151, ↓s_146_152n, ↓s_146_152i, ↓s_146_152p, ↓g_146_153, ↓k_146_153, ↓s_146_154, ↓s_146_156, ↓s_146_159, ↓s_146_160, ↓s_146_163, ↓s_146_164, ↓s_146_165, ↓s_146_166n, ↓s_146_166i, ↓s_146_166p, ↓s_146_169, ↓s_146_172, zar_97, zia_97, zln_97, zit_97, zar_126, zia_126, zln_126, zit_126, zar_100, zia_100, zln_100, zit_100, zar_113, zia_113, zln_113, zit_113, zar_118, zia_118, zln_118, zit_118, zar_119, zia_119, zln_119, zit_119, zar_120, zia_120, zln_120, zit_120, zar_121, zia_121, zln_121, zit_121, zar_122, zia_122, zln_122, zit_122, zar_123, zia_123, zln_123, zit_123, zar_124, zia_124, zln_124, zit_124, zar_125, zia_125, zln_125, zit_125, zio_95, zar_127, zia_127, zln_127, zit_127]
    exact ⟨fun _ => hN m hF (fun j hj => hV j (by omega)), fun h => absurd (show (3 : Int) ≤ w32 k by omega) h⟩
  | succ c ih =>
    intro k m hc h0 h1 hF hV
    have e1 : w32 (k + 1) = w32 k + 1 := by rw [w32_ad (by rw [w32c_1]; omega) (by rw [w32c_1]; omega), w32c_1]
    have ek : (((w32 k).toNat : Nat) : Int) = w32 k := by omega
    have go : ∀ x, w32 x = (if w32 k < w32 (b 97 0) then w32 (b 100 (w32 k).toNat) else 0) → zG E d xm_146 54 [some (1, 95), some (0, k + 1)] [] (yset m 123 (w32 k).toNat x) Q := fun x hx => ih (k + 1) _ (by omega) (by omega) (by omega) (fun i j hij => by
      rw [yset_a]
      split
      · next e => rw [if_neg (by omega)]; exact hF i j hij
      · exact hF i j hij) (fun j hj => by
      by_cases e : j = (w32 k).toNat
      · rw [e, yset_s, ek]
        exact hx
      · rw [yset_d e]
        exact hV j (by omega))
    have f97 : m 97 0 = b 97 0 := hF 97 0 (by omega)
    have f100 : ∀ j, m 100 j = b 100 j := fun j => hF 100 j (by omega)
    refine zgo_ok (n := 40) hE xmo_146 (cs := zc_146) ?_
    simp only [ynok_30, ynok_31, w32c_0, w32c_1, w32c_2, w32c_3, w32c_4, w32c_5, w32c_6, w32c_7, w32c_8, w32c_9, w32c_10, w32c_11, w32c_12, w32c_13, w32c_14, w32c_m1, w32c_m2, w32c_118, Int.reduceAdd, Int.reduceSub, Int.reduceMul, yput_s, yput_n, znl_n, znl_0, znl_1, znl_4, ysum_n, ysum_0, ysum_1, ysum_4, true_and, and_true, Nat.reduceAdd, Nat.reduceLeDiff, true_implies, eq_self, true_or, or_true, or_false, false_or, not_true_eq_false, not_false_eq_true, false_implies, implies_true, yset_s, yset_o, yset_d, ne_eq, Nat.reduceEqDiff, Int.reduceToNat, Int.reduceEq, Int.reduceLE, Int.reduceLT, Classical.not_not, Nat.reduceLT, ↓zvk_s, ↓zvk_n, ↓s_146_0, ↓s_146_1, ↓s_146_4, ↓s_146_5, ↓s_146_6, ↓s_146_7, ↓s_146_8, ↓s_146_11, ↓s_146_12, ↓s_146_13, ↓s_146_16, ↓s_146_17, ↓s_146_18, ↓s_146_19, ↓s_146_20, ↓s_146_23, ↓s_146_24, ↓s_146_25, ↓s_146_28, ↓s_146_29, ↓s_146_30, ↓s_146_31, ↓s_146_32, ↓s_146_35, ↓s_146_36, ↓s_146_37, ↓s_146_38, ↓s_146_39, ↓s_146_42, ↓s_146_43, ↓s_146_44, ↓s_146_45, ↓s_146_46, ↓s_146_49, ↓s_146_50, ↓s_146_51, ↓s_146_52, ↓s_146_53n, ↓s_146_53i, ↓s_146_53p, ↓g_146_54, ↓k_146_54, ↓s_146_55, ↓s_146_56, ↓s_146_59, ↓s_146_60, ↓s_146_63, ↓s_146_64, ↓s_146_65, ↓s_146_66, ↓s_146_69, ↓s_146_70, ↓s_146_71, ↓s_146_74, ↓s_146_75, ↓s_146_78, ↓s_146_79, ↓s_146_80, ↓s_146_83, ↓s_146_84, ↓s_146_85n, ↓s_146_85i, ↓s_146_85p, ↓s_146_88, ↓s_146_91, ↓s_146_92n, ↓s_146_92i, ↓s_146_92p, ↓g_146_93, ↓k_146_93, ↓s_146_94, ↓s_146_95, ↓s_146_98, ↓s_146_99, ↓s_146_102, ↓s_146_103, ↓s_146_104, ↓s_146_105, ↓s_146_108, ↓s_146_109, ↓s_146_110, ↓s_146_113, ↓s_146_114, ↓s_146_117, ↓s_146_118, ↓s_146_119, ↓s_146_122, ↓s_146_123, ↓s_146_124n, ↓s_146_124i, ↓s_146_124p, ↓s_146_127, ↓s_146_130, ↓s_146_131n, ↓s_146_131i, ↓s_146_131p, ↓g_146_132, ↓k_146_132, ↓s_146_133, ↓s_146_135, ↓s_146_138, ↓s_146_139, ↓s_146_142, ↓s_146_143, ↓s_146_144, ↓s_146_145n, ↓s_146_145i, ↓s_146_145p, ↓s_146_148, ↓s_146_151, ↓s_146_152n, ↓s_146_152i, ↓s_146_152p, ↓g_146_153, ↓k_146_153, ↓s_146_154, ↓s_146_156, ↓s_146_159, ↓s_146_160, ↓s_146_163, ↓s_146_164, ↓s_146_165, ↓s_146_166n, ↓s_146_166i, ↓s_146_166p, ↓s_146_169, ↓s_146_172, zar_97, zia_97, zln_97, zit_97, zar_126, zia_126, zln_126, zit_126, zar_100, zia_100, zln_100, zit_100, zar_113, zia_113, zln_113, zit_113, zar_118, zia_118, zln_118, zit_118, zar_119, zia_119, zln_119, zit_119, zar_120, zia_120, zln_120, zit_120, zar_121, zia_121, zln_121, zit_121, zar_122, zia_122, zln_122, zit_122, zar_123, zia_123, zln_123, zit_123, zar_124, zia_124, zln_124, zit_124, zar_125, zia_125, zln_125, zit_125, zio_95, zar_127, zia_127, zln_127, zit_127, f97, f100]
    refine ⟨fun h => absurd h (by omega), fun _ => ⟨by decide, fun h => ⟨⟨by omega, by omega⟩, go _ (by rw [if_neg (by omega)]; exact w32c_0)⟩, fun h => ⟨⟨by omega, by omega⟩, ⟨by omega, by omega⟩, go _ (by rw [if_pos (by omega)])⟩⟩⟩
theorem r_begins (hE : yEok E) {D : Nat} (hD : 1 ≤ D) (hQ : ∀ m, (∀ i j : Nat, ¬ (118 ≤ i ∧ i ≤ 127) → m i j = b i j) → rBg b m → Q none m) : yCon E D xm_146 [(1, 95)] b Q := by
  obtain ⟨d, rfl⟩ := Nat.exists_eq_add_of_le' hD
  refine e_146 ?_
  refine zvc_ok hE 90 zc_146 _ _ _ _ _ _ _ xmo_146 ?_
  simp only [ynok_30, ynok_31, w32c_0, w32c_1, w32c_2, w32c_3, w32c_4, w32c_5, w32c_6, w32c_7, w32c_8, w32c_9, w32c_10, w32c_11, w32c_12, w32c_13, w32c_14, w32c_m1, w32c_m2, w32c_118, Int.reduceAdd, Int.reduceSub, Int.reduceMul, yput_s, yput_n, znl_n, znl_0, znl_1, znl_4, ysum_n, ysum_0, ysum_1, ysum_4, true_and, and_true, Nat.reduceAdd, Nat.reduceLeDiff, true_implies, eq_self, true_or, or_true, or_false, false_or, not_true_eq_false, not_false_eq_true, false_implies, implies_true, yset_s, yset_o, yset_d, ne_eq, Nat.reduceEqDiff, Int.reduceToNat, Int.reduceEq, Int.reduceLE, Int.reduceLT, Classical.not_not, Nat.reduceLT, ↓zvk_s, ↓zvk_n, ↓s_146_0, ↓s_146_1, ↓s_146_4, ↓s_146_5, ↓s_146_6, ↓s_146_7, ↓s_146_8, ↓s_146_11, ↓s_146_12, ↓s_146_13, ↓s_146_16, ↓s_146_17, ↓s_146_18, ↓s_146_19, ↓s_146_20, ↓s_146_23, ↓s_146_24, ↓s_146_25, ↓s_146_28, ↓s_146_29, ↓s_146_30, ↓s_146_31, ↓s_146_32, ↓s_146_35, ↓s_146_36, ↓s_146_37, ↓s_146_38, ↓s_146_39, ↓s_146_42, ↓s_146_43, ↓s_146_44, ↓s_146_45, ↓s_146_46, ↓s_146_49, ↓s_146_50, ↓s_146_51, ↓s_146_52, ↓s_146_53n, ↓s_146_53i, ↓s_146_53p, ↓g_146_54, ↓k_146_54, ↓s_146_55, ↓s_146_56, ↓s_146_59, ↓s_146_60, ↓s_146_63, ↓s_146_64, ↓s_146_65, ↓s_146_66, ↓s_146_69, ↓s_146_70, ↓s_146_71, ↓s_146_74, ↓s_146_75, ↓s_146_78, ↓s_146_79, ↓s_146_80, ↓s_146_83, ↓s_146_84, ↓s_146_85n, ↓s_146_85i, ↓s_146_85p, ↓s_146_88, ↓s_146_91, ↓s_146_92n, ↓s_146_92i, ↓s_146_92p, ↓g_146_93, ↓k_146_93, ↓s_146_94, ↓s_146_95, ↓s_146_98, ↓s_146_99, ↓s_146_102, ↓s_146_103, ↓s_146_104, ↓s_146_105, ↓s_146_108, ↓s_146_109, ↓s_146_110, ↓s_146_113, ↓s_146_114, ↓s_146_117, ↓s_146_118, ↓s_146_119, ↓s_146_122, ↓s_146_123, ↓s_146_124n, ↓s_146_124i, ↓s_146_124p, ↓s_146_127, ↓s_146_130, ↓s_146_131n, ↓s_146_131i, ↓s_146_131p, ↓g_146_132, ↓k_146_132, ↓s_146_133, ↓s_146_135, ↓s_146_138, ↓s_146_139, ↓s_146_142, ↓s_146_143, ↓s_146_144, ↓s_146_145n, ↓s_146_145i, ↓s_146_145p, ↓s_146_148, ↓s_146_151, ↓s_146_152n, ↓s_146_152i, ↓s_146_152p, ↓g_146_153, ↓k_146_153, ↓s_146_154, ↓s_146_156, ↓s_146_159, ↓s_146_160, ↓s_146_163, ↓s_146_164, ↓s_146_165, ↓s_146_166n, ↓s_146_166i, ↓s_146_166p, ↓s_146_169, ↓s_146_172, zar_97, zia_97, zln_97, zit_97, zar_126, zia_126, zln_126, zit_126, zar_100, zia_100, zln_100, zit_100, zar_113, zia_113, zln_113, zit_113, zar_118, zia_118, zln_118, zit_118, zar_119, zia_119, zln_119, zit_119, zar_120, zia_120, zln_120, zit_120, zar_121, zia_121, zln_121, zit_121, zar_122, zia_122, zln_122, zit_122, zar_123, zia_123, zln_123, zit_123, zar_124, zia_124, zln_124, zit_124, zar_125, zia_125, zln_125, zit_125, zio_95, zar_127, zia_127, zln_127, zit_127]
  have key : zG E d xm_146 54 [some (1, 95), some (0, 0)] [] (yset (yset (yset (yset (yset (yset b 118 0 0) 119 0 (b 97 4)) 120 0 (b 97 5)) 121 0 0) 122 0 0) 127 0 0) Q := by
    refine rb54 hE (fun m1 F1 V1 => ?_) 3 0 _ (by decide) (by decide) (by decide) (fun _ _ _ => rfl) (fun j hj => absurd hj (by rw [w32c_0]; omega))
    refine rb93 hE (fun m2 F2 V2 => ?_) 3 0 m1 (by decide) (by decide) (by decide) (fun _ _ _ => rfl) (fun j hj => absurd hj (by rw [w32c_0]; omega))
    refine rb132 hE (fun m3 F3 V3 => ?_) 6 0 m2 (by decide) (by decide) (by decide) (fun _ _ _ => rfl) (fun j hj => absurd hj (by rw [w32c_0]; omega))
    refine rb153 hE (fun m4 F4 V4 => ?_) 12 0 m3 (by decide) (by decide) (by decide) (fun _ _ _ => rfl) (fun j hj => absurd hj (by rw [w32c_0]; omega))
    have up : ∀ i j : Nat, ¬ (i = 123 ∧ j < 3) → ¬ (i = 124 ∧ j < 3) → ¬ (i = 125 ∧ j < 6) → ¬ (i = 126 ∧ j < 12) → m4 i j = yset (yset (yset (yset (yset (yset b 118 0 0) 119 0 (b 97 4)) 120 0 (b 97 5)) 121 0 0) 122 0 0) 127 0 0 i j := fun i j a1 a2 a3 a4 => by rw [F4 i j a4, F3 i j a3, F2 i j a2, F1 i j a1]
    have ne : ∀ i j : Nat, ¬ (118 ≤ i ∧ i ≤ 122 ∧ j = 0) → ¬ (i = 127 ∧ j = 0) → yset (yset (yset (yset (yset (yset b 118 0 0) 119 0 (b 97 4)) 120 0 (b 97 5)) 121 0 0) 122 0 0) 127 0 0 i j = b i j := fun i j a1 a2 => by
      simp only [yset_a]
      repeat' split
      all_goals first | rfl | omega
    have fr : ∀ i j : Nat, ¬ (118 ≤ i ∧ i ≤ 127) → m4 i j = b i j := fun i j hi => by rw [up i j (by omega) (by omega) (by omega) (by omega), ne i j (by omega) (by omega)]
    refine hQ m4 fr ⟨⟨?_, ?_, ?_, ?_, ?_, ?_⟩, fun j hj => ?_, fun j hj => ?_, fun j hj => ?_, fun j hj => ?_, fun i j hij => ?_⟩
    · rw [up 118 0 (by omega) (by omega) (by omega) (by omega)]
      exact w32c_0
    · rw [up 119 0 (by omega) (by omega) (by omega) (by omega), fr 97 4 (by omega)]
      rfl
    · rw [up 120 0 (by omega) (by omega) (by omega) (by omega), fr 97 5 (by omega)]
      rfl
    · rw [up 121 0 (by omega) (by omega) (by omega) (by omega)]
      exact w32c_0
    · rw [up 122 0 (by omega) (by omega) (by omega) (by omega)]
      exact w32c_0
    · rw [up 127 0 (by omega) (by omega) (by omega) (by omega)]
      exact w32c_0
    · rw [F4 123 j (by omega), F3 123 j (by omega), F2 123 j (by omega), V1 j hj, fr 97 0 (by omega), fr 100 j (by omega), ne 97 0 (by omega) (by omega), ne 100 j (by omega) (by omega)]
    · rw [F4 124 j (by omega), F3 124 j (by omega), V2 j hj, fr 97 3 (by omega), fr 113 j (by omega), F1 97 3 (by omega), F1 113 j (by omega), ne 97 3 (by omega) (by omega), ne 113 j (by omega) (by omega)]
    · rw [F4 125 j (by omega), V3 j hj]
      exact w32c_0
    · rw [V4 j hj]
      exact w32c_m1
    · rw [up i j (by omega) (by omega) (by omega) (by omega), ne i j (by omega) (by omega)]
  exact ⟨by decide, by decide, by decide, by decide, by decide, by decide, by decide, by decide, key⟩
end RB
end
section
/-! TWO CONTRACTS of one call speak of one run -/
def yRl (i j : Nat) : Bool := match ysh[i]? with
  | some (.inl (0, n, _)) => Nat.blt j n
  | some (.inl (1, n, _)) => Nat.blt j n
  | some (.inl (3, n, _)) => Nat.blt j n
  | some (.inr (_, fs)) => (match fs[j]? with
    | some (0, _) => true
    | _ => false)
  | _ => false
/-- alike in all slots that there are -/
def yAl (m m2 : yMem) : Prop := ∀ i j, yRl i j = true → w32 (m i j) = w32 (m2 i j)
theorem w32_iI {x y : Int} (h : iI x = iI y) : w32 x = w32 y := by
  show (iI x).toInt = (iI y).toInt
  rw [h]
theorem ysh_N : (List.range 144).all (fun i => match ysh[i]? with
  | some (.inr (ci, fs)) => (match vwCl[ci]? with
    | some r => Nat.ble fs.length r.2.2
    | none => true)
  | _ => true) = true := by decide +kernel
theorem ysh_l : ysh.length = 144 := by decide +kernel
theorem yAl_of {E : yE} {m m2 : yMem} {H : Heap} (h1 : va_P (yD E) vwCl (yW E m) H) (h2 : va_P (yD E) vwCl (yW E m2) H) : yAl m m2 := by
  intro i j hr
  unfold yRl at hr
  have g : ∀ (mm : yMem) (S : yS), ysh[i]? = some S → va_P (yD E) vwCl (yW E mm) H → va_at (yD E) vwCl (yb E + i, yce E S (mm i)) H := fun mm S hs hP => by
    have := hP i (yb E + (0 + i), yce E S (mm (0 + i))) (by rw [ycx_get, hs]; rfl)
    rw [Nat.zero_add] at this
    exact this
  have ar : ∀ (n : Nat) (c : ClassId), Nat.blt j n = true → H[yb E + i]? = some (arrV c n (fun j => .int (iI (m i j)))) → H[yb E + i]? = some (arrV c n (fun j => .int (iI (m2 i j)))) → w32 (m i j) = w32 (m2 i j) := fun n c hj a1 a2 => by
    have hj : j < n := Nat.le_of_ble_eq_true hj
    have e := Option.some.inj (a1.symm.trans a2)
    have e2 : (arrV c n (fun j => .int (iI (m i j)))).slots[j]? = (arrV c n (fun j => .int (iI (m2 i j)))).slots[j]? := by rw [e]
    rw [arrV_read _ _ hj, arrV_read _ _ hj] at e2
    exact w32_iI (Value.int.inj (Option.some.inj e2))
  cases hs : ysh[i]? with
  | none => rw [hs] at hr; cases hr
  | some S =>
    rw [hs] at hr
    have a1 := g m S hs h1
    have a2 := g m2 S hs h2
    cases S with
    | inl q =>
      obtain ⟨k, n, rs⟩ := q
      match k, hr, a1, a2 with
      | 0, hr, a1, a2 => exact ar n _ hr a1 a2
      | 1, hr, a1, a2 => exact ar n _ hr a1 a2
      | 2, hr, _, _ => cases hr
      | 3, hr, a1, a2 => exact ar n _ hr a1 a2
      | 4, hr, _, _ => cases hr
      | k + 5, hr, _, _ => cases hr
    | inr q =>
      obtain ⟨ci, fs⟩ := q
      obtain ⟨r, k1, cell, c1, _, _, c4⟩ := a1
      obtain ⟨r', k1', cell', c1', _, _, c4'⟩ := a2
      have er : r = r' := Option.some.inj (k1.symm.trans k1')
      subst er
      have ec : cell = cell' := Option.some.inj (c1.symm.trans c1')
      subst ec
      have hi : i < 144 := by rw [← ysh_l]; exact (List.getElem?_eq_some_iff.mp hs).1
      have hN := List.all_eq_true.mp ysh_N i (List.mem_range.mpr hi)
      rw [hs] at hN
      dsimp only at hN k1
      rw [k1] at hN
      have hN : fs.length ≤ r.2.2 := Nat.le_of_ble_eq_true hN
      have hr : (match fs[j]? with
        | some (0, _) => true
        | _ => false) = true := hr
      have vv : ∀ f : Nat → Int, (∃ x, fs[j]? = some (0, x)) → vp_V (yfs E 0 fs f) j = .int (iI (f j)) := fun f hx => by
        obtain ⟨x, hx⟩ := hx
        unfold vp_V
        rw [List.getD_eq_getElem?_getD, yfs_get, hx, Nat.zero_add]
        rfl
      have hx : ∃ x, fs[j]? = some (0, x) := by
        split at hr
        · next x hx => exact ⟨x, hx⟩
        · cases hr
      have hj : j < r.2.2 := by
        obtain ⟨x, hx⟩ := hx
        exact Nat.lt_of_lt_of_le (List.getElem?_eq_some_iff.mp hx).1 hN
      have e1 := c4 j hj
      have e2 := c4' j hj
      rw [vv _ hx] at e1 e2
      exact w32_iI (Value.int.inj (Option.some.inj (e1.symm.trans e2)))
theorem en_len {s : State} {below : List Frame} {v : Option Value} (h : Ended s below (.returned v)) : s.frames.length = below.length := by
  unfold Ended at h
  split at h
  · next heq => cases heq
  · split at h
    · obtain ⟨c, i, len, _, _, h⟩ := h
      rw [h]
      rfl
    · rw [h]
      rfl
    · rw [h]
      rfl
    · rw [h.2]
theorem wi_len {s : State} {below : List Frame} (h : Within s below) : below.length < s.frames.length := by
  obtain ⟨above, h1, h2, _⟩ := h
  rw [h1, List.length_append]
  have := List.length_pos_iff.mpr h2
  omega
theorem tl_inj {α : Type} {a b : Option α} (h : a.toList = b.toList) : a = b := by
  cases a <;> cases b <;> simp_all [Option.toList]
theorem en_u {s : State} {below : List Frame} {v w : Option Value} (h : Ended s below (.returned v)) (h' : Ended s below (.returned w)) : v = w := by
  unfold Ended at h h'
  dsimp only at h h'
  split at h
  · obtain ⟨c, i, len, _, _, h⟩ := h
    obtain ⟨c', i', len', _, _, h'⟩ := h'
    have e := h.symm.trans h'
    have e2 := congrArg (fun fs : List Frame => match fs with
      | .java f :: _ => f.stack
      | _ => []) e
    exact tl_inj (List.append_cancel_right e2)
  · have e := h.symm.trans h'
    have e2 := congrArg (fun fs : List Frame => match fs with
      | .native f :: _ => f.answer
      | _ => none) e
    exact Outcome.returned.inj (Option.some.inj e2)
  · have e := h.symm.trans h'
    have e2 := congrArg (fun fs : List Frame => match fs with
      | .proc f :: _ => f.answer
      | _ => none) e
    exact Outcome.returned.inj (Option.some.inj e2)
  · split at h' <;> simp_all
theorem yCon_and {E : yE} {d : Nat} {M : xM} {avs : List yV} {mem : yMem} {P1 P2 : Option yV → yMem → Prop} (h1 : yCon E d M avs mem P1) (h2 : yCon E d M avs mem P2) : yCon E d M avs mem (fun r m => P1 r m ∧ ∃ r2 m2, P2 r2 m2 ∧ yAl m m2 ∧ r.map (ydv E) = r2.map (ydv E)) := by
  intro sz hb p e ha hc hk s m args below hf happ hP hK
  obtain ⟨n, o, a1, a2, a3, ⟨r, mem', k1, ko, kP, kF⟩, a5⟩ := h1 sz hb p e ha hc hk s m args below hf happ hP hK
  obtain ⟨n', o', b1, b2, b3, ⟨r2, mem2, l1, lo, lP, lF⟩, b5⟩ := h2 sz hb p e ha hc hk s m args below hf happ hP hK
  subst ko
  subst lo
  have en : n = n' := by
    rcases Nat.lt_trichotomy n n' with h | h | h
    · have := wi_len (b1 n h)
      have := en_len a3
      omega
    · exact h
    · have := wi_len (a1 n' h)
      have := en_len b3
      omega
  subst en
  exact ⟨n, _, a1, a2, a3, ⟨r, mem', ⟨k1, r2, mem2, l1, yAl_of kP lP, en_u a3 b3⟩, rfl, kP, kF⟩, a5⟩
end
section
/-- how long the reference's world arrays are -/
def wln (i : Nat) : Nat := [2, 2, 2, 2, 2, 6, 6, 12, 24, 2, 24, 24].getD (i - 118) 0
theorem wsl118 : ∀ i j, 118 ≤ i → i ≤ 129 → j < wln i → yRl i j = true := by
  intro i j h1 h2 hj
  have hi : i = 118 ∨ i = 119 ∨ i = 120 ∨ i = 121 ∨ i = 122 ∨ i = 123 ∨ i = 124 ∨ i = 125 ∨ i = 126 ∨ i = 127 ∨ i = 128 ∨ i = 129 := by omega
  rcases hi with rfl | rfl | rfl | rfl | rfl | rfl | rfl | rfl | rfl | rfl | rfl | rfl
  · exact (by decide : ∀ j, j < 2 → yRl 118 j = true) j hj
  · exact (by decide : ∀ j, j < 2 → yRl 119 j = true) j hj
  · exact (by decide : ∀ j, j < 2 → yRl 120 j = true) j hj
  · exact (by decide : ∀ j, j < 2 → yRl 121 j = true) j hj
  · exact (by decide : ∀ j, j < 2 → yRl 122 j = true) j hj
  · exact (by decide : ∀ j, j < 6 → yRl 123 j = true) j hj
  · exact (by decide : ∀ j, j < 6 → yRl 124 j = true) j hj
  · exact (by decide : ∀ j, j < 12 → yRl 125 j = true) j hj
  · exact (by decide : ∀ j, j < 24 → yRl 126 j = true) j hj
  · exact (by decide : ∀ j, j < 2 → yRl 127 j = true) j hj
  · exact (by decide : ∀ j, j < 24 → yRl 128 j = true) j hj
  · exact (by decide : ∀ j, j < 24 → yRl 129 j = true) j hj
/-- the same as rBg, as far as the slots go that there are -/
def rBw (b m : yMem) : Prop := (w32 (m 118 0) = 0 ∧ w32 (m 119 0) = w32 (m 97 4) ∧ w32 (m 120 0) = w32 (m 97 5) ∧ w32 (m 121 0) = 0 ∧ w32 (m 122 0) = 0 ∧ w32 (m 127 0) = 0) ∧ (∀ j : Nat, j < 3 → w32 (m 123 j) = if (j : Int) < w32 (m 97 0) then w32 (m 100 j) else 0) ∧ (∀ j : Nat, j < 3 → w32 (m 124 j) = if (j : Int) < w32 (m 97 3) then w32 (m 113 j) else 0) ∧ (∀ j : Nat, j < 6 → w32 (m 125 j) = 0) ∧ (∀ j : Nat, j < 12 → w32 (m 126 j) = -1) ∧ ∀ i j : Nat, (118 ≤ i ∧ i ≤ 122 ∧ j ≠ 0) ∨ (i = 123 ∧ 3 ≤ j) ∨ (i = 124 ∧ 3 ≤ j) ∨ (i = 125 ∧ 6 ≤ j) ∨ (i = 126 ∧ 12 ≤ j) ∨ (i = 127 ∧ j ≠ 0) ∨ i = 128 ∨ i = 129 → j < wln i → w32 (m i j) = w32 (b i j)
theorem rBw_al {b b' m m2 : yMem} (h : rBg b' m2) (al : yAl m m2) (hb : ∀ i j, 118 ≤ i → i ≤ 129 → b' i j = b i j) : rBw b m := by
  obtain ⟨⟨a1, a2, a3, a4, a5, a6⟩, a7, a8, a9, a10, a11⟩ := h
  have w : ∀ i j, 118 ≤ i → i ≤ 129 → j < wln i → w32 (m i j) = w32 (m2 i j) := fun i j h1 h2 h3 => al i j (wsl118 i j h1 h2 h3)
  have h97 : ∀ j, j < 14 → w32 (m 97 j) = w32 (m2 97 j) := fun j hj => al 97 j ((by decide : ∀ j, j < 14 → yRl 97 j = true) j hj)
  refine ⟨⟨?_, ?_, ?_, ?_, ?_, ?_⟩, fun j hj => ?_, fun j hj => ?_, fun j hj => ?_, fun j hj => ?_, fun i j hij hj => ?_⟩
  · rw [w 118 0 (by decide) (by decide) (by decide)]; exact a1
  · rw [w 119 0 (by decide) (by decide) (by decide), h97 4 (by decide)]; exact a2
  · rw [w 120 0 (by decide) (by decide) (by decide), h97 5 (by decide)]; exact a3
  · rw [w 121 0 (by decide) (by decide) (by decide)]; exact a4
  · rw [w 122 0 (by decide) (by decide) (by decide)]; exact a5
  · rw [w 127 0 (by decide) (by decide) (by decide)]; exact a6
  · rw [w 123 j (by decide) (by decide) (show j < 6 by omega), h97 0 (by decide), al 100 j ((by decide : ∀ j, j < 6 → yRl 100 j = true) j (by omega))]; exact a7 j hj
  · rw [w 124 j (by decide) (by decide) (show j < 6 by omega), h97 3 (by decide), al 113 j ((by decide : ∀ j, j < 6 → yRl 113 j = true) j (by omega))]; exact a8 j hj
  · rw [w 125 j (by decide) (by decide) (show j < 12 by omega)]; exact a9 j hj
  · rw [w 126 j (by decide) (by decide) (show j < 24 by omega)]; exact a10 j hj
  · rw [w i j (by omega) (by omega) hj, a11 i j hij, hb i j (by omega) (by omega)]
end
