section
theorem sTl_hd {ch : Nat → Int} {n a k p e : Nat} {v : Int} (ha : a ≤ n) (h : sTk ch n a k p v e) : ∃ l, sTl ch n l a ∧ sHd l = (k, p, v) ∧ sCu ch n l e := by
  obtain ⟨l, h1, _⟩ := sTl_ex ch n (n - a) a rfl ha
  obtain ⟨h2, h3⟩ := sTl_cu h1 h
  exact ⟨l, h1, h2, h3⟩
section CX
variable {E : yE} {mem b m : yMem} {Q : Option yV → yMem → Prop} {ch : Nat → Int} {n : Nat} {N : Int}
theorem g_start (hE : yEok E) {D : Nat} (hD : 6 ≤ D) (hB : cBy mem ch) (hW : cWd mem) (hN : w32 N = (n : Int)) (hn : n ≤ 800) (hQ : ∀ m l, aFrm [(55, 0)] mem m → sTl ch n l 0 → cTk ch n m (.inr l) → Q none m) : yCon E D xm_132 [(1, 55), (0, N)] mem Q := by
  obtain ⟨d, rfl⟩ := Nat.exists_eq_add_of_le' hD
  refine e_132 ?_
  refine zvc_ok hE 60 [] _ _ _ _ _ _ _ xmo_132 ?_
  simp only [ynok_30, ynok_31, w32c_0, w32c_1, w32c_2, w32c_3, w32c_4, w32c_5, w32c_6, w32c_7, w32c_8, w32c_9, w32c_10, w32c_11, w32c_12, w32c_13, w32c_14, w32c_m1, w32c_m2, w32c_118, Int.reduceAdd, Int.reduceSub, Int.reduceMul, yput_s, yput_n, znl_n, znl_0, znl_1, znl_4, ysum_n, ysum_0, ysum_1, ysum_4, true_and, and_true, Nat.reduceAdd, Nat.reduceLeDiff, true_implies, eq_self, true_or, or_true, or_false, false_or, not_true_eq_false, not_false_eq_true, false_implies, implies_true, yset_s, yset_o, yset_d, ne_eq, Nat.reduceEqDiff, Int.reduceToNat, Int.reduceEq, Int.reduceLE, Int.reduceLT, Classical.not_not, Nat.reduceLT, ↓zvk_s, ↓zvk_n, ↓s_132_0, ↓s_132_1, ↓s_132_2, ↓s_132_3, ↓s_132_6, ↓s_132_7, ↓s_132_10, ↓s_132_13, ↓s_132_14, ↓s_132_15, ↓s_132_18, ↓s_132_19, ↓s_132_20, ↓s_132_23, ↓s_132_24, ↓s_132_25, ↓s_132_28, ↓s_132_29, ↓s_132_32, zar_1, zia_1, zln_1, zit_1, zio_55]
  have ez : zmni N ((800 : Nat) : Int) = N := by
    unfold zmni
    rw [if_neg (by rw [show w32 ((800 : Nat) : Int) = 800 by decide]; (first | exact Nat.le_of_ble_eq_true rfl | exact (fun h => absurd h.1 (by decide)) | omega))]
  rw [ez]
  have e2 : w32 (yset (yset (yset (yset mem 55 2 N) 55 3 0) 55 7 0) 55 8 (-1) 55 2) = (n : Int) := by rw [yset_d (by decide), yset_d (by decide), yset_d (by decide), yset_s]; exact hN
  have e3 : w32 (yset (yset (yset (yset mem 55 2 N) 55 3 0) 55 7 0) 55 8 (-1) 55 3) = 0 := by rw [yset_d (by decide), yset_d (by decide), yset_s]; exact w32c_0
  have e7 : w32 (yset (yset (yset (yset mem 55 2 N) 55 3 0) 55 7 0) 55 8 (-1) 55 7) = 0 := by rw [yset_d (by decide), yset_s]; exact w32c_0
  have e8 : w32 (yset (yset (yset (yset mem 55 2 N) 55 3 0) 55 7 0) 55 8 (-1) 55 8) = -1 := by rw [yset_s]; exact w32c_m1
  have F0 : aFrm [(55, 0)] mem (yset (yset (yset (yset mem 55 2 N) 55 3 0) 55 7 0) 55 8 (-1)) := aFrm_set (aFrm_set (aFrm_set (aFrm_set aFrm_rf rfl) rfl) rfl) rfl
  revert e2 e3 e7 e8 F0
  generalize yset (yset (yset (yset mem 55 2 N) 55 3 0) 55 7 0) 55 8 (-1) = m1
  intro e2 e3 e7 e8 F0
  have B1 : cBy m1 ch := fun j => by rw [F0 1 j rfl]; exact hB j
  have W1 : cWd m1 := fun i hi => by rw [F0 56 i rfl]; exact hW i hi
  refine f_next hE (by (first | exact Nat.le_of_ble_eq_true rfl | exact (fun h => absurd h.1 (by decide)) | omega)) (by (first | exact Nat.le_of_ble_eq_true rfl | exact (fun h => absurd h.1 (by decide)) | omega)) (by (first | exact Nat.le_of_ble_eq_true rfl | exact (fun h => absurd h.1 (by decide)) | omega)) (by (first | exact Nat.le_of_ble_eq_true rfl | exact (fun h => absurd h.1 (by decide)) | omega)) B1 W1 e7 (fun m2 k p v e F2 ht h3 h5 h4 h6 => ?_)
  refine zgk_n hE xmo_132 60 [] ?_
  simp only [ynok_30, ynok_31, w32c_0, w32c_1, w32c_2, w32c_3, w32c_4, w32c_5, w32c_6, w32c_7, w32c_8, w32c_9, w32c_10, w32c_11, w32c_12, w32c_13, w32c_14, w32c_m1, w32c_m2, w32c_118, Int.reduceAdd, Int.reduceSub, Int.reduceMul, yput_s, yput_n, znl_n, znl_0, znl_1, znl_4, ysum_n, ysum_0, ysum_1, ysum_4, true_and, and_true, Nat.reduceAdd, Nat.reduceLeDiff, true_implies, eq_self, true_or, or_true, or_false, false_or, not_true_eq_false, not_false_eq_true, false_implies, implies_true, yset_s, yset_o, yset_d, ne_eq, Nat.reduceEqDiff, Int.reduceToNat, Int.reduceEq, Int.reduceLE, Int.reduceLT, Classical.not_not, Nat.reduceLT, ↓zvk_s, ↓zvk_n, ↓s_132_0, ↓s_132_1, ↓s_132_2, ↓s_132_3, ↓s_132_6, ↓s_132_7, ↓s_132_10, ↓s_132_13, ↓s_132_14, ↓s_132_15, ↓s_132_18, ↓s_132_19, ↓s_132_20, ↓s_132_23, ↓s_132_24, ↓s_132_25, ↓s_132_28, ↓s_132_29, ↓s_132_32, zar_1, zia_1, zln_1, zit_1, zio_55]
  have ec : cen m1 = n := by show (w32 (m1 55 2)).toNat = n; rw [e2]; exact Int.toNat_natCast _
  have ea : cat m1 = 0 := by show (w32 (m1 55 3)).toNat = 0; rw [e3]; rfl
  rw [ec, ea] at ht
  obtain ⟨l, l1, l2, l3⟩ := sTl_hd (Nat.zero_le _) ht
  refine hQ m2 l (aFrm_tt F0 (aFrm_w F2 (by decide))) l1 ⟨by rw [F2 55 2 rfl]; exact e2, hn, fun j => by rw [F2 1 j rfl]; exact B1 j, fun i hi => by rw [F2 56 i rfl]; exact W1 i hi, by rw [F2 55 7 rfl]; exact e7, e, ⟨h3, by rw [F2 55 8 rfl]; exact e8⟩, l3, ?_, ?_, ?_⟩
  · rw [l2]; exact h5
  · rw [l2]; exact h4
  · rw [l2]; exact h6
end CX
end
section
def zc_263 : List Nat := [5]
theorem s_263_0 {E : yE} {n d : Nat} {mem : yMem} {Post : Option yV → yMem → Prop} {st : List yV} {r0 r1 r2 r3 : Option yV} : zvc E (n + 1) zc_263 d xm_263 0 [r0, r1, r2, r3] (st) mem Post = (zvc E n zc_263 d xm_263 1 [r0, r1, r2, r3] ((0, 0) :: st) mem Post) := zrf rfl
theorem s_263_1n {E : yE} {n d : Nat} {mem : yMem} {Post : Option yV → yMem → Prop} {st : List yV} {r0 r2 r3 : Option yV} {x : Int} : zvc E (n + 1) zc_263 d xm_263 1 [r0, none, r2, r3] ((0, x) :: st) mem Post = (zvc E n zc_263 d xm_263 2 [r0, none, some (0, x), r3] (st) mem Post) := zrf rfl
theorem s_263_1i {E : yE} {n d : Nat} {mem : yMem} {Post : Option yV → yMem → Prop} {st : List yV} {r0 r2 r3 : Option yV} {x w : Int} : zvc E (n + 1) zc_263 d xm_263 1 [r0, some (0, w), r2, r3] ((0, x) :: st) mem Post = (zvc E n zc_263 d xm_263 2 [r0, some (0, w), some (0, x), r3] (st) mem Post) := zrf rfl
theorem s_263_1p {E : yE} {n d : Nat} {mem : yMem} {Post : Option yV → yMem → Prop} {st : List yV} {r0 r2 r3 : Option yV} {x w : Int} : zvc E (n + 1) zc_263 d xm_263 1 [r0, some (1, w), r2, r3] ((0, x) :: st) mem Post = (zvc E n zc_263 d xm_263 2 [r0, some (1, w), some (0, x), r3] (st) mem Post) := zrf rfl
theorem s_263_2 {E : yE} {n d : Nat} {mem : yMem} {Post : Option yV → yMem → Prop} {st : List yV} {r1 r2 r3 : Option yV} {x : Int} : zvc E (n + 1) zc_263 d xm_263 2 [some (1, x), r1, r2, r3] (st) mem Post = (zvc E n zc_263 d xm_263 3 [some (1, x), r1, r2, r3] ((1, x) :: st) mem Post) := zrf rfl
theorem s_263_2s {E : yE} {n d : Nat} {mem : yMem} {Post : Option yV → yMem → Prop} {st : List yV} {r1 r2 r3 : Option yV} {x : Int} : zvc E (n + 1) zc_263 d xm_263 2 [some (5, x), r1, r2, r3] (st) mem Post = (zvc E n zc_263 d xm_263 3 [some (5, x), r1, r2, r3] ((5, x) :: st) mem Post) := zrf rfl
theorem s_263_2t {E : yE} {n d : Nat} {mem : yMem} {Post : Option yV → yMem → Prop} {st : List yV} {r1 r2 r3 : Option yV} {x : Int} : zvc E (n + 1) zc_263 d xm_263 2 [some (6, x), r1, r2, r3] (st) mem Post = (zvc E n zc_263 d xm_263 3 [some (6, x), r1, r2, r3] ((6, x) :: st) mem Post) := zrf rfl
theorem s_263_3 {E : yE} {n d : Nat} {mem : yMem} {Post : Option yV → yMem → Prop} {st : List yV} {r0 r1 r2 r3 : Option yV} {z : Int} : zvc E (n + 1) zc_263 d xm_263 3 [r0, r1, r2, r3] ((1, z) :: st) mem Post = (zia z = true ∧ zvc E n zc_263 d xm_263 4 [r0, r1, r2, r3] ((0, ((zln z : Nat) : Int)) :: st) mem Post) := zrf rfl
theorem s_263_3t {E : yE} {n d : Nat} {mem : yMem} {Post : Option yV → yMem → Prop} {st : List yV} {r0 r1 r2 r3 : Option yV} {z : Int} : zvc E (n + 1) zc_263 d xm_263 3 [r0, r1, r2, r3] ((6, z) :: st) mem Post = (z.toNat < 3 ∧ zvc E n zc_263 d xm_263 4 [r0, r1, r2, r3] ((0, ((xlen.getD z.toNat 0 : Nat) : Int)) :: st) mem Post) := zrf rfl
theorem s_263_4n {E : yE} {n d : Nat} {mem : yMem} {Post : Option yV → yMem → Prop} {st : List yV} {r0 r1 r3 : Option yV} {x : Int} : zvc E (n + 1) zc_263 d xm_263 4 [r0, r1, none, r3] ((0, x) :: st) mem Post = (zvc E n zc_263 d xm_263 5 [r0, r1, none, some (0, x)] (st) mem Post) := zrf rfl
theorem s_263_4i {E : yE} {n d : Nat} {mem : yMem} {Post : Option yV → yMem → Prop} {st : List yV} {r0 r1 r3 : Option yV} {x w : Int} : zvc E (n + 1) zc_263 d xm_263 4 [r0, r1, some (0, w), r3] ((0, x) :: st) mem Post = (zvc E n zc_263 d xm_263 5 [r0, r1, some (0, w), some (0, x)] (st) mem Post) := zrf rfl
theorem s_263_4p {E : yE} {n d : Nat} {mem : yMem} {Post : Option yV → yMem → Prop} {st : List yV} {r0 r1 r3 : Option yV} {x w : Int} : zvc E (n + 1) zc_263 d xm_263 4 [r0, r1, some (1, w), r3] ((0, x) :: st) mem Post = (zvc E n zc_263 d xm_263 5 [r0, r1, some (1, w), some (0, x)] (st) mem Post) := zrf rfl
theorem g_263_5 {E : yE} {n d : Nat} {mem : yMem} {Post : Option yV → yMem → Prop} {st : List yV} {r0 r1 r3 : Option yV} {x : Int} : zgo E n zc_263 d xm_263 5 [r0, r1, some (0, x), r3] (st) mem Post = (zvc E n zc_263 d xm_263 6 [r0, r1, some (0, x), r3] ((0, x) :: st) mem Post) := zrf rfl
theorem k_263_5 {E : yE} {n d : Nat} {mem : yMem} {Post : Option yV → yMem → Prop} {st : List yV} {rg : zR} : zvc E (n + 1) zc_263 d xm_263 5 rg st mem Post = zG E d xm_263 5 rg st mem Post := zrf rfl
theorem s_263_6 {E : yE} {n d : Nat} {mem : yMem} {Post : Option yV → yMem → Prop} {st : List yV} {r0 r1 r2 : Option yV} {x : Int} : zvc E (n + 1) zc_263 d xm_263 6 [r0, r1, r2, some (0, x)] (st) mem Post = (zvc E n zc_263 d xm_263 7 [r0, r1, r2, some (0, x)] ((0, x) :: st) mem Post) := zrf rfl
theorem s_263_7 {E : yE} {n d : Nat} {mem : yMem} {Post : Option yV → yMem → Prop} {st : List yV} {r0 r1 r2 r3 : Option yV} {x y : Int} : zvc E (n + 1) zc_263 d xm_263 7 [r0, r1, r2, r3] ((0, y) :: (0, x) :: st) mem Post = ((w32 y ≤ w32 x → zvc E n zc_263 d xm_263 20 [r0, r1, r2, r3] (st) mem Post) ∧ (¬ (w32 y ≤ w32 x) → zvc E n zc_263 d xm_263 10 [r0, r1, r2, r3] (st) mem Post)) := zrf rfl
theorem s_263_10 {E : yE} {n d : Nat} {mem : yMem} {Post : Option yV → yMem → Prop} {st : List yV} {r1 r2 r3 : Option yV} {x : Int} : zvc E (n + 1) zc_263 d xm_263 10 [some (1, x), r1, r2, r3] (st) mem Post = (zvc E n zc_263 d xm_263 11 [some (1, x), r1, r2, r3] ((1, x) :: st) mem Post) := zrf rfl
theorem s_263_10s {E : yE} {n d : Nat} {mem : yMem} {Post : Option yV → yMem → Prop} {st : List yV} {r1 r2 r3 : Option yV} {x : Int} : zvc E (n + 1) zc_263 d xm_263 10 [some (5, x), r1, r2, r3] (st) mem Post = (zvc E n zc_263 d xm_263 11 [some (5, x), r1, r2, r3] ((5, x) :: st) mem Post) := zrf rfl
theorem s_263_10t {E : yE} {n d : Nat} {mem : yMem} {Post : Option yV → yMem → Prop} {st : List yV} {r1 r2 r3 : Option yV} {x : Int} : zvc E (n + 1) zc_263 d xm_263 10 [some (6, x), r1, r2, r3] (st) mem Post = (zvc E n zc_263 d xm_263 11 [some (6, x), r1, r2, r3] ((6, x) :: st) mem Post) := zrf rfl
theorem s_263_11 {E : yE} {n d : Nat} {mem : yMem} {Post : Option yV → yMem → Prop} {st : List yV} {r0 r1 r3 : Option yV} {x : Int} : zvc E (n + 1) zc_263 d xm_263 11 [r0, r1, some (0, x), r3] (st) mem Post = (zvc E n zc_263 d xm_263 12 [r0, r1, some (0, x), r3] ((0, x) :: st) mem Post) := zrf rfl
theorem s_263_12 {E : yE} {n d : Nat} {mem : yMem} {Post : Option yV → yMem → Prop} {st : List yV} {r0 r2 r3 : Option yV} {x : Int} : zvc E (n + 1) zc_263 d xm_263 12 [r0, some (0, x), r2, r3] (st) mem Post = (zvc E n zc_263 d xm_263 13 [r0, some (0, x), r2, r3] ((0, x) :: st) mem Post) := zrf rfl
theorem s_263_13 {E : yE} {n d : Nat} {mem : yMem} {Post : Option yV → yMem → Prop} {st : List yV} {r0 r1 r2 r3 : Option yV} {x z j : Int} : zvc E (n + 1) zc_263 d xm_263 13 [r0, r1, r2, r3] ((0, x) :: (0, j) :: (1, z) :: st) mem Post = ((0 ≤ w32 j ∧ w32 j < ((zar z 0 : Nat) : Int)) ∧ zvc E n zc_263 d xm_263 14 [r0, r1, r2, r3] (st) (yset mem z.toNat (w32 j).toNat x) Post) := zrf rfl
theorem s_263_14n {E : yE} {n d : Nat} {mem : yMem} {Post : Option yV → yMem → Prop} {st : List yV} {r0 r3 : Option yV} {x : Int} : zvc E (n + 1) zc_263 d xm_263 14 [r0, none, some (0, x), r3] (st) mem Post = (zvc E n zc_263 d xm_263 17 [r0, none, some (0, x + 1), r3] (st) mem Post) := zrf rfl
theorem s_263_14i {E : yE} {n d : Nat} {mem : yMem} {Post : Option yV → yMem → Prop} {st : List yV} {r0 r3 : Option yV} {x w : Int} : zvc E (n + 1) zc_263 d xm_263 14 [r0, some (0, w), some (0, x), r3] (st) mem Post = (zvc E n zc_263 d xm_263 17 [r0, some (0, w), some (0, x + 1), r3] (st) mem Post) := zrf rfl
theorem s_263_14p {E : yE} {n d : Nat} {mem : yMem} {Post : Option yV → yMem → Prop} {st : List yV} {r0 r3 : Option yV} {x w : Int} : zvc E (n + 1) zc_263 d xm_263 14 [r0, some (1, w), some (0, x), r3] (st) mem Post = (zvc E n zc_263 d xm_263 17 [r0, some (1, w), some (0, x + 1), r3] (st) mem Post) := zrf rfl
theorem s_263_17 {E : yE} {n d : Nat} {mem : yMem} {Post : Option yV → yMem → Prop} {st : List yV} {r0 r1 r2 r3 : Option yV} : zvc E (n + 1) zc_263 d xm_263 17 [r0, r1, r2, r3] (st) mem Post = (zvc E n zc_263 d xm_263 5 [r0, r1, r2, r3] (st) mem Post) := zrf rfl
theorem s_263_20 {E : yE} {n d : Nat} {mem : yMem} {Post : Option yV → yMem → Prop} {r0 r1 r2 r3 : Option yV} : zvc E (n + 1) zc_263 d xm_263 20 [r0, r1, r2, r3] ([]) mem Post = (Post none mem) := zrf rfl
theorem s_77_0 {E : yE} {n d : Nat} {mem : yMem} {Post : Option yV → yMem → Prop} {st : List yV} {x : Int} : zvc E (n + 1) [] d xm_77 0 [some (1, x)] (st) mem Post = (zvc E n [] d xm_77 1 [some (1, x)] ((1, x) :: st) mem Post) := zrf rfl
theorem s_77_1_2 {E : yE} {n d : Nat} {mem : yMem} {Post : Option yV → yMem → Prop} {st : List yV} {r0 : Option yV} : zvc E (n + 1) [] d xm_77 1 [r0] ((1, 2) :: st) mem Post = (zvc E n [] d xm_77 4 [r0] ((1, 3) :: st) mem Post) := zrf rfl
theorem s_77_1_28 {E : yE} {n d : Nat} {mem : yMem} {Post : Option yV → yMem → Prop} {st : List yV} {r0 : Option yV} : zvc E (n + 1) [] d xm_77 1 [r0] ((1, 28) :: st) mem Post = (zvc E n [] d xm_77 4 [r0] ((1, 29) :: st) mem Post) := zrf rfl
theorem s_77_4 {E : yE} {n d : Nat} {mem : yMem} {Post : Option yV → yMem → Prop} {st : List yV} {r0 : Option yV} : zvc E (n + 1) [] d xm_77 4 [r0] (st) mem Post = (zvc E n [] d xm_77 5 [r0] ((0, 0) :: st) mem Post) := zrf rfl
theorem s_77_5_3 {E : yE} {n d : Nat} {mem : yMem} {Post : Option yV → yMem → Prop} {st : List yV} {r0 : Option yV} {x : Int} : zvc E (n + 1) [] d xm_77 5 [r0] ((0, x) :: (1, 3) :: st) mem Post = (zvc E n [] d xm_77 8 [r0] (st) (yset mem 3 1 x) Post) := zrf rfl
theorem s_77_5_5 {E : yE} {n d : Nat} {mem : yMem} {Post : Option yV → yMem → Prop} {st : List yV} {r0 : Option yV} {x : Int} : zvc E (n + 1) [] d xm_77 5 [r0] ((0, x) :: (1, 5) :: st) mem Post = (zvc E n [] d xm_77 8 [r0] (st) (yset mem 5 1 x) Post) := zrf rfl
theorem s_77_5_7 {E : yE} {n d : Nat} {mem : yMem} {Post : Option yV → yMem → Prop} {st : List yV} {r0 : Option yV} {x : Int} : zvc E (n + 1) [] d xm_77 5 [r0] ((0, x) :: (1, 7) :: st) mem Post = (zvc E n [] d xm_77 8 [r0] (st) (yset mem 7 1 x) Post) := zrf rfl
theorem s_77_5_9 {E : yE} {n d : Nat} {mem : yMem} {Post : Option yV → yMem → Prop} {st : List yV} {r0 : Option yV} {x : Int} : zvc E (n + 1) [] d xm_77 5 [r0] ((0, x) :: (1, 9) :: st) mem Post = (zvc E n [] d xm_77 8 [r0] (st) (yset mem 9 1 x) Post) := zrf rfl
theorem s_77_5_29 {E : yE} {n d : Nat} {mem : yMem} {Post : Option yV → yMem → Prop} {st : List yV} {r0 : Option yV} {x : Int} : zvc E (n + 1) [] d xm_77 5 [r0] ((0, x) :: (1, 29) :: st) mem Post = (zvc E n [] d xm_77 8 [r0] (st) (yset mem 29 1 x) Post) := zrf rfl
theorem s_77_5_31 {E : yE} {n d : Nat} {mem : yMem} {Post : Option yV → yMem → Prop} {st : List yV} {r0 : Option yV} {x : Int} : zvc E (n + 1) [] d xm_77 5 [r0] ((0, x) :: (1, 31) :: st) mem Post = (zvc E n [] d xm_77 8 [r0] (st) (yset mem 31 1 x) Post) := zrf rfl
theorem s_77_5_33 {E : yE} {n d : Nat} {mem : yMem} {Post : Option yV → yMem → Prop} {st : List yV} {r0 : Option yV} {x : Int} : zvc E (n + 1) [] d xm_77 5 [r0] ((0, x) :: (1, 33) :: st) mem Post = (zvc E n [] d xm_77 8 [r0] (st) (yset mem 33 1 x) Post) := zrf rfl
theorem s_77_5_35 {E : yE} {n d : Nat} {mem : yMem} {Post : Option yV → yMem → Prop} {st : List yV} {r0 : Option yV} {x : Int} : zvc E (n + 1) [] d xm_77 5 [r0] ((0, x) :: (1, 35) :: st) mem Post = (zvc E n [] d xm_77 8 [r0] (st) (yset mem 35 1 x) Post) := zrf rfl
theorem s_77_8 {E : yE} {n d : Nat} {mem : yMem} {Post : Option yV → yMem → Prop} {st : List yV} {x : Int} : zvc E (n + 1) [] d xm_77 8 [some (1, x)] (st) mem Post = (zvc E n [] d xm_77 9 [some (1, x)] ((1, x) :: st) mem Post) := zrf rfl
theorem s_77_9_2 {E : yE} {n d : Nat} {mem : yMem} {Post : Option yV → yMem → Prop} {st : List yV} {r0 : Option yV} : zvc E (n + 1) [] d xm_77 9 [r0] ((1, 2) :: st) mem Post = (zvc E n [] d xm_77 12 [r0] ((1, 5) :: st) mem Post) := zrf rfl
theorem s_77_9_28 {E : yE} {n d : Nat} {mem : yMem} {Post : Option yV → yMem → Prop} {st : List yV} {r0 : Option yV} : zvc E (n + 1) [] d xm_77 9 [r0] ((1, 28) :: st) mem Post = (zvc E n [] d xm_77 12 [r0] ((1, 31) :: st) mem Post) := zrf rfl
theorem s_77_12 {E : yE} {n d : Nat} {mem : yMem} {Post : Option yV → yMem → Prop} {st : List yV} {r0 : Option yV} : zvc E (n + 1) [] d xm_77 12 [r0] (st) mem Post = (zvc E n [] d xm_77 13 [r0] ((0, 0) :: st) mem Post) := zrf rfl
theorem s_77_13_3 {E : yE} {n d : Nat} {mem : yMem} {Post : Option yV → yMem → Prop} {st : List yV} {r0 : Option yV} {x : Int} : zvc E (n + 1) [] d xm_77 13 [r0] ((0, x) :: (1, 3) :: st) mem Post = (zvc E n [] d xm_77 16 [r0] (st) (yset mem 3 1 x) Post) := zrf rfl
theorem s_77_13_5 {E : yE} {n d : Nat} {mem : yMem} {Post : Option yV → yMem → Prop} {st : List yV} {r0 : Option yV} {x : Int} : zvc E (n + 1) [] d xm_77 13 [r0] ((0, x) :: (1, 5) :: st) mem Post = (zvc E n [] d xm_77 16 [r0] (st) (yset mem 5 1 x) Post) := zrf rfl
theorem s_77_13_7 {E : yE} {n d : Nat} {mem : yMem} {Post : Option yV → yMem → Prop} {st : List yV} {r0 : Option yV} {x : Int} : zvc E (n + 1) [] d xm_77 13 [r0] ((0, x) :: (1, 7) :: st) mem Post = (zvc E n [] d xm_77 16 [r0] (st) (yset mem 7 1 x) Post) := zrf rfl
theorem s_77_13_9 {E : yE} {n d : Nat} {mem : yMem} {Post : Option yV → yMem → Prop} {st : List yV} {r0 : Option yV} {x : Int} : zvc E (n + 1) [] d xm_77 13 [r0] ((0, x) :: (1, 9) :: st) mem Post = (zvc E n [] d xm_77 16 [r0] (st) (yset mem 9 1 x) Post) := zrf rfl
theorem s_77_13_29 {E : yE} {n d : Nat} {mem : yMem} {Post : Option yV → yMem → Prop} {st : List yV} {r0 : Option yV} {x : Int} : zvc E (n + 1) [] d xm_77 13 [r0] ((0, x) :: (1, 29) :: st) mem Post = (zvc E n [] d xm_77 16 [r0] (st) (yset mem 29 1 x) Post) := zrf rfl
theorem s_77_13_31 {E : yE} {n d : Nat} {mem : yMem} {Post : Option yV → yMem → Prop} {st : List yV} {r0 : Option yV} {x : Int} : zvc E (n + 1) [] d xm_77 13 [r0] ((0, x) :: (1, 31) :: st) mem Post = (zvc E n [] d xm_77 16 [r0] (st) (yset mem 31 1 x) Post) := zrf rfl
theorem s_77_13_33 {E : yE} {n d : Nat} {mem : yMem} {Post : Option yV → yMem → Prop} {st : List yV} {r0 : Option yV} {x : Int} : zvc E (n + 1) [] d xm_77 13 [r0] ((0, x) :: (1, 33) :: st) mem Post = (zvc E n [] d xm_77 16 [r0] (st) (yset mem 33 1 x) Post) := zrf rfl
theorem s_77_13_35 {E : yE} {n d : Nat} {mem : yMem} {Post : Option yV → yMem → Prop} {st : List yV} {r0 : Option yV} {x : Int} : zvc E (n + 1) [] d xm_77 13 [r0] ((0, x) :: (1, 35) :: st) mem Post = (zvc E n [] d xm_77 16 [r0] (st) (yset mem 35 1 x) Post) := zrf rfl
theorem s_77_16 {E : yE} {n d : Nat} {mem : yMem} {Post : Option yV → yMem → Prop} {st : List yV} {x : Int} : zvc E (n + 1) [] d xm_77 16 [some (1, x)] (st) mem Post = (zvc E n [] d xm_77 17 [some (1, x)] ((1, x) :: st) mem Post) := zrf rfl
theorem s_77_17_2 {E : yE} {n d : Nat} {mem : yMem} {Post : Option yV → yMem → Prop} {st : List yV} {r0 : Option yV} : zvc E (n + 1) [] d xm_77 17 [r0] ((1, 2) :: st) mem Post = (zvc E n [] d xm_77 20 [r0] ((1, 7) :: st) mem Post) := zrf rfl
theorem s_77_17_28 {E : yE} {n d : Nat} {mem : yMem} {Post : Option yV → yMem → Prop} {st : List yV} {r0 : Option yV} : zvc E (n + 1) [] d xm_77 17 [r0] ((1, 28) :: st) mem Post = (zvc E n [] d xm_77 20 [r0] ((1, 33) :: st) mem Post) := zrf rfl
theorem s_77_20 {E : yE} {n d : Nat} {mem : yMem} {Post : Option yV → yMem → Prop} {st : List yV} {r0 : Option yV} : zvc E (n + 1) [] d xm_77 20 [r0] (st) mem Post = (zvc E n [] d xm_77 21 [r0] ((0, 0) :: st) mem Post) := zrf rfl
theorem s_77_21_3 {E : yE} {n d : Nat} {mem : yMem} {Post : Option yV → yMem → Prop} {st : List yV} {r0 : Option yV} {x : Int} : zvc E (n + 1) [] d xm_77 21 [r0] ((0, x) :: (1, 3) :: st) mem Post = (zvc E n [] d xm_77 24 [r0] (st) (yset mem 3 1 x) Post) := zrf rfl
theorem s_77_21_5 {E : yE} {n d : Nat} {mem : yMem} {Post : Option yV → yMem → Prop} {st : List yV} {r0 : Option yV} {x : Int} : zvc E (n + 1) [] d xm_77 21 [r0] ((0, x) :: (1, 5) :: st) mem Post = (zvc E n [] d xm_77 24 [r0] (st) (yset mem 5 1 x) Post) := zrf rfl
theorem s_77_21_7 {E : yE} {n d : Nat} {mem : yMem} {Post : Option yV → yMem → Prop} {st : List yV} {r0 : Option yV} {x : Int} : zvc E (n + 1) [] d xm_77 21 [r0] ((0, x) :: (1, 7) :: st) mem Post = (zvc E n [] d xm_77 24 [r0] (st) (yset mem 7 1 x) Post) := zrf rfl
theorem s_77_21_9 {E : yE} {n d : Nat} {mem : yMem} {Post : Option yV → yMem → Prop} {st : List yV} {r0 : Option yV} {x : Int} : zvc E (n + 1) [] d xm_77 21 [r0] ((0, x) :: (1, 9) :: st) mem Post = (zvc E n [] d xm_77 24 [r0] (st) (yset mem 9 1 x) Post) := zrf rfl
theorem s_77_21_29 {E : yE} {n d : Nat} {mem : yMem} {Post : Option yV → yMem → Prop} {st : List yV} {r0 : Option yV} {x : Int} : zvc E (n + 1) [] d xm_77 21 [r0] ((0, x) :: (1, 29) :: st) mem Post = (zvc E n [] d xm_77 24 [r0] (st) (yset mem 29 1 x) Post) := zrf rfl
theorem s_77_21_31 {E : yE} {n d : Nat} {mem : yMem} {Post : Option yV → yMem → Prop} {st : List yV} {r0 : Option yV} {x : Int} : zvc E (n + 1) [] d xm_77 21 [r0] ((0, x) :: (1, 31) :: st) mem Post = (zvc E n [] d xm_77 24 [r0] (st) (yset mem 31 1 x) Post) := zrf rfl
theorem s_77_21_33 {E : yE} {n d : Nat} {mem : yMem} {Post : Option yV → yMem → Prop} {st : List yV} {r0 : Option yV} {x : Int} : zvc E (n + 1) [] d xm_77 21 [r0] ((0, x) :: (1, 33) :: st) mem Post = (zvc E n [] d xm_77 24 [r0] (st) (yset mem 33 1 x) Post) := zrf rfl
theorem s_77_21_35 {E : yE} {n d : Nat} {mem : yMem} {Post : Option yV → yMem → Prop} {st : List yV} {r0 : Option yV} {x : Int} : zvc E (n + 1) [] d xm_77 21 [r0] ((0, x) :: (1, 35) :: st) mem Post = (zvc E n [] d xm_77 24 [r0] (st) (yset mem 35 1 x) Post) := zrf rfl
theorem s_77_24 {E : yE} {n d : Nat} {mem : yMem} {Post : Option yV → yMem → Prop} {st : List yV} {x : Int} : zvc E (n + 1) [] d xm_77 24 [some (1, x)] (st) mem Post = (zvc E n [] d xm_77 25 [some (1, x)] ((1, x) :: st) mem Post) := zrf rfl
theorem s_77_25_2 {E : yE} {n d : Nat} {mem : yMem} {Post : Option yV → yMem → Prop} {st : List yV} {r0 : Option yV} : zvc E (n + 1) [] d xm_77 25 [r0] ((1, 2) :: st) mem Post = (zvc E n [] d xm_77 28 [r0] ((1, 9) :: st) mem Post) := zrf rfl
theorem s_77_25_28 {E : yE} {n d : Nat} {mem : yMem} {Post : Option yV → yMem → Prop} {st : List yV} {r0 : Option yV} : zvc E (n + 1) [] d xm_77 25 [r0] ((1, 28) :: st) mem Post = (zvc E n [] d xm_77 28 [r0] ((1, 35) :: st) mem Post) := zrf rfl
theorem s_77_28 {E : yE} {n d : Nat} {mem : yMem} {Post : Option yV → yMem → Prop} {st : List yV} {r0 : Option yV} : zvc E (n + 1) [] d xm_77 28 [r0] (st) mem Post = (zvc E n [] d xm_77 29 [r0] ((0, 0) :: st) mem Post) := zrf rfl
theorem s_77_29_3 {E : yE} {n d : Nat} {mem : yMem} {Post : Option yV → yMem → Prop} {st : List yV} {r0 : Option yV} {x : Int} : zvc E (n + 1) [] d xm_77 29 [r0] ((0, x) :: (1, 3) :: st) mem Post = (zvc E n [] d xm_77 32 [r0] (st) (yset mem 3 1 x) Post) := zrf rfl
theorem s_77_29_5 {E : yE} {n d : Nat} {mem : yMem} {Post : Option yV → yMem → Prop} {st : List yV} {r0 : Option yV} {x : Int} : zvc E (n + 1) [] d xm_77 29 [r0] ((0, x) :: (1, 5) :: st) mem Post = (zvc E n [] d xm_77 32 [r0] (st) (yset mem 5 1 x) Post) := zrf rfl
theorem s_77_29_7 {E : yE} {n d : Nat} {mem : yMem} {Post : Option yV → yMem → Prop} {st : List yV} {r0 : Option yV} {x : Int} : zvc E (n + 1) [] d xm_77 29 [r0] ((0, x) :: (1, 7) :: st) mem Post = (zvc E n [] d xm_77 32 [r0] (st) (yset mem 7 1 x) Post) := zrf rfl
theorem s_77_29_9 {E : yE} {n d : Nat} {mem : yMem} {Post : Option yV → yMem → Prop} {st : List yV} {r0 : Option yV} {x : Int} : zvc E (n + 1) [] d xm_77 29 [r0] ((0, x) :: (1, 9) :: st) mem Post = (zvc E n [] d xm_77 32 [r0] (st) (yset mem 9 1 x) Post) := zrf rfl
theorem s_77_29_29 {E : yE} {n d : Nat} {mem : yMem} {Post : Option yV → yMem → Prop} {st : List yV} {r0 : Option yV} {x : Int} : zvc E (n + 1) [] d xm_77 29 [r0] ((0, x) :: (1, 29) :: st) mem Post = (zvc E n [] d xm_77 32 [r0] (st) (yset mem 29 1 x) Post) := zrf rfl
theorem s_77_29_31 {E : yE} {n d : Nat} {mem : yMem} {Post : Option yV → yMem → Prop} {st : List yV} {r0 : Option yV} {x : Int} : zvc E (n + 1) [] d xm_77 29 [r0] ((0, x) :: (1, 31) :: st) mem Post = (zvc E n [] d xm_77 32 [r0] (st) (yset mem 31 1 x) Post) := zrf rfl
theorem s_77_29_33 {E : yE} {n d : Nat} {mem : yMem} {Post : Option yV → yMem → Prop} {st : List yV} {r0 : Option yV} {x : Int} : zvc E (n + 1) [] d xm_77 29 [r0] ((0, x) :: (1, 33) :: st) mem Post = (zvc E n [] d xm_77 32 [r0] (st) (yset mem 33 1 x) Post) := zrf rfl
theorem s_77_29_35 {E : yE} {n d : Nat} {mem : yMem} {Post : Option yV → yMem → Prop} {st : List yV} {r0 : Option yV} {x : Int} : zvc E (n + 1) [] d xm_77 29 [r0] ((0, x) :: (1, 35) :: st) mem Post = (zvc E n [] d xm_77 32 [r0] (st) (yset mem 35 1 x) Post) := zrf rfl
theorem s_77_32 {E : yE} {n d : Nat} {mem : yMem} {Post : Option yV → yMem → Prop} {st : List yV} {x : Int} : zvc E (n + 1) [] d xm_77 32 [some (1, x)] (st) mem Post = (zvc E n [] d xm_77 33 [some (1, x)] ((1, x) :: st) mem Post) := zrf rfl
theorem s_77_33_2 {E : yE} {n d : Nat} {mem : yMem} {Post : Option yV → yMem → Prop} {st : List yV} {r0 : Option yV} : zvc E (n + 1) [] d xm_77 33 [r0] ((1, 2) :: st) mem Post = (zvc E n [] d xm_77 36 [r0] ((1, 22) :: st) mem Post) := zrf rfl
theorem s_77_33_28 {E : yE} {n d : Nat} {mem : yMem} {Post : Option yV → yMem → Prop} {st : List yV} {r0 : Option yV} : zvc E (n + 1) [] d xm_77 33 [r0] ((1, 28) :: st) mem Post = (zvc E n [] d xm_77 36 [r0] ((1, 48) :: st) mem Post) := zrf rfl
theorem s_77_36 {E : yE} {n d : Nat} {mem : yMem} {Post : Option yV → yMem → Prop} {st : List yV} {r0 : Option yV} {z : Int} : zvc E (n + 1) [] d xm_77 36 [r0] ((1, z) :: st) mem Post = (zio z 2 = true ∧ ysum st ≤ 8 ∧ yCon E d xm_61 [(1, z)] mem (fun v mem' => zgk E d xm_77 39 [r0] st v mem' Post)) := zrf rfl
theorem s_77_39 {E : yE} {n d : Nat} {mem : yMem} {Post : Option yV → yMem → Prop} {st : List yV} {x : Int} : zvc E (n + 1) [] d xm_77 39 [some (1, x)] (st) mem Post = (zvc E n [] d xm_77 40 [some (1, x)] ((1, x) :: st) mem Post) := zrf rfl
theorem s_77_40 {E : yE} {n d : Nat} {mem : yMem} {Post : Option yV → yMem → Prop} {st : List yV} {r0 : Option yV} : zvc E (n + 1) [] d xm_77 40 [r0] (st) mem Post = (zvc E n [] d xm_77 41 [r0] ((0, 0) :: st) mem Post) := zrf rfl
theorem s_77_41_2 {E : yE} {n d : Nat} {mem : yMem} {Post : Option yV → yMem → Prop} {st : List yV} {r0 : Option yV} {x : Int} : zvc E (n + 1) [] d xm_77 41 [r0] ((0, x) :: (1, 2) :: st) mem Post = (zvc E n [] d xm_77 44 [r0] (st) (yset mem 2 16 x) Post) := zrf rfl
theorem s_77_41_28 {E : yE} {n d : Nat} {mem : yMem} {Post : Option yV → yMem → Prop} {st : List yV} {r0 : Option yV} {x : Int} : zvc E (n + 1) [] d xm_77 41 [r0] ((0, x) :: (1, 28) :: st) mem Post = (zvc E n [] d xm_77 44 [r0] (st) (yset mem 28 16 x) Post) := zrf rfl
theorem s_77_44 {E : yE} {n d : Nat} {mem : yMem} {Post : Option yV → yMem → Prop} {st : List yV} {x : Int} : zvc E (n + 1) [] d xm_77 44 [some (1, x)] (st) mem Post = (zvc E n [] d xm_77 45 [some (1, x)] ((1, x) :: st) mem Post) := zrf rfl
theorem s_77_45 {E : yE} {n d : Nat} {mem : yMem} {Post : Option yV → yMem → Prop} {st : List yV} {r0 : Option yV} : zvc E (n + 1) [] d xm_77 45 [r0] (st) mem Post = (zvc E n [] d xm_77 46 [r0] ((0, 0) :: st) mem Post) := zrf rfl
theorem s_77_46_2 {E : yE} {n d : Nat} {mem : yMem} {Post : Option yV → yMem → Prop} {st : List yV} {r0 : Option yV} {x : Int} : zvc E (n + 1) [] d xm_77 46 [r0] ((0, x) :: (1, 2) :: st) mem Post = (zvc E n [] d xm_77 49 [r0] (st) (yset mem 2 17 x) Post) := zrf rfl
theorem s_77_46_28 {E : yE} {n d : Nat} {mem : yMem} {Post : Option yV → yMem → Prop} {st : List yV} {r0 : Option yV} {x : Int} : zvc E (n + 1) [] d xm_77 46 [r0] ((0, x) :: (1, 28) :: st) mem Post = (zvc E n [] d xm_77 49 [r0] (st) (yset mem 28 17 x) Post) := zrf rfl
theorem s_77_49 {E : yE} {n d : Nat} {mem : yMem} {Post : Option yV → yMem → Prop} {st : List yV} {x : Int} : zvc E (n + 1) [] d xm_77 49 [some (1, x)] (st) mem Post = (zvc E n [] d xm_77 50 [some (1, x)] ((1, x) :: st) mem Post) := zrf rfl
theorem s_77_50 {E : yE} {n d : Nat} {mem : yMem} {Post : Option yV → yMem → Prop} {st : List yV} {r0 : Option yV} : zvc E (n + 1) [] d xm_77 50 [r0] (st) mem Post = (zvc E n [] d xm_77 51 [r0] ((0, 0) :: st) mem Post) := zrf rfl
theorem s_77_51_2 {E : yE} {n d : Nat} {mem : yMem} {Post : Option yV → yMem → Prop} {st : List yV} {r0 : Option yV} {x : Int} : zvc E (n + 1) [] d xm_77 51 [r0] ((0, x) :: (1, 2) :: st) mem Post = (zvc E n [] d xm_77 54 [r0] (st) (yset mem 2 18 x) Post) := zrf rfl
theorem s_77_51_28 {E : yE} {n d : Nat} {mem : yMem} {Post : Option yV → yMem → Prop} {st : List yV} {r0 : Option yV} {x : Int} : zvc E (n + 1) [] d xm_77 51 [r0] ((0, x) :: (1, 28) :: st) mem Post = (zvc E n [] d xm_77 54 [r0] (st) (yset mem 28 18 x) Post) := zrf rfl
theorem s_77_54 {E : yE} {n d : Nat} {mem : yMem} {Post : Option yV → yMem → Prop} {r0 : Option yV} : zvc E (n + 1) [] d xm_77 54 [r0] ([]) mem Post = (Post none mem) := zrf rfl
theorem s_61_0 {E : yE} {n d : Nat} {mem : yMem} {Post : Option yV → yMem → Prop} {st : List yV} {x : Int} : zvc E (n + 1) [] d xm_61 0 [some (1, x)] (st) mem Post = (zvc E n [] d xm_61 1 [some (1, x)] ((1, x) :: st) mem Post) := zrf rfl
theorem s_61_1 {E : yE} {n d : Nat} {mem : yMem} {Post : Option yV → yMem → Prop} {st : List yV} {r0 : Option yV} : zvc E (n + 1) [] d xm_61 1 [r0] (st) mem Post = (zvc E n [] d xm_61 2 [r0] ((0, 0) :: st) mem Post) := zrf rfl
theorem s_61_2_22 {E : yE} {n d : Nat} {mem : yMem} {Post : Option yV → yMem → Prop} {st : List yV} {r0 : Option yV} {x : Int} : zvc E (n + 1) [] d xm_61 2 [r0] ((0, x) :: (1, 22) :: st) mem Post = (zvc E n [] d xm_61 5 [r0] (st) (yset mem 22 4 x) Post) := zrf rfl
theorem s_61_2_48 {E : yE} {n d : Nat} {mem : yMem} {Post : Option yV → yMem → Prop} {st : List yV} {r0 : Option yV} {x : Int} : zvc E (n + 1) [] d xm_61 2 [r0] ((0, x) :: (1, 48) :: st) mem Post = (zvc E n [] d xm_61 5 [r0] (st) (yset mem 48 4 x) Post) := zrf rfl
theorem s_61_5 {E : yE} {n d : Nat} {mem : yMem} {Post : Option yV → yMem → Prop} {st : List yV} {x : Int} : zvc E (n + 1) [] d xm_61 5 [some (1, x)] (st) mem Post = (zvc E n [] d xm_61 6 [some (1, x)] ((1, x) :: st) mem Post) := zrf rfl
theorem s_61_6 {E : yE} {n d : Nat} {mem : yMem} {Post : Option yV → yMem → Prop} {st : List yV} {r0 : Option yV} : zvc E (n + 1) [] d xm_61 6 [r0] (st) mem Post = (zvc E n [] d xm_61 7 [r0] ((0, 0) :: st) mem Post) := zrf rfl
theorem s_61_7_22 {E : yE} {n d : Nat} {mem : yMem} {Post : Option yV → yMem → Prop} {st : List yV} {r0 : Option yV} {x : Int} : zvc E (n + 1) [] d xm_61 7 [r0] ((0, x) :: (1, 22) :: st) mem Post = (zvc E n [] d xm_61 10 [r0] (st) (yset mem 22 8 x) Post) := zrf rfl
theorem s_61_7_48 {E : yE} {n d : Nat} {mem : yMem} {Post : Option yV → yMem → Prop} {st : List yV} {r0 : Option yV} {x : Int} : zvc E (n + 1) [] d xm_61 7 [r0] ((0, x) :: (1, 48) :: st) mem Post = (zvc E n [] d xm_61 10 [r0] (st) (yset mem 48 8 x) Post) := zrf rfl
theorem s_61_10 {E : yE} {n d : Nat} {mem : yMem} {Post : Option yV → yMem → Prop} {st : List yV} {x : Int} : zvc E (n + 1) [] d xm_61 10 [some (1, x)] (st) mem Post = (zvc E n [] d xm_61 11 [some (1, x)] ((1, x) :: st) mem Post) := zrf rfl
theorem s_61_11_22 {E : yE} {n d : Nat} {mem : yMem} {Post : Option yV → yMem → Prop} {st : List yV} {r0 : Option yV} : zvc E (n + 1) [] d xm_61 11 [r0] ((1, 22) :: st) mem Post = (zvc E n [] d xm_61 14 [r0] ((1, 25) :: st) mem Post) := zrf rfl
theorem s_61_11_48 {E : yE} {n d : Nat} {mem : yMem} {Post : Option yV → yMem → Prop} {st : List yV} {r0 : Option yV} : zvc E (n + 1) [] d xm_61 11 [r0] ((1, 48) :: st) mem Post = (zvc E n [] d xm_61 14 [r0] ((1, 51) :: st) mem Post) := zrf rfl
theorem s_61_14 {E : yE} {n d : Nat} {mem : yMem} {Post : Option yV → yMem → Prop} {st : List yV} {r0 : Option yV} : zvc E (n + 1) [] d xm_61 14 [r0] (st) mem Post = (zvc E n [] d xm_61 15 [r0] ((0, 0) :: st) mem Post) := zrf rfl
theorem s_61_15 {E : yE} {n d : Nat} {mem : yMem} {Post : Option yV → yMem → Prop} {st : List yV} {r0 : Option yV} {a0 a1 : Int} : zvc E (n + 1) [] d xm_61 15 [r0] ((0, a1) :: (1, a0) :: st) mem Post = (True ∧ ysum st ≤ 8 ∧ yCon E d xm_263 [(1, a0), (0, a1)] mem (fun v mem' => zgk E d xm_61 18 [r0] st v mem' Post)) := zrf rfl
theorem s_61_18 {E : yE} {n d : Nat} {mem : yMem} {Post : Option yV → yMem → Prop} {st : List yV} {x : Int} : zvc E (n + 1) [] d xm_61 18 [some (1, x)] (st) mem Post = (zvc E n [] d xm_61 19 [some (1, x)] ((1, x) :: st) mem Post) := zrf rfl
theorem s_61_19_22 {E : yE} {n d : Nat} {mem : yMem} {Post : Option yV → yMem → Prop} {st : List yV} {r0 : Option yV} : zvc E (n + 1) [] d xm_61 19 [r0] ((1, 22) :: st) mem Post = (zvc E n [] d xm_61 22 [r0] ((1, 26) :: st) mem Post) := zrf rfl
theorem s_61_19_48 {E : yE} {n d : Nat} {mem : yMem} {Post : Option yV → yMem → Prop} {st : List yV} {r0 : Option yV} : zvc E (n + 1) [] d xm_61 19 [r0] ((1, 48) :: st) mem Post = (zvc E n [] d xm_61 22 [r0] ((1, 52) :: st) mem Post) := zrf rfl
theorem s_61_22 {E : yE} {n d : Nat} {mem : yMem} {Post : Option yV → yMem → Prop} {st : List yV} {r0 : Option yV} : zvc E (n + 1) [] d xm_61 22 [r0] (st) mem Post = (zvc E n [] d xm_61 23 [r0] ((0, 0) :: st) mem Post) := zrf rfl
theorem s_61_23 {E : yE} {n d : Nat} {mem : yMem} {Post : Option yV → yMem → Prop} {st : List yV} {r0 : Option yV} {a0 a1 : Int} : zvc E (n + 1) [] d xm_61 23 [r0] ((0, a1) :: (1, a0) :: st) mem Post = (True ∧ ysum st ≤ 8 ∧ yCon E d xm_263 [(1, a0), (0, a1)] mem (fun v mem' => zgk E d xm_61 26 [r0] st v mem' Post)) := zrf rfl
theorem s_61_26 {E : yE} {n d : Nat} {mem : yMem} {Post : Option yV → yMem → Prop} {r0 : Option yV} : zvc E (n + 1) [] d xm_61 26 [r0] ([]) mem Post = (Post none mem) := zrf rfl
theorem e_263 {E : yE} {d : Nat} {mem : yMem} {Q : Option yV → yMem → Prop} {a0 a1 : Int} (h : zG E d xm_263 0 [some (1, a0), some (0, a1), none, none] [] mem Q) : yCon E (d + 1) xm_263 [(1, a0), (0, a1)] mem Q := zcon_of xmo_263 (Nat.le_of_ble_eq_true rfl) h
theorem e_77 {E : yE} {d : Nat} {mem : yMem} {Q : Option yV → yMem → Prop} {z : Int} (h : zG E d xm_77 0 [some (1, z)] [] mem Q) : yCon E (d + 1) xm_77 [(1, z)] mem Q := zcon_of xmo_77 (Nat.le_of_ble_eq_true rfl) h
theorem e_61 {E : yE} {d : Nat} {mem : yMem} {Q : Option yV → yMem → Prop} {z : Int} (h : zG E d xm_61 0 [some (1, z)] [] mem Q) : yCon E (d + 1) xm_61 [(1, z)] mem Q := zcon_of xmo_61 (Nat.le_of_ble_eq_true rfl) h

section CY
variable {E : yE} {mem b m : yMem} {Q : Option yV → yMem → Prop} {d : Nat} {V : Int}
theorem gf5 (hE : yEok E) {z : Int} {L : Nat} (hL : zar z 0 = L) (hL2 : L < 1000) : ∀ (c : Nat) (I : Int) (m : yMem), 0 ≤ w32 I → w32 I + (c : Int) = (L : Int) → (∀ i j, i ≠ z.toNat → m i j = b i j) → (∀ j, j < (w32 I).toNat → m z.toNat j = V) → (∀ m', (∀ i j, i ≠ z.toNat → m' i j = b i j) → (∀ j, j < L → m' z.toNat j = V) → Q none m') → zG E d xm_263 5 [some (1, z), some (0, V), some (0, I), some (0, (L : Int))] [] m Q := by
  intro c
  induction c with
  | zero =>
    intro I m h0 hI hF hV fin
    refine zgo_ok (n := 60) hE xmo_263 (cs := zc_263) ?_
    simp only [ynok_30, ynok_31, w32c_0, w32c_1, w32c_2, w32c_3, w32c_4, w32c_5, w32c_6, w32c_7, w32c_8, w32c_9, w32c_10, w32c_11, w32c_12, w32c_13, w32c_14, w32c_m1, w32c_m2, w32c_118, Int.reduceAdd, Int.reduceSub, Int.reduceMul, yput_s, yput_n, znl_n, znl_0, znl_1, znl_4, ysum_n, ysum_0, ysum_1, ysum_4, true_and, and_true, Nat.reduceAdd, Nat.reduceLeDiff, true_implies, eq_self, true_or, or_true, or_false, false_or, not_true_eq_false, not_false_eq_true, false_implies, implies_true, yset_s, yset_o, yset_d, ne_eq, Nat.reduceEqDiff, Int.reduceToNat, Int.reduceEq, Int.reduceLE, Int.reduceLT, Classical.not_not, Nat.reduceLT, ↓zvk_s, ↓zvk_n, ↓s_263_0, ↓s_263_1n, ↓s_263_1i, ↓s_263_1p, ↓s_263_2, ↓s_263_2s, ↓s_263_2t, ↓s_263_3, ↓s_263_3t, ↓s_263_4n, ↓s_263_4i, ↓s_263_4p, ↓g_263_5, ↓k_263_5, ↓s_263_6, ↓s_263_7, ↓s_263_10, ↓s_263_10s, ↓s_263_10t, ↓s_263_11, ↓s_263_12, ↓s_263_13, ↓s_263_14n, ↓s_263_14i, ↓s_263_14p, ↓s_263_17, ↓s_263_20]
    have eL : w32 ((L : Nat) : Int) = (L : Int) := w32_of (by (first | exact Nat.le_of_ble_eq_true rfl | exact (fun h => absurd h.1 (by decide)) | omega)) (by (first | exact Nat.le_of_ble_eq_true rfl | exact (fun h => absurd h.1 (by decide)) | omega))
    exact ⟨fun _ => fin m hF (fun j hj => hV j (by (first | exact Nat.le_of_ble_eq_true rfl | exact (fun h => absurd h.1 (by decide)) | omega))), fun h => absurd (show w32 ((L : Nat) : Int) ≤ w32 I by (first | exact Nat.le_of_ble_eq_true rfl | exact (fun h => absurd h.1 (by decide)) | omega)) h⟩
  | succ c ih =>
    intro I m h0 hI hF hV fin
    refine zgo_ok (n := 60) hE xmo_263 (cs := zc_263) ?_
    simp only [ynok_30, ynok_31, w32c_0, w32c_1, w32c_2, w32c_3, w32c_4, w32c_5, w32c_6, w32c_7, w32c_8, w32c_9, w32c_10, w32c_11, w32c_12, w32c_13, w32c_14, w32c_m1, w32c_m2, w32c_118, Int.reduceAdd, Int.reduceSub, Int.reduceMul, yput_s, yput_n, znl_n, znl_0, znl_1, znl_4, ysum_n, ysum_0, ysum_1, ysum_4, true_and, and_true, Nat.reduceAdd, Nat.reduceLeDiff, true_implies, eq_self, true_or, or_true, or_false, false_or, not_true_eq_false, not_false_eq_true, false_implies, implies_true, yset_s, yset_o, yset_d, ne_eq, Nat.reduceEqDiff, Int.reduceToNat, Int.reduceEq, Int.reduceLE, Int.reduceLT, Classical.not_not, Nat.reduceLT, ↓zvk_s, ↓zvk_n, ↓s_263_0, ↓s_263_1n, ↓s_263_1i, ↓s_263_1p, ↓s_263_2, ↓s_263_2s, ↓s_263_2t, ↓s_263_3, ↓s_263_3t, ↓s_263_4n, ↓s_263_4i, ↓s_263_4p, ↓g_263_5, ↓k_263_5, ↓s_263_6, ↓s_263_7, ↓s_263_10, ↓s_263_10s, ↓s_263_10t, ↓s_263_11, ↓s_263_12, ↓s_263_13, ↓s_263_14n, ↓s_263_14i, ↓s_263_14p, ↓s_263_17, ↓s_263_20]
    have eL : w32 ((L : Nat) : Int) = (L : Int) := w32_of (by (first | exact Nat.le_of_ble_eq_true rfl | exact (fun h => absurd h.1 (by decide)) | omega)) (by (first | exact Nat.le_of_ble_eq_true rfl | exact (fun h => absurd h.1 (by decide)) | omega))
    have e1 : w32 (I + 1) = w32 I + 1 := by rw [w32_ad (by rw [w32c_1]; (first | exact Nat.le_of_ble_eq_true rfl | exact (fun h => absurd h.1 (by decide)) | omega)) (by rw [w32c_1]; (first | exact Nat.le_of_ble_eq_true rfl | exact (fun h => absurd h.1 (by decide)) | omega)), w32c_1]
    rw [hL]
    refine ⟨fun h => absurd h (by (first | exact Nat.le_of_ble_eq_true rfl | exact (fun h => absurd h.1 (by decide)) | omega)), fun _ => ⟨⟨by (first | exact Nat.le_of_ble_eq_true rfl | exact (fun h => absurd h.1 (by decide)) | omega), by (first | exact Nat.le_of_ble_eq_true rfl | exact (fun h => absurd h.1 (by decide)) | omega)⟩, ih (I + 1) _ (by (first | exact Nat.le_of_ble_eq_true rfl | exact (fun h => absurd h.1 (by decide)) | omega)) (by (first | exact Nat.le_of_ble_eq_true rfl | exact (fun h => absurd h.1 (by decide)) | omega)) (fun i j hi => ?_) (fun j hj => ?_) fin⟩⟩
    · rw [yset_o hi]
      exact hF i j hi
    · rw [yset_a, if_pos rfl]
      split
      · rfl
      · exact hV j (by (first | exact Nat.le_of_ble_eq_true rfl | exact (fun h => absurd h.1 (by decide)) | omega))
theorem g_fill (hE : yEok E) {D : Nat} (hD : 1 ≤ D) {z : Int} {L : Nat} (hz : zia z = true) (hl : zln z = L) (hL : zar z 0 = L) (hL2 : L < 1000) (hQ : ∀ m', (∀ i j, i ≠ z.toNat → m' i j = mem i j) → (∀ j, j < L → m' z.toNat j = V) → Q none m') : yCon E D xm_263 [(1, z), (0, V)] mem Q := by
  obtain ⟨d, rfl⟩ := Nat.exists_eq_add_of_le' hD
  refine e_263 ?_
  refine zvc_ok hE 60 zc_263 _ _ _ _ _ _ _ xmo_263 ?_
  simp only [ynok_30, ynok_31, w32c_0, w32c_1, w32c_2, w32c_3, w32c_4, w32c_5, w32c_6, w32c_7, w32c_8, w32c_9, w32c_10, w32c_11, w32c_12, w32c_13, w32c_14, w32c_m1, w32c_m2, w32c_118, Int.reduceAdd, Int.reduceSub, Int.reduceMul, yput_s, yput_n, znl_n, znl_0, znl_1, znl_4, ysum_n, ysum_0, ysum_1, ysum_4, true_and, and_true, Nat.reduceAdd, Nat.reduceLeDiff, true_implies, eq_self, true_or, or_true, or_false, false_or, not_true_eq_false, not_false_eq_true, false_implies, implies_true, yset_s, yset_o, yset_d, ne_eq, Nat.reduceEqDiff, Int.reduceToNat, Int.reduceEq, Int.reduceLE, Int.reduceLT, Classical.not_not, Nat.reduceLT, ↓zvk_s, ↓zvk_n, ↓s_263_0, ↓s_263_1n, ↓s_263_1i, ↓s_263_1p, ↓s_263_2, ↓s_263_2s, ↓s_263_2t, ↓s_263_3, ↓s_263_3t, ↓s_263_4n, ↓s_263_4i, ↓s_263_4p, ↓g_263_5, ↓k_263_5, ↓s_263_6, ↓s_263_7, ↓s_263_10, ↓s_263_10s, ↓s_263_10t, ↓s_263_11, ↓s_263_12, ↓s_263_13, ↓s_263_14n, ↓s_263_14i, ↓s_263_14p, ↓s_263_17, ↓s_263_20]
  rw [hl]
  refine ⟨hz, ?_⟩
  exact gf5 hE hL hL2 L 0 mem (by decide) (by rw [w32c_0]; (first | exact Nat.le_of_ble_eq_true rfl | exact (fun h => absurd h.1 (by decide)) | omega)) (fun _ _ _ => rfl) (fun j hj => absurd hj (by rw [w32c_0]; exact Nat.not_lt_zero _)) hQ
/-- an empty document -/
def dD0 : dDc := ([], [], [], [], (false, 0), (false, 0), (fun _ => (0, 0), 0, []))
theorem g_fclr (hE : yEok E) {D : Nat} (hD : 4 ≤ D) (hQ : ∀ m', (∀ i j, i ≠ 48 → i ≠ 51 → i ≠ 52 → m' i j = mem i j) → w32 (m' 48 4) = 0 → w32 (m' 48 8) = 0 → (∀ j, j < 5 → w32 (m' 51 j) = 0 ∧ w32 (m' 52 j) = 0) → Q none m') : yCon E D xm_61 [(1, 48)] mem Q := by
  obtain ⟨d, rfl⟩ := Nat.exists_eq_add_of_le' hD
  refine e_61 ?_
  refine zvc_ok hE 60 [] _ _ _ _ _ _ _ xmo_61 ?_
  simp only [ynok_30, ynok_31, w32c_0, w32c_1, w32c_2, w32c_3, w32c_4, w32c_5, w32c_6, w32c_7, w32c_8, w32c_9, w32c_10, w32c_11, w32c_12, w32c_13, w32c_14, w32c_m1, w32c_m2, w32c_118, Int.reduceAdd, Int.reduceSub, Int.reduceMul, yput_s, yput_n, znl_n, znl_0, znl_1, znl_4, ysum_n, ysum_0, ysum_1, ysum_4, true_and, and_true, Nat.reduceAdd, Nat.reduceLeDiff, true_implies, eq_self, true_or, or_true, or_false, false_or, not_true_eq_false, not_false_eq_true, false_implies, implies_true, yset_s, yset_o, yset_d, ne_eq, Nat.reduceEqDiff, Int.reduceToNat, Int.reduceEq, Int.reduceLE, Int.reduceLT, Classical.not_not, Nat.reduceLT, ↓zvk_s, ↓zvk_n, ↓s_61_0, ↓s_61_1, ↓s_61_2_22, ↓s_61_2_48, ↓s_61_5, ↓s_61_6, ↓s_61_7_22, ↓s_61_7_48, ↓s_61_10, ↓s_61_11_22, ↓s_61_11_48, ↓s_61_14, ↓s_61_15, ↓s_61_18, ↓s_61_19_22, ↓s_61_19_48, ↓s_61_22, ↓s_61_23, ↓s_61_26, zio_48, zar_51, zia_51, zln_51, zit_51, zar_52, zia_52, zln_52, zit_52, zio_22, zar_25, zia_25, zln_25, zit_25, zar_26, zia_26, zln_26, zit_26]
  refine g_fill hE (by (first | exact Nat.le_of_ble_eq_true rfl | exact (fun h => absurd h.1 (by decide)) | omega)) (z := 51) (L := 5) (by decide) (by decide) (by decide) (by decide) (fun m1 F1 V1 => ?_)
  refine zgk_n hE xmo_61 60 [] ?_
  simp only [ynok_30, ynok_31, w32c_0, w32c_1, w32c_2, w32c_3, w32c_4, w32c_5, w32c_6, w32c_7, w32c_8, w32c_9, w32c_10, w32c_11, w32c_12, w32c_13, w32c_14, w32c_m1, w32c_m2, w32c_118, Int.reduceAdd, Int.reduceSub, Int.reduceMul, yput_s, yput_n, znl_n, znl_0, znl_1, znl_4, ysum_n, ysum_0, ysum_1, ysum_4, true_and, and_true, Nat.reduceAdd, Nat.reduceLeDiff, true_implies, eq_self, true_or, or_true, or_false, false_or, not_true_eq_false, not_false_eq_true, false_implies, implies_true, yset_s, yset_o, yset_d, ne_eq, Nat.reduceEqDiff, Int.reduceToNat, Int.reduceEq, Int.reduceLE, Int.reduceLT, Classical.not_not, Nat.reduceLT, ↓zvk_s, ↓zvk_n, ↓s_61_0, ↓s_61_1, ↓s_61_2_22, ↓s_61_2_48, ↓s_61_5, ↓s_61_6, ↓s_61_7_22, ↓s_61_7_48, ↓s_61_10, ↓s_61_11_22, ↓s_61_11_48, ↓s_61_14, ↓s_61_15, ↓s_61_18, ↓s_61_19_22, ↓s_61_19_48, ↓s_61_22, ↓s_61_23, ↓s_61_26, zio_48, zar_51, zia_51, zln_51, zit_51, zar_52, zia_52, zln_52, zit_52, zio_22, zar_25, zia_25, zln_25, zit_25, zar_26, zia_26, zln_26, zit_26]
  refine g_fill hE (by (first | exact Nat.le_of_ble_eq_true rfl | exact (fun h => absurd h.1 (by decide)) | omega)) (z := 52) (L := 5) (by decide) (by decide) (by decide) (by decide) (fun m2 F2 V2 => ?_)
  refine zgk_n hE xmo_61 60 [] ?_
  simp only [ynok_30, ynok_31, w32c_0, w32c_1, w32c_2, w32c_3, w32c_4, w32c_5, w32c_6, w32c_7, w32c_8, w32c_9, w32c_10, w32c_11, w32c_12, w32c_13, w32c_14, w32c_m1, w32c_m2, w32c_118, Int.reduceAdd, Int.reduceSub, Int.reduceMul, yput_s, yput_n, znl_n, znl_0, znl_1, znl_4, ysum_n, ysum_0, ysum_1, ysum_4, true_and, and_true, Nat.reduceAdd, Nat.reduceLeDiff, true_implies, eq_self, true_or, or_true, or_false, false_or, not_true_eq_false, not_false_eq_true, false_implies, implies_true, yset_s, yset_o, yset_d, ne_eq, Nat.reduceEqDiff, Int.reduceToNat, Int.reduceEq, Int.reduceLE, Int.reduceLT, Classical.not_not, Nat.reduceLT, ↓zvk_s, ↓zvk_n, ↓s_61_0, ↓s_61_1, ↓s_61_2_22, ↓s_61_2_48, ↓s_61_5, ↓s_61_6, ↓s_61_7_22, ↓s_61_7_48, ↓s_61_10, ↓s_61_11_22, ↓s_61_11_48, ↓s_61_14, ↓s_61_15, ↓s_61_18, ↓s_61_19_22, ↓s_61_19_48, ↓s_61_22, ↓s_61_23, ↓s_61_26, zio_48, zar_51, zia_51, zln_51, zit_51, zar_52, zia_52, zln_52, zit_52, zio_22, zar_25, zia_25, zln_25, zit_25, zar_26, zia_26, zln_26, zit_26]
  have k : ∀ i j, i ≠ 51 → i ≠ 52 → m2 i j = yset (yset mem 48 4 0) 48 8 0 i j := fun i j h1 h2 => by rw [F2 i j h2, F1 i j h1]
  refine hQ m2 (fun i j h1 h2 h3 => by rw [k i j h2 h3, yset_o h1, yset_o h1]) ?_ ?_ (fun j hj => ⟨?_, ?_⟩)
  · rw [k 48 4 (by decide) (by decide), yset_d (by decide), yset_s]; exact w32c_0
  · rw [k 48 8 (by decide) (by decide), yset_s]; exact w32c_0
  · rw [F2 51 j (by decide)]
    have := V1 j hj
    rw [show m1 51 j = 0 from this]; exact w32c_0
  · have := V2 j hj
    rw [show m2 52 j = 0 from this]; exact w32c_0
theorem g_hclr (hE : yEok E) {D : Nat} (hD : 6 ≤ D) (hQ : ∀ m', (∀ i j, (i < 28 ∨ 53 < i) → m' i j = mem i j) → w32 (m' 29 1) = 0 → w32 (m' 31 1) = 0 → w32 (m' 33 1) = 0 → w32 (m' 35 1) = 0 → w32 (m' 28 16) = 0 → w32 (m' 28 17) = 0 → w32 (m' 28 18) = 0 → w32 (m' 48 4) = 0 → w32 (m' 48 8) = 0 → (∀ j, j < 5 → w32 (m' 51 j) = 0 ∧ w32 (m' 52 j) = 0) → Q none m') : yCon E D xm_77 [(1, 28)] mem Q := by
  obtain ⟨d, rfl⟩ := Nat.exists_eq_add_of_le' hD
  refine e_77 ?_
  refine zvc_ok hE 60 [] _ _ _ _ _ _ _ xmo_77 ?_
  simp only [ynok_30, ynok_31, w32c_0, w32c_1, w32c_2, w32c_3, w32c_4, w32c_5, w32c_6, w32c_7, w32c_8, w32c_9, w32c_10, w32c_11, w32c_12, w32c_13, w32c_14, w32c_m1, w32c_m2, w32c_118, Int.reduceAdd, Int.reduceSub, Int.reduceMul, yput_s, yput_n, znl_n, znl_0, znl_1, znl_4, ysum_n, ysum_0, ysum_1, ysum_4, true_and, and_true, Nat.reduceAdd, Nat.reduceLeDiff, true_implies, eq_self, true_or, or_true, or_false, false_or, not_true_eq_false, not_false_eq_true, false_implies, implies_true, yset_s, yset_o, yset_d, ne_eq, Nat.reduceEqDiff, Int.reduceToNat, Int.reduceEq, Int.reduceLE, Int.reduceLT, Classical.not_not, Nat.reduceLT, ↓zvk_s, ↓zvk_n, ↓s_77_0, ↓s_77_1_2, ↓s_77_1_28, ↓s_77_4, ↓s_77_5_3, ↓s_77_5_5, ↓s_77_5_7, ↓s_77_5_9, ↓s_77_5_29, ↓s_77_5_31, ↓s_77_5_33, ↓s_77_5_35, ↓s_77_8, ↓s_77_9_2, ↓s_77_9_28, ↓s_77_12, ↓s_77_13_3, ↓s_77_13_5, ↓s_77_13_7, ↓s_77_13_9, ↓s_77_13_29, ↓s_77_13_31, ↓s_77_13_33, ↓s_77_13_35, ↓s_77_16, ↓s_77_17_2, ↓s_77_17_28, ↓s_77_20, ↓s_77_21_3, ↓s_77_21_5, ↓s_77_21_7, ↓s_77_21_9, ↓s_77_21_29, ↓s_77_21_31, ↓s_77_21_33, ↓s_77_21_35, ↓s_77_24, ↓s_77_25_2, ↓s_77_25_28, ↓s_77_28, ↓s_77_29_3, ↓s_77_29_5, ↓s_77_29_7, ↓s_77_29_9, ↓s_77_29_29, ↓s_77_29_31, ↓s_77_29_33, ↓s_77_29_35, ↓s_77_32, ↓s_77_33_2, ↓s_77_33_28, ↓s_77_36, ↓s_77_39, ↓s_77_40, ↓s_77_41_2, ↓s_77_41_28, ↓s_77_44, ↓s_77_45, ↓s_77_46_2, ↓s_77_46_28, ↓s_77_49, ↓s_77_50, ↓s_77_51_2, ↓s_77_51_28, ↓s_77_54, zio_33, zio_2, zio_3, zio_35, zio_5, zio_7, zio_9, zio_48, zio_22, zio_28, zio_29, zio_31]
  refine g_fclr hE (by (first | exact Nat.le_of_ble_eq_true rfl | exact (fun h => absurd h.1 (by decide)) | omega)) (fun m1 F1 h4 h8 h5 => ?_)
  refine zgk_n hE xmo_77 60 [] ?_
  simp only [ynok_30, ynok_31, w32c_0, w32c_1, w32c_2, w32c_3, w32c_4, w32c_5, w32c_6, w32c_7, w32c_8, w32c_9, w32c_10, w32c_11, w32c_12, w32c_13, w32c_14, w32c_m1, w32c_m2, w32c_118, Int.reduceAdd, Int.reduceSub, Int.reduceMul, yput_s, yput_n, znl_n, znl_0, znl_1, znl_4, ysum_n, ysum_0, ysum_1, ysum_4, true_and, and_true, Nat.reduceAdd, Nat.reduceLeDiff, true_implies, eq_self, true_or, or_true, or_false, false_or, not_true_eq_false, not_false_eq_true, false_implies, implies_true, yset_s, yset_o, yset_d, ne_eq, Nat.reduceEqDiff, Int.reduceToNat, Int.reduceEq, Int.reduceLE, Int.reduceLT, Classical.not_not, Nat.reduceLT, ↓zvk_s, ↓zvk_n, ↓s_77_0, ↓s_77_1_2, ↓s_77_1_28, ↓s_77_4, ↓s_77_5_3, ↓s_77_5_5, ↓s_77_5_7, ↓s_77_5_9, ↓s_77_5_29, ↓s_77_5_31, ↓s_77_5_33, ↓s_77_5_35, ↓s_77_8, ↓s_77_9_2, ↓s_77_9_28, ↓s_77_12, ↓s_77_13_3, ↓s_77_13_5, ↓s_77_13_7, ↓s_77_13_9, ↓s_77_13_29, ↓s_77_13_31, ↓s_77_13_33, ↓s_77_13_35, ↓s_77_16, ↓s_77_17_2, ↓s_77_17_28, ↓s_77_20, ↓s_77_21_3, ↓s_77_21_5, ↓s_77_21_7, ↓s_77_21_9, ↓s_77_21_29, ↓s_77_21_31, ↓s_77_21_33, ↓s_77_21_35, ↓s_77_24, ↓s_77_25_2, ↓s_77_25_28, ↓s_77_28, ↓s_77_29_3, ↓s_77_29_5, ↓s_77_29_7, ↓s_77_29_9, ↓s_77_29_29, ↓s_77_29_31, ↓s_77_29_33, ↓s_77_29_35, ↓s_77_32, ↓s_77_33_2, ↓s_77_33_28, ↓s_77_36, ↓s_77_39, ↓s_77_40, ↓s_77_41_2, ↓s_77_41_28, ↓s_77_44, ↓s_77_45, ↓s_77_46_2, ↓s_77_46_28, ↓s_77_49, ↓s_77_50, ↓s_77_51_2, ↓s_77_51_28, ↓s_77_54, zio_33, zio_2, zio_3, zio_35, zio_5, zio_7, zio_9, zio_48, zio_22, zio_28, zio_29, zio_31]
  have k : ∀ i j, i ≠ 28 → yset (yset (yset m1 28 16 0) 28 17 0) 28 18 0 i j = m1 i j := fun i j h => by rw [yset_o h, yset_o h, yset_o h]
  refine hQ _ (fun i j hij => ?_) ?_ ?_ ?_ ?_ ?_ ?_ ?_ ?_ ?_ (fun j hj => ?_)
  · rw [k i j (by (first | exact Nat.le_of_ble_eq_true rfl | exact (fun h => absurd h.1 (by decide)) | omega)), F1 i j (by (first | exact Nat.le_of_ble_eq_true rfl | exact (fun h => absurd h.1 (by decide)) | omega)) (by (first | exact Nat.le_of_ble_eq_true rfl | exact (fun h => absurd h.1 (by decide)) | omega)) (by (first | exact Nat.le_of_ble_eq_true rfl | exact (fun h => absurd h.1 (by decide)) | omega)), yset_o (by (first | exact Nat.le_of_ble_eq_true rfl | exact (fun h => absurd h.1 (by decide)) | omega)), yset_o (by (first | exact Nat.le_of_ble_eq_true rfl | exact (fun h => absurd h.1 (by decide)) | omega)), yset_o (by (first | exact Nat.le_of_ble_eq_true rfl | exact (fun h => absurd h.1 (by decide)) | omega)), yset_o (by (first | exact Nat.le_of_ble_eq_true rfl | exact (fun h => absurd h.1 (by decide)) | omega))]
  · rw [k 29 1 (by decide), F1 29 1 (by decide) (by decide) (by decide), yset_o (by decide), yset_o (by decide), yset_o (by decide), yset_s]; exact w32c_0
  · rw [k 31 1 (by decide), F1 31 1 (by decide) (by decide) (by decide), yset_o (by decide), yset_o (by decide), yset_s]; exact w32c_0
  · rw [k 33 1 (by decide), F1 33 1 (by decide) (by decide) (by decide), yset_o (by decide), yset_s]; exact w32c_0
  · rw [k 35 1 (by decide), F1 35 1 (by decide) (by decide) (by decide), yset_s]; exact w32c_0
  · rw [yset_d (by decide), yset_d (by decide), yset_s]; exact w32c_0
  · rw [yset_d (by decide), yset_s]; exact w32c_0
  · rw [yset_s]; exact w32c_0
  · rw [k 48 4 (by decide)]; exact h4
  · rw [k 48 8 (by decide)]; exact h8
  · rw [k 51 j (by decide), k 52 j (by decide)]; exact h5 j hj
end CY
end
section
section CZ
variable {E : yE} {mem b m : yMem} {Q : Option yV → yMem → Prop} {ch : Nat → Int} {n : Nat} {N : Int}
theorem dD0_of {m : yMem} (h29 : w32 (m 29 1) = 0) (h31 : w32 (m 31 1) = 0) (h33 : w32 (m 33 1) = 0) (h35 : w32 (m 35 1) = 0) (h16 : w32 (m 28 16) = 0) (h17 : w32 (m 28 17) = 0) (h18 : w32 (m 28 18) = 0) (h4 : w32 (m 48 4) = 0) (h8 : w32 (m 48 8) = 0) (h5 : ∀ j, j < 5 → w32 (m 51 j) = 0 ∧ w32 (m 52 j) = 0) (p2 : w32 (m 54 2) = 0) (p3 : w32 (m 54 3) = 0) : cDc m dD0 :=
  ⟨⟨⟨h29, Nat.zero_le _, fun j hj => absurd hj (Nat.not_lt_zero _)⟩, fun j t ht => (by cases ht)⟩, ⟨⟨h31, Nat.zero_le _, fun j hj => absurd hj (Nat.not_lt_zero _)⟩, h16, fun t ht => (by cases ht), fun j t ht => (by cases ht)⟩, ⟨⟨h33, Nat.zero_le _, fun j hj => absurd hj (Nat.not_lt_zero _)⟩, fun j t ht => (by cases ht)⟩, ⟨⟨h35, Nat.zero_le _, fun j hj => absurd hj (Nat.not_lt_zero _)⟩, fun j t ht => (by cases ht)⟩, ⟨p2, h17⟩, ⟨p3, h18⟩, fun j hj => h5 j hj, ⟨h4, trivial⟩, h8, Nat.le_refl 0, Nat.zero_le _⟩
/-- THE CLASS'S tell: all of a TEXT -/
theorem g_tell (hE : yEok E) {D : Nat} (hD : 14 ≤ D) (hB : cBy mem ch) (hW : cWd mem) (hN : w32 N = (n : Int)) (hn : n ≤ 800) (hQ : ∀ m l r, tlF' mem m → sTl ch n l 0 → cAt ch n m (pTx (l.length + 1) (.inr l) dD0 0).1 (pTx (l.length + 1) (.inr l) dD0 0).2.1 → w32 r = (pTx (l.length + 1) (.inr l) dD0 0).2.2 → Q (some (0, r)) m) : yCon E D xm_120 [(1, 54), (0, N)] mem Q := by
  obtain ⟨d, rfl⟩ := Nat.exists_eq_add_of_le' hD
  refine e_120 ?_
  refine zvc_ok hE 60 zc_120 _ _ _ _ _ _ _ xmo_120 ?_
  simp only [ynok_30, ynok_31, w32c_0, w32c_1, w32c_2, w32c_3, w32c_4, w32c_5, w32c_6, w32c_7, w32c_8, w32c_9, w32c_10, w32c_11, w32c_12, w32c_13, w32c_14, w32c_m1, w32c_m2, w32c_118, Int.reduceAdd, Int.reduceSub, Int.reduceMul, yput_s, yput_n, znl_n, znl_0, znl_1, znl_4, ysum_n, ysum_0, ysum_1, ysum_4, true_and, and_true, Nat.reduceAdd, Nat.reduceLeDiff, true_implies, eq_self, true_or, or_true, or_false, false_or, not_true_eq_false, not_false_eq_true, false_implies, implies_true, yset_s, yset_o, yset_d, ne_eq, Nat.reduceEqDiff, Int.reduceToNat, Int.reduceEq, Int.reduceLE, Int.reduceLT, Classical.not_not, Nat.reduceLT, ↓zvk_s, ↓zvk_n, ↓s_120_0, ↓s_120_1, ↓s_120_4, ↓s_120_7, ↓s_120_8, ↓s_120_9, ↓s_120_12, ↓s_120_13, ↓s_120_14, ↓s_120_17, ↓s_120_18, ↓s_120_21, ↓s_120_22, ↓s_120_25, ↓s_120_26n, ↓s_120_26i, ↓s_120_26p, ↓s_120_27, ↓s_120_28n, ↓s_120_28i, ↓s_120_28p, ↓g_120_29, ↓k_120_29, ↓s_120_30, ↓s_120_33, ↓s_120_36, ↓s_120_37, ↓s_120_40, ↓s_120_43, ↓s_120_46, ↓s_120_47, ↓s_120_50, ↓s_120_53, ↓s_120_96, ↓s_120_97, ↓s_120_100, ↓s_120_103, ↓s_120_104, ↓s_120_107, ↓s_120_110, ↓s_120_111, ↓s_120_114, ↓s_120_117, ↓s_120_118, ↓s_120_121, ↓s_120_124, ↓s_120_125, ↓s_120_128, ↓s_120_129, ↓s_120_130, ↓s_120_133, ↓s_120_136, ↓s_120_139_2, ↓s_120_139_28, ↓s_120_142, ↓s_120_143, ↓s_120_144, ↓s_120_147, ↓s_120_150, ↓s_120_151, ↓s_120_154, ↓s_120_155, ↓s_120_156, ↓s_120_159, ↓s_120_161, ↓s_120_164_2, ↓s_120_164_28, ↓s_120_167, ↓s_120_168, ↓s_120_169, ↓s_120_172, ↓s_120_175, ↓s_120_176, ↓s_120_179, ↓s_120_182, ↓s_120_183, ↓s_120_186, ↓s_120_187, ↓s_120_190a, ↓s_120_190b, ↓g_120_191, ↓k_120_191, ↓s_120_192, ↓s_120_193, ↓s_120_196, ↓s_120_199n, ↓s_120_199i, ↓s_120_199p, ↓s_120_202, ↓s_120_205, ↓s_120_206, ↓s_120_209, ↓s_120_210, ↓s_120_213a, ↓s_120_213b, ↓g_120_214n, ↓g_120_214i, ↓g_120_214p, ↓k_120_214, ↓s_120_217, ↓g_120_220, ↓k_120_220, ↓s_120_221, w32c_800, w32c_999, w32c_99999, zio_2, zio_54, zio_55, zio_28]
  refine g_hclr hE (by (first | exact Nat.le_of_ble_eq_true rfl | exact (fun h => absurd h.1 (by decide)) | omega)) (fun m1 F1 h29 h31 h33 h35 h16 h17 h18 h4 h8 h5 => ?_)
  refine zgk_n hE xmo_120 60 zc_120 ?_
  simp only [ynok_30, ynok_31, w32c_0, w32c_1, w32c_2, w32c_3, w32c_4, w32c_5, w32c_6, w32c_7, w32c_8, w32c_9, w32c_10, w32c_11, w32c_12, w32c_13, w32c_14, w32c_m1, w32c_m2, w32c_118, Int.reduceAdd, Int.reduceSub, Int.reduceMul, yput_s, yput_n, znl_n, znl_0, znl_1, znl_4, ysum_n, ysum_0, ysum_1, ysum_4, true_and, and_true, Nat.reduceAdd, Nat.reduceLeDiff, true_implies, eq_self, true_or, or_true, or_false, false_or, not_true_eq_false, not_false_eq_true, false_implies, implies_true, yset_s, yset_o, yset_d, ne_eq, Nat.reduceEqDiff, Int.reduceToNat, Int.reduceEq, Int.reduceLE, Int.reduceLT, Classical.not_not, Nat.reduceLT, ↓zvk_s, ↓zvk_n, ↓s_120_0, ↓s_120_1, ↓s_120_4, ↓s_120_7, ↓s_120_8, ↓s_120_9, ↓s_120_12, ↓s_120_13, ↓s_120_14, ↓s_120_17, ↓s_120_18, ↓s_120_21, ↓s_120_22, ↓s_120_25, ↓s_120_26n, ↓s_120_26i, ↓s_120_26p, ↓s_120_27, ↓s_120_28n, ↓s_120_28i, ↓s_120_28p, ↓g_120_29, ↓k_120_29, ↓s_120_30, ↓s_120_33, ↓s_120_36, ↓s_120_37, ↓s_120_40, ↓s_120_43, ↓s_120_46, ↓s_120_47, ↓s_120_50, ↓s_120_53, ↓s_120_96, ↓s_120_97, ↓s_120_100, ↓s_120_103, ↓s_120_104, ↓s_120_107, ↓s_120_110, ↓s_120_111, ↓s_120_114, ↓s_120_117, ↓s_120_118, ↓s_120_121, ↓s_120_124, ↓s_120_125, ↓s_120_128, ↓s_120_129, ↓s_120_130, ↓s_120_133, ↓s_120_136, ↓s_120_139_2, ↓s_120_139_28, ↓s_120_142, ↓s_120_143, ↓s_120_144, ↓s_120_147, ↓s_120_150, ↓s_120_151, ↓s_120_154, ↓s_120_155, ↓s_120_156, ↓s_120_159, ↓s_120_161, ↓s_120_164_2, ↓s_120_164_28, ↓s_120_167, ↓s_120_168, ↓s_120_169, ↓s_120_172, ↓s_120_175, ↓s_120_176, ↓s_120_179, ↓s_120_182, ↓s_120_183, ↓s_120_186, ↓s_120_187, ↓s_120_190a, ↓s_120_190b, ↓g_120_191, ↓k_120_191, ↓s_120_192, ↓s_120_193, ↓s_120_196, ↓s_120_199n, ↓s_120_199i, ↓s_120_199p, ↓s_120_202, ↓s_120_205, ↓s_120_206, ↓s_120_209, ↓s_120_210, ↓s_120_213a, ↓s_120_213b, ↓g_120_214n, ↓g_120_214i, ↓g_120_214p, ↓k_120_214, ↓s_120_217, ↓g_120_220, ↓k_120_220, ↓s_120_221, w32c_800, w32c_999, w32c_99999, zio_2, zio_54, zio_55, zio_28]
  have k : ∀ i j, i ≠ 54 → yset (yset m1 54 2 0) 54 3 0 i j = m1 i j := fun i j h => by rw [yset_o h, yset_o h]
  have D1 : cDc (yset (yset m1 54 2 0) 54 3 0) dD0 := dD0_of (by rw [k 29 1 (by decide)]; exact h29) (by rw [k 31 1 (by decide)]; exact h31) (by rw [k 33 1 (by decide)]; exact h33) (by rw [k 35 1 (by decide)]; exact h35) (by rw [k 28 16 (by decide)]; exact h16) (by rw [k 28 17 (by decide)]; exact h17) (by rw [k 28 18 (by decide)]; exact h18) (by rw [k 48 4 (by decide)]; exact h4) (by rw [k 48 8 (by decide)]; exact h8) (fun j hj => by rw [k 51 j (by decide), k 52 j (by decide)]; exact h5 j hj) (by rw [yset_d (by decide), yset_s]; exact w32c_0) (by rw [yset_s]; exact w32c_0)
  have R1 : tlF' mem (yset (yset m1 54 2 0) 54 3 0) := fun i j hij => by rw [k i j (by (first | exact Nat.le_of_ble_eq_true rfl | exact (fun h => absurd h.1 (by decide)) | omega))]; exact F1 i j (by (first | exact Nat.le_of_ble_eq_true rfl | exact (fun h => absurd h.1 (by decide)) | omega))
  revert D1 R1
  generalize yset (yset m1 54 2 0) 54 3 0 = m2
  intro D1 R1
  refine g_start hE (by (first | exact Nat.le_of_ble_eq_true rfl | exact (fun h => absurd h.1 (by decide)) | omega)) (fun j => by rw [R1 1 j (by decide)]; exact hB j) (fun i hi => by rw [R1 56 i (by decide)]; exact hW i hi) hN hn (fun m3 l F3 hl T3 => ?_)
  refine zgk_n hE xmo_120 60 zc_120 ?_
  simp only [ynok_30, ynok_31, w32c_0, w32c_1, w32c_2, w32c_3, w32c_4, w32c_5, w32c_6, w32c_7, w32c_8, w32c_9, w32c_10, w32c_11, w32c_12, w32c_13, w32c_14, w32c_m1, w32c_m2, w32c_118, Int.reduceAdd, Int.reduceSub, Int.reduceMul, yput_s, yput_n, znl_n, znl_0, znl_1, znl_4, ysum_n, ysum_0, ysum_1, ysum_4, true_and, and_true, Nat.reduceAdd, Nat.reduceLeDiff, true_implies, eq_self, true_or, or_true, or_false, false_or, not_true_eq_false, not_false_eq_true, false_implies, implies_true, yset_s, yset_o, yset_d, ne_eq, Nat.reduceEqDiff, Int.reduceToNat, Int.reduceEq, Int.reduceLE, Int.reduceLT, Classical.not_not, Nat.reduceLT, ↓zvk_s, ↓zvk_n, ↓s_120_0, ↓s_120_1, ↓s_120_4, ↓s_120_7, ↓s_120_8, ↓s_120_9, ↓s_120_12, ↓s_120_13, ↓s_120_14, ↓s_120_17, ↓s_120_18, ↓s_120_21, ↓s_120_22, ↓s_120_25, ↓s_120_26n, ↓s_120_26i, ↓s_120_26p, ↓s_120_27, ↓s_120_28n, ↓s_120_28i, ↓s_120_28p, ↓g_120_29, ↓k_120_29, ↓s_120_30, ↓s_120_33, ↓s_120_36, ↓s_120_37, ↓s_120_40, ↓s_120_43, ↓s_120_46, ↓s_120_47, ↓s_120_50, ↓s_120_53, ↓s_120_96, ↓s_120_97, ↓s_120_100, ↓s_120_103, ↓s_120_104, ↓s_120_107, ↓s_120_110, ↓s_120_111, ↓s_120_114, ↓s_120_117, ↓s_120_118, ↓s_120_121, ↓s_120_124, ↓s_120_125, ↓s_120_128, ↓s_120_129, ↓s_120_130, ↓s_120_133, ↓s_120_136, ↓s_120_139_2, ↓s_120_139_28, ↓s_120_142, ↓s_120_143, ↓s_120_144, ↓s_120_147, ↓s_120_150, ↓s_120_151, ↓s_120_154, ↓s_120_155, ↓s_120_156, ↓s_120_159, ↓s_120_161, ↓s_120_164_2, ↓s_120_164_28, ↓s_120_167, ↓s_120_168, ↓s_120_169, ↓s_120_172, ↓s_120_175, ↓s_120_176, ↓s_120_179, ↓s_120_182, ↓s_120_183, ↓s_120_186, ↓s_120_187, ↓s_120_190a, ↓s_120_190b, ↓g_120_191, ↓k_120_191, ↓s_120_192, ↓s_120_193, ↓s_120_196, ↓s_120_199n, ↓s_120_199i, ↓s_120_199p, ↓s_120_202, ↓s_120_205, ↓s_120_206, ↓s_120_209, ↓s_120_210, ↓s_120_213a, ↓s_120_213b, ↓g_120_214n, ↓g_120_214i, ↓g_120_214p, ↓k_120_214, ↓s_120_217, ↓g_120_220, ↓k_120_220, ↓s_120_221, w32c_800, w32c_999, w32c_99999, zio_2, zio_54, zio_55, zio_28]
  have hlen := sTl_len (Nat.zero_le n) hl
  have D3 : cDc m3 dD0 := by
    obtain ⟨c1, c2, c3, c4, c5, c6, c7⟩ := D1
    exact ⟨cTv_fr c1 (F3 29 1 rfl) (fun j => F3 30 j rfl) (fun j => F3 37 j rfl) (fun j => F3 38 j rfl), cVo_fr c2 (F3 31 1 rfl) (fun j => F3 32 j rfl) (F3 28 16 rfl) (fun j => F3 39 j rfl) (fun j => F3 40 j rfl) (fun j => F3 41 j rfl) (fun j => F3 42 j rfl) (fun j => F3 43 j rfl), cVe_fr c3 (F3 33 1 rfl) (fun j => F3 34 j rfl) (fun j => F3 44 j rfl) (fun j => F3 45 j rfl) (fun j => F3 46 j rfl), cBk_fr c4 (F3 35 1 rfl) (fun j => F3 36 j rfl) (fun j => F3 47 j rfl), ⟨by rw [F3 54 2 rfl]; exact c5.1, by rw [F3 28 17 rfl]; exact c5.2⟩, ⟨by rw [F3 54 3 rfl]; exact c6.1, by rw [F3 28 18 rfl]; exact c6.2⟩, cFs_fr c7 (fun j => F3 51 j rfl) (fun j => F3 52 j rfl) (F3 48 4 rfl) (F3 48 8 rfl) (fun j => F3 49 j rfl) (fun j => F3 50 j rfl)⟩
  have hsz : ySz (.inr l) = l.length := rfl
  exact gxl (b := mem) hE (by (first | exact Nat.le_of_ble_eq_true rfl | exact (fun h => absurd h.1 (by decide)) | omega)) (l.length + 1) (.inr l) dD0 m3 0 0 0 (by rw [hsz]; (first | exact Nat.le_of_ble_eq_true rfl | exact (fun h => absurd h.1 (by decide)) | omega)) (tlF_w R1 F3 (by decide)) ⟨T3, fun _ _ => D3⟩ w32c_0 (by decide) (by decide) (by decide) (fun _ => by rw [w32c_0, hsz]; (first | exact Nat.le_of_ble_eq_true rfl | exact (fun h => absurd h.1 (by decide)) | omega)) (fun m' r g1 g2 g3 => hQ m' l r g1 hl g2 g3)
end CZ
end
section
/-! THE REFERENCE: a state -/
def rTk (ch : Nat → Int) (n : Nat) (mem : yMem) (x : sY) : Prop := w32 (mem 95 26) = (n : Int) ∧ n ≤ 800 ∧ (∀ j, w32 (mem 96 j) = ch j ∧ 0 ≤ ch j ∧ ch j ≤ 255) ∧ match x with
  | .inl e => w32 (mem 95 31) = (e.1 : Int) ∧ e.1 ≠ 0 ∧ w32 (mem 95 32) = (e.2 : Int)
  | .inr l => w32 (mem 95 31) = 0 ∧ ∃ e : Nat, (w32 (mem 95 27) = (e : Int) ∧ w32 (mem 95 32) = -1) ∧ sCu ch n l e ∧ w32 (mem 95 28) = (((sHd l).2.1 : Nat) : Int) ∧ sRk (w32 (mem 95 29)) (w32 (mem 95 30)) (sHd l).1 (sHd l).2.2
theorem rTk_of {ch : Nat → Int} {n : Nat} {mem m : yMem} {x : sY} (h : rTk ch n mem x) (h26 : ∀ j, 26 ≤ j → j ≤ 32 → m 95 j = mem 95 j) (h96 : ∀ j, m 96 j = mem 96 j) : rTk ch n m x := by
  obtain ⟨a1, a2, a3, a4⟩ := h
  refine ⟨by rw [h26 26 (by decide) (by decide)]; exact a1, a2, fun j => by rw [h96]; exact a3 j, ?_⟩
  cases x with
  | inl e =>
    obtain ⟨b1, b2, b3⟩ := a4
    exact ⟨by rw [h26 31 (by decide) (by decide)]; exact b1, b2, by rw [h26 32 (by decide) (by decide)]; exact b3⟩
  | inr l =>
    obtain ⟨b1, e, b2, b3, b4, b5⟩ := a4
    exact ⟨by rw [h26 31 (by decide) (by decide)]; exact b1, e, ⟨by rw [h26 27 (by decide) (by decide)]; exact b2.1, by rw [h26 32 (by decide) (by decide)]; exact b2.2⟩, b3, by rw [h26 28 (by decide) (by decide)]; exact b4, by rw [h26 29 (by decide) (by decide), h26 30 (by decide) (by decide)]; exact b5⟩
section RA
variable {E : yE} {mem : yMem} {Q : Option yV → yMem → Prop} {ch : Nat → Int} {n : Nat} {x : sY} {l : List sT}
theorem rf_token (hE : yEok E) {D : Nat} (hD : 6 ≤ D) (h : rTk ch n mem (.inr l)) (hQ : ∀ m, aFrm tkF mem m → rTk ch n m (.inr (sNx l)) → Q none m) : yCon E D xm_244 [(1, 95)] mem Q := by
  obtain ⟨a1, a2, a3, b1, e, b2, b3, b4, b5⟩ := h
  obtain ⟨c1, c2⟩ := sCu_nx b3
  have ec : rsz mem = n := by show (w32 (mem 95 26)).toNat = n; rw [a1]; exact Int.toNat_natCast _
  have ea : rat mem = e := by show (w32 (mem 95 27)).toNat = e; rw [b2.1]; exact Int.toNat_natCast _
  have eh : rch mem = ch := funext fun j => (a3 j).1
  refine f_token hE hD (by (first | exact Nat.le_of_ble_eq_true rfl | exact (fun h => absurd h.1 (by decide)) | omega)) (by (first | exact Nat.le_of_ble_eq_true rfl | exact (fun h => absurd h.1 (by decide)) | omega)) (by (first | exact Nat.le_of_ble_eq_true rfl | exact (fun h => absurd h.1 (by decide)) | omega)) (fun j => by rw [(a3 j).1]; exact (a3 j).2) (fun m k p v e' F ht h7 h8 h9 => ?_)
  rw [ec, ea, eh] at ht
  obtain ⟨t1, t2⟩ := sTl_cu c1 ht
  refine hQ m F ⟨by rw [F 95 26 rfl]; exact a1, a2, fun j => by rw [F 96 j rfl]; exact a3 j, by rw [F 95 31 rfl]; exact b1, e', ⟨h7, by rw [F 95 32 rfl]; exact b2.2⟩, t2, by rw [t1]; exact h8, by rw [t1]; exact h9⟩
theorem rf_wr0 {f : Nat} {F : Int} (h : rTk ch n mem x) (hF : w32 F = (f : Int)) (h0 : f ≠ 0) (hf : w32 (mem 95 31) = 0) : rTk ch n (yset (yset mem 95 31 F) 95 32 (mem 95 28)) (yFl f x) := by
  cases x with
  | inl e => exact absurd hf (by have := h.2.2.2.1; have := h.2.2.2.2.1; (first | exact Nat.le_of_ble_eq_true rfl | exact (fun h => absurd h.1 (by decide)) | omega))
  | inr l =>
    obtain ⟨a1, a2, a3, b1, e, b2, b3, b4, b5⟩ := h
    exact ⟨by rw [yset_d (by decide), yset_d (by decide)]; exact a1, a2, fun j => by rw [yset_o (by decide), yset_o (by decide)]; exact a3 j, by rw [yset_d (by decide), yset_s]; exact hF, h0, by rw [yset_s]; exact b4⟩
theorem sRk_2 {so va v : Int} {k : Nat} (h : sRk so va k v) : so = 2 ↔ k = 2 := by
  unfold sRk at h
  (first | exact Nat.le_of_ble_eq_true rfl | exact (fun h => absurd h.1 (by decide)) | omega)
theorem sRk_v {so va v : Int} {k : Nat} (h : sRk so va k v) (hk : k = 2) : 0 ≤ va ∧ min va 100000 = v := by
  unfold sRk at h
  (first | exact Nat.le_of_ble_eq_true rfl | exact (fun h => absurd h.1 (by decide)) | omega)
theorem yKd_r (l : List sT) : yKd (.inr l) = (sHd l).1 := rfl
theorem yVl_r (l : List sT) : yVl (.inr l) = (sHd l).2.2 := rfl
abbrev rnF : List (Nat × Nat) := [(95, 28), (95, 29), (95, 30), (95, 31), (95, 32), (95, 33)]
theorem rf_numeral (hE : yEok E) {D : Nat} (hD : 8 ≤ D) {a b : Int} (h : rTk ch n mem x) (ha : w32 a ≤ 99999) (hb : w32 b ≤ 99999) (hQ : ∀ r m, aFrm rnF mem m → w32 r = (yNm (w32 a) (w32 b) x).1 → rTk ch n m (yNm (w32 a) (w32 b) x).2 → Q (some (0, r)) m) : yCon E D xm_212 [(1, 95), (0, a), (0, b)] mem Q := by
  obtain ⟨d, rfl⟩ := Nat.exists_eq_add_of_le' hD
  refine e_212 ?_
  refine zvc_ok hE 60 [] _ _ _ _ _ _ _ xmo_212 ?_
  cases x with
  | inl e =>
    have hz : ¬ w32 (mem 95 31) = 0 := by have := h.2.2.2.1; have := h.2.2.2.2.1; (first | exact Nat.le_of_ble_eq_true rfl | exact (fun h => absurd h.1 (by decide)) | omega)
    simp only [ynok_30, ynok_31, w32c_0, w32c_1, w32c_2, w32c_3, w32c_4, w32c_5, w32c_6, w32c_7, w32c_8, w32c_9, w32c_10, w32c_11, w32c_12, w32c_13, w32c_14, w32c_m1, w32c_m2, w32c_118, Int.reduceAdd, Int.reduceSub, Int.reduceMul, yput_s, yput_n, znl_n, znl_0, znl_1, znl_4, ysum_n, ysum_0, ysum_1, ysum_4, true_and, and_true, Nat.reduceAdd, Nat.reduceLeDiff, true_implies, eq_self, true_or, or_true, or_false, false_or, not_true_eq_false, not_false_eq_true, false_implies, implies_true, yset_s, yset_o, yset_d, ne_eq, Nat.reduceEqDiff, Int.reduceToNat, Int.reduceEq, Int.reduceLE, Int.reduceLT, Classical.not_not, Nat.reduceLT, ↓zvk_s, ↓zvk_n, ↓s_212_0, ↓s_212_1, ↓s_212_4, ↓s_212_7, ↓s_212_8, ↓s_212_9, ↓s_212_10, ↓s_212_13, ↓s_212_14, ↓s_212_17, ↓s_212_18, ↓s_212_19, ↓s_212_22, ↓s_212_25, ↓s_212_26, ↓s_212_29, ↓s_212_30, ↓s_212_33, ↓s_212_34, ↓s_212_37, ↓s_212_38, ↓s_212_41, ↓s_212_42, ↓s_212_43, ↓s_212_46, ↓s_212_47, ↓s_212_50, ↓s_212_53, ↓s_212_54, ↓s_212_55, ↓s_212_56, ↓s_212_59n, ↓s_212_59i, ↓s_212_59p, ↓s_212_60, ↓s_212_61, ↓s_212_64, ↓s_212_65, ↓s_254_0, ↓s_254_1, ↓s_254_4, ↓s_254_7, ↓s_254_8, ↓s_254_9, ↓s_254_10, ↓s_254_13, ↓s_254_14, ↓s_254_15, ↓s_254_18, ↓s_254_21, zio_95, hz]
    exact hQ a mem aFrm_rf rfl h
  | inr l =>
    have hz : w32 (mem 95 31) = 0 := h.2.2.2.1
    simp only [ynok_30, ynok_31, w32c_0, w32c_1, w32c_2, w32c_3, w32c_4, w32c_5, w32c_6, w32c_7, w32c_8, w32c_9, w32c_10, w32c_11, w32c_12, w32c_13, w32c_14, w32c_m1, w32c_m2, w32c_118, Int.reduceAdd, Int.reduceSub, Int.reduceMul, yput_s, yput_n, znl_n, znl_0, znl_1, znl_4, ysum_n, ysum_0, ysum_1, ysum_4, true_and, and_true, Nat.reduceAdd, Nat.reduceLeDiff, true_implies, eq_self, true_or, or_true, or_false, false_or, not_true_eq_false, not_false_eq_true, false_implies, implies_true, yset_s, yset_o, yset_d, ne_eq, Nat.reduceEqDiff, Int.reduceToNat, Int.reduceEq, Int.reduceLE, Int.reduceLT, Classical.not_not, Nat.reduceLT, ↓zvk_s, ↓zvk_n, ↓s_212_0, ↓s_212_1, ↓s_212_4, ↓s_212_7, ↓s_212_8, ↓s_212_9, ↓s_212_10, ↓s_212_13, ↓s_212_14, ↓s_212_17, ↓s_212_18, ↓s_212_19, ↓s_212_22, ↓s_212_25, ↓s_212_26, ↓s_212_29, ↓s_212_30, ↓s_212_33, ↓s_212_34, ↓s_212_37, ↓s_212_38, ↓s_212_41, ↓s_212_42, ↓s_212_43, ↓s_212_46, ↓s_212_47, ↓s_212_50, ↓s_212_53, ↓s_212_54, ↓s_212_55, ↓s_212_56, ↓s_212_59n, ↓s_212_59i, ↓s_212_59p, ↓s_212_60, ↓s_212_61, ↓s_212_64, ↓s_212_65, ↓s_254_0, ↓s_254_1, ↓s_254_4, ↓s_254_7, ↓s_254_8, ↓s_254_9, ↓s_254_10, ↓s_254_13, ↓s_254_14, ↓s_254_15, ↓s_254_18, ↓s_254_21, zio_95, hz]
    have hR : sRk (w32 (mem 95 29)) (w32 (mem 95 30)) (sHd l).1 (sHd l).2.2 := by
      obtain ⟨_, _, _, _, e, _, _, _, b5⟩ := h
      exact b5
    have k2 := sRk_2 hR
    have kv := sRk_v hR
    have wr : ∀ f F, w32 F = ((f : Nat) : Int) → f ≠ 0 → aFrm rnF mem (yset (yset mem 95 31 F) 95 32 (mem 95 28)) ∧ rTk ch n (yset (yset mem 95 31 F) 95 32 (mem 95 28)) (yFl f (.inr l)) := fun f F h1 h2 => ⟨aFrm_set (aFrm_set aFrm_rf rfl) rfl, rf_wr0 h h1 h2 hz⟩
    have B : yKd (.inr l) = 2 → (yVl (.inr l) < w32 a ∨ w32 b < yVl (.inr l)) → Q (some (0, a)) (yset (yset mem 95 31 2) 95 32 (mem 95 28)) := fun q1 q2 => by
      have ep : yNm (w32 a) (w32 b) (.inr l) = (w32 a, yFl 2 (.inr l)) := by unfold yNm; rw [if_pos q1, if_pos q2]
      rw [ep] at hQ
      exact hQ a _ (wr 2 2 (by decide) (by decide)).1 rfl (wr 2 2 (by decide) (by decide)).2
    refine ⟨fun q => ?_, fun q => ?_⟩
    · have q1 : (sHd l).1 = 2 := k2.mp q
      have hv := kv q1
      refine ⟨fun h1 => B q1 (Or.inl (by rw [yVl_r]; (first | exact Nat.le_of_ble_eq_true rfl | exact (fun h => absurd h.1 (by decide)) | omega))), fun h1 => ⟨fun h2 => ?_, fun h2 => B q1 (Or.inr (by rw [yVl_r]; (first | exact Nat.le_of_ble_eq_true rfl | exact (fun h => absurd h.1 (by decide)) | omega)))⟩⟩
      have ep : yNm (w32 a) (w32 b) (.inr l) = (yVl (.inr l), yNx (.inr l)) := by unfold yNm; rw [if_pos (show yKd (.inr l) = 2 from q1), if_neg (by rw [yVl_r]; (first | exact Nat.le_of_ble_eq_true rfl | exact (fun h => absurd h.1 (by decide)) | omega))]
      rw [ep] at hQ
      refine rf_token hE (by (first | exact Nat.le_of_ble_eq_true rfl | exact (fun h => absurd h.1 (by decide)) | omega)) h (fun m F T => ?_)
      refine zgk_n hE xmo_212 60 [] ?_
      simp only [ynok_30, ynok_31, w32c_0, w32c_1, w32c_2, w32c_3, w32c_4, w32c_5, w32c_6, w32c_7, w32c_8, w32c_9, w32c_10, w32c_11, w32c_12, w32c_13, w32c_14, w32c_m1, w32c_m2, w32c_118, Int.reduceAdd, Int.reduceSub, Int.reduceMul, yput_s, yput_n, znl_n, znl_0, znl_1, znl_4, ysum_n, ysum_0, ysum_1, ysum_4, true_and, and_true, Nat.reduceAdd, Nat.reduceLeDiff, true_implies, eq_self, true_or, or_true, or_false, false_or, not_true_eq_false, not_false_eq_true, false_implies, implies_true, yset_s, yset_o, yset_d, ne_eq, Nat.reduceEqDiff, Int.reduceToNat, Int.reduceEq, Int.reduceLE, Int.reduceLT, Classical.not_not, Nat.reduceLT, ↓zvk_s, ↓zvk_n, ↓s_212_0, ↓s_212_1, ↓s_212_4, ↓s_212_7, ↓s_212_8, ↓s_212_9, ↓s_212_10, ↓s_212_13, ↓s_212_14, ↓s_212_17, ↓s_212_18, ↓s_212_19, ↓s_212_22, ↓s_212_25, ↓s_212_26, ↓s_212_29, ↓s_212_30, ↓s_212_33, ↓s_212_34, ↓s_212_37, ↓s_212_38, ↓s_212_41, ↓s_212_42, ↓s_212_43, ↓s_212_46, ↓s_212_47, ↓s_212_50, ↓s_212_53, ↓s_212_54, ↓s_212_55, ↓s_212_56, ↓s_212_59n, ↓s_212_59i, ↓s_212_59p, ↓s_212_60, ↓s_212_61, ↓s_212_64, ↓s_212_65, ↓s_254_0, ↓s_254_1, ↓s_254_4, ↓s_254_7, ↓s_254_8, ↓s_254_9, ↓s_254_10, ↓s_254_13, ↓s_254_14, ↓s_254_15, ↓s_254_18, ↓s_254_21, zio_95]
      refine hQ _ m (aFrm_w F (by decide)) (by show _ = (sHd l).2.2; (first | exact Nat.le_of_ble_eq_true rfl | exact (fun h => absurd h.1 (by decide)) | omega)) T
    · have q1 : ¬ (sHd l).1 = 2 := fun z => q (k2.mpr z)
      have ep : yNm (w32 a) (w32 b) (.inr l) = (w32 a, yFl 1 (.inr l)) := by unfold yNm; rw [if_neg (show ¬ yKd (.inr l) = 2 from q1)]
      rw [ep] at hQ
      exact hQ a _ (wr 1 1 (by decide) (by decide)).1 rfl (wr 1 1 (by decide) (by decide)).2
end RA
end
section
section RB
variable {E : yE} {mem : yMem} {Q : Option yV → yMem → Prop} {d : Nat}
theorem rfd3 (hE : yEok E) {z : Int} {L off : Nat} {a M v : Int} {many : Nat} (hL : zar z 0 = L) (ha : w32 a = (off : Int)) (hm : w32 M = (many : Int)) (hLm : off + many ≤ L) (hL2 : L < 1000) : ∀ (c i : Nat) (I : Int), w32 I = (i : Int) → i + c = many → (∀ r, w32 r = sFd (fun j => w32 (mem z.toNat (off + j))) (w32 v) c i → Q (some (0, r)) mem) → zG E d xm_168 3 [some (1, z), some (0, a), some (0, M), some (0, v), some (0, I)] [] mem Q := by
  intro c
  induction c with
  | zero =>
    intro i I hI hc hQ
    refine zgo_ok (n := 60) hE xmo_168 (cs := zc_168) ?_
    simp only [ynok_30, ynok_31, w32c_0, w32c_1, w32c_2, w32c_3, w32c_4, w32c_5, w32c_6, w32c_7, w32c_8, w32c_9, w32c_10, w32c_11, w32c_12, w32c_13, w32c_14, w32c_m1, w32c_m2, w32c_118, Int.reduceAdd, Int.reduceSub, Int.reduceMul, yput_s, yput_n, znl_n, znl_0, znl_1, znl_4, ysum_n, ysum_0, ysum_1, ysum_4, true_and, and_true, Nat.reduceAdd, Nat.reduceLeDiff, true_implies, eq_self, true_or, or_true, or_false, false_or, not_true_eq_false, not_false_eq_true, false_implies, implies_true, yset_s, yset_o, yset_d, ne_eq, Nat.reduceEqDiff, Int.reduceToNat, Int.reduceEq, Int.reduceLE, Int.reduceLT, Classical.not_not, Nat.reduceLT, ↓zvk_s, ↓zvk_n, ↓s_168_0, ↓s_168_1n, ↓s_168_1i, ↓s_168_1p, ↓g_168_3, ↓k_168_3, ↓s_168_5, ↓s_168_6, ↓s_168_9, ↓s_168_10, ↓s_168_11, ↓s_168_13, ↓s_168_14, ↓s_168_15, ↓s_168_16, ↓s_168_19, ↓s_168_21, ↓s_168_22n, ↓s_168_22i, ↓s_168_22p, ↓s_168_25, ↓s_168_28, ↓s_168_29]
    have hM : w32 M ≤ w32 I := by (first | exact Nat.le_of_ble_eq_true rfl | exact (fun h => absurd h.1 (by decide)) | omega)
    exact ⟨fun _ => hQ (-1) w32c_m1, fun h => absurd hM h⟩
  | succ c ih =>
    intro i I hI hc hQ
    refine zgo_ok (n := 60) hE xmo_168 (cs := zc_168) ?_
    simp only [ynok_30, ynok_31, w32c_0, w32c_1, w32c_2, w32c_3, w32c_4, w32c_5, w32c_6, w32c_7, w32c_8, w32c_9, w32c_10, w32c_11, w32c_12, w32c_13, w32c_14, w32c_m1, w32c_m2, w32c_118, Int.reduceAdd, Int.reduceSub, Int.reduceMul, yput_s, yput_n, znl_n, znl_0, znl_1, znl_4, ysum_n, ysum_0, ysum_1, ysum_4, true_and, and_true, Nat.reduceAdd, Nat.reduceLeDiff, true_implies, eq_self, true_or, or_true, or_false, false_or, not_true_eq_false, not_false_eq_true, false_implies, implies_true, yset_s, yset_o, yset_d, ne_eq, Nat.reduceEqDiff, Int.reduceToNat, Int.reduceEq, Int.reduceLE, Int.reduceLT, Classical.not_not, Nat.reduceLT, ↓zvk_s, ↓zvk_n, ↓s_168_0, ↓s_168_1n, ↓s_168_1i, ↓s_168_1p, ↓g_168_3, ↓k_168_3, ↓s_168_5, ↓s_168_6, ↓s_168_9, ↓s_168_10, ↓s_168_11, ↓s_168_13, ↓s_168_14, ↓s_168_15, ↓s_168_16, ↓s_168_19, ↓s_168_21, ↓s_168_22n, ↓s_168_22i, ↓s_168_22p, ↓s_168_25, ↓s_168_28, ↓s_168_29]
    have e1 : w32 (I + 1) = ((i + 1 : Nat) : Int) := by rw [w32_ad (by rw [w32c_1]; (first | exact Nat.le_of_ble_eq_true rfl | exact (fun h => absurd h.1 (by decide)) | omega)) (by rw [w32c_1]; (first | exact Nat.le_of_ble_eq_true rfl | exact (fun h => absurd h.1 (by decide)) | omega)), w32c_1]; (first | exact Nat.le_of_ble_eq_true rfl | exact (fun h => absurd h.1 (by decide)) | omega)
    have e2 : w32 (a + I) = ((off + i : Nat) : Int) := by rw [w32_ad (by (first | exact Nat.le_of_ble_eq_true rfl | exact (fun h => absurd h.1 (by decide)) | omega)) (by (first | exact Nat.le_of_ble_eq_true rfl | exact (fun h => absurd h.1 (by decide)) | omega))]; (first | exact Nat.le_of_ble_eq_true rfl | exact (fun h => absurd h.1 (by decide)) | omega)
    have e3 : (w32 (a + I)).toNat = off + i := by rw [e2]; exact Int.toNat_natCast _
    rw [hL, e3, e2]
    refine ⟨fun h => absurd h (by (first | exact Nat.le_of_ble_eq_true rfl | exact (fun h => absurd h.1 (by decide)) | omega)), fun _ => ⟨⟨by (first | exact Nat.le_of_ble_eq_true rfl | exact (fun h => absurd h.1 (by decide)) | omega), by (first | exact Nat.le_of_ble_eq_true rfl | exact (fun h => absurd h.1 (by decide)) | omega)⟩, fun hn => ?_, fun he => ?_⟩⟩
    · refine ih (i + 1) (I + 1) e1 (by (first | exact Nat.le_of_ble_eq_true rfl | exact (fun h => absurd h.1 (by decide)) | omega)) (fun r hr => hQ r ?_)
      rw [hr]
      simp only [sFd]
      rw [if_neg hn]
    · refine hQ I ?_
      simp only [sFd]
      rw [if_pos he]
      exact hI
theorem rf_found (hE : yEok E) {D : Nat} (hD : 1 ≤ D) {z : Int} {L off : Nat} {a M v : Int} {many : Nat} (hL : zar z 0 = L) (ha : w32 a = (off : Int)) (hm : w32 M = (many : Int)) (hLm : off + many ≤ L) (hL2 : L < 1000) (hQ : ∀ r, w32 r = sFd (fun j => w32 (mem z.toNat (off + j))) (w32 v) many 0 → Q (some (0, r)) mem) : yCon E D xm_168 [(1, z), (0, a), (0, M), (0, v)] mem Q := by
  obtain ⟨d, rfl⟩ := Nat.exists_eq_add_of_le' hD
  refine e_168 ?_
  refine zvc_ok hE 60 zc_168 _ _ _ _ _ _ _ xmo_168 ?_
  simp only [ynok_30, ynok_31, w32c_0, w32c_1, w32c_2, w32c_3, w32c_4, w32c_5, w32c_6, w32c_7, w32c_8, w32c_9, w32c_10, w32c_11, w32c_12, w32c_13, w32c_14, w32c_m1, w32c_m2, w32c_118, Int.reduceAdd, Int.reduceSub, Int.reduceMul, yput_s, yput_n, znl_n, znl_0, znl_1, znl_4, ysum_n, ysum_0, ysum_1, ysum_4, true_and, and_true, Nat.reduceAdd, Nat.reduceLeDiff, true_implies, eq_self, true_or, or_true, or_false, false_or, not_true_eq_false, not_false_eq_true, false_implies, implies_true, yset_s, yset_o, yset_d, ne_eq, Nat.reduceEqDiff, Int.reduceToNat, Int.reduceEq, Int.reduceLE, Int.reduceLT, Classical.not_not, Nat.reduceLT, ↓zvk_s, ↓zvk_n, ↓s_168_0, ↓s_168_1n, ↓s_168_1i, ↓s_168_1p, ↓g_168_3, ↓k_168_3, ↓s_168_5, ↓s_168_6, ↓s_168_9, ↓s_168_10, ↓s_168_11, ↓s_168_13, ↓s_168_14, ↓s_168_15, ↓s_168_16, ↓s_168_19, ↓s_168_21, ↓s_168_22n, ↓s_168_22i, ↓s_168_22p, ↓s_168_25, ↓s_168_28, ↓s_168_29]
  exact rfd3 hE hL ha hm hLm hL2 many 0 0 w32c_0 (by (first | exact Nat.le_of_ble_eq_true rfl | exact (fun h => absurd h.1 (by decide)) | omega)) hQ
/-- the draft's names in the reference: q its row in number, off where its half begins -/
def rNm (mem : yMem) (z q off : Nat) (nm : List Int) : Prop := w32 (mem 97 (7 + q)) = (nm.length : Int) ∧ nm.length ≤ off ∧ ∀ j, j < nm.length → w32 (mem z (off + j)) = nm.getD j 0
theorem rNm_fd {mem : yMem} {z q off : Nat} {nm : List Int} (h : rNm mem z q off nm) (v : Int) : sFd (fun j => w32 (mem z (off + j))) v nm.length 0 = sFd (fun j => nm.getD j 0) v nm.length 0 := sFd_ext _ _ (fun j _ j2 => h.2.2 j (by (first | exact Nat.le_of_ble_eq_true rfl | exact (fun h => absurd h.1 (by decide)) | omega)))
end RB
section RC
variable {E : yE} {mem : yMem} {Q : Option yV → yMem → Prop} {ch : Nat → Int} {n : Nat} {x : sY}
theorem sRk_3 {so va v : Int} {k : Nat} (h : sRk so va k v) : (so = 1 ↔ k = 3) ∧ (k = 3 → va = v) := by
  unfold sRk at h
  (first | exact Nat.le_of_ble_eq_true rfl | exact (fun h => absurd h.1 (by decide)) | omega)
theorem rTk_rk {l : List sT} (h : rTk ch n mem (.inr l)) : sRk (w32 (mem 95 29)) (w32 (mem 95 30)) (sHd l).1 (sHd l).2.2 := by
  obtain ⟨_, _, _, _, e, _, _, _, b5⟩ := h
  exact b5
theorem rf_wr {l : List sT} {f : Nat} {F : Int} (h : rTk ch n mem (.inr l)) (h1 : w32 F = ((f : Nat) : Int)) (h2 : f ≠ 0) : aFrm rnF mem (yset (yset mem 95 31 F) 95 32 (mem 95 28)) ∧ rTk ch n (yset (yset mem 95 31 F) 95 32 (mem 95 28)) (yFl f (.inr l)) := ⟨aFrm_set (aFrm_set aFrm_rf rfl) rfl, rf_wr0 h h1 h2 h.2.2.2.1⟩
/-- a fresh name: behind the LINE's word -/
def yFr (nm : List Int) (x : sY) : sY := if ¬ yKd x = 3 then yFl 1 x else if ¬ sFd (fun j => nm.getD j 0) (yVl x) nm.length 0 = -1 then yFl 3 x else yNx x
theorem rf_fresh (hE : yEok E) {D : Nat} (hD : 9 ≤ D) {z : Int} {L q off : Nat} {a M : Int} {nm : List Int} (hL : zar z 0 = L) (ha : w32 a = (off : Int)) (hm : w32 M = (nm.length : Int)) (hLm : off + off ≤ L) (hL2 : L < 1000) (hN : rNm mem z.toNat q off nm) (h : rTk ch n mem x) (hQ : ∀ r m, aFrm rnF mem m → rTk ch n m (yFr nm x) → (∀ l, yFr nm x = .inr l → w32 r = yVl x) → Q (some (0, r)) m) : yCon E D xm_169 [(1, 95), (1, z), (0, a), (0, M)] mem Q := by
  obtain ⟨d, rfl⟩ := Nat.exists_eq_add_of_le' hD
  refine e_169 ?_
  refine zvc_ok hE 60 [] _ _ _ _ _ _ _ xmo_169 ?_
  cases x with
  | inl e =>
    have hz : ¬ w32 (mem 95 31) = 0 := by have := h.2.2.2.1; have := h.2.2.2.2.1; (first | exact Nat.le_of_ble_eq_true rfl | exact (fun h => absurd h.1 (by decide)) | omega)
    simp only [ynok_30, ynok_31, w32c_0, w32c_1, w32c_2, w32c_3, w32c_4, w32c_5, w32c_6, w32c_7, w32c_8, w32c_9, w32c_10, w32c_11, w32c_12, w32c_13, w32c_14, w32c_m1, w32c_m2, w32c_118, Int.reduceAdd, Int.reduceSub, Int.reduceMul, yput_s, yput_n, znl_n, znl_0, znl_1, znl_4, ysum_n, ysum_0, ysum_1, ysum_4, true_and, and_true, Nat.reduceAdd, Nat.reduceLeDiff, true_implies, eq_self, true_or, or_true, or_false, false_or, not_true_eq_false, not_false_eq_true, false_implies, implies_true, yset_s, yset_o, yset_d, ne_eq, Nat.reduceEqDiff, Int.reduceToNat, Int.reduceEq, Int.reduceLE, Int.reduceLT, Classical.not_not, Nat.reduceLT, ↓zvk_s, ↓zvk_n, ↓s_169_0, ↓s_169_1, ↓s_169_4, ↓s_169_7, ↓s_169_8, ↓s_169_9, ↓s_169_10, ↓s_169_13, ↓s_169_14, ↓s_169_17, ↓s_169_18, ↓s_169_19, ↓s_169_22, ↓s_169_25, ↓s_169_26, ↓s_169_27, ↓s_169_28, ↓s_169_29, ↓s_169_32, ↓s_169_35, ↓s_169_36, ↓s_169_39, ↓s_169_40, ↓s_169_41, ↓s_169_44, ↓s_169_45, ↓s_169_48, ↓s_169_51, ↓s_169_52, ↓s_169_53, ↓s_169_54, ↓s_169_57n, ↓s_169_57i, ↓s_169_57p, ↓s_169_59, ↓s_169_60, ↓s_169_63, ↓s_169_65, ↓s_254_0, ↓s_254_1, ↓s_254_4, ↓s_254_7, ↓s_254_8, ↓s_254_9, ↓s_254_10, ↓s_254_13, ↓s_254_14, ↓s_254_15, ↓s_254_18, ↓s_254_21, zio_95, hz]
    exact hQ 0 mem aFrm_rf h (fun l hl => by cases hl)
  | inr l =>
    have hz : w32 (mem 95 31) = 0 := h.2.2.2.1
    simp only [ynok_30, ynok_31, w32c_0, w32c_1, w32c_2, w32c_3, w32c_4, w32c_5, w32c_6, w32c_7, w32c_8, w32c_9, w32c_10, w32c_11, w32c_12, w32c_13, w32c_14, w32c_m1, w32c_m2, w32c_118, Int.reduceAdd, Int.reduceSub, Int.reduceMul, yput_s, yput_n, znl_n, znl_0, znl_1, znl_4, ysum_n, ysum_0, ysum_1, ysum_4, true_and, and_true, Nat.reduceAdd, Nat.reduceLeDiff, true_implies, eq_self, true_or, or_true, or_false, false_or, not_true_eq_false, not_false_eq_true, false_implies, implies_true, yset_s, yset_o, yset_d, ne_eq, Nat.reduceEqDiff, Int.reduceToNat, Int.reduceEq, Int.reduceLE, Int.reduceLT, Classical.not_not, Nat.reduceLT, ↓zvk_s, ↓zvk_n, ↓s_169_0, ↓s_169_1, ↓s_169_4, ↓s_169_7, ↓s_169_8, ↓s_169_9, ↓s_169_10, ↓s_169_13, ↓s_169_14, ↓s_169_17, ↓s_169_18, ↓s_169_19, ↓s_169_22, ↓s_169_25, ↓s_169_26, ↓s_169_27, ↓s_169_28, ↓s_169_29, ↓s_169_32, ↓s_169_35, ↓s_169_36, ↓s_169_39, ↓s_169_40, ↓s_169_41, ↓s_169_44, ↓s_169_45, ↓s_169_48, ↓s_169_51, ↓s_169_52, ↓s_169_53, ↓s_169_54, ↓s_169_57n, ↓s_169_57i, ↓s_169_57p, ↓s_169_59, ↓s_169_60, ↓s_169_63, ↓s_169_65, ↓s_254_0, ↓s_254_1, ↓s_254_4, ↓s_254_7, ↓s_254_8, ↓s_254_9, ↓s_254_10, ↓s_254_13, ↓s_254_14, ↓s_254_15, ↓s_254_18, ↓s_254_21, zio_95, hz]
    obtain ⟨k3, kv⟩ := sRk_3 (rTk_rk h)
    refine ⟨fun q1 => ?_, fun q1 => ?_⟩
    · have q3 : (sHd l).1 = 3 := k3.mp q1
      refine rf_found hE (by (first | exact Nat.le_of_ble_eq_true rfl | exact (fun h => absurd h.1 (by decide)) | omega)) hL ha hm (by have := hN.2.1; (first | exact Nat.le_of_ble_eq_true rfl | exact (fun h => absurd h.1 (by decide)) | omega)) hL2 (fun r hr => ?_)
      rw [rNm_fd hN, kv q3] at hr
      refine zgk_s hE xmo_169 60 [] ?_
      simp only [ynok_30, ynok_31, w32c_0, w32c_1, w32c_2, w32c_3, w32c_4, w32c_5, w32c_6, w32c_7, w32c_8, w32c_9, w32c_10, w32c_11, w32c_12, w32c_13, w32c_14, w32c_m1, w32c_m2, w32c_118, Int.reduceAdd, Int.reduceSub, Int.reduceMul, yput_s, yput_n, znl_n, znl_0, znl_1, znl_4, ysum_n, ysum_0, ysum_1, ysum_4, true_and, and_true, Nat.reduceAdd, Nat.reduceLeDiff, true_implies, eq_self, true_or, or_true, or_false, false_or, not_true_eq_false, not_false_eq_true, false_implies, implies_true, yset_s, yset_o, yset_d, ne_eq, Nat.reduceEqDiff, Int.reduceToNat, Int.reduceEq, Int.reduceLE, Int.reduceLT, Classical.not_not, Nat.reduceLT, ↓zvk_s, ↓zvk_n, ↓s_169_0, ↓s_169_1, ↓s_169_4, ↓s_169_7, ↓s_169_8, ↓s_169_9, ↓s_169_10, ↓s_169_13, ↓s_169_14, ↓s_169_17, ↓s_169_18, ↓s_169_19, ↓s_169_22, ↓s_169_25, ↓s_169_26, ↓s_169_27, ↓s_169_28, ↓s_169_29, ↓s_169_32, ↓s_169_35, ↓s_169_36, ↓s_169_39, ↓s_169_40, ↓s_169_41, ↓s_169_44, ↓s_169_45, ↓s_169_48, ↓s_169_51, ↓s_169_52, ↓s_169_53, ↓s_169_54, ↓s_169_57n, ↓s_169_57i, ↓s_169_57p, ↓s_169_59, ↓s_169_60, ↓s_169_63, ↓s_169_65, ↓s_254_0, ↓s_254_1, ↓s_254_4, ↓s_254_7, ↓s_254_8, ↓s_254_9, ↓s_254_10, ↓s_254_13, ↓s_254_14, ↓s_254_15, ↓s_254_18, ↓s_254_21, zio_95, hz]
      rw [hr]
      refine ⟨fun e => ?_, fun e => ?_⟩
      · have ep : yFr nm (.inr l) = yNx (.inr l) := by unfold yFr; rw [if_neg (fun z => z q3), if_neg (fun z => z e)]
        rw [ep] at hQ
        refine rf_token hE (by (first | exact Nat.le_of_ble_eq_true rfl | exact (fun h => absurd h.1 (by decide)) | omega)) h (fun m F T => ?_)
        refine zgk_n hE xmo_169 60 [] ?_
        simp only [ynok_30, ynok_31, w32c_0, w32c_1, w32c_2, w32c_3, w32c_4, w32c_5, w32c_6, w32c_7, w32c_8, w32c_9, w32c_10, w32c_11, w32c_12, w32c_13, w32c_14, w32c_m1, w32c_m2, w32c_118, Int.reduceAdd, Int.reduceSub, Int.reduceMul, yput_s, yput_n, znl_n, znl_0, znl_1, znl_4, ysum_n, ysum_0, ysum_1, ysum_4, true_and, and_true, Nat.reduceAdd, Nat.reduceLeDiff, true_implies, eq_self, true_or, or_true, or_false, false_or, not_true_eq_false, not_false_eq_true, false_implies, implies_true, yset_s, yset_o, yset_d, ne_eq, Nat.reduceEqDiff, Int.reduceToNat, Int.reduceEq, Int.reduceLE, Int.reduceLT, Classical.not_not, Nat.reduceLT, ↓zvk_s, ↓zvk_n, ↓s_169_0, ↓s_169_1, ↓s_169_4, ↓s_169_7, ↓s_169_8, ↓s_169_9, ↓s_169_10, ↓s_169_13, ↓s_169_14, ↓s_169_17, ↓s_169_18, ↓s_169_19, ↓s_169_22, ↓s_169_25, ↓s_169_26, ↓s_169_27, ↓s_169_28, ↓s_169_29, ↓s_169_32, ↓s_169_35, ↓s_169_36, ↓s_169_39, ↓s_169_40, ↓s_169_41, ↓s_169_44, ↓s_169_45, ↓s_169_48, ↓s_169_51, ↓s_169_52, ↓s_169_53, ↓s_169_54, ↓s_169_57n, ↓s_169_57i, ↓s_169_57p, ↓s_169_59, ↓s_169_60, ↓s_169_63, ↓s_169_65, ↓s_254_0, ↓s_254_1, ↓s_254_4, ↓s_254_7, ↓s_254_8, ↓s_254_9, ↓s_254_10, ↓s_254_13, ↓s_254_14, ↓s_254_15, ↓s_254_18, ↓s_254_21, zio_95]
        exact hQ _ m (aFrm_w F (by decide)) T (fun _ _ => kv q3)
      · have ep : yFr nm (.inr l) = yFl 3 (.inr l) := by unfold yFr; rw [if_neg (fun z => z q3), if_pos (show ¬ sFd (fun j => nm.getD j 0) (yVl (.inr l)) nm.length 0 = -1 from e)]
        rw [ep] at hQ
        exact hQ 0 _ (rf_wr (f := 3) h (by decide) (by decide)).1 (rf_wr h (by decide) (by decide)).2 (fun l hl => by cases hl)
    · have q3 : ¬ (sHd l).1 = 3 := fun z => q1 (k3.mpr z)
      have ep : yFr nm (.inr l) = yFl 1 (.inr l) := by unfold yFr; rw [if_pos (show ¬ yKd (.inr l) = 3 from q3)]
      rw [ep] at hQ
      exact hQ 0 _ (rf_wr (f := 1) h (by decide) (by decide)).1 (rf_wr h (by decide) (by decide)).2 (fun l hl => by cases hl)
theorem rf_tavern (hE : yEok E) {D : Nat} (hD : 9 ≤ D) {nm : List Int} (hN : rNm mem 98 0 3 nm) (h : rTk ch n mem x) (hQ : ∀ r m, aFrm rnF mem m → rTk ch n m (yTt nm x).2 → (∀ l, (yTt nm x).2 = .inr l → w32 r = (yTt nm x).1) → Q (some (0, r)) m) : yCon E D xm_241 [(1, 95)] mem Q := by
  obtain ⟨d, rfl⟩ := Nat.exists_eq_add_of_le' hD
  refine e_241 ?_
  refine zvc_ok hE 60 [] _ _ _ _ _ _ _ xmo_241 ?_
  cases x with
  | inl e =>
    have hz : ¬ w32 (mem 95 31) = 0 := by have := h.2.2.2.1; have := h.2.2.2.2.1; (first | exact Nat.le_of_ble_eq_true rfl | exact (fun h => absurd h.1 (by decide)) | omega)
    simp only [ynok_30, ynok_31, w32c_0, w32c_1, w32c_2, w32c_3, w32c_4, w32c_5, w32c_6, w32c_7, w32c_8, w32c_9, w32c_10, w32c_11, w32c_12, w32c_13, w32c_14, w32c_m1, w32c_m2, w32c_118, Int.reduceAdd, Int.reduceSub, Int.reduceMul, yput_s, yput_n, znl_n, znl_0, znl_1, znl_4, ysum_n, ysum_0, ysum_1, ysum_4, true_and, and_true, Nat.reduceAdd, Nat.reduceLeDiff, true_implies, eq_self, true_or, or_true, or_false, false_or, not_true_eq_false, not_false_eq_true, false_implies, implies_true, yset_s, yset_o, yset_d, ne_eq, Nat.reduceEqDiff, Int.reduceToNat, Int.reduceEq, Int.reduceLE, Int.reduceLT, Classical.not_not, Nat.reduceLT, ↓zvk_s, ↓zvk_n, ↓s_241_0, ↓s_241_1, ↓s_241_4, ↓s_241_7, ↓s_241_8, ↓s_241_9, ↓s_241_10, ↓s_241_13, ↓s_241_14, ↓s_241_15, ↓s_241_16, ↓s_241_19, ↓s_241_20, ↓s_241_23, ↓s_241_26n, ↓s_241_26i, ↓s_241_26p, ↓s_241_27, ↓s_241_28, ↓s_241_31, ↓s_241_32, ↓s_241_35, ↓s_241_36, ↓s_241_37, ↓s_241_40, ↓s_241_43, ↓s_241_44, ↓s_241_45, ↓s_241_48, ↓s_241_49, ↓s_241_50, ↓s_241_53, ↓s_241_54, ↓s_241_57, ↓s_241_58, ↓s_170_0, ↓s_170_1, ↓s_170_4, ↓s_170_6, ↓s_170_7, ↓s_170_8, ↓s_170_9, ↓s_173_0, ↓s_173_1, ↓s_173_4, ↓s_173_7, ↓s_173_8, ↓s_173_11, ↓s_254_0, ↓s_254_1, ↓s_254_4, ↓s_254_7, ↓s_254_8, ↓s_254_9, ↓s_254_10, ↓s_254_13, ↓s_254_14, ↓s_254_15, ↓s_254_18, ↓s_254_21, zar_97, zia_97, zln_97, zit_97, zar_98, zia_98, zln_98, zit_98, zio_95, hz]
    exact hQ 0 mem aFrm_rf h (fun l hl => by cases hl)
  | inr l =>
    have hz : w32 (mem 95 31) = 0 := h.2.2.2.1
    simp only [ynok_30, ynok_31, w32c_0, w32c_1, w32c_2, w32c_3, w32c_4, w32c_5, w32c_6, w32c_7, w32c_8, w32c_9, w32c_10, w32c_11, w32c_12, w32c_13, w32c_14, w32c_m1, w32c_m2, w32c_118, Int.reduceAdd, Int.reduceSub, Int.reduceMul, yput_s, yput_n, znl_n, znl_0, znl_1, znl_4, ysum_n, ysum_0, ysum_1, ysum_4, true_and, and_true, Nat.reduceAdd, Nat.reduceLeDiff, true_implies, eq_self, true_or, or_true, or_false, false_or, not_true_eq_false, not_false_eq_true, false_implies, implies_true, yset_s, yset_o, yset_d, ne_eq, Nat.reduceEqDiff, Int.reduceToNat, Int.reduceEq, Int.reduceLE, Int.reduceLT, Classical.not_not, Nat.reduceLT, ↓zvk_s, ↓zvk_n, ↓s_241_0, ↓s_241_1, ↓s_241_4, ↓s_241_7, ↓s_241_8, ↓s_241_9, ↓s_241_10, ↓s_241_13, ↓s_241_14, ↓s_241_15, ↓s_241_16, ↓s_241_19, ↓s_241_20, ↓s_241_23, ↓s_241_26n, ↓s_241_26i, ↓s_241_26p, ↓s_241_27, ↓s_241_28, ↓s_241_31, ↓s_241_32, ↓s_241_35, ↓s_241_36, ↓s_241_37, ↓s_241_40, ↓s_241_43, ↓s_241_44, ↓s_241_45, ↓s_241_48, ↓s_241_49, ↓s_241_50, ↓s_241_53, ↓s_241_54, ↓s_241_57, ↓s_241_58, ↓s_170_0, ↓s_170_1, ↓s_170_4, ↓s_170_6, ↓s_170_7, ↓s_170_8, ↓s_170_9, ↓s_173_0, ↓s_173_1, ↓s_173_4, ↓s_173_7, ↓s_173_8, ↓s_173_11, ↓s_254_0, ↓s_254_1, ↓s_254_4, ↓s_254_7, ↓s_254_8, ↓s_254_9, ↓s_254_10, ↓s_254_13, ↓s_254_14, ↓s_254_15, ↓s_254_18, ↓s_254_21, zar_97, zia_97, zln_97, zit_97, zar_98, zia_98, zln_98, zit_98, zio_95, hz]
    obtain ⟨k3, kv⟩ := sRk_3 (rTk_rk h)
    refine ⟨by decide, ?_⟩
    refine rf_found hE (by (first | exact Nat.le_of_ble_eq_true rfl | exact (fun h => absurd h.1 (by decide)) | omega)) (z := 98) (L := 6) (off := 3) (by decide) w32c_3 hN.1 (by have := hN.2.1; (first | exact Nat.le_of_ble_eq_true rfl | exact (fun h => absurd h.1 (by decide)) | omega)) (by decide) (fun r hr => ?_)
    have hr' : w32 r = sFd (fun j => nm.getD j 0) (w32 (mem 95 30)) nm.length 0 := hr.trans (rNm_fd hN _)
    refine zgk_s hE xmo_241 60 [] ?_
    simp only [ynok_30, ynok_31, w32c_0, w32c_1, w32c_2, w32c_3, w32c_4, w32c_5, w32c_6, w32c_7, w32c_8, w32c_9, w32c_10, w32c_11, w32c_12, w32c_13, w32c_14, w32c_m1, w32c_m2, w32c_118, Int.reduceAdd, Int.reduceSub, Int.reduceMul, yput_s, yput_n, znl_n, znl_0, znl_1, znl_4, ysum_n, ysum_0, ysum_1, ysum_4, true_and, and_true, Nat.reduceAdd, Nat.reduceLeDiff, true_implies, eq_self, true_or, or_true, or_false, false_or, not_true_eq_false, not_false_eq_true, false_implies, implies_true, yset_s, yset_o, yset_d, ne_eq, Nat.reduceEqDiff, Int.reduceToNat, Int.reduceEq, Int.reduceLE, Int.reduceLT, Classical.not_not, Nat.reduceLT, ↓zvk_s, ↓zvk_n, ↓s_241_0, ↓s_241_1, ↓s_241_4, ↓s_241_7, ↓s_241_8, ↓s_241_9, ↓s_241_10, ↓s_241_13, ↓s_241_14, ↓s_241_15, ↓s_241_16, ↓s_241_19, ↓s_241_20, ↓s_241_23, ↓s_241_26n, ↓s_241_26i, ↓s_241_26p, ↓s_241_27, ↓s_241_28, ↓s_241_31, ↓s_241_32, ↓s_241_35, ↓s_241_36, ↓s_241_37, ↓s_241_40, ↓s_241_43, ↓s_241_44, ↓s_241_45, ↓s_241_48, ↓s_241_49, ↓s_241_50, ↓s_241_53, ↓s_241_54, ↓s_241_57, ↓s_241_58, ↓s_170_0, ↓s_170_1, ↓s_170_4, ↓s_170_6, ↓s_170_7, ↓s_170_8, ↓s_170_9, ↓s_173_0, ↓s_173_1, ↓s_173_4, ↓s_173_7, ↓s_173_8, ↓s_173_11, ↓s_254_0, ↓s_254_1, ↓s_254_4, ↓s_254_7, ↓s_254_8, ↓s_254_9, ↓s_254_10, ↓s_254_13, ↓s_254_14, ↓s_254_15, ↓s_254_18, ↓s_254_21, zar_97, zia_97, zln_97, zit_97, zar_98, zia_98, zln_98, zit_98, zio_95, hz]
    refine ⟨fun q1 => ?_, fun q1 => ?_⟩
    · have q3 : (sHd l).1 = 3 := k3.mp q1
      rw [kv q3] at hr'
      refine ⟨fun e => ?_, fun e => ?_⟩
      · have ep : yTt nm (.inr l) = (sFd (fun j => nm.getD j 0) (yVl (.inr l)) nm.length 0, yNx (.inr l)) := by unfold yTt; rw [if_pos (show yKd (.inr l) = 3 from q3), if_neg (show ¬ sFd (fun j => nm.getD j 0) (yVl (.inr l)) nm.length 0 = -1 from fun z => e (hr'.trans z))]
        rw [ep] at hQ
        refine rf_token hE (by (first | exact Nat.le_of_ble_eq_true rfl | exact (fun h => absurd h.1 (by decide)) | omega)) h (fun m F T => ?_)
        refine zgk_n hE xmo_173 60 [] ?_
        simp only [ynok_30, ynok_31, w32c_0, w32c_1, w32c_2, w32c_3, w32c_4, w32c_5, w32c_6, w32c_7, w32c_8, w32c_9, w32c_10, w32c_11, w32c_12, w32c_13, w32c_14, w32c_m1, w32c_m2, w32c_118, Int.reduceAdd, Int.reduceSub, Int.reduceMul, yput_s, yput_n, znl_n, znl_0, znl_1, znl_4, ysum_n, ysum_0, ysum_1, ysum_4, true_and, and_true, Nat.reduceAdd, Nat.reduceLeDiff, true_implies, eq_self, true_or, or_true, or_false, false_or, not_true_eq_false, not_false_eq_true, false_implies, implies_true, yset_s, yset_o, yset_d, ne_eq, Nat.reduceEqDiff, Int.reduceToNat, Int.reduceEq, Int.reduceLE, Int.reduceLT, Classical.not_not, Nat.reduceLT, ↓zvk_s, ↓zvk_n, ↓s_241_0, ↓s_241_1, ↓s_241_4, ↓s_241_7, ↓s_241_8, ↓s_241_9, ↓s_241_10, ↓s_241_13, ↓s_241_14, ↓s_241_15, ↓s_241_16, ↓s_241_19, ↓s_241_20, ↓s_241_23, ↓s_241_26n, ↓s_241_26i, ↓s_241_26p, ↓s_241_27, ↓s_241_28, ↓s_241_31, ↓s_241_32, ↓s_241_35, ↓s_241_36, ↓s_241_37, ↓s_241_40, ↓s_241_43, ↓s_241_44, ↓s_241_45, ↓s_241_48, ↓s_241_49, ↓s_241_50, ↓s_241_53, ↓s_241_54, ↓s_241_57, ↓s_241_58, ↓s_173_0, ↓s_173_1, ↓s_173_4, ↓s_173_7, ↓s_173_8, ↓s_173_11, zar_98, zia_98, zln_98, zit_98, zio_95]
        exact hQ r m (aFrm_w F (by decide)) T (fun _ _ => hr')
      · have ep : yTt nm (.inr l) = (-1, yFl 4 (.inr l)) := by unfold yTt; rw [if_pos (show yKd (.inr l) = 3 from q3), if_pos (show sFd (fun j => nm.getD j 0) (yVl (.inr l)) nm.length 0 = -1 from hr'.symm.trans e)]
        rw [ep] at hQ
        exact hQ r _ (rf_wr (f := 4) h (by decide) (by decide)).1 (rf_wr h (by decide) (by decide)).2 (fun l hl => by cases hl)
    · have q3 : ¬ (sHd l).1 = 3 := fun z => q1 (k3.mpr z)
      have ep : yTt nm (.inr l) = (-1, yFl 1 (.inr l)) := by unfold yTt; rw [if_neg (show ¬ yKd (.inr l) = 3 from q3)]
      rw [ep] at hQ
      exact hQ r _ (rf_wr (f := 1) h (by decide) (by decide)).1 (rf_wr h (by decide) (by decide)).2 (fun l hl => by cases hl)
end RC
end
section
/-! THE REFERENCE: isWord, isSign on a state -/
theorem sRw_inj : ∀ k, k < 40 → 17 ≤ k → ∀ k', k' < 40 → 17 ≤ k' → sRw k = sRw k' → k = k' := by decide +kernel
theorem sSc_inj : ∀ k, k < 17 → 4 ≤ k → ∀ k', k' < 17 → 4 ≤ k' → sSc k = sSc k' → k = k' := by decide +kernel
section RD
variable {mem : yMem} {ch : Nat → Int} {n : Nat} {x : sY}
theorem rf_isw (h : rTk ch n mem x) {k0 : Nat} (h1 : 17 ≤ k0) (h2 : k0 < 40) : (w32 (mem 95 31) = 0 ∧ w32 (mem 95 29) = 0 ∧ w32 (mem 95 30) = sRw k0) ↔ yKd x = k0 := by
  cases x with
  | inl e =>
    have := h.2.2.2.1
    have := h.2.2.2.2.1
    refine ⟨fun q => absurd q.1 (by (first | exact Nat.le_of_ble_eq_true rfl | exact (fun h => absurd h.1 (by decide)) | omega)), fun q => ?_⟩
    have : (0 : Nat) = k0 := q
    (first | exact Nat.le_of_ble_eq_true rfl | exact (fun h => absurd h.1 (by decide)) | omega)
  | inr l =>
    have hz : w32 (mem 95 31) = 0 := h.2.2.2.1
    have hR := rTk_rk h
    rw [yKd_r]
    unfold sRk at hR
    refine ⟨fun q => ?_, fun q => ?_⟩
    · rcases hR with z | z | z | z | z | ⟨z1, z2, z3, z4⟩
      · (first | exact Nat.le_of_ble_eq_true rfl | exact (fun h => absurd h.1 (by decide)) | omega)
      · (first | exact Nat.le_of_ble_eq_true rfl | exact (fun h => absurd h.1 (by decide)) | omega)
      · (first | exact Nat.le_of_ble_eq_true rfl | exact (fun h => absurd h.1 (by decide)) | omega)
      · (first | exact Nat.le_of_ble_eq_true rfl | exact (fun h => absurd h.1 (by decide)) | omega)
      · (first | exact Nat.le_of_ble_eq_true rfl | exact (fun h => absurd h.1 (by decide)) | omega)
      · exact sRw_inj _ (by (first | exact Nat.le_of_ble_eq_true rfl | exact (fun h => absurd h.1 (by decide)) | omega)) z1 _ h2 h1 (by rw [← z4]; exact q.2.2)
    · rcases hR with z | z | z | z | z | ⟨z1, z2, z3, z4⟩
      · (first | exact Nat.le_of_ble_eq_true rfl | exact (fun h => absurd h.1 (by decide)) | omega)
      · (first | exact Nat.le_of_ble_eq_true rfl | exact (fun h => absurd h.1 (by decide)) | omega)
      · (first | exact Nat.le_of_ble_eq_true rfl | exact (fun h => absurd h.1 (by decide)) | omega)
      · (first | exact Nat.le_of_ble_eq_true rfl | exact (fun h => absurd h.1 (by decide)) | omega)
      · (first | exact Nat.le_of_ble_eq_true rfl | exact (fun h => absurd h.1 (by decide)) | omega)
      · exact ⟨hz, z3, by rw [z4, q]⟩
theorem rf_iss (h : rTk ch n mem x) {k0 : Nat} (h1 : 4 ≤ k0) (h2 : k0 < 17) : (w32 (mem 95 31) = 0 ∧ w32 (mem 95 29) = 3 ∧ w32 (mem 95 30) = sSc k0) ↔ yKd x = k0 := by
  cases x with
  | inl e =>
    have := h.2.2.2.1
    have := h.2.2.2.2.1
    refine ⟨fun q => absurd q.1 (by (first | exact Nat.le_of_ble_eq_true rfl | exact (fun h => absurd h.1 (by decide)) | omega)), fun q => ?_⟩
    have : (0 : Nat) = k0 := q
    (first | exact Nat.le_of_ble_eq_true rfl | exact (fun h => absurd h.1 (by decide)) | omega)
  | inr l =>
    have hz : w32 (mem 95 31) = 0 := h.2.2.2.1
    have hR := rTk_rk h
    rw [yKd_r]
    unfold sRk at hR
    refine ⟨fun q => ?_, fun q => ?_⟩
    · rcases hR with z | z | z | z | ⟨z1, z2, z3, z4⟩ | z
      · (first | exact Nat.le_of_ble_eq_true rfl | exact (fun h => absurd h.1 (by decide)) | omega)
      · (first | exact Nat.le_of_ble_eq_true rfl | exact (fun h => absurd h.1 (by decide)) | omega)
      · (first | exact Nat.le_of_ble_eq_true rfl | exact (fun h => absurd h.1 (by decide)) | omega)
      · (first | exact Nat.le_of_ble_eq_true rfl | exact (fun h => absurd h.1 (by decide)) | omega)
      · exact sSc_inj _ (by (first | exact Nat.le_of_ble_eq_true rfl | exact (fun h => absurd h.1 (by decide)) | omega)) z1 _ h2 h1 (by rw [← z4]; exact q.2.2)
      · (first | exact Nat.le_of_ble_eq_true rfl | exact (fun h => absurd h.1 (by decide)) | omega)
    · rcases hR with z | z | z | z | ⟨z1, z2, z3, z4⟩ | z
      · (first | exact Nat.le_of_ble_eq_true rfl | exact (fun h => absurd h.1 (by decide)) | omega)
      · (first | exact Nat.le_of_ble_eq_true rfl | exact (fun h => absurd h.1 (by decide)) | omega)
      · (first | exact Nat.le_of_ble_eq_true rfl | exact (fun h => absurd h.1 (by decide)) | omega)
      · (first | exact Nat.le_of_ble_eq_true rfl | exact (fun h => absurd h.1 (by decide)) | omega)
      · exact ⟨hz, z3, by rw [z4, q]⟩
      · (first | exact Nat.le_of_ble_eq_true rfl | exact (fun h => absurd h.1 (by decide)) | omega)
end RD
end
section
/-! THE REFERENCE: what goes through a FAULT -/
def yOk (x : sY) : Prop := ∃ l, x = .inr l
theorem yOk_in {e : Nat × Nat} : ¬ yOk (.inl e) := fun ⟨_, h⟩ => by cases h
theorem yOk_kd {x : sY} (h : yKd x ≠ 0) : yOk x := by
  cases x with
  | inl e => exact absurd rfl h
  | inr l => exact ⟨l, rfl⟩
theorem yOk_nx {x : sY} (h : yOk (yNx x)) : yOk x := by
  cases x with
  | inl e => exact absurd h yOk_in
  | inr l => exact ⟨l, rfl⟩
theorem yOk_fl {f : Nat} {x : sY} : ¬ yOk (yFl f x) := by
  obtain ⟨e, he⟩ := yFl_inl f x
  rw [he]
  exact yOk_in
theorem yNm_in {a b : Int} {e : Nat × Nat} : yNm a b (.inl e) = (a, .inl e) := by
  unfold yNm
  rw [if_neg (show ¬ yKd (.inl e) = 2 from (by decide : ¬ (0 : Nat) = 2))]
  rfl
theorem yTt_in {nm : List Int} {e : Nat × Nat} : yTt nm (.inl e) = (-1, .inl e) := by
  unfold yTt
  rw [if_neg (show ¬ yKd (.inl e) = 3 from (by decide : ¬ (0 : Nat) = 3))]
  rfl
theorem yOk_nm {a b : Int} {x : sY} (h : yOk (yNm a b x).2) : yOk x := by
  cases x with
  | inl e => rw [yNm_in] at h; exact absurd h yOk_in
  | inr l => exact ⟨l, rfl⟩
theorem yOk_tt {nm : List Int} {x : sY} (h : yOk (yTt nm x).2) : yOk x := by
  cases x with
  | inl e => rw [yTt_in] at h; exact absurd h yOk_in
  | inr l => exact ⟨l, rfl⟩
theorem amod_r {i j : Nat} (h : ¬ (i = 95 ∧ 27 ≤ j ∧ j ≤ 32)) : amod rnF i j = false := by
  cases hm : amod rnF i j with
  | false => rfl
  | true =>
    obtain ⟨q, q1, q2, q3⟩ := amod_ex hm
    have z : ∀ q ∈ rnF, q.1 = 95 ∧ 28 ≤ q.2 ∧ q.2 ≤ 33 := by decide
    obtain ⟨z1, z2, z3⟩ := z q q1
    exact (h ⟨by (first | exact Nat.le_of_ble_eq_true rfl | exact (fun h => absurd h.1 (by decide)) | omega), by (first | exact Nat.le_of_ble_eq_true rfl | exact (fun h => absurd h.1 (by decide)) | omega), by (first | exact Nat.le_of_ble_eq_true rfl | exact (fun h => absurd h.1 (by decide)) | omega)⟩).elim
theorem amod_r5 {i j : Nat} (h : i ≠ 95) : amod rnF i j = false := amod_r (fun z => h z.1)
theorem rNm_fr {b m : yMem} {z q off : Nat} {nm : List Int} (h : rNm b z q off nm) (h7 : m 97 (7 + q) = b 97 (7 + q)) (hz : ∀ j, m z j = b z j) : rNm m z q off nm := ⟨by rw [h7]; exact h.1, h.2.1, fun j hj => by rw [hz]; exact h.2.2 j hj⟩
/-! a voice -/
def rvF (len i j : Nat) : Prop := (101 ≤ i ∧ i ≤ 107 ∧ j = 6 + len) ∨ (i = 97 ∧ j = 8) ∨ (i = 95 ∧ 27 ≤ j ∧ j ≤ 32)
def rVs (m : yMem) (k : Nat) (t : tVo) : Prop := w32 (m 101 k) = t.1 ∧ w32 (m 102 k) = t.2.1 ∧ w32 (m 103 k) = t.2.2.1 ∧ w32 (m 104 k) = t.2.2.2.1 ∧ w32 (m 105 k) = t.2.2.2.2.1 ∧ w32 (m 106 k) = t.2.2.2.2.2.1 ∧ w32 (m 107 k) = t.2.2.2.2.2.2
def RvS (b m : yMem) (len : Nat) (y : sY) (t : tVo) : Prop := (∀ i j, ¬ rvF len i j → m i j = b i j) ∧ m 97 8 = b 97 8 ∧ (yOk y → rVs m (6 + len) t)
theorem rvF_fr {b m : yMem} {s i j : Nat} {x : Int} (h : ∀ i j, ¬ rvF s i j → m i j = b i j) (hv : rvF s i j) : ∀ i' j', ¬ rvF s i' j' → yset m i j x i' j' = b i' j' := fun i' j' h' => by
  rw [yset_a]
  split
  · next e1 =>
    rw [if_neg (fun e2 => h' (by rw [e1, e2]; exact hv))]
    exact h i' j' h'
  · exact h i' j' h'
theorem RvS_tk {b m m' : yMem} {len : Nat} {y y' : sY} {t : tVo} (h : RvS b m len y t) (hF : aFrm rnF m m') (hy : yOk y' → yOk y) : RvS b m' len y' t := by
  have k : ∀ i j, i ≠ 95 → m' i j = m i j := fun i j q => hF i j (amod_r5 q)
  obtain ⟨h0, h1, h2⟩ := h
  refine ⟨fun i j hv => ?_, by rw [k 97 8 (by decide)]; exact h1, fun z => ?_⟩
  · rw [hF i j (amod_r (fun z => hv (Or.inr (Or.inr z))))]; exact h0 i j hv
  · obtain ⟨c1, c2, c3, c4, c5, c6, c7⟩ := h2 (hy z)
    exact ⟨by rw [k 101 _ (by decide)]; exact c1, by rw [k 102 _ (by decide)]; exact c2, by rw [k 103 _ (by decide)]; exact c3, by rw [k 104 _ (by decide)]; exact c4, by rw [k 105 _ (by decide)]; exact c5, by rw [k 106 _ (by decide)]; exact c6, by rw [k 107 _ (by decide)]; exact c7⟩
theorem RvS_set {b m : yMem} {len c : Nat} {y : sY} {t t' : tVo} {z : Int} (h : RvS b m len y t) (hc : 101 ≤ c ∧ c ≤ 107) (ht : yOk y → rVs (yset m c (6 + len) z) (6 + len) t') : RvS b (yset m c (6 + len) z) len y t' := ⟨rvF_fr h.1 (Or.inl ⟨hc.1, hc.2, rfl⟩), by rw [yset_o (by (first | exact Nat.le_of_ble_eq_true rfl | exact (fun h => absurd h.1 (by decide)) | omega))]; exact h.2.1, ht⟩
theorem rTk_s {ch : Nat → Int} {n : Nat} {m : yMem} {x : sY} {c k : Nat} {z : Int} (h : rTk ch n m x) (hc : c ≠ 95 ∧ c ≠ 96) : rTk ch n (yset m c k z) x := rTk_of h (fun j _ _ => yset_o (fun e => hc.1 e.symm)) (fun j => yset_o (fun e => hc.2 e.symm))
section RE
variable {E : yE} {mem b m : yMem} {Q : Option yV → yMem → Prop} {ch : Nat → Int} {n : Nat} {x y : sY} {d len : Nat} {v : Int} {t : tVo} {a1 a2 a3 a4 a5 a6 a7 : Int}
theorem rw160 (hE : yEok E) (hl : len < 6) (hb : w32 (b 97 8) = (len : Int)) (h : rTk ch n m y) (hS : RvS b m len y t) (fin : ∀ m', (∀ i j, ¬ rvF len i j → m' i j = b i j) → rTk ch n m' y → w32 (m' 97 8) = ((len + 1 : Nat) : Int) → (yOk y → rVs m' (6 + len) t) → Q none m') : zG E (d + 1) xm_249 160 [some (1, 95), some (0, v)] [] m Q := by
  refine zgo_ok (n := 60) hE xmo_249 (cs := zc_249) ?_
  simp only [ynok_30, ynok_31, w32c_0, w32c_1, w32c_2, w32c_3, w32c_4, w32c_5, w32c_6, w32c_7, w32c_8, w32c_9, w32c_10, w32c_11, w32c_12, w32c_13, w32c_14, w32c_m1, w32c_m2, w32c_118, Int.reduceAdd, Int.reduceSub, Int.reduceMul, yput_s, yput_n, znl_n, znl_0, znl_1, znl_4, ysum_n, ysum_0, ysum_1, ysum_4, true_and, and_true, Nat.reduceAdd, Nat.reduceLeDiff, true_implies, eq_self, true_or, or_true, or_false, false_or, not_true_eq_false, not_false_eq_true, false_implies, implies_true, yset_s, yset_o, yset_d, ne_eq, Nat.reduceEqDiff, Int.reduceToNat, Int.reduceEq, Int.reduceLE, Int.reduceLT, Classical.not_not, Nat.reduceLT, ↓zvk_s, ↓zvk_n, ↓s_249_0, ↓s_249_1, ↓s_249_4, ↓s_249_5, ↓s_249_6, ↓s_249_7, ↓s_249_10, ↓s_249_12, ↓s_249_13, ↓s_249_14, ↓s_249_17, ↓s_249_20, ↓s_249_21, ↓s_249_22, ↓s_249_25, ↓s_249_26, ↓s_249_27, ↓s_249_28, ↓s_249_30, ↓s_249_33, ↓s_249_34, ↓s_249_35, ↓s_249_38, ↓s_249_39, ↓s_249_40, ↓s_249_41, ↓s_249_44, ↓s_249_45, ↓s_249_46, ↓s_249_48, ↓s_249_51, ↓s_249_52, ↓s_249_53, ↓s_249_56, ↓s_249_57, ↓s_249_58, ↓s_249_60, ↓s_249_63, ↓g_249_64, ↓k_249_64, ↓s_249_65, ↓s_249_68, ↓s_249_69, ↓s_249_70, ↓s_249_73, ↓s_249_74, ↓g_249_77, ↓k_249_77, ↓s_249_78, ↓s_249_81, ↓s_249_82, ↓s_249_83, ↓s_249_84, ↓s_249_85, ↓s_249_88, ↓s_249_89, ↓s_249_90, ↓s_249_91, ↓s_249_92, ↓s_249_95, ↓s_249_96, ↓s_249_97, ↓g_249_98, ↓k_249_98, ↓s_249_99, ↓s_249_101, ↓s_249_104, ↓s_249_107, ↓s_249_108, ↓s_249_111, ↓s_249_112, ↓s_249_115, ↓s_249_116, ↓s_249_117, ↓s_249_120, ↓s_249_121, ↓s_249_122, ↓s_249_125, ↓s_249_126, ↓s_249_127, ↓s_249_128, ↓s_249_130, ↓s_249_133, ↓g_249_134, ↓k_249_134, ↓s_249_135, ↓s_249_137, ↓s_249_140, ↓s_249_143, ↓s_249_144, ↓s_249_147, ↓s_249_148, ↓s_249_151, ↓s_249_152, ↓s_249_153, ↓s_249_154, ↓s_249_156, ↓s_249_159, ↓g_249_160, ↓k_249_160, ↓s_249_161, ↓s_249_162, ↓s_249_163, ↓s_249_164, ↓s_249_167, ↓s_249_168, ↓s_249_169, ↓s_249_172, w32c_40, w32c_99, ↓s_170_0, ↓s_170_1, ↓s_170_4, ↓s_170_6, ↓s_170_7, ↓s_170_8, ↓s_170_9, ↓s_221_0, ↓s_221_1, ↓s_221_4, ↓s_221_6, ↓s_221_7, ↓s_221_8, ↓s_221_9, ↓s_221_10, zar_97, zia_97, zln_97, zit_97, zar_101, zia_101, zln_101, zit_101, zar_102, zia_102, zln_102, zit_102, zar_103, zia_103, zln_103, zit_103, zar_104, zia_104, zln_104, zit_104, zar_105, zia_105, zln_105, zit_105, zar_106, zia_106, zln_106, zit_106, zar_107, zia_107, zln_107, zit_107, zio_95]
  have h8 : w32 (m 97 8) = (len : Int) := by rw [hS.2.1]; exact hb
  have e1 : w32 (m 97 8 + 1) = ((len + 1 : Nat) : Int) := by rw [w32_ad (by rw [w32c_1, h8]; (first | exact Nat.le_of_ble_eq_true rfl | exact (fun h => absurd h.1 (by decide)) | omega)) (by rw [w32c_1, h8]; (first | exact Nat.le_of_ble_eq_true rfl | exact (fun h => absurd h.1 (by decide)) | omega)), w32c_1, h8]; (first | exact Nat.le_of_ble_eq_true rfl | exact (fun h => absurd h.1 (by decide)) | omega)
  refine ⟨by (first | exact Nat.le_of_ble_eq_true rfl | exact (fun h => absurd h.1 (by decide)) | omega), by (first | exact Nat.le_of_ble_eq_true rfl | exact (fun h => absurd h.1 (by decide)) | omega), fin _ (rvF_fr hS.1 (Or.inr (Or.inl ⟨rfl, rfl⟩))) (rTk_s h (by decide)) (by rw [yset_s]; exact e1) (fun z => ?_)⟩
  obtain ⟨c1, c2, c3, c4, c5, c6, c7⟩ := hS.2.2 z
  exact ⟨by rw [yset_o (by decide)]; exact c1, by rw [yset_o (by decide)]; exact c2, by rw [yset_o (by decide)]; exact c3, by rw [yset_o (by decide)]; exact c4, by rw [yset_o (by decide)]; exact c5, by rw [yset_o (by decide)]; exact c6, by rw [yset_o (by decide)]; exact c7⟩
theorem rw134 (hE : yEok E) (hd : 8 ≤ d) (hl : len < 6) (hv : w32 v = ((6 + len : Nat) : Int)) (hb : w32 (b 97 8) = (len : Int)) (h : rTk ch n m y) (hS : RvS b m len y (a1, a2, a3, a4, a5, a6, 1)) (fin : ∀ m', (∀ i j, ¬ rvF len i j → m' i j = b i j) → rTk ch n m' (pV3 y).1 → w32 (m' 97 8) = ((len + 1 : Nat) : Int) → (yOk (pV3 y).1 → rVs m' (6 + len) (a1, a2, a3, a4, a5, a6, (pV3 y).2)) → Q none m') : zG E (d + 1) xm_249 134 [some (1, 95), some (0, v)] [] m Q := by
  have hvt : (w32 v).toNat = 6 + len := by rw [hv]; exact Int.toNat_natCast _
  refine zgo_ok (n := 60) hE xmo_249 (cs := zc_249) ?_
  by_cases hk : yKd y = 26
  · obtain ⟨q1, q2, q3⟩ := (rf_isw h (k0 := 26) (by decide) (by decide)).mpr hk
    have q3 : w32 (m 95 30) = 10 := q3
    simp only [ynok_30, ynok_31, w32c_0, w32c_1, w32c_2, w32c_3, w32c_4, w32c_5, w32c_6, w32c_7, w32c_8, w32c_9, w32c_10, w32c_11, w32c_12, w32c_13, w32c_14, w32c_m1, w32c_m2, w32c_118, Int.reduceAdd, Int.reduceSub, Int.reduceMul, yput_s, yput_n, znl_n, znl_0, znl_1, znl_4, ysum_n, ysum_0, ysum_1, ysum_4, true_and, and_true, Nat.reduceAdd, Nat.reduceLeDiff, true_implies, eq_self, true_or, or_true, or_false, false_or, not_true_eq_false, not_false_eq_true, false_implies, implies_true, yset_s, yset_o, yset_d, ne_eq, Nat.reduceEqDiff, Int.reduceToNat, Int.reduceEq, Int.reduceLE, Int.reduceLT, Classical.not_not, Nat.reduceLT, ↓zvk_s, ↓zvk_n, ↓s_249_0, ↓s_249_1, ↓s_249_4, ↓s_249_5, ↓s_249_6, ↓s_249_7, ↓s_249_10, ↓s_249_12, ↓s_249_13, ↓s_249_14, ↓s_249_17, ↓s_249_20, ↓s_249_21, ↓s_249_22, ↓s_249_25, ↓s_249_26, ↓s_249_27, ↓s_249_28, ↓s_249_30, ↓s_249_33, ↓s_249_34, ↓s_249_35, ↓s_249_38, ↓s_249_39, ↓s_249_40, ↓s_249_41, ↓s_249_44, ↓s_249_45, ↓s_249_46, ↓s_249_48, ↓s_249_51, ↓s_249_52, ↓s_249_53, ↓s_249_56, ↓s_249_57, ↓s_249_58, ↓s_249_60, ↓s_249_63, ↓g_249_64, ↓k_249_64, ↓s_249_65, ↓s_249_68, ↓s_249_69, ↓s_249_70, ↓s_249_73, ↓s_249_74, ↓g_249_77, ↓k_249_77, ↓s_249_78, ↓s_249_81, ↓s_249_82, ↓s_249_83, ↓s_249_84, ↓s_249_85, ↓s_249_88, ↓s_249_89, ↓s_249_90, ↓s_249_91, ↓s_249_92, ↓s_249_95, ↓s_249_96, ↓s_249_97, ↓g_249_98, ↓k_249_98, ↓s_249_99, ↓s_249_101, ↓s_249_104, ↓s_249_107, ↓s_249_108, ↓s_249_111, ↓s_249_112, ↓s_249_115, ↓s_249_116, ↓s_249_117, ↓s_249_120, ↓s_249_121, ↓s_249_122, ↓s_249_125, ↓s_249_126, ↓s_249_127, ↓s_249_128, ↓s_249_130, ↓s_249_133, ↓g_249_134, ↓k_249_134, ↓s_249_135, ↓s_249_137, ↓s_249_140, ↓s_249_143, ↓s_249_144, ↓s_249_147, ↓s_249_148, ↓s_249_151, ↓s_249_152, ↓s_249_153, ↓s_249_154, ↓s_249_156, ↓s_249_159, ↓g_249_160, ↓k_249_160, ↓s_249_161, ↓s_249_162, ↓s_249_163, ↓s_249_164, ↓s_249_167, ↓s_249_168, ↓s_249_169, ↓s_249_172, w32c_40, w32c_99, ↓s_198_0, ↓s_198_1, ↓s_198_4, ↓s_198_7, ↓s_198_8, ↓s_198_11, ↓s_198_14, ↓s_198_15, ↓s_198_18, ↓s_198_19, ↓s_198_22, ↓s_198_23, ↓s_198_26, ↓s_198_27, zar_101, zia_101, zln_101, zit_101, zar_102, zia_102, zln_102, zit_102, zar_103, zia_103, zln_103, zit_103, zar_104, zia_104, zln_104, zit_104, zar_105, zia_105, zln_105, zit_105, zar_106, zia_106, zln_106, zit_106, zar_107, zia_107, zln_107, zit_107, zio_95, q1, q2, q3]
    have ep : pV3 y = ((yNm 1 99 (yNx y)).2, (yNm 1 99 (yNx y)).1) := by unfold pV3; rw [if_pos hk]
    rw [ep] at fin
    obtain ⟨l, rfl⟩ := yOk_kd (x := y) (by (first | exact Nat.le_of_ble_eq_true rfl | exact (fun h => absurd h.1 (by decide)) | omega))
    refine rf_token hE (by (first | exact Nat.le_of_ble_eq_true rfl | exact (fun h => absurd h.1 (by decide)) | omega)) h (fun m1 F1 T1 => ?_)
    refine zgk_n hE xmo_249 60 zc_249 ?_
    simp only [ynok_30, ynok_31, w32c_0, w32c_1, w32c_2, w32c_3, w32c_4, w32c_5, w32c_6, w32c_7, w32c_8, w32c_9, w32c_10, w32c_11, w32c_12, w32c_13, w32c_14, w32c_m1, w32c_m2, w32c_118, Int.reduceAdd, Int.reduceSub, Int.reduceMul, yput_s, yput_n, znl_n, znl_0, znl_1, znl_4, ysum_n, ysum_0, ysum_1, ysum_4, true_and, and_true, Nat.reduceAdd, Nat.reduceLeDiff, true_implies, eq_self, true_or, or_true, or_false, false_or, not_true_eq_false, not_false_eq_true, false_implies, implies_true, yset_s, yset_o, yset_d, ne_eq, Nat.reduceEqDiff, Int.reduceToNat, Int.reduceEq, Int.reduceLE, Int.reduceLT, Classical.not_not, Nat.reduceLT, ↓zvk_s, ↓zvk_n, ↓s_249_0, ↓s_249_1, ↓s_249_4, ↓s_249_5, ↓s_249_6, ↓s_249_7, ↓s_249_10, ↓s_249_12, ↓s_249_13, ↓s_249_14, ↓s_249_17, ↓s_249_20, ↓s_249_21, ↓s_249_22, ↓s_249_25, ↓s_249_26, ↓s_249_27, ↓s_249_28, ↓s_249_30, ↓s_249_33, ↓s_249_34, ↓s_249_35, ↓s_249_38, ↓s_249_39, ↓s_249_40, ↓s_249_41, ↓s_249_44, ↓s_249_45, ↓s_249_46, ↓s_249_48, ↓s_249_51, ↓s_249_52, ↓s_249_53, ↓s_249_56, ↓s_249_57, ↓s_249_58, ↓s_249_60, ↓s_249_63, ↓g_249_64, ↓k_249_64, ↓s_249_65, ↓s_249_68, ↓s_249_69, ↓s_249_70, ↓s_249_73, ↓s_249_74, ↓g_249_77, ↓k_249_77, ↓s_249_78, ↓s_249_81, ↓s_249_82, ↓s_249_83, ↓s_249_84, ↓s_249_85, ↓s_249_88, ↓s_249_89, ↓s_249_90, ↓s_249_91, ↓s_249_92, ↓s_249_95, ↓s_249_96, ↓s_249_97, ↓g_249_98, ↓k_249_98, ↓s_249_99, ↓s_249_101, ↓s_249_104, ↓s_249_107, ↓s_249_108, ↓s_249_111, ↓s_249_112, ↓s_249_115, ↓s_249_116, ↓s_249_117, ↓s_249_120, ↓s_249_121, ↓s_249_122, ↓s_249_125, ↓s_249_126, ↓s_249_127, ↓s_249_128, ↓s_249_130, ↓s_249_133, ↓g_249_134, ↓k_249_134, ↓s_249_135, ↓s_249_137, ↓s_249_140, ↓s_249_143, ↓s_249_144, ↓s_249_147, ↓s_249_148, ↓s_249_151, ↓s_249_152, ↓s_249_153, ↓s_249_154, ↓s_249_156, ↓s_249_159, ↓g_249_160, ↓k_249_160, ↓s_249_161, ↓s_249_162, ↓s_249_163, ↓s_249_164, ↓s_249_167, ↓s_249_168, ↓s_249_169, ↓s_249_172, w32c_40, w32c_99, zar_101, zia_101, zln_101, zit_101, zar_102, zia_102, zln_102, zit_102, zar_103, zia_103, zln_103, zit_103, zar_104, zia_104, zln_104, zit_104, zar_105, zia_105, zln_105, zit_105, zar_106, zia_106, zln_106, zit_106, zar_107, zia_107, zln_107, zit_107, zio_95]
    refine rf_numeral hE (by (first | exact Nat.le_of_ble_eq_true rfl | exact (fun h => absurd h.1 (by decide)) | omega)) (x := yNx (.inr l)) T1 (by decide) (by decide) (fun r m2 F2 e2 T2 => ?_)
    rw [w32c_1, w32c_99] at e2 T2
    refine zgk_s hE xmo_249 60 zc_249 ?_
    simp only [ynok_30, ynok_31, w32c_0, w32c_1, w32c_2, w32c_3, w32c_4, w32c_5, w32c_6, w32c_7, w32c_8, w32c_9, w32c_10, w32c_11, w32c_12, w32c_13, w32c_14, w32c_m1, w32c_m2, w32c_118, Int.reduceAdd, Int.reduceSub, Int.reduceMul, yput_s, yput_n, znl_n, znl_0, znl_1, znl_4, ysum_n, ysum_0, ysum_1, ysum_4, true_and, and_true, Nat.reduceAdd, Nat.reduceLeDiff, true_implies, eq_self, true_or, or_true, or_false, false_or, not_true_eq_false, not_false_eq_true, false_implies, implies_true, yset_s, yset_o, yset_d, ne_eq, Nat.reduceEqDiff, Int.reduceToNat, Int.reduceEq, Int.reduceLE, Int.reduceLT, Classical.not_not, Nat.reduceLT, ↓zvk_s, ↓zvk_n, ↓s_249_0, ↓s_249_1, ↓s_249_4, ↓s_249_5, ↓s_249_6, ↓s_249_7, ↓s_249_10, ↓s_249_12, ↓s_249_13, ↓s_249_14, ↓s_249_17, ↓s_249_20, ↓s_249_21, ↓s_249_22, ↓s_249_25, ↓s_249_26, ↓s_249_27, ↓s_249_28, ↓s_249_30, ↓s_249_33, ↓s_249_34, ↓s_249_35, ↓s_249_38, ↓s_249_39, ↓s_249_40, ↓s_249_41, ↓s_249_44, ↓s_249_45, ↓s_249_46, ↓s_249_48, ↓s_249_51, ↓s_249_52, ↓s_249_53, ↓s_249_56, ↓s_249_57, ↓s_249_58, ↓s_249_60, ↓s_249_63, ↓g_249_64, ↓k_249_64, ↓s_249_65, ↓s_249_68, ↓s_249_69, ↓s_249_70, ↓s_249_73, ↓s_249_74, ↓g_249_77, ↓k_249_77, ↓s_249_78, ↓s_249_81, ↓s_249_82, ↓s_249_83, ↓s_249_84, ↓s_249_85, ↓s_249_88, ↓s_249_89, ↓s_249_90, ↓s_249_91, ↓s_249_92, ↓s_249_95, ↓s_249_96, ↓s_249_97, ↓g_249_98, ↓k_249_98, ↓s_249_99, ↓s_249_101, ↓s_249_104, ↓s_249_107, ↓s_249_108, ↓s_249_111, ↓s_249_112, ↓s_249_115, ↓s_249_116, ↓s_249_117, ↓s_249_120, ↓s_249_121, ↓s_249_122, ↓s_249_125, ↓s_249_126, ↓s_249_127, ↓s_249_128, ↓s_249_130, ↓s_249_133, ↓g_249_134, ↓k_249_134, ↓s_249_135, ↓s_249_137, ↓s_249_140, ↓s_249_143, ↓s_249_144, ↓s_249_147, ↓s_249_148, ↓s_249_151, ↓s_249_152, ↓s_249_153, ↓s_249_154, ↓s_249_156, ↓s_249_159, ↓g_249_160, ↓k_249_160, ↓s_249_161, ↓s_249_162, ↓s_249_163, ↓s_249_164, ↓s_249_167, ↓s_249_168, ↓s_249_169, ↓s_249_172, w32c_40, w32c_99, zar_101, zia_101, zln_101, zit_101, zar_102, zia_102, zln_102, zit_102, zar_103, zia_103, zln_103, zit_103, zar_104, zia_104, zln_104, zit_104, zar_105, zia_105, zln_105, zit_105, zar_106, zia_106, zln_106, zit_106, zar_107, zia_107, zln_107, zit_107, zio_95]
    refine ⟨⟨by (first | exact Nat.le_of_ble_eq_true rfl | exact (fun h => absurd h.1 (by decide)) | omega), by (first | exact Nat.le_of_ble_eq_true rfl | exact (fun h => absurd h.1 (by decide)) | omega)⟩, ?_⟩
    rw [hvt]
    have S2 := RvS_tk (y' := (yNm 1 99 (yNx (.inr l))).2) (RvS_tk (y' := yNx (.inr l)) hS (aFrm_w F1 (by decide)) yOk_nx) F2 yOk_nm
    refine rw160 hE hl hb (rTk_s T2 (by decide)) (RvS_set S2 (by decide) (fun z => ?_)) fin
    obtain ⟨c1, c2, c3, c4, c5, c6, c7⟩ := S2.2.2 z
    exact ⟨by rw [yset_o (by decide)]; exact c1, by rw [yset_o (by decide)]; exact c2, by rw [yset_o (by decide)]; exact c3, by rw [yset_o (by decide)]; exact c4, by rw [yset_o (by decide)]; exact c5, by rw [yset_o (by decide)]; exact c6, by rw [yset_s]; exact e2⟩
  · have ep : pV3 y = (y, 1) := by unfold pV3; rw [if_neg hk]
    rw [ep] at fin
    have f0 := rw160 (d := d) (v := v) hE hl hb h hS fin
    by_cases q1 : w32 (m 95 31) = 0
    · by_cases q2 : w32 (m 95 29) = 0
      · have q3 : ¬ w32 (m 95 30) = 10 := fun z => hk ((rf_isw h (k0 := 26) (by decide) (by decide)).mp ⟨q1, q2, z⟩)
        simp only [ynok_30, ynok_31, w32c_0, w32c_1, w32c_2, w32c_3, w32c_4, w32c_5, w32c_6, w32c_7, w32c_8, w32c_9, w32c_10, w32c_11, w32c_12, w32c_13, w32c_14, w32c_m1, w32c_m2, w32c_118, Int.reduceAdd, Int.reduceSub, Int.reduceMul, yput_s, yput_n, znl_n, znl_0, znl_1, znl_4, ysum_n, ysum_0, ysum_1, ysum_4, true_and, and_true, Nat.reduceAdd, Nat.reduceLeDiff, true_implies, eq_self, true_or, or_true, or_false, false_or, not_true_eq_false, not_false_eq_true, false_implies, implies_true, yset_s, yset_o, yset_d, ne_eq, Nat.reduceEqDiff, Int.reduceToNat, Int.reduceEq, Int.reduceLE, Int.reduceLT, Classical.not_not, Nat.reduceLT, ↓zvk_s, ↓zvk_n, ↓s_249_0, ↓s_249_1, ↓s_249_4, ↓s_249_5, ↓s_249_6, ↓s_249_7, ↓s_249_10, ↓s_249_12, ↓s_249_13, ↓s_249_14, ↓s_249_17, ↓s_249_20, ↓s_249_21, ↓s_249_22, ↓s_249_25, ↓s_249_26, ↓s_249_27, ↓s_249_28, ↓s_249_30, ↓s_249_33, ↓s_249_34, ↓s_249_35, ↓s_249_38, ↓s_249_39, ↓s_249_40, ↓s_249_41, ↓s_249_44, ↓s_249_45, ↓s_249_46, ↓s_249_48, ↓s_249_51, ↓s_249_52, ↓s_249_53, ↓s_249_56, ↓s_249_57, ↓s_249_58, ↓s_249_60, ↓s_249_63, ↓g_249_64, ↓k_249_64, ↓s_249_65, ↓s_249_68, ↓s_249_69, ↓s_249_70, ↓s_249_73, ↓s_249_74, ↓g_249_77, ↓k_249_77, ↓s_249_78, ↓s_249_81, ↓s_249_82, ↓s_249_83, ↓s_249_84, ↓s_249_85, ↓s_249_88, ↓s_249_89, ↓s_249_90, ↓s_249_91, ↓s_249_92, ↓s_249_95, ↓s_249_96, ↓s_249_97, ↓g_249_98, ↓k_249_98, ↓s_249_99, ↓s_249_101, ↓s_249_104, ↓s_249_107, ↓s_249_108, ↓s_249_111, ↓s_249_112, ↓s_249_115, ↓s_249_116, ↓s_249_117, ↓s_249_120, ↓s_249_121, ↓s_249_122, ↓s_249_125, ↓s_249_126, ↓s_249_127, ↓s_249_128, ↓s_249_130, ↓s_249_133, ↓g_249_134, ↓k_249_134, ↓s_249_135, ↓s_249_137, ↓s_249_140, ↓s_249_143, ↓s_249_144, ↓s_249_147, ↓s_249_148, ↓s_249_151, ↓s_249_152, ↓s_249_153, ↓s_249_154, ↓s_249_156, ↓s_249_159, ↓g_249_160, ↓k_249_160, ↓s_249_161, ↓s_249_162, ↓s_249_163, ↓s_249_164, ↓s_249_167, ↓s_249_168, ↓s_249_169, ↓s_249_172, w32c_40, w32c_99, ↓s_198_0, ↓s_198_1, ↓s_198_4, ↓s_198_7, ↓s_198_8, ↓s_198_11, ↓s_198_14, ↓s_198_15, ↓s_198_18, ↓s_198_19, ↓s_198_22, ↓s_198_23, ↓s_198_26, ↓s_198_27, zar_101, zia_101, zln_101, zit_101, zar_102, zia_102, zln_102, zit_102, zar_103, zia_103, zln_103, zit_103, zar_104, zia_104, zln_104, zit_104, zar_105, zia_105, zln_105, zit_105, zar_106, zia_106, zln_106, zit_106, zar_107, zia_107, zln_107, zit_107, zio_95, q1, q2, q3]
        exact f0
      · simp only [ynok_30, ynok_31, w32c_0, w32c_1, w32c_2, w32c_3, w32c_4, w32c_5, w32c_6, w32c_7, w32c_8, w32c_9, w32c_10, w32c_11, w32c_12, w32c_13, w32c_14, w32c_m1, w32c_m2, w32c_118, Int.reduceAdd, Int.reduceSub, Int.reduceMul, yput_s, yput_n, znl_n, znl_0, znl_1, znl_4, ysum_n, ysum_0, ysum_1, ysum_4, true_and, and_true, Nat.reduceAdd, Nat.reduceLeDiff, true_implies, eq_self, true_or, or_true, or_false, false_or, not_true_eq_false, not_false_eq_true, false_implies, implies_true, yset_s, yset_o, yset_d, ne_eq, Nat.reduceEqDiff, Int.reduceToNat, Int.reduceEq, Int.reduceLE, Int.reduceLT, Classical.not_not, Nat.reduceLT, ↓zvk_s, ↓zvk_n, ↓s_249_0, ↓s_249_1, ↓s_249_4, ↓s_249_5, ↓s_249_6, ↓s_249_7, ↓s_249_10, ↓s_249_12, ↓s_249_13, ↓s_249_14, ↓s_249_17, ↓s_249_20, ↓s_249_21, ↓s_249_22, ↓s_249_25, ↓s_249_26, ↓s_249_27, ↓s_249_28, ↓s_249_30, ↓s_249_33, ↓s_249_34, ↓s_249_35, ↓s_249_38, ↓s_249_39, ↓s_249_40, ↓s_249_41, ↓s_249_44, ↓s_249_45, ↓s_249_46, ↓s_249_48, ↓s_249_51, ↓s_249_52, ↓s_249_53, ↓s_249_56, ↓s_249_57, ↓s_249_58, ↓s_249_60, ↓s_249_63, ↓g_249_64, ↓k_249_64, ↓s_249_65, ↓s_249_68, ↓s_249_69, ↓s_249_70, ↓s_249_73, ↓s_249_74, ↓g_249_77, ↓k_249_77, ↓s_249_78, ↓s_249_81, ↓s_249_82, ↓s_249_83, ↓s_249_84, ↓s_249_85, ↓s_249_88, ↓s_249_89, ↓s_249_90, ↓s_249_91, ↓s_249_92, ↓s_249_95, ↓s_249_96, ↓s_249_97, ↓g_249_98, ↓k_249_98, ↓s_249_99, ↓s_249_101, ↓s_249_104, ↓s_249_107, ↓s_249_108, ↓s_249_111, ↓s_249_112, ↓s_249_115, ↓s_249_116, ↓s_249_117, ↓s_249_120, ↓s_249_121, ↓s_249_122, ↓s_249_125, ↓s_249_126, ↓s_249_127, ↓s_249_128, ↓s_249_130, ↓s_249_133, ↓g_249_134, ↓k_249_134, ↓s_249_135, ↓s_249_137, ↓s_249_140, ↓s_249_143, ↓s_249_144, ↓s_249_147, ↓s_249_148, ↓s_249_151, ↓s_249_152, ↓s_249_153, ↓s_249_154, ↓s_249_156, ↓s_249_159, ↓g_249_160, ↓k_249_160, ↓s_249_161, ↓s_249_162, ↓s_249_163, ↓s_249_164, ↓s_249_167, ↓s_249_168, ↓s_249_169, ↓s_249_172, w32c_40, w32c_99, ↓s_198_0, ↓s_198_1, ↓s_198_4, ↓s_198_7, ↓s_198_8, ↓s_198_11, ↓s_198_14, ↓s_198_15, ↓s_198_18, ↓s_198_19, ↓s_198_22, ↓s_198_23, ↓s_198_26, ↓s_198_27, zar_101, zia_101, zln_101, zit_101, zar_102, zia_102, zln_102, zit_102, zar_103, zia_103, zln_103, zit_103, zar_104, zia_104, zln_104, zit_104, zar_105, zia_105, zln_105, zit_105, zar_106, zia_106, zln_106, zit_106, zar_107, zia_107, zln_107, zit_107, zio_95, q1, q2]
        exact f0
    · simp only [ynok_30, ynok_31, w32c_0, w32c_1, w32c_2, w32c_3, w32c_4, w32c_5, w32c_6, w32c_7, w32c_8, w32c_9, w32c_10, w32c_11, w32c_12, w32c_13, w32c_14, w32c_m1, w32c_m2, w32c_118, Int.reduceAdd, Int.reduceSub, Int.reduceMul, yput_s, yput_n, znl_n, znl_0, znl_1, znl_4, ysum_n, ysum_0, ysum_1, ysum_4, true_and, and_true, Nat.reduceAdd, Nat.reduceLeDiff, true_implies, eq_self, true_or, or_true, or_false, false_or, not_true_eq_false, not_false_eq_true, false_implies, implies_true, yset_s, yset_o, yset_d, ne_eq, Nat.reduceEqDiff, Int.reduceToNat, Int.reduceEq, Int.reduceLE, Int.reduceLT, Classical.not_not, Nat.reduceLT, ↓zvk_s, ↓zvk_n, ↓s_249_0, ↓s_249_1, ↓s_249_4, ↓s_249_5, ↓s_249_6, ↓s_249_7, ↓s_249_10, ↓s_249_12, ↓s_249_13, ↓s_249_14, ↓s_249_17, ↓s_249_20, ↓s_249_21, ↓s_249_22, ↓s_249_25, ↓s_249_26, ↓s_249_27, ↓s_249_28, ↓s_249_30, ↓s_249_33, ↓s_249_34, ↓s_249_35, ↓s_249_38, ↓s_249_39, ↓s_249_40, ↓s_249_41, ↓s_249_44, ↓s_249_45, ↓s_249_46, ↓s_249_48, ↓s_249_51, ↓s_249_52, ↓s_249_53, ↓s_249_56, ↓s_249_57, ↓s_249_58, ↓s_249_60, ↓s_249_63, ↓g_249_64, ↓k_249_64, ↓s_249_65, ↓s_249_68, ↓s_249_69, ↓s_249_70, ↓s_249_73, ↓s_249_74, ↓g_249_77, ↓k_249_77, ↓s_249_78, ↓s_249_81, ↓s_249_82, ↓s_249_83, ↓s_249_84, ↓s_249_85, ↓s_249_88, ↓s_249_89, ↓s_249_90, ↓s_249_91, ↓s_249_92, ↓s_249_95, ↓s_249_96, ↓s_249_97, ↓g_249_98, ↓k_249_98, ↓s_249_99, ↓s_249_101, ↓s_249_104, ↓s_249_107, ↓s_249_108, ↓s_249_111, ↓s_249_112, ↓s_249_115, ↓s_249_116, ↓s_249_117, ↓s_249_120, ↓s_249_121, ↓s_249_122, ↓s_249_125, ↓s_249_126, ↓s_249_127, ↓s_249_128, ↓s_249_130, ↓s_249_133, ↓g_249_134, ↓k_249_134, ↓s_249_135, ↓s_249_137, ↓s_249_140, ↓s_249_143, ↓s_249_144, ↓s_249_147, ↓s_249_148, ↓s_249_151, ↓s_249_152, ↓s_249_153, ↓s_249_154, ↓s_249_156, ↓s_249_159, ↓g_249_160, ↓k_249_160, ↓s_249_161, ↓s_249_162, ↓s_249_163, ↓s_249_164, ↓s_249_167, ↓s_249_168, ↓s_249_169, ↓s_249_172, w32c_40, w32c_99, ↓s_198_0, ↓s_198_1, ↓s_198_4, ↓s_198_7, ↓s_198_8, ↓s_198_11, ↓s_198_14, ↓s_198_15, ↓s_198_18, ↓s_198_19, ↓s_198_22, ↓s_198_23, ↓s_198_26, ↓s_198_27, zar_101, zia_101, zln_101, zit_101, zar_102, zia_102, zln_102, zit_102, zar_103, zia_103, zln_103, zit_103, zar_104, zia_104, zln_104, zit_104, zar_105, zia_105, zln_105, zit_105, zar_106, zia_106, zln_106, zit_106, zar_107, zia_107, zln_107, zit_107, zio_95, q1]
      exact f0
theorem rw98 (hE : yEok E) (hd : 8 ≤ d) (hl : len < 6) (hv : w32 v = ((6 + len : Nat) : Int)) (hb : w32 (b 97 8) = (len : Int)) {nm : List Int} (hN : rNm b 98 0 3 nm) (h : rTk ch n m y) (hS : RvS b m len y (a1, a2, a3, a4, -1, 0, 1)) (fin : ∀ m', (∀ i j, ¬ rvF len i j → m' i j = b i j) → rTk ch n m' (pV3 (pV2 nm y).1).1 → w32 (m' 97 8) = ((len + 1 : Nat) : Int) → (yOk (pV3 (pV2 nm y).1).1 → rVs m' (6 + len) (a1, a2, a3, a4, (pV2 nm y).2.1, (pV2 nm y).2.2, (pV3 (pV2 nm y).1).2)) → Q none m') : zG E (d + 1) xm_249 98 [some (1, 95), some (0, v)] [] m Q := by
  have hvt : (w32 v).toNat = 6 + len := by rw [hv]; exact Int.toNat_natCast _
  refine zgo_ok (n := 60) hE xmo_249 (cs := zc_249) ?_
  by_cases hk : yKd y = 25
  · obtain ⟨q1, q2, q3⟩ := (rf_isw h (k0 := 25) (by decide) (by decide)).mpr hk
    have q3 : w32 (m 95 30) = 9 := q3
    simp only [ynok_30, ynok_31, w32c_0, w32c_1, w32c_2, w32c_3, w32c_4, w32c_5, w32c_6, w32c_7, w32c_8, w32c_9, w32c_10, w32c_11, w32c_12, w32c_13, w32c_14, w32c_m1, w32c_m2, w32c_118, Int.reduceAdd, Int.reduceSub, Int.reduceMul, yput_s, yput_n, znl_n, znl_0, znl_1, znl_4, ysum_n, ysum_0, ysum_1, ysum_4, true_and, and_true, Nat.reduceAdd, Nat.reduceLeDiff, true_implies, eq_self, true_or, or_true, or_false, false_or, not_true_eq_false, not_false_eq_true, false_implies, implies_true, yset_s, yset_o, yset_d, ne_eq, Nat.reduceEqDiff, Int.reduceToNat, Int.reduceEq, Int.reduceLE, Int.reduceLT, Classical.not_not, Nat.reduceLT, ↓zvk_s, ↓zvk_n, ↓s_249_0, ↓s_249_1, ↓s_249_4, ↓s_249_5, ↓s_249_6, ↓s_249_7, ↓s_249_10, ↓s_249_12, ↓s_249_13, ↓s_249_14, ↓s_249_17, ↓s_249_20, ↓s_249_21, ↓s_249_22, ↓s_249_25, ↓s_249_26, ↓s_249_27, ↓s_249_28, ↓s_249_30, ↓s_249_33, ↓s_249_34, ↓s_249_35, ↓s_249_38, ↓s_249_39, ↓s_249_40, ↓s_249_41, ↓s_249_44, ↓s_249_45, ↓s_249_46, ↓s_249_48, ↓s_249_51, ↓s_249_52, ↓s_249_53, ↓s_249_56, ↓s_249_57, ↓s_249_58, ↓s_249_60, ↓s_249_63, ↓g_249_64, ↓k_249_64, ↓s_249_65, ↓s_249_68, ↓s_249_69, ↓s_249_70, ↓s_249_73, ↓s_249_74, ↓g_249_77, ↓k_249_77, ↓s_249_78, ↓s_249_81, ↓s_249_82, ↓s_249_83, ↓s_249_84, ↓s_249_85, ↓s_249_88, ↓s_249_89, ↓s_249_90, ↓s_249_91, ↓s_249_92, ↓s_249_95, ↓s_249_96, ↓s_249_97, ↓g_249_98, ↓k_249_98, ↓s_249_99, ↓s_249_101, ↓s_249_104, ↓s_249_107, ↓s_249_108, ↓s_249_111, ↓s_249_112, ↓s_249_115, ↓s_249_116, ↓s_249_117, ↓s_249_120, ↓s_249_121, ↓s_249_122, ↓s_249_125, ↓s_249_126, ↓s_249_127, ↓s_249_128, ↓s_249_130, ↓s_249_133, ↓g_249_134, ↓k_249_134, ↓s_249_135, ↓s_249_137, ↓s_249_140, ↓s_249_143, ↓s_249_144, ↓s_249_147, ↓s_249_148, ↓s_249_151, ↓s_249_152, ↓s_249_153, ↓s_249_154, ↓s_249_156, ↓s_249_159, ↓g_249_160, ↓k_249_160, ↓s_249_161, ↓s_249_162, ↓s_249_163, ↓s_249_164, ↓s_249_167, ↓s_249_168, ↓s_249_169, ↓s_249_172, w32c_40, w32c_99, ↓s_198_0, ↓s_198_1, ↓s_198_4, ↓s_198_7, ↓s_198_8, ↓s_198_11, ↓s_198_14, ↓s_198_15, ↓s_198_18, ↓s_198_19, ↓s_198_22, ↓s_198_23, ↓s_198_26, ↓s_198_27, zar_101, zia_101, zln_101, zit_101, zar_102, zia_102, zln_102, zit_102, zar_103, zia_103, zln_103, zit_103, zar_104, zia_104, zln_104, zit_104, zar_105, zia_105, zln_105, zit_105, zar_106, zia_106, zln_106, zit_106, zar_107, zia_107, zln_107, zit_107, zio_95, q1, q2, q3]
    have ep : pV2 nm y = ((yNm 0 99 (yTt nm (yNx y)).2).2, (yTt nm (yNx y)).1, (yNm 0 99 (yTt nm (yNx y)).2).1) := by unfold pV2; rw [if_pos hk]
    rw [ep] at fin
    obtain ⟨l, rfl⟩ := yOk_kd (x := y) (by (first | exact Nat.le_of_ble_eq_true rfl | exact (fun h => absurd h.1 (by decide)) | omega))
    refine rf_token hE (by (first | exact Nat.le_of_ble_eq_true rfl | exact (fun h => absurd h.1 (by decide)) | omega)) h (fun m1 F1 T1 => ?_)
    refine zgk_n hE xmo_249 60 zc_249 ?_
    simp only [ynok_30, ynok_31, w32c_0, w32c_1, w32c_2, w32c_3, w32c_4, w32c_5, w32c_6, w32c_7, w32c_8, w32c_9, w32c_10, w32c_11, w32c_12, w32c_13, w32c_14, w32c_m1, w32c_m2, w32c_118, Int.reduceAdd, Int.reduceSub, Int.reduceMul, yput_s, yput_n, znl_n, znl_0, znl_1, znl_4, ysum_n, ysum_0, ysum_1, ysum_4, true_and, and_true, Nat.reduceAdd, Nat.reduceLeDiff, true_implies, eq_self, true_or, or_true, or_false, false_or, not_true_eq_false, not_false_eq_true, false_implies, implies_true, yset_s, yset_o, yset_d, ne_eq, Nat.reduceEqDiff, Int.reduceToNat, Int.reduceEq, Int.reduceLE, Int.reduceLT, Classical.not_not, Nat.reduceLT, ↓zvk_s, ↓zvk_n, ↓s_249_0, ↓s_249_1, ↓s_249_4, ↓s_249_5, ↓s_249_6, ↓s_249_7, ↓s_249_10, ↓s_249_12, ↓s_249_13, ↓s_249_14, ↓s_249_17, ↓s_249_20, ↓s_249_21, ↓s_249_22, ↓s_249_25, ↓s_249_26, ↓s_249_27, ↓s_249_28, ↓s_249_30, ↓s_249_33, ↓s_249_34, ↓s_249_35, ↓s_249_38, ↓s_249_39, ↓s_249_40, ↓s_249_41, ↓s_249_44, ↓s_249_45, ↓s_249_46, ↓s_249_48, ↓s_249_51, ↓s_249_52, ↓s_249_53, ↓s_249_56, ↓s_249_57, ↓s_249_58, ↓s_249_60, ↓s_249_63, ↓g_249_64, ↓k_249_64, ↓s_249_65, ↓s_249_68, ↓s_249_69, ↓s_249_70, ↓s_249_73, ↓s_249_74, ↓g_249_77, ↓k_249_77, ↓s_249_78, ↓s_249_81, ↓s_249_82, ↓s_249_83, ↓s_249_84, ↓s_249_85, ↓s_249_88, ↓s_249_89, ↓s_249_90, ↓s_249_91, ↓s_249_92, ↓s_249_95, ↓s_249_96, ↓s_249_97, ↓g_249_98, ↓k_249_98, ↓s_249_99, ↓s_249_101, ↓s_249_104, ↓s_249_107, ↓s_249_108, ↓s_249_111, ↓s_249_112, ↓s_249_115, ↓s_249_116, ↓s_249_117, ↓s_249_120, ↓s_249_121, ↓s_249_122, ↓s_249_125, ↓s_249_126, ↓s_249_127, ↓s_249_128, ↓s_249_130, ↓s_249_133, ↓g_249_134, ↓k_249_134, ↓s_249_135, ↓s_249_137, ↓s_249_140, ↓s_249_143, ↓s_249_144, ↓s_249_147, ↓s_249_148, ↓s_249_151, ↓s_249_152, ↓s_249_153, ↓s_249_154, ↓s_249_156, ↓s_249_159, ↓g_249_160, ↓k_249_160, ↓s_249_161, ↓s_249_162, ↓s_249_163, ↓s_249_164, ↓s_249_167, ↓s_249_168, ↓s_249_169, ↓s_249_172, w32c_40, w32c_99, zar_101, zia_101, zln_101, zit_101, zar_102, zia_102, zln_102, zit_102, zar_103, zia_103, zln_103, zit_103, zar_104, zia_104, zln_104, zit_104, zar_105, zia_105, zln_105, zit_105, zar_106, zia_106, zln_106, zit_106, zar_107, zia_107, zln_107, zit_107, zio_95]
    have S1 := RvS_tk (y' := yNx (.inr l)) hS (aFrm_w F1 (by decide)) yOk_nx
    refine rf_tavern hE (by (first | exact Nat.le_of_ble_eq_true rfl | exact (fun h => absurd h.1 (by decide)) | omega)) (x := yNx (.inr l)) (rNm_fr hN (S1.1 97 7 (by unfold rvF; (first | exact Nat.le_of_ble_eq_true rfl | exact (fun h => absurd h.1 (by decide)) | omega))) (fun j => S1.1 98 j (by unfold rvF; (first | exact Nat.le_of_ble_eq_true rfl | exact (fun h => absurd h.1 (by decide)) | omega)))) T1 (fun r1 m2 F2 T2 e2 => ?_)
    refine zgk_s hE xmo_249 60 zc_249 ?_
    simp only [ynok_30, ynok_31, w32c_0, w32c_1, w32c_2, w32c_3, w32c_4, w32c_5, w32c_6, w32c_7, w32c_8, w32c_9, w32c_10, w32c_11, w32c_12, w32c_13, w32c_14, w32c_m1, w32c_m2, w32c_118, Int.reduceAdd, Int.reduceSub, Int.reduceMul, yput_s, yput_n, znl_n, znl_0, znl_1, znl_4, ysum_n, ysum_0, ysum_1, ysum_4, true_and, and_true, Nat.reduceAdd, Nat.reduceLeDiff, true_implies, eq_self, true_or, or_true, or_false, false_or, not_true_eq_false, not_false_eq_true, false_implies, implies_true, yset_s, yset_o, yset_d, ne_eq, Nat.reduceEqDiff, Int.reduceToNat, Int.reduceEq, Int.reduceLE, Int.reduceLT, Classical.not_not, Nat.reduceLT, ↓zvk_s, ↓zvk_n, ↓s_249_0, ↓s_249_1, ↓s_249_4, ↓s_249_5, ↓s_249_6, ↓s_249_7, ↓s_249_10, ↓s_249_12, ↓s_249_13, ↓s_249_14, ↓s_249_17, ↓s_249_20, ↓s_249_21, ↓s_249_22, ↓s_249_25, ↓s_249_26, ↓s_249_27, ↓s_249_28, ↓s_249_30, ↓s_249_33, ↓s_249_34, ↓s_249_35, ↓s_249_38, ↓s_249_39, ↓s_249_40, ↓s_249_41, ↓s_249_44, ↓s_249_45, ↓s_249_46, ↓s_249_48, ↓s_249_51, ↓s_249_52, ↓s_249_53, ↓s_249_56, ↓s_249_57, ↓s_249_58, ↓s_249_60, ↓s_249_63, ↓g_249_64, ↓k_249_64, ↓s_249_65, ↓s_249_68, ↓s_249_69, ↓s_249_70, ↓s_249_73, ↓s_249_74, ↓g_249_77, ↓k_249_77, ↓s_249_78, ↓s_249_81, ↓s_249_82, ↓s_249_83, ↓s_249_84, ↓s_249_85, ↓s_249_88, ↓s_249_89, ↓s_249_90, ↓s_249_91, ↓s_249_92, ↓s_249_95, ↓s_249_96, ↓s_249_97, ↓g_249_98, ↓k_249_98, ↓s_249_99, ↓s_249_101, ↓s_249_104, ↓s_249_107, ↓s_249_108, ↓s_249_111, ↓s_249_112, ↓s_249_115, ↓s_249_116, ↓s_249_117, ↓s_249_120, ↓s_249_121, ↓s_249_122, ↓s_249_125, ↓s_249_126, ↓s_249_127, ↓s_249_128, ↓s_249_130, ↓s_249_133, ↓g_249_134, ↓k_249_134, ↓s_249_135, ↓s_249_137, ↓s_249_140, ↓s_249_143, ↓s_249_144, ↓s_249_147, ↓s_249_148, ↓s_249_151, ↓s_249_152, ↓s_249_153, ↓s_249_154, ↓s_249_156, ↓s_249_159, ↓g_249_160, ↓k_249_160, ↓s_249_161, ↓s_249_162, ↓s_249_163, ↓s_249_164, ↓s_249_167, ↓s_249_168, ↓s_249_169, ↓s_249_172, w32c_40, w32c_99, zar_101, zia_101, zln_101, zit_101, zar_102, zia_102, zln_102, zit_102, zar_103, zia_103, zln_103, zit_103, zar_104, zia_104, zln_104, zit_104, zar_105, zia_105, zln_105, zit_105, zar_106, zia_106, zln_106, zit_106, zar_107, zia_107, zln_107, zit_107, zio_95]
    refine ⟨⟨by (first | exact Nat.le_of_ble_eq_true rfl | exact (fun h => absurd h.1 (by decide)) | omega), by (first | exact Nat.le_of_ble_eq_true rfl | exact (fun h => absurd h.1 (by decide)) | omega)⟩, ?_⟩
    rw [hvt]
    have S2 := RvS_tk (y' := (yTt nm (yNx (.inr l))).2) S1 F2 yOk_tt
    have S3 : RvS b (yset m2 105 (6 + len) r1) len (yTt nm (yNx (.inr l))).2 (a1, a2, a3, a4, (yTt nm (yNx (.inr l))).1, 0, 1) := RvS_set S2 (by decide) (fun z => by
      obtain ⟨c1, c2, c3, c4, c5, c6, c7⟩ := S2.2.2 z
      obtain ⟨l', hl'⟩ := z
      exact ⟨by rw [yset_o (by decide)]; exact c1, by rw [yset_o (by decide)]; exact c2, by rw [yset_o (by decide)]; exact c3, by rw [yset_o (by decide)]; exact c4, by rw [yset_s]; exact e2 l' hl', by rw [yset_o (by decide)]; exact c6, by rw [yset_o (by decide)]; exact c7⟩)
    refine rf_numeral hE (by (first | exact Nat.le_of_ble_eq_true rfl | exact (fun h => absurd h.1 (by decide)) | omega)) (rTk_s T2 (by decide)) (by decide) (by decide) (fun r2 m3 F3 e3 T3 => ?_)
    rw [w32c_0, w32c_99] at e3 T3
    refine zgk_s hE xmo_249 60 zc_249 ?_
    simp only [ynok_30, ynok_31, w32c_0, w32c_1, w32c_2, w32c_3, w32c_4, w32c_5, w32c_6, w32c_7, w32c_8, w32c_9, w32c_10, w32c_11, w32c_12, w32c_13, w32c_14, w32c_m1, w32c_m2, w32c_118, Int.reduceAdd, Int.reduceSub, Int.reduceMul, yput_s, yput_n, znl_n, znl_0, znl_1, znl_4, ysum_n, ysum_0, ysum_1, ysum_4, true_and, and_true, Nat.reduceAdd, Nat.reduceLeDiff, true_implies, eq_self, true_or, or_true, or_false, false_or, not_true_eq_false, not_false_eq_true, false_implies, implies_true, yset_s, yset_o, yset_d, ne_eq, Nat.reduceEqDiff, Int.reduceToNat, Int.reduceEq, Int.reduceLE, Int.reduceLT, Classical.not_not, Nat.reduceLT, ↓zvk_s, ↓zvk_n, ↓s_249_0, ↓s_249_1, ↓s_249_4, ↓s_249_5, ↓s_249_6, ↓s_249_7, ↓s_249_10, ↓s_249_12, ↓s_249_13, ↓s_249_14, ↓s_249_17, ↓s_249_20, ↓s_249_21, ↓s_249_22, ↓s_249_25, ↓s_249_26, ↓s_249_27, ↓s_249_28, ↓s_249_30, ↓s_249_33, ↓s_249_34, ↓s_249_35, ↓s_249_38, ↓s_249_39, ↓s_249_40, ↓s_249_41, ↓s_249_44, ↓s_249_45, ↓s_249_46, ↓s_249_48, ↓s_249_51, ↓s_249_52, ↓s_249_53, ↓s_249_56, ↓s_249_57, ↓s_249_58, ↓s_249_60, ↓s_249_63, ↓g_249_64, ↓k_249_64, ↓s_249_65, ↓s_249_68, ↓s_249_69, ↓s_249_70, ↓s_249_73, ↓s_249_74, ↓g_249_77, ↓k_249_77, ↓s_249_78, ↓s_249_81, ↓s_249_82, ↓s_249_83, ↓s_249_84, ↓s_249_85, ↓s_249_88, ↓s_249_89, ↓s_249_90, ↓s_249_91, ↓s_249_92, ↓s_249_95, ↓s_249_96, ↓s_249_97, ↓g_249_98, ↓k_249_98, ↓s_249_99, ↓s_249_101, ↓s_249_104, ↓s_249_107, ↓s_249_108, ↓s_249_111, ↓s_249_112, ↓s_249_115, ↓s_249_116, ↓s_249_117, ↓s_249_120, ↓s_249_121, ↓s_249_122, ↓s_249_125, ↓s_249_126, ↓s_249_127, ↓s_249_128, ↓s_249_130, ↓s_249_133, ↓g_249_134, ↓k_249_134, ↓s_249_135, ↓s_249_137, ↓s_249_140, ↓s_249_143, ↓s_249_144, ↓s_249_147, ↓s_249_148, ↓s_249_151, ↓s_249_152, ↓s_249_153, ↓s_249_154, ↓s_249_156, ↓s_249_159, ↓g_249_160, ↓k_249_160, ↓s_249_161, ↓s_249_162, ↓s_249_163, ↓s_249_164, ↓s_249_167, ↓s_249_168, ↓s_249_169, ↓s_249_172, w32c_40, w32c_99, zar_101, zia_101, zln_101, zit_101, zar_102, zia_102, zln_102, zit_102, zar_103, zia_103, zln_103, zit_103, zar_104, zia_104, zln_104, zit_104, zar_105, zia_105, zln_105, zit_105, zar_106, zia_106, zln_106, zit_106, zar_107, zia_107, zln_107, zit_107, zio_95]
    refine ⟨⟨by (first | exact Nat.le_of_ble_eq_true rfl | exact (fun h => absurd h.1 (by decide)) | omega), by (first | exact Nat.le_of_ble_eq_true rfl | exact (fun h => absurd h.1 (by decide)) | omega)⟩, ?_⟩
    rw [hvt]
    have S4 := RvS_tk (y' := (yNm 0 99 (yTt nm (yNx (.inr l))).2).2) S3 F3 yOk_nm
    have S5 : RvS b (yset m3 106 (6 + len) r2) len (yNm 0 99 (yTt nm (yNx (.inr l))).2).2 (a1, a2, a3, a4, (yTt nm (yNx (.inr l))).1, (yNm 0 99 (yTt nm (yNx (.inr l))).2).1, 1) := RvS_set S4 (by decide) (fun z => by
      obtain ⟨c1, c2, c3, c4, c5, c6, c7⟩ := S4.2.2 z
      exact ⟨by rw [yset_o (by decide)]; exact c1, by rw [yset_o (by decide)]; exact c2, by rw [yset_o (by decide)]; exact c3, by rw [yset_o (by decide)]; exact c4, by rw [yset_o (by decide)]; exact c5, by rw [yset_s]; exact e3, by rw [yset_o (by decide)]; exact c7⟩)
    exact rw134 hE hd hl hv hb (rTk_s T3 (by decide)) S5 fin
  · have ep : pV2 nm y = (y, -1, 0) := by unfold pV2; rw [if_neg hk]
    rw [ep] at fin
    have f0 := rw134 hE hd hl hv hb h hS fin
    by_cases q1 : w32 (m 95 31) = 0
    · by_cases q2 : w32 (m 95 29) = 0
      · have q3 : ¬ w32 (m 95 30) = 9 := fun z => hk ((rf_isw h (k0 := 25) (by decide) (by decide)).mp ⟨q1, q2, z⟩)
        simp only [ynok_30, ynok_31, w32c_0, w32c_1, w32c_2, w32c_3, w32c_4, w32c_5, w32c_6, w32c_7, w32c_8, w32c_9, w32c_10, w32c_11, w32c_12, w32c_13, w32c_14, w32c_m1, w32c_m2, w32c_118, Int.reduceAdd, Int.reduceSub, Int.reduceMul, yput_s, yput_n, znl_n, znl_0, znl_1, znl_4, ysum_n, ysum_0, ysum_1, ysum_4, true_and, and_true, Nat.reduceAdd, Nat.reduceLeDiff, true_implies, eq_self, true_or, or_true, or_false, false_or, not_true_eq_false, not_false_eq_true, false_implies, implies_true, yset_s, yset_o, yset_d, ne_eq, Nat.reduceEqDiff, Int.reduceToNat, Int.reduceEq, Int.reduceLE, Int.reduceLT, Classical.not_not, Nat.reduceLT, ↓zvk_s, ↓zvk_n, ↓s_249_0, ↓s_249_1, ↓s_249_4, ↓s_249_5, ↓s_249_6, ↓s_249_7, ↓s_249_10, ↓s_249_12, ↓s_249_13, ↓s_249_14, ↓s_249_17, ↓s_249_20, ↓s_249_21, ↓s_249_22, ↓s_249_25, ↓s_249_26, ↓s_249_27, ↓s_249_28, ↓s_249_30, ↓s_249_33, ↓s_249_34, ↓s_249_35, ↓s_249_38, ↓s_249_39, ↓s_249_40, ↓s_249_41, ↓s_249_44, ↓s_249_45, ↓s_249_46, ↓s_249_48, ↓s_249_51, ↓s_249_52, ↓s_249_53, ↓s_249_56, ↓s_249_57, ↓s_249_58, ↓s_249_60, ↓s_249_63, ↓g_249_64, ↓k_249_64, ↓s_249_65, ↓s_249_68, ↓s_249_69, ↓s_249_70, ↓s_249_73, ↓s_249_74, ↓g_249_77, ↓k_249_77, ↓s_249_78, ↓s_249_81, ↓s_249_82, ↓s_249_83, ↓s_249_84, ↓s_249_85, ↓s_249_88, ↓s_249_89, ↓s_249_90, ↓s_249_91, ↓s_249_92, ↓s_249_95, ↓s_249_96, ↓s_249_97, ↓g_249_98, ↓k_249_98, ↓s_249_99, ↓s_249_101, ↓s_249_104, ↓s_249_107, ↓s_249_108, ↓s_249_111, ↓s_249_112, ↓s_249_115, ↓s_249_116, ↓s_249_117, ↓s_249_120, ↓s_249_121, ↓s_249_122, ↓s_249_125, ↓s_249_126, ↓s_249_127, ↓s_249_128, ↓s_249_130, ↓s_249_133, ↓g_249_134, ↓k_249_134, ↓s_249_135, ↓s_249_137, ↓s_249_140, ↓s_249_143, ↓s_249_144, ↓s_249_147, ↓s_249_148, ↓s_249_151, ↓s_249_152, ↓s_249_153, ↓s_249_154, ↓s_249_156, ↓s_249_159, ↓g_249_160, ↓k_249_160, ↓s_249_161, ↓s_249_162, ↓s_249_163, ↓s_249_164, ↓s_249_167, ↓s_249_168, ↓s_249_169, ↓s_249_172, w32c_40, w32c_99, ↓s_198_0, ↓s_198_1, ↓s_198_4, ↓s_198_7, ↓s_198_8, ↓s_198_11, ↓s_198_14, ↓s_198_15, ↓s_198_18, ↓s_198_19, ↓s_198_22, ↓s_198_23, ↓s_198_26, ↓s_198_27, zar_101, zia_101, zln_101, zit_101, zar_102, zia_102, zln_102, zit_102, zar_103, zia_103, zln_103, zit_103, zar_104, zia_104, zln_104, zit_104, zar_105, zia_105, zln_105, zit_105, zar_106, zia_106, zln_106, zit_106, zar_107, zia_107, zln_107, zit_107, zio_95, q1, q2, q3]
        exact f0
      · simp only [ynok_30, ynok_31, w32c_0, w32c_1, w32c_2, w32c_3, w32c_4, w32c_5, w32c_6, w32c_7, w32c_8, w32c_9, w32c_10, w32c_11, w32c_12, w32c_13, w32c_14, w32c_m1, w32c_m2, w32c_118, Int.reduceAdd, Int.reduceSub, Int.reduceMul, yput_s, yput_n, znl_n, znl_0, znl_1, znl_4, ysum_n, ysum_0, ysum_1, ysum_4, true_and, and_true, Nat.reduceAdd, Nat.reduceLeDiff, true_implies, eq_self, true_or, or_true, or_false, false_or, not_true_eq_false, not_false_eq_true, false_implies, implies_true, yset_s, yset_o, yset_d, ne_eq, Nat.reduceEqDiff, Int.reduceToNat, Int.reduceEq, Int.reduceLE, Int.reduceLT, Classical.not_not, Nat.reduceLT, ↓zvk_s, ↓zvk_n, ↓s_249_0, ↓s_249_1, ↓s_249_4, ↓s_249_5, ↓s_249_6, ↓s_249_7, ↓s_249_10, ↓s_249_12, ↓s_249_13, ↓s_249_14, ↓s_249_17, ↓s_249_20, ↓s_249_21, ↓s_249_22, ↓s_249_25, ↓s_249_26, ↓s_249_27, ↓s_249_28, ↓s_249_30, ↓s_249_33, ↓s_249_34, ↓s_249_35, ↓s_249_38, ↓s_249_39, ↓s_249_40, ↓s_249_41, ↓s_249_44, ↓s_249_45, ↓s_249_46, ↓s_249_48, ↓s_249_51, ↓s_249_52, ↓s_249_53, ↓s_249_56, ↓s_249_57, ↓s_249_58, ↓s_249_60, ↓s_249_63, ↓g_249_64, ↓k_249_64, ↓s_249_65, ↓s_249_68, ↓s_249_69, ↓s_249_70, ↓s_249_73, ↓s_249_74, ↓g_249_77, ↓k_249_77, ↓s_249_78, ↓s_249_81, ↓s_249_82, ↓s_249_83, ↓s_249_84, ↓s_249_85, ↓s_249_88, ↓s_249_89, ↓s_249_90, ↓s_249_91, ↓s_249_92, ↓s_249_95, ↓s_249_96, ↓s_249_97, ↓g_249_98, ↓k_249_98, ↓s_249_99, ↓s_249_101, ↓s_249_104, ↓s_249_107, ↓s_249_108, ↓s_249_111, ↓s_249_112, ↓s_249_115, ↓s_249_116, ↓s_249_117, ↓s_249_120, ↓s_249_121, ↓s_249_122, ↓s_249_125, ↓s_249_126, ↓s_249_127, ↓s_249_128, ↓s_249_130, ↓s_249_133, ↓g_249_134, ↓k_249_134, ↓s_249_135, ↓s_249_137, ↓s_249_140, ↓s_249_143, ↓s_249_144, ↓s_249_147, ↓s_249_148, ↓s_249_151, ↓s_249_152, ↓s_249_153, ↓s_249_154, ↓s_249_156, ↓s_249_159, ↓g_249_160, ↓k_249_160, ↓s_249_161, ↓s_249_162, ↓s_249_163, ↓s_249_164, ↓s_249_167, ↓s_249_168, ↓s_249_169, ↓s_249_172, w32c_40, w32c_99, ↓s_198_0, ↓s_198_1, ↓s_198_4, ↓s_198_7, ↓s_198_8, ↓s_198_11, ↓s_198_14, ↓s_198_15, ↓s_198_18, ↓s_198_19, ↓s_198_22, ↓s_198_23, ↓s_198_26, ↓s_198_27, zar_101, zia_101, zln_101, zit_101, zar_102, zia_102, zln_102, zit_102, zar_103, zia_103, zln_103, zit_103, zar_104, zia_104, zln_104, zit_104, zar_105, zia_105, zln_105, zit_105, zar_106, zia_106, zln_106, zit_106, zar_107, zia_107, zln_107, zit_107, zio_95, q1, q2]
        exact f0
    · simp only [ynok_30, ynok_31, w32c_0, w32c_1, w32c_2, w32c_3, w32c_4, w32c_5, w32c_6, w32c_7, w32c_8, w32c_9, w32c_10, w32c_11, w32c_12, w32c_13, w32c_14, w32c_m1, w32c_m2, w32c_118, Int.reduceAdd, Int.reduceSub, Int.reduceMul, yput_s, yput_n, znl_n, znl_0, znl_1, znl_4, ysum_n, ysum_0, ysum_1, ysum_4, true_and, and_true, Nat.reduceAdd, Nat.reduceLeDiff, true_implies, eq_self, true_or, or_true, or_false, false_or, not_true_eq_false, not_false_eq_true, false_implies, implies_true, yset_s, yset_o, yset_d, ne_eq, Nat.reduceEqDiff, Int.reduceToNat, Int.reduceEq, Int.reduceLE, Int.reduceLT, Classical.not_not, Nat.reduceLT, ↓zvk_s, ↓zvk_n, ↓s_249_0, ↓s_249_1, ↓s_249_4, ↓s_249_5, ↓s_249_6, ↓s_249_7, ↓s_249_10, ↓s_249_12, ↓s_249_13, ↓s_249_14, ↓s_249_17, ↓s_249_20, ↓s_249_21, ↓s_249_22, ↓s_249_25, ↓s_249_26, ↓s_249_27, ↓s_249_28, ↓s_249_30, ↓s_249_33, ↓s_249_34, ↓s_249_35, ↓s_249_38, ↓s_249_39, ↓s_249_40, ↓s_249_41, ↓s_249_44, ↓s_249_45, ↓s_249_46, ↓s_249_48, ↓s_249_51, ↓s_249_52, ↓s_249_53, ↓s_249_56, ↓s_249_57, ↓s_249_58, ↓s_249_60, ↓s_249_63, ↓g_249_64, ↓k_249_64, ↓s_249_65, ↓s_249_68, ↓s_249_69, ↓s_249_70, ↓s_249_73, ↓s_249_74, ↓g_249_77, ↓k_249_77, ↓s_249_78, ↓s_249_81, ↓s_249_82, ↓s_249_83, ↓s_249_84, ↓s_249_85, ↓s_249_88, ↓s_249_89, ↓s_249_90, ↓s_249_91, ↓s_249_92, ↓s_249_95, ↓s_249_96, ↓s_249_97, ↓g_249_98, ↓k_249_98, ↓s_249_99, ↓s_249_101, ↓s_249_104, ↓s_249_107, ↓s_249_108, ↓s_249_111, ↓s_249_112, ↓s_249_115, ↓s_249_116, ↓s_249_117, ↓s_249_120, ↓s_249_121, ↓s_249_122, ↓s_249_125, ↓s_249_126, ↓s_249_127, ↓s_249_128, ↓s_249_130, ↓s_249_133, ↓g_249_134, ↓k_249_134, ↓s_249_135, ↓s_249_137, ↓s_249_140, ↓s_249_143, ↓s_249_144, ↓s_249_147, ↓s_249_148, ↓s_249_151, ↓s_249_152, ↓s_249_153, ↓s_249_154, ↓s_249_156, ↓s_249_159, ↓g_249_160, ↓k_249_160, ↓s_249_161, ↓s_249_162, ↓s_249_163, ↓s_249_164, ↓s_249_167, ↓s_249_168, ↓s_249_169, ↓s_249_172, w32c_40, w32c_99, ↓s_198_0, ↓s_198_1, ↓s_198_4, ↓s_198_7, ↓s_198_8, ↓s_198_11, ↓s_198_14, ↓s_198_15, ↓s_198_18, ↓s_198_19, ↓s_198_22, ↓s_198_23, ↓s_198_26, ↓s_198_27, zar_101, zia_101, zln_101, zit_101, zar_102, zia_102, zln_102, zit_102, zar_103, zia_103, zln_103, zit_103, zar_104, zia_104, zln_104, zit_104, zar_105, zia_105, zln_105, zit_105, zar_106, zia_106, zln_106, zit_106, zar_107, zia_107, zln_107, zit_107, zio_95, q1]
      exact f0
theorem rw77 (hE : yEok E) (hd : 8 ≤ d) (hl : len < 6) (hv : w32 v = ((6 + len : Nat) : Int)) (hb : w32 (b 97 8) = (len : Int)) {nm : List Int} (hN : rNm b 98 0 3 nm) (h : rTk ch n m y) (hS : RvS b m len y (a1, a2, a3, a4, a5, a6, a7)) (fin : ∀ m', (∀ i j, ¬ rvF len i j → m' i j = b i j) → rTk ch n m' (pV3 (pV2 nm y).1).1 → w32 (m' 97 8) = ((len + 1 : Nat) : Int) → (yOk (pV3 (pV2 nm y).1).1 → rVs m' (6 + len) (a1, a2, a3, a4, (pV2 nm y).2.1, (pV2 nm y).2.2, (pV3 (pV2 nm y).1).2)) → Q none m') : zG E (d + 1) xm_249 77 [some (1, 95), some (0, v)] [] m Q := by
  have hvt : (w32 v).toNat = 6 + len := by rw [hv]; exact Int.toNat_natCast _
  refine zgo_ok (n := 60) hE xmo_249 (cs := zc_249) ?_
  simp only [ynok_30, ynok_31, w32c_0, w32c_1, w32c_2, w32c_3, w32c_4, w32c_5, w32c_6, w32c_7, w32c_8, w32c_9, w32c_10, w32c_11, w32c_12, w32c_13, w32c_14, w32c_m1, w32c_m2, w32c_118, Int.reduceAdd, Int.reduceSub, Int.reduceMul, yput_s, yput_n, znl_n, znl_0, znl_1, znl_4, ysum_n, ysum_0, ysum_1, ysum_4, true_and, and_true, Nat.reduceAdd, Nat.reduceLeDiff, true_implies, eq_self, true_or, or_true, or_false, false_or, not_true_eq_false, not_false_eq_true, false_implies, implies_true, yset_s, yset_o, yset_d, ne_eq, Nat.reduceEqDiff, Int.reduceToNat, Int.reduceEq, Int.reduceLE, Int.reduceLT, Classical.not_not, Nat.reduceLT, ↓zvk_s, ↓zvk_n, ↓s_249_0, ↓s_249_1, ↓s_249_4, ↓s_249_5, ↓s_249_6, ↓s_249_7, ↓s_249_10, ↓s_249_12, ↓s_249_13, ↓s_249_14, ↓s_249_17, ↓s_249_20, ↓s_249_21, ↓s_249_22, ↓s_249_25, ↓s_249_26, ↓s_249_27, ↓s_249_28, ↓s_249_30, ↓s_249_33, ↓s_249_34, ↓s_249_35, ↓s_249_38, ↓s_249_39, ↓s_249_40, ↓s_249_41, ↓s_249_44, ↓s_249_45, ↓s_249_46, ↓s_249_48, ↓s_249_51, ↓s_249_52, ↓s_249_53, ↓s_249_56, ↓s_249_57, ↓s_249_58, ↓s_249_60, ↓s_249_63, ↓g_249_64, ↓k_249_64, ↓s_249_65, ↓s_249_68, ↓s_249_69, ↓s_249_70, ↓s_249_73, ↓s_249_74, ↓g_249_77, ↓k_249_77, ↓s_249_78, ↓s_249_81, ↓s_249_82, ↓s_249_83, ↓s_249_84, ↓s_249_85, ↓s_249_88, ↓s_249_89, ↓s_249_90, ↓s_249_91, ↓s_249_92, ↓s_249_95, ↓s_249_96, ↓s_249_97, ↓g_249_98, ↓k_249_98, ↓s_249_99, ↓s_249_101, ↓s_249_104, ↓s_249_107, ↓s_249_108, ↓s_249_111, ↓s_249_112, ↓s_249_115, ↓s_249_116, ↓s_249_117, ↓s_249_120, ↓s_249_121, ↓s_249_122, ↓s_249_125, ↓s_249_126, ↓s_249_127, ↓s_249_128, ↓s_249_130, ↓s_249_133, ↓g_249_134, ↓k_249_134, ↓s_249_135, ↓s_249_137, ↓s_249_140, ↓s_249_143, ↓s_249_144, ↓s_249_147, ↓s_249_148, ↓s_249_151, ↓s_249_152, ↓s_249_153, ↓s_249_154, ↓s_249_156, ↓s_249_159, ↓g_249_160, ↓k_249_160, ↓s_249_161, ↓s_249_162, ↓s_249_163, ↓s_249_164, ↓s_249_167, ↓s_249_168, ↓s_249_169, ↓s_249_172, w32c_40, w32c_99, zar_101, zia_101, zln_101, zit_101, zar_102, zia_102, zln_102, zit_102, zar_103, zia_103, zln_103, zit_103, zar_104, zia_104, zln_104, zit_104, zar_105, zia_105, zln_105, zit_105, zar_106, zia_106, zln_106, zit_106, zar_107, zia_107, zln_107, zit_107, zio_95]
  refine ⟨⟨by (first | exact Nat.le_of_ble_eq_true rfl | exact (fun h => absurd h.1 (by decide)) | omega), by (first | exact Nat.le_of_ble_eq_true rfl | exact (fun h => absurd h.1 (by decide)) | omega)⟩, ⟨by (first | exact Nat.le_of_ble_eq_true rfl | exact (fun h => absurd h.1 (by decide)) | omega), by (first | exact Nat.le_of_ble_eq_true rfl | exact (fun h => absurd h.1 (by decide)) | omega)⟩, ⟨by (first | exact Nat.le_of_ble_eq_true rfl | exact (fun h => absurd h.1 (by decide)) | omega), by (first | exact Nat.le_of_ble_eq_true rfl | exact (fun h => absurd h.1 (by decide)) | omega)⟩, ?_⟩
  rw [hvt]
  have S1 : RvS b (yset m 105 (6 + len) (-1)) len y (a1, a2, a3, a4, -1, a6, a7) := RvS_set hS (by decide) (fun z => by
    obtain ⟨c1, c2, c3, c4, c5, c6, c7⟩ := hS.2.2 z
    exact ⟨by rw [yset_o (by decide)]; exact c1, by rw [yset_o (by decide)]; exact c2, by rw [yset_o (by decide)]; exact c3, by rw [yset_o (by decide)]; exact c4, by rw [yset_s]; exact w32c_m1, by rw [yset_o (by decide)]; exact c6, by rw [yset_o (by decide)]; exact c7⟩)
  have S2 : RvS b (yset (yset m 105 (6 + len) (-1)) 106 (6 + len) 0) len y (a1, a2, a3, a4, -1, 0, a7) := RvS_set S1 (by decide) (fun z => by
    obtain ⟨c1, c2, c3, c4, c5, c6, c7⟩ := S1.2.2 z
    exact ⟨by rw [yset_o (by decide)]; exact c1, by rw [yset_o (by decide)]; exact c2, by rw [yset_o (by decide)]; exact c3, by rw [yset_o (by decide)]; exact c4, by rw [yset_o (by decide)]; exact c5, by rw [yset_s]; exact w32c_0, by rw [yset_o (by decide)]; exact c7⟩)
  have S3 : RvS b (yset (yset (yset m 105 (6 + len) (-1)) 106 (6 + len) 0) 107 (6 + len) 1) len y (a1, a2, a3, a4, -1, 0, 1) := RvS_set S2 (by decide) (fun z => by
    obtain ⟨c1, c2, c3, c4, c5, c6, c7⟩ := S2.2.2 z
    exact ⟨by rw [yset_o (by decide)]; exact c1, by rw [yset_o (by decide)]; exact c2, by rw [yset_o (by decide)]; exact c3, by rw [yset_o (by decide)]; exact c4, by rw [yset_o (by decide)]; exact c5, by rw [yset_o (by decide)]; exact c6, by rw [yset_s]; exact w32c_1⟩)
  exact rw98 hE hd hl hv hb hN (rTk_s (rTk_s (rTk_s h (by decide)) (by decide)) (by decide)) S3 fin
theorem rw64 (hE : yEok E) (hd : 8 ≤ d) (hl : len < 6) (hv : w32 v = ((6 + len : Nat) : Int)) (hb : w32 (b 97 8) = (len : Int)) {nm : List Int} (hN : rNm b 98 0 3 nm) (h : rTk ch n m y) (hbo : w32 (m 104 (6 + len)) = (pV1 y).2) (hS : RvS b m len y (a1, a2, a3, (pV1 y).2, a5, a6, a7)) (fin : ∀ m', (∀ i j, ¬ rvF len i j → m' i j = b i j) → rTk ch n m' (pV3 (pV2 nm (pV1 y).1).1).1 → w32 (m' 97 8) = ((len + 1 : Nat) : Int) → (yOk (pV3 (pV2 nm (pV1 y).1).1).1 → rVs m' (6 + len) (a1, a2, a3, (pV1 y).2, (pV2 nm (pV1 y).1).2.1, (pV2 nm (pV1 y).1).2.2, (pV3 (pV2 nm (pV1 y).1).1).2)) → Q none m') : zG E (d + 1) xm_249 64 [some (1, 95), some (0, v)] [] m Q := by
  have hvt : (w32 v).toNat = 6 + len := by rw [hv]; exact Int.toNat_natCast _
  refine zgo_ok (n := 60) hE xmo_249 (cs := zc_249) ?_
  simp only [ynok_30, ynok_31, w32c_0, w32c_1, w32c_2, w32c_3, w32c_4, w32c_5, w32c_6, w32c_7, w32c_8, w32c_9, w32c_10, w32c_11, w32c_12, w32c_13, w32c_14, w32c_m1, w32c_m2, w32c_118, Int.reduceAdd, Int.reduceSub, Int.reduceMul, yput_s, yput_n, znl_n, znl_0, znl_1, znl_4, ysum_n, ysum_0, ysum_1, ysum_4, true_and, and_true, Nat.reduceAdd, Nat.reduceLeDiff, true_implies, eq_self, true_or, or_true, or_false, false_or, not_true_eq_false, not_false_eq_true, false_implies, implies_true, yset_s, yset_o, yset_d, ne_eq, Nat.reduceEqDiff, Int.reduceToNat, Int.reduceEq, Int.reduceLE, Int.reduceLT, Classical.not_not, Nat.reduceLT, ↓zvk_s, ↓zvk_n, ↓s_249_0, ↓s_249_1, ↓s_249_4, ↓s_249_5, ↓s_249_6, ↓s_249_7, ↓s_249_10, ↓s_249_12, ↓s_249_13, ↓s_249_14, ↓s_249_17, ↓s_249_20, ↓s_249_21, ↓s_249_22, ↓s_249_25, ↓s_249_26, ↓s_249_27, ↓s_249_28, ↓s_249_30, ↓s_249_33, ↓s_249_34, ↓s_249_35, ↓s_249_38, ↓s_249_39, ↓s_249_40, ↓s_249_41, ↓s_249_44, ↓s_249_45, ↓s_249_46, ↓s_249_48, ↓s_249_51, ↓s_249_52, ↓s_249_53, ↓s_249_56, ↓s_249_57, ↓s_249_58, ↓s_249_60, ↓s_249_63, ↓g_249_64, ↓k_249_64, ↓s_249_65, ↓s_249_68, ↓s_249_69, ↓s_249_70, ↓s_249_73, ↓s_249_74, ↓g_249_77, ↓k_249_77, ↓s_249_78, ↓s_249_81, ↓s_249_82, ↓s_249_83, ↓s_249_84, ↓s_249_85, ↓s_249_88, ↓s_249_89, ↓s_249_90, ↓s_249_91, ↓s_249_92, ↓s_249_95, ↓s_249_96, ↓s_249_97, ↓g_249_98, ↓k_249_98, ↓s_249_99, ↓s_249_101, ↓s_249_104, ↓s_249_107, ↓s_249_108, ↓s_249_111, ↓s_249_112, ↓s_249_115, ↓s_249_116, ↓s_249_117, ↓s_249_120, ↓s_249_121, ↓s_249_122, ↓s_249_125, ↓s_249_126, ↓s_249_127, ↓s_249_128, ↓s_249_130, ↓s_249_133, ↓g_249_134, ↓k_249_134, ↓s_249_135, ↓s_249_137, ↓s_249_140, ↓s_249_143, ↓s_249_144, ↓s_249_147, ↓s_249_148, ↓s_249_151, ↓s_249_152, ↓s_249_153, ↓s_249_154, ↓s_249_156, ↓s_249_159, ↓g_249_160, ↓k_249_160, ↓s_249_161, ↓s_249_162, ↓s_249_163, ↓s_249_164, ↓s_249_167, ↓s_249_168, ↓s_249_169, ↓s_249_172, w32c_40, w32c_99, zar_101, zia_101, zln_101, zit_101, zar_102, zia_102, zln_102, zit_102, zar_103, zia_103, zln_103, zit_103, zar_104, zia_104, zln_104, zit_104, zar_105, zia_105, zln_105, zit_105, zar_106, zia_106, zln_106, zit_106, zar_107, zia_107, zln_107, zit_107, zio_95]
  refine ⟨⟨by (first | exact Nat.le_of_ble_eq_true rfl | exact (fun h => absurd h.1 (by decide)) | omega), by (first | exact Nat.le_of_ble_eq_true rfl | exact (fun h => absurd h.1 (by decide)) | omega)⟩, ?_⟩
  rw [hvt, hbo]
  by_cases hk : yKd y = 24
  · have ep : pV1 y = (yNx y, 1) := by unfold pV1; rw [if_pos hk]
    rw [ep] at hS fin ⊢
    refine ⟨fun z => absurd z (show ¬ (1 : Int) = 0 by decide), fun _ => ?_⟩
    obtain ⟨l, rfl⟩ := yOk_kd (x := y) (by (first | exact Nat.le_of_ble_eq_true rfl | exact (fun h => absurd h.1 (by decide)) | omega))
    refine rf_token hE (by (first | exact Nat.le_of_ble_eq_true rfl | exact (fun h => absurd h.1 (by decide)) | omega)) h (fun m1 F1 T1 => ?_)
    refine zgk_n hE xmo_249 60 zc_249 ?_
    simp only [ynok_30, ynok_31, w32c_0, w32c_1, w32c_2, w32c_3, w32c_4, w32c_5, w32c_6, w32c_7, w32c_8, w32c_9, w32c_10, w32c_11, w32c_12, w32c_13, w32c_14, w32c_m1, w32c_m2, w32c_118, Int.reduceAdd, Int.reduceSub, Int.reduceMul, yput_s, yput_n, znl_n, znl_0, znl_1, znl_4, ysum_n, ysum_0, ysum_1, ysum_4, true_and, and_true, Nat.reduceAdd, Nat.reduceLeDiff, true_implies, eq_self, true_or, or_true, or_false, false_or, not_true_eq_false, not_false_eq_true, false_implies, implies_true, yset_s, yset_o, yset_d, ne_eq, Nat.reduceEqDiff, Int.reduceToNat, Int.reduceEq, Int.reduceLE, Int.reduceLT, Classical.not_not, Nat.reduceLT, ↓zvk_s, ↓zvk_n, ↓s_249_0, ↓s_249_1, ↓s_249_4, ↓s_249_5, ↓s_249_6, ↓s_249_7, ↓s_249_10, ↓s_249_12, ↓s_249_13, ↓s_249_14, ↓s_249_17, ↓s_249_20, ↓s_249_21, ↓s_249_22, ↓s_249_25, ↓s_249_26, ↓s_249_27, ↓s_249_28, ↓s_249_30, ↓s_249_33, ↓s_249_34, ↓s_249_35, ↓s_249_38, ↓s_249_39, ↓s_249_40, ↓s_249_41, ↓s_249_44, ↓s_249_45, ↓s_249_46, ↓s_249_48, ↓s_249_51, ↓s_249_52, ↓s_249_53, ↓s_249_56, ↓s_249_57, ↓s_249_58, ↓s_249_60, ↓s_249_63, ↓g_249_64, ↓k_249_64, ↓s_249_65, ↓s_249_68, ↓s_249_69, ↓s_249_70, ↓s_249_73, ↓s_249_74, ↓g_249_77, ↓k_249_77, ↓s_249_78, ↓s_249_81, ↓s_249_82, ↓s_249_83, ↓s_249_84, ↓s_249_85, ↓s_249_88, ↓s_249_89, ↓s_249_90, ↓s_249_91, ↓s_249_92, ↓s_249_95, ↓s_249_96, ↓s_249_97, ↓g_249_98, ↓k_249_98, ↓s_249_99, ↓s_249_101, ↓s_249_104, ↓s_249_107, ↓s_249_108, ↓s_249_111, ↓s_249_112, ↓s_249_115, ↓s_249_116, ↓s_249_117, ↓s_249_120, ↓s_249_121, ↓s_249_122, ↓s_249_125, ↓s_249_126, ↓s_249_127, ↓s_249_128, ↓s_249_130, ↓s_249_133, ↓g_249_134, ↓k_249_134, ↓s_249_135, ↓s_249_137, ↓s_249_140, ↓s_249_143, ↓s_249_144, ↓s_249_147, ↓s_249_148, ↓s_249_151, ↓s_249_152, ↓s_249_153, ↓s_249_154, ↓s_249_156, ↓s_249_159, ↓g_249_160, ↓k_249_160, ↓s_249_161, ↓s_249_162, ↓s_249_163, ↓s_249_164, ↓s_249_167, ↓s_249_168, ↓s_249_169, ↓s_249_172, w32c_40, w32c_99, zar_101, zia_101, zln_101, zit_101, zar_102, zia_102, zln_102, zit_102, zar_103, zia_103, zln_103, zit_103, zar_104, zia_104, zln_104, zit_104, zar_105, zia_105, zln_105, zit_105, zar_106, zia_106, zln_106, zit_106, zar_107, zia_107, zln_107, zit_107, zio_95]
    exact rw77 (y := yNx (.inr l)) hE hd hl hv hb hN T1 (RvS_tk hS (aFrm_w F1 (by decide)) yOk_nx) fin
  · have ep : pV1 y = (y, 0) := by unfold pV1; rw [if_neg hk]
    rw [ep] at hS fin ⊢
    exact ⟨fun _ => rw77 hE hd hl hv hb hN h hS fin, fun z => absurd rfl z⟩
/-- THE REFERENCE'S voiceLine -/
theorem rf_voiceLine (hE : yEok E) {D : Nat} (hD : 10 ≤ D) {tn nv : List Int} (hl : nv.length < 6) (hv : w32 v = ((6 + nv.length : Nat) : Int)) (h : rTk ch n mem x) (hN : rNm mem 98 0 3 tn) (hV : rNm mem 101 1 6 nv) (hQ : ∀ m, (∀ i j, ¬ rvF nv.length i j → m i j = mem i j) → rTk ch n m (pVn tn (yVl x) (yFr nv x)).1 → w32 (m 97 8) = ((nv.length + 1 : Nat) : Int) → (yOk (pVn tn (yVl x) (yFr nv x)).1 → rVs m (6 + nv.length) (pVn tn (yVl x) (yFr nv x)).2) → Q none m) : yCon E D xm_249 [(1, 95), (0, v)] mem Q := by
  obtain ⟨d, rfl⟩ := Nat.exists_eq_add_of_le' hD
  have hvt : (w32 v).toNat = 6 + nv.length := by rw [hv]; exact Int.toNat_natCast _
  refine e_249 ?_
  refine zvc_ok hE 60 zc_249 _ _ _ _ _ _ _ xmo_249 ?_
  simp only [ynok_30, ynok_31, w32c_0, w32c_1, w32c_2, w32c_3, w32c_4, w32c_5, w32c_6, w32c_7, w32c_8, w32c_9, w32c_10, w32c_11, w32c_12, w32c_13, w32c_14, w32c_m1, w32c_m2, w32c_118, Int.reduceAdd, Int.reduceSub, Int.reduceMul, yput_s, yput_n, znl_n, znl_0, znl_1, znl_4, ysum_n, ysum_0, ysum_1, ysum_4, true_and, and_true, Nat.reduceAdd, Nat.reduceLeDiff, true_implies, eq_self, true_or, or_true, or_false, false_or, not_true_eq_false, not_false_eq_true, false_implies, implies_true, yset_s, yset_o, yset_d, ne_eq, Nat.reduceEqDiff, Int.reduceToNat, Int.reduceEq, Int.reduceLE, Int.reduceLT, Classical.not_not, Nat.reduceLT, ↓zvk_s, ↓zvk_n, ↓s_249_0, ↓s_249_1, ↓s_249_4, ↓s_249_5, ↓s_249_6, ↓s_249_7, ↓s_249_10, ↓s_249_12, ↓s_249_13, ↓s_249_14, ↓s_249_17, ↓s_249_20, ↓s_249_21, ↓s_249_22, ↓s_249_25, ↓s_249_26, ↓s_249_27, ↓s_249_28, ↓s_249_30, ↓s_249_33, ↓s_249_34, ↓s_249_35, ↓s_249_38, ↓s_249_39, ↓s_249_40, ↓s_249_41, ↓s_249_44, ↓s_249_45, ↓s_249_46, ↓s_249_48, ↓s_249_51, ↓s_249_52, ↓s_249_53, ↓s_249_56, ↓s_249_57, ↓s_249_58, ↓s_249_60, ↓s_249_63, ↓g_249_64, ↓k_249_64, ↓s_249_65, ↓s_249_68, ↓s_249_69, ↓s_249_70, ↓s_249_73, ↓s_249_74, ↓g_249_77, ↓k_249_77, ↓s_249_78, ↓s_249_81, ↓s_249_82, ↓s_249_83, ↓s_249_84, ↓s_249_85, ↓s_249_88, ↓s_249_89, ↓s_249_90, ↓s_249_91, ↓s_249_92, ↓s_249_95, ↓s_249_96, ↓s_249_97, ↓g_249_98, ↓k_249_98, ↓s_249_99, ↓s_249_101, ↓s_249_104, ↓s_249_107, ↓s_249_108, ↓s_249_111, ↓s_249_112, ↓s_249_115, ↓s_249_116, ↓s_249_117, ↓s_249_120, ↓s_249_121, ↓s_249_122, ↓s_249_125, ↓s_249_126, ↓s_249_127, ↓s_249_128, ↓s_249_130, ↓s_249_133, ↓g_249_134, ↓k_249_134, ↓s_249_135, ↓s_249_137, ↓s_249_140, ↓s_249_143, ↓s_249_144, ↓s_249_147, ↓s_249_148, ↓s_249_151, ↓s_249_152, ↓s_249_153, ↓s_249_154, ↓s_249_156, ↓s_249_159, ↓g_249_160, ↓k_249_160, ↓s_249_161, ↓s_249_162, ↓s_249_163, ↓s_249_164, ↓s_249_167, ↓s_249_168, ↓s_249_169, ↓s_249_172, w32c_40, w32c_99, ↓s_170_0, ↓s_170_1, ↓s_170_4, ↓s_170_6, ↓s_170_7, ↓s_170_8, ↓s_170_9, zar_97, zia_97, zln_97, zit_97, zar_101, zia_101, zln_101, zit_101, zar_102, zia_102, zln_102, zit_102, zar_103, zia_103, zln_103, zit_103, zar_104, zia_104, zln_104, zit_104, zar_105, zia_105, zln_105, zit_105, zar_106, zia_106, zln_106, zit_106, zar_107, zia_107, zln_107, zit_107, zio_95]
  refine ⟨by (first | exact Nat.le_of_ble_eq_true rfl | exact (fun h => absurd h.1 (by decide)) | omega), ?_⟩
  refine rf_fresh hE (by (first | exact Nat.le_of_ble_eq_true rfl | exact (fun h => absurd h.1 (by decide)) | omega)) (z := 101) (L := 12) (q := 1) (off := 6) zar_101 w32c_6 hV.1 (by decide) (by decide) hV h (fun r m1 F1 T1 e1 => ?_)
  refine zgk_s hE xmo_249 60 zc_249 ?_
  simp only [ynok_30, ynok_31, w32c_0, w32c_1, w32c_2, w32c_3, w32c_4, w32c_5, w32c_6, w32c_7, w32c_8, w32c_9, w32c_10, w32c_11, w32c_12, w32c_13, w32c_14, w32c_m1, w32c_m2, w32c_118, Int.reduceAdd, Int.reduceSub, Int.reduceMul, yput_s, yput_n, znl_n, znl_0, znl_1, znl_4, ysum_n, ysum_0, ysum_1, ysum_4, true_and, and_true, Nat.reduceAdd, Nat.reduceLeDiff, true_implies, eq_self, true_or, or_true, or_false, false_or, not_true_eq_false, not_false_eq_true, false_implies, implies_true, yset_s, yset_o, yset_d, ne_eq, Nat.reduceEqDiff, Int.reduceToNat, Int.reduceEq, Int.reduceLE, Int.reduceLT, Classical.not_not, Nat.reduceLT, ↓zvk_s, ↓zvk_n, ↓s_249_0, ↓s_249_1, ↓s_249_4, ↓s_249_5, ↓s_249_6, ↓s_249_7, ↓s_249_10, ↓s_249_12, ↓s_249_13, ↓s_249_14, ↓s_249_17, ↓s_249_20, ↓s_249_21, ↓s_249_22, ↓s_249_25, ↓s_249_26, ↓s_249_27, ↓s_249_28, ↓s_249_30, ↓s_249_33, ↓s_249_34, ↓s_249_35, ↓s_249_38, ↓s_249_39, ↓s_249_40, ↓s_249_41, ↓s_249_44, ↓s_249_45, ↓s_249_46, ↓s_249_48, ↓s_249_51, ↓s_249_52, ↓s_249_53, ↓s_249_56, ↓s_249_57, ↓s_249_58, ↓s_249_60, ↓s_249_63, ↓g_249_64, ↓k_249_64, ↓s_249_65, ↓s_249_68, ↓s_249_69, ↓s_249_70, ↓s_249_73, ↓s_249_74, ↓g_249_77, ↓k_249_77, ↓s_249_78, ↓s_249_81, ↓s_249_82, ↓s_249_83, ↓s_249_84, ↓s_249_85, ↓s_249_88, ↓s_249_89, ↓s_249_90, ↓s_249_91, ↓s_249_92, ↓s_249_95, ↓s_249_96, ↓s_249_97, ↓g_249_98, ↓k_249_98, ↓s_249_99, ↓s_249_101, ↓s_249_104, ↓s_249_107, ↓s_249_108, ↓s_249_111, ↓s_249_112, ↓s_249_115, ↓s_249_116, ↓s_249_117, ↓s_249_120, ↓s_249_121, ↓s_249_122, ↓s_249_125, ↓s_249_126, ↓s_249_127, ↓s_249_128, ↓s_249_130, ↓s_249_133, ↓g_249_134, ↓k_249_134, ↓s_249_135, ↓s_249_137, ↓s_249_140, ↓s_249_143, ↓s_249_144, ↓s_249_147, ↓s_249_148, ↓s_249_151, ↓s_249_152, ↓s_249_153, ↓s_249_154, ↓s_249_156, ↓s_249_159, ↓g_249_160, ↓k_249_160, ↓s_249_161, ↓s_249_162, ↓s_249_163, ↓s_249_164, ↓s_249_167, ↓s_249_168, ↓s_249_169, ↓s_249_172, w32c_40, w32c_99, ↓s_170_0, ↓s_170_1, ↓s_170_4, ↓s_170_6, ↓s_170_7, ↓s_170_8, ↓s_170_9, zar_97, zia_97, zln_97, zit_97, zar_101, zia_101, zln_101, zit_101, zar_102, zia_102, zln_102, zit_102, zar_103, zia_103, zln_103, zit_103, zar_104, zia_104, zln_104, zit_104, zar_105, zia_105, zln_105, zit_105, zar_106, zia_106, zln_106, zit_106, zar_107, zia_107, zln_107, zit_107, zio_95]
  refine ⟨⟨by (first | exact Nat.le_of_ble_eq_true rfl | exact (fun h => absurd h.1 (by decide)) | omega), by (first | exact Nat.le_of_ble_eq_true rfl | exact (fun h => absurd h.1 (by decide)) | omega)⟩, ?_⟩
  rw [hvt]
  have S1 : RvS mem (yset m1 101 (6 + nv.length) r) nv.length (yFr nv x) (yVl x, w32 (m1 102 (6 + nv.length)), w32 (m1 103 (6 + nv.length)), w32 (m1 104 (6 + nv.length)), w32 (m1 105 (6 + nv.length)), w32 (m1 106 (6 + nv.length)), w32 (m1 107 (6 + nv.length))) := by
    refine ⟨rvF_fr (fun i j hv => F1 i j (amod_r (fun z => hv (Or.inr (Or.inr z))))) (Or.inl ⟨by decide, by decide, rfl⟩), by rw [yset_o (by decide)]; exact F1 97 8 rfl, fun z => ?_⟩
    obtain ⟨l, hl⟩ := z
    exact ⟨by rw [yset_s]; exact e1 l hl, by rw [yset_o (by decide)], by rw [yset_o (by decide)], by rw [yset_o (by decide)], by rw [yset_o (by decide)], by rw [yset_o (by decide)], by rw [yset_o (by decide)]⟩
  have T1' := rTk_s (c := 101) (k := 6 + nv.length) (z := r) T1 (by decide)
  revert S1 T1' hQ
  generalize yFr nv x = y
  generalize yset m1 101 (6 + nv.length) r = m2
  generalize yVl x = a1
  generalize w32 (m1 102 (6 + nv.length)) = a2
  generalize w32 (m1 103 (6 + nv.length)) = a3
  generalize w32 (m1 104 (6 + nv.length)) = a4
  generalize w32 (m1 105 (6 + nv.length)) = a5
  generalize w32 (m1 106 (6 + nv.length)) = a6
  generalize w32 (m1 107 (6 + nv.length)) = a7
  intro hQ S1 T1'
  have bd := yNm_bd 1 40 y (by decide)
  refine rf_numeral hE (by (first | exact Nat.le_of_ble_eq_true rfl | exact (fun h => absurd h.1 (by decide)) | omega)) T1' (by decide) (by decide) (fun r2 m3 F3 e3 T3 => ?_)
  rw [w32c_1, show w32 40 = 40 by decide] at e3 T3
  refine zgk_s hE xmo_249 60 zc_249 ?_
  simp only [ynok_30, ynok_31, w32c_0, w32c_1, w32c_2, w32c_3, w32c_4, w32c_5, w32c_6, w32c_7, w32c_8, w32c_9, w32c_10, w32c_11, w32c_12, w32c_13, w32c_14, w32c_m1, w32c_m2, w32c_118, Int.reduceAdd, Int.reduceSub, Int.reduceMul, yput_s, yput_n, znl_n, znl_0, znl_1, znl_4, ysum_n, ysum_0, ysum_1, ysum_4, true_and, and_true, Nat.reduceAdd, Nat.reduceLeDiff, true_implies, eq_self, true_or, or_true, or_false, false_or, not_true_eq_false, not_false_eq_true, false_implies, implies_true, yset_s, yset_o, yset_d, ne_eq, Nat.reduceEqDiff, Int.reduceToNat, Int.reduceEq, Int.reduceLE, Int.reduceLT, Classical.not_not, Nat.reduceLT, ↓zvk_s, ↓zvk_n, ↓s_249_0, ↓s_249_1, ↓s_249_4, ↓s_249_5, ↓s_249_6, ↓s_249_7, ↓s_249_10, ↓s_249_12, ↓s_249_13, ↓s_249_14, ↓s_249_17, ↓s_249_20, ↓s_249_21, ↓s_249_22, ↓s_249_25, ↓s_249_26, ↓s_249_27, ↓s_249_28, ↓s_249_30, ↓s_249_33, ↓s_249_34, ↓s_249_35, ↓s_249_38, ↓s_249_39, ↓s_249_40, ↓s_249_41, ↓s_249_44, ↓s_249_45, ↓s_249_46, ↓s_249_48, ↓s_249_51, ↓s_249_52, ↓s_249_53, ↓s_249_56, ↓s_249_57, ↓s_249_58, ↓s_249_60, ↓s_249_63, ↓g_249_64, ↓k_249_64, ↓s_249_65, ↓s_249_68, ↓s_249_69, ↓s_249_70, ↓s_249_73, ↓s_249_74, ↓g_249_77, ↓k_249_77, ↓s_249_78, ↓s_249_81, ↓s_249_82, ↓s_249_83, ↓s_249_84, ↓s_249_85, ↓s_249_88, ↓s_249_89, ↓s_249_90, ↓s_249_91, ↓s_249_92, ↓s_249_95, ↓s_249_96, ↓s_249_97, ↓g_249_98, ↓k_249_98, ↓s_249_99, ↓s_249_101, ↓s_249_104, ↓s_249_107, ↓s_249_108, ↓s_249_111, ↓s_249_112, ↓s_249_115, ↓s_249_116, ↓s_249_117, ↓s_249_120, ↓s_249_121, ↓s_249_122, ↓s_249_125, ↓s_249_126, ↓s_249_127, ↓s_249_128, ↓s_249_130, ↓s_249_133, ↓g_249_134, ↓k_249_134, ↓s_249_135, ↓s_249_137, ↓s_249_140, ↓s_249_143, ↓s_249_144, ↓s_249_147, ↓s_249_148, ↓s_249_151, ↓s_249_152, ↓s_249_153, ↓s_249_154, ↓s_249_156, ↓s_249_159, ↓g_249_160, ↓k_249_160, ↓s_249_161, ↓s_249_162, ↓s_249_163, ↓s_249_164, ↓s_249_167, ↓s_249_168, ↓s_249_169, ↓s_249_172, w32c_40, w32c_99, ↓s_170_0, ↓s_170_1, ↓s_170_4, ↓s_170_6, ↓s_170_7, ↓s_170_8, ↓s_170_9, zar_97, zia_97, zln_97, zit_97, zar_101, zia_101, zln_101, zit_101, zar_102, zia_102, zln_102, zit_102, zar_103, zia_103, zln_103, zit_103, zar_104, zia_104, zln_104, zit_104, zar_105, zia_105, zln_105, zit_105, zar_106, zia_106, zln_106, zit_106, zar_107, zia_107, zln_107, zit_107, zio_95]
  refine ⟨⟨by (first | exact Nat.le_of_ble_eq_true rfl | exact (fun h => absurd h.1 (by decide)) | omega), by (first | exact Nat.le_of_ble_eq_true rfl | exact (fun h => absurd h.1 (by decide)) | omega)⟩, ⟨by (first | exact Nat.le_of_ble_eq_true rfl | exact (fun h => absurd h.1 (by decide)) | omega), by (first | exact Nat.le_of_ble_eq_true rfl | exact (fun h => absurd h.1 (by decide)) | omega)⟩, ?_⟩
  rw [hvt]
  have S3 := RvS_tk (y' := (yNm 1 40 y).2) S1 F3 yOk_nm
  have S4 : RvS mem (yset m3 102 (6 + nv.length) r2) nv.length (yNm 1 40 y).2 (a1, (yNm 1 40 y).1, a3, a4, a5, a6, a7) := RvS_set S3 (by decide) (fun z => by
    obtain ⟨c1, c2, c3, c4, c5, c6, c7⟩ := S3.2.2 z
    exact ⟨by rw [yset_o (by decide)]; exact c1, by rw [yset_s]; exact e3, by rw [yset_o (by decide)]; exact c3, by rw [yset_o (by decide)]; exact c4, by rw [yset_o (by decide)]; exact c5, by rw [yset_o (by decide)]; exact c6, by rw [yset_o (by decide)]; exact c7⟩)
  refine rf_numeral hE (by (first | exact Nat.le_of_ble_eq_true rfl | exact (fun h => absurd h.1 (by decide)) | omega)) (rTk_s T3 (by decide)) (by (first | exact Nat.le_of_ble_eq_true rfl | exact (fun h => absurd h.1 (by decide)) | omega)) (by decide) (fun r3 m4 F4 e4 T4 => ?_)
  rw [e3, show w32 40 = 40 by decide] at e4 T4
  have S5 := RvS_tk (y' := (yNm (yNm 1 40 y).1 40 (yNm 1 40 y).2).2) S4 F4 yOk_nm
  have S6 : RvS mem (yset m4 103 (6 + nv.length) r3) nv.length (yNm (yNm 1 40 y).1 40 (yNm 1 40 y).2).2 (a1, (yNm 1 40 y).1, (yNm (yNm 1 40 y).1 40 (yNm 1 40 y).2).1, a4, a5, a6, a7) := RvS_set S5 (by decide) (fun z => by
    obtain ⟨c1, c2, c3, c4, c5, c6, c7⟩ := S5.2.2 z
    exact ⟨by rw [yset_o (by decide)]; exact c1, by rw [yset_o (by decide)]; exact c2, by rw [yset_s]; exact e4, by rw [yset_o (by decide)]; exact c4, by rw [yset_o (by decide)]; exact c5, by rw [yset_o (by decide)]; exact c6, by rw [yset_o (by decide)]; exact c7⟩)
  refine zgk_s hE xmo_249 60 zc_249 ?_
  have T6 : rTk ch n (yset m4 103 (6 + nv.length) r3) (yNm (yNm 1 40 y).1 40 (yNm 1 40 y).2).2 := rTk_s T4 (by decide)
  unfold pVn at hQ
  revert S6 T6 hQ T4
  generalize (yNm (yNm 1 40 y).1 40 (yNm 1 40 y).2).2 = y3
  intro hQ T4 S6 T6
  have bst : ∀ z : Int, w32 z = (pV1 y3).2 → zG E (d + 9) xm_249 64 [some (1, 95), some (0, v)] [] (yset (yset m4 103 (w32 v).toNat r3) 104 (w32 v).toNat z) Q := fun z hz => by
    rw [hvt]
    refine rw64 (b := mem) hE (by (first | exact Nat.le_of_ble_eq_true rfl | exact (fun h => absurd h.1 (by decide)) | omega)) hl hv (by rw [hV.1]) hN (rTk_s T6 (by decide)) (by rw [yset_s]; exact hz) (a1 := a1) (a2 := (yNm 1 40 y).1) (a3 := (yNm (yNm 1 40 y).1 40 (yNm 1 40 y).2).1) (a5 := a5) (a6 := a6) (a7 := a7) (RvS_set S6 (by decide) (fun w => ?_)) hQ
    obtain ⟨c1, c2, c3, c4, c5, c6, c7⟩ := S6.2.2 w
    exact ⟨by rw [yset_o (by decide)]; exact c1, by rw [yset_o (by decide)]; exact c2, by rw [yset_o (by decide)]; exact c3, by rw [yset_s]; exact hz, by rw [yset_o (by decide)]; exact c5, by rw [yset_o (by decide)]; exact c6, by rw [yset_o (by decide)]; exact c7⟩
  by_cases hk : yKd y3 = 24
  · obtain ⟨q1, q2, q3⟩ := (rf_isw T4 (k0 := 24) (by decide) (by decide)).mpr hk
    have q3 : w32 (m4 95 30) = 8 := q3
    have b1 := bst 1 (by unfold pV1; rw [if_pos hk]; exact w32c_1)
    simp only [ynok_30, ynok_31, w32c_0, w32c_1, w32c_2, w32c_3, w32c_4, w32c_5, w32c_6, w32c_7, w32c_8, w32c_9, w32c_10, w32c_11, w32c_12, w32c_13, w32c_14, w32c_m1, w32c_m2, w32c_118, Int.reduceAdd, Int.reduceSub, Int.reduceMul, yput_s, yput_n, znl_n, znl_0, znl_1, znl_4, ysum_n, ysum_0, ysum_1, ysum_4, true_and, and_true, Nat.reduceAdd, Nat.reduceLeDiff, true_implies, eq_self, true_or, or_true, or_false, false_or, not_true_eq_false, not_false_eq_true, false_implies, implies_true, yset_s, yset_o, yset_d, ne_eq, Nat.reduceEqDiff, Int.reduceToNat, Int.reduceEq, Int.reduceLE, Int.reduceLT, Classical.not_not, Nat.reduceLT, ↓zvk_s, ↓zvk_n, ↓s_249_0, ↓s_249_1, ↓s_249_4, ↓s_249_5, ↓s_249_6, ↓s_249_7, ↓s_249_10, ↓s_249_12, ↓s_249_13, ↓s_249_14, ↓s_249_17, ↓s_249_20, ↓s_249_21, ↓s_249_22, ↓s_249_25, ↓s_249_26, ↓s_249_27, ↓s_249_28, ↓s_249_30, ↓s_249_33, ↓s_249_34, ↓s_249_35, ↓s_249_38, ↓s_249_39, ↓s_249_40, ↓s_249_41, ↓s_249_44, ↓s_249_45, ↓s_249_46, ↓s_249_48, ↓s_249_51, ↓s_249_52, ↓s_249_53, ↓s_249_56, ↓s_249_57, ↓s_249_58, ↓s_249_60, ↓s_249_63, ↓g_249_64, ↓k_249_64, ↓s_249_65, ↓s_249_68, ↓s_249_69, ↓s_249_70, ↓s_249_73, ↓s_249_74, ↓g_249_77, ↓k_249_77, ↓s_249_78, ↓s_249_81, ↓s_249_82, ↓s_249_83, ↓s_249_84, ↓s_249_85, ↓s_249_88, ↓s_249_89, ↓s_249_90, ↓s_249_91, ↓s_249_92, ↓s_249_95, ↓s_249_96, ↓s_249_97, ↓g_249_98, ↓k_249_98, ↓s_249_99, ↓s_249_101, ↓s_249_104, ↓s_249_107, ↓s_249_108, ↓s_249_111, ↓s_249_112, ↓s_249_115, ↓s_249_116, ↓s_249_117, ↓s_249_120, ↓s_249_121, ↓s_249_122, ↓s_249_125, ↓s_249_126, ↓s_249_127, ↓s_249_128, ↓s_249_130, ↓s_249_133, ↓g_249_134, ↓k_249_134, ↓s_249_135, ↓s_249_137, ↓s_249_140, ↓s_249_143, ↓s_249_144, ↓s_249_147, ↓s_249_148, ↓s_249_151, ↓s_249_152, ↓s_249_153, ↓s_249_154, ↓s_249_156, ↓s_249_159, ↓g_249_160, ↓k_249_160, ↓s_249_161, ↓s_249_162, ↓s_249_163, ↓s_249_164, ↓s_249_167, ↓s_249_168, ↓s_249_169, ↓s_249_172, w32c_40, w32c_99, ↓s_198_0, ↓s_198_1, ↓s_198_4, ↓s_198_7, ↓s_198_8, ↓s_198_11, ↓s_198_14, ↓s_198_15, ↓s_198_18, ↓s_198_19, ↓s_198_22, ↓s_198_23, ↓s_198_26, ↓s_198_27, zar_101, zia_101, zln_101, zit_101, zar_102, zia_102, zln_102, zit_102, zar_103, zia_103, zln_103, zit_103, zar_104, zia_104, zln_104, zit_104, zar_105, zia_105, zln_105, zit_105, zar_106, zia_106, zln_106, zit_106, zar_107, zia_107, zln_107, zit_107, zio_95, q1, q2, q3]
    exact ⟨⟨by (first | exact Nat.le_of_ble_eq_true rfl | exact (fun h => absurd h.1 (by decide)) | omega), by (first | exact Nat.le_of_ble_eq_true rfl | exact (fun h => absurd h.1 (by decide)) | omega)⟩, ⟨by (first | exact Nat.le_of_ble_eq_true rfl | exact (fun h => absurd h.1 (by decide)) | omega), by (first | exact Nat.le_of_ble_eq_true rfl | exact (fun h => absurd h.1 (by decide)) | omega)⟩, b1⟩
  · have b0 := bst 0 (by unfold pV1; rw [if_neg hk]; exact w32c_0)
    by_cases q1 : w32 (m4 95 31) = 0
    · by_cases q2 : w32 (m4 95 29) = 0
      · have q3 : ¬ w32 (m4 95 30) = 8 := fun z => hk ((rf_isw T4 (k0 := 24) (by decide) (by decide)).mp ⟨q1, q2, z⟩)
        simp only [ynok_30, ynok_31, w32c_0, w32c_1, w32c_2, w32c_3, w32c_4, w32c_5, w32c_6, w32c_7, w32c_8, w32c_9, w32c_10, w32c_11, w32c_12, w32c_13, w32c_14, w32c_m1, w32c_m2, w32c_118, Int.reduceAdd, Int.reduceSub, Int.reduceMul, yput_s, yput_n, znl_n, znl_0, znl_1, znl_4, ysum_n, ysum_0, ysum_1, ysum_4, true_and, and_true, Nat.reduceAdd, Nat.reduceLeDiff, true_implies, eq_self, true_or, or_true, or_false, false_or, not_true_eq_false, not_false_eq_true, false_implies, implies_true, yset_s, yset_o, yset_d, ne_eq, Nat.reduceEqDiff, Int.reduceToNat, Int.reduceEq, Int.reduceLE, Int.reduceLT, Classical.not_not, Nat.reduceLT, ↓zvk_s, ↓zvk_n, ↓s_249_0, ↓s_249_1, ↓s_249_4, ↓s_249_5, ↓s_249_6, ↓s_249_7, ↓s_249_10, ↓s_249_12, ↓s_249_13, ↓s_249_14, ↓s_249_17, ↓s_249_20, ↓s_249_21, ↓s_249_22, ↓s_249_25, ↓s_249_26, ↓s_249_27, ↓s_249_28, ↓s_249_30, ↓s_249_33, ↓s_249_34, ↓s_249_35, ↓s_249_38, ↓s_249_39, ↓s_249_40, ↓s_249_41, ↓s_249_44, ↓s_249_45, ↓s_249_46, ↓s_249_48, ↓s_249_51, ↓s_249_52, ↓s_249_53, ↓s_249_56, ↓s_249_57, ↓s_249_58, ↓s_249_60, ↓s_249_63, ↓g_249_64, ↓k_249_64, ↓s_249_65, ↓s_249_68, ↓s_249_69, ↓s_249_70, ↓s_249_73, ↓s_249_74, ↓g_249_77, ↓k_249_77, ↓s_249_78, ↓s_249_81, ↓s_249_82, ↓s_249_83, ↓s_249_84, ↓s_249_85, ↓s_249_88, ↓s_249_89, ↓s_249_90, ↓s_249_91, ↓s_249_92, ↓s_249_95, ↓s_249_96, ↓s_249_97, ↓g_249_98, ↓k_249_98, ↓s_249_99, ↓s_249_101, ↓s_249_104, ↓s_249_107, ↓s_249_108, ↓s_249_111, ↓s_249_112, ↓s_249_115, ↓s_249_116, ↓s_249_117, ↓s_249_120, ↓s_249_121, ↓s_249_122, ↓s_249_125, ↓s_249_126, ↓s_249_127, ↓s_249_128, ↓s_249_130, ↓s_249_133, ↓g_249_134, ↓k_249_134, ↓s_249_135, ↓s_249_137, ↓s_249_140, ↓s_249_143, ↓s_249_144, ↓s_249_147, ↓s_249_148, ↓s_249_151, ↓s_249_152, ↓s_249_153, ↓s_249_154, ↓s_249_156, ↓s_249_159, ↓g_249_160, ↓k_249_160, ↓s_249_161, ↓s_249_162, ↓s_249_163, ↓s_249_164, ↓s_249_167, ↓s_249_168, ↓s_249_169, ↓s_249_172, w32c_40, w32c_99, ↓s_198_0, ↓s_198_1, ↓s_198_4, ↓s_198_7, ↓s_198_8, ↓s_198_11, ↓s_198_14, ↓s_198_15, ↓s_198_18, ↓s_198_19, ↓s_198_22, ↓s_198_23, ↓s_198_26, ↓s_198_27, zar_101, zia_101, zln_101, zit_101, zar_102, zia_102, zln_102, zit_102, zar_103, zia_103, zln_103, zit_103, zar_104, zia_104, zln_104, zit_104, zar_105, zia_105, zln_105, zit_105, zar_106, zia_106, zln_106, zit_106, zar_107, zia_107, zln_107, zit_107, zio_95, q1, q2, q3]
        exact ⟨⟨by (first | exact Nat.le_of_ble_eq_true rfl | exact (fun h => absurd h.1 (by decide)) | omega), by (first | exact Nat.le_of_ble_eq_true rfl | exact (fun h => absurd h.1 (by decide)) | omega)⟩, ⟨by (first | exact Nat.le_of_ble_eq_true rfl | exact (fun h => absurd h.1 (by decide)) | omega), by (first | exact Nat.le_of_ble_eq_true rfl | exact (fun h => absurd h.1 (by decide)) | omega)⟩, b0⟩
      · simp only [ynok_30, ynok_31, w32c_0, w32c_1, w32c_2, w32c_3, w32c_4, w32c_5, w32c_6, w32c_7, w32c_8, w32c_9, w32c_10, w32c_11, w32c_12, w32c_13, w32c_14, w32c_m1, w32c_m2, w32c_118, Int.reduceAdd, Int.reduceSub, Int.reduceMul, yput_s, yput_n, znl_n, znl_0, znl_1, znl_4, ysum_n, ysum_0, ysum_1, ysum_4, true_and, and_true, Nat.reduceAdd, Nat.reduceLeDiff, true_implies, eq_self, true_or, or_true, or_false, false_or, not_true_eq_false, not_false_eq_true, false_implies, implies_true, yset_s, yset_o, yset_d, ne_eq, Nat.reduceEqDiff, Int.reduceToNat, Int.reduceEq, Int.reduceLE, Int.reduceLT, Classical.not_not, Nat.reduceLT, ↓zvk_s, ↓zvk_n, ↓s_249_0, ↓s_249_1, ↓s_249_4, ↓s_249_5, ↓s_249_6, ↓s_249_7, ↓s_249_10, ↓s_249_12, ↓s_249_13, ↓s_249_14, ↓s_249_17, ↓s_249_20, ↓s_249_21, ↓s_249_22, ↓s_249_25, ↓s_249_26, ↓s_249_27, ↓s_249_28, ↓s_249_30, ↓s_249_33, ↓s_249_34, ↓s_249_35, ↓s_249_38, ↓s_249_39, ↓s_249_40, ↓s_249_41, ↓s_249_44, ↓s_249_45, ↓s_249_46, ↓s_249_48, ↓s_249_51, ↓s_249_52, ↓s_249_53, ↓s_249_56, ↓s_249_57, ↓s_249_58, ↓s_249_60, ↓s_249_63, ↓g_249_64, ↓k_249_64, ↓s_249_65, ↓s_249_68, ↓s_249_69, ↓s_249_70, ↓s_249_73, ↓s_249_74, ↓g_249_77, ↓k_249_77, ↓s_249_78, ↓s_249_81, ↓s_249_82, ↓s_249_83, ↓s_249_84, ↓s_249_85, ↓s_249_88, ↓s_249_89, ↓s_249_90, ↓s_249_91, ↓s_249_92, ↓s_249_95, ↓s_249_96, ↓s_249_97, ↓g_249_98, ↓k_249_98, ↓s_249_99, ↓s_249_101, ↓s_249_104, ↓s_249_107, ↓s_249_108, ↓s_249_111, ↓s_249_112, ↓s_249_115, ↓s_249_116, ↓s_249_117, ↓s_249_120, ↓s_249_121, ↓s_249_122, ↓s_249_125, ↓s_249_126, ↓s_249_127, ↓s_249_128, ↓s_249_130, ↓s_249_133, ↓g_249_134, ↓k_249_134, ↓s_249_135, ↓s_249_137, ↓s_249_140, ↓s_249_143, ↓s_249_144, ↓s_249_147, ↓s_249_148, ↓s_249_151, ↓s_249_152, ↓s_249_153, ↓s_249_154, ↓s_249_156, ↓s_249_159, ↓g_249_160, ↓k_249_160, ↓s_249_161, ↓s_249_162, ↓s_249_163, ↓s_249_164, ↓s_249_167, ↓s_249_168, ↓s_249_169, ↓s_249_172, w32c_40, w32c_99, ↓s_198_0, ↓s_198_1, ↓s_198_4, ↓s_198_7, ↓s_198_8, ↓s_198_11, ↓s_198_14, ↓s_198_15, ↓s_198_18, ↓s_198_19, ↓s_198_22, ↓s_198_23, ↓s_198_26, ↓s_198_27, zar_101, zia_101, zln_101, zit_101, zar_102, zia_102, zln_102, zit_102, zar_103, zia_103, zln_103, zit_103, zar_104, zia_104, zln_104, zit_104, zar_105, zia_105, zln_105, zit_105, zar_106, zia_106, zln_106, zit_106, zar_107, zia_107, zln_107, zit_107, zio_95, q1, q2]
        exact ⟨⟨by (first | exact Nat.le_of_ble_eq_true rfl | exact (fun h => absurd h.1 (by decide)) | omega), by (first | exact Nat.le_of_ble_eq_true rfl | exact (fun h => absurd h.1 (by decide)) | omega)⟩, ⟨by (first | exact Nat.le_of_ble_eq_true rfl | exact (fun h => absurd h.1 (by decide)) | omega), by (first | exact Nat.le_of_ble_eq_true rfl | exact (fun h => absurd h.1 (by decide)) | omega)⟩, b0⟩
    · simp only [ynok_30, ynok_31, w32c_0, w32c_1, w32c_2, w32c_3, w32c_4, w32c_5, w32c_6, w32c_7, w32c_8, w32c_9, w32c_10, w32c_11, w32c_12, w32c_13, w32c_14, w32c_m1, w32c_m2, w32c_118, Int.reduceAdd, Int.reduceSub, Int.reduceMul, yput_s, yput_n, znl_n, znl_0, znl_1, znl_4, ysum_n, ysum_0, ysum_1, ysum_4, true_and, and_true, Nat.reduceAdd, Nat.reduceLeDiff, true_implies, eq_self, true_or, or_true, or_false, false_or, not_true_eq_false, not_false_eq_true, false_implies, implies_true, yset_s, yset_o, yset_d, ne_eq, Nat.reduceEqDiff, Int.reduceToNat, Int.reduceEq, Int.reduceLE, Int.reduceLT, Classical.not_not, Nat.reduceLT, ↓zvk_s, ↓zvk_n, ↓s_249_0, ↓s_249_1, ↓s_249_4, ↓s_249_5, ↓s_249_6, ↓s_249_7, ↓s_249_10, ↓s_249_12, ↓s_249_13, ↓s_249_14, ↓s_249_17, ↓s_249_20, ↓s_249_21, ↓s_249_22, ↓s_249_25, ↓s_249_26, ↓s_249_27, ↓s_249_28, ↓s_249_30, ↓s_249_33, ↓s_249_34, ↓s_249_35, ↓s_249_38, ↓s_249_39, ↓s_249_40, ↓s_249_41, ↓s_249_44, ↓s_249_45, ↓s_249_46, ↓s_249_48, ↓s_249_51, ↓s_249_52, ↓s_249_53, ↓s_249_56, ↓s_249_57, ↓s_249_58, ↓s_249_60, ↓s_249_63, ↓g_249_64, ↓k_249_64, ↓s_249_65, ↓s_249_68, ↓s_249_69, ↓s_249_70, ↓s_249_73, ↓s_249_74, ↓g_249_77, ↓k_249_77, ↓s_249_78, ↓s_249_81, ↓s_249_82, ↓s_249_83, ↓s_249_84, ↓s_249_85, ↓s_249_88, ↓s_249_89, ↓s_249_90, ↓s_249_91, ↓s_249_92, ↓s_249_95, ↓s_249_96, ↓s_249_97, ↓g_249_98, ↓k_249_98, ↓s_249_99, ↓s_249_101, ↓s_249_104, ↓s_249_107, ↓s_249_108, ↓s_249_111, ↓s_249_112, ↓s_249_115, ↓s_249_116, ↓s_249_117, ↓s_249_120, ↓s_249_121, ↓s_249_122, ↓s_249_125, ↓s_249_126, ↓s_249_127, ↓s_249_128, ↓s_249_130, ↓s_249_133, ↓g_249_134, ↓k_249_134, ↓s_249_135, ↓s_249_137, ↓s_249_140, ↓s_249_143, ↓s_249_144, ↓s_249_147, ↓s_249_148, ↓s_249_151, ↓s_249_152, ↓s_249_153, ↓s_249_154, ↓s_249_156, ↓s_249_159, ↓g_249_160, ↓k_249_160, ↓s_249_161, ↓s_249_162, ↓s_249_163, ↓s_249_164, ↓s_249_167, ↓s_249_168, ↓s_249_169, ↓s_249_172, w32c_40, w32c_99, ↓s_198_0, ↓s_198_1, ↓s_198_4, ↓s_198_7, ↓s_198_8, ↓s_198_11, ↓s_198_14, ↓s_198_15, ↓s_198_18, ↓s_198_19, ↓s_198_22, ↓s_198_23, ↓s_198_26, ↓s_198_27, zar_101, zia_101, zln_101, zit_101, zar_102, zia_102, zln_102, zit_102, zar_103, zia_103, zln_103, zit_103, zar_104, zia_104, zln_104, zit_104, zar_105, zia_105, zln_105, zit_105, zar_106, zia_106, zln_106, zit_106, zar_107, zia_107, zln_107, zit_107, zio_95, q1]
      exact ⟨⟨by (first | exact Nat.le_of_ble_eq_true rfl | exact (fun h => absurd h.1 (by decide)) | omega), by (first | exact Nat.le_of_ble_eq_true rfl | exact (fun h => absurd h.1 (by decide)) | omega)⟩, ⟨by (first | exact Nat.le_of_ble_eq_true rfl | exact (fun h => absurd h.1 (by decide)) | omega), by (first | exact Nat.le_of_ble_eq_true rfl | exact (fun h => absurd h.1 (by decide)) | omega)⟩, b0⟩
end RE
end
section
/-! THE REFERENCE: a part, a verse -/
theorem yset_n2 {m : yMem} {c k i j : Nat} {z : Int} (h : ¬ (i = c ∧ j = k)) : yset m c k z i j = m i j := by
  rw [yset_a]
  split
  · next e1 => rw [if_neg (fun e2 => h ⟨e1, e2⟩)]
  · rfl
theorem rTk_f {ch : Nat → Int} {n : Nat} {m : yMem} {e : Nat × Nat} (h : rTk ch n m (.inl e)) : ¬ w32 (m 95 31) = 0 := by
  have := h.2.2.2.1
  have := h.2.2.2.2.1
  (first | exact Nat.le_of_ble_eq_true rfl | exact (fun h => absurd h.1 (by decide)) | omega)
theorem rTk_0 {ch : Nat → Int} {n : Nat} {m : yMem} {l : List sT} (h : rTk ch n m (.inr l)) : w32 (m 95 31) = 0 := h.2.2.2.1
theorem pBars_nm {x : sY} {e : Nat × Nat} (h : (yNm 0 40 x).2 = .inl e) : ∀ c, (pBars (c + 1) x).2 = .inl e
  | 0 => by
    show (if yKd (yNm 0 40 x).2 = 2 then yFl 2 (yNm 0 40 x).2 else (yNm 0 40 x).2) = _
    rw [h, if_neg (show ¬ yKd (.inl e) = 2 from (by decide : ¬ (0 : Nat) = 2))]
  | c + 1 => by
    show (if yKd (yNm 0 40 x).2 = 2 then ((yNm 0 40 x).1 :: (pBars (c + 1) (yNm 0 40 x).2).1, (pBars (c + 1) (yNm 0 40 x).2).2) else ([(yNm 0 40 x).1], (yNm 0 40 x).2)).2 = _
    rw [h, if_neg (show ¬ yKd (.inl e) = 2 from (by decide : ¬ (0 : Nat) = 2))]
theorem pBars_in {e : Nat × Nat} (c : Nat) : (pBars (c + 1) (.inl e)).2 = .inl e := pBars_nm (by rw [yNm_in]) c
theorem pPt_no {x : sY} (h : ¬ yKd x = 27) : (pPt x).2 = yFl 1 x := by
  unfold pPt
  rw [if_neg h]
  obtain ⟨e, he⟩ := yFl_inl 1 x
  rw [he]
  exact pBars_in 7
theorem pPts_no {x : sY} (h : ¬ yKd x = 27) : ∀ c, (pPts (c + 1) x).2 = yFl 1 x
  | 0 => by
    show (if yKd (pPt x).2 = 27 then yFl 2 (pPt x).2 else (pPt x).2) = _
    obtain ⟨e, he⟩ := yFl_inl 1 x
    rw [pPt_no h, he, if_neg (show ¬ yKd (.inl e) = 27 from (by decide : ¬ (0 : Nat) = 27))]
  | c + 1 => by
    show (if yKd (pPt x).2 = 27 then ((pPt x).1 :: (pPts (c + 1) (pPt x).2).1, (pPts (c + 1) (pPt x).2).2) else ([(pPt x).1], (pPt x).2)).2 = _
    obtain ⟨e, he⟩ := yFl_inl 1 x
    rw [pPt_no h, he, if_neg (show ¬ yKd (.inl e) = 27 from (by decide : ¬ (0 : Nat) = 27))]
def rpF (s i j : Nat) : Prop := (i = 111 ∧ (12 + s) * 8 ≤ j ∧ j < (12 + s) * 8 + 8) ∨ (i = 110 ∧ j = 12 + s) ∨ (i = 95 ∧ 27 ≤ j ∧ j ≤ 32)
def RpS (b m : yMem) (s : Nat) (y : sY) (l : List Int) : Prop := (∀ i j, ¬ rpF s i j → m i j = b i j) ∧ (yOk y → w32 (m 110 (12 + s)) = (l.length : Int) ∧ ∀ j v, l[j]? = some v → w32 (m 111 ((12 + s) * 8 + j)) = v)
theorem rpF_fr {b m : yMem} {s i j : Nat} {x : Int} (h : ∀ i j, ¬ rpF s i j → m i j = b i j) (hv : rpF s i j) : ∀ i' j', ¬ rpF s i' j' → yset m i j x i' j' = b i' j' := fun i' j' h' => by
  rw [yset_a]
  split
  · next e1 =>
    rw [if_neg (fun e2 => h' (by rw [e1, e2]; exact hv))]
    exact h i' j' h'
  · exact h i' j' h'
theorem rpF_tk {b m m' : yMem} {s : Nat} (h : ∀ i j, ¬ rpF s i j → m i j = b i j) (hF : aFrm rnF m m') : ∀ i j, ¬ rpF s i j → m' i j = b i j := fun i j hv => by
  rw [hF i j (amod_r (fun z => hv (Or.inr (Or.inr z))))]
  exact h i j hv
section RF
variable {E : yE} {mem b : yMem} {Q : Option yV → yMem → Prop} {ch : Nat → Int} {n : Nat} {x : sY} {d s : Nat} {p : Int}
theorem rb8 (hE : yEok E) (hd : 7 ≤ d) (hs : s < 12) (hp : w32 p = ((12 + s : Nat) : Int)) {m : yMem} {l1 : List sT} {z : Option yV} (h : rTk ch n m (.inr l1)) (hk : (sHd l1).1 = 2) (h8 : w32 (m 110 (12 + s)) = 8) (hF : ∀ i j, ¬ rpF s i j → m i j = b i j) (fin : ∀ m', (∀ i j, ¬ rpF s i j → m' i j = b i j) → rTk ch n m' (yFl 2 (.inr l1)) → Q none m') : zG E (d + 1) xm_214 7 [some (1, 95), some (0, p), z] [] m Q := by
  have hpt : (w32 p).toNat = 12 + s := by rw [hp]; exact Int.toNat_natCast _
  have q1 := rTk_0 h
  have q2 : w32 (m 95 29) = 2 := (sRk_2 (rTk_rk h)).mpr hk
  refine zgo_ok (n := 60) hE xmo_214 (cs := zc_214) ?_
  simp only [ynok_30, ynok_31, w32c_0, w32c_1, w32c_2, w32c_3, w32c_4, w32c_5, w32c_6, w32c_7, w32c_8, w32c_9, w32c_10, w32c_11, w32c_12, w32c_13, w32c_14, w32c_m1, w32c_m2, w32c_118, Int.reduceAdd, Int.reduceSub, Int.reduceMul, yput_s, yput_n, znl_n, znl_0, znl_1, znl_4, ysum_n, ysum_0, ysum_1, ysum_4, true_and, and_true, Nat.reduceAdd, Nat.reduceLeDiff, true_implies, eq_self, true_or, or_true, or_false, false_or, not_true_eq_false, not_false_eq_true, false_implies, implies_true, yset_s, yset_o, yset_d, ne_eq, Nat.reduceEqDiff, Int.reduceToNat, Int.reduceEq, Int.reduceLE, Int.reduceLT, Classical.not_not, Nat.reduceLT, ↓zvk_s, ↓zvk_n, ↓s_214_0, ↓s_214_1, ↓s_214_4, ↓s_214_5, ↓s_214_6, ↓g_214_7, ↓k_214_7, ↓s_214_8, ↓s_214_11, ↓s_214_14, ↓s_214_15, ↓s_214_18, ↓s_214_19, ↓s_214_22, ↓s_214_23, ↓s_214_26, ↓s_214_27, ↓s_214_28, ↓s_214_30, ↓s_214_33, ↓s_214_34, ↓s_214_35, ↓s_214_38, ↓s_214_39, ↓s_214_40, ↓s_214_42, ↓s_214_45n, ↓s_214_45i, ↓s_214_45p, ↓s_214_46, ↓s_214_47, ↓s_214_50, ↓s_214_53, ↓s_214_54, ↓s_214_55, ↓s_214_58, ↓s_214_60, ↓s_214_61, ↓s_214_62, ↓s_214_63, ↓s_214_66, ↓s_214_67, ↓s_214_68, ↓s_214_69, ↓s_214_70, ↓s_214_71, ↓s_214_72, ↓s_214_75, ↓s_214_76, ↓s_214_77, ↓s_214_78, ↓s_214_79, ↓s_214_80, ↓s_214_81, ↓s_214_82, ↓s_214_85, ↓s_214_86, ↓s_214_89, w32c_40, ↓s_254_0, ↓s_254_1, ↓s_254_4, ↓s_254_7, ↓s_254_8, ↓s_254_9, ↓s_254_10, ↓s_254_13, ↓s_254_14, ↓s_254_15, ↓s_254_18, ↓s_254_21, zar_111, zia_111, zln_111, zit_111, zar_110, zia_110, zln_110, zit_110, zio_95, q1, q2]
  rw [hpt]
  refine ⟨⟨by (first | exact Nat.le_of_ble_eq_true rfl | exact (fun h => absurd h.1 (by decide)) | omega), by (first | exact Nat.le_of_ble_eq_true rfl | exact (fun h => absurd h.1 (by decide)) | omega)⟩, fun q => absurd h8 q, fun _ => ?_⟩
  obtain ⟨G1, G2⟩ := rf_wr (f := 2) (F := 2) h (by decide) (by decide)
  refine rf_numeral hE (by (first | exact Nat.le_of_ble_eq_true rfl | exact (fun h => absurd h.1 (by decide)) | omega)) G2 (by decide) (by decide) (fun r m2 F2 e2 T2 => ?_)
  have T2 : rTk ch n m2 (yNm (w32 0) (w32 40) (.inl (2, (sHd l1).2.1))).2 := T2
  rw [yNm_in] at T2
  refine zgk_s hE xmo_214 60 zc_214 ?_
  have hf2 := rTk_f T2
  simp only [ynok_30, ynok_31, w32c_0, w32c_1, w32c_2, w32c_3, w32c_4, w32c_5, w32c_6, w32c_7, w32c_8, w32c_9, w32c_10, w32c_11, w32c_12, w32c_13, w32c_14, w32c_m1, w32c_m2, w32c_118, Int.reduceAdd, Int.reduceSub, Int.reduceMul, yput_s, yput_n, znl_n, znl_0, znl_1, znl_4, ysum_n, ysum_0, ysum_1, ysum_4, true_and, and_true, Nat.reduceAdd, Nat.reduceLeDiff, true_implies, eq_self, true_or, or_true, or_false, false_or, not_true_eq_false, not_false_eq_true, false_implies, implies_true, yset_s, yset_o, yset_d, ne_eq, Nat.reduceEqDiff, Int.reduceToNat, Int.reduceEq, Int.reduceLE, Int.reduceLT, Classical.not_not, Nat.reduceLT, ↓zvk_s, ↓zvk_n, ↓s_214_0, ↓s_214_1, ↓s_214_4, ↓s_214_5, ↓s_214_6, ↓g_214_7, ↓k_214_7, ↓s_214_8, ↓s_214_11, ↓s_214_14, ↓s_214_15, ↓s_214_18, ↓s_214_19, ↓s_214_22, ↓s_214_23, ↓s_214_26, ↓s_214_27, ↓s_214_28, ↓s_214_30, ↓s_214_33, ↓s_214_34, ↓s_214_35, ↓s_214_38, ↓s_214_39, ↓s_214_40, ↓s_214_42, ↓s_214_45n, ↓s_214_45i, ↓s_214_45p, ↓s_214_46, ↓s_214_47, ↓s_214_50, ↓s_214_53, ↓s_214_54, ↓s_214_55, ↓s_214_58, ↓s_214_60, ↓s_214_61, ↓s_214_62, ↓s_214_63, ↓s_214_66, ↓s_214_67, ↓s_214_68, ↓s_214_69, ↓s_214_70, ↓s_214_71, ↓s_214_72, ↓s_214_75, ↓s_214_76, ↓s_214_77, ↓s_214_78, ↓s_214_79, ↓s_214_80, ↓s_214_81, ↓s_214_82, ↓s_214_85, ↓s_214_86, ↓s_214_89, w32c_40, ↓s_254_0, ↓s_254_1, ↓s_254_4, ↓s_254_7, ↓s_254_8, ↓s_254_9, ↓s_254_10, ↓s_254_13, ↓s_254_14, ↓s_254_15, ↓s_254_18, ↓s_254_21, zar_111, zia_111, zln_111, zit_111, zar_110, zia_110, zln_110, zit_110, zio_95, hf2]
  exact fin m2 (rpF_tk (rpF_tk hF G1) F2) T2
theorem rbS (hE : yEok E) (hd : 7 ≤ d) (hs : s < 12) (hp : w32 p = ((12 + s : Nat) : Int)) {y : sY} {m : yMem} {l : List Int} {z : Option yV} (hc : l.length ≤ 7) (h : rTk ch n m y) (hS : RpS b m s y l) (f0 : ∀ m' e, (yNm 0 40 y).2 = .inl e → (∀ i j, ¬ rpF s i j → m' i j = b i j) → rTk ch n m' (.inl e) → Q none m') (f1 : ∀ m' l1 z', (yNm 0 40 y).2 = .inr l1 → rTk ch n m' (.inr l1) → RpS b m' s (.inr l1) (l ++ [(yNm 0 40 y).1]) → (sHd l1).1 = 2 → zG E (d + 1) xm_214 7 [some (1, 95), some (0, p), z'] [] m' Q) (f2 : ∀ m' l1, (yNm 0 40 y).2 = .inr l1 → rTk ch n m' (.inr l1) → RpS b m' s (.inr l1) (l ++ [(yNm 0 40 y).1]) → (sHd l1).1 ≠ 2 → Q none m') : zG E (d + 1) xm_214 7 [some (1, 95), some (0, p), z] [] m Q := by
  have hpt : (w32 p).toNat = 12 + s := by rw [hp]; exact Int.toNat_natCast _
  have num : yCon E (d + 1) xm_212 [(1, 95), (0, 0), (0, 40)] m (fun v mem' => zgk E (d + 1) xm_214 45 [some (1, 95), some (0, p), z] [] v mem' Q) := by
    refine rf_numeral hE (by (first | exact Nat.le_of_ble_eq_true rfl | exact (fun h => absurd h.1 (by decide)) | omega)) h (by decide) (by decide) (fun r m1 F1 e1 T1 => ?_)
    rw [w32c_0, show w32 40 = 40 by decide] at e1 T1
    refine zgk_s hE xmo_214 60 zc_214 ?_
    have FR := rpF_tk hS.1 F1
    cases hy : (yNm 0 40 y).2 with
    | inl e =>
      rw [hy] at T1
      have hf1 := rTk_f T1
      simp only [ynok_30, ynok_31, w32c_0, w32c_1, w32c_2, w32c_3, w32c_4, w32c_5, w32c_6, w32c_7, w32c_8, w32c_9, w32c_10, w32c_11, w32c_12, w32c_13, w32c_14, w32c_m1, w32c_m2, w32c_118, Int.reduceAdd, Int.reduceSub, Int.reduceMul, yput_s, yput_n, znl_n, znl_0, znl_1, znl_4, ysum_n, ysum_0, ysum_1, ysum_4, true_and, and_true, Nat.reduceAdd, Nat.reduceLeDiff, true_implies, eq_self, true_or, or_true, or_false, false_or, not_true_eq_false, not_false_eq_true, false_implies, implies_true, yset_s, yset_o, yset_d, ne_eq, Nat.reduceEqDiff, Int.reduceToNat, Int.reduceEq, Int.reduceLE, Int.reduceLT, Classical.not_not, Nat.reduceLT, ↓zvk_s, ↓zvk_n, ↓s_214_0, ↓s_214_1, ↓s_214_4, ↓s_214_5, ↓s_214_6, ↓g_214_7, ↓k_214_7, ↓s_214_8, ↓s_214_11, ↓s_214_14, ↓s_214_15, ↓s_214_18, ↓s_214_19, ↓s_214_22, ↓s_214_23, ↓s_214_26, ↓s_214_27, ↓s_214_28, ↓s_214_30, ↓s_214_33, ↓s_214_34, ↓s_214_35, ↓s_214_38, ↓s_214_39, ↓s_214_40, ↓s_214_42, ↓s_214_45n, ↓s_214_45i, ↓s_214_45p, ↓s_214_46, ↓s_214_47, ↓s_214_50, ↓s_214_53, ↓s_214_54, ↓s_214_55, ↓s_214_58, ↓s_214_60, ↓s_214_61, ↓s_214_62, ↓s_214_63, ↓s_214_66, ↓s_214_67, ↓s_214_68, ↓s_214_69, ↓s_214_70, ↓s_214_71, ↓s_214_72, ↓s_214_75, ↓s_214_76, ↓s_214_77, ↓s_214_78, ↓s_214_79, ↓s_214_80, ↓s_214_81, ↓s_214_82, ↓s_214_85, ↓s_214_86, ↓s_214_89, w32c_40, ↓s_254_0, ↓s_254_1, ↓s_254_4, ↓s_254_7, ↓s_254_8, ↓s_254_9, ↓s_254_10, ↓s_254_13, ↓s_254_14, ↓s_254_15, ↓s_254_18, ↓s_254_21, zar_111, zia_111, zln_111, zit_111, zar_110, zia_110, zln_110, zit_110, zio_95, hf1]
      exact f0 m1 e hy FR T1
    | inr l1 =>
      obtain ⟨c1, c2⟩ := hS.2 (yOk_nm ⟨l1, hy⟩)
      rw [hy] at T1
      have hf1 := rTk_0 T1
      have k2 := sRk_2 (rTk_rk T1)
      simp only [ynok_30, ynok_31, w32c_0, w32c_1, w32c_2, w32c_3, w32c_4, w32c_5, w32c_6, w32c_7, w32c_8, w32c_9, w32c_10, w32c_11, w32c_12, w32c_13, w32c_14, w32c_m1, w32c_m2, w32c_118, Int.reduceAdd, Int.reduceSub, Int.reduceMul, yput_s, yput_n, znl_n, znl_0, znl_1, znl_4, ysum_n, ysum_0, ysum_1, ysum_4, true_and, and_true, Nat.reduceAdd, Nat.reduceLeDiff, true_implies, eq_self, true_or, or_true, or_false, false_or, not_true_eq_false, not_false_eq_true, false_implies, implies_true, yset_s, yset_o, yset_d, ne_eq, Nat.reduceEqDiff, Int.reduceToNat, Int.reduceEq, Int.reduceLE, Int.reduceLT, Classical.not_not, Nat.reduceLT, ↓zvk_s, ↓zvk_n, ↓s_214_0, ↓s_214_1, ↓s_214_4, ↓s_214_5, ↓s_214_6, ↓g_214_7, ↓k_214_7, ↓s_214_8, ↓s_214_11, ↓s_214_14, ↓s_214_15, ↓s_214_18, ↓s_214_19, ↓s_214_22, ↓s_214_23, ↓s_214_26, ↓s_214_27, ↓s_214_28, ↓s_214_30, ↓s_214_33, ↓s_214_34, ↓s_214_35, ↓s_214_38, ↓s_214_39, ↓s_214_40, ↓s_214_42, ↓s_214_45n, ↓s_214_45i, ↓s_214_45p, ↓s_214_46, ↓s_214_47, ↓s_214_50, ↓s_214_53, ↓s_214_54, ↓s_214_55, ↓s_214_58, ↓s_214_60, ↓s_214_61, ↓s_214_62, ↓s_214_63, ↓s_214_66, ↓s_214_67, ↓s_214_68, ↓s_214_69, ↓s_214_70, ↓s_214_71, ↓s_214_72, ↓s_214_75, ↓s_214_76, ↓s_214_77, ↓s_214_78, ↓s_214_79, ↓s_214_80, ↓s_214_81, ↓s_214_82, ↓s_214_85, ↓s_214_86, ↓s_214_89, w32c_40, ↓s_254_0, ↓s_254_1, ↓s_254_4, ↓s_254_7, ↓s_254_8, ↓s_254_9, ↓s_254_10, ↓s_254_13, ↓s_254_14, ↓s_254_15, ↓s_254_18, ↓s_254_21, zar_111, zia_111, zln_111, zit_111, zar_110, zia_110, zln_110, zit_110, zio_95, hf1]
      have c110 : w32 (m1 110 (12 + s)) = (l.length : Int) := by rw [F1 110 (12 + s) (amod_r5 (by decide))]; exact c1
      rw [hpt]
      have e8 : w32 (8 * p) = 8 * w32 p := w32_k (by decide) (by (first | exact Nat.le_of_ble_eq_true rfl | exact (fun h => absurd h.1 (by decide)) | omega)) (by (first | exact Nat.le_of_ble_eq_true rfl | exact (fun h => absurd h.1 (by decide)) | omega))
      have ei : w32 (8 * p + m1 110 (12 + s)) = (((12 + s) * 8 + l.length : Nat) : Int) := by rw [w32_ad (by rw [e8]; (first | exact Nat.le_of_ble_eq_true rfl | exact (fun h => absurd h.1 (by decide)) | omega)) (by rw [e8]; (first | exact Nat.le_of_ble_eq_true rfl | exact (fun h => absurd h.1 (by decide)) | omega)), e8]; (first | exact Nat.le_of_ble_eq_true rfl | exact (fun h => absurd h.1 (by decide)) | omega)
      have ej : (w32 (8 * p + m1 110 (12 + s))).toNat = (12 + s) * 8 + l.length := by rw [ei]; exact Int.toNat_natCast _
      have ek : w32 (m1 110 (12 + s) + 1) = ((l.length + 1 : Nat) : Int) := by rw [w32_ad (by rw [w32c_1]; (first | exact Nat.le_of_ble_eq_true rfl | exact (fun h => absurd h.1 (by decide)) | omega)) (by rw [w32c_1]; (first | exact Nat.le_of_ble_eq_true rfl | exact (fun h => absurd h.1 (by decide)) | omega)), w32c_1]; (first | exact Nat.le_of_ble_eq_true rfl | exact (fun h => absurd h.1 (by decide)) | omega)
      rw [ej, ei]
      have T2 : rTk ch n (yset (yset m1 111 ((12 + s) * 8 + l.length) r) 110 (12 + s) (m1 110 (12 + s) + 1)) (.inr l1) := rTk_s (rTk_s T1 (by decide)) (by decide)
      have S2 : RpS b (yset (yset m1 111 ((12 + s) * 8 + l.length) r) 110 (12 + s) (m1 110 (12 + s) + 1)) s (.inr l1) (l ++ [(yNm 0 40 y).1]) := by
        refine ⟨rpF_fr (rpF_fr FR (Or.inl ⟨rfl, by (first | exact Nat.le_of_ble_eq_true rfl | exact (fun h => absurd h.1 (by decide)) | omega), by (first | exact Nat.le_of_ble_eq_true rfl | exact (fun h => absurd h.1 (by decide)) | omega)⟩)) (Or.inr (Or.inl ⟨rfl, rfl⟩)), fun _ => ⟨?_, fun j v hv => ?_⟩⟩
        · rw [yset_s, ek, List.length_append]
          rfl
        · rw [yset_o (by decide)]
          rcases app_get hv with hv | ⟨rfl, rfl⟩
          · have hj := get_lt hv
            rw [yset_d (by (first | exact Nat.le_of_ble_eq_true rfl | exact (fun h => absurd h.1 (by decide)) | omega)), F1 111 _ (amod_r5 (by decide))]
            exact c2 j v hv
          · rw [yset_s]
            exact e1
      exact ⟨⟨by (first | exact Nat.le_of_ble_eq_true rfl | exact (fun h => absurd h.1 (by decide)) | omega), by (first | exact Nat.le_of_ble_eq_true rfl | exact (fun h => absurd h.1 (by decide)) | omega)⟩, ⟨by (first | exact Nat.le_of_ble_eq_true rfl | exact (fun h => absurd h.1 (by decide)) | omega), by (first | exact Nat.le_of_ble_eq_true rfl | exact (fun h => absurd h.1 (by decide)) | omega)⟩, ⟨by (first | exact Nat.le_of_ble_eq_true rfl | exact (fun h => absurd h.1 (by decide)) | omega), by (first | exact Nat.le_of_ble_eq_true rfl | exact (fun h => absurd h.1 (by decide)) | omega)⟩, ⟨by (first | exact Nat.le_of_ble_eq_true rfl | exact (fun h => absurd h.1 (by decide)) | omega), by (first | exact Nat.le_of_ble_eq_true rfl | exact (fun h => absurd h.1 (by decide)) | omega)⟩, fun q => f1 _ l1 _ hy T2 S2 (k2.mp q), fun q => f2 _ l1 hy T2 S2 (fun z => q (k2.mpr z))⟩
  refine zgo_ok (n := 60) hE xmo_214 (cs := zc_214) ?_
  by_cases hf : w32 (m 95 31) = 0
  · simp only [ynok_30, ynok_31, w32c_0, w32c_1, w32c_2, w32c_3, w32c_4, w32c_5, w32c_6, w32c_7, w32c_8, w32c_9, w32c_10, w32c_11, w32c_12, w32c_13, w32c_14, w32c_m1, w32c_m2, w32c_118, Int.reduceAdd, Int.reduceSub, Int.reduceMul, yput_s, yput_n, znl_n, znl_0, znl_1, znl_4, ysum_n, ysum_0, ysum_1, ysum_4, true_and, and_true, Nat.reduceAdd, Nat.reduceLeDiff, true_implies, eq_self, true_or, or_true, or_false, false_or, not_true_eq_false, not_false_eq_true, false_implies, implies_true, yset_s, yset_o, yset_d, ne_eq, Nat.reduceEqDiff, Int.reduceToNat, Int.reduceEq, Int.reduceLE, Int.reduceLT, Classical.not_not, Nat.reduceLT, ↓zvk_s, ↓zvk_n, ↓s_214_0, ↓s_214_1, ↓s_214_4, ↓s_214_5, ↓s_214_6, ↓g_214_7, ↓k_214_7, ↓s_214_8, ↓s_214_11, ↓s_214_14, ↓s_214_15, ↓s_214_18, ↓s_214_19, ↓s_214_22, ↓s_214_23, ↓s_214_26, ↓s_214_27, ↓s_214_28, ↓s_214_30, ↓s_214_33, ↓s_214_34, ↓s_214_35, ↓s_214_38, ↓s_214_39, ↓s_214_40, ↓s_214_42, ↓s_214_45n, ↓s_214_45i, ↓s_214_45p, ↓s_214_46, ↓s_214_47, ↓s_214_50, ↓s_214_53, ↓s_214_54, ↓s_214_55, ↓s_214_58, ↓s_214_60, ↓s_214_61, ↓s_214_62, ↓s_214_63, ↓s_214_66, ↓s_214_67, ↓s_214_68, ↓s_214_69, ↓s_214_70, ↓s_214_71, ↓s_214_72, ↓s_214_75, ↓s_214_76, ↓s_214_77, ↓s_214_78, ↓s_214_79, ↓s_214_80, ↓s_214_81, ↓s_214_82, ↓s_214_85, ↓s_214_86, ↓s_214_89, w32c_40, ↓s_254_0, ↓s_254_1, ↓s_254_4, ↓s_254_7, ↓s_254_8, ↓s_254_9, ↓s_254_10, ↓s_254_13, ↓s_254_14, ↓s_254_15, ↓s_254_18, ↓s_254_21, zar_111, zia_111, zln_111, zit_111, zar_110, zia_110, zln_110, zit_110, zio_95, hf]
    refine ⟨fun _ => num, fun _ => ⟨⟨by (first | exact Nat.le_of_ble_eq_true rfl | exact (fun h => absurd h.1 (by decide)) | omega), by (first | exact Nat.le_of_ble_eq_true rfl | exact (fun h => absurd h.1 (by decide)) | omega)⟩, fun _ => num, fun h8 => ?_⟩⟩
    exfalso
    rw [hpt] at h8
    cases y with
    | inl e => exact rTk_f h hf
    | inr l0 =>
      have := (hS.2 ⟨l0, rfl⟩).1
      (first | exact Nat.le_of_ble_eq_true rfl | exact (fun h => absurd h.1 (by decide)) | omega)
  · simp only [ynok_30, ynok_31, w32c_0, w32c_1, w32c_2, w32c_3, w32c_4, w32c_5, w32c_6, w32c_7, w32c_8, w32c_9, w32c_10, w32c_11, w32c_12, w32c_13, w32c_14, w32c_m1, w32c_m2, w32c_118, Int.reduceAdd, Int.reduceSub, Int.reduceMul, yput_s, yput_n, znl_n, znl_0, znl_1, znl_4, ysum_n, ysum_0, ysum_1, ysum_4, true_and, and_true, Nat.reduceAdd, Nat.reduceLeDiff, true_implies, eq_self, true_or, or_true, or_false, false_or, not_true_eq_false, not_false_eq_true, false_implies, implies_true, yset_s, yset_o, yset_d, ne_eq, Nat.reduceEqDiff, Int.reduceToNat, Int.reduceEq, Int.reduceLE, Int.reduceLT, Classical.not_not, Nat.reduceLT, ↓zvk_s, ↓zvk_n, ↓s_214_0, ↓s_214_1, ↓s_214_4, ↓s_214_5, ↓s_214_6, ↓g_214_7, ↓k_214_7, ↓s_214_8, ↓s_214_11, ↓s_214_14, ↓s_214_15, ↓s_214_18, ↓s_214_19, ↓s_214_22, ↓s_214_23, ↓s_214_26, ↓s_214_27, ↓s_214_28, ↓s_214_30, ↓s_214_33, ↓s_214_34, ↓s_214_35, ↓s_214_38, ↓s_214_39, ↓s_214_40, ↓s_214_42, ↓s_214_45n, ↓s_214_45i, ↓s_214_45p, ↓s_214_46, ↓s_214_47, ↓s_214_50, ↓s_214_53, ↓s_214_54, ↓s_214_55, ↓s_214_58, ↓s_214_60, ↓s_214_61, ↓s_214_62, ↓s_214_63, ↓s_214_66, ↓s_214_67, ↓s_214_68, ↓s_214_69, ↓s_214_70, ↓s_214_71, ↓s_214_72, ↓s_214_75, ↓s_214_76, ↓s_214_77, ↓s_214_78, ↓s_214_79, ↓s_214_80, ↓s_214_81, ↓s_214_82, ↓s_214_85, ↓s_214_86, ↓s_214_89, w32c_40, ↓s_254_0, ↓s_254_1, ↓s_254_4, ↓s_254_7, ↓s_254_8, ↓s_254_9, ↓s_254_10, ↓s_254_13, ↓s_254_14, ↓s_254_15, ↓s_254_18, ↓s_254_21, zar_111, zia_111, zln_111, zit_111, zar_110, zia_110, zln_110, zit_110, zio_95, hf]
    exact num
theorem rb7 (hE : yEok E) (hd : 7 ≤ d) (hs : s < 12) (hp : w32 p = ((12 + s : Nat) : Int)) : ∀ c (y : sY) (m : yMem) (l : List Int) (z : Option yV), c + 1 + l.length = 8 → rTk ch n m y → RpS b m s y l → (∀ m', rTk ch n m' (pBars (c + 1) y).2 → RpS b m' s (pBars (c + 1) y).2 (l ++ (pBars (c + 1) y).1) → Q none m') → zG E (d + 1) xm_214 7 [some (1, 95), some (0, p), z] [] m Q := by
  intro c
  induction c with
  | zero =>
    intro y m l z hc h hS fin
    have e1 : pBars 1 y = ([(yNm 0 40 y).1], if yKd (yNm 0 40 y).2 = 2 then yFl 2 (yNm 0 40 y).2 else (yNm 0 40 y).2) := rfl
    refine rbS hE hd hs hp (by (first | exact Nat.le_of_ble_eq_true rfl | exact (fun h => absurd h.1 (by decide)) | omega)) h hS (fun m' e he g1 g2 => ?_) (fun m' l1 z' he g1 g2 g3 => ?_) (fun m' l1 he g1 g2 g3 => ?_)
    · have e2 := pBars_nm he 0
      exact fin m' (by rw [e2]; exact g2) ⟨g1, fun z => by rw [e2] at z; exact absurd z yOk_in⟩
    · have e2 : (pBars (0 + 1) y).2 = yFl 2 (.inr l1) := by
        show (pBars 1 y).2 = _
        rw [e1, he]
        exact if_pos g3
      refine rb8 hE hd hs hp g1 g3 (by rw [(g2.2 ⟨l1, rfl⟩).1, List.length_append]; show ((l.length + 1 : Nat) : Int) = 8; (first | exact Nat.le_of_ble_eq_true rfl | exact (fun h => absurd h.1 (by decide)) | omega)) g2.1 (fun m2 k1 k2 => fin m2 (by rw [e2]; exact k2) ⟨k1, fun z => by rw [e2] at z; exact absurd z yOk_fl⟩)
    · have e2 : pBars (0 + 1) y = ([(yNm 0 40 y).1], .inr l1) := by
        show pBars 1 y = _
        rw [e1, he]
        rw [if_neg (show ¬ yKd (.inr l1) = 2 from g3)]
      exact fin m' (by rw [e2]; exact g1) (by rw [e2]; exact g2)
  | succ c ih =>
    intro y m l z hc h hS fin
    have e1 : pBars (c + 2) y = if yKd (yNm 0 40 y).2 = 2 then ((yNm 0 40 y).1 :: (pBars (c + 1) (yNm 0 40 y).2).1, (pBars (c + 1) (yNm 0 40 y).2).2) else ([(yNm 0 40 y).1], (yNm 0 40 y).2) := rfl
    refine rbS hE hd hs hp (by (first | exact Nat.le_of_ble_eq_true rfl | exact (fun h => absurd h.1 (by decide)) | omega)) h hS (fun m' e he g1 g2 => ?_) (fun m' l1 z' he g1 g2 g3 => ?_) (fun m' l1 he g1 g2 g3 => ?_)
    · have e2 := pBars_nm he (c + 1)
      exact fin m' (by rw [e2]; exact g2) ⟨g1, fun z => by rw [e2] at z; exact absurd z yOk_in⟩
    · have e2 : pBars (c + 1 + 1) y = ((yNm 0 40 y).1 :: (pBars (c + 1) (.inr l1)).1, (pBars (c + 1) (.inr l1)).2) := by
        show pBars (c + 2) y = _
        rw [e1, he]
        exact if_pos g3
      refine ih (.inr l1) m' (l ++ [(yNm 0 40 y).1]) z' (by rw [List.length_append]; show c + 1 + (l.length + 1) = 8; (first | exact Nat.le_of_ble_eq_true rfl | exact (fun h => absurd h.1 (by decide)) | omega)) g1 g2 (fun m2 k1 k2 => ?_)
      rw [List.append_assoc] at k2
      exact fin m2 (by rw [e2]; exact k1) (by rw [e2]; exact k2)
    · have e2 : pBars (c + 1 + 1) y = ([(yNm 0 40 y).1], .inr l1) := by
        show pBars (c + 2) y = _
        rw [e1, he]
        exact if_neg g3
      exact fin m' (by rw [e2]; exact g1) (by rw [e2]; exact g2)
theorem rf_partLine (hE : yEok E) {D : Nat} (hD : 9 ≤ D) (hs : s < 12) (hp : w32 p = ((12 + s : Nat) : Int)) (h : rTk ch n mem x) (hQ : ∀ m, rTk ch n m (pBars 8 x).2 → RpS mem m s (pBars 8 x).2 (pBars 8 x).1 → Q none m) : yCon E D xm_214 [(1, 95), (0, p)] mem Q := by
  obtain ⟨d, rfl⟩ := Nat.exists_eq_add_of_le' hD
  have hpt : (w32 p).toNat = 12 + s := by rw [hp]; exact Int.toNat_natCast _
  refine e_214 ?_
  refine zvc_ok hE 60 zc_214 _ _ _ _ _ _ _ xmo_214 ?_
  simp only [ynok_30, ynok_31, w32c_0, w32c_1, w32c_2, w32c_3, w32c_4, w32c_5, w32c_6, w32c_7, w32c_8, w32c_9, w32c_10, w32c_11, w32c_12, w32c_13, w32c_14, w32c_m1, w32c_m2, w32c_118, Int.reduceAdd, Int.reduceSub, Int.reduceMul, yput_s, yput_n, znl_n, znl_0, znl_1, znl_4, ysum_n, ysum_0, ysum_1, ysum_4, true_and, and_true, Nat.reduceAdd, Nat.reduceLeDiff, true_implies, eq_self, true_or, or_true, or_false, false_or, not_true_eq_false, not_false_eq_true, false_implies, implies_true, yset_s, yset_o, yset_d, ne_eq, Nat.reduceEqDiff, Int.reduceToNat, Int.reduceEq, Int.reduceLE, Int.reduceLT, Classical.not_not, Nat.reduceLT, ↓zvk_s, ↓zvk_n, ↓s_214_0, ↓s_214_1, ↓s_214_4, ↓s_214_5, ↓s_214_6, ↓g_214_7, ↓k_214_7, ↓s_214_8, ↓s_214_11, ↓s_214_14, ↓s_214_15, ↓s_214_18, ↓s_214_19, ↓s_214_22, ↓s_214_23, ↓s_214_26, ↓s_214_27, ↓s_214_28, ↓s_214_30, ↓s_214_33, ↓s_214_34, ↓s_214_35, ↓s_214_38, ↓s_214_39, ↓s_214_40, ↓s_214_42, ↓s_214_45n, ↓s_214_45i, ↓s_214_45p, ↓s_214_46, ↓s_214_47, ↓s_214_50, ↓s_214_53, ↓s_214_54, ↓s_214_55, ↓s_214_58, ↓s_214_60, ↓s_214_61, ↓s_214_62, ↓s_214_63, ↓s_214_66, ↓s_214_67, ↓s_214_68, ↓s_214_69, ↓s_214_70, ↓s_214_71, ↓s_214_72, ↓s_214_75, ↓s_214_76, ↓s_214_77, ↓s_214_78, ↓s_214_79, ↓s_214_80, ↓s_214_81, ↓s_214_82, ↓s_214_85, ↓s_214_86, ↓s_214_89, w32c_40, zar_111, zia_111, zln_111, zit_111, zar_110, zia_110, zln_110, zit_110, zio_95]
  refine ⟨⟨by (first | exact Nat.le_of_ble_eq_true rfl | exact (fun h => absurd h.1 (by decide)) | omega), by (first | exact Nat.le_of_ble_eq_true rfl | exact (fun h => absurd h.1 (by decide)) | omega)⟩, ?_⟩
  rw [hpt]
  exact rb7 (b := mem) hE (by (first | exact Nat.le_of_ble_eq_true rfl | exact (fun h => absurd h.1 (by decide)) | omega)) hs hp 7 x _ [] _ rfl (rTk_s h (by decide)) ⟨rpF_fr (fun _ _ _ => rfl) (Or.inr (Or.inl ⟨rfl, rfl⟩)), fun _ => ⟨by rw [yset_s]; exact w32c_0, fun j v hv => by cases hv⟩⟩ hQ
end RF
/-! a verse -/
def rwF (v i j : Nat) : Prop := (i = 111 ∧ (4 + v) * 24 ≤ j ∧ j < (4 + v) * 24 + 24) ∨ (i = 110 ∧ (4 + v) * 3 ≤ j ∧ j < (4 + v) * 3 + 3) ∨ (i = 109 ∧ j = 4 + v) ∨ (i = 97 ∧ j = 9) ∨ (i = 95 ∧ 27 ≤ j ∧ j ≤ 32)
def rPs (m : yMem) (v : Nat) (l : List (List Int)) : Prop := ∀ p q, l[p]? = some q → q.length ≤ 8 ∧ w32 (m 110 (12 + (v * 3 + p))) = (q.length : Int) ∧ ∀ j w, q[j]? = some w → w32 (m 111 ((12 + (v * 3 + p)) * 8 + j)) = w
def RwS (b m : yMem) (v : Nat) (y : sY) (l : List (List Int)) : Prop := (∀ i j, ¬ rwF v i j → m i j = b i j) ∧ m 97 9 = b 97 9 ∧ (yOk y → w32 (m 109 (4 + v)) = (l.length : Int) ∧ rPs m v l)
theorem rwF_fr {b m : yMem} {s i j : Nat} {x : Int} (h : ∀ i j, ¬ rwF s i j → m i j = b i j) (hv : rwF s i j) : ∀ i' j', ¬ rwF s i' j' → yset m i j x i' j' = b i' j' := fun i' j' h' => by
  rw [yset_a]
  split
  · next e1 =>
    rw [if_neg (fun e2 => h' (by rw [e1, e2]; exact hv))]
    exact h i' j' h'
  · exact h i' j' h'
theorem rPs_eq {m m' : yMem} {v : Nat} {l : List (List Int)} (h : rPs m v l) (h5 : ∀ j, m' 110 j = m 110 j) (h6 : ∀ j, m' 111 j = m 111 j) : rPs m' v l := fun p q hq => by
  obtain ⟨h1, h2, h3⟩ := h p q hq
  exact ⟨h1, by rw [h5]; exact h2, fun j w hw => by rw [h6]; exact h3 j w hw⟩
section RG
variable {E : yE} {mem b m : yMem} {Q : Option yV → yMem → Prop} {ch : Nat → Int} {n : Nat} {x y : sY} {d v : Nat} {r : Int} {l : List (List Int)}
/-- no part more -/
theorem vx48 (hE : yEok E) (hb : w32 (b 97 9) = (v : Int)) (hv : v < 4) (hk : ¬ yKd y = 27) (h : rTk ch n m y) (hS : RwS b m v y l) (fin : ∀ m', (∀ i j, ¬ rwF v i j → m' i j = b i j) → rTk ch n m' y → (yOk y → w32 (m' 97 9) = ((v + 1 : Nat) : Int) ∧ w32 (m' 109 (4 + v)) = (l.length : Int) ∧ rPs m' v l) → Q none m') : zG E (d + 1) xm_248 48 [some (1, 95), some (0, r)] [] m Q := by
  refine zgo_ok (n := 60) hE xmo_248 (cs := zc_248) ?_
  have h9 : w32 (m 97 9) = (v : Int) := by rw [hS.2.1]; exact hb
  have e1 : w32 (m 97 9 + 1) = ((v + 1 : Nat) : Int) := by rw [w32_ad (by rw [w32c_1, h9]; (first | exact Nat.le_of_ble_eq_true rfl | exact (fun h => absurd h.1 (by decide)) | omega)) (by rw [w32c_1, h9]; (first | exact Nat.le_of_ble_eq_true rfl | exact (fun h => absurd h.1 (by decide)) | omega)), w32c_1, h9]; (first | exact Nat.le_of_ble_eq_true rfl | exact (fun h => absurd h.1 (by decide)) | omega)
  have f0 : Q none (yset m 97 9 (m 97 9 + 1)) := fin _ (rwF_fr hS.1 (Or.inr (Or.inr (Or.inr (Or.inl ⟨rfl, rfl⟩))))) (rTk_s h (by decide)) (fun z => ⟨by rw [yset_s]; exact e1, by rw [yset_o (by decide)]; exact (hS.2.2 z).1, rPs_eq (hS.2.2 z).2 (fun j => yset_o (by decide)) (fun j => yset_o (by decide))⟩)
  by_cases q1 : w32 (m 95 31) = 0
  · by_cases q2 : w32 (m 95 29) = 0
    · have q3 : ¬ w32 (m 95 30) = 7 := fun z => hk ((rf_isw h (k0 := 27) (by decide) (by decide)).mp ⟨q1, q2, z⟩)
      simp only [ynok_30, ynok_31, w32c_0, w32c_1, w32c_2, w32c_3, w32c_4, w32c_5, w32c_6, w32c_7, w32c_8, w32c_9, w32c_10, w32c_11, w32c_12, w32c_13, w32c_14, w32c_m1, w32c_m2, w32c_118, Int.reduceAdd, Int.reduceSub, Int.reduceMul, yput_s, yput_n, znl_n, znl_0, znl_1, znl_4, ysum_n, ysum_0, ysum_1, ysum_4, true_and, and_true, Nat.reduceAdd, Nat.reduceLeDiff, true_implies, eq_self, true_or, or_true, or_false, false_or, not_true_eq_false, not_false_eq_true, false_implies, implies_true, yset_s, yset_o, yset_d, ne_eq, Nat.reduceEqDiff, Int.reduceToNat, Int.reduceEq, Int.reduceLE, Int.reduceLT, Classical.not_not, Nat.reduceLT, ↓zvk_s, ↓zvk_n, ↓s_248_0, ↓s_248_1, ↓s_248_4, ↓s_248_5, ↓s_248_6, ↓s_248_7, ↓s_248_10, ↓s_248_11, ↓s_248_12, ↓s_248_13, ↓s_248_16, ↓s_248_19, ↓s_248_20, ↓s_248_21, ↓s_248_24, ↓s_248_25, ↓s_248_26, ↓s_248_27, ↓s_248_28, ↓s_248_31, ↓s_248_34, ↓s_248_35, ↓s_248_37, ↓s_248_40, ↓s_248_43, ↓s_248_44, ↓s_248_45, ↓g_248_48, ↓k_248_48, ↓s_248_49, ↓s_248_51, ↓s_248_54, ↓s_248_57, ↓s_248_58, ↓s_248_61, ↓s_248_62, ↓s_248_63, ↓s_248_64, ↓s_248_67, ↓s_248_68, ↓s_248_69, ↓s_248_72, ↓s_248_73, ↓s_248_76, ↓s_248_79, ↓s_248_80, ↓s_248_81, ↓s_248_84, ↓s_248_85, ↓s_248_86, ↓s_248_87, ↓s_248_88, ↓s_248_89, ↓s_248_92, ↓s_248_93, ↓s_248_94, ↓s_248_95, ↓s_248_98, ↓s_248_99, ↓s_248_102, ↓s_248_103, ↓s_248_104, ↓s_248_105, ↓s_248_106, ↓s_248_107, ↓s_248_108, ↓s_248_111, ↓s_248_112, ↓s_248_113, ↓s_248_114, ↓s_248_115, ↓s_248_118, ↓s_248_119, ↓s_248_120, ↓s_248_123, ↓s_254_0, ↓s_254_1, ↓s_254_4, ↓s_254_7, ↓s_254_8, ↓s_254_9, ↓s_254_10, ↓s_254_13, ↓s_254_14, ↓s_254_15, ↓s_254_18, ↓s_254_21, ↓s_198_0, ↓s_198_1, ↓s_198_4, ↓s_198_7, ↓s_198_8, ↓s_198_11, ↓s_198_14, ↓s_198_15, ↓s_198_18, ↓s_198_19, ↓s_198_22, ↓s_198_23, ↓s_198_26, ↓s_198_27, ↓s_173_0, ↓s_173_1, ↓s_173_4, ↓s_173_7, ↓s_173_8, ↓s_173_11, ↓s_170_0, ↓s_170_1, ↓s_170_4, ↓s_170_6, ↓s_170_7, ↓s_170_8, ↓s_170_9, ↓s_221_0, ↓s_221_1, ↓s_221_4, ↓s_221_6, ↓s_221_7, ↓s_221_8, ↓s_221_9, ↓s_221_10, zar_97, zia_97, zln_97, zit_97, zar_108, zia_108, zln_108, zit_108, zar_109, zia_109, zln_109, zit_109, zio_95, q1, q2, q3]
      exact ⟨by (first | exact Nat.le_of_ble_eq_true rfl | exact (fun h => absurd h.1 (by decide)) | omega), by (first | exact Nat.le_of_ble_eq_true rfl | exact (fun h => absurd h.1 (by decide)) | omega), f0⟩
    · simp only [ynok_30, ynok_31, w32c_0, w32c_1, w32c_2, w32c_3, w32c_4, w32c_5, w32c_6, w32c_7, w32c_8, w32c_9, w32c_10, w32c_11, w32c_12, w32c_13, w32c_14, w32c_m1, w32c_m2, w32c_118, Int.reduceAdd, Int.reduceSub, Int.reduceMul, yput_s, yput_n, znl_n, znl_0, znl_1, znl_4, ysum_n, ysum_0, ysum_1, ysum_4, true_and, and_true, Nat.reduceAdd, Nat.reduceLeDiff, true_implies, eq_self, true_or, or_true, or_false, false_or, not_true_eq_false, not_false_eq_true, false_implies, implies_true, yset_s, yset_o, yset_d, ne_eq, Nat.reduceEqDiff, Int.reduceToNat, Int.reduceEq, Int.reduceLE, Int.reduceLT, Classical.not_not, Nat.reduceLT, ↓zvk_s, ↓zvk_n, ↓s_248_0, ↓s_248_1, ↓s_248_4, ↓s_248_5, ↓s_248_6, ↓s_248_7, ↓s_248_10, ↓s_248_11, ↓s_248_12, ↓s_248_13, ↓s_248_16, ↓s_248_19, ↓s_248_20, ↓s_248_21, ↓s_248_24, ↓s_248_25, ↓s_248_26, ↓s_248_27, ↓s_248_28, ↓s_248_31, ↓s_248_34, ↓s_248_35, ↓s_248_37, ↓s_248_40, ↓s_248_43, ↓s_248_44, ↓s_248_45, ↓g_248_48, ↓k_248_48, ↓s_248_49, ↓s_248_51, ↓s_248_54, ↓s_248_57, ↓s_248_58, ↓s_248_61, ↓s_248_62, ↓s_248_63, ↓s_248_64, ↓s_248_67, ↓s_248_68, ↓s_248_69, ↓s_248_72, ↓s_248_73, ↓s_248_76, ↓s_248_79, ↓s_248_80, ↓s_248_81, ↓s_248_84, ↓s_248_85, ↓s_248_86, ↓s_248_87, ↓s_248_88, ↓s_248_89, ↓s_248_92, ↓s_248_93, ↓s_248_94, ↓s_248_95, ↓s_248_98, ↓s_248_99, ↓s_248_102, ↓s_248_103, ↓s_248_104, ↓s_248_105, ↓s_248_106, ↓s_248_107, ↓s_248_108, ↓s_248_111, ↓s_248_112, ↓s_248_113, ↓s_248_114, ↓s_248_115, ↓s_248_118, ↓s_248_119, ↓s_248_120, ↓s_248_123, ↓s_254_0, ↓s_254_1, ↓s_254_4, ↓s_254_7, ↓s_254_8, ↓s_254_9, ↓s_254_10, ↓s_254_13, ↓s_254_14, ↓s_254_15, ↓s_254_18, ↓s_254_21, ↓s_198_0, ↓s_198_1, ↓s_198_4, ↓s_198_7, ↓s_198_8, ↓s_198_11, ↓s_198_14, ↓s_198_15, ↓s_198_18, ↓s_198_19, ↓s_198_22, ↓s_198_23, ↓s_198_26, ↓s_198_27, ↓s_173_0, ↓s_173_1, ↓s_173_4, ↓s_173_7, ↓s_173_8, ↓s_173_11, ↓s_170_0, ↓s_170_1, ↓s_170_4, ↓s_170_6, ↓s_170_7, ↓s_170_8, ↓s_170_9, ↓s_221_0, ↓s_221_1, ↓s_221_4, ↓s_221_6, ↓s_221_7, ↓s_221_8, ↓s_221_9, ↓s_221_10, zar_97, zia_97, zln_97, zit_97, zar_108, zia_108, zln_108, zit_108, zar_109, zia_109, zln_109, zit_109, zio_95, q1, q2]
      exact ⟨by (first | exact Nat.le_of_ble_eq_true rfl | exact (fun h => absurd h.1 (by decide)) | omega), by (first | exact Nat.le_of_ble_eq_true rfl | exact (fun h => absurd h.1 (by decide)) | omega), f0⟩
  · simp only [ynok_30, ynok_31, w32c_0, w32c_1, w32c_2, w32c_3, w32c_4, w32c_5, w32c_6, w32c_7, w32c_8, w32c_9, w32c_10, w32c_11, w32c_12, w32c_13, w32c_14, w32c_m1, w32c_m2, w32c_118, Int.reduceAdd, Int.reduceSub, Int.reduceMul, yput_s, yput_n, znl_n, znl_0, znl_1, znl_4, ysum_n, ysum_0, ysum_1, ysum_4, true_and, and_true, Nat.reduceAdd, Nat.reduceLeDiff, true_implies, eq_self, true_or, or_true, or_false, false_or, not_true_eq_false, not_false_eq_true, false_implies, implies_true, yset_s, yset_o, yset_d, ne_eq, Nat.reduceEqDiff, Int.reduceToNat, Int.reduceEq, Int.reduceLE, Int.reduceLT, Classical.not_not, Nat.reduceLT, ↓zvk_s, ↓zvk_n, ↓s_248_0, ↓s_248_1, ↓s_248_4, ↓s_248_5, ↓s_248_6, ↓s_248_7, ↓s_248_10, ↓s_248_11, ↓s_248_12, ↓s_248_13, ↓s_248_16, ↓s_248_19, ↓s_248_20, ↓s_248_21, ↓s_248_24, ↓s_248_25, ↓s_248_26, ↓s_248_27, ↓s_248_28, ↓s_248_31, ↓s_248_34, ↓s_248_35, ↓s_248_37, ↓s_248_40, ↓s_248_43, ↓s_248_44, ↓s_248_45, ↓g_248_48, ↓k_248_48, ↓s_248_49, ↓s_248_51, ↓s_248_54, ↓s_248_57, ↓s_248_58, ↓s_248_61, ↓s_248_62, ↓s_248_63, ↓s_248_64, ↓s_248_67, ↓s_248_68, ↓s_248_69, ↓s_248_72, ↓s_248_73, ↓s_248_76, ↓s_248_79, ↓s_248_80, ↓s_248_81, ↓s_248_84, ↓s_248_85, ↓s_248_86, ↓s_248_87, ↓s_248_88, ↓s_248_89, ↓s_248_92, ↓s_248_93, ↓s_248_94, ↓s_248_95, ↓s_248_98, ↓s_248_99, ↓s_248_102, ↓s_248_103, ↓s_248_104, ↓s_248_105, ↓s_248_106, ↓s_248_107, ↓s_248_108, ↓s_248_111, ↓s_248_112, ↓s_248_113, ↓s_248_114, ↓s_248_115, ↓s_248_118, ↓s_248_119, ↓s_248_120, ↓s_248_123, ↓s_254_0, ↓s_254_1, ↓s_254_4, ↓s_254_7, ↓s_254_8, ↓s_254_9, ↓s_254_10, ↓s_254_13, ↓s_254_14, ↓s_254_15, ↓s_254_18, ↓s_254_21, ↓s_198_0, ↓s_198_1, ↓s_198_4, ↓s_198_7, ↓s_198_8, ↓s_198_11, ↓s_198_14, ↓s_198_15, ↓s_198_18, ↓s_198_19, ↓s_198_22, ↓s_198_23, ↓s_198_26, ↓s_198_27, ↓s_173_0, ↓s_173_1, ↓s_173_4, ↓s_173_7, ↓s_173_8, ↓s_173_11, ↓s_170_0, ↓s_170_1, ↓s_170_4, ↓s_170_6, ↓s_170_7, ↓s_170_8, ↓s_170_9, ↓s_221_0, ↓s_221_1, ↓s_221_4, ↓s_221_6, ↓s_221_7, ↓s_221_8, ↓s_221_9, ↓s_221_10, zar_97, zia_97, zln_97, zit_97, zar_108, zia_108, zln_108, zit_108, zar_109, zia_109, zln_109, zit_109, zio_95, q1]
    exact ⟨by (first | exact Nat.le_of_ble_eq_true rfl | exact (fun h => absurd h.1 (by decide)) | omega), by (first | exact Nat.le_of_ble_eq_true rfl | exact (fun h => absurd h.1 (by decide)) | omega), f0⟩
/-- a fourth part -/
theorem vl3 (hE : yEok E) (hv : v < 4) (hr : w32 r = ((4 + v : Nat) : Int)) (hk : yKd y = 27) (h : rTk ch n m y) (h3 : w32 (m 109 (4 + v)) = 3) (hF : ∀ i j, ¬ rwF v i j → m i j = b i j) (fin : ∀ m', (∀ i j, ¬ rwF v i j → m' i j = b i j) → rTk ch n m' (yFl 2 y) → Q none m') : zG E (d + 1) xm_248 48 [some (1, 95), some (0, r)] [] m Q := by
  have hrt : (w32 r).toNat = 4 + v := by rw [hr]; exact Int.toNat_natCast _
  refine zgo_ok (n := 60) hE xmo_248 (cs := zc_248) ?_
  obtain ⟨q1, q2, q3⟩ := (rf_isw h (k0 := 27) (by decide) (by decide)).mpr hk
  have q3 : w32 (m 95 30) = 7 := q3
  simp only [ynok_30, ynok_31, w32c_0, w32c_1, w32c_2, w32c_3, w32c_4, w32c_5, w32c_6, w32c_7, w32c_8, w32c_9, w32c_10, w32c_11, w32c_12, w32c_13, w32c_14, w32c_m1, w32c_m2, w32c_118, Int.reduceAdd, Int.reduceSub, Int.reduceMul, yput_s, yput_n, znl_n, znl_0, znl_1, znl_4, ysum_n, ysum_0, ysum_1, ysum_4, true_and, and_true, Nat.reduceAdd, Nat.reduceLeDiff, true_implies, eq_self, true_or, or_true, or_false, false_or, not_true_eq_false, not_false_eq_true, false_implies, implies_true, yset_s, yset_o, yset_d, ne_eq, Nat.reduceEqDiff, Int.reduceToNat, Int.reduceEq, Int.reduceLE, Int.reduceLT, Classical.not_not, Nat.reduceLT, ↓zvk_s, ↓zvk_n, ↓s_248_0, ↓s_248_1, ↓s_248_4, ↓s_248_5, ↓s_248_6, ↓s_248_7, ↓s_248_10, ↓s_248_11, ↓s_248_12, ↓s_248_13, ↓s_248_16, ↓s_248_19, ↓s_248_20, ↓s_248_21, ↓s_248_24, ↓s_248_25, ↓s_248_26, ↓s_248_27, ↓s_248_28, ↓s_248_31, ↓s_248_34, ↓s_248_35, ↓s_248_37, ↓s_248_40, ↓s_248_43, ↓s_248_44, ↓s_248_45, ↓g_248_48, ↓k_248_48, ↓s_248_49, ↓s_248_51, ↓s_248_54, ↓s_248_57, ↓s_248_58, ↓s_248_61, ↓s_248_62, ↓s_248_63, ↓s_248_64, ↓s_248_67, ↓s_248_68, ↓s_248_69, ↓s_248_72, ↓s_248_73, ↓s_248_76, ↓s_248_79, ↓s_248_80, ↓s_248_81, ↓s_248_84, ↓s_248_85, ↓s_248_86, ↓s_248_87, ↓s_248_88, ↓s_248_89, ↓s_248_92, ↓s_248_93, ↓s_248_94, ↓s_248_95, ↓s_248_98, ↓s_248_99, ↓s_248_102, ↓s_248_103, ↓s_248_104, ↓s_248_105, ↓s_248_106, ↓s_248_107, ↓s_248_108, ↓s_248_111, ↓s_248_112, ↓s_248_113, ↓s_248_114, ↓s_248_115, ↓s_248_118, ↓s_248_119, ↓s_248_120, ↓s_248_123, ↓s_254_0, ↓s_254_1, ↓s_254_4, ↓s_254_7, ↓s_254_8, ↓s_254_9, ↓s_254_10, ↓s_254_13, ↓s_254_14, ↓s_254_15, ↓s_254_18, ↓s_254_21, ↓s_198_0, ↓s_198_1, ↓s_198_4, ↓s_198_7, ↓s_198_8, ↓s_198_11, ↓s_198_14, ↓s_198_15, ↓s_198_18, ↓s_198_19, ↓s_198_22, ↓s_198_23, ↓s_198_26, ↓s_198_27, ↓s_173_0, ↓s_173_1, ↓s_173_4, ↓s_173_7, ↓s_173_8, ↓s_173_11, ↓s_170_0, ↓s_170_1, ↓s_170_4, ↓s_170_6, ↓s_170_7, ↓s_170_8, ↓s_170_9, ↓s_221_0, ↓s_221_1, ↓s_221_4, ↓s_221_6, ↓s_221_7, ↓s_221_8, ↓s_221_9, ↓s_221_10, zar_97, zia_97, zln_97, zit_97, zar_108, zia_108, zln_108, zit_108, zar_109, zia_109, zln_109, zit_109, zio_95, q1, q2, q3]
  rw [hrt]
  refine ⟨⟨by (first | exact Nat.le_of_ble_eq_true rfl | exact (fun h => absurd h.1 (by decide)) | omega), by (first | exact Nat.le_of_ble_eq_true rfl | exact (fun h => absurd h.1 (by decide)) | omega)⟩, fun z => absurd h3 z, fun _ => ?_⟩
  obtain ⟨l, rfl⟩ := yOk_kd (x := y) (by (first | exact Nat.le_of_ble_eq_true rfl | exact (fun h => absurd h.1 (by decide)) | omega))
  obtain ⟨G1, G2⟩ := rf_wr (f := 2) (F := 2) h (by decide) (by decide)
  exact fin _ (fun i j hv => by rw [G1 i j (amod_r (fun z => hv (Or.inr (Or.inr (Or.inr (Or.inr z))))))]; exact hF i j hv) G2
/-- one part more -/
theorem vlS (hE : yEok E) (hd : 8 ≤ d) (hv : v < 4) (hr : w32 r = ((4 + v : Nat) : Int)) (hl : l.length ≤ 2) (hk : yKd y = 27) (h : rTk ch n m y) (hS : RwS b m v y l) (f : ∀ m', rTk ch n m' (pPt y).2 → RwS b m' v (pPt y).2 (l ++ [(pPt y).1]) → zG E (d + 1) xm_248 48 [some (1, 95), some (0, r)] [] m' Q) : zG E (d + 1) xm_248 48 [some (1, 95), some (0, r)] [] m Q := by
  have hrt : (w32 r).toNat = 4 + v := by rw [hr]; exact Int.toNat_natCast _
  have hy := yOk_kd (x := y) (by (first | exact Nat.le_of_ble_eq_true rfl | exact (fun h => absurd h.1 (by decide)) | omega))
  obtain ⟨c1, c2⟩ := hS.2.2 hy
  refine zgo_ok (n := 60) hE xmo_248 (cs := zc_248) ?_
  obtain ⟨q1, q2, q3⟩ := (rf_isw h (k0 := 27) (by decide) (by decide)).mpr hk
  have q3 : w32 (m 95 30) = 7 := q3
  simp only [ynok_30, ynok_31, w32c_0, w32c_1, w32c_2, w32c_3, w32c_4, w32c_5, w32c_6, w32c_7, w32c_8, w32c_9, w32c_10, w32c_11, w32c_12, w32c_13, w32c_14, w32c_m1, w32c_m2, w32c_118, Int.reduceAdd, Int.reduceSub, Int.reduceMul, yput_s, yput_n, znl_n, znl_0, znl_1, znl_4, ysum_n, ysum_0, ysum_1, ysum_4, true_and, and_true, Nat.reduceAdd, Nat.reduceLeDiff, true_implies, eq_self, true_or, or_true, or_false, false_or, not_true_eq_false, not_false_eq_true, false_implies, implies_true, yset_s, yset_o, yset_d, ne_eq, Nat.reduceEqDiff, Int.reduceToNat, Int.reduceEq, Int.reduceLE, Int.reduceLT, Classical.not_not, Nat.reduceLT, ↓zvk_s, ↓zvk_n, ↓s_248_0, ↓s_248_1, ↓s_248_4, ↓s_248_5, ↓s_248_6, ↓s_248_7, ↓s_248_10, ↓s_248_11, ↓s_248_12, ↓s_248_13, ↓s_248_16, ↓s_248_19, ↓s_248_20, ↓s_248_21, ↓s_248_24, ↓s_248_25, ↓s_248_26, ↓s_248_27, ↓s_248_28, ↓s_248_31, ↓s_248_34, ↓s_248_35, ↓s_248_37, ↓s_248_40, ↓s_248_43, ↓s_248_44, ↓s_248_45, ↓g_248_48, ↓k_248_48, ↓s_248_49, ↓s_248_51, ↓s_248_54, ↓s_248_57, ↓s_248_58, ↓s_248_61, ↓s_248_62, ↓s_248_63, ↓s_248_64, ↓s_248_67, ↓s_248_68, ↓s_248_69, ↓s_248_72, ↓s_248_73, ↓s_248_76, ↓s_248_79, ↓s_248_80, ↓s_248_81, ↓s_248_84, ↓s_248_85, ↓s_248_86, ↓s_248_87, ↓s_248_88, ↓s_248_89, ↓s_248_92, ↓s_248_93, ↓s_248_94, ↓s_248_95, ↓s_248_98, ↓s_248_99, ↓s_248_102, ↓s_248_103, ↓s_248_104, ↓s_248_105, ↓s_248_106, ↓s_248_107, ↓s_248_108, ↓s_248_111, ↓s_248_112, ↓s_248_113, ↓s_248_114, ↓s_248_115, ↓s_248_118, ↓s_248_119, ↓s_248_120, ↓s_248_123, ↓s_254_0, ↓s_254_1, ↓s_254_4, ↓s_254_7, ↓s_254_8, ↓s_254_9, ↓s_254_10, ↓s_254_13, ↓s_254_14, ↓s_254_15, ↓s_254_18, ↓s_254_21, ↓s_198_0, ↓s_198_1, ↓s_198_4, ↓s_198_7, ↓s_198_8, ↓s_198_11, ↓s_198_14, ↓s_198_15, ↓s_198_18, ↓s_198_19, ↓s_198_22, ↓s_198_23, ↓s_198_26, ↓s_198_27, ↓s_173_0, ↓s_173_1, ↓s_173_4, ↓s_173_7, ↓s_173_8, ↓s_173_11, ↓s_170_0, ↓s_170_1, ↓s_170_4, ↓s_170_6, ↓s_170_7, ↓s_170_8, ↓s_170_9, ↓s_221_0, ↓s_221_1, ↓s_221_4, ↓s_221_6, ↓s_221_7, ↓s_221_8, ↓s_221_9, ↓s_221_10, zar_97, zia_97, zln_97, zit_97, zar_108, zia_108, zln_108, zit_108, zar_109, zia_109, zln_109, zit_109, zio_95, q1, q2, q3]
  rw [hrt]
  refine ⟨⟨by (first | exact Nat.le_of_ble_eq_true rfl | exact (fun h => absurd h.1 (by decide)) | omega), by (first | exact Nat.le_of_ble_eq_true rfl | exact (fun h => absurd h.1 (by decide)) | omega)⟩, fun _ => ?_, fun z => absurd z (by (first | exact Nat.le_of_ble_eq_true rfl | exact (fun h => absurd h.1 (by decide)) | omega))⟩
  have ept : pPt y = pBars 8 (yNx y) := by unfold pPt; rw [if_pos hk]
  obtain ⟨l0, rfl⟩ := hy
  refine rf_token hE (by (first | exact Nat.le_of_ble_eq_true rfl | exact (fun h => absurd h.1 (by decide)) | omega)) h (fun m1 F1 T1 => ?_)
  refine zgk_n hE xmo_173 60 [] ?_
  have b109 : m1 109 (4 + v) = m 109 (4 + v) := F1 109 _ (amod_sub (w := tkF) (w' := rnF) (by decide) (amod_r5 (by decide)))
  have e3 : w32 (3 * r) = 3 * w32 r := w32_k (by decide) (by (first | exact Nat.le_of_ble_eq_true rfl | exact (fun h => absurd h.1 (by decide)) | omega)) (by (first | exact Nat.le_of_ble_eq_true rfl | exact (fun h => absurd h.1 (by decide)) | omega))
  have ep : w32 (3 * r + m 109 (4 + v)) = ((12 + (v * 3 + l.length) : Nat) : Int) := by rw [w32_ad (by rw [e3]; (first | exact Nat.le_of_ble_eq_true rfl | exact (fun h => absurd h.1 (by decide)) | omega)) (by rw [e3]; (first | exact Nat.le_of_ble_eq_true rfl | exact (fun h => absurd h.1 (by decide)) | omega)), e3]; (first | exact Nat.le_of_ble_eq_true rfl | exact (fun h => absurd h.1 (by decide)) | omega)
  have ei : w32 (m 109 (4 + v) + 1) = ((l.length + 1 : Nat) : Int) := by rw [w32_ad (by rw [w32c_1]; (first | exact Nat.le_of_ble_eq_true rfl | exact (fun h => absurd h.1 (by decide)) | omega)) (by rw [w32c_1]; (first | exact Nat.le_of_ble_eq_true rfl | exact (fun h => absurd h.1 (by decide)) | omega)), w32c_1]; (first | exact Nat.le_of_ble_eq_true rfl | exact (fun h => absurd h.1 (by decide)) | omega)
  simp only [ynok_30, ynok_31, w32c_0, w32c_1, w32c_2, w32c_3, w32c_4, w32c_5, w32c_6, w32c_7, w32c_8, w32c_9, w32c_10, w32c_11, w32c_12, w32c_13, w32c_14, w32c_m1, w32c_m2, w32c_118, Int.reduceAdd, Int.reduceSub, Int.reduceMul, yput_s, yput_n, znl_n, znl_0, znl_1, znl_4, ysum_n, ysum_0, ysum_1, ysum_4, true_and, and_true, Nat.reduceAdd, Nat.reduceLeDiff, true_implies, eq_self, true_or, or_true, or_false, false_or, not_true_eq_false, not_false_eq_true, false_implies, implies_true, yset_s, yset_o, yset_d, ne_eq, Nat.reduceEqDiff, Int.reduceToNat, Int.reduceEq, Int.reduceLE, Int.reduceLT, Classical.not_not, Nat.reduceLT, ↓zvk_s, ↓zvk_n, ↓s_248_0, ↓s_248_1, ↓s_248_4, ↓s_248_5, ↓s_248_6, ↓s_248_7, ↓s_248_10, ↓s_248_11, ↓s_248_12, ↓s_248_13, ↓s_248_16, ↓s_248_19, ↓s_248_20, ↓s_248_21, ↓s_248_24, ↓s_248_25, ↓s_248_26, ↓s_248_27, ↓s_248_28, ↓s_248_31, ↓s_248_34, ↓s_248_35, ↓s_248_37, ↓s_248_40, ↓s_248_43, ↓s_248_44, ↓s_248_45, ↓g_248_48, ↓k_248_48, ↓s_248_49, ↓s_248_51, ↓s_248_54, ↓s_248_57, ↓s_248_58, ↓s_248_61, ↓s_248_62, ↓s_248_63, ↓s_248_64, ↓s_248_67, ↓s_248_68, ↓s_248_69, ↓s_248_72, ↓s_248_73, ↓s_248_76, ↓s_248_79, ↓s_248_80, ↓s_248_81, ↓s_248_84, ↓s_248_85, ↓s_248_86, ↓s_248_87, ↓s_248_88, ↓s_248_89, ↓s_248_92, ↓s_248_93, ↓s_248_94, ↓s_248_95, ↓s_248_98, ↓s_248_99, ↓s_248_102, ↓s_248_103, ↓s_248_104, ↓s_248_105, ↓s_248_106, ↓s_248_107, ↓s_248_108, ↓s_248_111, ↓s_248_112, ↓s_248_113, ↓s_248_114, ↓s_248_115, ↓s_248_118, ↓s_248_119, ↓s_248_120, ↓s_248_123, ↓s_173_0, ↓s_173_1, ↓s_173_4, ↓s_173_7, ↓s_173_8, ↓s_173_11, zar_108, zia_108, zln_108, zit_108, zar_109, zia_109, zln_109, zit_109, zio_95]
  rw [hrt, b109]
  refine ⟨⟨by (first | exact Nat.le_of_ble_eq_true rfl | exact (fun h => absurd h.1 (by decide)) | omega), by (first | exact Nat.le_of_ble_eq_true rfl | exact (fun h => absurd h.1 (by decide)) | omega)⟩, ?_⟩
  refine rf_partLine hE (by (first | exact Nat.le_of_ble_eq_true rfl | exact (fun h => absurd h.1 (by decide)) | omega)) (s := v * 3 + l.length) (by (first | exact Nat.le_of_ble_eq_true rfl | exact (fun h => absurd h.1 (by decide)) | omega)) ep (x := yNx (.inr l0)) T1 (fun m2 T2 P2 => ?_)
  rw [← ept] at T2 P2
  refine zgk_n hE xmo_248 60 zc_248 ?_
  simp only [ynok_30, ynok_31, w32c_0, w32c_1, w32c_2, w32c_3, w32c_4, w32c_5, w32c_6, w32c_7, w32c_8, w32c_9, w32c_10, w32c_11, w32c_12, w32c_13, w32c_14, w32c_m1, w32c_m2, w32c_118, Int.reduceAdd, Int.reduceSub, Int.reduceMul, yput_s, yput_n, znl_n, znl_0, znl_1, znl_4, ysum_n, ysum_0, ysum_1, ysum_4, true_and, and_true, Nat.reduceAdd, Nat.reduceLeDiff, true_implies, eq_self, true_or, or_true, or_false, false_or, not_true_eq_false, not_false_eq_true, false_implies, implies_true, yset_s, yset_o, yset_d, ne_eq, Nat.reduceEqDiff, Int.reduceToNat, Int.reduceEq, Int.reduceLE, Int.reduceLT, Classical.not_not, Nat.reduceLT, ↓zvk_s, ↓zvk_n, ↓s_248_0, ↓s_248_1, ↓s_248_4, ↓s_248_5, ↓s_248_6, ↓s_248_7, ↓s_248_10, ↓s_248_11, ↓s_248_12, ↓s_248_13, ↓s_248_16, ↓s_248_19, ↓s_248_20, ↓s_248_21, ↓s_248_24, ↓s_248_25, ↓s_248_26, ↓s_248_27, ↓s_248_28, ↓s_248_31, ↓s_248_34, ↓s_248_35, ↓s_248_37, ↓s_248_40, ↓s_248_43, ↓s_248_44, ↓s_248_45, ↓g_248_48, ↓k_248_48, ↓s_248_49, ↓s_248_51, ↓s_248_54, ↓s_248_57, ↓s_248_58, ↓s_248_61, ↓s_248_62, ↓s_248_63, ↓s_248_64, ↓s_248_67, ↓s_248_68, ↓s_248_69, ↓s_248_72, ↓s_248_73, ↓s_248_76, ↓s_248_79, ↓s_248_80, ↓s_248_81, ↓s_248_84, ↓s_248_85, ↓s_248_86, ↓s_248_87, ↓s_248_88, ↓s_248_89, ↓s_248_92, ↓s_248_93, ↓s_248_94, ↓s_248_95, ↓s_248_98, ↓s_248_99, ↓s_248_102, ↓s_248_103, ↓s_248_104, ↓s_248_105, ↓s_248_106, ↓s_248_107, ↓s_248_108, ↓s_248_111, ↓s_248_112, ↓s_248_113, ↓s_248_114, ↓s_248_115, ↓s_248_118, ↓s_248_119, ↓s_248_120, ↓s_248_123, zar_108, zia_108, zln_108, zit_108, zar_109, zia_109, zln_109, zit_109, zio_95]
  have c109 : m2 109 (4 + v) = m 109 (4 + v) := by rw [P2.1 109 _ (by unfold rpF; (first | exact Nat.le_of_ble_eq_true rfl | exact (fun h => absurd h.1 (by decide)) | omega))]; exact b109
  rw [hrt, c109]
  refine ⟨⟨by (first | exact Nat.le_of_ble_eq_true rfl | exact (fun h => absurd h.1 (by decide)) | omega), by (first | exact Nat.le_of_ble_eq_true rfl | exact (fun h => absurd h.1 (by decide)) | omega)⟩, ⟨by (first | exact Nat.le_of_ble_eq_true rfl | exact (fun h => absurd h.1 (by decide)) | omega), by (first | exact Nat.le_of_ble_eq_true rfl | exact (fun h => absurd h.1 (by decide)) | omega)⟩, f _ (rTk_s T2 (by decide)) ⟨fun i j hw => ?_, ?_, fun z => ⟨?_, fun p q hq => ?_⟩⟩⟩
  · have k1 : yset m2 109 (4 + v) (m 109 (4 + v) + 1) i j = m2 i j := by
      rw [yset_a]
      split
      · next e1 => rw [if_neg (fun e2 => hw (Or.inr (Or.inr (Or.inl ⟨e1, e2⟩))))]
      · rfl
    rw [k1, P2.1 i j (fun hp => hw (by unfold rpF at hp; unfold rwF; (first | exact Nat.le_of_ble_eq_true rfl | exact (fun h => absurd h.1 (by decide)) | omega))), F1 i j (amod_sub (w := tkF) (w' := rnF) (by decide) (amod_r (fun z => hw (Or.inr (Or.inr (Or.inr (Or.inr z)))))))]
    exact hS.1 i j hw
  · rw [yset_o (by decide), P2.1 97 9 (by unfold rpF; (first | exact Nat.le_of_ble_eq_true rfl | exact (fun h => absurd h.1 (by decide)) | omega)), F1 97 9 rfl]
    exact hS.2.1
  · rw [yset_s, ei, List.length_append]
    rfl
  · rcases app_get hq with hq | ⟨rfl, rfl⟩
    · have hp := get_lt hq
      obtain ⟨h1, h2, h3⟩ := c2 p q hq
      refine ⟨h1, by rw [yset_o (by decide), P2.1 110 _ (by unfold rpF; (first | exact Nat.le_of_ble_eq_true rfl | exact (fun h => absurd h.1 (by decide)) | omega)), F1 110 _ (amod_sub (w := tkF) (w' := rnF) (by decide) (amod_r5 (by decide)))]; exact h2, fun j w hw => ?_⟩
      have hj := get_lt hw
      rw [yset_o (by decide), P2.1 111 _ (by unfold rpF; (first | exact Nat.le_of_ble_eq_true rfl | exact (fun h => absurd h.1 (by decide)) | omega)), F1 111 _ (amod_sub (w := tkF) (w' := rnF) (by decide) (amod_r5 (by decide)))]
      exact h3 j w hw
    · obtain ⟨g1, g2⟩ := P2.2 z
      exact ⟨pPt_len _, by rw [yset_o (by decide)]; exact g1, fun j w hw => by rw [yset_o (by decide)]; exact g2 j w hw⟩
theorem vl48 (hE : yEok E) (hd : 8 ≤ d) (hb : w32 (b 97 9) = (v : Int)) (hv : v < 4) (hr : w32 r = ((4 + v : Nat) : Int)) : ∀ c (y : sY) (m : yMem) (l : List (List Int)), c + 1 + l.length = 3 → yKd y = 27 → rTk ch n m y → RwS b m v y l → (∀ m', (∀ i j, ¬ rwF v i j → m' i j = b i j) → rTk ch n m' (pPts (c + 1) y).2 → (yOk (pPts (c + 1) y).2 → w32 (m' 97 9) = ((v + 1 : Nat) : Int) ∧ w32 (m' 109 (4 + v)) = ((l ++ (pPts (c + 1) y).1).length : Int) ∧ rPs m' v (l ++ (pPts (c + 1) y).1)) → Q none m') → zG E (d + 1) xm_248 48 [some (1, 95), some (0, r)] [] m Q := by
  intro c
  induction c with
  | zero =>
    intro y m l hc hk h hS fin
    have e1 : pPts (0 + 1) y = ([(pPt y).1], if yKd (pPt y).2 = 27 then yFl 2 (pPt y).2 else (pPt y).2) := rfl
    rw [e1] at fin
    refine vlS hE hd hv hr (by (first | exact Nat.le_of_ble_eq_true rfl | exact (fun h => absurd h.1 (by decide)) | omega)) hk h hS (fun m' g1 g2 => ?_)
    by_cases hk' : yKd (pPt y).2 = 27
    · rw [if_pos hk'] at fin
      exact vl3 hE hv hr hk' g1 (by rw [(g2.2.2 (yOk_kd (by (first | exact Nat.le_of_ble_eq_true rfl | exact (fun h => absurd h.1 (by decide)) | omega)))).1, List.length_append]; show ((l.length + 1 : Nat) : Int) = 3; (first | exact Nat.le_of_ble_eq_true rfl | exact (fun h => absurd h.1 (by decide)) | omega)) g2.1 (fun m2 k1 k2 => fin m2 k1 k2 (fun z => absurd z yOk_fl))
    · rw [if_neg hk'] at fin
      exact vx48 hE hb hv hk' g1 g2 fin
  | succ c ih =>
    intro y m l hc hk h hS fin
    have e1 : pPts (c + 1 + 1) y = if yKd (pPt y).2 = 27 then ((pPt y).1 :: (pPts (c + 1) (pPt y).2).1, (pPts (c + 1) (pPt y).2).2) else ([(pPt y).1], (pPt y).2) := rfl
    rw [e1] at fin
    refine vlS hE hd hv hr (by (first | exact Nat.le_of_ble_eq_true rfl | exact (fun h => absurd h.1 (by decide)) | omega)) hk h hS (fun m' g1 g2 => ?_)
    by_cases hk' : yKd (pPt y).2 = 27
    · rw [if_pos hk'] at fin
      refine ih (pPt y).2 m' (l ++ [(pPt y).1]) (by rw [List.length_append]; show c + 1 + (l.length + 1) = 3; (first | exact Nat.le_of_ble_eq_true rfl | exact (fun h => absurd h.1 (by decide)) | omega)) hk' g1 g2 (fun m2 k1 k2 k3 => ?_)
      rw [List.append_assoc] at k3
      exact fin m2 k1 k2 k3
    · rw [if_neg hk'] at fin
      exact vx48 hE hb hv hk' g1 g2 fin
/-- THE REFERENCE'S verseLine -/
theorem rf_verseLine (hE : yEok E) {D : Nat} (hD : 11 ≤ D) {nm : List Int} (hl : nm.length < 4) (hr : w32 r = ((4 + nm.length : Nat) : Int)) (hV : rNm mem 108 2 4 nm) (h : rTk ch n mem x) (hQ : ∀ m, (∀ i j, ¬ (rwF nm.length i j ∨ (i = 108 ∧ j = 4 + nm.length)) → m i j = mem i j) → rTk ch n m (pPts 3 (yFr nm x)).2 → (yOk (pPts 3 (yFr nm x)).2 → w32 (m 97 9) = ((nm.length + 1 : Nat) : Int) ∧ w32 (m 108 (4 + nm.length)) = yVl x ∧ w32 (m 109 (4 + nm.length)) = ((pPts 3 (yFr nm x)).1.length : Int) ∧ rPs m nm.length (pPts 3 (yFr nm x)).1) → Q none m) : yCon E D xm_248 [(1, 95), (0, r)] mem Q := by
  obtain ⟨d, rfl⟩ := Nat.exists_eq_add_of_le' hD
  have hrt : (w32 r).toNat = 4 + nm.length := by rw [hr]; exact Int.toNat_natCast _
  refine e_248 ?_
  refine zvc_ok hE 60 zc_248 _ _ _ _ _ _ _ xmo_248 ?_
  simp only [ynok_30, ynok_31, w32c_0, w32c_1, w32c_2, w32c_3, w32c_4, w32c_5, w32c_6, w32c_7, w32c_8, w32c_9, w32c_10, w32c_11, w32c_12, w32c_13, w32c_14, w32c_m1, w32c_m2, w32c_118, Int.reduceAdd, Int.reduceSub, Int.reduceMul, yput_s, yput_n, znl_n, znl_0, znl_1, znl_4, ysum_n, ysum_0, ysum_1, ysum_4, true_and, and_true, Nat.reduceAdd, Nat.reduceLeDiff, true_implies, eq_self, true_or, or_true, or_false, false_or, not_true_eq_false, not_false_eq_true, false_implies, implies_true, yset_s, yset_o, yset_d, ne_eq, Nat.reduceEqDiff, Int.reduceToNat, Int.reduceEq, Int.reduceLE, Int.reduceLT, Classical.not_not, Nat.reduceLT, ↓zvk_s, ↓zvk_n, ↓s_248_0, ↓s_248_1, ↓s_248_4, ↓s_248_5, ↓s_248_6, ↓s_248_7, ↓s_248_10, ↓s_248_11, ↓s_248_12, ↓s_248_13, ↓s_248_16, ↓s_248_19, ↓s_248_20, ↓s_248_21, ↓s_248_24, ↓s_248_25, ↓s_248_26, ↓s_248_27, ↓s_248_28, ↓s_248_31, ↓s_248_34, ↓s_248_35, ↓s_248_37, ↓s_248_40, ↓s_248_43, ↓s_248_44, ↓s_248_45, ↓g_248_48, ↓k_248_48, ↓s_248_49, ↓s_248_51, ↓s_248_54, ↓s_248_57, ↓s_248_58, ↓s_248_61, ↓s_248_62, ↓s_248_63, ↓s_248_64, ↓s_248_67, ↓s_248_68, ↓s_248_69, ↓s_248_72, ↓s_248_73, ↓s_248_76, ↓s_248_79, ↓s_248_80, ↓s_248_81, ↓s_248_84, ↓s_248_85, ↓s_248_86, ↓s_248_87, ↓s_248_88, ↓s_248_89, ↓s_248_92, ↓s_248_93, ↓s_248_94, ↓s_248_95, ↓s_248_98, ↓s_248_99, ↓s_248_102, ↓s_248_103, ↓s_248_104, ↓s_248_105, ↓s_248_106, ↓s_248_107, ↓s_248_108, ↓s_248_111, ↓s_248_112, ↓s_248_113, ↓s_248_114, ↓s_248_115, ↓s_248_118, ↓s_248_119, ↓s_248_120, ↓s_248_123, ↓s_170_0, ↓s_170_1, ↓s_170_4, ↓s_170_6, ↓s_170_7, ↓s_170_8, ↓s_170_9, zar_97, zia_97, zln_97, zit_97, zar_108, zia_108, zln_108, zit_108, zar_109, zia_109, zln_109, zit_109, zio_95]
  refine ⟨by (first | exact Nat.le_of_ble_eq_true rfl | exact (fun h => absurd h.1 (by decide)) | omega), ?_⟩
  refine rf_fresh hE (by (first | exact Nat.le_of_ble_eq_true rfl | exact (fun h => absurd h.1 (by decide)) | omega)) (z := 108) (L := 8) (q := 2) (off := 4) zar_108 w32c_4 hV.1 (by decide) (by decide) hV h (fun r1 m1 F1 T1 e1 => ?_)
  refine zgk_s hE xmo_248 60 zc_248 ?_
  have b9 : w32 (yset (yset m1 108 (4 + nm.length) r1) 109 (4 + nm.length) 0 97 9) = (nm.length : Int) := by rw [yset_o (by decide), yset_o (by decide), F1 97 9 rfl]; exact hV.1
  have e28 : yset (yset m1 108 (4 + nm.length) r1) 109 (4 + nm.length) 0 95 28 = m1 95 28 := by rw [yset_o (by decide), yset_o (by decide)]
  have T2 : rTk ch n (yset (yset m1 108 (4 + nm.length) r1) 109 (4 + nm.length) 0) (yFr nm x) := rTk_s (rTk_s T1 (by decide)) (by decide)
  have fr : ∀ m : yMem, (∀ i j, ¬ rwF nm.length i j → m i j = yset (yset m1 108 (4 + nm.length) r1) 109 (4 + nm.length) 0 i j) → ∀ i j, ¬ (rwF nm.length i j ∨ (i = 108 ∧ j = 4 + nm.length)) → m i j = mem i j := fun m hm i j hij => by
    rw [hm i j (fun z => hij (Or.inl z))]
    have q1 : ¬ (i = 109 ∧ j = 4 + nm.length) := fun z => hij (Or.inl (Or.inr (Or.inr (Or.inl z))))
    have q2 : ¬ (i = 108 ∧ j = 4 + nm.length) := fun z => hij (Or.inr z)
    have q3 : ¬ (i = 95 ∧ 27 ≤ j ∧ j ≤ 32) := fun z => hij (Or.inl (Or.inr (Or.inr (Or.inr (Or.inr z)))))
    rw [yset_n2 q1, yset_n2 q2]
    exact F1 i j (amod_r q3)
  have nam : ∀ m : yMem, yOk (yFr nm x) → (∀ i j, ¬ rwF nm.length i j → m i j = yset (yset m1 108 (4 + nm.length) r1) 109 (4 + nm.length) 0 i j) → w32 (m 108 (4 + nm.length)) = yVl x := fun m hy hm => by
    rw [hm 108 _ (by unfold rwF; (first | exact Nat.le_of_ble_eq_true rfl | exact (fun h => absurd h.1 (by decide)) | omega)), yset_o (by decide), yset_s]
    obtain ⟨l, hl⟩ := hy
    exact e1 l hl
  have S2 : ∀ m : yMem, (∀ i j, ¬ (i = 95 ∧ 27 ≤ j ∧ j ≤ 32) → m i j = yset (yset m1 108 (4 + nm.length) r1) 109 (4 + nm.length) 0 i j) → ∀ y, RwS (yset (yset m1 108 (4 + nm.length) r1) 109 (4 + nm.length) 0) m nm.length y [] := fun m hm y => ⟨fun i j hw => hm i j (fun z => hw (Or.inr (Or.inr (Or.inr (Or.inr z))))), hm 97 9 (by (first | exact Nat.le_of_ble_eq_true rfl | exact (fun h => absurd h.1 (by decide)) | omega)), fun _ => ⟨by rw [hm 109 _ (by (first | exact Nat.le_of_ble_eq_true rfl | exact (fun h => absurd h.1 (by decide)) | omega)), yset_s]; exact w32c_0, fun p q hq => by cases hq⟩⟩
  revert T1 T2 hQ nam
  generalize yFr nm x = y
  intro hQ T1 T2 nam
  by_cases hk : yKd y = 27
  · obtain ⟨q1, q2, q3⟩ := (rf_isw T1 (k0 := 27) (by decide) (by decide)).mpr hk
    have q3 : w32 (m1 95 30) = 7 := q3
    simp only [ynok_30, ynok_31, w32c_0, w32c_1, w32c_2, w32c_3, w32c_4, w32c_5, w32c_6, w32c_7, w32c_8, w32c_9, w32c_10, w32c_11, w32c_12, w32c_13, w32c_14, w32c_m1, w32c_m2, w32c_118, Int.reduceAdd, Int.reduceSub, Int.reduceMul, yput_s, yput_n, znl_n, znl_0, znl_1, znl_4, ysum_n, ysum_0, ysum_1, ysum_4, true_and, and_true, Nat.reduceAdd, Nat.reduceLeDiff, true_implies, eq_self, true_or, or_true, or_false, false_or, not_true_eq_false, not_false_eq_true, false_implies, implies_true, yset_s, yset_o, yset_d, ne_eq, Nat.reduceEqDiff, Int.reduceToNat, Int.reduceEq, Int.reduceLE, Int.reduceLT, Classical.not_not, Nat.reduceLT, ↓zvk_s, ↓zvk_n, ↓s_248_0, ↓s_248_1, ↓s_248_4, ↓s_248_5, ↓s_248_6, ↓s_248_7, ↓s_248_10, ↓s_248_11, ↓s_248_12, ↓s_248_13, ↓s_248_16, ↓s_248_19, ↓s_248_20, ↓s_248_21, ↓s_248_24, ↓s_248_25, ↓s_248_26, ↓s_248_27, ↓s_248_28, ↓s_248_31, ↓s_248_34, ↓s_248_35, ↓s_248_37, ↓s_248_40, ↓s_248_43, ↓s_248_44, ↓s_248_45, ↓g_248_48, ↓k_248_48, ↓s_248_49, ↓s_248_51, ↓s_248_54, ↓s_248_57, ↓s_248_58, ↓s_248_61, ↓s_248_62, ↓s_248_63, ↓s_248_64, ↓s_248_67, ↓s_248_68, ↓s_248_69, ↓s_248_72, ↓s_248_73, ↓s_248_76, ↓s_248_79, ↓s_248_80, ↓s_248_81, ↓s_248_84, ↓s_248_85, ↓s_248_86, ↓s_248_87, ↓s_248_88, ↓s_248_89, ↓s_248_92, ↓s_248_93, ↓s_248_94, ↓s_248_95, ↓s_248_98, ↓s_248_99, ↓s_248_102, ↓s_248_103, ↓s_248_104, ↓s_248_105, ↓s_248_106, ↓s_248_107, ↓s_248_108, ↓s_248_111, ↓s_248_112, ↓s_248_113, ↓s_248_114, ↓s_248_115, ↓s_248_118, ↓s_248_119, ↓s_248_120, ↓s_248_123, ↓s_254_0, ↓s_254_1, ↓s_254_4, ↓s_254_7, ↓s_254_8, ↓s_254_9, ↓s_254_10, ↓s_254_13, ↓s_254_14, ↓s_254_15, ↓s_254_18, ↓s_254_21, ↓s_198_0, ↓s_198_1, ↓s_198_4, ↓s_198_7, ↓s_198_8, ↓s_198_11, ↓s_198_14, ↓s_198_15, ↓s_198_18, ↓s_198_19, ↓s_198_22, ↓s_198_23, ↓s_198_26, ↓s_198_27, zar_108, zia_108, zln_108, zit_108, zar_109, zia_109, zln_109, zit_109, zio_95, q1, q2, q3]
    rw [hrt]
    refine ⟨⟨by (first | exact Nat.le_of_ble_eq_true rfl | exact (fun h => absurd h.1 (by decide)) | omega), by (first | exact Nat.le_of_ble_eq_true rfl | exact (fun h => absurd h.1 (by decide)) | omega)⟩, ⟨by (first | exact Nat.le_of_ble_eq_true rfl | exact (fun h => absurd h.1 (by decide)) | omega), by (first | exact Nat.le_of_ble_eq_true rfl | exact (fun h => absurd h.1 (by decide)) | omega)⟩, ?_⟩
    exact vl48 hE (by (first | exact Nat.le_of_ble_eq_true rfl | exact (fun h => absurd h.1 (by decide)) | omega)) b9 hl hr 2 y _ [] rfl hk T2 (S2 _ (fun _ _ _ => rfl) y) (fun m' g1 g2 g3 => hQ m' (fr m' g1) g2 (fun z => ⟨(g3 z).1, nam m' (yOk_kd (by (first | exact Nat.le_of_ble_eq_true rfl | exact (fun h => absurd h.1 (by decide)) | omega))) g1, (g3 z).2⟩))
  · have epp := pPts_no hk 2
    have hno : ¬ yOk (pPts 3 y).2 := by
      show ¬ yOk (pPts (2 + 1) y).2
      rw [epp]
      exact yOk_fl
    cases y with
    | inl e =>
      have hf := rTk_f T1
      simp only [ynok_30, ynok_31, w32c_0, w32c_1, w32c_2, w32c_3, w32c_4, w32c_5, w32c_6, w32c_7, w32c_8, w32c_9, w32c_10, w32c_11, w32c_12, w32c_13, w32c_14, w32c_m1, w32c_m2, w32c_118, Int.reduceAdd, Int.reduceSub, Int.reduceMul, yput_s, yput_n, znl_n, znl_0, znl_1, znl_4, ysum_n, ysum_0, ysum_1, ysum_4, true_and, and_true, Nat.reduceAdd, Nat.reduceLeDiff, true_implies, eq_self, true_or, or_true, or_false, false_or, not_true_eq_false, not_false_eq_true, false_implies, implies_true, yset_s, yset_o, yset_d, ne_eq, Nat.reduceEqDiff, Int.reduceToNat, Int.reduceEq, Int.reduceLE, Int.reduceLT, Classical.not_not, Nat.reduceLT, ↓zvk_s, ↓zvk_n, ↓s_248_0, ↓s_248_1, ↓s_248_4, ↓s_248_5, ↓s_248_6, ↓s_248_7, ↓s_248_10, ↓s_248_11, ↓s_248_12, ↓s_248_13, ↓s_248_16, ↓s_248_19, ↓s_248_20, ↓s_248_21, ↓s_248_24, ↓s_248_25, ↓s_248_26, ↓s_248_27, ↓s_248_28, ↓s_248_31, ↓s_248_34, ↓s_248_35, ↓s_248_37, ↓s_248_40, ↓s_248_43, ↓s_248_44, ↓s_248_45, ↓g_248_48, ↓k_248_48, ↓s_248_49, ↓s_248_51, ↓s_248_54, ↓s_248_57, ↓s_248_58, ↓s_248_61, ↓s_248_62, ↓s_248_63, ↓s_248_64, ↓s_248_67, ↓s_248_68, ↓s_248_69, ↓s_248_72, ↓s_248_73, ↓s_248_76, ↓s_248_79, ↓s_248_80, ↓s_248_81, ↓s_248_84, ↓s_248_85, ↓s_248_86, ↓s_248_87, ↓s_248_88, ↓s_248_89, ↓s_248_92, ↓s_248_93, ↓s_248_94, ↓s_248_95, ↓s_248_98, ↓s_248_99, ↓s_248_102, ↓s_248_103, ↓s_248_104, ↓s_248_105, ↓s_248_106, ↓s_248_107, ↓s_248_108, ↓s_248_111, ↓s_248_112, ↓s_248_113, ↓s_248_114, ↓s_248_115, ↓s_248_118, ↓s_248_119, ↓s_248_120, ↓s_248_123, ↓s_254_0, ↓s_254_1, ↓s_254_4, ↓s_254_7, ↓s_254_8, ↓s_254_9, ↓s_254_10, ↓s_254_13, ↓s_254_14, ↓s_254_15, ↓s_254_18, ↓s_254_21, ↓s_198_0, ↓s_198_1, ↓s_198_4, ↓s_198_7, ↓s_198_8, ↓s_198_11, ↓s_198_14, ↓s_198_15, ↓s_198_18, ↓s_198_19, ↓s_198_22, ↓s_198_23, ↓s_198_26, ↓s_198_27, zar_108, zia_108, zln_108, zit_108, zar_109, zia_109, zln_109, zit_109, zio_95, hf]
      rw [hrt]
      refine ⟨⟨by (first | exact Nat.le_of_ble_eq_true rfl | exact (fun h => absurd h.1 (by decide)) | omega), by (first | exact Nat.le_of_ble_eq_true rfl | exact (fun h => absurd h.1 (by decide)) | omega)⟩, ⟨by (first | exact Nat.le_of_ble_eq_true rfl | exact (fun h => absurd h.1 (by decide)) | omega), by (first | exact Nat.le_of_ble_eq_true rfl | exact (fun h => absurd h.1 (by decide)) | omega)⟩, ?_⟩
      exact vx48 hE b9 hl hk T2 (S2 _ (fun _ _ _ => rfl) _) (fun m' g1 g2 g3 => hQ m' (fr m' g1) (by show rTk ch n m' (pPts (2 + 1) (.inl e)).2; rw [epp]; exact g2) (fun z => absurd z hno))
    | inr l1 =>
      have q1 := rTk_0 T1
      have gw : zG E (d + 10) xm_248 48 [some (1, 95), some (0, r)] [] (yset (yset (yset (yset m1 108 (4 + nm.length) r1) 109 (4 + nm.length) 0) 95 31 1) 95 32 (m1 95 28)) Q := by
        rw [← e28]
        obtain ⟨G1, G2⟩ := rf_wr (f := 1) (F := 1) T2 (by decide) (by decide)
        exact vx48 hE b9 hl (y := yFl 1 (.inr l1)) (show ¬ yKd (yFl 1 (.inr l1)) = 27 from (by decide : ¬ (0 : Nat) = 27)) G2 (S2 _ (fun i j z => G1 i j (amod_r z)) _) (fun m' g1 g2 g3 => hQ m' (fr m' g1) (by show rTk ch n m' (pPts (2 + 1) (.inr l1)).2; rw [epp]; exact g2) (fun z => absurd z hno))
      by_cases q2 : w32 (m1 95 29) = 0
      · have q3 : ¬ w32 (m1 95 30) = 7 := fun z => hk ((rf_isw T1 (k0 := 27) (by decide) (by decide)).mp ⟨q1, q2, z⟩)
        simp only [ynok_30, ynok_31, w32c_0, w32c_1, w32c_2, w32c_3, w32c_4, w32c_5, w32c_6, w32c_7, w32c_8, w32c_9, w32c_10, w32c_11, w32c_12, w32c_13, w32c_14, w32c_m1, w32c_m2, w32c_118, Int.reduceAdd, Int.reduceSub, Int.reduceMul, yput_s, yput_n, znl_n, znl_0, znl_1, znl_4, ysum_n, ysum_0, ysum_1, ysum_4, true_and, and_true, Nat.reduceAdd, Nat.reduceLeDiff, true_implies, eq_self, true_or, or_true, or_false, false_or, not_true_eq_false, not_false_eq_true, false_implies, implies_true, yset_s, yset_o, yset_d, ne_eq, Nat.reduceEqDiff, Int.reduceToNat, Int.reduceEq, Int.reduceLE, Int.reduceLT, Classical.not_not, Nat.reduceLT, ↓zvk_s, ↓zvk_n, ↓s_248_0, ↓s_248_1, ↓s_248_4, ↓s_248_5, ↓s_248_6, ↓s_248_7, ↓s_248_10, ↓s_248_11, ↓s_248_12, ↓s_248_13, ↓s_248_16, ↓s_248_19, ↓s_248_20, ↓s_248_21, ↓s_248_24, ↓s_248_25, ↓s_248_26, ↓s_248_27, ↓s_248_28, ↓s_248_31, ↓s_248_34, ↓s_248_35, ↓s_248_37, ↓s_248_40, ↓s_248_43, ↓s_248_44, ↓s_248_45, ↓g_248_48, ↓k_248_48, ↓s_248_49, ↓s_248_51, ↓s_248_54, ↓s_248_57, ↓s_248_58, ↓s_248_61, ↓s_248_62, ↓s_248_63, ↓s_248_64, ↓s_248_67, ↓s_248_68, ↓s_248_69, ↓s_248_72, ↓s_248_73, ↓s_248_76, ↓s_248_79, ↓s_248_80, ↓s_248_81, ↓s_248_84, ↓s_248_85, ↓s_248_86, ↓s_248_87, ↓s_248_88, ↓s_248_89, ↓s_248_92, ↓s_248_93, ↓s_248_94, ↓s_248_95, ↓s_248_98, ↓s_248_99, ↓s_248_102, ↓s_248_103, ↓s_248_104, ↓s_248_105, ↓s_248_106, ↓s_248_107, ↓s_248_108, ↓s_248_111, ↓s_248_112, ↓s_248_113, ↓s_248_114, ↓s_248_115, ↓s_248_118, ↓s_248_119, ↓s_248_120, ↓s_248_123, ↓s_254_0, ↓s_254_1, ↓s_254_4, ↓s_254_7, ↓s_254_8, ↓s_254_9, ↓s_254_10, ↓s_254_13, ↓s_254_14, ↓s_254_15, ↓s_254_18, ↓s_254_21, ↓s_198_0, ↓s_198_1, ↓s_198_4, ↓s_198_7, ↓s_198_8, ↓s_198_11, ↓s_198_14, ↓s_198_15, ↓s_198_18, ↓s_198_19, ↓s_198_22, ↓s_198_23, ↓s_198_26, ↓s_198_27, zar_108, zia_108, zln_108, zit_108, zar_109, zia_109, zln_109, zit_109, zio_95, q1, q2, q3]
        rw [hrt]
        exact ⟨⟨by (first | exact Nat.le_of_ble_eq_true rfl | exact (fun h => absurd h.1 (by decide)) | omega), by (first | exact Nat.le_of_ble_eq_true rfl | exact (fun h => absurd h.1 (by decide)) | omega)⟩, ⟨by (first | exact Nat.le_of_ble_eq_true rfl | exact (fun h => absurd h.1 (by decide)) | omega), by (first | exact Nat.le_of_ble_eq_true rfl | exact (fun h => absurd h.1 (by decide)) | omega)⟩, gw⟩
      · simp only [ynok_30, ynok_31, w32c_0, w32c_1, w32c_2, w32c_3, w32c_4, w32c_5, w32c_6, w32c_7, w32c_8, w32c_9, w32c_10, w32c_11, w32c_12, w32c_13, w32c_14, w32c_m1, w32c_m2, w32c_118, Int.reduceAdd, Int.reduceSub, Int.reduceMul, yput_s, yput_n, znl_n, znl_0, znl_1, znl_4, ysum_n, ysum_0, ysum_1, ysum_4, true_and, and_true, Nat.reduceAdd, Nat.reduceLeDiff, true_implies, eq_self, true_or, or_true, or_false, false_or, not_true_eq_false, not_false_eq_true, false_implies, implies_true, yset_s, yset_o, yset_d, ne_eq, Nat.reduceEqDiff, Int.reduceToNat, Int.reduceEq, Int.reduceLE, Int.reduceLT, Classical.not_not, Nat.reduceLT, ↓zvk_s, ↓zvk_n, ↓s_248_0, ↓s_248_1, ↓s_248_4, ↓s_248_5, ↓s_248_6, ↓s_248_7, ↓s_248_10, ↓s_248_11, ↓s_248_12, ↓s_248_13, ↓s_248_16, ↓s_248_19, ↓s_248_20, ↓s_248_21, ↓s_248_24, ↓s_248_25, ↓s_248_26, ↓s_248_27, ↓s_248_28, ↓s_248_31, ↓s_248_34, ↓s_248_35, ↓s_248_37, ↓s_248_40, ↓s_248_43, ↓s_248_44, ↓s_248_45, ↓g_248_48, ↓k_248_48, ↓s_248_49, ↓s_248_51, ↓s_248_54, ↓s_248_57, ↓s_248_58, ↓s_248_61, ↓s_248_62, ↓s_248_63, ↓s_248_64, ↓s_248_67, ↓s_248_68, ↓s_248_69, ↓s_248_72, ↓s_248_73, ↓s_248_76, ↓s_248_79, ↓s_248_80, ↓s_248_81, ↓s_248_84, ↓s_248_85, ↓s_248_86, ↓s_248_87, ↓s_248_88, ↓s_248_89, ↓s_248_92, ↓s_248_93, ↓s_248_94, ↓s_248_95, ↓s_248_98, ↓s_248_99, ↓s_248_102, ↓s_248_103, ↓s_248_104, ↓s_248_105, ↓s_248_106, ↓s_248_107, ↓s_248_108, ↓s_248_111, ↓s_248_112, ↓s_248_113, ↓s_248_114, ↓s_248_115, ↓s_248_118, ↓s_248_119, ↓s_248_120, ↓s_248_123, ↓s_254_0, ↓s_254_1, ↓s_254_4, ↓s_254_7, ↓s_254_8, ↓s_254_9, ↓s_254_10, ↓s_254_13, ↓s_254_14, ↓s_254_15, ↓s_254_18, ↓s_254_21, ↓s_198_0, ↓s_198_1, ↓s_198_4, ↓s_198_7, ↓s_198_8, ↓s_198_11, ↓s_198_14, ↓s_198_15, ↓s_198_18, ↓s_198_19, ↓s_198_22, ↓s_198_23, ↓s_198_26, ↓s_198_27, zar_108, zia_108, zln_108, zit_108, zar_109, zia_109, zln_109, zit_109, zio_95, q1, q2]
        rw [hrt]
        exact ⟨⟨by (first | exact Nat.le_of_ble_eq_true rfl | exact (fun h => absurd h.1 (by decide)) | omega), by (first | exact Nat.le_of_ble_eq_true rfl | exact (fun h => absurd h.1 (by decide)) | omega)⟩, ⟨by (first | exact Nat.le_of_ble_eq_true rfl | exact (fun h => absurd h.1 (by decide)) | omega), by (first | exact Nat.le_of_ble_eq_true rfl | exact (fun h => absurd h.1 (by decide)) | omega)⟩, gw⟩
end RG
end
section
/-! rd, as a relation: some fuel is enough -/
def rGd (x : sX) : Prop := ∀ e, x = .inl e → e.1 ≠ 0
theorem rGd_r {u : sU} : rGd (.inr u) := fun e h => by cases h
theorem rGd_l {e : Nat × Nat} (h : e.1 ≠ 0) : rGd (.inl e) := fun e' h' => by cases h'; exact h
theorem sBd_m {a a' : sX} {g g' : sU → sX} {x : sX} (hx : rGd x) (h1 : ∀ y, rGd y → a = y → a' = y) (h2 : ∀ u, g u = x → g' u = x) (h : sBd a g = x) : sBd a' g' = x := by
  cases a with
  | inl e =>
    have e1 : (.inl e : sX) = x := h
    rw [h1 (.inl e) (by rw [e1]; exact hx) rfl]
    exact e1
  | inr u =>
    rw [h1 (.inr u) rGd_r rfl]
    exact h2 u h
theorem sBd_r {a : sX} {g : sU → sX} {z : sU} (h : sBd a g = .inr z) : ∃ y, a = .inr y ∧ g y = .inr z := by
  cases a with
  | inl e => cases h
  | inr y => exact ⟨y, rfl, h⟩
theorem sKn_r {p : Nat} {u : sU} {g : sU → sX} {z : sU} (h : sKn p u g = .inr z) : u.2.1 ≠ 64 ∧ g (u.1, u.2.1 + 1, u.2.2) = .inr z := by
  unfold sKn at h
  by_cases hc : u.2.1 = 64
  · rw [if_pos hc] at h; cases h
  · rw [if_neg hc] at h; exact ⟨hc, h⟩
abbrev rSq (k k1 k2 : Nat) : Prop := ∀ f u, rd (f + 1) k u = sBd (rd f k1 u) (rd f k2)
abbrev rLp (k k1 b : Nat) : Prop := ∀ f u, rd (f + 1) k u = if sLv (sHd u.1).1 = b then sKn (sHd u.1).2.1 u (fun v => sBd (rd f k1 (v.1.tail, v.2)) (fun z => rd f k (z.1, z.2.1, z.2.2.1, ((sHd u.1).1, 0) :: z.2.2.2))) else .inr u
theorem rSq_1 : rSq 1 0 2 := fun f u => by simp only [rd]
theorem rSq_3 : rSq 3 1 4 := fun f u => by simp only [rd]
theorem rSq_6 : rSq 6 5 7 := fun f u => by simp only [rd]
theorem rSq_8 : rSq 8 6 9 := fun f u => by simp only [rd]
theorem rLp_2 : rLp 2 0 6 := fun f u => by simp only [rd]
theorem rLp_4 : rLp 4 1 5 := fun f u => by simp only [rd]
theorem rLp_7 : rLp 7 5 2 := fun f u => by simp only [rd]
theorem rLp_9 : rLp 9 6 1 := fun f u => by simp only [rd]
theorem rd_e0 (f : Nat) (l : List sT) (cn op : Nat) (o : sK) : rd (f + 1) 0 (l, cn, op, o) = (if (sHd l).1 = 5 then (if op = 8 then .inl (2, (sHd l).2.1) else sBd (rd f 8 (l.tail, cn, op + 1, o)) (fun u => if (sHd u.1).1 = 6 then .inr (u.1.tail, u.2.1, u.2.2.1 - 1, u.2.2.2) else .inl (1, (sHd u.1).2.1)))
    else if ¬ ((sHd l).1 = 2 ∨ (33 ≤ (sHd l).1 ∧ (sHd l).1 ≤ 39)) then .inl (1, (sHd l).2.1)
    else if (sHd l).1 = 2 ∧ 9999 < (sHd l).2.2 then .inl (2, (sHd l).2.1)
    else sKn (sHd l).2.1 (l, cn, op, o) (fun u => .inr (u.1.tail, u.2.1, u.2.2.1, ((sHd l).1, if (sHd l).1 = 2 then (sHd l).2.2 else 0) :: u.2.2.2))) := by simp only [rd]
theorem rd_e5 (f : Nat) (u : sU) : rd (f + 1) 5 u = (if (sHd u.1).1 = 32 then sKn (sHd u.1).2.1 u (fun v => sBd (rd f 5 (v.1.tail, v.2)) (fun z => .inr (z.1, z.2.1, z.2.2.1, (32, 0) :: z.2.2.2)))
    else sBd (rd f 3 u) (fun y => if sLv (sHd y.1).1 = 4 then sKn (sHd y.1).2.1 y (fun v => sBd (rd f 3 (v.1.tail, v.2)) (fun z => .inr (z.1, z.2.1, z.2.2.1, ((sHd y.1).1, 0) :: z.2.2.2))) else .inr y)) := by simp only [rd]
theorem rd_z (k : Nat) (u : sU) : rd 0 k u = .inl (0, 0) := by simp only [rd]
theorem rd_mono : ∀ (f k : Nat), k ≤ 9 → ∀ (u : sU) (x : sX), rGd x → rd f k u = x → rd (f + 1) k u = x := by
  intro f
  induction f with
  | zero =>
    intro k _ u x hx h
    rw [rd_z] at h
    exact absurd rfl (hx (0, 0) h.symm)
  | succ f ih =>
    intro k hk u x hx h
    have hlp : ∀ k k1 b, rLp k k1 b → k ≤ 9 → k1 ≤ 9 → rd (f + 1) k u = x → rd (f + 1 + 1) k u = x := fun k k1 b hL q1 q2 h => by
      rw [hL] at h ⊢
      by_cases hl : sLv (sHd u.1).1 = b
      · rw [if_pos hl] at h ⊢
        exact sKn_m (fun v hv => sBd_m hx (fun y hy e => ih k1 q2 _ y hy e) (fun z e => ih k q1 _ x hx e) hv) h
      · rw [if_neg hl] at h ⊢
        exact h
    have hsq : ∀ k k1 k2, rSq k k1 k2 → k1 ≤ 9 → k2 ≤ 9 → rd (f + 1) k u = x → rd (f + 1 + 1) k u = x := fun k k1 k2 hL q1 q2 h => by
      rw [hL] at h ⊢
      exact sBd_m hx (fun y hy e => ih k1 q1 _ y hy e) (fun z e => ih k2 q2 _ x hx e) h
    match k, hk, h with
    | 0, _, h =>
      obtain ⟨l, cn, op, o⟩ := u
      rw [rd_e0] at h ⊢
      by_cases h5 : (sHd l).1 = 5
      · rw [if_pos h5] at h ⊢
        by_cases h8 : op = 8
        · rw [if_pos h8] at h ⊢; exact h
        · rw [if_neg h8] at h ⊢
          exact sBd_m hx (fun y hy e => ih 8 (by decide) _ y hy e) (fun z e => e) h
      · rw [if_neg h5] at h ⊢
        exact h
    | 1, _, h => exact hsq 1 0 2 rSq_1 (by decide) (by decide) h
    | 2, _, h => exact hlp 2 0 6 rLp_2 (by decide) (by decide) h
    | 3, _, h => exact hsq 3 1 4 rSq_3 (by decide) (by decide) h
    | 4, _, h => exact hlp 4 1 5 rLp_4 (by decide) (by decide) h
    | 5, _, h =>
      rw [rd_e5] at h ⊢
      by_cases h3 : (sHd u.1).1 = 32
      · rw [if_pos h3] at h ⊢
        exact sKn_m (fun v hv => sBd_m hx (fun y hy e => ih 5 (by decide) _ y hy e) (fun z e => e) hv) h
      · rw [if_neg h3] at h ⊢
        refine sBd_m hx (fun y hy e => ih 3 (by decide) _ y hy e) (fun y e => ?_) h
        by_cases h4 : sLv (sHd y.1).1 = 4
        · rw [if_pos h4] at e ⊢
          exact sKn_m (fun v hv => sBd_m hx (fun y hy e => ih 3 (by decide) _ y hy e) (fun z e => e) hv) e
        · rw [if_neg h4] at e ⊢
          exact e
    | 6, _, h => exact hsq 6 5 7 rSq_6 (by decide) (by decide) h
    | 7, _, h => exact hlp 7 5 2 rLp_7 (by decide) (by decide) h
    | 8, _, h => exact hsq 8 6 9 rSq_8 (by decide) (by decide) h
    | 9, _, h => exact hlp 9 6 1 rLp_9 (by decide) (by decide) h
    | k + 10, hk, _ => exact absurd hk (by (first | exact Nat.le_of_ble_eq_true rfl | exact (fun h => absurd h.1 (by decide)) | omega))
theorem rd_add {k : Nat} (hk : k ≤ 9) {u : sU} {x : sX} (hx : rGd x) {f : Nat} (h : rd f k u = x) : ∀ c, rd (f + c) k u = x
  | 0 => h
  | c + 1 => rd_mono (f + c) k hk u x hx (rd_add hk hx h c)
def rX (k : Nat) (u : sU) (x : sX) : Prop := (∃ f, rd f k u = x) ∧ rGd x
theorem rX_sq {k k1 k2 : Nat} (hL : rSq k k1 k2) (q1 : k1 ≤ 9) (q2 : k2 ≤ 9) {u : sU} : (∀ e, rX k1 u (.inl e) → rX k u (.inl e)) ∧ (∀ z x, rX k1 u (.inr z) → rX k2 z x → rX k u x) := by
  refine ⟨fun e h => ?_, fun z x h1 h2 => ?_⟩
  · obtain ⟨⟨f, h⟩, hx⟩ := h
    exact ⟨⟨f + 1, by rw [hL, h]; rfl⟩, hx⟩
  · obtain ⟨⟨f, h1⟩, _⟩ := h1
    obtain ⟨⟨g, h2⟩, hx⟩ := h2
    refine ⟨⟨f + g + 1, ?_⟩, hx⟩
    rw [hL, rd_add q1 rGd_r h1 g]
    show rd (f + g) k2 z = x
    rw [Nat.add_comm f g]
    exact rd_add q2 hx h2 f
theorem rX_lp {k k1 b : Nat} (hL : rLp k k1 b) (q1 : k1 ≤ 9) (q2 : k ≤ 9) {u : sU} : (¬ sLv (sHd u.1).1 = b → rX k u (.inr u)) ∧ (sLv (sHd u.1).1 = b → u.2.1 = 64 → rX k u (.inl (2, (sHd u.1).2.1))) ∧ (sLv (sHd u.1).1 = b → ¬ u.2.1 = 64 → (∀ e, rX k1 (u.1.tail, u.2.1 + 1, u.2.2) (.inl e) → rX k u (.inl e)) ∧ (∀ z x, rX k1 (u.1.tail, u.2.1 + 1, u.2.2) (.inr z) → rX k (z.1, z.2.1, z.2.2.1, ((sHd u.1).1, 0) :: z.2.2.2) x → rX k u x)) := by
  refine ⟨fun h => ⟨⟨1, by rw [hL, if_neg h]⟩, rGd_r⟩, fun h h6 => ⟨⟨1, by rw [hL, if_pos h]; unfold sKn; rw [if_pos h6]⟩, rGd_l (show (2 : Nat) ≠ 0 by decide)⟩, fun hl h6 => ⟨fun e h => ?_, fun z x h1 h2 => ?_⟩⟩
  · obtain ⟨⟨f, h⟩, hx⟩ := h
    refine ⟨⟨f + 1, ?_⟩, hx⟩
    rw [hL, if_pos hl]
    unfold sKn
    rw [if_neg h6]
    show sBd (rd f k1 (u.1.tail, u.2.1 + 1, u.2.2)) _ = _
    rw [h]
    rfl
  · obtain ⟨⟨f, h1⟩, _⟩ := h1
    obtain ⟨⟨g, h2⟩, hx⟩ := h2
    refine ⟨⟨f + g + 1, ?_⟩, hx⟩
    rw [hL, if_pos hl]
    unfold sKn
    rw [if_neg h6]
    show sBd (rd (f + g) k1 (u.1.tail, u.2.1 + 1, u.2.2)) _ = _
    rw [rd_add q1 rGd_r h1 g]
    show rd (f + g) k (z.1, z.2.1, z.2.2.1, ((sHd u.1).1, 0) :: z.2.2.2) = x
    rw [Nat.add_comm f g]
    exact rd_add q2 hx h2 f
/-! what stays: the open ones, as many knots put as counted -/
def rI (w : Nat) (u z : sU) : Prop := z.2.2.1 = u.2.2.1 ∧ z.2.1 + u.2.2.2.length = u.2.1 + z.2.2.2.length ∧ u.2.2.2.length + w ≤ z.2.2.2.length ∧ (u.2.1 ≤ 64 → z.2.1 ≤ 64)
def rWt (k : Nat) : Nat := if k = 2 ∨ k = 4 ∨ k = 7 ∨ k = 9 then 0 else 1
theorem rI_tr {a b w : Nat} {u y z : sU} (h1 : rI a u y) (h2 : rI b y z) (hw : w ≤ a + b) : rI w u z := by
  obtain ⟨c1, c2, c3, c4⟩ := h1
  obtain ⟨d1, d2, d3, d4⟩ := h2
  exact ⟨by (first | exact Nat.le_of_ble_eq_true rfl | exact (fun h => absurd h.1 (by decide)) | omega), by (first | exact Nat.le_of_ble_eq_true rfl | exact (fun h => absurd h.1 (by decide)) | omega), by (first | exact Nat.le_of_ble_eq_true rfl | exact (fun h => absurd h.1 (by decide)) | omega), fun h => d4 (c4 h)⟩
theorem rI_kn {k : Nat} {v : Int} {l1 : List sT} {u y : sU} (hc : u.2.1 ≠ 64) (h : rI 1 (l1, u.2.1 + 1, u.2.2) y) : rI 1 u (y.1, y.2.1, y.2.2.1, (k, v) :: y.2.2.2) := by
  obtain ⟨c1, c2, c3, c4⟩ := h
  dsimp only at c1 c2 c3 c4
  refine ⟨c1, ?_, ?_, fun h => c4 (by (first | exact Nat.le_of_ble_eq_true rfl | exact (fun h => absurd h.1 (by decide)) | omega))⟩
  · show y.2.1 + u.2.2.2.length = u.2.1 + (y.2.2.2.length + 1)
    (first | exact Nat.le_of_ble_eq_true rfl | exact (fun h => absurd h.1 (by decide)) | omega)
  · show u.2.2.2.length + 1 ≤ y.2.2.2.length + 1
    (first | exact Nat.le_of_ble_eq_true rfl | exact (fun h => absurd h.1 (by decide)) | omega)
theorem rd_inv : ∀ (f k : Nat), k ≤ 9 → ∀ (u z : sU), rd f k u = .inr z → rI (rWt k) u z := by
  intro f
  induction f with
  | zero =>
    intro k _ u z h
    rw [rd_z] at h
    cases h
  | succ f ih =>
    intro k hk u z h
    have hlp : ∀ k k1 b, rLp k k1 b → k ≤ 9 → k1 ≤ 9 → rWt k = 0 → rWt k1 = 1 → rd (f + 1) k u = .inr z → rI (rWt k) u z := fun k k1 b hL q1 q2 w1 w2 h => by
      rw [hL] at h
      by_cases hl : sLv (sHd u.1).1 = b
      · rw [if_pos hl] at h
        obtain ⟨hc, h⟩ := sKn_r h
        obtain ⟨y, g1, g2⟩ := sBd_r h
        have i1 := ih k1 q2 _ _ g1
        have i2 := ih k q1 _ _ g2
        rw [w2] at i1
        exact rI_tr (rI_kn hc i1) i2 (by (first | exact Nat.le_of_ble_eq_true rfl | exact (fun h => absurd h.1 (by decide)) | omega))
      · rw [if_neg hl] at h
        cases h
        exact ⟨rfl, Nat.add_comm _ _ ▸ rfl, by (first | exact Nat.le_of_ble_eq_true rfl | exact (fun h => absurd h.1 (by decide)) | omega), fun h => h⟩
    have hsq : ∀ k k1 k2, rSq k k1 k2 → k1 ≤ 9 → k2 ≤ 9 → rWt k ≤ rWt k1 + rWt k2 → rd (f + 1) k u = .inr z → rI (rWt k) u z := fun k k1 k2 hL q1 q2 hw h => by
      rw [hL] at h
      obtain ⟨y, g1, g2⟩ := sBd_r h
      exact rI_tr (ih k1 q1 _ _ g1) (ih k2 q2 _ _ g2) hw
    match k, hk, h with
    | 0, _, h =>
      obtain ⟨l, cn, op, o⟩ := u
      rw [rd_e0] at h
      by_cases h5 : (sHd l).1 = 5
      · rw [if_pos h5] at h
        by_cases h8 : op = 8
        · rw [if_pos h8] at h; cases h
        · rw [if_neg h8] at h
          obtain ⟨y, g1, g2⟩ := sBd_r h
          obtain ⟨c1, c2, c3, c4⟩ := ih 8 (by decide) _ _ g1
          dsimp only at c1 c2 c3 c4 g2
          by_cases h6 : (sHd y.1).1 = 6
          · rw [if_pos h6] at g2
            cases g2
            exact ⟨by show y.2.2.1 - 1 = op; (first | exact Nat.le_of_ble_eq_true rfl | exact (fun h => absurd h.1 (by decide)) | omega), c2, c3, c4⟩
          · rw [if_neg h6] at g2
            cases g2
      · rw [if_neg h5] at h
        by_cases h2 : ¬ ((sHd l).1 = 2 ∨ (33 ≤ (sHd l).1 ∧ (sHd l).1 ≤ 39))
        · rw [if_pos h2] at h; cases h
        · rw [if_neg h2] at h
          by_cases h9 : (sHd l).1 = 2 ∧ 9999 < (sHd l).2.2
          · rw [if_pos h9] at h; cases h
          · rw [if_neg h9] at h
            obtain ⟨hc, h⟩ := sKn_r h
            dsimp only at hc h
            cases h
            refine ⟨rfl, ?_, ?_, fun h => ?_⟩
            · show cn + 1 + o.length = cn + (o.length + 1)
              (first | exact Nat.le_of_ble_eq_true rfl | exact (fun h => absurd h.1 (by decide)) | omega)
            · show o.length + 1 ≤ o.length + 1
              (first | exact Nat.le_of_ble_eq_true rfl | exact (fun h => absurd h.1 (by decide)) | omega)
            · show cn + 1 ≤ 64
              have h : cn ≤ 64 := h
              (first | exact Nat.le_of_ble_eq_true rfl | exact (fun h => absurd h.1 (by decide)) | omega)
    | 1, _, h => exact hsq 1 0 2 rSq_1 (by decide) (by decide) (by decide) h
    | 2, _, h => exact hlp 2 0 6 rLp_2 (by decide) (by decide) (by decide) (by decide) h
    | 3, _, h => exact hsq 3 1 4 rSq_3 (by decide) (by decide) (by decide) h
    | 4, _, h => exact hlp 4 1 5 rLp_4 (by decide) (by decide) (by decide) (by decide) h
    | 5, _, h =>
      rw [rd_e5] at h
      by_cases h3 : (sHd u.1).1 = 32
      · rw [if_pos h3] at h
        obtain ⟨hc, h⟩ := sKn_r h
        obtain ⟨y, g1, g2⟩ := sBd_r h
        cases g2
        exact rI_kn hc (ih 5 (by decide) _ _ g1)
      · rw [if_neg h3] at h
        obtain ⟨y, g1, g2⟩ := sBd_r h
        have i1 := ih 3 (by decide) _ _ g1
        by_cases h4 : sLv (sHd y.1).1 = 4
        · rw [if_pos h4] at g2
          obtain ⟨hc, g2⟩ := sKn_r g2
          obtain ⟨t, g3, g4⟩ := sBd_r g2
          cases g4
          exact rI_tr i1 (rI_kn hc (ih 3 (by decide) _ _ g3)) (by decide)
        · rw [if_neg h4] at g2
          cases g2
          exact i1
    | 6, _, h => exact hsq 6 5 7 rSq_6 (by decide) (by decide) (by decide) h
    | 7, _, h => exact hlp 7 5 2 rLp_7 (by decide) (by decide) (by decide) (by decide) h
    | 8, _, h => exact hsq 8 6 9 rSq_8 (by decide) (by decide) (by decide) h
    | 9, _, h => exact hlp 9 6 1 rLp_9 (by decide) (by decide) (by decide) (by decide) h
    | k + 10, hk, _ => exact absurd hk (by (first | exact Nat.le_of_ble_eq_true rfl | exact (fun h => absurd h.1 (by decide)) | omega))
theorem rX_inv {k : Nat} (hk : k ≤ 9) {u z : sU} (h : rX k u (.inr z)) : rI (rWt k) u z := by
  obtain ⟨⟨f, h⟩, _⟩ := h
  exact rd_inv f k hk u z h
end
section
/-! THE REFERENCE: an E -/
def rKt (k : Nat) : Int := if k = 2 then 0 else if 33 ≤ k then 1 else 2
def rKv (k : Nat) (v : Int) : Int := if k = 2 then v else if 33 ≤ k then (k : Int) - 33 else if k = 30 then 262 else if k = 31 then 261 else if k = 32 then 260 else sSc k
def rKs (m : yMem) : sK → Prop
  | [] => True
  | q :: o => (w32 (m 116 (64 + o.length)) = rKt q.1 ∧ w32 (m 117 (64 + o.length)) = rKv q.1 q.2) ∧ rKs m o
theorem rKs_fr {b m : yMem} : ∀ {o : sK}, rKs b o → (∀ j, j < 64 + o.length → m 116 j = b 116 j ∧ m 117 j = b 117 j) → rKs m o
  | [], _, _ => trivial
  | q :: o, h, hm => by
    have e := hm (64 + o.length) (by rw [List.length_cons]; (first | exact Nat.le_of_ble_eq_true rfl | exact (fun h => absurd h.1 (by decide)) | omega))
    exact ⟨by rw [e.1, e.2]; exact h.1, rKs_fr h.2 (fun j hj => hm j (by rw [List.length_cons]; (first | exact Nat.le_of_ble_eq_true rfl | exact (fun h => absurd h.1 (by decide)) | omega)))⟩
def rEx (ch : Nat → Int) (n : Nat) (m : yMem) (u : sU) : Prop := rTk ch n m (.inr u.1) ∧ (w32 (m 95 36) = (u.2.1 : Int) ∧ u.2.1 ≤ 64) ∧ (w32 (m 95 35) = (u.2.2.1 : Int) ∧ u.2.2.1 ≤ 8) ∧ (w32 (m 97 13) = (u.2.2.2.length : Int) ∧ u.2.2.2.length ≤ u.2.1) ∧ rKs m u.2.2.2
def rEr (ch : Nat → Int) (n : Nat) (m : yMem) (x : sX) : Prop := match x with
  | .inl e => rTk ch n m (.inl e)
  | .inr u => rEx ch n m u
section RH
variable {ch : Nat → Int} {n : Nat} {m m' : yMem} {u z : sU}
theorem rEx_kn (h : rEx ch n m u) (hc : ¬ u.2.1 = 64) : rEx ch n (yset m 95 36 (m 95 36 + 1)) (u.1, u.2.1 + 1, u.2.2) := by
  obtain ⟨h1, ⟨h2, h3⟩, ⟨h4, h5⟩, ⟨h6, h7⟩, h8⟩ := h
  have e1 : w32 (m 95 36 + 1) = ((u.2.1 + 1 : Nat) : Int) := by rw [w32_ad (by rw [w32c_1]; (first | exact Nat.le_of_ble_eq_true rfl | exact (fun h => absurd h.1 (by decide)) | omega)) (by rw [w32c_1]; (first | exact Nat.le_of_ble_eq_true rfl | exact (fun h => absurd h.1 (by decide)) | omega)), w32c_1]; (first | exact Nat.le_of_ble_eq_true rfl | exact (fun h => absurd h.1 (by decide)) | omega)
  exact ⟨rTk_of h1 (fun j _ j2 => yset_d (by (first | exact Nat.le_of_ble_eq_true rfl | exact (fun h => absurd h.1 (by decide)) | omega))) (fun j => yset_o (by decide)), ⟨by rw [yset_s]; exact e1, by show u.2.1 + 1 ≤ 64; (first | exact Nat.le_of_ble_eq_true rfl | exact (fun h => absurd h.1 (by decide)) | omega)⟩, ⟨by rw [yset_d (by decide)]; exact h4, h5⟩, ⟨by rw [yset_o (by decide)]; exact h6, by show u.2.2.2.length ≤ u.2.1 + 1; (first | exact Nat.le_of_ble_eq_true rfl | exact (fun h => absurd h.1 (by decide)) | omega)⟩, rKs_fr h8 (fun j _ => ⟨yset_o (by decide), yset_o (by decide)⟩)⟩
theorem rEx_op (h : rEx ch n m u) {V : Int} {k : Nat} (hV : w32 V = (k : Int)) (hk : k ≤ 8) : rEx ch n (yset m 95 35 V) (u.1, u.2.1, k, u.2.2.2) := by
  obtain ⟨h1, ⟨h2, h3⟩, ⟨h4, h5⟩, ⟨h6, h7⟩, h8⟩ := h
  exact ⟨rTk_of h1 (fun j _ j2 => yset_d (by (first | exact Nat.le_of_ble_eq_true rfl | exact (fun h => absurd h.1 (by decide)) | omega))) (fun j => yset_o (by decide)), ⟨by rw [yset_d (by decide)]; exact h2, h3⟩, ⟨by rw [yset_s]; exact hV, hk⟩, ⟨by rw [yset_o (by decide)]; exact h6, h7⟩, rKs_fr h8 (fun j _ => ⟨yset_o (by decide), yset_o (by decide)⟩)⟩
theorem rEx_tk (h : rEx ch n m u) (F : aFrm tkF m m') (t : rTk ch n m' (.inr (sNx u.1))) : rEx ch n m' (sNx u.1, u.2) := by
  obtain ⟨h1, ⟨h2, h3⟩, ⟨h4, h5⟩, ⟨h6, h7⟩, h8⟩ := h
  exact ⟨t, ⟨by rw [F 95 36 rfl]; exact h2, h3⟩, ⟨by rw [F 95 35 rfl]; exact h4, h5⟩, ⟨by rw [F 97 13 rfl]; exact h6, h7⟩, rKs_fr h8 (fun j _ => ⟨F 116 j rfl, F 117 j rfl⟩)⟩
theorem sNx_t {l : List sT} (h : (sHd l).1 ≠ 0) : sNx l = l.tail := by
  unfold sNx
  rw [if_neg h]
theorem rEx_pt (h : rEx ch n m z) (hl : z.2.2.2.length < z.2.1) {k : Nat} {v K V : Int} (hK : w32 K = rKt k) (hV : w32 V = rKv k v) : rEx ch n (zput m K V) (z.1, z.2.1, z.2.2.1, (k, v) :: z.2.2.2) ∧ w32 (64 + m 97 13) = 64 + (z.2.2.2.length : Int) ∧ aFrm zpW m (zput m K V) := by
  obtain ⟨h1, ⟨h2, h3⟩, ⟨h4, h5⟩, ⟨h6, h7⟩, h8⟩ := h
  have e64 : w32 64 = 64 := by decide
  have e2 : w32 (64 + m 97 13) = 64 + (z.2.2.2.length : Int) := by rw [w32_ad (by rw [e64]; (first | exact Nat.le_of_ble_eq_true rfl | exact (fun h => absurd h.1 (by decide)) | omega)) (by rw [e64]; (first | exact Nat.le_of_ble_eq_true rfl | exact (fun h => absurd h.1 (by decide)) | omega)), e64]; (first | exact Nat.le_of_ble_eq_true rfl | exact (fun h => absurd h.1 (by decide)) | omega)
  have ei : (w32 (64 + m 97 13)).toNat = 64 + z.2.2.2.length := by (first | exact Nat.le_of_ble_eq_true rfl | exact (fun h => absurd h.1 (by decide)) | omega)
  have e1 : w32 (m 97 13 + 1) = ((z.2.2.2.length + 1 : Nat) : Int) := by rw [w32_ad (by rw [w32c_1]; (first | exact Nat.le_of_ble_eq_true rfl | exact (fun h => absurd h.1 (by decide)) | omega)) (by rw [w32c_1]; (first | exact Nat.le_of_ble_eq_true rfl | exact (fun h => absurd h.1 (by decide)) | omega)), w32c_1]; (first | exact Nat.le_of_ble_eq_true rfl | exact (fun h => absurd h.1 (by decide)) | omega)
  have hh := zpW_hi (64 + z.2.2.2.length) (by (first | exact Nat.le_of_ble_eq_true rfl | exact (fun h => absurd h.1 (by decide)) | omega)) (by (first | exact Nat.le_of_ble_eq_true rfl | exact (fun h => absurd h.1 (by decide)) | omega))
  refine ⟨?_, e2, ?_⟩
  · unfold zput
    rw [ei]
    refine ⟨rTk_s (rTk_s (rTk_s h1 (by decide)) (by decide)) (by decide), ⟨by rw [yset_o (by decide), yset_o (by decide), yset_o (by decide)]; exact h2, h3⟩, ⟨by rw [yset_o (by decide), yset_o (by decide), yset_o (by decide)]; exact h4, h5⟩, ⟨by rw [yset_s]; exact e1, by show z.2.2.2.length + 1 ≤ z.2.1; (first | exact Nat.le_of_ble_eq_true rfl | exact (fun h => absurd h.1 (by decide)) | omega)⟩, ⟨⟨?_, ?_⟩, rKs_fr h8 (fun j hj => ⟨?_, ?_⟩)⟩⟩
    · rw [yset_o (by decide), yset_o (by decide), yset_s]; exact hK
    · rw [yset_o (by decide), yset_s]; exact hV
    · rw [yset_o (by decide), yset_o (by decide), yset_d (by (first | exact Nat.le_of_ble_eq_true rfl | exact (fun h => absurd h.1 (by decide)) | omega))]
    · rw [yset_o (by decide), yset_d (by (first | exact Nat.le_of_ble_eq_true rfl | exact (fun h => absurd h.1 (by decide)) | omega)), yset_o (by decide)]
  · unfold zput
    rw [ei]
    exact aFrm_set (aFrm_set (aFrm_set aFrm_rf hh.1) hh.2) rfl
end RH
/-- a piece of an E, at op open ones, with D0 frames: on a FAULT nothing -/
def CRd (ch : Nat → Int) (n : Nat) (E : yE) (M : xM) (k op D0 : Nat) : Prop := ∀ D, D0 ≤ D → ∀ (mem : yMem) (Q : Option yV → yMem → Prop), (¬ w32 (mem 95 31) = 0 → Q none mem → yCon E D M [(1, 95)] mem Q) ∧ (∀ u, rEx ch n mem u → u.2.2.1 = op → (∀ m x, rX k u x → aFrm exW mem m → rEr ch n m x → Q none m) → yCon E D M [(1, 95)] mem Q)
theorem sLv_ne {k b : Nat} (h : sLv k = b) (hb : b ≠ 0) : k ≠ 0 := fun e => by
  rw [e] at h
  exact hb (h.symm.trans (by decide))
theorem sLv_k6 {k : Nat} : sLv k = 6 ↔ k = 15 ∨ k = 16 := by
  unfold sLv
  repeat' split
  all_goals (first | exact Nat.le_of_ble_eq_true rfl | exact (fun h => absurd h.1 (by decide)) | omega)
theorem sLv_k5 {k : Nat} : sLv k = 5 ↔ k = 13 ∨ k = 14 := by
  unfold sLv
  repeat' split
  all_goals (first | exact Nat.le_of_ble_eq_true rfl | exact (fun h => absurd h.1 (by decide)) | omega)
theorem sLv_k4 {k : Nat} : sLv k = 4 ↔ 7 ≤ k ∧ k ≤ 12 := by
  unfold sLv
  repeat' split
  all_goals (first | exact Nat.le_of_ble_eq_true rfl | exact (fun h => absurd h.1 (by decide)) | omega)
theorem sLv_k2 {k : Nat} : sLv k = 2 ↔ k = 31 := by
  unfold sLv
  repeat' split
  all_goals (first | exact Nat.le_of_ble_eq_true rfl | exact (fun h => absurd h.1 (by decide)) | omega)
theorem sLv_k1 {k : Nat} : sLv k = 1 ↔ k = 30 := by
  unfold sLv
  repeat' split
  all_goals (first | exact Nat.le_of_ble_eq_true rfl | exact (fun h => absurd h.1 (by decide)) | omega)
theorem rK_sg {k : Nat} (h1 : 4 ≤ k) (h2 : k ≤ 16) : rKt k = 2 ∧ rKv k 0 = sSc k := by
  unfold rKt rKv
  rw [if_neg (by (first | exact Nat.le_of_ble_eq_true rfl | exact (fun h => absurd h.1 (by decide)) | omega)), if_neg (by (first | exact Nat.le_of_ble_eq_true rfl | exact (fun h => absurd h.1 (by decide)) | omega)), if_neg (by (first | exact Nat.le_of_ble_eq_true rfl | exact (fun h => absurd h.1 (by decide)) | omega)), if_neg (by (first | exact Nat.le_of_ble_eq_true rfl | exact (fun h => absurd h.1 (by decide)) | omega)), if_neg (by (first | exact Nat.le_of_ble_eq_true rfl | exact (fun h => absurd h.1 (by decide)) | omega)), if_neg (by (first | exact Nat.le_of_ble_eq_true rfl | exact (fun h => absurd h.1 (by decide)) | omega)), if_neg (by (first | exact Nat.le_of_ble_eq_true rfl | exact (fun h => absurd h.1 (by decide)) | omega))]
  exact ⟨rfl, rfl⟩
/-- the sign that stands -/
theorem rf_sg {ch : Nat → Int} {n : Nat} {m : yMem} {l : List sT} (h : rTk ch n m (.inr l)) (h1 : 4 ≤ (sHd l).1) (h2 : (sHd l).1 ≤ 16) : w32 (m 95 29) = 3 ∧ w32 (m 95 30) = sSc (sHd l).1 := by
  have := rTk_rk h
  unfold sRk at this
  (first | exact Nat.le_of_ble_eq_true rfl | exact (fun h => absurd h.1 (by decide)) | omega)
theorem ex_w2 {b : yMem} : aFrm exW b (yset (yset b 95 31 2) 95 32 (b 95 28)) := aFrm_set (aFrm_set aFrm_rf rfl) rfl
theorem tk_ex {a b : yMem} (h : aFrm tkF a b) : aFrm exW a b := aFrm_w h rfl
end
