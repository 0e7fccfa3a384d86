theorem s_255_0 {E : yE} {n d : Nat} {mem : yMem} {Post : Option yV → yMem → Prop} {st : List yV} {x : Int} : zvc E (n + 1) [] d xm_255 0 [some (0, x)] (st) mem Post = (zvc E n [] d xm_255 1 [some (0, x)] ((0, x) :: st) mem Post) := zrf rfl
theorem s_255_1 {E : yE} {n d : Nat} {mem : yMem} {Post : Option yV → yMem → Prop} {st : List yV} {x : Int} : zvc E (n + 1) [] d xm_255 1 [some (0, x)] (st) mem Post = (zvc E n [] d xm_255 2 [some (0, x)] ((0, x) :: st) mem Post) := zrf rfl
theorem s_255_2 {E : yE} {n d : Nat} {mem : yMem} {Post : Option yV → yMem → Prop} {st : List yV} {r0 : Option yV} : zvc E (n + 1) [] d xm_255 2 [r0] (st) mem Post = (zvc E n [] d xm_255 3 [r0] ((0, 1) :: st) mem Post) := zrf rfl
theorem s_255_3 {E : yE} {n d : Nat} {mem : yMem} {Post : Option yV → yMem → Prop} {st : List yV} {r0 : Option yV} {x y : Int} : zvc E (n + 1) [] d xm_255 3 [r0] ((0, y) :: (0, x) :: st) mem Post = (zvc E n [] d xm_255 4 [r0] ((0, ybin 8 x y) :: st) mem Post) := zrf rfl
theorem s_255_4 {E : yE} {n d : Nat} {mem : yMem} {Post : Option yV → yMem → Prop} {st : List yV} {r0 : Option yV} : zvc E (n + 1) [] d xm_255 4 [r0] (st) mem Post = (zvc E n [] d xm_255 7 [r0] ((0, 1431655765) :: st) mem Post) := zrf rfl
theorem s_255_7 {E : yE} {n d : Nat} {mem : yMem} {Post : Option yV → yMem → Prop} {st : List yV} {r0 : Option yV} {x y : Int} : zvc E (n + 1) [] d xm_255 7 [r0] ((0, y) :: (0, x) :: st) mem Post = (zvc E n [] d xm_255 8 [r0] ((0, ybin 3 x y) :: st) mem Post) := zrf rfl
theorem s_255_8 {E : yE} {n d : Nat} {mem : yMem} {Post : Option yV → yMem → Prop} {st : List yV} {r0 : Option yV} {x y : Int} : zvc E (n + 1) [] d xm_255 8 [r0] ((0, y) :: (0, x) :: st) mem Post = (zvc E n [] d xm_255 9 [r0] ((0, x - y) :: st) mem Post) := zrf rfl
theorem s_255_9 {E : yE} {n d : Nat} {mem : yMem} {Post : Option yV → yMem → Prop} {st : List yV} {r0 : Option yV} {x : Int} : zvc E (n + 1) [] d xm_255 9 [r0] ((0, x) :: st) mem Post = (zvc E n [] d xm_255 10 [some (0, x)] (st) mem Post) := zrf rfl
theorem s_255_10 {E : yE} {n d : Nat} {mem : yMem} {Post : Option yV → yMem → Prop} {st : List yV} {x : Int} : zvc E (n + 1) [] d xm_255 10 [some (0, x)] (st) mem Post = (zvc E n [] d xm_255 11 [some (0, x)] ((0, x) :: st) mem Post) := zrf rfl
theorem s_255_11 {E : yE} {n d : Nat} {mem : yMem} {Post : Option yV → yMem → Prop} {st : List yV} {r0 : Option yV} : zvc E (n + 1) [] d xm_255 11 [r0] (st) mem Post = (zvc E n [] d xm_255 14 [r0] ((0, 858993459) :: st) mem Post) := zrf rfl
theorem s_255_14 {E : yE} {n d : Nat} {mem : yMem} {Post : Option yV → yMem → Prop} {st : List yV} {r0 : Option yV} {x y : Int} : zvc E (n + 1) [] d xm_255 14 [r0] ((0, y) :: (0, x) :: st) mem Post = (zvc E n [] d xm_255 15 [r0] ((0, ybin 3 x y) :: st) mem Post) := zrf rfl
theorem s_255_15 {E : yE} {n d : Nat} {mem : yMem} {Post : Option yV → yMem → Prop} {st : List yV} {x : Int} : zvc E (n + 1) [] d xm_255 15 [some (0, x)] (st) mem Post = (zvc E n [] d xm_255 16 [some (0, x)] ((0, x) :: st) mem Post) := zrf rfl
theorem s_255_16 {E : yE} {n d : Nat} {mem : yMem} {Post : Option yV → yMem → Prop} {st : List yV} {r0 : Option yV} : zvc E (n + 1) [] d xm_255 16 [r0] (st) mem Post = (zvc E n [] d xm_255 17 [r0] ((0, 2) :: st) mem Post) := zrf rfl
theorem s_255_17 {E : yE} {n d : Nat} {mem : yMem} {Post : Option yV → yMem → Prop} {st : List yV} {r0 : Option yV} {x y : Int} : zvc E (n + 1) [] d xm_255 17 [r0] ((0, y) :: (0, x) :: st) mem Post = (zvc E n [] d xm_255 18 [r0] ((0, ybin 8 x y) :: st) mem Post) := zrf rfl
theorem s_255_18 {E : yE} {n d : Nat} {mem : yMem} {Post : Option yV → yMem → Prop} {st : List yV} {r0 : Option yV} : zvc E (n + 1) [] d xm_255 18 [r0] (st) mem Post = (zvc E n [] d xm_255 21 [r0] ((0, 858993459) :: st) mem Post) := zrf rfl
theorem s_255_21 {E : yE} {n d : Nat} {mem : yMem} {Post : Option yV → yMem → Prop} {st : List yV} {r0 : Option yV} {x y : Int} : zvc E (n + 1) [] d xm_255 21 [r0] ((0, y) :: (0, x) :: st) mem Post = (zvc E n [] d xm_255 22 [r0] ((0, ybin 3 x y) :: st) mem Post) := zrf rfl
theorem s_255_22 {E : yE} {n d : Nat} {mem : yMem} {Post : Option yV → yMem → Prop} {st : List yV} {r0 : Option yV} {x y : Int} : zvc E (n + 1) [] d xm_255 22 [r0] ((0, y) :: (0, x) :: st) mem Post = (zvc E n [] d xm_255 23 [r0] ((0, x + y) :: st) mem Post) := zrf rfl
theorem s_255_23 {E : yE} {n d : Nat} {mem : yMem} {Post : Option yV → yMem → Prop} {st : List yV} {r0 : Option yV} {x : Int} : zvc E (n + 1) [] d xm_255 23 [r0] ((0, x) :: st) mem Post = (zvc E n [] d xm_255 24 [some (0, x)] (st) mem Post) := zrf rfl
theorem s_255_24 {E : yE} {n d : Nat} {mem : yMem} {Post : Option yV → yMem → Prop} {st : List yV} {x : Int} : zvc E (n + 1) [] d xm_255 24 [some (0, x)] (st) mem Post = (zvc E n [] d xm_255 25 [some (0, x)] ((0, x) :: st) mem Post) := zrf rfl
theorem s_255_25 {E : yE} {n d : Nat} {mem : yMem} {Post : Option yV → yMem → Prop} {st : List yV} {x : Int} : zvc E (n + 1) [] d xm_255 25 [some (0, x)] (st) mem Post = (zvc E n [] d xm_255 26 [some (0, x)] ((0, x) :: st) mem Post) := zrf rfl
theorem s_255_26 {E : yE} {n d : Nat} {mem : yMem} {Post : Option yV → yMem → Prop} {st : List yV} {r0 : Option yV} : zvc E (n + 1) [] d xm_255 26 [r0] (st) mem Post = (zvc E n [] d xm_255 27 [r0] ((0, 4) :: st) mem Post) := zrf rfl
theorem s_255_27 {E : yE} {n d : Nat} {mem : yMem} {Post : Option yV → yMem → Prop} {st : List yV} {r0 : Option yV} {x y : Int} : zvc E (n + 1) [] d xm_255 27 [r0] ((0, y) :: (0, x) :: st) mem Post = (zvc E n [] d xm_255 28 [r0] ((0, ybin 8 x y) :: st) mem Post) := zrf rfl
theorem s_255_28 {E : yE} {n d : Nat} {mem : yMem} {Post : Option yV → yMem → Prop} {st : List yV} {r0 : Option yV} {x y : Int} : zvc E (n + 1) [] d xm_255 28 [r0] ((0, y) :: (0, x) :: st) mem Post = (zvc E n [] d xm_255 29 [r0] ((0, x + y) :: st) mem Post) := zrf rfl
theorem s_255_29 {E : yE} {n d : Nat} {mem : yMem} {Post : Option yV → yMem → Prop} {st : List yV} {r0 : Option yV} : zvc E (n + 1) [] d xm_255 29 [r0] (st) mem Post = (zvc E n [] d xm_255 32 [r0] ((0, 252645135) :: st) mem Post) := zrf rfl
theorem s_255_32 {E : yE} {n d : Nat} {mem : yMem} {Post : Option yV → yMem → Prop} {st : List yV} {r0 : Option yV} {x y : Int} : zvc E (n + 1) [] d xm_255 32 [r0] ((0, y) :: (0, x) :: st) mem Post = (zvc E n [] d xm_255 33 [r0] ((0, ybin 3 x y) :: st) mem Post) := zrf rfl
theorem s_255_33 {E : yE} {n d : Nat} {mem : yMem} {Post : Option yV → yMem → Prop} {st : List yV} {r0 : Option yV} {x : Int} : zvc E (n + 1) [] d xm_255 33 [r0] ((0, x) :: st) mem Post = (zvc E n [] d xm_255 34 [some (0, x)] (st) mem Post) := zrf rfl
theorem s_255_34 {E : yE} {n d : Nat} {mem : yMem} {Post : Option yV → yMem → Prop} {st : List yV} {x : Int} : zvc E (n + 1) [] d xm_255 34 [some (0, x)] (st) mem Post = (zvc E n [] d xm_255 35 [some (0, x)] ((0, x) :: st) mem Post) := zrf rfl
theorem s_255_35 {E : yE} {n d : Nat} {mem : yMem} {Post : Option yV → yMem → Prop} {st : List yV} {x : Int} : zvc E (n + 1) [] d xm_255 35 [some (0, x)] (st) mem Post = (zvc E n [] d xm_255 36 [some (0, x)] ((0, x) :: st) mem Post) := zrf rfl
theorem s_255_36 {E : yE} {n d : Nat} {mem : yMem} {Post : Option yV → yMem → Prop} {st : List yV} {r0 : Option yV} : zvc E (n + 1) [] d xm_255 36 [r0] (st) mem Post = (zvc E n [] d xm_255 38 [r0] ((0, 8) :: st) mem Post) := zrf rfl
theorem s_255_38 {E : yE} {n d : Nat} {mem : yMem} {Post : Option yV → yMem → Prop} {st : List yV} {r0 : Option yV} {x y : Int} : zvc E (n + 1) [] d xm_255 38 [r0] ((0, y) :: (0, x) :: st) mem Post = (zvc E n [] d xm_255 39 [r0] ((0, ybin 8 x y) :: st) mem Post) := zrf rfl
theorem s_255_39 {E : yE} {n d : Nat} {mem : yMem} {Post : Option yV → yMem → Prop} {st : List yV} {r0 : Option yV} {x y : Int} : zvc E (n + 1) [] d xm_255 39 [r0] ((0, y) :: (0, x) :: st) mem Post = (zvc E n [] d xm_255 40 [r0] ((0, x + y) :: st) mem Post) := zrf rfl
theorem s_255_40 {E : yE} {n d : Nat} {mem : yMem} {Post : Option yV → yMem → Prop} {st : List yV} {r0 : Option yV} {x : Int} : zvc E (n + 1) [] d xm_255 40 [r0] ((0, x) :: st) mem Post = (zvc E n [] d xm_255 41 [some (0, x)] (st) mem Post) := zrf rfl
theorem s_255_41 {E : yE} {n d : Nat} {mem : yMem} {Post : Option yV → yMem → Prop} {st : List yV} {x : Int} : zvc E (n + 1) [] d xm_255 41 [some (0, x)] (st) mem Post = (zvc E n [] d xm_255 42 [some (0, x)] ((0, x) :: st) mem Post) := zrf rfl
theorem s_255_42 {E : yE} {n d : Nat} {mem : yMem} {Post : Option yV → yMem → Prop} {st : List yV} {x : Int} : zvc E (n + 1) [] d xm_255 42 [some (0, x)] (st) mem Post = (zvc E n [] d xm_255 43 [some (0, x)] ((0, x) :: st) mem Post) := zrf rfl
theorem s_255_43 {E : yE} {n d : Nat} {mem : yMem} {Post : Option yV → yMem → Prop} {st : List yV} {r0 : Option yV} : zvc E (n + 1) [] d xm_255 43 [r0] (st) mem Post = (zvc E n [] d xm_255 45 [r0] ((0, 16) :: st) mem Post) := zrf rfl
theorem s_255_45 {E : yE} {n d : Nat} {mem : yMem} {Post : Option yV → yMem → Prop} {st : List yV} {r0 : Option yV} {x y : Int} : zvc E (n + 1) [] d xm_255 45 [r0] ((0, y) :: (0, x) :: st) mem Post = (zvc E n [] d xm_255 46 [r0] ((0, ybin 8 x y) :: st) mem Post) := zrf rfl
theorem s_255_46 {E : yE} {n d : Nat} {mem : yMem} {Post : Option yV → yMem → Prop} {st : List yV} {r0 : Option yV} {x y : Int} : zvc E (n + 1) [] d xm_255 46 [r0] ((0, y) :: (0, x) :: st) mem Post = (zvc E n [] d xm_255 47 [r0] ((0, x + y) :: st) mem Post) := zrf rfl
theorem s_255_47 {E : yE} {n d : Nat} {mem : yMem} {Post : Option yV → yMem → Prop} {st : List yV} {r0 : Option yV} {x : Int} : zvc E (n + 1) [] d xm_255 47 [r0] ((0, x) :: st) mem Post = (zvc E n [] d xm_255 48 [some (0, x)] (st) mem Post) := zrf rfl
theorem s_255_48 {E : yE} {n d : Nat} {mem : yMem} {Post : Option yV → yMem → Prop} {st : List yV} {x : Int} : zvc E (n + 1) [] d xm_255 48 [some (0, x)] (st) mem Post = (zvc E n [] d xm_255 49 [some (0, x)] ((0, x) :: st) mem Post) := zrf rfl
theorem s_255_49 {E : yE} {n d : Nat} {mem : yMem} {Post : Option yV → yMem → Prop} {st : List yV} {r0 : Option yV} : zvc E (n + 1) [] d xm_255 49 [r0] (st) mem Post = (zvc E n [] d xm_255 51 [r0] ((0, 63) :: st) mem Post) := zrf rfl
theorem s_255_51 {E : yE} {n d : Nat} {mem : yMem} {Post : Option yV → yMem → Prop} {st : List yV} {r0 : Option yV} {x y : Int} : zvc E (n + 1) [] d xm_255 51 [r0] ((0, y) :: (0, x) :: st) mem Post = (zvc E n [] d xm_255 52 [r0] ((0, ybin 3 x y) :: st) mem Post) := zrf rfl
theorem s_255_52 {E : yE} {n d : Nat} {mem : yMem} {Post : Option yV → yMem → Prop} {r0 : Option yV} {x : Int} : zvc E (n + 1) [] d xm_255 52 [r0] ([(0, x)]) mem Post = (Post (some (0, x)) mem) := zrf rfl
theorem e_255 {E : yE} {d : Nat} {mem : yMem} {Q : Option yV → yMem → Prop} {a0 : Int} (h : zG E d xm_255 0 [some (0, a0)] [] mem Q) : yCon E (d + 1) xm_255 [(0, a0)] mem Q := zcon_of xmo_255 (Nat.le_of_ble_eq_true rfl) h

def zb1 (x : Int) : Int := x - ybin 3 (ybin 8 x 1) 1431655765
def zb2 (x : Int) : Int := ybin 3 x 858993459 + ybin 3 (ybin 8 x 2) 858993459
def zb3 (x : Int) : Int := ybin 3 (x + ybin 8 x 4) 252645135
def zb4 (x : Int) : Int := x + ybin 8 x 8
def zb5 (x : Int) : Int := x + ybin 8 x 16
def zbf (x : Int) : Int := ybin 3 (zb5 (zb4 (zb3 (zb2 (zb1 x))))) 63
def zbg (x : Int32) : Int32 :=
  let a := x - fbin 3 (fbin 8 x (iI 1)) (iI 1431655765)
  let b := fbin 3 a (iI 858993459) + fbin 3 (fbin 8 a (iI 2)) (iI 858993459)
  let c := fbin 3 (b + fbin 8 b (iI 4)) (iI 252645135)
  let d := c + fbin 8 c (iI 8)
  let e := d + fbin 8 d (iI 16)
  fbin 3 e (iI 63)
theorem iI_ad (x y : Int) : iI (x + y) = iI x + iI y := Int32.ofInt_add x y
theorem iI_sb (x y : Int) : iI (x - y) = iI x - iI y := Int32.ofInt_sub x y
theorem zbf_ok (x : Int) : iI (zbf x) = zbg (iI x) := by
  simp only [zbf, zb5, zb4, zb3, zb2, zb1, ybin_ok, iI_ad, iI_sb, zbg]
/-- the ones among the first n bits -/
def zpc : Nat → Nat → Nat
  | 0, _ => 0
  | n + 1, k => k % 2 + zpc n (k / 2)
theorem zbg_all : ∀ k : Nat, k < 256 → (zbg (nI k)).toInt = ((zpc 8 k : Nat) : Int) ∧ zpc 8 k ≤ 8 := by decide +kernel
theorem zbf_w {x : Int} (h1 : 0 ≤ w32 x) (h2 : w32 x ≤ 255) : w32 (zbf x) = ((zpc 8 (w32 x).toNat : Nat) : Int) ∧ zpc 8 (w32 x).toNat ≤ 8 := by
  have := zbg_all (w32 x).toNat (by omega)
  have e : nI (w32 x).toNat = iI x := by rw [← iI_n, Int.toNat_of_nonneg h1, iI_w]
  rw [e, ← zbf_ok] at this
  exact this
theorem c_bitc {E : yE} (hE : yEok E) {D : Nat} (hD : 1 ≤ D) {mem : yMem} {Q : Option yV → yMem → Prop} {x : Int} (hQ : Q (some (0, zbf x)) mem) : yCon E D xm_255 [(0, x)] mem Q := by
  obtain ⟨d, rfl⟩ := Nat.exists_eq_add_of_le' hD
  refine e_255 ?_
  refine zvc_ok hE 60 [] _ _ _ _ _ _ _ xmo_255 ?_
  simp only [ynok_30, ynok_31, w32c_0, w32c_1, w32c_2, w32c_3, w32c_4, w32c_5, w32c_6, w32c_7, w32c_8, w32c_9, w32c_10, w32c_11, w32c_12, w32c_13, w32c_14, w32c_m1, w32c_m2, w32c_118, Int.reduceAdd, Int.reduceSub, Int.reduceMul, yput_s, yput_n, znl_n, znl_0, znl_1, znl_4, ysum_n, ysum_0, ysum_1, ysum_4, true_and, and_true, Nat.reduceAdd, Nat.reduceLeDiff, true_implies, eq_self, true_or, or_true, or_false, false_or, not_true_eq_false, not_false_eq_true, false_implies, implies_true, yset_s, yset_o, yset_d, ne_eq, Nat.reduceEqDiff, Int.reduceToNat, Int.reduceEq, Int.reduceLE, Int.reduceLT, Classical.not_not, Nat.reduceLT, ↓zvk_s, ↓zvk_n, ↓s_255_0, ↓s_255_1, ↓s_255_2, ↓s_255_3, ↓s_255_4, ↓s_255_7, ↓s_255_8, ↓s_255_9, ↓s_255_10, ↓s_255_11, ↓s_255_14, ↓s_255_15, ↓s_255_16, ↓s_255_17, ↓s_255_18, ↓s_255_21, ↓s_255_22, ↓s_255_23, ↓s_255_24, ↓s_255_25, ↓s_255_26, ↓s_255_27, ↓s_255_28, ↓s_255_29, ↓s_255_32, ↓s_255_33, ↓s_255_34, ↓s_255_35, ↓s_255_36, ↓s_255_38, ↓s_255_39, ↓s_255_40, ↓s_255_41, ↓s_255_42, ↓s_255_43, ↓s_255_45, ↓s_255_46, ↓s_255_47, ↓s_255_48, ↓s_255_49, ↓s_255_51, ↓s_255_52, w32c_16, w32c_63]
  exact hQ
