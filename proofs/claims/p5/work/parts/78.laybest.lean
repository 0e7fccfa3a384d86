def zc_204 : List Nat := [6, 62, 68, 96, 120]
theorem s_204_0 {E : yE} {n d : Nat} {mem : yMem} {Post : Option yV → yMem → Prop} {st : List yV} {r1 r2 r3 : Option yV} {x : Int} : zvc E (n + 1) zc_204 d xm_204 0 [some (1, x), r1, r2, r3] (st) mem Post = (zvc E n zc_204 d xm_204 1 [some (1, x), r1, r2, r3] ((1, x) :: st) mem Post) := zrf rfl
theorem s_204_1 {E : yE} {n d : Nat} {mem : yMem} {Post : Option yV → yMem → Prop} {st : List yV} {r0 r1 r2 r3 : Option yV} {z : Int} : zvc E (n + 1) zc_204 d xm_204 1 [r0, r1, r2, r3] ((1, z) :: st) mem Post = (zio z 12 = true ∧ ysum st ≤ 8 ∧ yCon E d xm_205 [(1, z)] mem (fun v mem' => zgk E d xm_204 4 [r0, r1, r2, r3] st v mem' Post)) := zrf rfl
theorem s_204_4 {E : yE} {n d : Nat} {mem : yMem} {Post : Option yV → yMem → Prop} {st : List yV} {r0 r1 r2 r3 : Option yV} : zvc E (n + 1) zc_204 d xm_204 4 [r0, r1, r2, r3] (st) mem Post = (zvc E n zc_204 d xm_204 5 [r0, r1, r2, r3] ((0, 0) :: st) mem Post) := zrf rfl
theorem s_204_5n {E : yE} {n d : Nat} {mem : yMem} {Post : Option yV → yMem → Prop} {st : List yV} {r0 r2 r3 : Option yV} {x : Int} : zvc E (n + 1) zc_204 d xm_204 5 [r0, none, r2, r3] ((0, x) :: st) mem Post = (zvc E n zc_204 d xm_204 6 [r0, none, some (0, x), r3] (st) mem Post) := zrf rfl
theorem s_204_5i {E : yE} {n d : Nat} {mem : yMem} {Post : Option yV → yMem → Prop} {st : List yV} {r0 r2 r3 : Option yV} {x w : Int} : zvc E (n + 1) zc_204 d xm_204 5 [r0, some (0, w), r2, r3] ((0, x) :: st) mem Post = (zvc E n zc_204 d xm_204 6 [r0, some (0, w), some (0, x), r3] (st) mem Post) := zrf rfl
theorem s_204_5p {E : yE} {n d : Nat} {mem : yMem} {Post : Option yV → yMem → Prop} {st : List yV} {r0 r2 r3 : Option yV} {x w : Int} : zvc E (n + 1) zc_204 d xm_204 5 [r0, some (1, w), r2, r3] ((0, x) :: st) mem Post = (zvc E n zc_204 d xm_204 6 [r0, some (1, w), some (0, x), r3] (st) mem Post) := zrf rfl
theorem s_204_5j {E : yE} {n d : Nat} {mem : yMem} {Post : Option yV → yMem → Prop} {st : List yV} {r0 r1 r2 r3 : Option yV} {x : Int} : zvc E (n + 1) zc_204 d xm_204 5 [r0, r1, r2, r3] ((0, x) :: st) mem Post = (zvc E n zc_204 d xm_204 6 [r0, znl r1, some (0, x), r3] (st) mem Post) := zrf rfl
theorem g_204_6 {E : yE} {n d : Nat} {mem : yMem} {Post : Option yV → yMem → Prop} {st : List yV} {r0 r1 r3 : Option yV} {x : Int} : zgo E n zc_204 d xm_204 6 [r0, r1, some (0, x), r3] (st) mem Post = (zvc E n zc_204 d xm_204 7 [r0, r1, some (0, x), r3] ((0, x) :: st) mem Post) := zrf rfl
theorem k_204_6 {E : yE} {n d : Nat} {mem : yMem} {Post : Option yV → yMem → Prop} {st : List yV} {rg : zR} : zvc E (n + 1) zc_204 d xm_204 6 rg st mem Post = zG E d xm_204 6 rg st mem Post := zrf rfl
theorem s_204_7 {E : yE} {n d : Nat} {mem : yMem} {Post : Option yV → yMem → Prop} {st : List yV} {r0 r2 r3 : Option yV} {x : Int} : zvc E (n + 1) zc_204 d xm_204 7 [r0, some (0, x), r2, r3] (st) mem Post = (zvc E n zc_204 d xm_204 8 [r0, some (0, x), r2, r3] ((0, x) :: st) mem Post) := zrf rfl
theorem s_204_8 {E : yE} {n d : Nat} {mem : yMem} {Post : Option yV → yMem → Prop} {st : List yV} {r0 r1 r2 r3 : Option yV} {x y : Int} : zvc E (n + 1) zc_204 d xm_204 8 [r0, r1, r2, r3] ((0, y) :: (0, x) :: st) mem Post = ((w32 y < w32 x → zvc E n zc_204 d xm_204 53 [r0, r1, r2, r3] (st) mem Post) ∧ (¬ (w32 y < w32 x) → zvc E n zc_204 d xm_204 11 [r0, r1, r2, r3] (st) mem Post)) := zrf rfl
theorem s_204_11 {E : yE} {n d : Nat} {mem : yMem} {Post : Option yV → yMem → Prop} {st : List yV} {r1 r2 r3 : Option yV} {x : Int} : zvc E (n + 1) zc_204 d xm_204 11 [some (1, x), r1, r2, r3] (st) mem Post = (zvc E n zc_204 d xm_204 12 [some (1, x), r1, r2, r3] ((1, x) :: st) mem Post) := zrf rfl
theorem s_204_12 {E : yE} {n d : Nat} {mem : yMem} {Post : Option yV → yMem → Prop} {st : List yV} {r0 r1 r2 r3 : Option yV} : zvc E (n + 1) zc_204 d xm_204 12 [r0, r1, r2, r3] ((1, 95) :: st) mem Post = (zvc E n zc_204 d xm_204 15 [r0, r1, r2, r3] ((1, 132) :: st) mem Post) := zrf rfl
theorem s_204_15 {E : yE} {n d : Nat} {mem : yMem} {Post : Option yV → yMem → Prop} {st : List yV} {r0 r1 r2 r3 : Option yV} : zvc E (n + 1) zc_204 d xm_204 15 [r0, r1, r2, r3] (st) mem Post = (zvc E n zc_204 d xm_204 18 [r0, r1, r2, r3] ((0, 1000) :: st) mem Post) := zrf rfl
theorem s_204_18 {E : yE} {n d : Nat} {mem : yMem} {Post : Option yV → yMem → Prop} {st : List yV} {r1 r2 r3 : Option yV} {x : Int} : zvc E (n + 1) zc_204 d xm_204 18 [some (1, x), r1, r2, r3] (st) mem Post = (zvc E n zc_204 d xm_204 19 [some (1, x), r1, r2, r3] ((1, x) :: st) mem Post) := zrf rfl
theorem s_204_19 {E : yE} {n d : Nat} {mem : yMem} {Post : Option yV → yMem → Prop} {st : List yV} {r0 r1 r2 r3 : Option yV} : zvc E (n + 1) zc_204 d xm_204 19 [r0, r1, r2, r3] ((1, 95) :: st) mem Post = (zvc E n zc_204 d xm_204 22 [r0, r1, r2, r3] ((1, 97) :: st) mem Post) := zrf rfl
theorem s_204_22 {E : yE} {n d : Nat} {mem : yMem} {Post : Option yV → yMem → Prop} {st : List yV} {r0 r1 r2 r3 : Option yV} : zvc E (n + 1) zc_204 d xm_204 22 [r0, r1, r2, r3] (st) mem Post = (zvc E n zc_204 d xm_204 23 [r0, r1, r2, r3] ((0, 2) :: st) mem Post) := zrf rfl
theorem s_204_23 {E : yE} {n d : Nat} {mem : yMem} {Post : Option yV → yMem → Prop} {st : List yV} {r0 r1 r2 r3 : Option yV} {z j : Int} : zvc E (n + 1) zc_204 d xm_204 23 [r0, r1, r2, r3] ((0, j) :: (1, z) :: st) mem Post = ((0 ≤ w32 j ∧ w32 j < ((zar z 0 : Nat) : Int)) ∧ zvc E n zc_204 d xm_204 24 [r0, r1, r2, r3] ((0, mem z.toNat (w32 j).toNat) :: st) mem Post) := zrf rfl
theorem s_204_24 {E : yE} {n d : Nat} {mem : yMem} {Post : Option yV → yMem → Prop} {st : List yV} {r0 r1 r2 r3 : Option yV} {x y : Int} : zvc E (n + 1) zc_204 d xm_204 24 [r0, r1, r2, r3] ((0, y) :: (0, x) :: st) mem Post = (zvc E n zc_204 d xm_204 25 [r0, r1, r2, r3] ((0, x * y) :: st) mem Post) := zrf rfl
theorem s_204_25 {E : yE} {n d : Nat} {mem : yMem} {Post : Option yV → yMem → Prop} {st : List yV} {r0 r1 r3 : Option yV} {x : Int} : zvc E (n + 1) zc_204 d xm_204 25 [r0, r1, some (0, x), r3] (st) mem Post = (zvc E n zc_204 d xm_204 26 [r0, r1, some (0, x), r3] ((0, x) :: st) mem Post) := zrf rfl
theorem s_204_26 {E : yE} {n d : Nat} {mem : yMem} {Post : Option yV → yMem → Prop} {st : List yV} {r0 r1 r2 r3 : Option yV} {x y : Int} : zvc E (n + 1) zc_204 d xm_204 26 [r0, r1, r2, r3] ((0, y) :: (0, x) :: st) mem Post = (zvc E n zc_204 d xm_204 27 [r0, r1, r2, r3] ((0, x + y) :: st) mem Post) := zrf rfl
theorem s_204_27 {E : yE} {n d : Nat} {mem : yMem} {Post : Option yV → yMem → Prop} {st : List yV} {r0 r1 r2 r3 : Option yV} : zvc E (n + 1) zc_204 d xm_204 27 [r0, r1, r2, r3] (st) mem Post = (zvc E n zc_204 d xm_204 28 [r0, r1, r2, r3] ((0, 0) :: st) mem Post) := zrf rfl
theorem s_204_28 {E : yE} {n d : Nat} {mem : yMem} {Post : Option yV → yMem → Prop} {st : List yV} {r0 r1 r2 r3 : Option yV} {x z j : Int} : zvc E (n + 1) zc_204 d xm_204 28 [r0, r1, r2, r3] ((0, x) :: (0, j) :: (1, z) :: st) mem Post = ((0 ≤ w32 j ∧ w32 j < ((zar z 0 : Nat) : Int)) ∧ zvc E n zc_204 d xm_204 29 [r0, r1, r2, r3] (st) (yset mem z.toNat (w32 j).toNat x) Post) := zrf rfl
theorem s_204_29 {E : yE} {n d : Nat} {mem : yMem} {Post : Option yV → yMem → Prop} {st : List yV} {r1 r2 r3 : Option yV} {x : Int} : zvc E (n + 1) zc_204 d xm_204 29 [some (1, x), r1, r2, r3] (st) mem Post = (zvc E n zc_204 d xm_204 30 [some (1, x), r1, r2, r3] ((1, x) :: st) mem Post) := zrf rfl
theorem s_204_30 {E : yE} {n d : Nat} {mem : yMem} {Post : Option yV → yMem → Prop} {st : List yV} {r0 r1 r2 r3 : Option yV} : zvc E (n + 1) zc_204 d xm_204 30 [r0, r1, r2, r3] ((1, 95) :: st) mem Post = (zvc E n zc_204 d xm_204 33 [r0, r1, r2, r3] ((1, 133) :: st) mem Post) := zrf rfl
theorem s_204_33 {E : yE} {n d : Nat} {mem : yMem} {Post : Option yV → yMem → Prop} {st : List yV} {r0 r1 r2 r3 : Option yV} : zvc E (n + 1) zc_204 d xm_204 33 [r0, r1, r2, r3] (st) mem Post = (zvc E n zc_204 d xm_204 36 [r0, r1, r2, r3] ((0, 1000) :: st) mem Post) := zrf rfl
theorem s_204_36 {E : yE} {n d : Nat} {mem : yMem} {Post : Option yV → yMem → Prop} {st : List yV} {r1 r2 r3 : Option yV} {x : Int} : zvc E (n + 1) zc_204 d xm_204 36 [some (1, x), r1, r2, r3] (st) mem Post = (zvc E n zc_204 d xm_204 37 [some (1, x), r1, r2, r3] ((1, x) :: st) mem Post) := zrf rfl
theorem s_204_37 {E : yE} {n d : Nat} {mem : yMem} {Post : Option yV → yMem → Prop} {st : List yV} {r0 r1 r2 r3 : Option yV} : zvc E (n + 1) zc_204 d xm_204 37 [r0, r1, r2, r3] ((1, 95) :: st) mem Post = (zvc E n zc_204 d xm_204 40 [r0, r1, r2, r3] ((1, 97) :: st) mem Post) := zrf rfl
theorem s_204_40 {E : yE} {n d : Nat} {mem : yMem} {Post : Option yV → yMem → Prop} {st : List yV} {r0 r1 r2 r3 : Option yV} : zvc E (n + 1) zc_204 d xm_204 40 [r0, r1, r2, r3] (st) mem Post = (zvc E n zc_204 d xm_204 41 [r0, r1, r2, r3] ((0, 2) :: st) mem Post) := zrf rfl
theorem s_204_41 {E : yE} {n d : Nat} {mem : yMem} {Post : Option yV → yMem → Prop} {st : List yV} {r0 r1 r2 r3 : Option yV} {z j : Int} : zvc E (n + 1) zc_204 d xm_204 41 [r0, r1, r2, r3] ((0, j) :: (1, z) :: st) mem Post = ((0 ≤ w32 j ∧ w32 j < ((zar z 0 : Nat) : Int)) ∧ zvc E n zc_204 d xm_204 42 [r0, r1, r2, r3] ((0, mem z.toNat (w32 j).toNat) :: st) mem Post) := zrf rfl
theorem s_204_42 {E : yE} {n d : Nat} {mem : yMem} {Post : Option yV → yMem → Prop} {st : List yV} {r0 r1 r2 r3 : Option yV} {x y : Int} : zvc E (n + 1) zc_204 d xm_204 42 [r0, r1, r2, r3] ((0, y) :: (0, x) :: st) mem Post = (zvc E n zc_204 d xm_204 43 [r0, r1, r2, r3] ((0, x * y) :: st) mem Post) := zrf rfl
theorem s_204_43 {E : yE} {n d : Nat} {mem : yMem} {Post : Option yV → yMem → Prop} {st : List yV} {r0 r1 r3 : Option yV} {x : Int} : zvc E (n + 1) zc_204 d xm_204 43 [r0, r1, some (0, x), r3] (st) mem Post = (zvc E n zc_204 d xm_204 44 [r0, r1, some (0, x), r3] ((0, x) :: st) mem Post) := zrf rfl
theorem s_204_44 {E : yE} {n d : Nat} {mem : yMem} {Post : Option yV → yMem → Prop} {st : List yV} {r0 r1 r2 r3 : Option yV} {x y : Int} : zvc E (n + 1) zc_204 d xm_204 44 [r0, r1, r2, r3] ((0, y) :: (0, x) :: st) mem Post = (zvc E n zc_204 d xm_204 45 [r0, r1, r2, r3] ((0, x + y) :: st) mem Post) := zrf rfl
theorem s_204_45 {E : yE} {n d : Nat} {mem : yMem} {Post : Option yV → yMem → Prop} {st : List yV} {r0 r1 r2 r3 : Option yV} : zvc E (n + 1) zc_204 d xm_204 45 [r0, r1, r2, r3] (st) mem Post = (zvc E n zc_204 d xm_204 46 [r0, r1, r2, r3] ((0, 0) :: st) mem Post) := zrf rfl
theorem s_204_46 {E : yE} {n d : Nat} {mem : yMem} {Post : Option yV → yMem → Prop} {st : List yV} {r0 r1 r2 r3 : Option yV} {x z j : Int} : zvc E (n + 1) zc_204 d xm_204 46 [r0, r1, r2, r3] ((0, x) :: (0, j) :: (1, z) :: st) mem Post = ((0 ≤ w32 j ∧ w32 j < ((zar z 0 : Nat) : Int)) ∧ zvc E n zc_204 d xm_204 47 [r0, r1, r2, r3] (st) (yset mem z.toNat (w32 j).toNat x) Post) := zrf rfl
theorem s_204_47n {E : yE} {n d : Nat} {mem : yMem} {Post : Option yV → yMem → Prop} {st : List yV} {r0 r3 : Option yV} {x : Int} : zvc E (n + 1) zc_204 d xm_204 47 [r0, none, some (0, x), r3] (st) mem Post = (zvc E n zc_204 d xm_204 50 [r0, none, some (0, x + 1), r3] (st) mem Post) := zrf rfl
theorem s_204_47i {E : yE} {n d : Nat} {mem : yMem} {Post : Option yV → yMem → Prop} {st : List yV} {r0 r3 : Option yV} {x w : Int} : zvc E (n + 1) zc_204 d xm_204 47 [r0, some (0, w), some (0, x), r3] (st) mem Post = (zvc E n zc_204 d xm_204 50 [r0, some (0, w), some (0, x + 1), r3] (st) mem Post) := zrf rfl
theorem s_204_47p {E : yE} {n d : Nat} {mem : yMem} {Post : Option yV → yMem → Prop} {st : List yV} {r0 r3 : Option yV} {x w : Int} : zvc E (n + 1) zc_204 d xm_204 47 [r0, some (1, w), some (0, x), r3] (st) mem Post = (zvc E n zc_204 d xm_204 50 [r0, some (1, w), some (0, x + 1), r3] (st) mem Post) := zrf rfl
theorem s_204_47j {E : yE} {n d : Nat} {mem : yMem} {Post : Option yV → yMem → Prop} {st : List yV} {r0 r1 r3 : Option yV} {x : Int} : zvc E (n + 1) zc_204 d xm_204 47 [r0, r1, some (0, x), r3] (st) mem Post = (zvc E n zc_204 d xm_204 50 [r0, znl r1, some (0, x + 1), r3] (st) mem Post) := zrf rfl
theorem s_204_50 {E : yE} {n d : Nat} {mem : yMem} {Post : Option yV → yMem → Prop} {st : List yV} {r0 r1 r2 r3 : Option yV} : zvc E (n + 1) zc_204 d xm_204 50 [r0, r1, r2, r3] (st) mem Post = (zvc E n zc_204 d xm_204 6 [r0, r1, r2, r3] (st) mem Post) := zrf rfl
theorem s_204_53 {E : yE} {n d : Nat} {mem : yMem} {Post : Option yV → yMem → Prop} {st : List yV} {r1 r2 r3 : Option yV} {x : Int} : zvc E (n + 1) zc_204 d xm_204 53 [some (1, x), r1, r2, r3] (st) mem Post = (zvc E n zc_204 d xm_204 54 [some (1, x), r1, r2, r3] ((1, x) :: st) mem Post) := zrf rfl
theorem s_204_54 {E : yE} {n d : Nat} {mem : yMem} {Post : Option yV → yMem → Prop} {st : List yV} {r0 r1 r2 r3 : Option yV} : zvc E (n + 1) zc_204 d xm_204 54 [r0, r1, r2, r3] ((1, 95) :: st) mem Post = (zvc E n zc_204 d xm_204 57 [r0, r1, r2, r3] ((1, 97) :: st) mem Post) := zrf rfl
theorem s_204_57 {E : yE} {n d : Nat} {mem : yMem} {Post : Option yV → yMem → Prop} {st : List yV} {r0 r1 r2 r3 : Option yV} : zvc E (n + 1) zc_204 d xm_204 57 [r0, r1, r2, r3] (st) mem Post = (zvc E n zc_204 d xm_204 58 [r0, r1, r2, r3] ((0, 2) :: st) mem Post) := zrf rfl
theorem s_204_58 {E : yE} {n d : Nat} {mem : yMem} {Post : Option yV → yMem → Prop} {st : List yV} {r0 r1 r2 r3 : Option yV} {z j : Int} : zvc E (n + 1) zc_204 d xm_204 58 [r0, r1, r2, r3] ((0, j) :: (1, z) :: st) mem Post = ((0 ≤ w32 j ∧ w32 j < ((zar z 0 : Nat) : Int)) ∧ zvc E n zc_204 d xm_204 59 [r0, r1, r2, r3] ((0, mem z.toNat (w32 j).toNat) :: st) mem Post) := zrf rfl
theorem s_204_59 {E : yE} {n d : Nat} {mem : yMem} {Post : Option yV → yMem → Prop} {st : List yV} {r0 r1 r2 r3 : Option yV} : zvc E (n + 1) zc_204 d xm_204 59 [r0, r1, r2, r3] (st) mem Post = (zvc E n zc_204 d xm_204 60 [r0, r1, r2, r3] ((0, 1) :: st) mem Post) := zrf rfl
theorem s_204_60 {E : yE} {n d : Nat} {mem : yMem} {Post : Option yV → yMem → Prop} {st : List yV} {r0 r1 r2 r3 : Option yV} {x y : Int} : zvc E (n + 1) zc_204 d xm_204 60 [r0, r1, r2, r3] ((0, y) :: (0, x) :: st) mem Post = (zvc E n zc_204 d xm_204 61 [r0, r1, r2, r3] ((0, x - y) :: st) mem Post) := zrf rfl
theorem s_204_61n {E : yE} {n d : Nat} {mem : yMem} {Post : Option yV → yMem → Prop} {st : List yV} {r0 r2 r3 : Option yV} {x : Int} : zvc E (n + 1) zc_204 d xm_204 61 [r0, none, r2, r3] ((0, x) :: st) mem Post = (zvc E n zc_204 d xm_204 62 [r0, none, some (0, x), r3] (st) mem Post) := zrf rfl
theorem s_204_61i {E : yE} {n d : Nat} {mem : yMem} {Post : Option yV → yMem → Prop} {st : List yV} {r0 r2 r3 : Option yV} {x w : Int} : zvc E (n + 1) zc_204 d xm_204 61 [r0, some (0, w), r2, r3] ((0, x) :: st) mem Post = (zvc E n zc_204 d xm_204 62 [r0, some (0, w), some (0, x), r3] (st) mem Post) := zrf rfl
theorem s_204_61p {E : yE} {n d : Nat} {mem : yMem} {Post : Option yV → yMem → Prop} {st : List yV} {r0 r2 r3 : Option yV} {x w : Int} : zvc E (n + 1) zc_204 d xm_204 61 [r0, some (1, w), r2, r3] ((0, x) :: st) mem Post = (zvc E n zc_204 d xm_204 62 [r0, some (1, w), some (0, x), r3] (st) mem Post) := zrf rfl
theorem s_204_61j {E : yE} {n d : Nat} {mem : yMem} {Post : Option yV → yMem → Prop} {st : List yV} {r0 r1 r2 r3 : Option yV} {x : Int} : zvc E (n + 1) zc_204 d xm_204 61 [r0, r1, r2, r3] ((0, x) :: st) mem Post = (zvc E n zc_204 d xm_204 62 [r0, znl r1, some (0, x), r3] (st) mem Post) := zrf rfl
theorem g_204_62 {E : yE} {n d : Nat} {mem : yMem} {Post : Option yV → yMem → Prop} {st : List yV} {r0 r1 r3 : Option yV} {x : Int} : zgo E n zc_204 d xm_204 62 [r0, r1, some (0, x), r3] (st) mem Post = (zvc E n zc_204 d xm_204 63 [r0, r1, some (0, x), r3] ((0, x) :: st) mem Post) := zrf rfl
theorem k_204_62 {E : yE} {n d : Nat} {mem : yMem} {Post : Option yV → yMem → Prop} {st : List yV} {rg : zR} : zvc E (n + 1) zc_204 d xm_204 62 rg st mem Post = zG E d xm_204 62 rg st mem Post := zrf rfl
theorem s_204_63 {E : yE} {n d : Nat} {mem : yMem} {Post : Option yV → yMem → Prop} {st : List yV} {r0 r1 r2 r3 : Option yV} {x : Int} : zvc E (n + 1) zc_204 d xm_204 63 [r0, r1, r2, r3] ((0, x) :: st) mem Post = ((w32 x < w32 0 → zvc E n zc_204 d xm_204 134 [r0, r1, r2, r3] (st) mem Post) ∧ (¬ (w32 x < w32 0) → zvc E n zc_204 d xm_204 66 [r0, r1, r2, r3] (st) mem Post)) := zrf rfl
theorem s_204_66 {E : yE} {n d : Nat} {mem : yMem} {Post : Option yV → yMem → Prop} {st : List yV} {r0 r1 r2 r3 : Option yV} : zvc E (n + 1) zc_204 d xm_204 66 [r0, r1, r2, r3] (st) mem Post = (zvc E n zc_204 d xm_204 67 [r0, r1, r2, r3] ((0, 0) :: st) mem Post) := zrf rfl
theorem s_204_67n {E : yE} {n d : Nat} {mem : yMem} {Post : Option yV → yMem → Prop} {st : List yV} {r0 r1 r3 : Option yV} {x : Int} : zvc E (n + 1) zc_204 d xm_204 67 [r0, r1, none, r3] ((0, x) :: st) mem Post = (zvc E n zc_204 d xm_204 68 [r0, r1, none, some (0, x)] (st) mem Post) := zrf rfl
theorem s_204_67i {E : yE} {n d : Nat} {mem : yMem} {Post : Option yV → yMem → Prop} {st : List yV} {r0 r1 r3 : Option yV} {x w : Int} : zvc E (n + 1) zc_204 d xm_204 67 [r0, r1, some (0, w), r3] ((0, x) :: st) mem Post = (zvc E n zc_204 d xm_204 68 [r0, r1, some (0, w), some (0, x)] (st) mem Post) := zrf rfl
theorem s_204_67p {E : yE} {n d : Nat} {mem : yMem} {Post : Option yV → yMem → Prop} {st : List yV} {r0 r1 r3 : Option yV} {x w : Int} : zvc E (n + 1) zc_204 d xm_204 67 [r0, r1, some (1, w), r3] ((0, x) :: st) mem Post = (zvc E n zc_204 d xm_204 68 [r0, r1, some (1, w), some (0, x)] (st) mem Post) := zrf rfl
theorem s_204_67j {E : yE} {n d : Nat} {mem : yMem} {Post : Option yV → yMem → Prop} {st : List yV} {r0 r1 r2 r3 : Option yV} {x : Int} : zvc E (n + 1) zc_204 d xm_204 67 [r0, r1, r2, r3] ((0, x) :: st) mem Post = (zvc E n zc_204 d xm_204 68 [r0, r1, znl r2, some (0, x)] (st) mem Post) := zrf rfl
theorem g_204_68 {E : yE} {n d : Nat} {mem : yMem} {Post : Option yV → yMem → Prop} {st : List yV} {r0 r1 r2 : Option yV} {x : Int} : zgo E n zc_204 d xm_204 68 [r0, r1, r2, some (0, x)] (st) mem Post = (zvc E n zc_204 d xm_204 69 [r0, r1, r2, some (0, x)] ((0, x) :: st) mem Post) := zrf rfl
theorem k_204_68 {E : yE} {n d : Nat} {mem : yMem} {Post : Option yV → yMem → Prop} {st : List yV} {rg : zR} : zvc E (n + 1) zc_204 d xm_204 68 rg st mem Post = zG E d xm_204 68 rg st mem Post := zrf rfl
theorem s_204_69 {E : yE} {n d : Nat} {mem : yMem} {Post : Option yV → yMem → Prop} {st : List yV} {r0 r2 r3 : Option yV} {x : Int} : zvc E (n + 1) zc_204 d xm_204 69 [r0, some (0, x), r2, r3] (st) mem Post = (zvc E n zc_204 d xm_204 70 [r0, some (0, x), r2, r3] ((0, x) :: st) mem Post) := zrf rfl
theorem s_204_70 {E : yE} {n d : Nat} {mem : yMem} {Post : Option yV → yMem → Prop} {st : List yV} {r0 r1 r2 r3 : Option yV} {x y : Int} : zvc E (n + 1) zc_204 d xm_204 70 [r0, r1, r2, r3] ((0, y) :: (0, x) :: st) mem Post = ((w32 y < w32 x → zvc E n zc_204 d xm_204 92 [r0, r1, r2, r3] (st) mem Post) ∧ (¬ (w32 y < w32 x) → zvc E n zc_204 d xm_204 73 [r0, r1, r2, r3] (st) mem Post)) := zrf rfl
theorem s_204_73 {E : yE} {n d : Nat} {mem : yMem} {Post : Option yV → yMem → Prop} {st : List yV} {r1 r2 r3 : Option yV} {x : Int} : zvc E (n + 1) zc_204 d xm_204 73 [some (1, x), r1, r2, r3] (st) mem Post = (zvc E n zc_204 d xm_204 74 [some (1, x), r1, r2, r3] ((1, x) :: st) mem Post) := zrf rfl
theorem s_204_74 {E : yE} {n d : Nat} {mem : yMem} {Post : Option yV → yMem → Prop} {st : List yV} {r0 r1 r2 r3 : Option yV} : zvc E (n + 1) zc_204 d xm_204 74 [r0, r1, r2, r3] ((1, 95) :: st) mem Post = (zvc E n zc_204 d xm_204 77 [r0, r1, r2, r3] ((1, 132) :: st) mem Post) := zrf rfl
theorem s_204_77 {E : yE} {n d : Nat} {mem : yMem} {Post : Option yV → yMem → Prop} {st : List yV} {r0 r1 r2 r3 : Option yV} : zvc E (n + 1) zc_204 d xm_204 77 [r0, r1, r2, r3] (st) mem Post = (zvc E n zc_204 d xm_204 80 [r0, r1, r2, r3] ((0, 1000) :: st) mem Post) := zrf rfl
theorem s_204_80 {E : yE} {n d : Nat} {mem : yMem} {Post : Option yV → yMem → Prop} {st : List yV} {r0 r1 r3 : Option yV} {x : Int} : zvc E (n + 1) zc_204 d xm_204 80 [r0, r1, some (0, x), r3] (st) mem Post = (zvc E n zc_204 d xm_204 81 [r0, r1, some (0, x), r3] ((0, x) :: st) mem Post) := zrf rfl
theorem s_204_81 {E : yE} {n d : Nat} {mem : yMem} {Post : Option yV → yMem → Prop} {st : List yV} {r0 r1 r2 r3 : Option yV} {x y : Int} : zvc E (n + 1) zc_204 d xm_204 81 [r0, r1, r2, r3] ((0, y) :: (0, x) :: st) mem Post = (zvc E n zc_204 d xm_204 82 [r0, r1, r2, r3] ((0, x * y) :: st) mem Post) := zrf rfl
theorem s_204_82 {E : yE} {n d : Nat} {mem : yMem} {Post : Option yV → yMem → Prop} {st : List yV} {r0 r1 r2 : Option yV} {x : Int} : zvc E (n + 1) zc_204 d xm_204 82 [r0, r1, r2, some (0, x)] (st) mem Post = (zvc E n zc_204 d xm_204 83 [r0, r1, r2, some (0, x)] ((0, x) :: st) mem Post) := zrf rfl
theorem s_204_83 {E : yE} {n d : Nat} {mem : yMem} {Post : Option yV → yMem → Prop} {st : List yV} {r0 r1 r2 r3 : Option yV} {x y : Int} : zvc E (n + 1) zc_204 d xm_204 83 [r0, r1, r2, r3] ((0, y) :: (0, x) :: st) mem Post = (zvc E n zc_204 d xm_204 84 [r0, r1, r2, r3] ((0, x + y) :: st) mem Post) := zrf rfl
theorem s_204_84 {E : yE} {n d : Nat} {mem : yMem} {Post : Option yV → yMem → Prop} {st : List yV} {r0 r1 r2 r3 : Option yV} : zvc E (n + 1) zc_204 d xm_204 84 [r0, r1, r2, r3] (st) mem Post = (zvc E n zc_204 d xm_204 85 [r0, r1, r2, r3] ((0, (-1)) :: st) mem Post) := zrf rfl
theorem s_204_85 {E : yE} {n d : Nat} {mem : yMem} {Post : Option yV → yMem → Prop} {st : List yV} {r0 r1 r2 r3 : Option yV} {x z j : Int} : zvc E (n + 1) zc_204 d xm_204 85 [r0, r1, r2, r3] ((0, x) :: (0, j) :: (1, z) :: st) mem Post = ((0 ≤ w32 j ∧ w32 j < ((zar z 0 : Nat) : Int)) ∧ zvc E n zc_204 d xm_204 86 [r0, r1, r2, r3] (st) (yset mem z.toNat (w32 j).toNat x) Post) := zrf rfl
theorem s_204_86n {E : yE} {n d : Nat} {mem : yMem} {Post : Option yV → yMem → Prop} {st : List yV} {r0 r1 : Option yV} {x : Int} : zvc E (n + 1) zc_204 d xm_204 86 [r0, r1, none, some (0, x)] (st) mem Post = (zvc E n zc_204 d xm_204 89 [r0, r1, none, some (0, x + 1)] (st) mem Post) := zrf rfl
theorem s_204_86i {E : yE} {n d : Nat} {mem : yMem} {Post : Option yV → yMem → Prop} {st : List yV} {r0 r1 : Option yV} {x w : Int} : zvc E (n + 1) zc_204 d xm_204 86 [r0, r1, some (0, w), some (0, x)] (st) mem Post = (zvc E n zc_204 d xm_204 89 [r0, r1, some (0, w), some (0, x + 1)] (st) mem Post) := zrf rfl
theorem s_204_86p {E : yE} {n d : Nat} {mem : yMem} {Post : Option yV → yMem → Prop} {st : List yV} {r0 r1 : Option yV} {x w : Int} : zvc E (n + 1) zc_204 d xm_204 86 [r0, r1, some (1, w), some (0, x)] (st) mem Post = (zvc E n zc_204 d xm_204 89 [r0, r1, some (1, w), some (0, x + 1)] (st) mem Post) := zrf rfl
theorem s_204_86j {E : yE} {n d : Nat} {mem : yMem} {Post : Option yV → yMem → Prop} {st : List yV} {r0 r1 r2 : Option yV} {x : Int} : zvc E (n + 1) zc_204 d xm_204 86 [r0, r1, r2, some (0, x)] (st) mem Post = (zvc E n zc_204 d xm_204 89 [r0, r1, znl r2, some (0, x + 1)] (st) mem Post) := zrf rfl
theorem s_204_89 {E : yE} {n d : Nat} {mem : yMem} {Post : Option yV → yMem → Prop} {st : List yV} {r0 r1 r2 r3 : Option yV} : zvc E (n + 1) zc_204 d xm_204 89 [r0, r1, r2, r3] (st) mem Post = (zvc E n zc_204 d xm_204 68 [r0, r1, r2, r3] (st) mem Post) := zrf rfl
theorem s_204_92 {E : yE} {n d : Nat} {mem : yMem} {Post : Option yV → yMem → Prop} {st : List yV} {r1 r2 r3 : Option yV} {x : Int} : zvc E (n + 1) zc_204 d xm_204 92 [some (1, x), r1, r2, r3] (st) mem Post = (zvc E n zc_204 d xm_204 93 [some (1, x), r1, r2, r3] ((1, x) :: st) mem Post) := zrf rfl
theorem s_204_93 {E : yE} {n d : Nat} {mem : yMem} {Post : Option yV → yMem → Prop} {st : List yV} {r0 r1 r2 r3 : Option yV} {z : Int} : zvc E (n + 1) zc_204 d xm_204 93 [r0, r1, r2, r3] ((1, z) :: st) mem Post = (zio z 12 = true ∧ ysum st ≤ 8 ∧ yCon E d xm_234 [(1, z)] mem (fun v mem' => zgk E d xm_204 96 [r0, r1, r2, r3] st v mem' Post)) := zrf rfl
theorem g_204_96 {E : yE} {n d : Nat} {mem : yMem} {Post : Option yV → yMem → Prop} {st : List yV} {r1 r2 r3 : Option yV} {x : Int} : zgo E n zc_204 d xm_204 96 [some (1, x), r1, r2, r3] (st) mem Post = (zvc E n zc_204 d xm_204 97 [some (1, x), r1, r2, r3] ((1, x) :: st) mem Post) := zrf rfl
theorem k_204_96 {E : yE} {n d : Nat} {mem : yMem} {Post : Option yV → yMem → Prop} {st : List yV} {rg : zR} : zvc E (n + 1) zc_204 d xm_204 96 rg st mem Post = zG E d xm_204 96 rg st mem Post := zrf rfl
theorem s_204_97 {E : yE} {n d : Nat} {mem : yMem} {Post : Option yV → yMem → Prop} {st : List yV} {r0 r1 r3 : Option yV} {x : Int} : zvc E (n + 1) zc_204 d xm_204 97 [r0, r1, some (0, x), r3] (st) mem Post = (zvc E n zc_204 d xm_204 98 [r0, r1, some (0, x), r3] ((0, x) :: st) mem Post) := zrf rfl
theorem s_204_98 {E : yE} {n d : Nat} {mem : yMem} {Post : Option yV → yMem → Prop} {st : List yV} {r0 r1 r2 r3 : Option yV} {z a0 : Int} : zvc E (n + 1) zc_204 d xm_204 98 [r0, r1, r2, r3] ((0, a0) :: (1, z) :: st) mem Post = (zio z 12 = true ∧ ysum st ≤ 8 ∧ yCon E d xm_208 [(1, z), (0, a0)] mem (fun v mem' => zgk E d xm_204 101 [r0, r1, r2, r3] st v mem' Post)) := zrf rfl
theorem s_204_101 {E : yE} {n d : Nat} {mem : yMem} {Post : Option yV → yMem → Prop} {st : List yV} {r0 r1 r2 r3 : Option yV} {x : Int} : zvc E (n + 1) zc_204 d xm_204 101 [r0, r1, r2, r3] ((0, x) :: st) mem Post = ((w32 x = w32 0 → zvc E n zc_204 d xm_204 120 [r0, r1, r2, r3] (st) mem Post) ∧ (¬ (w32 x = w32 0) → zvc E n zc_204 d xm_204 104 [r0, r1, r2, r3] (st) mem Post)) := zrf rfl
theorem s_204_104 {E : yE} {n d : Nat} {mem : yMem} {Post : Option yV → yMem → Prop} {st : List yV} {r1 r2 r3 : Option yV} {x : Int} : zvc E (n + 1) zc_204 d xm_204 104 [some (1, x), r1, r2, r3] (st) mem Post = (zvc E n zc_204 d xm_204 105 [some (1, x), r1, r2, r3] ((1, x) :: st) mem Post) := zrf rfl
theorem s_204_105 {E : yE} {n d : Nat} {mem : yMem} {Post : Option yV → yMem → Prop} {st : List yV} {r0 r1 r3 : Option yV} {x : Int} : zvc E (n + 1) zc_204 d xm_204 105 [r0, r1, some (0, x), r3] (st) mem Post = (zvc E n zc_204 d xm_204 106 [r0, r1, some (0, x), r3] ((0, x) :: st) mem Post) := zrf rfl
theorem s_204_106 {E : yE} {n d : Nat} {mem : yMem} {Post : Option yV → yMem → Prop} {st : List yV} {r0 r2 r3 : Option yV} {x : Int} : zvc E (n + 1) zc_204 d xm_204 106 [r0, some (0, x), r2, r3] (st) mem Post = (zvc E n zc_204 d xm_204 107 [r0, some (0, x), r2, r3] ((0, x) :: st) mem Post) := zrf rfl
theorem s_204_107 {E : yE} {n d : Nat} {mem : yMem} {Post : Option yV → yMem → Prop} {st : List yV} {r1 r2 r3 : Option yV} {x : Int} : zvc E (n + 1) zc_204 d xm_204 107 [some (1, x), r1, r2, r3] (st) mem Post = (zvc E n zc_204 d xm_204 108 [some (1, x), r1, r2, r3] ((1, x) :: st) mem Post) := zrf rfl
theorem s_204_108 {E : yE} {n d : Nat} {mem : yMem} {Post : Option yV → yMem → Prop} {st : List yV} {r0 r1 r3 : Option yV} {x : Int} : zvc E (n + 1) zc_204 d xm_204 108 [r0, r1, some (0, x), r3] (st) mem Post = (zvc E n zc_204 d xm_204 109 [r0, r1, some (0, x), r3] ((0, x) :: st) mem Post) := zrf rfl
theorem s_204_109 {E : yE} {n d : Nat} {mem : yMem} {Post : Option yV → yMem → Prop} {st : List yV} {r0 r1 r2 r3 : Option yV} {z a0 : Int} : zvc E (n + 1) zc_204 d xm_204 109 [r0, r1, r2, r3] ((0, a0) :: (1, z) :: st) mem Post = (zio z 12 = true ∧ ysum st ≤ 8 ∧ yCon E d xm_156 [(1, z), (0, a0)] mem (fun v mem' => zgk E d xm_204 112 [r0, r1, r2, r3] st v mem' Post)) := zrf rfl
theorem s_204_112 {E : yE} {n d : Nat} {mem : yMem} {Post : Option yV → yMem → Prop} {st : List yV} {r1 r2 r3 : Option yV} {x : Int} : zvc E (n + 1) zc_204 d xm_204 112 [some (1, x), r1, r2, r3] (st) mem Post = (zvc E n zc_204 d xm_204 113 [some (1, x), r1, r2, r3] ((1, x) :: st) mem Post) := zrf rfl
theorem s_204_113 {E : yE} {n d : Nat} {mem : yMem} {Post : Option yV → yMem → Prop} {st : List yV} {r0 r1 r3 : Option yV} {x : Int} : zvc E (n + 1) zc_204 d xm_204 113 [r0, r1, some (0, x), r3] (st) mem Post = (zvc E n zc_204 d xm_204 114 [r0, r1, some (0, x), r3] ((0, x) :: st) mem Post) := zrf rfl
theorem s_204_114 {E : yE} {n d : Nat} {mem : yMem} {Post : Option yV → yMem → Prop} {st : List yV} {r0 r1 r2 r3 : Option yV} {z a0 : Int} : zvc E (n + 1) zc_204 d xm_204 114 [r0, r1, r2, r3] ((0, a0) :: (1, z) :: st) mem Post = (zio z 12 = true ∧ ysum st ≤ 8 ∧ yCon E d xm_171 [(1, z), (0, a0)] mem (fun v mem' => zgk E d xm_204 117 [r0, r1, r2, r3] st v mem' Post)) := zrf rfl
theorem s_204_117 {E : yE} {n d : Nat} {mem : yMem} {Post : Option yV → yMem → Prop} {st : List yV} {r0 r1 r2 r3 : Option yV} {z a0 a1 a2 a3 : Int} : zvc E (n + 1) zc_204 d xm_204 117 [r0, r1, r2, r3] ((0, a3) :: (0, a2) :: (0, a1) :: (0, a0) :: (1, z) :: st) mem Post = (zio z 12 = true ∧ ysum st ≤ 8 ∧ yCon E d xm_245 [(1, z), (0, a0), (0, a1), (0, a2), (0, a3)] mem (fun v mem' => zgk E d xm_204 120 [r0, r1, r2, r3] st v mem' Post)) := zrf rfl
theorem g_204_120 {E : yE} {n d : Nat} {mem : yMem} {Post : Option yV → yMem → Prop} {st : List yV} {r1 r2 r3 : Option yV} {x : Int} : zgo E n zc_204 d xm_204 120 [some (1, x), r1, r2, r3] (st) mem Post = (zvc E n zc_204 d xm_204 121 [some (1, x), r1, r2, r3] ((1, x) :: st) mem Post) := zrf rfl
theorem k_204_120 {E : yE} {n d : Nat} {mem : yMem} {Post : Option yV → yMem → Prop} {st : List yV} {rg : zR} : zvc E (n + 1) zc_204 d xm_204 120 rg st mem Post = zG E d xm_204 120 rg st mem Post := zrf rfl
theorem s_204_121 {E : yE} {n d : Nat} {mem : yMem} {Post : Option yV → yMem → Prop} {st : List yV} {r0 r1 r3 : Option yV} {x : Int} : zvc E (n + 1) zc_204 d xm_204 121 [r0, r1, some (0, x), r3] (st) mem Post = (zvc E n zc_204 d xm_204 122 [r0, r1, some (0, x), r3] ((0, x) :: st) mem Post) := zrf rfl
theorem s_204_122 {E : yE} {n d : Nat} {mem : yMem} {Post : Option yV → yMem → Prop} {st : List yV} {r0 r1 r2 r3 : Option yV} {z a0 : Int} : zvc E (n + 1) zc_204 d xm_204 122 [r0, r1, r2, r3] ((0, a0) :: (1, z) :: st) mem Post = (zio z 12 = true ∧ ysum st ≤ 8 ∧ yCon E d xm_175 [(1, z), (0, a0)] mem (fun v mem' => zgk E d xm_204 125 [r0, r1, r2, r3] st v mem' Post)) := zrf rfl
theorem s_204_125 {E : yE} {n d : Nat} {mem : yMem} {Post : Option yV → yMem → Prop} {st : List yV} {r0 r1 r2 r3 : Option yV} {x : Int} : zvc E (n + 1) zc_204 d xm_204 125 [r0, r1, r2, r3] ((0, x) :: st) mem Post = ((¬ w32 x = w32 0 → zvc E n zc_204 d xm_204 96 [r0, r1, r2, r3] (st) mem Post) ∧ (¬ (¬ w32 x = w32 0) → zvc E n zc_204 d xm_204 128 [r0, r1, r2, r3] (st) mem Post)) := zrf rfl
theorem s_204_128n {E : yE} {n d : Nat} {mem : yMem} {Post : Option yV → yMem → Prop} {st : List yV} {r0 r3 : Option yV} {x : Int} : zvc E (n + 1) zc_204 d xm_204 128 [r0, none, some (0, x), r3] (st) mem Post = (zvc E n zc_204 d xm_204 131 [r0, none, some (0, x + (-1)), r3] (st) mem Post) := zrf rfl
theorem s_204_128i {E : yE} {n d : Nat} {mem : yMem} {Post : Option yV → yMem → Prop} {st : List yV} {r0 r3 : Option yV} {x w : Int} : zvc E (n + 1) zc_204 d xm_204 128 [r0, some (0, w), some (0, x), r3] (st) mem Post = (zvc E n zc_204 d xm_204 131 [r0, some (0, w), some (0, x + (-1)), r3] (st) mem Post) := zrf rfl
theorem s_204_128p {E : yE} {n d : Nat} {mem : yMem} {Post : Option yV → yMem → Prop} {st : List yV} {r0 r3 : Option yV} {x w : Int} : zvc E (n + 1) zc_204 d xm_204 128 [r0, some (1, w), some (0, x), r3] (st) mem Post = (zvc E n zc_204 d xm_204 131 [r0, some (1, w), some (0, x + (-1)), r3] (st) mem Post) := zrf rfl
theorem s_204_128j {E : yE} {n d : Nat} {mem : yMem} {Post : Option yV → yMem → Prop} {st : List yV} {r0 r1 r3 : Option yV} {x : Int} : zvc E (n + 1) zc_204 d xm_204 128 [r0, r1, some (0, x), r3] (st) mem Post = (zvc E n zc_204 d xm_204 131 [r0, znl r1, some (0, x + (-1)), r3] (st) mem Post) := zrf rfl
theorem s_204_131 {E : yE} {n d : Nat} {mem : yMem} {Post : Option yV → yMem → Prop} {st : List yV} {r0 r1 r2 r3 : Option yV} : zvc E (n + 1) zc_204 d xm_204 131 [r0, r1, r2, r3] (st) mem Post = (zvc E n zc_204 d xm_204 62 [r0, r1, r2, r3] (st) mem Post) := zrf rfl
theorem s_204_134 {E : yE} {n d : Nat} {mem : yMem} {Post : Option yV → yMem → Prop} {r0 r1 r2 r3 : Option yV} : zvc E (n + 1) zc_204 d xm_204 134 [r0, r1, r2, r3] ([]) mem Post = (Post none mem) := zrf rfl
theorem e_204 {E : yE} {d : Nat} {mem : yMem} {Q : Option yV → yMem → Prop} {z a0 : Int} (h : zG E d xm_204 0 [some (1, z), some (0, a0), none, none] [] mem Q) : yCon E (d + 1) xm_204 [(1, z), (0, a0)] mem Q := zcon_of xmo_204 (Nat.le_of_ble_eq_true rfl) h

theorem zix_lt {f : Nat → Int} {b : Int} (hb : 0 ≤ b) : ∀ n, (∀ j, j < n → 0 ≤ w32 (f j) ∧ w32 (f j) < b) → 0 ≤ zix f b n ∧ zix f b n < b ^ n
  | 0, _ => ⟨Int.le_refl _, by simp [zix]⟩
  | n + 1, h => by
    have ih := zix_lt hb n (fun j hj => h j (by omega))
    have hn := h n (by omega)
    have h1 : 0 ≤ zix f b n * b := Int.mul_nonneg ih.1 hb
    have h2 : (zix f b n + 1) * b ≤ b ^ n * b := Int.mul_le_mul_of_nonneg_right (by omega) hb
    rw [Int.add_mul, Int.one_mul] at h2
    rw [Int.pow_succ]
    simp only [zix]
    generalize b ^ n * b = B at h2 ⊢
    generalize zix f b n * b = Z at h1 h2 ⊢
    omega
theorem zco_0 {f g : Nat → Int} {nv : Int} {v : Nat} : ∀ k, (∀ j, j < k → w32 (g j) = nv) → zco f g nv v k = 0
  | 0, _ => rfl
  | k + 1, h => by
    simp only [zco]
    rw [zco_0 k (fun j hj => h j (by omega)), if_pos (h k (by omega))]
    rfl
/-- may the k-th of a row sing -/
def zmkg (cr nv : Int) (g : Nat → Int) (k : Nat) : Prop := w32 (g k) = w32 nv ∨ (¬ w32 (ybin 3 (ybin 7 cr (g k)) 1) = 1 ∧ ∀ i, i < k → ¬ w32 (g i) = w32 (g k))
/-- a row of VOICES for a VERSE -/
def zrw (b : yMem) (V : Int) (g : Nat → Int) : Prop := (∀ j, j < 3 → 0 ≤ w32 (g j) ∧ w32 (g j) ≤ w32 (b 97 1)) ∧ ∀ k, k < (w32 (b 109 V.toNat)).toNat → zmkg (b 122 0) (b 97 1) g k
def zcst (b : yMem) (V : Int) (g : Nat → Int) : Int := zco (b 134) g (w32 (b 97 1)) V.toNat (w32 (b 109 V.toNat)).toNat
def zgan (b : yMem) (V : Int) (g : Nat → Int) : Int := zco (b 135) g (w32 (b 97 1)) V.toNat (w32 (b 109 V.toNat)).toNat
/-- what stands for so many crowns comes of a row -/
def zat (b : yMem) (V : Int) (bn bc : Nat → Int) (c : Int) : Prop := ∃ g, zrw b V g ∧ zcst b V g ≤ c ∧ w32 (bn (1000 * V + c).toNat) = zgan b V g + w32 (bn (1000 * (V + 1) + c - zcst b V g).toNat) ∧ w32 (bc (1000 * V + c).toNat) = zcst b V g + w32 (bc (1000 * (V + 1) + c - zcst b V g).toNat)
def zbd (V : Int) (bn bc : Nat → Int) (c : Int) : Prop := (0 ≤ w32 (bn (1000 * V + c).toNat) ∧ w32 (bn (1000 * V + c).toNat) ≤ 24 * (4 - V)) ∧ 0 ≤ w32 (bc (1000 * V + c).toNat) ∧ w32 (bc (1000 * V + c).toNat) ≤ 3000 * (4 - V)
theorem zat_loc {b : yMem} {V c : Int} {bn bc bn' bc' : Nat → Int} (hV : 0 ≤ V) (h1 : bn' (1000 * V + c).toNat = bn (1000 * V + c).toNat) (h1' : bc' (1000 * V + c).toNat = bc (1000 * V + c).toNat) (h2 : ∀ j : Nat, 1000 * (V + 1) ≤ (j : Int) → bn' j = bn j ∧ bc' j = bc j) (h : zat b V bn bc c) : zat b V bn' bc' c := by
  obtain ⟨g, hr, hc, k1, k2⟩ := h
  have q := h2 (1000 * (V + 1) + c - zcst b V g).toNat (by omega)
  exact ⟨g, hr, hc, by rw [h1, q.1]; exact k1, by rw [h1', q.2]; exact k2⟩
/-- VERSES above V are laid -/
def LbI (b : yMem) (cr V : Int) (m : yMem) : Prop :=
  (∀ i j, i ≠ 132 → i ≠ 133 → i ≠ 136 → m i j = b i j) ∧ aGok m ∧
  (∀ u, V < u → u ≤ w32 (b 97 2) → ∀ c, 0 ≤ c → c ≤ cr → zbd u (m 132) (m 133) c) ∧
  (∀ u, V < u → u < w32 (b 97 2) → ∀ c, 0 ≤ c → c ≤ cr → zat b u (m 132) (m 133) c)
theorem LbI_loc {b m m' : yMem} {cr V : Int} (hV : -1 ≤ V) (hI : LbI b cr V m) (hF : ∀ i j, i ≠ 132 → i ≠ 133 → i ≠ 136 → m' i j = m i j) (hG : aGok m') (h2 : ∀ j : Nat, 1000 * (V + 1) ≤ (j : Int) → m' 132 j = m 132 j ∧ m' 133 j = m 133 j) : LbI b cr V m' := by
  refine ⟨fun i j a1 a2 a3 => by rw [hF i j a1 a2 a3]; exact hI.1 i j a1 a2 a3, hG, fun u h3 h4 c c0 c1 => ?_, fun u h3 h4 c c0 c1 => ?_⟩
  · have hz := hI.2.2.1 u h3 h4 c c0 c1
    have q := h2 (1000 * u + c).toNat (by omega)
    unfold zbd at hz ⊢
    rw [q.1, q.2]
    exact hz
  · have q := h2 (1000 * u + c).toNat (by omega)
    exact zat_loc (by omega) q.1 q.2 (fun j hj => h2 j (by omega)) (hI.2.2.2 u h3 h4 c c0 c1)
/-- VERSES above V are laid, V's rows up to one of them -/
def LbJ (b : yMem) (cr V : Int) (m : yMem) : Prop :=
  LbI b cr V m ∧ (∀ c, 0 ≤ c → c ≤ cr → w32 (m 132 (1000 * V + c).toNat) = -1 ∨ (zat b V (m 132) (m 133) c ∧ zbd V (m 132) (m 133) c)) ∧ (∀ j, j < 3 → 0 ≤ w32 (m 136 j) ∧ w32 (m 136 j) ≤ w32 (b 97 1))
theorem amod136 {i j : Nat} (h : i ≠ 136) : amod [(136, 0)] i j = false := by
  cases hm : amod [(136, 0)] i j with
  | false => rfl
  | true =>
    obtain ⟨q, q1, q2, q3⟩ := amod_ex hm
    simp only [List.mem_cons, List.not_mem_nil, or_false] at q1
    subst q1
    exact absurd q2.symm h
/-- behind goesNext -/
theorem Gn_ok {m m' : yMem} {P : Nat} {x : Int} (hG : aGok m) (hq : GnQ m P x m') : (∀ i j, i ≠ 136 → m' i j = m i j) ∧ aGok m' ∧ (∀ j, j < 3 → 0 ≤ w32 (m' 136 j) ∧ w32 (m' 136 j) ≤ w32 (m 97 1)) := by
  have g1 := ag hG 97 1 ag_97_1
  have fr : ∀ i j, i ≠ 136 → m' i j = m i j := fun i j h => hq.1 i j (amod136 h)
  refine ⟨fr, fun i j => ?_, fun j hj => ?_⟩
  · by_cases hi : i = 136
    · subst hi
      rcases hq.2.1 j with h | h
      · rw [agam_A ae_136]
        exact ⟨by dsimp only; omega, by dsimp only; omega⟩
      · rw [h.2]
        exact hG 136 j
    · rw [fr i j hi]
      exact hG i j
  · rcases hq.2.1 j with h | h
    · exact h
    · exact absurd hj h.1
theorem lb120 {E : yE} (hE : yEok E) {d : Nat} (hd : 2 ≤ d) {b m : yMem} {Q : Option yV → yMem → Prop} {cr v : Int} {r3 : Option yV} (hv : 0 ≤ w32 v) (hv3 : w32 v ≤ 3) (hJ : LbJ b (w32 cr) (w32 v) m) (hlast : (∀ j, j < (w32 (b 109 (w32 v).toNat)).toNat → w32 (m 136 j) = w32 (b 97 1)) → ∀ c, 0 ≤ c → c ≤ w32 cr → ¬ w32 (m 132 (1000 * w32 v + c).toNat) = -1) (again : ∀ m', LbJ b (w32 cr) (w32 v) m' → zix (m' 136) (w32 (b 97 1) + 1) (w32 (b 109 (w32 v).toNat)).toNat = zix (m 136) (w32 (b 97 1) + 1) (w32 (b 109 (w32 v).toNat)).toNat + 1 → zG E d xm_204 96 [some (1, 95), some (0, cr), some (0, v), r3] [] m' Q) (next : ∀ m', LbI b (w32 cr) (w32 v - 1) m' → zG E d xm_204 62 [some (1, 95), some (0, cr), some (0, v + -1), r3] [] m' Q) : zG E d xm_204 120 [some (1, 95), some (0, cr), some (0, v), r3] [] m Q := by
  obtain ⟨hI, hrow, hdig⟩ := hJ
  have e97 : m 97 = b 97 := funext fun j => hI.1 97 j (by decide) (by decide) (by decide)
  have e109 : m 109 = b 109 := funext fun j => hI.1 109 j (by decide) (by decide) (by decide)
  refine zgo_ok (n := 60) hE xmo_204 (cs := zc_204) ?_
  simp only [ynok_30, ynok_31, w32c_0, w32c_1, w32c_2, w32c_3, w32c_4, w32c_5, w32c_6, w32c_7, w32c_8, w32c_9, w32c_10, w32c_11, w32c_12, w32c_13, w32c_14, w32c_m1, w32c_m2, w32c_118, Int.reduceAdd, Int.reduceSub, Int.reduceMul, yput_s, yput_n, znl_n, znl_0, znl_1, znl_4, ysum_n, ysum_0, ysum_1, ysum_4, true_and, and_true, Nat.reduceAdd, Nat.reduceLeDiff, true_implies, eq_self, true_or, or_true, or_false, false_or, not_true_eq_false, not_false_eq_true, false_implies, implies_true, yset_s, yset_o, yset_d, ne_eq, Nat.reduceEqDiff, Int.reduceToNat, Int.reduceEq, Int.reduceLE, Int.reduceLT, Classical.not_not, Nat.reduceLT, ↓zvk_s, ↓zvk_n, ↓s_204_0, ↓s_204_1, ↓s_204_4, ↓s_204_5n, ↓s_204_5i, ↓s_204_5p, ↓g_204_6, ↓k_204_6, ↓s_204_7, ↓s_204_8, ↓s_204_11, ↓s_204_12, ↓s_204_15, ↓s_204_18, ↓s_204_19, ↓s_204_22, ↓s_204_23, ↓s_204_24, ↓s_204_25, ↓s_204_26, ↓s_204_27, ↓s_204_28, ↓s_204_29, ↓s_204_30, ↓s_204_33, ↓s_204_36, ↓s_204_37, ↓s_204_40, ↓s_204_41, ↓s_204_42, ↓s_204_43, ↓s_204_44, ↓s_204_45, ↓s_204_46, ↓s_204_47n, ↓s_204_47i, ↓s_204_47p, ↓s_204_50, ↓s_204_53, ↓s_204_54, ↓s_204_57, ↓s_204_58, ↓s_204_59, ↓s_204_60, ↓s_204_61n, ↓s_204_61i, ↓s_204_61p, ↓g_204_62, ↓k_204_62, ↓s_204_63, ↓s_204_66, ↓s_204_67n, ↓s_204_67i, ↓s_204_67p, ↓g_204_68, ↓k_204_68, ↓s_204_69, ↓s_204_70, ↓s_204_73, ↓s_204_74, ↓s_204_77, ↓s_204_80, ↓s_204_81, ↓s_204_82, ↓s_204_83, ↓s_204_84, ↓s_204_85, ↓s_204_86n, ↓s_204_86i, ↓s_204_86p, ↓s_204_89, ↓s_204_92, ↓s_204_93, ↓g_204_96, ↓k_204_96, ↓s_204_97, ↓s_204_98, ↓s_204_101, ↓s_204_104, ↓s_204_105, ↓s_204_106, ↓s_204_107, ↓s_204_108, ↓s_204_109, ↓s_204_112, ↓s_204_113, ↓s_204_114, ↓s_204_117, ↓g_204_120, ↓k_204_120, ↓s_204_121, ↓s_204_122, ↓s_204_125, ↓s_204_128n, ↓s_204_128i, ↓s_204_128p, ↓s_204_131, ↓s_204_134, w32c_1000, zar_97, zia_97, zln_97, zit_97, zar_132, zia_132, zln_132, zit_132, zar_133, zia_133, zln_133, zit_133, zio_95]
  refine c_goesNext hE (by omega) hI.2.1 hv hv3 (by rw [e97]; exact hdig) (fun x m' hq => ?_)
  obtain ⟨fr, hG', hd'⟩ := Gn_ok hI.2.1 hq
  have e132 : m' 132 = m 132 := funext fun j => fr 132 j (by decide)
  have e133 : m' 133 = m 133 := funext fun j => fr 133 j (by decide)
  have hI' : LbI b (w32 cr) (w32 v) m' := LbI_loc (by omega) hI (fun i j _ _ h => fr i j h) hG' (fun j _ => ⟨fr 132 j (by decide), fr 133 j (by decide)⟩)
  have q3 := hq.2.2
  rw [e97, e109] at q3
  refine zgk_s hE xmo_204 60 zc_204 ?_
  simp only [ynok_30, ynok_31, w32c_0, w32c_1, w32c_2, w32c_3, w32c_4, w32c_5, w32c_6, w32c_7, w32c_8, w32c_9, w32c_10, w32c_11, w32c_12, w32c_13, w32c_14, w32c_m1, w32c_m2, w32c_118, Int.reduceAdd, Int.reduceSub, Int.reduceMul, yput_s, yput_n, znl_n, znl_0, znl_1, znl_4, ysum_n, ysum_0, ysum_1, ysum_4, true_and, and_true, Nat.reduceAdd, Nat.reduceLeDiff, true_implies, eq_self, true_or, or_true, or_false, false_or, not_true_eq_false, not_false_eq_true, false_implies, implies_true, yset_s, yset_o, yset_d, ne_eq, Nat.reduceEqDiff, Int.reduceToNat, Int.reduceEq, Int.reduceLE, Int.reduceLT, Classical.not_not, Nat.reduceLT, ↓zvk_s, ↓zvk_n, ↓s_204_0, ↓s_204_1, ↓s_204_4, ↓s_204_5n, ↓s_204_5i, ↓s_204_5p, ↓g_204_6, ↓k_204_6, ↓s_204_7, ↓s_204_8, ↓s_204_11, ↓s_204_12, ↓s_204_15, ↓s_204_18, ↓s_204_19, ↓s_204_22, ↓s_204_23, ↓s_204_24, ↓s_204_25, ↓s_204_26, ↓s_204_27, ↓s_204_28, ↓s_204_29, ↓s_204_30, ↓s_204_33, ↓s_204_36, ↓s_204_37, ↓s_204_40, ↓s_204_41, ↓s_204_42, ↓s_204_43, ↓s_204_44, ↓s_204_45, ↓s_204_46, ↓s_204_47n, ↓s_204_47i, ↓s_204_47p, ↓s_204_50, ↓s_204_53, ↓s_204_54, ↓s_204_57, ↓s_204_58, ↓s_204_59, ↓s_204_60, ↓s_204_61n, ↓s_204_61i, ↓s_204_61p, ↓g_204_62, ↓k_204_62, ↓s_204_63, ↓s_204_66, ↓s_204_67n, ↓s_204_67i, ↓s_204_67p, ↓g_204_68, ↓k_204_68, ↓s_204_69, ↓s_204_70, ↓s_204_73, ↓s_204_74, ↓s_204_77, ↓s_204_80, ↓s_204_81, ↓s_204_82, ↓s_204_83, ↓s_204_84, ↓s_204_85, ↓s_204_86n, ↓s_204_86i, ↓s_204_86p, ↓s_204_89, ↓s_204_92, ↓s_204_93, ↓g_204_96, ↓k_204_96, ↓s_204_97, ↓s_204_98, ↓s_204_101, ↓s_204_104, ↓s_204_105, ↓s_204_106, ↓s_204_107, ↓s_204_108, ↓s_204_109, ↓s_204_112, ↓s_204_113, ↓s_204_114, ↓s_204_117, ↓g_204_120, ↓k_204_120, ↓s_204_121, ↓s_204_122, ↓s_204_125, ↓s_204_128n, ↓s_204_128i, ↓s_204_128p, ↓s_204_131, ↓s_204_134, w32c_1000, zar_97, zia_97, zln_97, zit_97, zar_132, zia_132, zln_132, zit_132, zar_133, zia_133, zln_133, zit_133, zio_95]
  refine ⟨fun hx => ?_, fun hx => ?_⟩
  · rcases q3 with ⟨_, hz⟩ | ⟨h0, _⟩
    · refine again m' ⟨hI', fun c c0 c1 => ?_, by rw [e97] at hd'; exact hd'⟩ hz
      rw [e132, e133]
      exact hrow c c0 c1
    · subst h0
      exact absurd (show w32 0 = 0 by decide) hx
  · rcases q3 with ⟨h1, _⟩ | ⟨_, hz⟩
    · subst h1
      exact absurd hx (by decide)
    · have hl := hlast hz
      refine next m' ⟨hI'.1, hI'.2.1, fun u h3 h4 c c0 c1 => ?_, fun u h3 h4 c c0 c1 => ?_⟩
      · by_cases hu : u = w32 v
        · subst hu
          rw [e132, e133]
          rcases hrow c c0 c1 with h | h
          · exact absurd h (hl c c0 c1)
          · exact h.2
        · exact hI'.2.2.1 u (by omega) h4 c c0 c1
      · by_cases hu : u = w32 v
        · subst hu
          rw [e132, e133]
          rcases hrow c c0 c1 with h | h
          · exact absurd h (hl c c0 c1)
          · exact h.1
        · exact hI'.2.2.2 u (by omega) h4 c c0 c1
theorem lb96 {E : yE} (hE : yEok E) {d : Nat} (hd : 2 ≤ d) {b : yMem} {Q : Option yV → yMem → Prop} {cr v B : Int} {r3 : Option yV} (hv : 0 ≤ w32 v) (hv3 : w32 v ≤ 3) (hvn : w32 v < w32 (b 97 2)) (hcr : w32 cr ≤ 999) (hB : ∀ g : Nat → Int, (∀ j, j < 3 → 0 ≤ w32 (g j) ∧ w32 (g j) ≤ w32 (b 97 1)) → zix g (w32 (b 97 1) + 1) (w32 (b 109 (w32 v).toNat)).toNat < B) (next : ∀ m', LbI b (w32 cr) (w32 v - 1) m' → zG E d xm_204 62 [some (1, 95), some (0, cr), some (0, v + -1), r3] [] m' Q) : ∀ (n : Nat) (m : yMem), (B - zix (m 136) (w32 (b 97 1) + 1) (w32 (b 109 (w32 v).toNat)).toNat).toNat = n → LbJ b (w32 cr) (w32 v) m → zG E d xm_204 96 [some (1, 95), some (0, cr), some (0, v), r3] [] m Q := by
  intro n
  induction n with
  | zero =>
    intro m hn hJ
    have := hB (m 136) hJ.2.2
    omega
  | succ n ih =>
    intro m hn hJ
    have again : ∀ m1 : yMem, m1 136 = m 136 → ∀ m', LbJ b (w32 cr) (w32 v) m' → zix (m' 136) (w32 (b 97 1) + 1) (w32 (b 109 (w32 v).toNat)).toNat = zix (m1 136) (w32 (b 97 1) + 1) (w32 (b 109 (w32 v).toNat)).toNat + 1 → zG E d xm_204 96 [some (1, 95), some (0, cr), some (0, v), r3] [] m' Q := fun m1 e1 m' hJ' hz => by
      rw [e1] at hz
      have := hB (m' 136) hJ'.2.2
      exact ih m' (by omega) hJ'
    have hJ0 := hJ
    obtain ⟨hI, hrow, hdig⟩ := hJ
    have hG := hI.2.1
    have e97 : m 97 = b 97 := funext fun j => hI.1 97 j (by decide) (by decide) (by decide)
    have e109 : m 109 = b 109 := funext fun j => hI.1 109 j (by decide) (by decide) (by decide)
    have e122 : m 122 = b 122 := funext fun j => hI.1 122 j (by decide) (by decide) (by decide)
    have e134 : m 134 = b 134 := funext fun j => hI.1 134 j (by decide) (by decide) (by decide)
    have e135 : m 135 = b 135 := funext fun j => hI.1 135 j (by decide) (by decide) (by decide)
    have hdm : ∀ j, j < 3 → 0 ≤ w32 (m 136 j) ∧ w32 (m 136 j) ≤ w32 (m 97 1) := by rw [e97]; exact hdig
    have g109 := agA hG 109 (w32 v).toNat ae_109
    rw [e109] at g109
    refine zgo_ok (n := 60) hE xmo_204 (cs := zc_204) ?_
    simp only [ynok_30, ynok_31, w32c_0, w32c_1, w32c_2, w32c_3, w32c_4, w32c_5, w32c_6, w32c_7, w32c_8, w32c_9, w32c_10, w32c_11, w32c_12, w32c_13, w32c_14, w32c_m1, w32c_m2, w32c_118, Int.reduceAdd, Int.reduceSub, Int.reduceMul, yput_s, yput_n, znl_n, znl_0, znl_1, znl_4, ysum_n, ysum_0, ysum_1, ysum_4, true_and, and_true, Nat.reduceAdd, Nat.reduceLeDiff, true_implies, eq_self, true_or, or_true, or_false, false_or, not_true_eq_false, not_false_eq_true, false_implies, implies_true, yset_s, yset_o, yset_d, ne_eq, Nat.reduceEqDiff, Int.reduceToNat, Int.reduceEq, Int.reduceLE, Int.reduceLT, Classical.not_not, Nat.reduceLT, ↓zvk_s, ↓zvk_n, ↓s_204_0, ↓s_204_1, ↓s_204_4, ↓s_204_5n, ↓s_204_5i, ↓s_204_5p, ↓g_204_6, ↓k_204_6, ↓s_204_7, ↓s_204_8, ↓s_204_11, ↓s_204_12, ↓s_204_15, ↓s_204_18, ↓s_204_19, ↓s_204_22, ↓s_204_23, ↓s_204_24, ↓s_204_25, ↓s_204_26, ↓s_204_27, ↓s_204_28, ↓s_204_29, ↓s_204_30, ↓s_204_33, ↓s_204_36, ↓s_204_37, ↓s_204_40, ↓s_204_41, ↓s_204_42, ↓s_204_43, ↓s_204_44, ↓s_204_45, ↓s_204_46, ↓s_204_47n, ↓s_204_47i, ↓s_204_47p, ↓s_204_50, ↓s_204_53, ↓s_204_54, ↓s_204_57, ↓s_204_58, ↓s_204_59, ↓s_204_60, ↓s_204_61n, ↓s_204_61i, ↓s_204_61p, ↓g_204_62, ↓k_204_62, ↓s_204_63, ↓s_204_66, ↓s_204_67n, ↓s_204_67i, ↓s_204_67p, ↓g_204_68, ↓k_204_68, ↓s_204_69, ↓s_204_70, ↓s_204_73, ↓s_204_74, ↓s_204_77, ↓s_204_80, ↓s_204_81, ↓s_204_82, ↓s_204_83, ↓s_204_84, ↓s_204_85, ↓s_204_86n, ↓s_204_86i, ↓s_204_86p, ↓s_204_89, ↓s_204_92, ↓s_204_93, ↓g_204_96, ↓k_204_96, ↓s_204_97, ↓s_204_98, ↓s_204_101, ↓s_204_104, ↓s_204_105, ↓s_204_106, ↓s_204_107, ↓s_204_108, ↓s_204_109, ↓s_204_112, ↓s_204_113, ↓s_204_114, ↓s_204_117, ↓g_204_120, ↓k_204_120, ↓s_204_121, ↓s_204_122, ↓s_204_125, ↓s_204_128n, ↓s_204_128i, ↓s_204_128p, ↓s_204_131, ↓s_204_134, w32c_1000, zar_97, zia_97, zln_97, zit_97, zar_132, zia_132, zln_132, zit_132, zar_133, zia_133, zln_133, zit_133, zio_95]
    refine c_mayBe hE hd hG hv hv3 (fun hno => ?_) (fun hyes => ?_)
    · refine zgk_s hE xmo_204 60 zc_204 ?_
      simp only [ynok_30, ynok_31, w32c_0, w32c_1, w32c_2, w32c_3, w32c_4, w32c_5, w32c_6, w32c_7, w32c_8, w32c_9, w32c_10, w32c_11, w32c_12, w32c_13, w32c_14, w32c_m1, w32c_m2, w32c_118, Int.reduceAdd, Int.reduceSub, Int.reduceMul, yput_s, yput_n, znl_n, znl_0, znl_1, znl_4, ysum_n, ysum_0, ysum_1, ysum_4, true_and, and_true, Nat.reduceAdd, Nat.reduceLeDiff, true_implies, eq_self, true_or, or_true, or_false, false_or, not_true_eq_false, not_false_eq_true, false_implies, implies_true, yset_s, yset_o, yset_d, ne_eq, Nat.reduceEqDiff, Int.reduceToNat, Int.reduceEq, Int.reduceLE, Int.reduceLT, Classical.not_not, Nat.reduceLT, ↓zvk_s, ↓zvk_n, ↓s_204_0, ↓s_204_1, ↓s_204_4, ↓s_204_5n, ↓s_204_5i, ↓s_204_5p, ↓g_204_6, ↓k_204_6, ↓s_204_7, ↓s_204_8, ↓s_204_11, ↓s_204_12, ↓s_204_15, ↓s_204_18, ↓s_204_19, ↓s_204_22, ↓s_204_23, ↓s_204_24, ↓s_204_25, ↓s_204_26, ↓s_204_27, ↓s_204_28, ↓s_204_29, ↓s_204_30, ↓s_204_33, ↓s_204_36, ↓s_204_37, ↓s_204_40, ↓s_204_41, ↓s_204_42, ↓s_204_43, ↓s_204_44, ↓s_204_45, ↓s_204_46, ↓s_204_47n, ↓s_204_47i, ↓s_204_47p, ↓s_204_50, ↓s_204_53, ↓s_204_54, ↓s_204_57, ↓s_204_58, ↓s_204_59, ↓s_204_60, ↓s_204_61n, ↓s_204_61i, ↓s_204_61p, ↓g_204_62, ↓k_204_62, ↓s_204_63, ↓s_204_66, ↓s_204_67n, ↓s_204_67i, ↓s_204_67p, ↓g_204_68, ↓k_204_68, ↓s_204_69, ↓s_204_70, ↓s_204_73, ↓s_204_74, ↓s_204_77, ↓s_204_80, ↓s_204_81, ↓s_204_82, ↓s_204_83, ↓s_204_84, ↓s_204_85, ↓s_204_86n, ↓s_204_86i, ↓s_204_86p, ↓s_204_89, ↓s_204_92, ↓s_204_93, ↓g_204_96, ↓k_204_96, ↓s_204_97, ↓s_204_98, ↓s_204_101, ↓s_204_104, ↓s_204_105, ↓s_204_106, ↓s_204_107, ↓s_204_108, ↓s_204_109, ↓s_204_112, ↓s_204_113, ↓s_204_114, ↓s_204_117, ↓g_204_120, ↓k_204_120, ↓s_204_121, ↓s_204_122, ↓s_204_125, ↓s_204_128n, ↓s_204_128i, ↓s_204_128p, ↓s_204_131, ↓s_204_134, w32c_1000, zar_97, zia_97, zln_97, zit_97, zar_132, zia_132, zln_132, zit_132, zar_133, zia_133, zln_133, zit_133, zio_95]
      refine lb120 hE hd hv hv3 hJ0 (fun hall => absurd (fun k hk => Or.inl ?_) hno) (again m rfl) next
      rw [e109] at hk
      rw [e97]
      exact hall k hk
    · refine zgk_s hE xmo_204 60 zc_204 ?_
      simp only [ynok_30, ynok_31, w32c_0, w32c_1, w32c_2, w32c_3, w32c_4, w32c_5, w32c_6, w32c_7, w32c_8, w32c_9, w32c_10, w32c_11, w32c_12, w32c_13, w32c_14, w32c_m1, w32c_m2, w32c_118, Int.reduceAdd, Int.reduceSub, Int.reduceMul, yput_s, yput_n, znl_n, znl_0, znl_1, znl_4, ysum_n, ysum_0, ysum_1, ysum_4, true_and, and_true, Nat.reduceAdd, Nat.reduceLeDiff, true_implies, eq_self, true_or, or_true, or_false, false_or, not_true_eq_false, not_false_eq_true, false_implies, implies_true, yset_s, yset_o, yset_d, ne_eq, Nat.reduceEqDiff, Int.reduceToNat, Int.reduceEq, Int.reduceLE, Int.reduceLT, Classical.not_not, Nat.reduceLT, ↓zvk_s, ↓zvk_n, ↓s_204_0, ↓s_204_1, ↓s_204_4, ↓s_204_5n, ↓s_204_5i, ↓s_204_5p, ↓g_204_6, ↓k_204_6, ↓s_204_7, ↓s_204_8, ↓s_204_11, ↓s_204_12, ↓s_204_15, ↓s_204_18, ↓s_204_19, ↓s_204_22, ↓s_204_23, ↓s_204_24, ↓s_204_25, ↓s_204_26, ↓s_204_27, ↓s_204_28, ↓s_204_29, ↓s_204_30, ↓s_204_33, ↓s_204_36, ↓s_204_37, ↓s_204_40, ↓s_204_41, ↓s_204_42, ↓s_204_43, ↓s_204_44, ↓s_204_45, ↓s_204_46, ↓s_204_47n, ↓s_204_47i, ↓s_204_47p, ↓s_204_50, ↓s_204_53, ↓s_204_54, ↓s_204_57, ↓s_204_58, ↓s_204_59, ↓s_204_60, ↓s_204_61n, ↓s_204_61i, ↓s_204_61p, ↓g_204_62, ↓k_204_62, ↓s_204_63, ↓s_204_66, ↓s_204_67n, ↓s_204_67i, ↓s_204_67p, ↓g_204_68, ↓k_204_68, ↓s_204_69, ↓s_204_70, ↓s_204_73, ↓s_204_74, ↓s_204_77, ↓s_204_80, ↓s_204_81, ↓s_204_82, ↓s_204_83, ↓s_204_84, ↓s_204_85, ↓s_204_86n, ↓s_204_86i, ↓s_204_86p, ↓s_204_89, ↓s_204_92, ↓s_204_93, ↓g_204_96, ↓k_204_96, ↓s_204_97, ↓s_204_98, ↓s_204_101, ↓s_204_104, ↓s_204_105, ↓s_204_106, ↓s_204_107, ↓s_204_108, ↓s_204_109, ↓s_204_112, ↓s_204_113, ↓s_204_114, ↓s_204_117, ↓g_204_120, ↓k_204_120, ↓s_204_121, ↓s_204_122, ↓s_204_125, ↓s_204_128n, ↓s_204_128i, ↓s_204_128p, ↓s_204_131, ↓s_204_134, w32c_1000, zar_97, zia_97, zln_97, zit_97, zar_132, zia_132, zln_132, zit_132, zar_133, zia_133, zln_133, zit_133, zio_95]
      refine c_costOf hE (by omega) hG hv hv3 hdm (fun co hco => ?_)
      refine zgk_s hE xmo_204 60 zc_204 ?_
      simp only [ynok_30, ynok_31, w32c_0, w32c_1, w32c_2, w32c_3, w32c_4, w32c_5, w32c_6, w32c_7, w32c_8, w32c_9, w32c_10, w32c_11, w32c_12, w32c_13, w32c_14, w32c_m1, w32c_m2, w32c_118, Int.reduceAdd, Int.reduceSub, Int.reduceMul, yput_s, yput_n, znl_n, znl_0, znl_1, znl_4, ysum_n, ysum_0, ysum_1, ysum_4, true_and, and_true, Nat.reduceAdd, Nat.reduceLeDiff, true_implies, eq_self, true_or, or_true, or_false, false_or, not_true_eq_false, not_false_eq_true, false_implies, implies_true, yset_s, yset_o, yset_d, ne_eq, Nat.reduceEqDiff, Int.reduceToNat, Int.reduceEq, Int.reduceLE, Int.reduceLT, Classical.not_not, Nat.reduceLT, ↓zvk_s, ↓zvk_n, ↓s_204_0, ↓s_204_1, ↓s_204_4, ↓s_204_5n, ↓s_204_5i, ↓s_204_5p, ↓g_204_6, ↓k_204_6, ↓s_204_7, ↓s_204_8, ↓s_204_11, ↓s_204_12, ↓s_204_15, ↓s_204_18, ↓s_204_19, ↓s_204_22, ↓s_204_23, ↓s_204_24, ↓s_204_25, ↓s_204_26, ↓s_204_27, ↓s_204_28, ↓s_204_29, ↓s_204_30, ↓s_204_33, ↓s_204_36, ↓s_204_37, ↓s_204_40, ↓s_204_41, ↓s_204_42, ↓s_204_43, ↓s_204_44, ↓s_204_45, ↓s_204_46, ↓s_204_47n, ↓s_204_47i, ↓s_204_47p, ↓s_204_50, ↓s_204_53, ↓s_204_54, ↓s_204_57, ↓s_204_58, ↓s_204_59, ↓s_204_60, ↓s_204_61n, ↓s_204_61i, ↓s_204_61p, ↓g_204_62, ↓k_204_62, ↓s_204_63, ↓s_204_66, ↓s_204_67n, ↓s_204_67i, ↓s_204_67p, ↓g_204_68, ↓k_204_68, ↓s_204_69, ↓s_204_70, ↓s_204_73, ↓s_204_74, ↓s_204_77, ↓s_204_80, ↓s_204_81, ↓s_204_82, ↓s_204_83, ↓s_204_84, ↓s_204_85, ↓s_204_86n, ↓s_204_86i, ↓s_204_86p, ↓s_204_89, ↓s_204_92, ↓s_204_93, ↓g_204_96, ↓k_204_96, ↓s_204_97, ↓s_204_98, ↓s_204_101, ↓s_204_104, ↓s_204_105, ↓s_204_106, ↓s_204_107, ↓s_204_108, ↓s_204_109, ↓s_204_112, ↓s_204_113, ↓s_204_114, ↓s_204_117, ↓g_204_120, ↓k_204_120, ↓s_204_121, ↓s_204_122, ↓s_204_125, ↓s_204_128n, ↓s_204_128i, ↓s_204_128p, ↓s_204_131, ↓s_204_134, w32c_1000, zar_97, zia_97, zln_97, zit_97, zar_132, zia_132, zln_132, zit_132, zar_133, zia_133, zln_133, zit_133, zio_95]
      refine c_gainOf hE (by omega) hG hv hv3 hdm (fun ga hga => ?_)
      refine zgk_s hE xmo_204 60 zc_204 ?_
      simp only [ynok_30, ynok_31, w32c_0, w32c_1, w32c_2, w32c_3, w32c_4, w32c_5, w32c_6, w32c_7, w32c_8, w32c_9, w32c_10, w32c_11, w32c_12, w32c_13, w32c_14, w32c_m1, w32c_m2, w32c_118, Int.reduceAdd, Int.reduceSub, Int.reduceMul, yput_s, yput_n, znl_n, znl_0, znl_1, znl_4, ysum_n, ysum_0, ysum_1, ysum_4, true_and, and_true, Nat.reduceAdd, Nat.reduceLeDiff, true_implies, eq_self, true_or, or_true, or_false, false_or, not_true_eq_false, not_false_eq_true, false_implies, implies_true, yset_s, yset_o, yset_d, ne_eq, Nat.reduceEqDiff, Int.reduceToNat, Int.reduceEq, Int.reduceLE, Int.reduceLT, Classical.not_not, Nat.reduceLT, ↓zvk_s, ↓zvk_n, ↓s_204_0, ↓s_204_1, ↓s_204_4, ↓s_204_5n, ↓s_204_5i, ↓s_204_5p, ↓g_204_6, ↓k_204_6, ↓s_204_7, ↓s_204_8, ↓s_204_11, ↓s_204_12, ↓s_204_15, ↓s_204_18, ↓s_204_19, ↓s_204_22, ↓s_204_23, ↓s_204_24, ↓s_204_25, ↓s_204_26, ↓s_204_27, ↓s_204_28, ↓s_204_29, ↓s_204_30, ↓s_204_33, ↓s_204_36, ↓s_204_37, ↓s_204_40, ↓s_204_41, ↓s_204_42, ↓s_204_43, ↓s_204_44, ↓s_204_45, ↓s_204_46, ↓s_204_47n, ↓s_204_47i, ↓s_204_47p, ↓s_204_50, ↓s_204_53, ↓s_204_54, ↓s_204_57, ↓s_204_58, ↓s_204_59, ↓s_204_60, ↓s_204_61n, ↓s_204_61i, ↓s_204_61p, ↓g_204_62, ↓k_204_62, ↓s_204_63, ↓s_204_66, ↓s_204_67n, ↓s_204_67i, ↓s_204_67p, ↓g_204_68, ↓k_204_68, ↓s_204_69, ↓s_204_70, ↓s_204_73, ↓s_204_74, ↓s_204_77, ↓s_204_80, ↓s_204_81, ↓s_204_82, ↓s_204_83, ↓s_204_84, ↓s_204_85, ↓s_204_86n, ↓s_204_86i, ↓s_204_86p, ↓s_204_89, ↓s_204_92, ↓s_204_93, ↓g_204_96, ↓k_204_96, ↓s_204_97, ↓s_204_98, ↓s_204_101, ↓s_204_104, ↓s_204_105, ↓s_204_106, ↓s_204_107, ↓s_204_108, ↓s_204_109, ↓s_204_112, ↓s_204_113, ↓s_204_114, ↓s_204_117, ↓g_204_120, ↓k_204_120, ↓s_204_121, ↓s_204_122, ↓s_204_125, ↓s_204_128n, ↓s_204_128i, ↓s_204_128p, ↓s_204_131, ↓s_204_134, w32c_1000, zar_97, zia_97, zln_97, zit_97, zar_132, zia_132, zln_132, zit_132, zar_133, zia_133, zln_133, zit_133, zio_95]
      have bco := zco_b (f := m 134) (g := m 136) (nv := w32 (m 97 1)) (v := (w32 v).toNat) (show (0 : Int) ≤ 999 by decide) (fun j => agA hG 134 j ae_134) (w32 (m 109 (w32 v).toNat)).toNat
      have bga := zco_b (f := m 135) (g := m 136) (nv := w32 (m 97 1)) (v := (w32 v).toNat) (show (0 : Int) ≤ 8 by decide) (fun j => agA hG 135 j ae_135) (w32 (m 109 (w32 v).toNat)).toNat
      rw [← hco] at bco
      rw [← hga] at bga
      rw [e109] at bco bga
      have hco' : w32 co = zcst b (w32 v) (m 136) := by rw [hco, e134, e97, e109]; rfl
      have hga' : w32 ga = zgan b (w32 v) (m 136) := by rw [hga, e135, e97, e109]; rfl
      have hup : ∀ c, 0 ≤ c → c ≤ w32 cr → zbd (w32 v + 1) (m 132) (m 133) c := fun c c0 c1 => hI.2.2.1 (w32 v + 1) (by omega) (by omega) c c0 c1
      refine c_tries hE (by omega) hv hv3 hcr (by omega) (by omega) (by omega) (by omega) (fun j j1 j2 => ?_) (fun m' T => ?_)
      · have hz := hup ((j : Int) - 1000 * (w32 v + 1)) (by omega) (by omega)
        unfold zbd at hz
        rw [show (1000 * (w32 v + 1) + ((j : Int) - 1000 * (w32 v + 1))).toNat = j by omega] at hz
        omega
      have rest : ∀ j : Nat, 1000 * (w32 v + 1) ≤ (j : Int) → m' 132 j = m 132 j ∧ m' 133 j = m 133 j := fun j hj => by
        rcases T.2.1 j with h | ⟨c', k1, k2, k3, k4, k5⟩
        · exact h
        · omega
      have hG' : aGok m' := fun i j => by
        by_cases h1 : i = 132
        · subst h1; exact ag_32 (agam_A ae_132)
        · by_cases h2 : i = 133
          · subst h2; exact ag_32 (agam_A ae_133)
          · rw [T.1 i j h1 h2]; exact hG i j
      have hI' : LbI b (w32 cr) (w32 v) m' := LbI_loc (by omega) hI (fun i j h1 h2 _ => T.1 i j h1 h2) hG' rest
      have e136 : m' 136 = m 136 := funext fun j => T.1 136 j (by decide) (by decide)
      have hlow : ∀ c, w32 co ≤ c → c ≤ w32 cr → (0 ≤ w32 (m 132 (1000 * (w32 v + 1) + c - w32 co).toNat) ∧ w32 (m 132 (1000 * (w32 v + 1) + c - w32 co).toNat) ≤ 24 * (4 - (w32 v + 1))) ∧ 0 ≤ w32 (m 133 (1000 * (w32 v + 1) + c - w32 co).toNat) ∧ w32 (m 133 (1000 * (w32 v + 1) + c - w32 co).toNat) ≤ 3000 * (4 - (w32 v + 1)) := fun c c0 c1 => by
        have hz := hup (c - w32 co) (by omega) (by omega)
        unfold zbd at hz
        rw [← Int.add_sub_assoc] at hz
        exact hz
      refine zgk_n hE xmo_204 60 zc_204 ?_
      simp only [ynok_30, ynok_31, w32c_0, w32c_1, w32c_2, w32c_3, w32c_4, w32c_5, w32c_6, w32c_7, w32c_8, w32c_9, w32c_10, w32c_11, w32c_12, w32c_13, w32c_14, w32c_m1, w32c_m2, w32c_118, Int.reduceAdd, Int.reduceSub, Int.reduceMul, yput_s, yput_n, znl_n, znl_0, znl_1, znl_4, ysum_n, ysum_0, ysum_1, ysum_4, true_and, and_true, Nat.reduceAdd, Nat.reduceLeDiff, true_implies, eq_self, true_or, or_true, or_false, false_or, not_true_eq_false, not_false_eq_true, false_implies, implies_true, yset_s, yset_o, yset_d, ne_eq, Nat.reduceEqDiff, Int.reduceToNat, Int.reduceEq, Int.reduceLE, Int.reduceLT, Classical.not_not, Nat.reduceLT, ↓zvk_s, ↓zvk_n, ↓s_204_0, ↓s_204_1, ↓s_204_4, ↓s_204_5n, ↓s_204_5i, ↓s_204_5p, ↓g_204_6, ↓k_204_6, ↓s_204_7, ↓s_204_8, ↓s_204_11, ↓s_204_12, ↓s_204_15, ↓s_204_18, ↓s_204_19, ↓s_204_22, ↓s_204_23, ↓s_204_24, ↓s_204_25, ↓s_204_26, ↓s_204_27, ↓s_204_28, ↓s_204_29, ↓s_204_30, ↓s_204_33, ↓s_204_36, ↓s_204_37, ↓s_204_40, ↓s_204_41, ↓s_204_42, ↓s_204_43, ↓s_204_44, ↓s_204_45, ↓s_204_46, ↓s_204_47n, ↓s_204_47i, ↓s_204_47p, ↓s_204_50, ↓s_204_53, ↓s_204_54, ↓s_204_57, ↓s_204_58, ↓s_204_59, ↓s_204_60, ↓s_204_61n, ↓s_204_61i, ↓s_204_61p, ↓g_204_62, ↓k_204_62, ↓s_204_63, ↓s_204_66, ↓s_204_67n, ↓s_204_67i, ↓s_204_67p, ↓g_204_68, ↓k_204_68, ↓s_204_69, ↓s_204_70, ↓s_204_73, ↓s_204_74, ↓s_204_77, ↓s_204_80, ↓s_204_81, ↓s_204_82, ↓s_204_83, ↓s_204_84, ↓s_204_85, ↓s_204_86n, ↓s_204_86i, ↓s_204_86p, ↓s_204_89, ↓s_204_92, ↓s_204_93, ↓g_204_96, ↓k_204_96, ↓s_204_97, ↓s_204_98, ↓s_204_101, ↓s_204_104, ↓s_204_105, ↓s_204_106, ↓s_204_107, ↓s_204_108, ↓s_204_109, ↓s_204_112, ↓s_204_113, ↓s_204_114, ↓s_204_117, ↓g_204_120, ↓k_204_120, ↓s_204_121, ↓s_204_122, ↓s_204_125, ↓s_204_128n, ↓s_204_128i, ↓s_204_128p, ↓s_204_131, ↓s_204_134, w32c_1000, zar_97, zia_97, zln_97, zit_97, zar_132, zia_132, zln_132, zit_132, zar_133, zia_133, zln_133, zit_133, zio_95]
      refine lb120 hE hd hv hv3 ⟨hI', fun c c0 c1 => ?_, by rw [e136]; exact hdig⟩ (fun hall c c0 c1 => ?_) (again m' e136) next
      · rcases T.2.1 (1000 * w32 v + c).toNat with h | ⟨c', k1, k2, k3, k4, k5⟩
        · rcases hrow c c0 c1 with hz | hz
          · exact Or.inl (by rw [h.1]; exact hz)
          · refine Or.inr ⟨zat_loc hv h.1 h.2 rest hz.1, ?_⟩
            have hz2 := hz.2
            unfold zbd at hz2 ⊢
            rw [h.1, h.2]
            exact hz2
        · have hcc : c' = c := by omega
          subst hcc
          have hl := hlow c' k1 k2
          refine Or.inr ⟨⟨m 136, ⟨hdig, fun k hk => ?_⟩, by rw [← hco']; exact k1, ?_, ?_⟩, ?_⟩
          · have := hyes k (by rw [e109]; exact hk)
            unfold zmk at this
            rw [e97, e122] at this
            exact this
          · rw [← hco', ← hga', (rest (1000 * (w32 v + 1) + c' - w32 co).toNat (by omega)).1]
            exact k4
          · rw [← hco', (rest (1000 * (w32 v + 1) + c' - w32 co).toNat (by omega)).2]
            exact k5
          · unfold zbd
            rw [k4, k5]
            omega
      · rw [e136] at hall
        have z1 : w32 co = 0 := by rw [hco']; exact zco_0 _ hall
        have z2 : w32 ga = 0 := by rw [hga']; exact zco_0 _ hall
        have h3 := T.2.2 c (by omega) c1
        have hl := hlow c (by omega) c1
        omega
theorem lb68 {E : yE} (hE : yEok E) {d : Nat} (hd : 1 ≤ d) {m1 : yMem} {Q : Option yV → yMem → Prop} {cr v : Int} (hv : 0 ≤ w32 v) (hv3 : w32 v ≤ 3) (hcr0 : 0 ≤ w32 cr) (hcr : w32 cr ≤ 999) (fin : ∀ m c, (∀ i j, i ≠ 132 → i ≠ 136 → m i j = m1 i j) → (∀ j, m 136 j = if j < 3 then 0 else m1 136 j) → (∀ j : Nat, m 132 j = if 1000 * w32 v ≤ (j : Int) ∧ (j : Int) < 1000 * w32 v + (w32 cr + 1) then -1 else m1 132 j) → zG E d xm_204 96 [some (1, 95), some (0, cr), some (0, v), some (0, c)] [] m Q) : ∀ (n : Nat) (c : Int) (m : yMem), (w32 cr + 1 - w32 c).toNat = n → 0 ≤ w32 c → w32 c ≤ w32 cr + 1 → (∀ i j, i ≠ 132 → m i j = m1 i j) → (∀ j : Nat, m 132 j = if 1000 * w32 v ≤ (j : Int) ∧ (j : Int) < 1000 * w32 v + w32 c then -1 else m1 132 j) → zG E d xm_204 68 [some (1, 95), some (0, cr), some (0, v), some (0, c)] [] m Q := by
  have ev : w32 (1000 * v) = 1000 * w32 v := w32_k (by decide) (by omega) (by omega)
  intro n
  induction n with
  | zero =>
    intro c m hn h0 h1 hF hM
    refine zgo_ok (n := 60) hE xmo_204 (cs := zc_204) ?_
    simp only [ynok_30, ynok_31, w32c_0, w32c_1, w32c_2, w32c_3, w32c_4, w32c_5, w32c_6, w32c_7, w32c_8, w32c_9, w32c_10, w32c_11, w32c_12, w32c_13, w32c_14, w32c_m1, w32c_m2, w32c_118, Int.reduceAdd, Int.reduceSub, Int.reduceMul, yput_s, yput_n, znl_n, znl_0, znl_1, znl_4, ysum_n, ysum_0, ysum_1, ysum_4, true_and, and_true, Nat.reduceAdd, Nat.reduceLeDiff, true_implies, eq_self, true_or, or_true, or_false, false_or, not_true_eq_false, not_false_eq_true, false_implies, implies_true, yset_s, yset_o, yset_d, ne_eq, Nat.reduceEqDiff, Int.reduceToNat, Int.reduceEq, Int.reduceLE, Int.reduceLT, Classical.not_not, Nat.reduceLT, ↓zvk_s, ↓zvk_n, ↓s_204_0, ↓s_204_1, ↓s_204_4, ↓s_204_5n, ↓s_204_5i, ↓s_204_5p, ↓g_204_6, ↓k_204_6, ↓s_204_7, ↓s_204_8, ↓s_204_11, ↓s_204_12, ↓s_204_15, ↓s_204_18, ↓s_204_19, ↓s_204_22, ↓s_204_23, ↓s_204_24, ↓s_204_25, ↓s_204_26, ↓s_204_27, ↓s_204_28, ↓s_204_29, ↓s_204_30, ↓s_204_33, ↓s_204_36, ↓s_204_37, ↓s_204_40, ↓s_204_41, ↓s_204_42, ↓s_204_43, ↓s_204_44, ↓s_204_45, ↓s_204_46, ↓s_204_47n, ↓s_204_47i, ↓s_204_47p, ↓s_204_50, ↓s_204_53, ↓s_204_54, ↓s_204_57, ↓s_204_58, ↓s_204_59, ↓s_204_60, ↓s_204_61n, ↓s_204_61i, ↓s_204_61p, ↓g_204_62, ↓k_204_62, ↓s_204_63, ↓s_204_66, ↓s_204_67n, ↓s_204_67i, ↓s_204_67p, ↓g_204_68, ↓k_204_68, ↓s_204_69, ↓s_204_70, ↓s_204_73, ↓s_204_74, ↓s_204_77, ↓s_204_80, ↓s_204_81, ↓s_204_82, ↓s_204_83, ↓s_204_84, ↓s_204_85, ↓s_204_86n, ↓s_204_86i, ↓s_204_86p, ↓s_204_89, ↓s_204_92, ↓s_204_93, ↓g_204_96, ↓k_204_96, ↓s_204_97, ↓s_204_98, ↓s_204_101, ↓s_204_104, ↓s_204_105, ↓s_204_106, ↓s_204_107, ↓s_204_108, ↓s_204_109, ↓s_204_112, ↓s_204_113, ↓s_204_114, ↓s_204_117, ↓g_204_120, ↓k_204_120, ↓s_204_121, ↓s_204_122, ↓s_204_125, ↓s_204_128n, ↓s_204_128i, ↓s_204_128p, ↓s_204_131, ↓s_204_134, w32c_1000, zar_97, zia_97, zln_97, zit_97, zar_132, zia_132, zln_132, zit_132, zar_133, zia_133, zln_133, zit_133, zio_95]
    refine ⟨fun _ => c_starts hE hd ?_, fun h => absurd (show w32 cr < w32 c by omega) h⟩
    refine zgk_n hE xmo_204 60 zc_204 ?_
    simp only [ynok_30, ynok_31, w32c_0, w32c_1, w32c_2, w32c_3, w32c_4, w32c_5, w32c_6, w32c_7, w32c_8, w32c_9, w32c_10, w32c_11, w32c_12, w32c_13, w32c_14, w32c_m1, w32c_m2, w32c_118, Int.reduceAdd, Int.reduceSub, Int.reduceMul, yput_s, yput_n, znl_n, znl_0, znl_1, znl_4, ysum_n, ysum_0, ysum_1, ysum_4, true_and, and_true, Nat.reduceAdd, Nat.reduceLeDiff, true_implies, eq_self, true_or, or_true, or_false, false_or, not_true_eq_false, not_false_eq_true, false_implies, implies_true, yset_s, yset_o, yset_d, ne_eq, Nat.reduceEqDiff, Int.reduceToNat, Int.reduceEq, Int.reduceLE, Int.reduceLT, Classical.not_not, Nat.reduceLT, ↓zvk_s, ↓zvk_n, ↓s_204_0, ↓s_204_1, ↓s_204_4, ↓s_204_5n, ↓s_204_5i, ↓s_204_5p, ↓g_204_6, ↓k_204_6, ↓s_204_7, ↓s_204_8, ↓s_204_11, ↓s_204_12, ↓s_204_15, ↓s_204_18, ↓s_204_19, ↓s_204_22, ↓s_204_23, ↓s_204_24, ↓s_204_25, ↓s_204_26, ↓s_204_27, ↓s_204_28, ↓s_204_29, ↓s_204_30, ↓s_204_33, ↓s_204_36, ↓s_204_37, ↓s_204_40, ↓s_204_41, ↓s_204_42, ↓s_204_43, ↓s_204_44, ↓s_204_45, ↓s_204_46, ↓s_204_47n, ↓s_204_47i, ↓s_204_47p, ↓s_204_50, ↓s_204_53, ↓s_204_54, ↓s_204_57, ↓s_204_58, ↓s_204_59, ↓s_204_60, ↓s_204_61n, ↓s_204_61i, ↓s_204_61p, ↓g_204_62, ↓k_204_62, ↓s_204_63, ↓s_204_66, ↓s_204_67n, ↓s_204_67i, ↓s_204_67p, ↓g_204_68, ↓k_204_68, ↓s_204_69, ↓s_204_70, ↓s_204_73, ↓s_204_74, ↓s_204_77, ↓s_204_80, ↓s_204_81, ↓s_204_82, ↓s_204_83, ↓s_204_84, ↓s_204_85, ↓s_204_86n, ↓s_204_86i, ↓s_204_86p, ↓s_204_89, ↓s_204_92, ↓s_204_93, ↓g_204_96, ↓k_204_96, ↓s_204_97, ↓s_204_98, ↓s_204_101, ↓s_204_104, ↓s_204_105, ↓s_204_106, ↓s_204_107, ↓s_204_108, ↓s_204_109, ↓s_204_112, ↓s_204_113, ↓s_204_114, ↓s_204_117, ↓g_204_120, ↓k_204_120, ↓s_204_121, ↓s_204_122, ↓s_204_125, ↓s_204_128n, ↓s_204_128i, ↓s_204_128p, ↓s_204_131, ↓s_204_134, w32c_1000, zar_97, zia_97, zln_97, zit_97, zar_132, zia_132, zln_132, zit_132, zar_133, zia_133, zln_133, zit_133, zio_95]
    refine fin _ _ (fun i j i1 i2 => by rw [yset_o i2, yset_o i2, yset_o i2]; exact hF i j i1) (fun j => ?_) (fun j => ?_)
    · by_cases h2 : j = 2
      · subst h2; rw [yset_s]; rfl
      · rw [yset_d h2]
        by_cases h1 : j = 1
        · subst h1; rw [yset_s]; rfl
        · rw [yset_d h1]
          by_cases h0 : j = 0
          · subst h0; rw [yset_s]; rfl
          · rw [yset_d h0, if_neg (by omega)]
            exact hF 136 j (by decide)
    · rw [yset_o (by decide), yset_o (by decide), yset_o (by decide), hM j, show w32 c = w32 cr + 1 by omega]
  | succ n ih =>
    intro c m hn h0 h1 hF hM
    have e1 : w32 (c + 1) = w32 c + 1 := by rw [w32_ad (by rw [w32c_1]; omega) (by rw [w32c_1]; omega), w32c_1]
    have ej : w32 (1000 * v + c) = 1000 * w32 v + w32 c := by rw [w32_ad (by rw [ev]; omega) (by rw [ev]; omega), ev]
    refine zgo_ok (n := 60) hE xmo_204 (cs := zc_204) ?_
    simp only [ynok_30, ynok_31, w32c_0, w32c_1, w32c_2, w32c_3, w32c_4, w32c_5, w32c_6, w32c_7, w32c_8, w32c_9, w32c_10, w32c_11, w32c_12, w32c_13, w32c_14, w32c_m1, w32c_m2, w32c_118, Int.reduceAdd, Int.reduceSub, Int.reduceMul, yput_s, yput_n, znl_n, znl_0, znl_1, znl_4, ysum_n, ysum_0, ysum_1, ysum_4, true_and, and_true, Nat.reduceAdd, Nat.reduceLeDiff, true_implies, eq_self, true_or, or_true, or_false, false_or, not_true_eq_false, not_false_eq_true, false_implies, implies_true, yset_s, yset_o, yset_d, ne_eq, Nat.reduceEqDiff, Int.reduceToNat, Int.reduceEq, Int.reduceLE, Int.reduceLT, Classical.not_not, Nat.reduceLT, ↓zvk_s, ↓zvk_n, ↓s_204_0, ↓s_204_1, ↓s_204_4, ↓s_204_5n, ↓s_204_5i, ↓s_204_5p, ↓g_204_6, ↓k_204_6, ↓s_204_7, ↓s_204_8, ↓s_204_11, ↓s_204_12, ↓s_204_15, ↓s_204_18, ↓s_204_19, ↓s_204_22, ↓s_204_23, ↓s_204_24, ↓s_204_25, ↓s_204_26, ↓s_204_27, ↓s_204_28, ↓s_204_29, ↓s_204_30, ↓s_204_33, ↓s_204_36, ↓s_204_37, ↓s_204_40, ↓s_204_41, ↓s_204_42, ↓s_204_43, ↓s_204_44, ↓s_204_45, ↓s_204_46, ↓s_204_47n, ↓s_204_47i, ↓s_204_47p, ↓s_204_50, ↓s_204_53, ↓s_204_54, ↓s_204_57, ↓s_204_58, ↓s_204_59, ↓s_204_60, ↓s_204_61n, ↓s_204_61i, ↓s_204_61p, ↓g_204_62, ↓k_204_62, ↓s_204_63, ↓s_204_66, ↓s_204_67n, ↓s_204_67i, ↓s_204_67p, ↓g_204_68, ↓k_204_68, ↓s_204_69, ↓s_204_70, ↓s_204_73, ↓s_204_74, ↓s_204_77, ↓s_204_80, ↓s_204_81, ↓s_204_82, ↓s_204_83, ↓s_204_84, ↓s_204_85, ↓s_204_86n, ↓s_204_86i, ↓s_204_86p, ↓s_204_89, ↓s_204_92, ↓s_204_93, ↓g_204_96, ↓k_204_96, ↓s_204_97, ↓s_204_98, ↓s_204_101, ↓s_204_104, ↓s_204_105, ↓s_204_106, ↓s_204_107, ↓s_204_108, ↓s_204_109, ↓s_204_112, ↓s_204_113, ↓s_204_114, ↓s_204_117, ↓g_204_120, ↓k_204_120, ↓s_204_121, ↓s_204_122, ↓s_204_125, ↓s_204_128n, ↓s_204_128i, ↓s_204_128p, ↓s_204_131, ↓s_204_134, w32c_1000, zar_97, zia_97, zln_97, zit_97, zar_132, zia_132, zln_132, zit_132, zar_133, zia_133, zln_133, zit_133, zio_95]
    refine ⟨fun h => absurd h (by omega), fun _ => ⟨⟨by omega, by omega⟩, ih (c + 1) _ (by omega) (by omega) (by omega) (fun i j hi => by rw [yset_o hi]; exact hF i j hi) (fun j => ?_)⟩⟩
    rw [yset_a, if_pos rfl, hM]
    by_cases hj : j = (w32 (1000 * v + c)).toNat
    · rw [if_pos hj, if_pos (by omega)]
    · rw [if_neg hj]
      by_cases h2 : 1000 * w32 v ≤ (j : Int) ∧ (j : Int) < 1000 * w32 v + w32 c
      · rw [if_pos h2, if_pos (by omega)]
      · rw [if_neg h2, if_neg (by omega)]
theorem lb62 {E : yE} (hE : yEok E) {d : Nat} (hd : 2 ≤ d) {b : yMem} {Q : Option yV → yMem → Prop} {cr : Int} (hbG : aGok b) (hcr0 : 0 ≤ w32 cr) (hcr : w32 cr ≤ 999) (hQ : ∀ m, LbI b (w32 cr) (-1) m → Q none m) : ∀ (n : Nat) (v : Int) (r3 : Option yV) (m : yMem), (w32 v + 1).toNat = n → -1 ≤ w32 v → w32 v < w32 (b 97 2) → LbI b (w32 cr) (w32 v) m → zG E d xm_204 62 [some (1, 95), some (0, cr), some (0, v), r3] [] m Q := by
  have g2 := ag hbG 97 2 ag_97_2
  have g1 := ag hbG 97 1 ag_97_1
  intro n
  induction n with
  | zero =>
    intro v r3 m hn h0 h1 hI
    refine zgo_ok (n := 60) hE xmo_204 (cs := zc_204) ?_
    simp only [ynok_30, ynok_31, w32c_0, w32c_1, w32c_2, w32c_3, w32c_4, w32c_5, w32c_6, w32c_7, w32c_8, w32c_9, w32c_10, w32c_11, w32c_12, w32c_13, w32c_14, w32c_m1, w32c_m2, w32c_118, Int.reduceAdd, Int.reduceSub, Int.reduceMul, yput_s, yput_n, znl_n, znl_0, znl_1, znl_4, ysum_n, ysum_0, ysum_1, ysum_4, true_and, and_true, Nat.reduceAdd, Nat.reduceLeDiff, true_implies, eq_self, true_or, or_true, or_false, false_or, not_true_eq_false, not_false_eq_true, false_implies, implies_true, yset_s, yset_o, yset_d, ne_eq, Nat.reduceEqDiff, Int.reduceToNat, Int.reduceEq, Int.reduceLE, Int.reduceLT, Classical.not_not, Nat.reduceLT, ↓zvk_s, ↓zvk_n, ↓s_204_0, ↓s_204_1, ↓s_204_4, ↓s_204_5n, ↓s_204_5i, ↓s_204_5p, ↓g_204_6, ↓k_204_6, ↓s_204_7, ↓s_204_8, ↓s_204_11, ↓s_204_12, ↓s_204_15, ↓s_204_18, ↓s_204_19, ↓s_204_22, ↓s_204_23, ↓s_204_24, ↓s_204_25, ↓s_204_26, ↓s_204_27, ↓s_204_28, ↓s_204_29, ↓s_204_30, ↓s_204_33, ↓s_204_36, ↓s_204_37, ↓s_204_40, ↓s_204_41, ↓s_204_42, ↓s_204_43, ↓s_204_44, ↓s_204_45, ↓s_204_46, ↓s_204_47n, ↓s_204_47i, ↓s_204_47p, ↓s_204_50, ↓s_204_53, ↓s_204_54, ↓s_204_57, ↓s_204_58, ↓s_204_59, ↓s_204_60, ↓s_204_61n, ↓s_204_61i, ↓s_204_61p, ↓g_204_62, ↓k_204_62, ↓s_204_63, ↓s_204_66, ↓s_204_67n, ↓s_204_67i, ↓s_204_67p, ↓g_204_68, ↓k_204_68, ↓s_204_69, ↓s_204_70, ↓s_204_73, ↓s_204_74, ↓s_204_77, ↓s_204_80, ↓s_204_81, ↓s_204_82, ↓s_204_83, ↓s_204_84, ↓s_204_85, ↓s_204_86n, ↓s_204_86i, ↓s_204_86p, ↓s_204_89, ↓s_204_92, ↓s_204_93, ↓g_204_96, ↓k_204_96, ↓s_204_97, ↓s_204_98, ↓s_204_101, ↓s_204_104, ↓s_204_105, ↓s_204_106, ↓s_204_107, ↓s_204_108, ↓s_204_109, ↓s_204_112, ↓s_204_113, ↓s_204_114, ↓s_204_117, ↓g_204_120, ↓k_204_120, ↓s_204_121, ↓s_204_122, ↓s_204_125, ↓s_204_128n, ↓s_204_128i, ↓s_204_128p, ↓s_204_131, ↓s_204_134, w32c_1000, zar_97, zia_97, zln_97, zit_97, zar_132, zia_132, zln_132, zit_132, zar_133, zia_133, zln_133, zit_133, zio_95]
    rw [show w32 v = -1 by omega] at hI
    exact ⟨fun _ => hQ m hI, fun h => absurd (show w32 v < 0 by omega) h⟩
  | succ n ih =>
    intro v r3 m hn h0 h1 hI
    have e1 : w32 (v + -1) = w32 v - 1 := by rw [w32_ad (by rw [w32c_m1]; omega) (by rw [w32c_m1]; omega), w32c_m1]; omega
    have g109 := agA hbG 109 (w32 v).toNat ae_109
    refine zgo_ok (n := 60) hE xmo_204 (cs := zc_204) ?_
    simp only [ynok_30, ynok_31, w32c_0, w32c_1, w32c_2, w32c_3, w32c_4, w32c_5, w32c_6, w32c_7, w32c_8, w32c_9, w32c_10, w32c_11, w32c_12, w32c_13, w32c_14, w32c_m1, w32c_m2, w32c_118, Int.reduceAdd, Int.reduceSub, Int.reduceMul, yput_s, yput_n, znl_n, znl_0, znl_1, znl_4, ysum_n, ysum_0, ysum_1, ysum_4, true_and, and_true, Nat.reduceAdd, Nat.reduceLeDiff, true_implies, eq_self, true_or, or_true, or_false, false_or, not_true_eq_false, not_false_eq_true, false_implies, implies_true, yset_s, yset_o, yset_d, ne_eq, Nat.reduceEqDiff, Int.reduceToNat, Int.reduceEq, Int.reduceLE, Int.reduceLT, Classical.not_not, Nat.reduceLT, ↓zvk_s, ↓zvk_n, ↓s_204_0, ↓s_204_1, ↓s_204_4, ↓s_204_5n, ↓s_204_5i, ↓s_204_5p, ↓g_204_6, ↓k_204_6, ↓s_204_7, ↓s_204_8, ↓s_204_11, ↓s_204_12, ↓s_204_15, ↓s_204_18, ↓s_204_19, ↓s_204_22, ↓s_204_23, ↓s_204_24, ↓s_204_25, ↓s_204_26, ↓s_204_27, ↓s_204_28, ↓s_204_29, ↓s_204_30, ↓s_204_33, ↓s_204_36, ↓s_204_37, ↓s_204_40, ↓s_204_41, ↓s_204_42, ↓s_204_43, ↓s_204_44, ↓s_204_45, ↓s_204_46, ↓s_204_47n, ↓s_204_47i, ↓s_204_47p, ↓s_204_50, ↓s_204_53, ↓s_204_54, ↓s_204_57, ↓s_204_58, ↓s_204_59, ↓s_204_60, ↓s_204_61n, ↓s_204_61i, ↓s_204_61p, ↓g_204_62, ↓k_204_62, ↓s_204_63, ↓s_204_66, ↓s_204_67n, ↓s_204_67i, ↓s_204_67p, ↓g_204_68, ↓k_204_68, ↓s_204_69, ↓s_204_70, ↓s_204_73, ↓s_204_74, ↓s_204_77, ↓s_204_80, ↓s_204_81, ↓s_204_82, ↓s_204_83, ↓s_204_84, ↓s_204_85, ↓s_204_86n, ↓s_204_86i, ↓s_204_86p, ↓s_204_89, ↓s_204_92, ↓s_204_93, ↓g_204_96, ↓k_204_96, ↓s_204_97, ↓s_204_98, ↓s_204_101, ↓s_204_104, ↓s_204_105, ↓s_204_106, ↓s_204_107, ↓s_204_108, ↓s_204_109, ↓s_204_112, ↓s_204_113, ↓s_204_114, ↓s_204_117, ↓g_204_120, ↓k_204_120, ↓s_204_121, ↓s_204_122, ↓s_204_125, ↓s_204_128n, ↓s_204_128i, ↓s_204_128p, ↓s_204_131, ↓s_204_134, w32c_1000, zar_97, zia_97, zln_97, zit_97, zar_132, zia_132, zln_132, zit_132, zar_133, zia_133, zln_133, zit_133, zio_95]
    refine ⟨fun h => absurd h (by omega), fun _ => lb68 hE (by omega) (m1 := m) (by omega) (by omega) hcr0 hcr (fun m' c hF h136 h132 => ?_) _ _ m rfl (by decide) (by rw [w32c_0]; omega) (fun _ _ _ => rfl) (fun j => by rw [w32c_0, if_neg (by omega)])⟩
    have hG := hI.2.1
    have hG' : aGok m' := fun i j => by
      by_cases h1 : i = 132
      · subst h1; exact ag_32 (agam_A ae_132)
      · by_cases h2 : i = 136
        · subst h2
          rw [h136]
          split
          · rw [agam_A ae_136]; decide
          · exact hG 136 j
        · rw [hF i j h1 h2]; exact hG i j
    refine lb96 hE hd (by omega) (by omega) h1 hcr (fun g hg => (zix_lt (b := w32 (b 97 1) + 1) (by omega) _ (fun j hj => ⟨(hg j (by omega)).1, by have := (hg j (by omega)).2; omega⟩)).2) (fun m2 hI2 => ih (v + -1) _ m2 (by omega) (by omega) (by omega) (by rw [e1]; exact hI2)) _ m' rfl ⟨LbI_loc h0 hI (fun i j a1 _ a3 => hF i j a1 a3) hG' (fun j hj => ⟨by rw [h132, if_neg (by omega)], hF 133 j (by decide) (by decide)⟩), fun c c0 c1 => Or.inl ?_, fun j hj => ?_⟩
    · rw [h132, if_pos (by omega)]
      decide
    · rw [h136, if_pos hj, w32c_0]
      omega
theorem lb6 {E : yE} (hE : yEok E) {d : Nat} (hd : 2 ≤ d) {b : yMem} {Q : Option yV → yMem → Prop} {cr : Int} (hbG : aGok b) (hcr0 : 0 ≤ w32 cr) (hcr : w32 cr ≤ 999) (hQ : ∀ m, LbI b (w32 cr) (-1) m → Q none m) {r3 : Option yV} : ∀ (n : Nat) (c : Int) (m : yMem), (w32 cr + 1 - w32 c).toNat = n → 0 ≤ w32 c → w32 c ≤ w32 cr + 1 → (∀ i j, i ≠ 132 → i ≠ 133 → m i j = b i j) → (∀ j : Nat, 1000 * w32 (b 97 2) ≤ (j : Int) → (j : Int) < 1000 * w32 (b 97 2) + w32 c → w32 (m 132 j) = 0 ∧ w32 (m 133 j) = 0) → zG E d xm_204 6 [some (1, 95), some (0, cr), some (0, c), r3] [] m Q := by
  have g2 := ag hbG 97 2 ag_97_2
  intro n
  induction n with
  | zero =>
    intro c m hn h0 h1 hF hM
    have e97 : m 97 2 = b 97 2 := hF 97 2 (by decide) (by decide)
    have es : w32 (b 97 2 - 1) = w32 (b 97 2) - 1 := by rw [w32_sb (by rw [w32c_1]; omega) (by rw [w32c_1]; omega), w32c_1]
    refine zgo_ok (n := 60) hE xmo_204 (cs := zc_204) ?_
    simp only [ynok_30, ynok_31, w32c_0, w32c_1, w32c_2, w32c_3, w32c_4, w32c_5, w32c_6, w32c_7, w32c_8, w32c_9, w32c_10, w32c_11, w32c_12, w32c_13, w32c_14, w32c_m1, w32c_m2, w32c_118, Int.reduceAdd, Int.reduceSub, Int.reduceMul, yput_s, yput_n, znl_n, znl_0, znl_1, znl_4, ysum_n, ysum_0, ysum_1, ysum_4, true_and, and_true, Nat.reduceAdd, Nat.reduceLeDiff, true_implies, eq_self, true_or, or_true, or_false, false_or, not_true_eq_false, not_false_eq_true, false_implies, implies_true, yset_s, yset_o, yset_d, ne_eq, Nat.reduceEqDiff, Int.reduceToNat, Int.reduceEq, Int.reduceLE, Int.reduceLT, Classical.not_not, Nat.reduceLT, ↓zvk_s, ↓zvk_n, ↓s_204_0, ↓s_204_1, ↓s_204_4, ↓s_204_5n, ↓s_204_5i, ↓s_204_5p, ↓g_204_6, ↓k_204_6, ↓s_204_7, ↓s_204_8, ↓s_204_11, ↓s_204_12, ↓s_204_15, ↓s_204_18, ↓s_204_19, ↓s_204_22, ↓s_204_23, ↓s_204_24, ↓s_204_25, ↓s_204_26, ↓s_204_27, ↓s_204_28, ↓s_204_29, ↓s_204_30, ↓s_204_33, ↓s_204_36, ↓s_204_37, ↓s_204_40, ↓s_204_41, ↓s_204_42, ↓s_204_43, ↓s_204_44, ↓s_204_45, ↓s_204_46, ↓s_204_47n, ↓s_204_47i, ↓s_204_47p, ↓s_204_50, ↓s_204_53, ↓s_204_54, ↓s_204_57, ↓s_204_58, ↓s_204_59, ↓s_204_60, ↓s_204_61n, ↓s_204_61i, ↓s_204_61p, ↓g_204_62, ↓k_204_62, ↓s_204_63, ↓s_204_66, ↓s_204_67n, ↓s_204_67i, ↓s_204_67p, ↓g_204_68, ↓k_204_68, ↓s_204_69, ↓s_204_70, ↓s_204_73, ↓s_204_74, ↓s_204_77, ↓s_204_80, ↓s_204_81, ↓s_204_82, ↓s_204_83, ↓s_204_84, ↓s_204_85, ↓s_204_86n, ↓s_204_86i, ↓s_204_86p, ↓s_204_89, ↓s_204_92, ↓s_204_93, ↓g_204_96, ↓k_204_96, ↓s_204_97, ↓s_204_98, ↓s_204_101, ↓s_204_104, ↓s_204_105, ↓s_204_106, ↓s_204_107, ↓s_204_108, ↓s_204_109, ↓s_204_112, ↓s_204_113, ↓s_204_114, ↓s_204_117, ↓g_204_120, ↓k_204_120, ↓s_204_121, ↓s_204_122, ↓s_204_125, ↓s_204_128n, ↓s_204_128i, ↓s_204_128p, ↓s_204_131, ↓s_204_134, w32c_1000, zar_97, zia_97, zln_97, zit_97, zar_132, zia_132, zln_132, zit_132, zar_133, zia_133, zln_133, zit_133, zio_95]
    rw [e97]
    refine ⟨fun _ => ⟨by omega, lb62 hE hd hbG hcr0 hcr hQ _ _ _ m rfl (by omega) (by omega) ⟨fun i j a1 a2 _ => hF i j a1 a2, fun i j => ?_, fun u h3 h4 c' c0 c1 => ?_, fun u h3 h4 c' c0 c1 => ?_⟩⟩, fun h => absurd (show w32 cr < w32 c by omega) h⟩
    · by_cases h1 : i = 132
      · subst h1; exact ag_32 (agam_A ae_132)
      · by_cases h2 : i = 133
        · subst h2; exact ag_32 (agam_A ae_133)
        · rw [hF i j h1 h2]; exact hbG i j
    · have hu : u = w32 (b 97 2) := by omega
      subst hu
      have := hM (1000 * w32 (b 97 2) + c').toNat (by omega) (by omega)
      unfold zbd
      omega
    · omega
  | succ n ih =>
    intro c m hn h0 h1 hF hM
    have e97 : m 97 2 = b 97 2 := hF 97 2 (by decide) (by decide)
    have ev : w32 (1000 * b 97 2) = 1000 * w32 (b 97 2) := w32_k (by decide) (by omega) (by omega)
    have e1 : w32 (c + 1) = w32 c + 1 := by rw [w32_ad (by rw [w32c_1]; omega) (by rw [w32c_1]; omega), w32c_1]
    have ej : w32 (1000 * b 97 2 + c) = 1000 * w32 (b 97 2) + w32 c := by rw [w32_ad (by rw [ev]; omega) (by rw [ev]; omega), ev]
    refine zgo_ok (n := 60) hE xmo_204 (cs := zc_204) ?_
    simp only [ynok_30, ynok_31, w32c_0, w32c_1, w32c_2, w32c_3, w32c_4, w32c_5, w32c_6, w32c_7, w32c_8, w32c_9, w32c_10, w32c_11, w32c_12, w32c_13, w32c_14, w32c_m1, w32c_m2, w32c_118, Int.reduceAdd, Int.reduceSub, Int.reduceMul, yput_s, yput_n, znl_n, znl_0, znl_1, znl_4, ysum_n, ysum_0, ysum_1, ysum_4, true_and, and_true, Nat.reduceAdd, Nat.reduceLeDiff, true_implies, eq_self, true_or, or_true, or_false, false_or, not_true_eq_false, not_false_eq_true, false_implies, implies_true, yset_s, yset_o, yset_d, ne_eq, Nat.reduceEqDiff, Int.reduceToNat, Int.reduceEq, Int.reduceLE, Int.reduceLT, Classical.not_not, Nat.reduceLT, ↓zvk_s, ↓zvk_n, ↓s_204_0, ↓s_204_1, ↓s_204_4, ↓s_204_5n, ↓s_204_5i, ↓s_204_5p, ↓g_204_6, ↓k_204_6, ↓s_204_7, ↓s_204_8, ↓s_204_11, ↓s_204_12, ↓s_204_15, ↓s_204_18, ↓s_204_19, ↓s_204_22, ↓s_204_23, ↓s_204_24, ↓s_204_25, ↓s_204_26, ↓s_204_27, ↓s_204_28, ↓s_204_29, ↓s_204_30, ↓s_204_33, ↓s_204_36, ↓s_204_37, ↓s_204_40, ↓s_204_41, ↓s_204_42, ↓s_204_43, ↓s_204_44, ↓s_204_45, ↓s_204_46, ↓s_204_47n, ↓s_204_47i, ↓s_204_47p, ↓s_204_50, ↓s_204_53, ↓s_204_54, ↓s_204_57, ↓s_204_58, ↓s_204_59, ↓s_204_60, ↓s_204_61n, ↓s_204_61i, ↓s_204_61p, ↓g_204_62, ↓k_204_62, ↓s_204_63, ↓s_204_66, ↓s_204_67n, ↓s_204_67i, ↓s_204_67p, ↓g_204_68, ↓k_204_68, ↓s_204_69, ↓s_204_70, ↓s_204_73, ↓s_204_74, ↓s_204_77, ↓s_204_80, ↓s_204_81, ↓s_204_82, ↓s_204_83, ↓s_204_84, ↓s_204_85, ↓s_204_86n, ↓s_204_86i, ↓s_204_86p, ↓s_204_89, ↓s_204_92, ↓s_204_93, ↓g_204_96, ↓k_204_96, ↓s_204_97, ↓s_204_98, ↓s_204_101, ↓s_204_104, ↓s_204_105, ↓s_204_106, ↓s_204_107, ↓s_204_108, ↓s_204_109, ↓s_204_112, ↓s_204_113, ↓s_204_114, ↓s_204_117, ↓g_204_120, ↓k_204_120, ↓s_204_121, ↓s_204_122, ↓s_204_125, ↓s_204_128n, ↓s_204_128i, ↓s_204_128p, ↓s_204_131, ↓s_204_134, w32c_1000, zar_97, zia_97, zln_97, zit_97, zar_132, zia_132, zln_132, zit_132, zar_133, zia_133, zln_133, zit_133, zio_95]
    rw [e97]
    refine ⟨fun h => absurd h (by omega), fun _ => ⟨by omega, ⟨by omega, by omega⟩, by omega, ⟨by omega, by omega⟩, ih (c + 1) _ (by omega) (by omega) (by omega) (fun i j a1 a2 => by rw [yset_o a2, yset_o a1]; exact hF i j a1 a2) (fun j j1 j2 => ?_)⟩⟩
    by_cases hj : j = (w32 (1000 * b 97 2 + c)).toNat
    · rw [yset_o (by decide), hj, yset_s, yset_s]
      exact ⟨by decide, by decide⟩
    · rw [yset_o (by decide), yset_d hj, yset_d hj, yset_o (by decide)]
      exact hM j j1 (by omega)
/-- behind layBest -/
def LbQ (mem : yMem) (cr : Int) (m : yMem) : Prop := RQ mem m ∧ (∀ u, 0 ≤ u → u ≤ w32 (m 97 2) → ∀ c, 0 ≤ c → c ≤ cr → zbd u (m 132) (m 133) c) ∧ (∀ u, 0 ≤ u → u < w32 (m 97 2) → ∀ c, 0 ≤ c → c ≤ cr → zat m u (m 132) (m 133) c) ∧ m 97 2 = mem 97 2
theorem zat_fr {b m : yMem} {V c : Int} {bn bc : Nat → Int} (hF : ∀ i j, i ≠ 132 → i ≠ 133 → i ≠ 136 → m i j = b i j) (h : zat b V bn bc c) : zat m V bn bc c := by
  have e97 : m 97 = b 97 := funext fun j => hF 97 j (by decide) (by decide) (by decide)
  have e109 : m 109 = b 109 := funext fun j => hF 109 j (by decide) (by decide) (by decide)
  have e122 : m 122 = b 122 := funext fun j => hF 122 j (by decide) (by decide) (by decide)
  have e134 : m 134 = b 134 := funext fun j => hF 134 j (by decide) (by decide) (by decide)
  have e135 : m 135 = b 135 := funext fun j => hF 135 j (by decide) (by decide) (by decide)
  unfold zat zrw zcst zgan at h ⊢
  rw [e97, e109, e122, e134, e135]
  exact h
theorem c_layBest {E : yE} (hE : yEok E) (hm : yman Om) {D : Nat} (hD : 8 ≤ D) {mem : yMem} {Q : Option yV → yMem → Prop} {cr : Int} (hG : aGok mem) (hO : Om mem) (hcr0 : 0 ≤ w32 cr) (hcr : w32 cr ≤ 999) (hQ : ∀ m, LbQ mem (w32 cr) m → Q none m) : yCon E D xm_204 [(1, 95), (0, cr)] mem Q := by
  obtain ⟨d, rfl⟩ := Nat.exists_eq_add_of_le' hD
  refine e_204 ?_
  refine zvc_ok hE 60 zc_204 _ _ _ _ _ _ _ xmo_204 ?_
  simp only [ynok_30, ynok_31, w32c_0, w32c_1, w32c_2, w32c_3, w32c_4, w32c_5, w32c_6, w32c_7, w32c_8, w32c_9, w32c_10, w32c_11, w32c_12, w32c_13, w32c_14, w32c_m1, w32c_m2, w32c_118, Int.reduceAdd, Int.reduceSub, Int.reduceMul, yput_s, yput_n, znl_n, znl_0, znl_1, znl_4, ysum_n, ysum_0, ysum_1, ysum_4, true_and, and_true, Nat.reduceAdd, Nat.reduceLeDiff, true_implies, eq_self, true_or, or_true, or_false, false_or, not_true_eq_false, not_false_eq_true, false_implies, implies_true, yset_s, yset_o, yset_d, ne_eq, Nat.reduceEqDiff, Int.reduceToNat, Int.reduceEq, Int.reduceLE, Int.reduceLT, Classical.not_not, Nat.reduceLT, ↓zvk_s, ↓zvk_n, ↓s_204_0, ↓s_204_1, ↓s_204_4, ↓s_204_5n, ↓s_204_5i, ↓s_204_5p, ↓g_204_6, ↓k_204_6, ↓s_204_7, ↓s_204_8, ↓s_204_11, ↓s_204_12, ↓s_204_15, ↓s_204_18, ↓s_204_19, ↓s_204_22, ↓s_204_23, ↓s_204_24, ↓s_204_25, ↓s_204_26, ↓s_204_27, ↓s_204_28, ↓s_204_29, ↓s_204_30, ↓s_204_33, ↓s_204_36, ↓s_204_37, ↓s_204_40, ↓s_204_41, ↓s_204_42, ↓s_204_43, ↓s_204_44, ↓s_204_45, ↓s_204_46, ↓s_204_47n, ↓s_204_47i, ↓s_204_47p, ↓s_204_50, ↓s_204_53, ↓s_204_54, ↓s_204_57, ↓s_204_58, ↓s_204_59, ↓s_204_60, ↓s_204_61n, ↓s_204_61i, ↓s_204_61p, ↓g_204_62, ↓k_204_62, ↓s_204_63, ↓s_204_66, ↓s_204_67n, ↓s_204_67i, ↓s_204_67p, ↓g_204_68, ↓k_204_68, ↓s_204_69, ↓s_204_70, ↓s_204_73, ↓s_204_74, ↓s_204_77, ↓s_204_80, ↓s_204_81, ↓s_204_82, ↓s_204_83, ↓s_204_84, ↓s_204_85, ↓s_204_86n, ↓s_204_86i, ↓s_204_86p, ↓s_204_89, ↓s_204_92, ↓s_204_93, ↓g_204_96, ↓k_204_96, ↓s_204_97, ↓s_204_98, ↓s_204_101, ↓s_204_104, ↓s_204_105, ↓s_204_106, ↓s_204_107, ↓s_204_108, ↓s_204_109, ↓s_204_112, ↓s_204_113, ↓s_204_114, ↓s_204_117, ↓g_204_120, ↓k_204_120, ↓s_204_121, ↓s_204_122, ↓s_204_125, ↓s_204_128n, ↓s_204_128i, ↓s_204_128p, ↓s_204_131, ↓s_204_134, w32c_1000, zar_97, zia_97, zln_97, zit_97, zar_132, zia_132, zln_132, zit_132, zar_133, zia_133, zln_133, zit_133, zio_95]
  refine abs_layDues yoc_Om hm E hE _ (show 7 ≤ _ by omega) _ rfl _ _ _ ⟨rfl, trivial⟩ hG hO (fun q hq => by cases hq) (fun r b he => ?_)
  obtain ⟨k1, k2, k3, k4, -⟩ := he
  match r, k1 with
  | some y, k1 => exact absurd k1 (fun h => by cases h)
  | none, _ =>
    have fi : ∀ i j, i < 95 ∨ (96 ≤ i ∧ i ≤ 117) → b i j = mem i j := fun i j a1 => k4 i j (by
      cases hm : amod (acW abc_layDues) i j with
      | false => rfl
      | true =>
        obtain ⟨q, q1, q2, q3⟩ := amod_ex hm
        rcases a1 with a1 | a1
        · have hall : (acW abc_layDues).all (fun q => Nat.ble 95 q.1) = true := by decide +kernel
          have := List.all_eq_true.mp hall q q1
          rw [q2] at this
          have := Nat.le_of_ble_eq_true this
          omega
        · have hall : (acW abc_layDues).all (fun q => Nat.beq q.1 95 || Nat.ble 118 q.1) = true := by decide +kernel
          have := List.all_eq_true.mp hall q q1
          rw [q2] at this
          simp only [Bool.or_eq_true, Nat.beq_eq, Nat.ble_eq] at this
          omega)
    have e2 : ∀ j, j = 2 ∨ j = 33 ∨ j = 34 → b 95 j = mem 95 j := fun j hj => k4 95 j (by rcases hj with rfl | rfl | rfl <;> rfl)
    refine zgk_n hE xmo_204 60 zc_204 ?_
    simp only [ynok_30, ynok_31, w32c_0, w32c_1, w32c_2, w32c_3, w32c_4, w32c_5, w32c_6, w32c_7, w32c_8, w32c_9, w32c_10, w32c_11, w32c_12, w32c_13, w32c_14, w32c_m1, w32c_m2, w32c_118, Int.reduceAdd, Int.reduceSub, Int.reduceMul, yput_s, yput_n, znl_n, znl_0, znl_1, znl_4, ysum_n, ysum_0, ysum_1, ysum_4, true_and, and_true, Nat.reduceAdd, Nat.reduceLeDiff, true_implies, eq_self, true_or, or_true, or_false, false_or, not_true_eq_false, not_false_eq_true, false_implies, implies_true, yset_s, yset_o, yset_d, ne_eq, Nat.reduceEqDiff, Int.reduceToNat, Int.reduceEq, Int.reduceLE, Int.reduceLT, Classical.not_not, Nat.reduceLT, ↓zvk_s, ↓zvk_n, ↓s_204_0, ↓s_204_1, ↓s_204_4, ↓s_204_5n, ↓s_204_5i, ↓s_204_5p, ↓g_204_6, ↓k_204_6, ↓s_204_7, ↓s_204_8, ↓s_204_11, ↓s_204_12, ↓s_204_15, ↓s_204_18, ↓s_204_19, ↓s_204_22, ↓s_204_23, ↓s_204_24, ↓s_204_25, ↓s_204_26, ↓s_204_27, ↓s_204_28, ↓s_204_29, ↓s_204_30, ↓s_204_33, ↓s_204_36, ↓s_204_37, ↓s_204_40, ↓s_204_41, ↓s_204_42, ↓s_204_43, ↓s_204_44, ↓s_204_45, ↓s_204_46, ↓s_204_47n, ↓s_204_47i, ↓s_204_47p, ↓s_204_50, ↓s_204_53, ↓s_204_54, ↓s_204_57, ↓s_204_58, ↓s_204_59, ↓s_204_60, ↓s_204_61n, ↓s_204_61i, ↓s_204_61p, ↓g_204_62, ↓k_204_62, ↓s_204_63, ↓s_204_66, ↓s_204_67n, ↓s_204_67i, ↓s_204_67p, ↓g_204_68, ↓k_204_68, ↓s_204_69, ↓s_204_70, ↓s_204_73, ↓s_204_74, ↓s_204_77, ↓s_204_80, ↓s_204_81, ↓s_204_82, ↓s_204_83, ↓s_204_84, ↓s_204_85, ↓s_204_86n, ↓s_204_86i, ↓s_204_86p, ↓s_204_89, ↓s_204_92, ↓s_204_93, ↓g_204_96, ↓k_204_96, ↓s_204_97, ↓s_204_98, ↓s_204_101, ↓s_204_104, ↓s_204_105, ↓s_204_106, ↓s_204_107, ↓s_204_108, ↓s_204_109, ↓s_204_112, ↓s_204_113, ↓s_204_114, ↓s_204_117, ↓g_204_120, ↓k_204_120, ↓s_204_121, ↓s_204_122, ↓s_204_125, ↓s_204_128n, ↓s_204_128i, ↓s_204_128p, ↓s_204_131, ↓s_204_134, w32c_1000, zar_97, zia_97, zln_97, zit_97, zar_132, zia_132, zln_132, zit_132, zar_133, zia_133, zln_133, zit_133, zio_95]
    refine lb6 hE (by omega) k2 hcr0 hcr (fun m hI => hQ m ⟨⟨hI.2.1, yoc_Om b m (fun i j hi => hI.1 i j (fun e => by subst e; exact absurd hi (by decide)) (fun e => by subst e; exact absurd hi (by decide)) (fun e => by subst e; exact absurd hi (by decide))) k3, fun i j hi => by rw [hI.1 i j (by omega) (by omega) (by omega)]; exact fi i j hi, fun j hj => by rw [hI.1 95 j (by decide) (by decide) (by decide)]; exact e2 j hj⟩, fun u u0 u1 c c0 c1 => ?_, fun u u0 u1 c c0 c1 => ?_, by rw [hI.1 97 2 (by decide) (by decide) (by decide)]; exact k4 97 2 rfl⟩) _ _ b rfl (by decide) (by rw [w32c_0]; omega) (fun _ _ _ _ => rfl) (fun j j1 j2 => ?_)
    · rw [hI.1 97 2 (by decide) (by decide) (by decide)] at u1
      exact hI.2.2.1 u (by omega) u1 c c0 c1
    · rw [hI.1 97 2 (by decide) (by decide) (by decide)] at u1
      exact zat_fr hI.1 (hI.2.2.2 u (by omega) u1 c c0 c1)
    · rw [w32c_0] at j2
      omega
