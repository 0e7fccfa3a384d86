section
theorem s_184_0 {E : yE} {n d : Nat} {mem : yMem} {Post : Option yV → yMem → Prop} {st : List yV} {x : Int} : zvc E (n + 1) [] d xm_184 0 [some (0, x)] (st) mem Post = (zvc E n [] d xm_184 1 [some (0, x)] ((0, x) :: st) mem Post) := zrf rfl
theorem s_184_1 {E : yE} {n d : Nat} {mem : yMem} {Post : Option yV → yMem → Prop} {st : List yV} {r0 : Option yV} {x : Int} : zvc E (n + 1) [] d xm_184 1 [r0] ((0, x) :: st) mem Post = ((w32 x < w32 0 → zvc E n [] d xm_184 15 [r0] (st) mem Post) ∧ (¬ (w32 x < w32 0) → zvc E n [] d xm_184 4 [r0] (st) mem Post)) := zrf rfl
theorem s_184_4 {E : yE} {n d : Nat} {mem : yMem} {Post : Option yV → yMem → Prop} {st : List yV} {x : Int} : zvc E (n + 1) [] d xm_184 4 [some (0, x)] (st) mem Post = (zvc E n [] d xm_184 5 [some (0, x)] ((0, x) :: st) mem Post) := zrf rfl
theorem s_184_5 {E : yE} {n d : Nat} {mem : yMem} {Post : Option yV → yMem → Prop} {st : List yV} {r0 : Option yV} : zvc E (n + 1) [] d xm_184 5 [r0] (st) mem Post = (zvc E n [] d xm_184 8 [r0] ((0, 1000) :: st) mem Post) := zrf rfl
theorem s_184_8 {E : yE} {n d : Nat} {mem : yMem} {Post : Option yV → yMem → Prop} {st : List yV} {r0 : Option yV} {x y : Int} : zvc E (n + 1) [] d xm_184 8 [r0] ((0, y) :: (0, x) :: st) mem Post = ((w32 y ≤ w32 x → zvc E n [] d xm_184 15 [r0] (st) mem Post) ∧ (¬ (w32 y ≤ w32 x) → zvc E n [] d xm_184 11 [r0] (st) mem Post)) := zrf rfl
theorem s_184_11 {E : yE} {n d : Nat} {mem : yMem} {Post : Option yV → yMem → Prop} {st : List yV} {r0 : Option yV} : zvc E (n + 1) [] d xm_184 11 [r0] (st) mem Post = (zvc E n [] d xm_184 12 [r0] ((0, 1) :: st) mem Post) := zrf rfl
theorem s_184_12 {E : yE} {n d : Nat} {mem : yMem} {Post : Option yV → yMem → Prop} {st : List yV} {r0 : Option yV} : zvc E (n + 1) [] d xm_184 12 [r0] (st) mem Post = (zvc E n [] d xm_184 16 [r0] (st) mem Post) := zrf rfl
theorem s_184_15 {E : yE} {n d : Nat} {mem : yMem} {Post : Option yV → yMem → Prop} {st : List yV} {r0 : Option yV} : zvc E (n + 1) [] d xm_184 15 [r0] (st) mem Post = (zvc E n [] d xm_184 16 [r0] ((0, 0) :: st) mem Post) := zrf rfl
theorem s_184_16 {E : yE} {n d : Nat} {mem : yMem} {Post : Option yV → yMem → Prop} {r0 : Option yV} {x : Int} : zvc E (n + 1) [] d xm_184 16 [r0] ([(0, x)]) mem Post = ((w32 x = 0 ∨ w32 x = 1) ∧ Post (some (0, x)) mem) := zrf rfl
theorem s_182_0 {E : yE} {n d : Nat} {mem : yMem} {Post : Option yV → yMem → Prop} {st : List yV} {r1 r2 r3 r4 r5 : Option yV} {x : Int} : zvc E (n + 1) [] d xm_182 0 [some (1, x), r1, r2, r3, r4, r5] (st) mem Post = (zvc E n [] d xm_182 1 [some (1, x), r1, r2, r3, r4, r5] ((1, x) :: st) mem Post) := zrf rfl
theorem s_182_1 {E : yE} {n d : Nat} {mem : yMem} {Post : Option yV → yMem → Prop} {st : List yV} {r0 r2 r3 r4 r5 : Option yV} {x : Int} : zvc E (n + 1) [] d xm_182 1 [r0, some (0, x), r2, r3, r4, r5] (st) mem Post = (zvc E n [] d xm_182 2 [r0, some (0, x), r2, r3, r4, r5] ((0, x) :: st) mem Post) := zrf rfl
theorem s_182_2 {E : yE} {n d : Nat} {mem : yMem} {Post : Option yV → yMem → Prop} {st : List yV} {r0 r1 r2 r3 r4 r5 : Option yV} {z a0 : Int} : zvc E (n + 1) [] d xm_182 2 [r0, r1, r2, r3, r4, r5] ((0, a0) :: (1, z) :: st) mem Post = (zio z 12 = true ∧ ysum st ≤ 8 ∧ yCon E d xm_156 [(1, z), (0, a0)] mem (fun v mem' => zgk E d xm_182 5 [r0, r1, r2, r3, r4, r5] st v mem' Post)) := zrf rfl
theorem s_182_5n {E : yE} {n d : Nat} {mem : yMem} {Post : Option yV → yMem → Prop} {st : List yV} {r0 r1 r3 r4 r5 : Option yV} {x : Int} : zvc E (n + 1) [] d xm_182 5 [r0, r1, none, r3, r4, r5] ((0, x) :: st) mem Post = (zvc E n [] d xm_182 6 [r0, r1, none, some (0, x), r4, r5] (st) mem Post) := zrf rfl
theorem s_182_5i {E : yE} {n d : Nat} {mem : yMem} {Post : Option yV → yMem → Prop} {st : List yV} {r0 r1 r3 r4 r5 : Option yV} {x w : Int} : zvc E (n + 1) [] d xm_182 5 [r0, r1, some (0, w), r3, r4, r5] ((0, x) :: st) mem Post = (zvc E n [] d xm_182 6 [r0, r1, some (0, w), some (0, x), r4, r5] (st) mem Post) := zrf rfl
theorem s_182_5p {E : yE} {n d : Nat} {mem : yMem} {Post : Option yV → yMem → Prop} {st : List yV} {r0 r1 r3 r4 r5 : Option yV} {x w : Int} : zvc E (n + 1) [] d xm_182 5 [r0, r1, some (1, w), r3, r4, r5] ((0, x) :: st) mem Post = (zvc E n [] d xm_182 6 [r0, r1, some (1, w), some (0, x), r4, r5] (st) mem Post) := zrf rfl
theorem s_182_6 {E : yE} {n d : Nat} {mem : yMem} {Post : Option yV → yMem → Prop} {st : List yV} {r0 r1 r2 r4 r5 : Option yV} {x : Int} : zvc E (n + 1) [] d xm_182 6 [r0, r1, r2, some (0, x), r4, r5] (st) mem Post = (zvc E n [] d xm_182 7 [r0, r1, r2, some (0, x), r4, r5] ((0, x) :: st) mem Post) := zrf rfl
theorem s_182_7 {E : yE} {n d : Nat} {mem : yMem} {Post : Option yV → yMem → Prop} {st : List yV} {r0 r1 r3 r4 r5 : Option yV} {x : Int} : zvc E (n + 1) [] d xm_182 7 [r0, r1, some (0, x), r3, r4, r5] (st) mem Post = (zvc E n [] d xm_182 8 [r0, r1, some (0, x), r3, r4, r5] ((0, x) :: st) mem Post) := zrf rfl
theorem s_182_8 {E : yE} {n d : Nat} {mem : yMem} {Post : Option yV → yMem → Prop} {st : List yV} {r0 r1 r2 r3 r4 r5 : Option yV} {x y : Int} : zvc E (n + 1) [] d xm_182 8 [r0, r1, r2, r3, r4, r5] ((0, y) :: (0, x) :: st) mem Post = ((w32 x ≤ w32 y → zvc E n [] d xm_182 13 [r0, r1, r2, r3, r4, r5] (st) mem Post) ∧ (¬ (w32 x ≤ w32 y) → zvc E n [] d xm_182 11 [r0, r1, r2, r3, r4, r5] (st) mem Post)) := zrf rfl
theorem s_182_11 {E : yE} {n d : Nat} {mem : yMem} {Post : Option yV → yMem → Prop} {st : List yV} {r0 r1 r2 r3 r4 r5 : Option yV} : zvc E (n + 1) [] d xm_182 11 [r0, r1, r2, r3, r4, r5] (st) mem Post = (zvc E n [] d xm_182 12 [r0, r1, r2, r3, r4, r5] ((0, 0) :: st) mem Post) := zrf rfl
theorem s_182_12 {E : yE} {n d : Nat} {mem : yMem} {Post : Option yV → yMem → Prop} {r0 r1 r2 r3 r4 r5 : Option yV} {x : Int} : zvc E (n + 1) [] d xm_182 12 [r0, r1, r2, r3, r4, r5] ([(0, x)]) mem Post = ((w32 x = 0 ∨ w32 x = 1) ∧ Post (some (0, x)) mem) := zrf rfl
theorem s_182_13 {E : yE} {n d : Nat} {mem : yMem} {Post : Option yV → yMem → Prop} {st : List yV} {r0 r1 r2 r3 r4 r5 : Option yV} : zvc E (n + 1) [] d xm_182 13 [r0, r1, r2, r3, r4, r5] (st) mem Post = (zvc E n [] d xm_182 16 [r0, r1, r2, r3, r4, r5] ((0, 1000) :: st) mem Post) := zrf rfl
theorem s_182_16 {E : yE} {n d : Nat} {mem : yMem} {Post : Option yV → yMem → Prop} {st : List yV} {r0 r2 r3 r4 r5 : Option yV} {x : Int} : zvc E (n + 1) [] d xm_182 16 [r0, some (0, x), r2, r3, r4, r5] (st) mem Post = (zvc E n [] d xm_182 17 [r0, some (0, x), r2, r3, r4, r5] ((0, x) :: st) mem Post) := zrf rfl
theorem s_182_17 {E : yE} {n d : Nat} {mem : yMem} {Post : Option yV → yMem → Prop} {st : List yV} {r0 r1 r2 r3 r4 r5 : Option yV} : zvc E (n + 1) [] d xm_182 17 [r0, r1, r2, r3, r4, r5] (st) mem Post = (zvc E n [] d xm_182 18 [r0, r1, r2, r3, r4, r5] ((0, 1) :: st) mem Post) := zrf rfl
theorem s_182_18 {E : yE} {n d : Nat} {mem : yMem} {Post : Option yV → yMem → Prop} {st : List yV} {r0 r1 r2 r3 r4 r5 : Option yV} {x y : Int} : zvc E (n + 1) [] d xm_182 18 [r0, r1, r2, r3, r4, r5] ((0, y) :: (0, x) :: st) mem Post = (zvc E n [] d xm_182 19 [r0, r1, r2, r3, r4, r5] ((0, x + y) :: st) mem Post) := zrf rfl
theorem s_182_19 {E : yE} {n d : Nat} {mem : yMem} {Post : Option yV → yMem → Prop} {st : List yV} {r0 r1 r2 r3 r4 r5 : Option yV} {x y : Int} : zvc E (n + 1) [] d xm_182 19 [r0, r1, r2, r3, r4, r5] ((0, y) :: (0, x) :: st) mem Post = (zvc E n [] d xm_182 20 [r0, r1, r2, r3, r4, r5] ((0, x * y) :: st) mem Post) := zrf rfl
theorem s_182_20 {E : yE} {n d : Nat} {mem : yMem} {Post : Option yV → yMem → Prop} {st : List yV} {r0 r1 r3 r4 r5 : Option yV} {x : Int} : zvc E (n + 1) [] d xm_182 20 [r0, r1, some (0, x), r3, r4, r5] (st) mem Post = (zvc E n [] d xm_182 21 [r0, r1, some (0, x), r3, r4, r5] ((0, x) :: st) mem Post) := zrf rfl
theorem s_182_21 {E : yE} {n d : Nat} {mem : yMem} {Post : Option yV → yMem → Prop} {st : List yV} {r0 r1 r2 r3 r4 r5 : Option yV} {x y : Int} : zvc E (n + 1) [] d xm_182 21 [r0, r1, r2, r3, r4, r5] ((0, y) :: (0, x) :: st) mem Post = (zvc E n [] d xm_182 22 [r0, r1, r2, r3, r4, r5] ((0, x + y) :: st) mem Post) := zrf rfl
theorem s_182_22 {E : yE} {n d : Nat} {mem : yMem} {Post : Option yV → yMem → Prop} {st : List yV} {r0 r1 r2 r4 r5 : Option yV} {x : Int} : zvc E (n + 1) [] d xm_182 22 [r0, r1, r2, some (0, x), r4, r5] (st) mem Post = (zvc E n [] d xm_182 23 [r0, r1, r2, some (0, x), r4, r5] ((0, x) :: st) mem Post) := zrf rfl
theorem s_182_23 {E : yE} {n d : Nat} {mem : yMem} {Post : Option yV → yMem → Prop} {st : List yV} {r0 r1 r2 r3 r4 r5 : Option yV} {x y : Int} : zvc E (n + 1) [] d xm_182 23 [r0, r1, r2, r3, r4, r5] ((0, y) :: (0, x) :: st) mem Post = (zvc E n [] d xm_182 24 [r0, r1, r2, r3, r4, r5] ((0, x - y) :: st) mem Post) := zrf rfl
theorem s_182_24n {E : yE} {n d : Nat} {mem : yMem} {Post : Option yV → yMem → Prop} {st : List yV} {r0 r1 r2 r4 r5 : Option yV} {x : Int} : zvc E (n + 1) [] d xm_182 24 [r0, r1, r2, none, r4, r5] ((0, x) :: st) mem Post = (zvc E n [] d xm_182 26 [r0, r1, r2, none, some (0, x), r5] (st) mem Post) := zrf rfl
theorem s_182_24i {E : yE} {n d : Nat} {mem : yMem} {Post : Option yV → yMem → Prop} {st : List yV} {r0 r1 r2 r4 r5 : Option yV} {x w : Int} : zvc E (n + 1) [] d xm_182 24 [r0, r1, r2, some (0, w), r4, r5] ((0, x) :: st) mem Post = (zvc E n [] d xm_182 26 [r0, r1, r2, some (0, w), some (0, x), r5] (st) mem Post) := zrf rfl
theorem s_182_24p {E : yE} {n d : Nat} {mem : yMem} {Post : Option yV → yMem → Prop} {st : List yV} {r0 r1 r2 r4 r5 : Option yV} {x w : Int} : zvc E (n + 1) [] d xm_182 24 [r0, r1, r2, some (1, w), r4, r5] ((0, x) :: st) mem Post = (zvc E n [] d xm_182 26 [r0, r1, r2, some (1, w), some (0, x), r5] (st) mem Post) := zrf rfl
theorem s_182_26 {E : yE} {n d : Nat} {mem : yMem} {Post : Option yV → yMem → Prop} {st : List yV} {r0 r1 r2 r3 r4 r5 : Option yV} : zvc E (n + 1) [] d xm_182 26 [r0, r1, r2, r3, r4, r5] (st) mem Post = (zvc E n [] d xm_182 29 [r0, r1, r2, r3, r4, r5] ((0, 1000) :: st) mem Post) := zrf rfl
theorem s_182_29 {E : yE} {n d : Nat} {mem : yMem} {Post : Option yV → yMem → Prop} {st : List yV} {r0 r2 r3 r4 r5 : Option yV} {x : Int} : zvc E (n + 1) [] d xm_182 29 [r0, some (0, x), r2, r3, r4, r5] (st) mem Post = (zvc E n [] d xm_182 30 [r0, some (0, x), r2, r3, r4, r5] ((0, x) :: st) mem Post) := zrf rfl
theorem s_182_30 {E : yE} {n d : Nat} {mem : yMem} {Post : Option yV → yMem → Prop} {st : List yV} {r0 r1 r2 r3 r4 r5 : Option yV} {x y : Int} : zvc E (n + 1) [] d xm_182 30 [r0, r1, r2, r3, r4, r5] ((0, y) :: (0, x) :: st) mem Post = (zvc E n [] d xm_182 31 [r0, r1, r2, r3, r4, r5] ((0, x * y) :: st) mem Post) := zrf rfl
theorem s_182_31 {E : yE} {n d : Nat} {mem : yMem} {Post : Option yV → yMem → Prop} {st : List yV} {r0 r1 r3 r4 r5 : Option yV} {x : Int} : zvc E (n + 1) [] d xm_182 31 [r0, r1, some (0, x), r3, r4, r5] (st) mem Post = (zvc E n [] d xm_182 32 [r0, r1, some (0, x), r3, r4, r5] ((0, x) :: st) mem Post) := zrf rfl
theorem s_182_32 {E : yE} {n d : Nat} {mem : yMem} {Post : Option yV → yMem → Prop} {st : List yV} {r0 r1 r2 r3 r4 r5 : Option yV} {x y : Int} : zvc E (n + 1) [] d xm_182 32 [r0, r1, r2, r3, r4, r5] ((0, y) :: (0, x) :: st) mem Post = (zvc E n [] d xm_182 33 [r0, r1, r2, r3, r4, r5] ((0, x + y) :: st) mem Post) := zrf rfl
theorem s_182_33n {E : yE} {n d : Nat} {mem : yMem} {Post : Option yV → yMem → Prop} {st : List yV} {r0 r1 r2 r3 r5 : Option yV} {x : Int} : zvc E (n + 1) [] d xm_182 33 [r0, r1, r2, r3, none, r5] ((0, x) :: st) mem Post = (zvc E n [] d xm_182 35 [r0, r1, r2, r3, none, some (0, x)] (st) mem Post) := zrf rfl
theorem s_182_33i {E : yE} {n d : Nat} {mem : yMem} {Post : Option yV → yMem → Prop} {st : List yV} {r0 r1 r2 r3 r5 : Option yV} {x w : Int} : zvc E (n + 1) [] d xm_182 33 [r0, r1, r2, r3, some (0, w), r5] ((0, x) :: st) mem Post = (zvc E n [] d xm_182 35 [r0, r1, r2, r3, some (0, w), some (0, x)] (st) mem Post) := zrf rfl
theorem s_182_33p {E : yE} {n d : Nat} {mem : yMem} {Post : Option yV → yMem → Prop} {st : List yV} {r0 r1 r2 r3 r5 : Option yV} {x w : Int} : zvc E (n + 1) [] d xm_182 33 [r0, r1, r2, r3, some (1, w), r5] ((0, x) :: st) mem Post = (zvc E n [] d xm_182 35 [r0, r1, r2, r3, some (1, w), some (0, x)] (st) mem Post) := zrf rfl
theorem s_182_35 {E : yE} {n d : Nat} {mem : yMem} {Post : Option yV → yMem → Prop} {st : List yV} {r1 r2 r3 r4 r5 : Option yV} {x : Int} : zvc E (n + 1) [] d xm_182 35 [some (1, x), r1, r2, r3, r4, r5] (st) mem Post = (zvc E n [] d xm_182 36 [some (1, x), r1, r2, r3, r4, r5] ((1, x) :: st) mem Post) := zrf rfl
theorem s_182_36 {E : yE} {n d : Nat} {mem : yMem} {Post : Option yV → yMem → Prop} {st : List yV} {r0 r2 r3 r4 r5 : Option yV} {x : Int} : zvc E (n + 1) [] d xm_182 36 [r0, some (0, x), r2, r3, r4, r5] (st) mem Post = (zvc E n [] d xm_182 37 [r0, some (0, x), r2, r3, r4, r5] ((0, x) :: st) mem Post) := zrf rfl
theorem s_182_37 {E : yE} {n d : Nat} {mem : yMem} {Post : Option yV → yMem → Prop} {st : List yV} {r0 r1 r2 r3 r4 r5 : Option yV} {z a0 : Int} : zvc E (n + 1) [] d xm_182 37 [r0, r1, r2, r3, r4, r5] ((0, a0) :: (1, z) :: st) mem Post = (zio z 12 = true ∧ ysum st ≤ 8 ∧ yCon E d xm_171 [(1, z), (0, a0)] mem (fun v mem' => zgk E d xm_182 40 [r0, r1, r2, r3, r4, r5] st v mem' Post)) := zrf rfl
theorem s_182_40 {E : yE} {n d : Nat} {mem : yMem} {Post : Option yV → yMem → Prop} {st : List yV} {r1 r2 r3 r4 r5 : Option yV} {x : Int} : zvc E (n + 1) [] d xm_182 40 [some (1, x), r1, r2, r3, r4, r5] (st) mem Post = (zvc E n [] d xm_182 41 [some (1, x), r1, r2, r3, r4, r5] ((1, x) :: st) mem Post) := zrf rfl
theorem s_182_41 {E : yE} {n d : Nat} {mem : yMem} {Post : Option yV → yMem → Prop} {st : List yV} {r0 r1 r2 r3 r4 r5 : Option yV} : zvc E (n + 1) [] d xm_182 41 [r0, r1, r2, r3, r4, r5] ((1, 95) :: st) mem Post = (zvc E n [] d xm_182 44 [r0, r1, r2, r3, r4, r5] ((1, 132) :: st) mem Post) := zrf rfl
theorem s_182_44 {E : yE} {n d : Nat} {mem : yMem} {Post : Option yV → yMem → Prop} {st : List yV} {r0 r1 r2 r3 r5 : Option yV} {x : Int} : zvc E (n + 1) [] d xm_182 44 [r0, r1, r2, r3, some (0, x), r5] (st) mem Post = (zvc E n [] d xm_182 46 [r0, r1, r2, r3, some (0, x), r5] ((0, x) :: st) mem Post) := zrf rfl
theorem s_182_46 {E : yE} {n d : Nat} {mem : yMem} {Post : Option yV → yMem → Prop} {st : List yV} {r0 r1 r2 r3 r4 r5 : Option yV} {z j : Int} : zvc E (n + 1) [] d xm_182 46 [r0, r1, r2, r3, r4, r5] ((0, j) :: (1, z) :: st) mem Post = ((0 ≤ w32 j ∧ w32 j < ((zar z 0 : Nat) : Int)) ∧ zvc E n [] d xm_182 47 [r0, r1, r2, r3, r4, r5] ((0, mem z.toNat (w32 j).toNat) :: st) mem Post) := zrf rfl
theorem s_182_47 {E : yE} {n d : Nat} {mem : yMem} {Post : Option yV → yMem → Prop} {st : List yV} {r0 r1 r2 r3 r4 r5 : Option yV} {x y : Int} : zvc E (n + 1) [] d xm_182 47 [r0, r1, r2, r3, r4, r5] ((0, y) :: (0, x) :: st) mem Post = (zvc E n [] d xm_182 48 [r0, r1, r2, r3, r4, r5] ((0, x + y) :: st) mem Post) := zrf rfl
theorem s_182_48 {E : yE} {n d : Nat} {mem : yMem} {Post : Option yV → yMem → Prop} {st : List yV} {r1 r2 r3 r4 r5 : Option yV} {x : Int} : zvc E (n + 1) [] d xm_182 48 [some (1, x), r1, r2, r3, r4, r5] (st) mem Post = (zvc E n [] d xm_182 49 [some (1, x), r1, r2, r3, r4, r5] ((1, x) :: st) mem Post) := zrf rfl
theorem s_182_49 {E : yE} {n d : Nat} {mem : yMem} {Post : Option yV → yMem → Prop} {st : List yV} {r0 r1 r2 r3 r4 r5 : Option yV} : zvc E (n + 1) [] d xm_182 49 [r0, r1, r2, r3, r4, r5] ((1, 95) :: st) mem Post = (zvc E n [] d xm_182 52 [r0, r1, r2, r3, r4, r5] ((1, 132) :: st) mem Post) := zrf rfl
theorem s_182_52 {E : yE} {n d : Nat} {mem : yMem} {Post : Option yV → yMem → Prop} {st : List yV} {r0 r1 r2 r3 r4 : Option yV} {x : Int} : zvc E (n + 1) [] d xm_182 52 [r0, r1, r2, r3, r4, some (0, x)] (st) mem Post = (zvc E n [] d xm_182 54 [r0, r1, r2, r3, r4, some (0, x)] ((0, x) :: st) mem Post) := zrf rfl
theorem s_182_54 {E : yE} {n d : Nat} {mem : yMem} {Post : Option yV → yMem → Prop} {st : List yV} {r0 r1 r2 r3 r4 r5 : Option yV} {z j : Int} : zvc E (n + 1) [] d xm_182 54 [r0, r1, r2, r3, r4, r5] ((0, j) :: (1, z) :: st) mem Post = ((0 ≤ w32 j ∧ w32 j < ((zar z 0 : Nat) : Int)) ∧ zvc E n [] d xm_182 55 [r0, r1, r2, r3, r4, r5] ((0, mem z.toNat (w32 j).toNat) :: st) mem Post) := zrf rfl
theorem s_182_55 {E : yE} {n d : Nat} {mem : yMem} {Post : Option yV → yMem → Prop} {st : List yV} {r0 r1 r2 r3 r4 r5 : Option yV} {x y : Int} : zvc E (n + 1) [] d xm_182 55 [r0, r1, r2, r3, r4, r5] ((0, y) :: (0, x) :: st) mem Post = ((¬ w32 x = w32 y → zvc E n [] d xm_182 81 [r0, r1, r2, r3, r4, r5] (st) mem Post) ∧ (¬ (¬ w32 x = w32 y) → zvc E n [] d xm_182 58 [r0, r1, r2, r3, r4, r5] (st) mem Post)) := zrf rfl
theorem s_182_58 {E : yE} {n d : Nat} {mem : yMem} {Post : Option yV → yMem → Prop} {st : List yV} {r0 r1 r2 r4 r5 : Option yV} {x : Int} : zvc E (n + 1) [] d xm_182 58 [r0, r1, r2, some (0, x), r4, r5] (st) mem Post = (zvc E n [] d xm_182 59 [r0, r1, r2, some (0, x), r4, r5] ((0, x) :: st) mem Post) := zrf rfl
theorem s_182_59 {E : yE} {n d : Nat} {mem : yMem} {Post : Option yV → yMem → Prop} {st : List yV} {r1 r2 r3 r4 r5 : Option yV} {x : Int} : zvc E (n + 1) [] d xm_182 59 [some (1, x), r1, r2, r3, r4, r5] (st) mem Post = (zvc E n [] d xm_182 60 [some (1, x), r1, r2, r3, r4, r5] ((1, x) :: st) mem Post) := zrf rfl
theorem s_182_60 {E : yE} {n d : Nat} {mem : yMem} {Post : Option yV → yMem → Prop} {st : List yV} {r0 r1 r2 r3 r4 r5 : Option yV} : zvc E (n + 1) [] d xm_182 60 [r0, r1, r2, r3, r4, r5] ((1, 95) :: st) mem Post = (zvc E n [] d xm_182 63 [r0, r1, r2, r3, r4, r5] ((1, 133) :: st) mem Post) := zrf rfl
theorem s_182_63 {E : yE} {n d : Nat} {mem : yMem} {Post : Option yV → yMem → Prop} {st : List yV} {r0 r1 r2 r3 r5 : Option yV} {x : Int} : zvc E (n + 1) [] d xm_182 63 [r0, r1, r2, r3, some (0, x), r5] (st) mem Post = (zvc E n [] d xm_182 65 [r0, r1, r2, r3, some (0, x), r5] ((0, x) :: st) mem Post) := zrf rfl
theorem s_182_65 {E : yE} {n d : Nat} {mem : yMem} {Post : Option yV → yMem → Prop} {st : List yV} {r0 r1 r2 r3 r4 r5 : Option yV} {z j : Int} : zvc E (n + 1) [] d xm_182 65 [r0, r1, r2, r3, r4, r5] ((0, j) :: (1, z) :: st) mem Post = ((0 ≤ w32 j ∧ w32 j < ((zar z 0 : Nat) : Int)) ∧ zvc E n [] d xm_182 66 [r0, r1, r2, r3, r4, r5] ((0, mem z.toNat (w32 j).toNat) :: st) mem Post) := zrf rfl
theorem s_182_66 {E : yE} {n d : Nat} {mem : yMem} {Post : Option yV → yMem → Prop} {st : List yV} {r0 r1 r2 r3 r4 r5 : Option yV} {x y : Int} : zvc E (n + 1) [] d xm_182 66 [r0, r1, r2, r3, r4, r5] ((0, y) :: (0, x) :: st) mem Post = (zvc E n [] d xm_182 67 [r0, r1, r2, r3, r4, r5] ((0, x + y) :: st) mem Post) := zrf rfl
theorem s_182_67 {E : yE} {n d : Nat} {mem : yMem} {Post : Option yV → yMem → Prop} {st : List yV} {r1 r2 r3 r4 r5 : Option yV} {x : Int} : zvc E (n + 1) [] d xm_182 67 [some (1, x), r1, r2, r3, r4, r5] (st) mem Post = (zvc E n [] d xm_182 68 [some (1, x), r1, r2, r3, r4, r5] ((1, x) :: st) mem Post) := zrf rfl
theorem s_182_68 {E : yE} {n d : Nat} {mem : yMem} {Post : Option yV → yMem → Prop} {st : List yV} {r0 r1 r2 r3 r4 r5 : Option yV} : zvc E (n + 1) [] d xm_182 68 [r0, r1, r2, r3, r4, r5] ((1, 95) :: st) mem Post = (zvc E n [] d xm_182 71 [r0, r1, r2, r3, r4, r5] ((1, 133) :: st) mem Post) := zrf rfl
theorem s_182_71 {E : yE} {n d : Nat} {mem : yMem} {Post : Option yV → yMem → Prop} {st : List yV} {r0 r1 r2 r3 r4 : Option yV} {x : Int} : zvc E (n + 1) [] d xm_182 71 [r0, r1, r2, r3, r4, some (0, x)] (st) mem Post = (zvc E n [] d xm_182 73 [r0, r1, r2, r3, r4, some (0, x)] ((0, x) :: st) mem Post) := zrf rfl
theorem s_182_73 {E : yE} {n d : Nat} {mem : yMem} {Post : Option yV → yMem → Prop} {st : List yV} {r0 r1 r2 r3 r4 r5 : Option yV} {z j : Int} : zvc E (n + 1) [] d xm_182 73 [r0, r1, r2, r3, r4, r5] ((0, j) :: (1, z) :: st) mem Post = ((0 ≤ w32 j ∧ w32 j < ((zar z 0 : Nat) : Int)) ∧ zvc E n [] d xm_182 74 [r0, r1, r2, r3, r4, r5] ((0, mem z.toNat (w32 j).toNat) :: st) mem Post) := zrf rfl
theorem s_182_74 {E : yE} {n d : Nat} {mem : yMem} {Post : Option yV → yMem → Prop} {st : List yV} {r0 r1 r2 r3 r4 r5 : Option yV} {x y : Int} : zvc E (n + 1) [] d xm_182 74 [r0, r1, r2, r3, r4, r5] ((0, y) :: (0, x) :: st) mem Post = ((¬ w32 x = w32 y → zvc E n [] d xm_182 81 [r0, r1, r2, r3, r4, r5] (st) mem Post) ∧ (¬ (¬ w32 x = w32 y) → zvc E n [] d xm_182 77 [r0, r1, r2, r3, r4, r5] (st) mem Post)) := zrf rfl
theorem s_182_77 {E : yE} {n d : Nat} {mem : yMem} {Post : Option yV → yMem → Prop} {st : List yV} {r0 r1 r2 r3 r4 r5 : Option yV} : zvc E (n + 1) [] d xm_182 77 [r0, r1, r2, r3, r4, r5] (st) mem Post = (zvc E n [] d xm_182 78 [r0, r1, r2, r3, r4, r5] ((0, 1) :: st) mem Post) := zrf rfl
theorem s_182_78 {E : yE} {n d : Nat} {mem : yMem} {Post : Option yV → yMem → Prop} {st : List yV} {r0 r1 r2 r3 r4 r5 : Option yV} : zvc E (n + 1) [] d xm_182 78 [r0, r1, r2, r3, r4, r5] (st) mem Post = (zvc E n [] d xm_182 82 [r0, r1, r2, r3, r4, r5] (st) mem Post) := zrf rfl
theorem s_182_81 {E : yE} {n d : Nat} {mem : yMem} {Post : Option yV → yMem → Prop} {st : List yV} {r0 r1 r2 r3 r4 r5 : Option yV} : zvc E (n + 1) [] d xm_182 81 [r0, r1, r2, r3, r4, r5] (st) mem Post = (zvc E n [] d xm_182 82 [r0, r1, r2, r3, r4, r5] ((0, 0) :: st) mem Post) := zrf rfl
theorem s_182_82 {E : yE} {n d : Nat} {mem : yMem} {Post : Option yV → yMem → Prop} {r0 r1 r2 r3 r4 r5 : Option yV} {x : Int} : zvc E (n + 1) [] d xm_182 82 [r0, r1, r2, r3, r4, r5] ([(0, x)]) mem Post = ((w32 x = 0 ∨ w32 x = 1) ∧ Post (some (0, x)) mem) := zrf rfl
def zc_147 : List Nat := [23]
theorem s_147_0 {E : yE} {n d : Nat} {mem : yMem} {Post : Option yV → yMem → Prop} {st : List yV} {r1 r2 : Option yV} {x : Int} : zvc E (n + 1) zc_147 d xm_147 0 [some (1, x), r1, r2] (st) mem Post = (zvc E n zc_147 d xm_147 1 [some (1, x), r1, r2] ((1, x) :: st) mem Post) := zrf rfl
theorem s_147_1 {E : yE} {n d : Nat} {mem : yMem} {Post : Option yV → yMem → Prop} {st : List yV} {r0 r1 r2 : Option yV} : zvc E (n + 1) zc_147 d xm_147 1 [r0, r1, r2] (st) mem Post = (zvc E n zc_147 d xm_147 2 [r0, r1, r2] ((0, 0) :: st) mem Post) := zrf rfl
theorem s_147_2 {E : yE} {n d : Nat} {mem : yMem} {Post : Option yV → yMem → Prop} {st : List yV} {r0 r1 r2 : Option yV} {x : Int} : zvc E (n + 1) zc_147 d xm_147 2 [r0, r1, r2] ((0, x) :: (1, 95) :: st) mem Post = (zvc E n zc_147 d xm_147 5 [r0, r1, r2] (st) (yset mem 95 0 x) Post) := zrf rfl
theorem s_147_5 {E : yE} {n d : Nat} {mem : yMem} {Post : Option yV → yMem → Prop} {st : List yV} {r0 r2 : Option yV} {x : Int} : zvc E (n + 1) zc_147 d xm_147 5 [r0, some (0, x), r2] (st) mem Post = (zvc E n zc_147 d xm_147 6 [r0, some (0, x), r2] ((0, x) :: st) mem Post) := zrf rfl
theorem s_147_6 {E : yE} {n d : Nat} {mem : yMem} {Post : Option yV → yMem → Prop} {st : List yV} {r0 r1 r2 : Option yV} {a0 : Int} : zvc E (n + 1) zc_147 (d + 1) xm_147 6 [r0, r1, r2] ((0, a0) :: st) mem Post = (True ∧ ysum st ≤ 8 ∧ zvc E n [] d xm_184 0 [some (0, a0)] [] mem (fun v mem' => zvk E n zc_147 (d + 1) xm_147 9 [r0, r1, r2] st v mem' Post)) := zrf rfl
theorem s_147_9 {E : yE} {n d : Nat} {mem : yMem} {Post : Option yV → yMem → Prop} {st : List yV} {r0 r1 r2 : Option yV} {x : Int} : zvc E (n + 1) zc_147 d xm_147 9 [r0, r1, r2] ((0, x) :: st) mem Post = ((w32 x = w32 0 → zvc E n zc_147 d xm_147 21 [r0, r1, r2] (st) mem Post) ∧ (¬ (w32 x = w32 0) → zvc E n zc_147 d xm_147 12 [r0, r1, r2] (st) mem Post)) := zrf rfl
theorem s_147_12 {E : yE} {n d : Nat} {mem : yMem} {Post : Option yV → yMem → Prop} {st : List yV} {r0 r1 : Option yV} {x : Int} : zvc E (n + 1) zc_147 d xm_147 12 [r0, r1, some (0, x)] (st) mem Post = (zvc E n zc_147 d xm_147 13 [r0, r1, some (0, x)] ((0, x) :: st) mem Post) := zrf rfl
theorem s_147_13 {E : yE} {n d : Nat} {mem : yMem} {Post : Option yV → yMem → Prop} {st : List yV} {r0 r1 r2 : Option yV} {x : Int} : zvc E (n + 1) zc_147 d xm_147 13 [r0, r1, r2] ((0, x) :: st) mem Post = ((w32 x < w32 0 → zvc E n zc_147 d xm_147 21 [r0, r1, r2] (st) mem Post) ∧ (¬ (w32 x < w32 0) → zvc E n zc_147 d xm_147 16 [r0, r1, r2] (st) mem Post)) := zrf rfl
theorem s_147_16 {E : yE} {n d : Nat} {mem : yMem} {Post : Option yV → yMem → Prop} {st : List yV} {r0 r1 : Option yV} {x : Int} : zvc E (n + 1) zc_147 d xm_147 16 [r0, r1, some (0, x)] (st) mem Post = (zvc E n zc_147 d xm_147 17 [r0, r1, some (0, x)] ((0, x) :: st) mem Post) := zrf rfl
theorem s_147_17 {E : yE} {n d : Nat} {mem : yMem} {Post : Option yV → yMem → Prop} {st : List yV} {r0 r1 r2 : Option yV} : zvc E (n + 1) zc_147 d xm_147 17 [r0, r1, r2] (st) mem Post = (zvc E n zc_147 d xm_147 18 [r0, r1, r2] ((0, 1) :: st) mem Post) := zrf rfl
theorem s_147_18 {E : yE} {n d : Nat} {mem : yMem} {Post : Option yV → yMem → Prop} {st : List yV} {r0 r1 r2 : Option yV} {x y : Int} : zvc E (n + 1) zc_147 d xm_147 18 [r0, r1, r2] ((0, y) :: (0, x) :: st) mem Post = ((w32 x ≤ w32 y → zvc E n zc_147 d xm_147 23 [r0, r1, r2] (st) mem Post) ∧ (¬ (w32 x ≤ w32 y) → zvc E n zc_147 d xm_147 21 [r0, r1, r2] (st) mem Post)) := zrf rfl
theorem s_147_21 {E : yE} {n d : Nat} {mem : yMem} {Post : Option yV → yMem → Prop} {st : List yV} {r0 r1 r2 : Option yV} : zvc E (n + 1) zc_147 d xm_147 21 [r0, r1, r2] (st) mem Post = (zvc E n zc_147 d xm_147 22 [r0, r1, r2] ((0, (-1)) :: st) mem Post) := zrf rfl
theorem s_147_22 {E : yE} {n d : Nat} {mem : yMem} {Post : Option yV → yMem → Prop} {r0 r1 r2 : Option yV} {x : Int} : zvc E (n + 1) zc_147 d xm_147 22 [r0, r1, r2] ([(0, x)]) mem Post = (Post (some (0, x)) mem) := zrf rfl
theorem g_147_23 {E : yE} {n d : Nat} {mem : yMem} {Post : Option yV → yMem → Prop} {st : List yV} {r1 r2 : Option yV} {x : Int} : zgo E n zc_147 d xm_147 23 [some (1, x), r1, r2] (st) mem Post = (zvc E n zc_147 d xm_147 24 [some (1, x), r1, r2] ((1, x) :: st) mem Post) := zrf rfl
theorem k_147_23 {E : yE} {n d : Nat} {mem : yMem} {Post : Option yV → yMem → Prop} {st : List yV} {rg : zR} : zvc E (n + 1) zc_147 d xm_147 23 rg st mem Post = zG E d xm_147 23 rg st mem Post := zrf rfl
theorem s_147_24 {E : yE} {n d : Nat} {mem : yMem} {Post : Option yV → yMem → Prop} {st : List yV} {r0 r2 : Option yV} {x : Int} : zvc E (n + 1) zc_147 d xm_147 24 [r0, some (0, x), r2] (st) mem Post = (zvc E n zc_147 d xm_147 25 [r0, some (0, x), r2] ((0, x) :: st) mem Post) := zrf rfl
theorem s_147_25 {E : yE} {n d : Nat} {mem : yMem} {Post : Option yV → yMem → Prop} {st : List yV} {r0 r1 r2 : Option yV} {z a0 : Int} : zvc E (n + 1) zc_147 d xm_147 25 [r0, r1, r2] ((0, a0) :: (1, z) :: st) mem Post = (zio z 12 = true ∧ ysum st ≤ 8 ∧ yCon E d xm_204 [(1, z), (0, a0)] mem (fun v mem' => zgk E d xm_147 28 [r0, r1, r2] st v mem' Post)) := zrf rfl
theorem s_147_28 {E : yE} {n d : Nat} {mem : yMem} {Post : Option yV → yMem → Prop} {st : List yV} {r0 r1 : Option yV} {x : Int} : zvc E (n + 1) zc_147 d xm_147 28 [r0, r1, some (0, x)] (st) mem Post = (zvc E n zc_147 d xm_147 29 [r0, r1, some (0, x)] ((0, x) :: st) mem Post) := zrf rfl
theorem s_147_29 {E : yE} {n d : Nat} {mem : yMem} {Post : Option yV → yMem → Prop} {st : List yV} {r0 r1 r2 : Option yV} {x : Int} : zvc E (n + 1) zc_147 d xm_147 29 [r0, r1, r2] ((0, x) :: st) mem Post = ((¬ w32 x = w32 0 → zvc E n zc_147 d xm_147 41 [r0, r1, r2] (st) mem Post) ∧ (¬ (¬ w32 x = w32 0) → zvc E n zc_147 d xm_147 32 [r0, r1, r2] (st) mem Post)) := zrf rfl
theorem s_147_32 {E : yE} {n d : Nat} {mem : yMem} {Post : Option yV → yMem → Prop} {st : List yV} {r1 r2 : Option yV} {x : Int} : zvc E (n + 1) zc_147 d xm_147 32 [some (1, x), r1, r2] (st) mem Post = (zvc E n zc_147 d xm_147 33 [some (1, x), r1, r2] ((1, x) :: st) mem Post) := zrf rfl
theorem s_147_33 {E : yE} {n d : Nat} {mem : yMem} {Post : Option yV → yMem → Prop} {st : List yV} {r0 r1 r2 : Option yV} : zvc E (n + 1) zc_147 d xm_147 33 [r0, r1, r2] ((1, 95) :: st) mem Post = (zvc E n zc_147 d xm_147 36 [r0, r1, r2] ((1, 132) :: st) mem Post) := zrf rfl
theorem s_147_36 {E : yE} {n d : Nat} {mem : yMem} {Post : Option yV → yMem → Prop} {st : List yV} {r0 r2 : Option yV} {x : Int} : zvc E (n + 1) zc_147 d xm_147 36 [r0, some (0, x), r2] (st) mem Post = (zvc E n zc_147 d xm_147 37 [r0, some (0, x), r2] ((0, x) :: st) mem Post) := zrf rfl
theorem s_147_37 {E : yE} {n d : Nat} {mem : yMem} {Post : Option yV → yMem → Prop} {st : List yV} {r0 r1 r2 : Option yV} {z j : Int} : zvc E (n + 1) zc_147 d xm_147 37 [r0, r1, r2] ((0, j) :: (1, z) :: st) mem Post = ((0 ≤ w32 j ∧ w32 j < ((zar z 0 : Nat) : Int)) ∧ zvc E n zc_147 d xm_147 38 [r0, r1, r2] ((0, mem z.toNat (w32 j).toNat) :: st) mem Post) := zrf rfl
theorem s_147_38 {E : yE} {n d : Nat} {mem : yMem} {Post : Option yV → yMem → Prop} {st : List yV} {r0 r1 r2 : Option yV} : zvc E (n + 1) zc_147 d xm_147 38 [r0, r1, r2] (st) mem Post = (zvc E n zc_147 d xm_147 47 [r0, r1, r2] (st) mem Post) := zrf rfl
theorem s_147_41 {E : yE} {n d : Nat} {mem : yMem} {Post : Option yV → yMem → Prop} {st : List yV} {r1 r2 : Option yV} {x : Int} : zvc E (n + 1) zc_147 d xm_147 41 [some (1, x), r1, r2] (st) mem Post = (zvc E n zc_147 d xm_147 42 [some (1, x), r1, r2] ((1, x) :: st) mem Post) := zrf rfl
theorem s_147_42 {E : yE} {n d : Nat} {mem : yMem} {Post : Option yV → yMem → Prop} {st : List yV} {r0 r1 r2 : Option yV} : zvc E (n + 1) zc_147 d xm_147 42 [r0, r1, r2] ((1, 95) :: st) mem Post = (zvc E n zc_147 d xm_147 45 [r0, r1, r2] ((1, 133) :: st) mem Post) := zrf rfl
theorem s_147_45 {E : yE} {n d : Nat} {mem : yMem} {Post : Option yV → yMem → Prop} {st : List yV} {r0 r2 : Option yV} {x : Int} : zvc E (n + 1) zc_147 d xm_147 45 [r0, some (0, x), r2] (st) mem Post = (zvc E n zc_147 d xm_147 46 [r0, some (0, x), r2] ((0, x) :: st) mem Post) := zrf rfl
theorem s_147_46 {E : yE} {n d : Nat} {mem : yMem} {Post : Option yV → yMem → Prop} {st : List yV} {r0 r1 r2 : Option yV} {z j : Int} : zvc E (n + 1) zc_147 d xm_147 46 [r0, r1, r2] ((0, j) :: (1, z) :: st) mem Post = ((0 ≤ w32 j ∧ w32 j < ((zar z 0 : Nat) : Int)) ∧ zvc E n zc_147 d xm_147 47 [r0, r1, r2] ((0, mem z.toNat (w32 j).toNat) :: st) mem Post) := zrf rfl
theorem s_147_47 {E : yE} {n d : Nat} {mem : yMem} {Post : Option yV → yMem → Prop} {r0 r1 r2 : Option yV} {x : Int} : zvc E (n + 1) zc_147 d xm_147 47 [r0, r1, r2] ([(0, x)]) mem Post = (Post (some (0, x)) mem) := zrf rfl
def zc_152 : List Nat := [23, 34, 44, 64]
theorem s_152_0 {E : yE} {n d : Nat} {mem : yMem} {Post : Option yV → yMem → Prop} {st : List yV} {r1 r2 r3 r4 r5 : Option yV} {x : Int} : zvc E (n + 1) zc_152 d xm_152 0 [some (1, x), r1, r2, r3, r4, r5] (st) mem Post = (zvc E n zc_152 d xm_152 1 [some (1, x), r1, r2, r3, r4, r5] ((1, x) :: st) mem Post) := zrf rfl
theorem s_152_1 {E : yE} {n d : Nat} {mem : yMem} {Post : Option yV → yMem → Prop} {st : List yV} {r0 r1 r2 r3 r4 r5 : Option yV} : zvc E (n + 1) zc_152 d xm_152 1 [r0, r1, r2, r3, r4, r5] (st) mem Post = (zvc E n zc_152 d xm_152 2 [r0, r1, r2, r3, r4, r5] ((0, 0) :: st) mem Post) := zrf rfl
theorem s_152_2 {E : yE} {n d : Nat} {mem : yMem} {Post : Option yV → yMem → Prop} {st : List yV} {r0 r1 r2 r3 r4 r5 : Option yV} {x : Int} : zvc E (n + 1) zc_152 d xm_152 2 [r0, r1, r2, r3, r4, r5] ((0, x) :: (1, 95) :: st) mem Post = (zvc E n zc_152 d xm_152 5 [r0, r1, r2, r3, r4, r5] (st) (yset mem 95 0 x) Post) := zrf rfl
theorem s_152_5 {E : yE} {n d : Nat} {mem : yMem} {Post : Option yV → yMem → Prop} {st : List yV} {r0 r2 r3 r4 r5 : Option yV} {x : Int} : zvc E (n + 1) zc_152 d xm_152 5 [r0, some (0, x), r2, r3, r4, r5] (st) mem Post = (zvc E n zc_152 d xm_152 6 [r0, some (0, x), r2, r3, r4, r5] ((0, x) :: st) mem Post) := zrf rfl
theorem s_152_6 {E : yE} {n d : Nat} {mem : yMem} {Post : Option yV → yMem → Prop} {st : List yV} {r0 r1 r2 r3 r4 r5 : Option yV} {a0 : Int} : zvc E (n + 1) zc_152 (d + 1) xm_152 6 [r0, r1, r2, r3, r4, r5] ((0, a0) :: st) mem Post = (True ∧ ysum st ≤ 8 ∧ zvc E n [] d xm_184 0 [some (0, a0)] [] mem (fun v mem' => zvk E n zc_152 (d + 1) xm_152 9 [r0, r1, r2, r3, r4, r5] st v mem' Post)) := zrf rfl
theorem s_152_9 {E : yE} {n d : Nat} {mem : yMem} {Post : Option yV → yMem → Prop} {st : List yV} {r0 r1 r2 r3 r4 r5 : Option yV} {x : Int} : zvc E (n + 1) zc_152 d xm_152 9 [r0, r1, r2, r3, r4, r5] ((0, x) :: st) mem Post = ((w32 x = w32 0 → zvc E n zc_152 d xm_152 21 [r0, r1, r2, r3, r4, r5] (st) mem Post) ∧ (¬ (w32 x = w32 0) → zvc E n zc_152 d xm_152 12 [r0, r1, r2, r3, r4, r5] (st) mem Post)) := zrf rfl
theorem s_152_12 {E : yE} {n d : Nat} {mem : yMem} {Post : Option yV → yMem → Prop} {st : List yV} {r1 r2 r3 r4 r5 : Option yV} {x : Int} : zvc E (n + 1) zc_152 d xm_152 12 [some (1, x), r1, r2, r3, r4, r5] (st) mem Post = (zvc E n zc_152 d xm_152 13 [some (1, x), r1, r2, r3, r4, r5] ((1, x) :: st) mem Post) := zrf rfl
theorem s_152_13 {E : yE} {n d : Nat} {mem : yMem} {Post : Option yV → yMem → Prop} {st : List yV} {r0 r1 r3 r4 r5 : Option yV} {x : Int} : zvc E (n + 1) zc_152 d xm_152 13 [r0, r1, some (0, x), r3, r4, r5] (st) mem Post = (zvc E n zc_152 d xm_152 14 [r0, r1, some (0, x), r3, r4, r5] ((0, x) :: st) mem Post) := zrf rfl
theorem s_152_14 {E : yE} {n d : Nat} {mem : yMem} {Post : Option yV → yMem → Prop} {st : List yV} {r0 r1 r2 r4 r5 : Option yV} {x : Int} : zvc E (n + 1) zc_152 d xm_152 14 [r0, r1, r2, some (0, x), r4, r5] (st) mem Post = (zvc E n zc_152 d xm_152 15 [r0, r1, r2, some (0, x), r4, r5] ((0, x) :: st) mem Post) := zrf rfl
theorem s_152_15 {E : yE} {n d : Nat} {mem : yMem} {Post : Option yV → yMem → Prop} {st : List yV} {r0 r1 r2 r3 r4 r5 : Option yV} {z a0 a1 : Int} : zvc E (n + 1) zc_152 (d + 1) xm_152 15 [r0, r1, r2, r3, r4, r5] ((0, a1) :: (0, a0) :: (1, z) :: st) mem Post = (zio z 12 = true ∧ ysum st ≤ 8 ∧ zvc E n [] d xm_189 0 [some (1, z), some (0, a0), some (0, a1)] [] mem (fun v mem' => zvk E n zc_152 (d + 1) xm_152 18 [r0, r1, r2, r3, r4, r5] st v mem' Post)) := zrf rfl
theorem s_152_18 {E : yE} {n d : Nat} {mem : yMem} {Post : Option yV → yMem → Prop} {st : List yV} {r0 r1 r2 r3 r4 r5 : Option yV} {x : Int} : zvc E (n + 1) zc_152 d xm_152 18 [r0, r1, r2, r3, r4, r5] ((0, x) :: st) mem Post = ((¬ w32 x = w32 0 → zvc E n zc_152 d xm_152 23 [r0, r1, r2, r3, r4, r5] (st) mem Post) ∧ (¬ (¬ w32 x = w32 0) → zvc E n zc_152 d xm_152 21 [r0, r1, r2, r3, r4, r5] (st) mem Post)) := zrf rfl
theorem s_152_21 {E : yE} {n d : Nat} {mem : yMem} {Post : Option yV → yMem → Prop} {st : List yV} {r0 r1 r2 r3 r4 r5 : Option yV} : zvc E (n + 1) zc_152 d xm_152 21 [r0, r1, r2, r3, r4, r5] (st) mem Post = (zvc E n zc_152 d xm_152 22 [r0, r1, r2, r3, r4, r5] ((0, (-1)) :: st) mem Post) := zrf rfl
theorem s_152_22 {E : yE} {n d : Nat} {mem : yMem} {Post : Option yV → yMem → Prop} {r0 r1 r2 r3 r4 r5 : Option yV} {x : Int} : zvc E (n + 1) zc_152 d xm_152 22 [r0, r1, r2, r3, r4, r5] ([(0, x)]) mem Post = (Post (some (0, x)) mem) := zrf rfl
theorem g_152_23 {E : yE} {n d : Nat} {mem : yMem} {Post : Option yV → yMem → Prop} {st : List yV} {r1 r2 r3 r4 r5 : Option yV} {x : Int} : zgo E n zc_152 d xm_152 23 [some (1, x), r1, r2, r3, r4, r5] (st) mem Post = (zvc E n zc_152 d xm_152 24 [some (1, x), r1, r2, r3, r4, r5] ((1, x) :: st) mem Post) := zrf rfl
theorem k_152_23 {E : yE} {n d : Nat} {mem : yMem} {Post : Option yV → yMem → Prop} {st : List yV} {rg : zR} : zvc E (n + 1) zc_152 d xm_152 23 rg st mem Post = zG E d xm_152 23 rg st mem Post := zrf rfl
theorem s_152_24 {E : yE} {n d : Nat} {mem : yMem} {Post : Option yV → yMem → Prop} {st : List yV} {r0 r2 r3 r4 r5 : Option yV} {x : Int} : zvc E (n + 1) zc_152 d xm_152 24 [r0, some (0, x), r2, r3, r4, r5] (st) mem Post = (zvc E n zc_152 d xm_152 25 [r0, some (0, x), r2, r3, r4, r5] ((0, x) :: st) mem Post) := zrf rfl
theorem s_152_25 {E : yE} {n d : Nat} {mem : yMem} {Post : Option yV → yMem → Prop} {st : List yV} {r0 r1 r2 r3 r4 r5 : Option yV} {z a0 : Int} : zvc E (n + 1) zc_152 d xm_152 25 [r0, r1, r2, r3, r4, r5] ((0, a0) :: (1, z) :: st) mem Post = (zio z 12 = true ∧ ysum st ≤ 8 ∧ yCon E d xm_204 [(1, z), (0, a0)] mem (fun v mem' => zgk E d xm_152 28 [r0, r1, r2, r3, r4, r5] st v mem' Post)) := zrf rfl
theorem s_152_28 {E : yE} {n d : Nat} {mem : yMem} {Post : Option yV → yMem → Prop} {st : List yV} {r0 r2 r3 r4 r5 : Option yV} {x : Int} : zvc E (n + 1) zc_152 d xm_152 28 [r0, some (0, x), r2, r3, r4, r5] (st) mem Post = (zvc E n zc_152 d xm_152 29 [r0, some (0, x), r2, r3, r4, r5] ((0, x) :: st) mem Post) := zrf rfl
theorem s_152_29n {E : yE} {n d : Nat} {mem : yMem} {Post : Option yV → yMem → Prop} {st : List yV} {r0 r1 r2 r4 r5 : Option yV} {x : Int} : zvc E (n + 1) zc_152 d xm_152 29 [r0, r1, r2, none, r4, r5] ((0, x) :: st) mem Post = (zvc E n zc_152 d xm_152 31 [r0, r1, r2, none, some (0, x), r5] (st) mem Post) := zrf rfl
theorem s_152_29i {E : yE} {n d : Nat} {mem : yMem} {Post : Option yV → yMem → Prop} {st : List yV} {r0 r1 r2 r4 r5 : Option yV} {x w : Int} : zvc E (n + 1) zc_152 d xm_152 29 [r0, r1, r2, some (0, w), r4, r5] ((0, x) :: st) mem Post = (zvc E n zc_152 d xm_152 31 [r0, r1, r2, some (0, w), some (0, x), r5] (st) mem Post) := zrf rfl
theorem s_152_29p {E : yE} {n d : Nat} {mem : yMem} {Post : Option yV → yMem → Prop} {st : List yV} {r0 r1 r2 r4 r5 : Option yV} {x w : Int} : zvc E (n + 1) zc_152 d xm_152 29 [r0, r1, r2, some (1, w), r4, r5] ((0, x) :: st) mem Post = (zvc E n zc_152 d xm_152 31 [r0, r1, r2, some (1, w), some (0, x), r5] (st) mem Post) := zrf rfl
theorem s_152_31 {E : yE} {n d : Nat} {mem : yMem} {Post : Option yV → yMem → Prop} {st : List yV} {r0 r1 r2 r3 r4 r5 : Option yV} : zvc E (n + 1) zc_152 d xm_152 31 [r0, r1, r2, r3, r4, r5] (st) mem Post = (zvc E n zc_152 d xm_152 32 [r0, r1, r2, r3, r4, r5] ((0, 0) :: st) mem Post) := zrf rfl
theorem s_152_32n {E : yE} {n d : Nat} {mem : yMem} {Post : Option yV → yMem → Prop} {st : List yV} {r0 r1 r2 r3 r5 : Option yV} {x : Int} : zvc E (n + 1) zc_152 d xm_152 32 [r0, r1, r2, r3, none, r5] ((0, x) :: st) mem Post = (zvc E n zc_152 d xm_152 34 [r0, r1, r2, r3, none, some (0, x)] (st) mem Post) := zrf rfl
theorem s_152_32i {E : yE} {n d : Nat} {mem : yMem} {Post : Option yV → yMem → Prop} {st : List yV} {r0 r1 r2 r3 r5 : Option yV} {x w : Int} : zvc E (n + 1) zc_152 d xm_152 32 [r0, r1, r2, r3, some (0, w), r5] ((0, x) :: st) mem Post = (zvc E n zc_152 d xm_152 34 [r0, r1, r2, r3, some (0, w), some (0, x)] (st) mem Post) := zrf rfl
theorem s_152_32p {E : yE} {n d : Nat} {mem : yMem} {Post : Option yV → yMem → Prop} {st : List yV} {r0 r1 r2 r3 r5 : Option yV} {x w : Int} : zvc E (n + 1) zc_152 d xm_152 32 [r0, r1, r2, r3, some (1, w), r5] ((0, x) :: st) mem Post = (zvc E n zc_152 d xm_152 34 [r0, r1, r2, r3, some (1, w), some (0, x)] (st) mem Post) := zrf rfl
theorem g_152_34 {E : yE} {n d : Nat} {mem : yMem} {Post : Option yV → yMem → Prop} {st : List yV} {r0 r1 r2 r3 r4 : Option yV} {x : Int} : zgo E n zc_152 d xm_152 34 [r0, r1, r2, r3, r4, some (0, x)] (st) mem Post = (zvc E n zc_152 d xm_152 36 [r0, r1, r2, r3, r4, some (0, x)] ((0, x) :: st) mem Post) := zrf rfl
theorem k_152_34 {E : yE} {n d : Nat} {mem : yMem} {Post : Option yV → yMem → Prop} {st : List yV} {rg : zR} : zvc E (n + 1) zc_152 d xm_152 34 rg st mem Post = zG E d xm_152 34 rg st mem Post := zrf rfl
theorem s_152_36 {E : yE} {n d : Nat} {mem : yMem} {Post : Option yV → yMem → Prop} {st : List yV} {r0 r1 r3 r4 r5 : Option yV} {x : Int} : zvc E (n + 1) zc_152 d xm_152 36 [r0, r1, some (0, x), r3, r4, r5] (st) mem Post = (zvc E n zc_152 d xm_152 37 [r0, r1, some (0, x), r3, r4, r5] ((0, x) :: st) mem Post) := zrf rfl
theorem s_152_37 {E : yE} {n d : Nat} {mem : yMem} {Post : Option yV → yMem → Prop} {st : List yV} {r0 r1 r2 r3 r4 r5 : Option yV} {x y : Int} : zvc E (n + 1) zc_152 d xm_152 37 [r0, r1, r2, r3, r4, r5] ((0, y) :: (0, x) :: st) mem Post = ((w32 y < w32 x → zvc E n zc_152 d xm_152 91 [r0, r1, r2, r3, r4, r5] (st) mem Post) ∧ (¬ (w32 y < w32 x) → zvc E n zc_152 d xm_152 40 [r0, r1, r2, r3, r4, r5] (st) mem Post)) := zrf rfl
theorem s_152_40 {E : yE} {n d : Nat} {mem : yMem} {Post : Option yV → yMem → Prop} {st : List yV} {r1 r2 r3 r4 r5 : Option yV} {x : Int} : zvc E (n + 1) zc_152 d xm_152 40 [some (1, x), r1, r2, r3, r4, r5] (st) mem Post = (zvc E n zc_152 d xm_152 41 [some (1, x), r1, r2, r3, r4, r5] ((1, x) :: st) mem Post) := zrf rfl
theorem s_152_41 {E : yE} {n d : Nat} {mem : yMem} {Post : Option yV → yMem → Prop} {st : List yV} {r0 r1 r2 r3 r4 r5 : Option yV} {z : Int} : zvc E (n + 1) zc_152 d xm_152 41 [r0, r1, r2, r3, r4, r5] ((1, z) :: st) mem Post = (zio z 12 = true ∧ ysum st ≤ 8 ∧ yCon E d xm_234 [(1, z)] mem (fun v mem' => zgk E d xm_152 44 [r0, r1, r2, r3, r4, r5] st v mem' Post)) := zrf rfl
theorem g_152_44 {E : yE} {n d : Nat} {mem : yMem} {Post : Option yV → yMem → Prop} {st : List yV} {r1 r2 r3 r4 r5 : Option yV} {x : Int} : zgo E n zc_152 d xm_152 44 [some (1, x), r1, r2, r3, r4, r5] (st) mem Post = (zvc E n zc_152 d xm_152 45 [some (1, x), r1, r2, r3, r4, r5] ((1, x) :: st) mem Post) := zrf rfl
theorem k_152_44 {E : yE} {n d : Nat} {mem : yMem} {Post : Option yV → yMem → Prop} {st : List yV} {rg : zR} : zvc E (n + 1) zc_152 d xm_152 44 rg st mem Post = zG E d xm_152 44 rg st mem Post := zrf rfl
theorem s_152_45 {E : yE} {n d : Nat} {mem : yMem} {Post : Option yV → yMem → Prop} {st : List yV} {r0 r1 r2 r3 r4 : Option yV} {x : Int} : zvc E (n + 1) zc_152 d xm_152 45 [r0, r1, r2, r3, r4, some (0, x)] (st) mem Post = (zvc E n zc_152 d xm_152 47 [r0, r1, r2, r3, r4, some (0, x)] ((0, x) :: st) mem Post) := zrf rfl
theorem s_152_47 {E : yE} {n d : Nat} {mem : yMem} {Post : Option yV → yMem → Prop} {st : List yV} {r0 r1 r2 r3 r4 r5 : Option yV} {z a0 : Int} : zvc E (n + 1) zc_152 d xm_152 47 [r0, r1, r2, r3, r4, r5] ((0, a0) :: (1, z) :: st) mem Post = (zio z 12 = true ∧ ysum st ≤ 8 ∧ yCon E d xm_208 [(1, z), (0, a0)] mem (fun v mem' => zgk E d xm_152 50 [r0, r1, r2, r3, r4, r5] st v mem' Post)) := zrf rfl
theorem s_152_50 {E : yE} {n d : Nat} {mem : yMem} {Post : Option yV → yMem → Prop} {st : List yV} {r0 r1 r2 r3 r4 r5 : Option yV} {x : Int} : zvc E (n + 1) zc_152 d xm_152 50 [r0, r1, r2, r3, r4, r5] ((0, x) :: st) mem Post = ((w32 x = w32 0 → zvc E n zc_152 d xm_152 64 [r0, r1, r2, r3, r4, r5] (st) mem Post) ∧ (¬ (w32 x = w32 0) → zvc E n zc_152 d xm_152 53 [r0, r1, r2, r3, r4, r5] (st) mem Post)) := zrf rfl
theorem s_152_53 {E : yE} {n d : Nat} {mem : yMem} {Post : Option yV → yMem → Prop} {st : List yV} {r1 r2 r3 r4 r5 : Option yV} {x : Int} : zvc E (n + 1) zc_152 d xm_152 53 [some (1, x), r1, r2, r3, r4, r5] (st) mem Post = (zvc E n zc_152 d xm_152 54 [some (1, x), r1, r2, r3, r4, r5] ((1, x) :: st) mem Post) := zrf rfl
theorem s_152_54 {E : yE} {n d : Nat} {mem : yMem} {Post : Option yV → yMem → Prop} {st : List yV} {r0 r1 r2 r3 r4 : Option yV} {x : Int} : zvc E (n + 1) zc_152 d xm_152 54 [r0, r1, r2, r3, r4, some (0, x)] (st) mem Post = (zvc E n zc_152 d xm_152 56 [r0, r1, r2, r3, r4, some (0, x)] ((0, x) :: st) mem Post) := zrf rfl
theorem s_152_56 {E : yE} {n d : Nat} {mem : yMem} {Post : Option yV → yMem → Prop} {st : List yV} {r0 r1 r2 r3 r5 : Option yV} {x : Int} : zvc E (n + 1) zc_152 d xm_152 56 [r0, r1, r2, r3, some (0, x), r5] (st) mem Post = (zvc E n zc_152 d xm_152 58 [r0, r1, r2, r3, some (0, x), r5] ((0, x) :: st) mem Post) := zrf rfl
theorem s_152_58 {E : yE} {n d : Nat} {mem : yMem} {Post : Option yV → yMem → Prop} {st : List yV} {r0 r1 r2 r3 r4 r5 : Option yV} {z a0 a1 : Int} : zvc E (n + 1) zc_152 d xm_152 58 [r0, r1, r2, r3, r4, r5] ((0, a1) :: (0, a0) :: (1, z) :: st) mem Post = (zio z 12 = true ∧ ysum st ≤ 8 ∧ yCon E d xm_182 [(1, z), (0, a0), (0, a1)] mem (fun v mem' => zgk E d xm_152 61 [r0, r1, r2, r3, r4, r5] st v mem' Post)) := zrf rfl
theorem s_152_61 {E : yE} {n d : Nat} {mem : yMem} {Post : Option yV → yMem → Prop} {st : List yV} {r0 r1 r2 r3 r4 r5 : Option yV} {x : Int} : zvc E (n + 1) zc_152 d xm_152 61 [r0, r1, r2, r3, r4, r5] ((0, x) :: st) mem Post = ((¬ w32 x = w32 0 → zvc E n zc_152 d xm_152 74 [r0, r1, r2, r3, r4, r5] (st) mem Post) ∧ (¬ (¬ w32 x = w32 0) → zvc E n zc_152 d xm_152 64 [r0, r1, r2, r3, r4, r5] (st) mem Post)) := zrf rfl
theorem g_152_64 {E : yE} {n d : Nat} {mem : yMem} {Post : Option yV → yMem → Prop} {st : List yV} {r1 r2 r3 r4 r5 : Option yV} {x : Int} : zgo E n zc_152 d xm_152 64 [some (1, x), r1, r2, r3, r4, r5] (st) mem Post = (zvc E n zc_152 d xm_152 65 [some (1, x), r1, r2, r3, r4, r5] ((1, x) :: st) mem Post) := zrf rfl
theorem k_152_64 {E : yE} {n d : Nat} {mem : yMem} {Post : Option yV → yMem → Prop} {st : List yV} {rg : zR} : zvc E (n + 1) zc_152 d xm_152 64 rg st mem Post = zG E d xm_152 64 rg st mem Post := zrf rfl
theorem s_152_65 {E : yE} {n d : Nat} {mem : yMem} {Post : Option yV → yMem → Prop} {st : List yV} {r0 r1 r2 r3 r4 : Option yV} {x : Int} : zvc E (n + 1) zc_152 d xm_152 65 [r0, r1, r2, r3, r4, some (0, x)] (st) mem Post = (zvc E n zc_152 d xm_152 67 [r0, r1, r2, r3, r4, some (0, x)] ((0, x) :: st) mem Post) := zrf rfl
theorem s_152_67 {E : yE} {n d : Nat} {mem : yMem} {Post : Option yV → yMem → Prop} {st : List yV} {r0 r1 r2 r3 r4 r5 : Option yV} {z a0 : Int} : zvc E (n + 1) zc_152 d xm_152 67 [r0, r1, r2, r3, r4, r5] ((0, a0) :: (1, z) :: st) mem Post = (zio z 12 = true ∧ ysum st ≤ 8 ∧ yCon E d xm_175 [(1, z), (0, a0)] mem (fun v mem' => zgk E d xm_152 70 [r0, r1, r2, r3, r4, r5] st v mem' Post)) := zrf rfl
theorem s_152_70a {E : yE} {n d : Nat} {mem : yMem} {Post : Option yV → yMem → Prop} {st : List yV} {r0 r1 r2 r3 r4 r5 : Option yV} {x : Int} : zvc E (n + 1) zc_152 d xm_152 70 [r0, r1, r2, r3, r4, r5] ((0, x) :: st) mem Post = (zvc E n zc_152 d xm_152 71 [r0, r1, r2, r3, r4, r5] (st) mem Post) := zrf rfl
theorem s_152_70b {E : yE} {n d : Nat} {mem : yMem} {Post : Option yV → yMem → Prop} {st : List yV} {r0 r1 r2 r3 r4 r5 : Option yV} {x : Int} : zvc E (n + 1) zc_152 d xm_152 70 [r0, r1, r2, r3, r4, r5] ((1, x) :: st) mem Post = (zvc E n zc_152 d xm_152 71 [r0, r1, r2, r3, r4, r5] (st) mem Post) := zrf rfl
theorem s_152_71 {E : yE} {n d : Nat} {mem : yMem} {Post : Option yV → yMem → Prop} {st : List yV} {r0 r1 r2 r3 r4 r5 : Option yV} : zvc E (n + 1) zc_152 d xm_152 71 [r0, r1, r2, r3, r4, r5] (st) mem Post = (zvc E n zc_152 d xm_152 44 [r0, r1, r2, r3, r4, r5] (st) mem Post) := zrf rfl
theorem s_152_74 {E : yE} {n d : Nat} {mem : yMem} {Post : Option yV → yMem → Prop} {st : List yV} {r0 r1 r2 r3 r5 : Option yV} {x : Int} : zvc E (n + 1) zc_152 d xm_152 74 [r0, r1, r2, r3, some (0, x), r5] (st) mem Post = (zvc E n zc_152 d xm_152 76 [r0, r1, r2, r3, some (0, x), r5] ((0, x) :: st) mem Post) := zrf rfl
theorem s_152_76 {E : yE} {n d : Nat} {mem : yMem} {Post : Option yV → yMem → Prop} {st : List yV} {r1 r2 r3 r4 r5 : Option yV} {x : Int} : zvc E (n + 1) zc_152 d xm_152 76 [some (1, x), r1, r2, r3, r4, r5] (st) mem Post = (zvc E n zc_152 d xm_152 77 [some (1, x), r1, r2, r3, r4, r5] ((1, x) :: st) mem Post) := zrf rfl
theorem s_152_77 {E : yE} {n d : Nat} {mem : yMem} {Post : Option yV → yMem → Prop} {st : List yV} {r0 r1 r2 r3 r4 : Option yV} {x : Int} : zvc E (n + 1) zc_152 d xm_152 77 [r0, r1, r2, r3, r4, some (0, x)] (st) mem Post = (zvc E n zc_152 d xm_152 79 [r0, r1, r2, r3, r4, some (0, x)] ((0, x) :: st) mem Post) := zrf rfl
theorem s_152_79 {E : yE} {n d : Nat} {mem : yMem} {Post : Option yV → yMem → Prop} {st : List yV} {r0 r1 r2 r3 r4 r5 : Option yV} {z a0 : Int} : zvc E (n + 1) zc_152 d xm_152 79 [r0, r1, r2, r3, r4, r5] ((0, a0) :: (1, z) :: st) mem Post = (zio z 12 = true ∧ ysum st ≤ 8 ∧ yCon E d xm_156 [(1, z), (0, a0)] mem (fun v mem' => zgk E d xm_152 82 [r0, r1, r2, r3, r4, r5] st v mem' Post)) := zrf rfl
theorem s_152_82 {E : yE} {n d : Nat} {mem : yMem} {Post : Option yV → yMem → Prop} {st : List yV} {r0 r1 r2 r3 r4 r5 : Option yV} {x y : Int} : zvc E (n + 1) zc_152 d xm_152 82 [r0, r1, r2, r3, r4, r5] ((0, y) :: (0, x) :: st) mem Post = (zvc E n zc_152 d xm_152 83 [r0, r1, r2, r3, r4, r5] ((0, x - y) :: st) mem Post) := zrf rfl
theorem s_152_83n {E : yE} {n d : Nat} {mem : yMem} {Post : Option yV → yMem → Prop} {st : List yV} {r0 r1 r2 r4 r5 : Option yV} {x : Int} : zvc E (n + 1) zc_152 d xm_152 83 [r0, r1, r2, none, r4, r5] ((0, x) :: st) mem Post = (zvc E n zc_152 d xm_152 85 [r0, r1, r2, none, some (0, x), r5] (st) mem Post) := zrf rfl
theorem s_152_83i {E : yE} {n d : Nat} {mem : yMem} {Post : Option yV → yMem → Prop} {st : List yV} {r0 r1 r2 r4 r5 : Option yV} {x w : Int} : zvc E (n + 1) zc_152 d xm_152 83 [r0, r1, r2, some (0, w), r4, r5] ((0, x) :: st) mem Post = (zvc E n zc_152 d xm_152 85 [r0, r1, r2, some (0, w), some (0, x), r5] (st) mem Post) := zrf rfl
theorem s_152_83p {E : yE} {n d : Nat} {mem : yMem} {Post : Option yV → yMem → Prop} {st : List yV} {r0 r1 r2 r4 r5 : Option yV} {x w : Int} : zvc E (n + 1) zc_152 d xm_152 83 [r0, r1, r2, some (1, w), r4, r5] ((0, x) :: st) mem Post = (zvc E n zc_152 d xm_152 85 [r0, r1, r2, some (1, w), some (0, x), r5] (st) mem Post) := zrf rfl
theorem s_152_85n {E : yE} {n d : Nat} {mem : yMem} {Post : Option yV → yMem → Prop} {st : List yV} {r0 r1 r2 r3 : Option yV} {x : Int} : zvc E (n + 1) zc_152 d xm_152 85 [r0, r1, r2, r3, none, some (0, x)] (st) mem Post = (zvc E n zc_152 d xm_152 88 [r0, r1, r2, r3, none, some (0, x + 1)] (st) mem Post) := zrf rfl
theorem s_152_85i {E : yE} {n d : Nat} {mem : yMem} {Post : Option yV → yMem → Prop} {st : List yV} {r0 r1 r2 r3 : Option yV} {x w : Int} : zvc E (n + 1) zc_152 d xm_152 85 [r0, r1, r2, r3, some (0, w), some (0, x)] (st) mem Post = (zvc E n zc_152 d xm_152 88 [r0, r1, r2, r3, some (0, w), some (0, x + 1)] (st) mem Post) := zrf rfl
theorem s_152_85p {E : yE} {n d : Nat} {mem : yMem} {Post : Option yV → yMem → Prop} {st : List yV} {r0 r1 r2 r3 : Option yV} {x w : Int} : zvc E (n + 1) zc_152 d xm_152 85 [r0, r1, r2, r3, some (1, w), some (0, x)] (st) mem Post = (zvc E n zc_152 d xm_152 88 [r0, r1, r2, r3, some (1, w), some (0, x + 1)] (st) mem Post) := zrf rfl
theorem s_152_88 {E : yE} {n d : Nat} {mem : yMem} {Post : Option yV → yMem → Prop} {st : List yV} {r0 r1 r2 r3 r4 r5 : Option yV} : zvc E (n + 1) zc_152 d xm_152 88 [r0, r1, r2, r3, r4, r5] (st) mem Post = (zvc E n zc_152 d xm_152 34 [r0, r1, r2, r3, r4, r5] (st) mem Post) := zrf rfl
theorem s_152_91 {E : yE} {n d : Nat} {mem : yMem} {Post : Option yV → yMem → Prop} {st : List yV} {r1 r2 r3 r4 r5 : Option yV} {x : Int} : zvc E (n + 1) zc_152 d xm_152 91 [some (1, x), r1, r2, r3, r4, r5] (st) mem Post = (zvc E n zc_152 d xm_152 92 [some (1, x), r1, r2, r3, r4, r5] ((1, x) :: st) mem Post) := zrf rfl
theorem s_152_92 {E : yE} {n d : Nat} {mem : yMem} {Post : Option yV → yMem → Prop} {st : List yV} {r0 r1 r2 r3 r4 r5 : Option yV} : zvc E (n + 1) zc_152 d xm_152 92 [r0, r1, r2, r3, r4, r5] ((1, 95) :: st) mem Post = (zvc E n zc_152 d xm_152 95 [r0, r1, r2, r3, r4, r5] ((1, 136) :: st) mem Post) := zrf rfl
theorem s_152_95 {E : yE} {n d : Nat} {mem : yMem} {Post : Option yV → yMem → Prop} {st : List yV} {r0 r1 r2 r4 r5 : Option yV} {x : Int} : zvc E (n + 1) zc_152 d xm_152 95 [r0, r1, r2, some (0, x), r4, r5] (st) mem Post = (zvc E n zc_152 d xm_152 96 [r0, r1, r2, some (0, x), r4, r5] ((0, x) :: st) mem Post) := zrf rfl
theorem s_152_96 {E : yE} {n d : Nat} {mem : yMem} {Post : Option yV → yMem → Prop} {st : List yV} {r0 r1 r2 r3 r4 r5 : Option yV} {z j : Int} : zvc E (n + 1) zc_152 d xm_152 96 [r0, r1, r2, r3, r4, r5] ((0, j) :: (1, z) :: st) mem Post = ((0 ≤ w32 j ∧ w32 j < ((zar z 0 : Nat) : Int)) ∧ zvc E n zc_152 d xm_152 97 [r0, r1, r2, r3, r4, r5] ((0, mem z.toNat (w32 j).toNat) :: st) mem Post) := zrf rfl
theorem s_152_97 {E : yE} {n d : Nat} {mem : yMem} {Post : Option yV → yMem → Prop} {st : List yV} {r1 r2 r3 r4 r5 : Option yV} {x : Int} : zvc E (n + 1) zc_152 d xm_152 97 [some (1, x), r1, r2, r3, r4, r5] (st) mem Post = (zvc E n zc_152 d xm_152 98 [some (1, x), r1, r2, r3, r4, r5] ((1, x) :: st) mem Post) := zrf rfl
theorem s_152_98 {E : yE} {n d : Nat} {mem : yMem} {Post : Option yV → yMem → Prop} {st : List yV} {r0 r1 r2 r3 r4 r5 : Option yV} : zvc E (n + 1) zc_152 d xm_152 98 [r0, r1, r2, r3, r4, r5] ((1, 95) :: st) mem Post = (zvc E n zc_152 d xm_152 101 [r0, r1, r2, r3, r4, r5] ((1, 97) :: st) mem Post) := zrf rfl
theorem s_152_101 {E : yE} {n d : Nat} {mem : yMem} {Post : Option yV → yMem → Prop} {st : List yV} {r0 r1 r2 r3 r4 r5 : Option yV} : zvc E (n + 1) zc_152 d xm_152 101 [r0, r1, r2, r3, r4, r5] (st) mem Post = (zvc E n zc_152 d xm_152 102 [r0, r1, r2, r3, r4, r5] ((0, 1) :: st) mem Post) := zrf rfl
theorem s_152_102 {E : yE} {n d : Nat} {mem : yMem} {Post : Option yV → yMem → Prop} {st : List yV} {r0 r1 r2 r3 r4 r5 : Option yV} {z j : Int} : zvc E (n + 1) zc_152 d xm_152 102 [r0, r1, r2, r3, r4, r5] ((0, j) :: (1, z) :: st) mem Post = ((0 ≤ w32 j ∧ w32 j < ((zar z 0 : Nat) : Int)) ∧ zvc E n zc_152 d xm_152 103 [r0, r1, r2, r3, r4, r5] ((0, mem z.toNat (w32 j).toNat) :: st) mem Post) := zrf rfl
theorem s_152_103 {E : yE} {n d : Nat} {mem : yMem} {Post : Option yV → yMem → Prop} {st : List yV} {r0 r1 r2 r3 r4 r5 : Option yV} {x y : Int} : zvc E (n + 1) zc_152 d xm_152 103 [r0, r1, r2, r3, r4, r5] ((0, y) :: (0, x) :: st) mem Post = ((¬ w32 x = w32 y → zvc E n zc_152 d xm_152 111 [r0, r1, r2, r3, r4, r5] (st) mem Post) ∧ (¬ (¬ w32 x = w32 y) → zvc E n zc_152 d xm_152 106 [r0, r1, r2, r3, r4, r5] (st) mem Post)) := zrf rfl
theorem s_152_106 {E : yE} {n d : Nat} {mem : yMem} {Post : Option yV → yMem → Prop} {st : List yV} {r0 r1 r2 r3 r4 r5 : Option yV} : zvc E (n + 1) zc_152 d xm_152 106 [r0, r1, r2, r3, r4, r5] (st) mem Post = (zvc E n zc_152 d xm_152 108 [r0, r1, r2, r3, r4, r5] ((0, (-2)) :: st) mem Post) := zrf rfl
theorem s_152_108 {E : yE} {n d : Nat} {mem : yMem} {Post : Option yV → yMem → Prop} {st : List yV} {r0 r1 r2 r3 r4 r5 : Option yV} : zvc E (n + 1) zc_152 d xm_152 108 [r0, r1, r2, r3, r4, r5] (st) mem Post = (zvc E n zc_152 d xm_152 117 [r0, r1, r2, r3, r4, r5] (st) mem Post) := zrf rfl
theorem s_152_111 {E : yE} {n d : Nat} {mem : yMem} {Post : Option yV → yMem → Prop} {st : List yV} {r1 r2 r3 r4 r5 : Option yV} {x : Int} : zvc E (n + 1) zc_152 d xm_152 111 [some (1, x), r1, r2, r3, r4, r5] (st) mem Post = (zvc E n zc_152 d xm_152 112 [some (1, x), r1, r2, r3, r4, r5] ((1, x) :: st) mem Post) := zrf rfl
theorem s_152_112 {E : yE} {n d : Nat} {mem : yMem} {Post : Option yV → yMem → Prop} {st : List yV} {r0 r1 r2 r3 r4 r5 : Option yV} : zvc E (n + 1) zc_152 d xm_152 112 [r0, r1, r2, r3, r4, r5] ((1, 95) :: st) mem Post = (zvc E n zc_152 d xm_152 115 [r0, r1, r2, r3, r4, r5] ((1, 136) :: st) mem Post) := zrf rfl
theorem s_152_115 {E : yE} {n d : Nat} {mem : yMem} {Post : Option yV → yMem → Prop} {st : List yV} {r0 r1 r2 r4 r5 : Option yV} {x : Int} : zvc E (n + 1) zc_152 d xm_152 115 [r0, r1, r2, some (0, x), r4, r5] (st) mem Post = (zvc E n zc_152 d xm_152 116 [r0, r1, r2, some (0, x), r4, r5] ((0, x) :: st) mem Post) := zrf rfl
theorem s_152_116 {E : yE} {n d : Nat} {mem : yMem} {Post : Option yV → yMem → Prop} {st : List yV} {r0 r1 r2 r3 r4 r5 : Option yV} {z j : Int} : zvc E (n + 1) zc_152 d xm_152 116 [r0, r1, r2, r3, r4, r5] ((0, j) :: (1, z) :: st) mem Post = ((0 ≤ w32 j ∧ w32 j < ((zar z 0 : Nat) : Int)) ∧ zvc E n zc_152 d xm_152 117 [r0, r1, r2, r3, r4, r5] ((0, mem z.toNat (w32 j).toNat) :: st) mem Post) := zrf rfl
theorem s_152_117 {E : yE} {n d : Nat} {mem : yMem} {Post : Option yV → yMem → Prop} {r0 r1 r2 r3 r4 r5 : Option yV} {x : Int} : zvc E (n + 1) zc_152 d xm_152 117 [r0, r1, r2, r3, r4, r5] ([(0, x)]) mem Post = (Post (some (0, x)) mem) := zrf rfl
theorem e_182 {E : yE} {d : Nat} {mem : yMem} {Q : Option yV → yMem → Prop} {z a0 a1 : Int} (h : zG E d xm_182 0 [some (1, z), some (0, a0), some (0, a1), none, none, none] [] mem Q) : yCon E (d + 1) xm_182 [(1, z), (0, a0), (0, a1)] mem Q := zcon_of xmo_182 (Nat.le_of_ble_eq_true rfl) h
theorem e_147 {E : yE} {d : Nat} {mem : yMem} {Q : Option yV → yMem → Prop} {z a0 a1 : Int} (h : zG E d xm_147 0 [some (1, z), some (0, a0), some (0, a1)] [] mem Q) : yCon E (d + 1) xm_147 [(1, z), (0, a0), (0, a1)] mem Q := zcon_of xmo_147 (Nat.le_of_ble_eq_true rfl) h
theorem e_152 {E : yE} {d : Nat} {mem : yMem} {Q : Option yV → yMem → Prop} {z a0 a1 a2 : Int} (h : zG E d xm_152 0 [some (1, z), some (0, a0), some (0, a1), some (0, a2), none, none] [] mem Q) : yCon E (d + 1) xm_152 [(1, z), (0, a0), (0, a1), (0, a2)] mem Q := zcon_of xmo_152 (Nat.le_of_ble_eq_true rfl) h

theorem RQn_tr {a b c : yMem} (h1 : RQn a b) (h2 : RQn b c) : RQn a c := ⟨h2.1, h2.2.1, fun i j hi => by rw [h2.2.2.1 i j hi]; exact h1.2.2.1 i j hi, fun j hj => by rw [h2.2.2.2 j hj]; exact h1.2.2.2 j hj⟩
theorem zix_inj {f g : Nat → Int} {b : Int} (hb : 0 < b) : ∀ n, (∀ j, j < n → 0 ≤ w32 (f j) ∧ w32 (f j) < b) → (∀ j, j < n → 0 ≤ w32 (g j) ∧ w32 (g j) < b) → zix f b n = zix g b n → ∀ j, j < n → w32 (f j) = w32 (g j)
  | 0, _, _, _, j, hj => absurd hj (by omega)
  | n + 1, hf, hg, h, j, hj => by
    simp only [zix] at h
    have md : ∀ (a x : Int), 0 ≤ x → x < b → (a * b + x) % b = x := fun a x h0 h1 => by
      rw [Int.add_comm, Int.add_mul_emod_self_right]
      exact Int.emod_eq_of_lt h0 h1
    have e0 := md (zix f b n) (w32 (f n)) (hf n (by omega)).1 (hf n (by omega)).2
    have e1 := md (zix g b n) (w32 (g n)) (hg n (by omega)).1 (hg n (by omega)).2
    rw [h, e1] at e0
    by_cases hn : j = n
    · subst hn; exact e0.symm
    · have e2 : zix f b n * b = zix g b n * b := by omega
      exact zix_inj hb n (fun j hj => hf j (by omega)) (fun j hj => hg j (by omega)) (Int.eq_of_mul_eq_mul_right (by omega) e2) j (by omega)
theorem zix_mono {f g : Nat → Int} {b : Int} (hb : 0 ≤ b) : ∀ n, (∀ j, j < n → w32 (f j) ≤ w32 (g j)) → zix f b n ≤ zix g b n
  | 0, _ => Int.le_refl _
  | n + 1, h => by
    have ih := Int.mul_le_mul_of_nonneg_right (zix_mono hb n (fun j hj => h j (by omega))) hb
    have hn := h n (by omega)
    simp only [zix]
    omega
theorem zco_ext {f g g' : Nat → Int} {nv : Int} {v : Nat} : ∀ k, (∀ j, j < k → w32 (g j) = w32 (g' j)) → zco f g nv v k = zco f g' nv v k
  | 0, _ => rfl
  | k + 1, h => by
    simp only [zco]
    rw [zco_ext k (fun j hj => h j (by omega)), h k (by omega)]
theorem ybin7_ext {x y y' : Int} (h : w32 y = w32 y') : ybin 7 x y = ybin 7 x y' := by
  have e : iI y = iI y' := iI_inj.mpr h
  simp only [ybin, e]
/-- is the row that stands one that comes to what is best -/
def zisb (m : yMem) (V l : Int) : Prop := zcst m V (m 136) ≤ l ∧ w32 (m 132 (1000 * V + l).toNat) = zgan m V (m 136) + w32 (m 132 (1000 * (V + 1) + l - zcst m V (m 136)).toNat) ∧ w32 (m 133 (1000 * V + l).toNat) = zcst m V (m 136) + w32 (m 133 (1000 * (V + 1) + l - zcst m V (m 136)).toNat)
theorem c_rbest {E : yE} (hE : yEok E) {D : Nat} (hD : 2 ≤ D) {mem : yMem} {Q : Option yV → yMem → Prop} {v l : Int} (hG : aGok mem) (hv : 0 ≤ w32 v) (hv3 : w32 v ≤ 3) (hl : 0 ≤ w32 l) (hl9 : w32 l ≤ 999) (hr : ∀ j, j < 3 → 0 ≤ w32 (mem 136 j) ∧ w32 (mem 136 j) ≤ w32 (mem 97 1)) (hb : ∀ c, 0 ≤ c → c ≤ w32 l → zbd (w32 v + 1) (mem 132) (mem 133) c) (no : ¬ zisb mem (w32 v) (w32 l) → Q (some (0, 0)) mem) (yes : zisb mem (w32 v) (w32 l) → Q (some (0, 1)) mem) : yCon E D xm_182 [(1, 95), (0, v), (0, l)] mem Q := by
  obtain ⟨d, rfl⟩ := Nat.exists_eq_add_of_le' hD
  refine e_182 ?_
  refine zvc_ok hE 60 [] _ _ _ _ _ _ _ xmo_182 ?_
  have g109 := agA hG 109 (w32 v).toNat ae_109
  simp only [ynok_30, ynok_31, w32c_0, w32c_1, w32c_2, w32c_3, w32c_4, w32c_5, w32c_6, w32c_7, w32c_8, w32c_9, w32c_10, w32c_11, w32c_12, w32c_13, w32c_14, w32c_m1, w32c_m2, w32c_118, Int.reduceAdd, Int.reduceSub, Int.reduceMul, yput_s, yput_n, znl_n, znl_0, znl_1, znl_4, ysum_n, ysum_0, ysum_1, ysum_4, true_and, and_true, Nat.reduceAdd, Nat.reduceLeDiff, true_implies, eq_self, true_or, or_true, or_false, false_or, not_true_eq_false, not_false_eq_true, false_implies, implies_true, yset_s, yset_o, yset_d, ne_eq, Nat.reduceEqDiff, Int.reduceToNat, Int.reduceEq, Int.reduceLE, Int.reduceLT, Classical.not_not, Nat.reduceLT, ↓zvk_s, ↓zvk_n, ↓s_182_0, ↓s_182_1, ↓s_182_2, ↓s_182_5n, ↓s_182_5i, ↓s_182_5p, ↓s_182_6, ↓s_182_7, ↓s_182_8, ↓s_182_11, ↓s_182_12, ↓s_182_13, ↓s_182_16, ↓s_182_17, ↓s_182_18, ↓s_182_19, ↓s_182_20, ↓s_182_21, ↓s_182_22, ↓s_182_23, ↓s_182_24n, ↓s_182_24i, ↓s_182_24p, ↓s_182_26, ↓s_182_29, ↓s_182_30, ↓s_182_31, ↓s_182_32, ↓s_182_33n, ↓s_182_33i, ↓s_182_33p, ↓s_182_35, ↓s_182_36, ↓s_182_37, ↓s_182_40, ↓s_182_41, ↓s_182_44, ↓s_182_46, ↓s_182_47, ↓s_182_48, ↓s_182_49, ↓s_182_52, ↓s_182_54, ↓s_182_55, ↓s_182_58, ↓s_182_59, ↓s_182_60, ↓s_182_63, ↓s_182_65, ↓s_182_66, ↓s_182_67, ↓s_182_68, ↓s_182_71, ↓s_182_73, ↓s_182_74, ↓s_182_77, ↓s_182_78, ↓s_182_81, ↓s_182_82, w32c_1000, zar_132, zia_132, zln_132, zit_132, zar_133, zia_133, zln_133, zit_133, zio_95]
  refine c_costOf hE (by omega) hG hv hv3 hr (fun co hco => ?_)
  have bco := zco_b (f := mem 134) (g := mem 136) (nv := w32 (mem 97 1)) (v := (w32 v).toNat) (show (0 : Int) ≤ 999 by decide) (fun j => agA hG 134 j ae_134) (w32 (mem 109 (w32 v).toNat)).toNat
  rw [← hco] at bco
  have hco' : w32 co = zcst mem (w32 v) (mem 136) := hco
  refine zgk_s hE xmo_182 60 [] ?_
  simp only [ynok_30, ynok_31, w32c_0, w32c_1, w32c_2, w32c_3, w32c_4, w32c_5, w32c_6, w32c_7, w32c_8, w32c_9, w32c_10, w32c_11, w32c_12, w32c_13, w32c_14, w32c_m1, w32c_m2, w32c_118, Int.reduceAdd, Int.reduceSub, Int.reduceMul, yput_s, yput_n, znl_n, znl_0, znl_1, znl_4, ysum_n, ysum_0, ysum_1, ysum_4, true_and, and_true, Nat.reduceAdd, Nat.reduceLeDiff, true_implies, eq_self, true_or, or_true, or_false, false_or, not_true_eq_false, not_false_eq_true, false_implies, implies_true, yset_s, yset_o, yset_d, ne_eq, Nat.reduceEqDiff, Int.reduceToNat, Int.reduceEq, Int.reduceLE, Int.reduceLT, Classical.not_not, Nat.reduceLT, ↓zvk_s, ↓zvk_n, ↓s_182_0, ↓s_182_1, ↓s_182_2, ↓s_182_5n, ↓s_182_5i, ↓s_182_5p, ↓s_182_6, ↓s_182_7, ↓s_182_8, ↓s_182_11, ↓s_182_12, ↓s_182_13, ↓s_182_16, ↓s_182_17, ↓s_182_18, ↓s_182_19, ↓s_182_20, ↓s_182_21, ↓s_182_22, ↓s_182_23, ↓s_182_24n, ↓s_182_24i, ↓s_182_24p, ↓s_182_26, ↓s_182_29, ↓s_182_30, ↓s_182_31, ↓s_182_32, ↓s_182_33n, ↓s_182_33i, ↓s_182_33p, ↓s_182_35, ↓s_182_36, ↓s_182_37, ↓s_182_40, ↓s_182_41, ↓s_182_44, ↓s_182_46, ↓s_182_47, ↓s_182_48, ↓s_182_49, ↓s_182_52, ↓s_182_54, ↓s_182_55, ↓s_182_58, ↓s_182_59, ↓s_182_60, ↓s_182_63, ↓s_182_65, ↓s_182_66, ↓s_182_67, ↓s_182_68, ↓s_182_71, ↓s_182_73, ↓s_182_74, ↓s_182_77, ↓s_182_78, ↓s_182_81, ↓s_182_82, w32c_1000, zar_132, zia_132, zln_132, zit_132, zar_133, zia_133, zln_133, zit_133, zio_95]
  refine ⟨fun hle => ?_, fun hgt => no (fun z => hgt (by have := z.1; omega))⟩
  refine c_gainOf hE (by omega) hG hv hv3 hr (fun ga hga => ?_)
  have bga := zco_b (f := mem 135) (g := mem 136) (nv := w32 (mem 97 1)) (v := (w32 v).toNat) (show (0 : Int) ≤ 8 by decide) (fun j => agA hG 135 j ae_135) (w32 (mem 109 (w32 v).toNat)).toNat
  rw [← hga] at bga
  have hga' : w32 ga = zgan mem (w32 v) (mem 136) := hga
  have ev1 : w32 (v + 1) = w32 v + 1 := by rw [w32_ad (by rw [w32c_1]; omega) (by rw [w32c_1]; omega), w32c_1]
  have ek : w32 (1000 * (v + 1)) = 1000 * (w32 v + 1) := by rw [w32_k (by decide) (by rw [ev1]; omega) (by rw [ev1]; omega), ev1]
  have ekc : w32 (1000 * (v + 1) + l) = 1000 * (w32 v + 1) + w32 l := by rw [w32_ad (by rw [ek]; omega) (by rw [ek]; omega), ek]
  have ei : w32 (1000 * (v + 1) + l - co) = 1000 * (w32 v + 1) + w32 l - w32 co := by rw [w32_sb (by rw [ekc]; omega) (by rw [ekc]; omega), ekc]
  have ev : w32 (1000 * v) = 1000 * w32 v := w32_k (by decide) (by omega) (by omega)
  have ej : w32 (1000 * v + l) = 1000 * w32 v + w32 l := by rw [w32_ad (by rw [ev]; omega) (by rw [ev]; omega), ev]
  have hz := hb (w32 l - w32 co) (by omega) (by omega)
  unfold zbd at hz
  rw [← Int.add_sub_assoc, ← ei] at hz
  have key : zisb mem (w32 v) (w32 l) ↔ (w32 co ≤ w32 l ∧ w32 (mem 132 (w32 (1000 * v + l)).toNat) = w32 ga + w32 (mem 132 (w32 (1000 * (v + 1) + l - co)).toNat) ∧ w32 (mem 133 (w32 (1000 * v + l)).toNat) = w32 co + w32 (mem 133 (w32 (1000 * (v + 1) + l - co)).toNat)) := by
    unfold zisb
    rw [← hco', ← hga', ei, ej]
  have en : w32 (ga + mem 132 (w32 (1000 * (v + 1) + l - co)).toNat) = w32 ga + w32 (mem 132 (w32 (1000 * (v + 1) + l - co)).toNat) := w32_ad (by omega) (by omega)
  have ep : w32 (co + mem 133 (w32 (1000 * (v + 1) + l - co)).toNat) = w32 co + w32 (mem 133 (w32 (1000 * (v + 1) + l - co)).toNat) := w32_ad (by omega) (by omega)
  refine zgk_s hE xmo_182 60 [] ?_
  simp only [ynok_30, ynok_31, w32c_0, w32c_1, w32c_2, w32c_3, w32c_4, w32c_5, w32c_6, w32c_7, w32c_8, w32c_9, w32c_10, w32c_11, w32c_12, w32c_13, w32c_14, w32c_m1, w32c_m2, w32c_118, Int.reduceAdd, Int.reduceSub, Int.reduceMul, yput_s, yput_n, znl_n, znl_0, znl_1, znl_4, ysum_n, ysum_0, ysum_1, ysum_4, true_and, and_true, Nat.reduceAdd, Nat.reduceLeDiff, true_implies, eq_self, true_or, or_true, or_false, false_or, not_true_eq_false, not_false_eq_true, false_implies, implies_true, yset_s, yset_o, yset_d, ne_eq, Nat.reduceEqDiff, Int.reduceToNat, Int.reduceEq, Int.reduceLE, Int.reduceLT, Classical.not_not, Nat.reduceLT, ↓zvk_s, ↓zvk_n, ↓s_182_0, ↓s_182_1, ↓s_182_2, ↓s_182_5n, ↓s_182_5i, ↓s_182_5p, ↓s_182_6, ↓s_182_7, ↓s_182_8, ↓s_182_11, ↓s_182_12, ↓s_182_13, ↓s_182_16, ↓s_182_17, ↓s_182_18, ↓s_182_19, ↓s_182_20, ↓s_182_21, ↓s_182_22, ↓s_182_23, ↓s_182_24n, ↓s_182_24i, ↓s_182_24p, ↓s_182_26, ↓s_182_29, ↓s_182_30, ↓s_182_31, ↓s_182_32, ↓s_182_33n, ↓s_182_33i, ↓s_182_33p, ↓s_182_35, ↓s_182_36, ↓s_182_37, ↓s_182_40, ↓s_182_41, ↓s_182_44, ↓s_182_46, ↓s_182_47, ↓s_182_48, ↓s_182_49, ↓s_182_52, ↓s_182_54, ↓s_182_55, ↓s_182_58, ↓s_182_59, ↓s_182_60, ↓s_182_63, ↓s_182_65, ↓s_182_66, ↓s_182_67, ↓s_182_68, ↓s_182_71, ↓s_182_73, ↓s_182_74, ↓s_182_77, ↓s_182_78, ↓s_182_81, ↓s_182_82, w32c_1000, zar_132, zia_132, zln_132, zit_132, zar_133, zia_133, zln_133, zit_133, zio_95]
  refine ⟨⟨by omega, by omega⟩, ⟨by omega, by omega⟩, fun hne => no (fun z => hne ?_), fun heq => ⟨⟨by omega, by omega⟩, ⟨by omega, by omega⟩, fun hne => no (fun z => hne ?_), fun heq2 => yes (key.mpr ⟨hle, ?_, ?_⟩)⟩⟩
  · have := (key.mp z).2.1
    omega
  · have := (key.mp z).2.2
    omega
  · omega
  · omega
theorem c_best {E : yE} (hE : yEok E) (hm : yman Om) {D : Nat} (hD : 9 ≤ D) {mem : yMem} {Q : Option yV → yMem → Prop} {c w : Int} (hG : aGok mem) (hO : Om mem) (hQ : ∀ r m, RQn mem m → Q (some (0, r)) m) : yCon E D xm_147 [(1, 95), (0, c), (0, w)] mem Q := by
  obtain ⟨d, rfl⟩ := Nat.exists_eq_add_of_le' hD
  refine e_147 ?_
  refine zvc_ok hE 90 zc_147 _ _ _ _ _ _ _ xmo_147 ?_
  have same : RQn mem (yset mem 95 0 0) := ⟨aGok_set hG (ag_32 ag_95_0), yoc_Om mem _ (fun i j hi => yset_o (fun e => by subst e; exact absurd hi (by decide))) hO, fun i j h => yset_o (by omega), fun j hj => yset_d (by omega)⟩
  have q0 := fun r => hQ r _ same
  have f23 : 0 ≤ w32 c → w32 c ≤ 999 → zG E (d + 8) xm_147 23 [some (1, 95), some (0, c), some (0, w)] [] (yset mem 95 0 0) Q := fun c0 c9 => by
    refine zgo_ok (n := 60) hE xmo_147 (cs := zc_147) ?_
    simp only [ynok_30, ynok_31, w32c_0, w32c_1, w32c_2, w32c_3, w32c_4, w32c_5, w32c_6, w32c_7, w32c_8, w32c_9, w32c_10, w32c_11, w32c_12, w32c_13, w32c_14, w32c_m1, w32c_m2, w32c_118, Int.reduceAdd, Int.reduceSub, Int.reduceMul, yput_s, yput_n, znl_n, znl_0, znl_1, znl_4, ysum_n, ysum_0, ysum_1, ysum_4, true_and, and_true, Nat.reduceAdd, Nat.reduceLeDiff, true_implies, eq_self, true_or, or_true, or_false, false_or, not_true_eq_false, not_false_eq_true, false_implies, implies_true, yset_s, yset_o, yset_d, ne_eq, Nat.reduceEqDiff, Int.reduceToNat, Int.reduceEq, Int.reduceLE, Int.reduceLT, Classical.not_not, Nat.reduceLT, ↓zvk_s, ↓zvk_n, ↓s_147_0, ↓s_147_1, ↓s_147_2, ↓s_147_5, ↓s_147_6, ↓s_147_9, ↓s_147_12, ↓s_147_13, ↓s_147_16, ↓s_147_17, ↓s_147_18, ↓s_147_21, ↓s_147_22, ↓g_147_23, ↓k_147_23, ↓s_147_24, ↓s_147_25, ↓s_147_28, ↓s_147_29, ↓s_147_32, ↓s_147_33, ↓s_147_36, ↓s_147_37, ↓s_147_38, ↓s_147_41, ↓s_147_42, ↓s_147_45, ↓s_147_46, ↓s_147_47, zar_132, zia_132, zln_132, zit_132, zar_133, zia_133, zln_133, zit_133, zio_95]
    refine c_layBest hE hm (by omega) same.1 same.2.1 c0 c9 (fun m hL => ?_)
    refine zgk_n hE xmo_147 60 zc_147 ?_
    simp only [ynok_30, ynok_31, w32c_0, w32c_1, w32c_2, w32c_3, w32c_4, w32c_5, w32c_6, w32c_7, w32c_8, w32c_9, w32c_10, w32c_11, w32c_12, w32c_13, w32c_14, w32c_m1, w32c_m2, w32c_118, Int.reduceAdd, Int.reduceSub, Int.reduceMul, yput_s, yput_n, znl_n, znl_0, znl_1, znl_4, ysum_n, ysum_0, ysum_1, ysum_4, true_and, and_true, Nat.reduceAdd, Nat.reduceLeDiff, true_implies, eq_self, true_or, or_true, or_false, false_or, not_true_eq_false, not_false_eq_true, false_implies, implies_true, yset_s, yset_o, yset_d, ne_eq, Nat.reduceEqDiff, Int.reduceToNat, Int.reduceEq, Int.reduceLE, Int.reduceLT, Classical.not_not, Nat.reduceLT, ↓zvk_s, ↓zvk_n, ↓s_147_0, ↓s_147_1, ↓s_147_2, ↓s_147_5, ↓s_147_6, ↓s_147_9, ↓s_147_12, ↓s_147_13, ↓s_147_16, ↓s_147_17, ↓s_147_18, ↓s_147_21, ↓s_147_22, ↓g_147_23, ↓k_147_23, ↓s_147_24, ↓s_147_25, ↓s_147_28, ↓s_147_29, ↓s_147_32, ↓s_147_33, ↓s_147_36, ↓s_147_37, ↓s_147_38, ↓s_147_41, ↓s_147_42, ↓s_147_45, ↓s_147_46, ↓s_147_47, zar_132, zia_132, zln_132, zit_132, zar_133, zia_133, zln_133, zit_133, zio_95]
    exact ⟨fun _ => ⟨⟨by omega, by omega⟩, hQ _ _ (RQn_tr same hL.1)⟩, fun _ => ⟨⟨by omega, by omega⟩, hQ _ _ (RQn_tr same hL.1)⟩⟩
  simp only [ynok_30, ynok_31, w32c_0, w32c_1, w32c_2, w32c_3, w32c_4, w32c_5, w32c_6, w32c_7, w32c_8, w32c_9, w32c_10, w32c_11, w32c_12, w32c_13, w32c_14, w32c_m1, w32c_m2, w32c_118, Int.reduceAdd, Int.reduceSub, Int.reduceMul, yput_s, yput_n, znl_n, znl_0, znl_1, znl_4, ysum_n, ysum_0, ysum_1, ysum_4, true_and, and_true, Nat.reduceAdd, Nat.reduceLeDiff, true_implies, eq_self, true_or, or_true, or_false, false_or, not_true_eq_false, not_false_eq_true, false_implies, implies_true, yset_s, yset_o, yset_d, ne_eq, Nat.reduceEqDiff, Int.reduceToNat, Int.reduceEq, Int.reduceLE, Int.reduceLT, Classical.not_not, Nat.reduceLT, ↓zvk_s, ↓zvk_n, ↓s_147_0, ↓s_147_1, ↓s_147_2, ↓s_147_5, ↓s_147_6, ↓s_147_9, ↓s_147_12, ↓s_147_13, ↓s_147_16, ↓s_147_17, ↓s_147_18, ↓s_147_21, ↓s_147_22, ↓g_147_23, ↓k_147_23, ↓s_147_24, ↓s_147_25, ↓s_147_28, ↓s_147_29, ↓s_147_32, ↓s_147_33, ↓s_147_36, ↓s_147_37, ↓s_147_38, ↓s_147_41, ↓s_147_42, ↓s_147_45, ↓s_147_46, ↓s_147_47, ↓s_184_0, ↓s_184_1, ↓s_184_4, ↓s_184_5, ↓s_184_8, ↓s_184_11, ↓s_184_12, ↓s_184_15, ↓s_184_16, w32c_1000, zar_132, zia_132, zln_132, zit_132, zar_133, zia_133, zln_133, zit_133, zio_95]
  repeat' first | exact q0 _ | exact f23 (by omega) (by omega) | omega | refine And.intro ?_ ?_ | intro _
theorem ch_at {E : yE} (hE : yEok E) {d : Nat} (hd : 2 ≤ d) {m m' : yMem} {Q : Option yV → yMem → Prop} {cr ve pa l v : Int} (hv : 0 ≤ w32 v) (hv3 : w32 v ≤ 3) (hl : 0 ≤ w32 l) (hl9 : w32 l ≤ 999) (hb : ∀ c, 0 ≤ c → c ≤ w32 l → zbd (w32 v + 1) (m 132) (m 133) c) {g : Nat → Int} (hg : zrw m (w32 v) g) (hgc : zcst m (w32 v) g ≤ w32 l) (hg1 : w32 (m 132 (1000 * w32 v + w32 l).toNat) = zgan m (w32 v) g + w32 (m 132 (1000 * (w32 v + 1) + w32 l - zcst m (w32 v) g).toNat)) (hg2 : w32 (m 133 (1000 * w32 v + w32 l).toNat) = zcst m (w32 v) g + w32 (m 133 (1000 * (w32 v + 1) + w32 l - zcst m (w32 v) g).toNat)) (hF : ∀ i j, i ≠ 136 → m' i j = m i j) (hG : aGok m') (hdig : ∀ j, j < 3 → 0 ≤ w32 (m' 136 j) ∧ w32 (m' 136 j) ≤ w32 (m 97 1))
    (go : ¬ (∀ j, j < (w32 (m 109 (w32 v).toNat)).toNat → w32 (m' 136 j) = w32 (g j)) → zG E d xm_152 64 [some (1, 95), some (0, cr), some (0, ve), some (0, pa), some (0, l), some (0, v)] [] m' Q)
    (next : ∀ m' l', (∀ i j, i ≠ 136 → m' i j = m i j) → aGok m' → 0 ≤ w32 l' → w32 l' ≤ w32 l → zG E d xm_152 34 [some (1, 95), some (0, cr), some (0, ve), some (0, pa), some (0, l'), some (0, v + 1)] [] m' Q) : zG E d xm_152 44 [some (1, 95), some (0, cr), some (0, ve), some (0, pa), some (0, l), some (0, v)] [] m' Q := by
  have e97 : m' 97 = m 97 := funext fun j => hF 97 j (by decide)
  have e109 : m' 109 = m 109 := funext fun j => hF 109 j (by decide)
  have e122 : m' 122 = m 122 := funext fun j => hF 122 j (by decide)
  have e132 : m' 132 = m 132 := funext fun j => hF 132 j (by decide)
  have e133 : m' 133 = m 133 := funext fun j => hF 133 j (by decide)
  have e134 : m' 134 = m 134 := funext fun j => hF 134 j (by decide)
  have e135 : m' 135 = m 135 := funext fun j => hF 135 j (by decide)
  have hdm : ∀ j, j < 3 → 0 ≤ w32 (m' 136 j) ∧ w32 (m' 136 j) ≤ w32 (m' 97 1) := by rw [e97]; exact hdig
  refine zgo_ok (n := 60) hE xmo_152 (cs := zc_152) ?_
  simp only [ynok_30, ynok_31, w32c_0, w32c_1, w32c_2, w32c_3, w32c_4, w32c_5, w32c_6, w32c_7, w32c_8, w32c_9, w32c_10, w32c_11, w32c_12, w32c_13, w32c_14, w32c_m1, w32c_m2, w32c_118, Int.reduceAdd, Int.reduceSub, Int.reduceMul, yput_s, yput_n, znl_n, znl_0, znl_1, znl_4, ysum_n, ysum_0, ysum_1, ysum_4, true_and, and_true, Nat.reduceAdd, Nat.reduceLeDiff, true_implies, eq_self, true_or, or_true, or_false, false_or, not_true_eq_false, not_false_eq_true, false_implies, implies_true, yset_s, yset_o, yset_d, ne_eq, Nat.reduceEqDiff, Int.reduceToNat, Int.reduceEq, Int.reduceLE, Int.reduceLT, Classical.not_not, Nat.reduceLT, ↓zvk_s, ↓zvk_n, ↓s_152_0, ↓s_152_1, ↓s_152_2, ↓s_152_5, ↓s_152_6, ↓s_152_9, ↓s_152_12, ↓s_152_13, ↓s_152_14, ↓s_152_15, ↓s_152_18, ↓s_152_21, ↓s_152_22, ↓g_152_23, ↓k_152_23, ↓s_152_24, ↓s_152_25, ↓s_152_28, ↓s_152_29n, ↓s_152_29i, ↓s_152_29p, ↓s_152_31, ↓s_152_32n, ↓s_152_32i, ↓s_152_32p, ↓g_152_34, ↓k_152_34, ↓s_152_36, ↓s_152_37, ↓s_152_40, ↓s_152_41, ↓g_152_44, ↓k_152_44, ↓s_152_45, ↓s_152_47, ↓s_152_50, ↓s_152_53, ↓s_152_54, ↓s_152_56, ↓s_152_58, ↓s_152_61, ↓g_152_64, ↓k_152_64, ↓s_152_65, ↓s_152_67, ↓s_152_70a, ↓s_152_70b, ↓s_152_71, ↓s_152_74, ↓s_152_76, ↓s_152_77, ↓s_152_79, ↓s_152_82, ↓s_152_83n, ↓s_152_83i, ↓s_152_83p, ↓s_152_85n, ↓s_152_85i, ↓s_152_85p, ↓s_152_88, ↓s_152_91, ↓s_152_92, ↓s_152_95, ↓s_152_96, ↓s_152_97, ↓s_152_98, ↓s_152_101, ↓s_152_102, ↓s_152_103, ↓s_152_106, ↓s_152_108, ↓s_152_111, ↓s_152_112, ↓s_152_115, ↓s_152_116, ↓s_152_117, zar_136, zia_136, zln_136, zit_136, zar_97, zia_97, zln_97, zit_97, zio_95]
  refine c_mayBe hE hd hG hv hv3 (fun hno => ?_) (fun hyes => ?_)
  · refine zgk_s hE xmo_152 60 zc_152 ?_
    simp only [ynok_30, ynok_31, w32c_0, w32c_1, w32c_2, w32c_3, w32c_4, w32c_5, w32c_6, w32c_7, w32c_8, w32c_9, w32c_10, w32c_11, w32c_12, w32c_13, w32c_14, w32c_m1, w32c_m2, w32c_118, Int.reduceAdd, Int.reduceSub, Int.reduceMul, yput_s, yput_n, znl_n, znl_0, znl_1, znl_4, ysum_n, ysum_0, ysum_1, ysum_4, true_and, and_true, Nat.reduceAdd, Nat.reduceLeDiff, true_implies, eq_self, true_or, or_true, or_false, false_or, not_true_eq_false, not_false_eq_true, false_implies, implies_true, yset_s, yset_o, yset_d, ne_eq, Nat.reduceEqDiff, Int.reduceToNat, Int.reduceEq, Int.reduceLE, Int.reduceLT, Classical.not_not, Nat.reduceLT, ↓zvk_s, ↓zvk_n, ↓s_152_0, ↓s_152_1, ↓s_152_2, ↓s_152_5, ↓s_152_6, ↓s_152_9, ↓s_152_12, ↓s_152_13, ↓s_152_14, ↓s_152_15, ↓s_152_18, ↓s_152_21, ↓s_152_22, ↓g_152_23, ↓k_152_23, ↓s_152_24, ↓s_152_25, ↓s_152_28, ↓s_152_29n, ↓s_152_29i, ↓s_152_29p, ↓s_152_31, ↓s_152_32n, ↓s_152_32i, ↓s_152_32p, ↓g_152_34, ↓k_152_34, ↓s_152_36, ↓s_152_37, ↓s_152_40, ↓s_152_41, ↓g_152_44, ↓k_152_44, ↓s_152_45, ↓s_152_47, ↓s_152_50, ↓s_152_53, ↓s_152_54, ↓s_152_56, ↓s_152_58, ↓s_152_61, ↓g_152_64, ↓k_152_64, ↓s_152_65, ↓s_152_67, ↓s_152_70a, ↓s_152_70b, ↓s_152_71, ↓s_152_74, ↓s_152_76, ↓s_152_77, ↓s_152_79, ↓s_152_82, ↓s_152_83n, ↓s_152_83i, ↓s_152_83p, ↓s_152_85n, ↓s_152_85i, ↓s_152_85p, ↓s_152_88, ↓s_152_91, ↓s_152_92, ↓s_152_95, ↓s_152_96, ↓s_152_97, ↓s_152_98, ↓s_152_101, ↓s_152_102, ↓s_152_103, ↓s_152_106, ↓s_152_108, ↓s_152_111, ↓s_152_112, ↓s_152_115, ↓s_152_116, ↓s_152_117, zar_136, zia_136, zln_136, zit_136, zar_97, zia_97, zln_97, zit_97, zio_95]
    refine go (fun heq => hno (fun k hk => ?_))
    rw [e109] at hk
    have := hg.2 k hk
    unfold zmkg at this
    unfold zmk
    rw [e97, e122, ybin7_ext (heq k hk), heq k hk]
    rcases this with h | h
    · exact Or.inl h
    · exact Or.inr ⟨h.1, fun i hi => by rw [heq i (by omega)]; exact h.2 i hi⟩
  · refine zgk_s hE xmo_152 60 zc_152 ?_
    simp only [ynok_30, ynok_31, w32c_0, w32c_1, w32c_2, w32c_3, w32c_4, w32c_5, w32c_6, w32c_7, w32c_8, w32c_9, w32c_10, w32c_11, w32c_12, w32c_13, w32c_14, w32c_m1, w32c_m2, w32c_118, Int.reduceAdd, Int.reduceSub, Int.reduceMul, yput_s, yput_n, znl_n, znl_0, znl_1, znl_4, ysum_n, ysum_0, ysum_1, ysum_4, true_and, and_true, Nat.reduceAdd, Nat.reduceLeDiff, true_implies, eq_self, true_or, or_true, or_false, false_or, not_true_eq_false, not_false_eq_true, false_implies, implies_true, yset_s, yset_o, yset_d, ne_eq, Nat.reduceEqDiff, Int.reduceToNat, Int.reduceEq, Int.reduceLE, Int.reduceLT, Classical.not_not, Nat.reduceLT, ↓zvk_s, ↓zvk_n, ↓s_152_0, ↓s_152_1, ↓s_152_2, ↓s_152_5, ↓s_152_6, ↓s_152_9, ↓s_152_12, ↓s_152_13, ↓s_152_14, ↓s_152_15, ↓s_152_18, ↓s_152_21, ↓s_152_22, ↓g_152_23, ↓k_152_23, ↓s_152_24, ↓s_152_25, ↓s_152_28, ↓s_152_29n, ↓s_152_29i, ↓s_152_29p, ↓s_152_31, ↓s_152_32n, ↓s_152_32i, ↓s_152_32p, ↓g_152_34, ↓k_152_34, ↓s_152_36, ↓s_152_37, ↓s_152_40, ↓s_152_41, ↓g_152_44, ↓k_152_44, ↓s_152_45, ↓s_152_47, ↓s_152_50, ↓s_152_53, ↓s_152_54, ↓s_152_56, ↓s_152_58, ↓s_152_61, ↓g_152_64, ↓k_152_64, ↓s_152_65, ↓s_152_67, ↓s_152_70a, ↓s_152_70b, ↓s_152_71, ↓s_152_74, ↓s_152_76, ↓s_152_77, ↓s_152_79, ↓s_152_82, ↓s_152_83n, ↓s_152_83i, ↓s_152_83p, ↓s_152_85n, ↓s_152_85i, ↓s_152_85p, ↓s_152_88, ↓s_152_91, ↓s_152_92, ↓s_152_95, ↓s_152_96, ↓s_152_97, ↓s_152_98, ↓s_152_101, ↓s_152_102, ↓s_152_103, ↓s_152_106, ↓s_152_108, ↓s_152_111, ↓s_152_112, ↓s_152_115, ↓s_152_116, ↓s_152_117, zar_136, zia_136, zln_136, zit_136, zar_97, zia_97, zln_97, zit_97, zio_95]
    refine c_rbest hE hd hG hv hv3 hl hl9 hdm (by rw [e132, e133]; exact hb) (fun hno => ?_) (fun hyes2 => ?_)
    · refine zgk_s hE xmo_152 60 zc_152 ?_
      simp only [ynok_30, ynok_31, w32c_0, w32c_1, w32c_2, w32c_3, w32c_4, w32c_5, w32c_6, w32c_7, w32c_8, w32c_9, w32c_10, w32c_11, w32c_12, w32c_13, w32c_14, w32c_m1, w32c_m2, w32c_118, Int.reduceAdd, Int.reduceSub, Int.reduceMul, yput_s, yput_n, znl_n, znl_0, znl_1, znl_4, ysum_n, ysum_0, ysum_1, ysum_4, true_and, and_true, Nat.reduceAdd, Nat.reduceLeDiff, true_implies, eq_self, true_or, or_true, or_false, false_or, not_true_eq_false, not_false_eq_true, false_implies, implies_true, yset_s, yset_o, yset_d, ne_eq, Nat.reduceEqDiff, Int.reduceToNat, Int.reduceEq, Int.reduceLE, Int.reduceLT, Classical.not_not, Nat.reduceLT, ↓zvk_s, ↓zvk_n, ↓s_152_0, ↓s_152_1, ↓s_152_2, ↓s_152_5, ↓s_152_6, ↓s_152_9, ↓s_152_12, ↓s_152_13, ↓s_152_14, ↓s_152_15, ↓s_152_18, ↓s_152_21, ↓s_152_22, ↓g_152_23, ↓k_152_23, ↓s_152_24, ↓s_152_25, ↓s_152_28, ↓s_152_29n, ↓s_152_29i, ↓s_152_29p, ↓s_152_31, ↓s_152_32n, ↓s_152_32i, ↓s_152_32p, ↓g_152_34, ↓k_152_34, ↓s_152_36, ↓s_152_37, ↓s_152_40, ↓s_152_41, ↓g_152_44, ↓k_152_44, ↓s_152_45, ↓s_152_47, ↓s_152_50, ↓s_152_53, ↓s_152_54, ↓s_152_56, ↓s_152_58, ↓s_152_61, ↓g_152_64, ↓k_152_64, ↓s_152_65, ↓s_152_67, ↓s_152_70a, ↓s_152_70b, ↓s_152_71, ↓s_152_74, ↓s_152_76, ↓s_152_77, ↓s_152_79, ↓s_152_82, ↓s_152_83n, ↓s_152_83i, ↓s_152_83p, ↓s_152_85n, ↓s_152_85i, ↓s_152_85p, ↓s_152_88, ↓s_152_91, ↓s_152_92, ↓s_152_95, ↓s_152_96, ↓s_152_97, ↓s_152_98, ↓s_152_101, ↓s_152_102, ↓s_152_103, ↓s_152_106, ↓s_152_108, ↓s_152_111, ↓s_152_112, ↓s_152_115, ↓s_152_116, ↓s_152_117, zar_136, zia_136, zln_136, zit_136, zar_97, zia_97, zln_97, zit_97, zio_95]
      refine go (fun heq => hno ?_)
      have c1 : zcst m' (w32 v) (m' 136) = zcst m (w32 v) g := by
        unfold zcst
        rw [e97, e109, e134]
        exact zco_ext _ heq
      have c2 : zgan m' (w32 v) (m' 136) = zgan m (w32 v) g := by
        unfold zgan
        rw [e97, e109, e135]
        exact zco_ext _ heq
      unfold zisb
      rw [c1, c2, e132, e133]
      exact ⟨hgc, hg1, hg2⟩
    · refine zgk_s hE xmo_152 60 zc_152 ?_
      simp only [ynok_30, ynok_31, w32c_0, w32c_1, w32c_2, w32c_3, w32c_4, w32c_5, w32c_6, w32c_7, w32c_8, w32c_9, w32c_10, w32c_11, w32c_12, w32c_13, w32c_14, w32c_m1, w32c_m2, w32c_118, Int.reduceAdd, Int.reduceSub, Int.reduceMul, yput_s, yput_n, znl_n, znl_0, znl_1, znl_4, ysum_n, ysum_0, ysum_1, ysum_4, true_and, and_true, Nat.reduceAdd, Nat.reduceLeDiff, true_implies, eq_self, true_or, or_true, or_false, false_or, not_true_eq_false, not_false_eq_true, false_implies, implies_true, yset_s, yset_o, yset_d, ne_eq, Nat.reduceEqDiff, Int.reduceToNat, Int.reduceEq, Int.reduceLE, Int.reduceLT, Classical.not_not, Nat.reduceLT, ↓zvk_s, ↓zvk_n, ↓s_152_0, ↓s_152_1, ↓s_152_2, ↓s_152_5, ↓s_152_6, ↓s_152_9, ↓s_152_12, ↓s_152_13, ↓s_152_14, ↓s_152_15, ↓s_152_18, ↓s_152_21, ↓s_152_22, ↓g_152_23, ↓k_152_23, ↓s_152_24, ↓s_152_25, ↓s_152_28, ↓s_152_29n, ↓s_152_29i, ↓s_152_29p, ↓s_152_31, ↓s_152_32n, ↓s_152_32i, ↓s_152_32p, ↓g_152_34, ↓k_152_34, ↓s_152_36, ↓s_152_37, ↓s_152_40, ↓s_152_41, ↓g_152_44, ↓k_152_44, ↓s_152_45, ↓s_152_47, ↓s_152_50, ↓s_152_53, ↓s_152_54, ↓s_152_56, ↓s_152_58, ↓s_152_61, ↓g_152_64, ↓k_152_64, ↓s_152_65, ↓s_152_67, ↓s_152_70a, ↓s_152_70b, ↓s_152_71, ↓s_152_74, ↓s_152_76, ↓s_152_77, ↓s_152_79, ↓s_152_82, ↓s_152_83n, ↓s_152_83i, ↓s_152_83p, ↓s_152_85n, ↓s_152_85i, ↓s_152_85p, ↓s_152_88, ↓s_152_91, ↓s_152_92, ↓s_152_95, ↓s_152_96, ↓s_152_97, ↓s_152_98, ↓s_152_101, ↓s_152_102, ↓s_152_103, ↓s_152_106, ↓s_152_108, ↓s_152_111, ↓s_152_112, ↓s_152_115, ↓s_152_116, ↓s_152_117, zar_136, zia_136, zln_136, zit_136, zar_97, zia_97, zln_97, zit_97, zio_95]
      refine c_costOf hE (by omega) hG hv hv3 hdm (fun co hco => ?_)
      have bco := zco_b (f := m' 134) (g := m' 136) (nv := w32 (m' 97 1)) (v := (w32 v).toNat) (show (0 : Int) ≤ 999 by decide) (fun j => agA hG 134 j ae_134) (w32 (m' 109 (w32 v).toNat)).toNat
      rw [← hco] at bco
      have hco' : w32 co = zcst m' (w32 v) (m' 136) := hco
      have h1 := hyes2.1
      rw [← hco'] at h1
      have es : w32 (l - co) = w32 l - w32 co := w32_sb (by omega) (by omega)
      refine zgk_s hE xmo_152 60 zc_152 ?_
      simp only [ynok_30, ynok_31, w32c_0, w32c_1, w32c_2, w32c_3, w32c_4, w32c_5, w32c_6, w32c_7, w32c_8, w32c_9, w32c_10, w32c_11, w32c_12, w32c_13, w32c_14, w32c_m1, w32c_m2, w32c_118, Int.reduceAdd, Int.reduceSub, Int.reduceMul, yput_s, yput_n, znl_n, znl_0, znl_1, znl_4, ysum_n, ysum_0, ysum_1, ysum_4, true_and, and_true, Nat.reduceAdd, Nat.reduceLeDiff, true_implies, eq_self, true_or, or_true, or_false, false_or, not_true_eq_false, not_false_eq_true, false_implies, implies_true, yset_s, yset_o, yset_d, ne_eq, Nat.reduceEqDiff, Int.reduceToNat, Int.reduceEq, Int.reduceLE, Int.reduceLT, Classical.not_not, Nat.reduceLT, ↓zvk_s, ↓zvk_n, ↓s_152_0, ↓s_152_1, ↓s_152_2, ↓s_152_5, ↓s_152_6, ↓s_152_9, ↓s_152_12, ↓s_152_13, ↓s_152_14, ↓s_152_15, ↓s_152_18, ↓s_152_21, ↓s_152_22, ↓g_152_23, ↓k_152_23, ↓s_152_24, ↓s_152_25, ↓s_152_28, ↓s_152_29n, ↓s_152_29i, ↓s_152_29p, ↓s_152_31, ↓s_152_32n, ↓s_152_32i, ↓s_152_32p, ↓g_152_34, ↓k_152_34, ↓s_152_36, ↓s_152_37, ↓s_152_40, ↓s_152_41, ↓g_152_44, ↓k_152_44, ↓s_152_45, ↓s_152_47, ↓s_152_50, ↓s_152_53, ↓s_152_54, ↓s_152_56, ↓s_152_58, ↓s_152_61, ↓g_152_64, ↓k_152_64, ↓s_152_65, ↓s_152_67, ↓s_152_70a, ↓s_152_70b, ↓s_152_71, ↓s_152_74, ↓s_152_76, ↓s_152_77, ↓s_152_79, ↓s_152_82, ↓s_152_83n, ↓s_152_83i, ↓s_152_83p, ↓s_152_85n, ↓s_152_85i, ↓s_152_85p, ↓s_152_88, ↓s_152_91, ↓s_152_92, ↓s_152_95, ↓s_152_96, ↓s_152_97, ↓s_152_98, ↓s_152_101, ↓s_152_102, ↓s_152_103, ↓s_152_106, ↓s_152_108, ↓s_152_111, ↓s_152_112, ↓s_152_115, ↓s_152_116, ↓s_152_117, zar_136, zia_136, zln_136, zit_136, zar_97, zia_97, zln_97, zit_97, zio_95]
      exact next m' _ hF hG (by omega) (by omega)
theorem ch44 {E : yE} (hE : yEok E) {d : Nat} (hd : 2 ≤ d) {m : yMem} {Q : Option yV → yMem → Prop} {cr ve pa l v : Int} (hmG : aGok m) (hv : 0 ≤ w32 v) (hv3 : w32 v ≤ 3) (hl : 0 ≤ w32 l) (hl9 : w32 l ≤ 999) (hb : ∀ c, 0 ≤ c → c ≤ w32 l → zbd (w32 v + 1) (m 132) (m 133) c) {g : Nat → Int} (hg : zrw m (w32 v) g) (hgc : zcst m (w32 v) g ≤ w32 l) (hg1 : w32 (m 132 (1000 * w32 v + w32 l).toNat) = zgan m (w32 v) g + w32 (m 132 (1000 * (w32 v + 1) + w32 l - zcst m (w32 v) g).toNat)) (hg2 : w32 (m 133 (1000 * w32 v + w32 l).toNat) = zcst m (w32 v) g + w32 (m 133 (1000 * (w32 v + 1) + w32 l - zcst m (w32 v) g).toNat))
    (next : ∀ m' l', (∀ i j, i ≠ 136 → m' i j = m i j) → aGok m' → 0 ≤ w32 l' → w32 l' ≤ w32 l → zG E d xm_152 34 [some (1, 95), some (0, cr), some (0, ve), some (0, pa), some (0, l'), some (0, v + 1)] [] m' Q) : ∀ (n : Nat) (m' : yMem), (zix g (w32 (m 97 1) + 1) (w32 (m 109 (w32 v).toNat)).toNat - zix (m' 136) (w32 (m 97 1) + 1) (w32 (m 109 (w32 v).toNat)).toNat).toNat = n → zix (m' 136) (w32 (m 97 1) + 1) (w32 (m 109 (w32 v).toNat)).toNat ≤ zix g (w32 (m 97 1) + 1) (w32 (m 109 (w32 v).toNat)).toNat → (∀ i j, i ≠ 136 → m' i j = m i j) → aGok m' → (∀ j, j < 3 → 0 ≤ w32 (m' 136 j) ∧ w32 (m' 136 j) ≤ w32 (m 97 1)) → zG E d xm_152 44 [some (1, 95), some (0, cr), some (0, ve), some (0, pa), some (0, l), some (0, v)] [] m' Q := by
  have g1 := ag hmG 97 1 ag_97_1
  have g109 := agA hmG 109 (w32 v).toNat ae_109
  intro n
  induction n with
  | zero =>
    intro m' hn hle hF hG hdig
    refine ch_at hE hd hv hv3 hl hl9 hb hg hgc hg1 hg2 hF hG hdig (fun hne => absurd ?_ hne) next
    exact zix_inj (b := w32 (m 97 1) + 1) (by omega) _ (fun j hj => ⟨(hdig j (by omega)).1, by have := (hdig j (by omega)).2; omega⟩) (fun j hj => ⟨(hg.1 j (by omega)).1, by have := (hg.1 j (by omega)).2; omega⟩) (by omega)
  | succ n ih =>
    intro m' hn hle hF hG hdig
    refine ch_at hE hd hv hv3 hl hl9 hb hg hgc hg1 hg2 hF hG hdig (fun hne => ?_) next
    have e97 : m' 97 = m 97 := funext fun j => hF 97 j (by decide)
    have e109 : m' 109 = m 109 := funext fun j => hF 109 j (by decide)
    refine zgo_ok (n := 60) hE xmo_152 (cs := zc_152) ?_
    simp only [ynok_30, ynok_31, w32c_0, w32c_1, w32c_2, w32c_3, w32c_4, w32c_5, w32c_6, w32c_7, w32c_8, w32c_9, w32c_10, w32c_11, w32c_12, w32c_13, w32c_14, w32c_m1, w32c_m2, w32c_118, Int.reduceAdd, Int.reduceSub, Int.reduceMul, yput_s, yput_n, znl_n, znl_0, znl_1, znl_4, ysum_n, ysum_0, ysum_1, ysum_4, true_and, and_true, Nat.reduceAdd, Nat.reduceLeDiff, true_implies, eq_self, true_or, or_true, or_false, false_or, not_true_eq_false, not_false_eq_true, false_implies, implies_true, yset_s, yset_o, yset_d, ne_eq, Nat.reduceEqDiff, Int.reduceToNat, Int.reduceEq, Int.reduceLE, Int.reduceLT, Classical.not_not, Nat.reduceLT, ↓zvk_s, ↓zvk_n, ↓s_152_0, ↓s_152_1, ↓s_152_2, ↓s_152_5, ↓s_152_6, ↓s_152_9, ↓s_152_12, ↓s_152_13, ↓s_152_14, ↓s_152_15, ↓s_152_18, ↓s_152_21, ↓s_152_22, ↓g_152_23, ↓k_152_23, ↓s_152_24, ↓s_152_25, ↓s_152_28, ↓s_152_29n, ↓s_152_29i, ↓s_152_29p, ↓s_152_31, ↓s_152_32n, ↓s_152_32i, ↓s_152_32p, ↓g_152_34, ↓k_152_34, ↓s_152_36, ↓s_152_37, ↓s_152_40, ↓s_152_41, ↓g_152_44, ↓k_152_44, ↓s_152_45, ↓s_152_47, ↓s_152_50, ↓s_152_53, ↓s_152_54, ↓s_152_56, ↓s_152_58, ↓s_152_61, ↓g_152_64, ↓k_152_64, ↓s_152_65, ↓s_152_67, ↓s_152_70a, ↓s_152_70b, ↓s_152_71, ↓s_152_74, ↓s_152_76, ↓s_152_77, ↓s_152_79, ↓s_152_82, ↓s_152_83n, ↓s_152_83i, ↓s_152_83p, ↓s_152_85n, ↓s_152_85i, ↓s_152_85p, ↓s_152_88, ↓s_152_91, ↓s_152_92, ↓s_152_95, ↓s_152_96, ↓s_152_97, ↓s_152_98, ↓s_152_101, ↓s_152_102, ↓s_152_103, ↓s_152_106, ↓s_152_108, ↓s_152_111, ↓s_152_112, ↓s_152_115, ↓s_152_116, ↓s_152_117, zar_136, zia_136, zln_136, zit_136, zar_97, zia_97, zln_97, zit_97, zio_95]
    refine c_goesNext hE (by omega) hG hv hv3 (by rw [e97]; exact hdig) (fun x m2 hq => ?_)
    obtain ⟨fr, hG2, hd2⟩ := Gn_ok hG hq
    have q3 := hq.2.2
    rw [e97, e109] at q3
    rw [e97] at hd2
    refine zgk_s hE xmo_152 60 zc_152 ?_
    simp only [ynok_30, ynok_31, w32c_0, w32c_1, w32c_2, w32c_3, w32c_4, w32c_5, w32c_6, w32c_7, w32c_8, w32c_9, w32c_10, w32c_11, w32c_12, w32c_13, w32c_14, w32c_m1, w32c_m2, w32c_118, Int.reduceAdd, Int.reduceSub, Int.reduceMul, yput_s, yput_n, znl_n, znl_0, znl_1, znl_4, ysum_n, ysum_0, ysum_1, ysum_4, true_and, and_true, Nat.reduceAdd, Nat.reduceLeDiff, true_implies, eq_self, true_or, or_true, or_false, false_or, not_true_eq_false, not_false_eq_true, false_implies, implies_true, yset_s, yset_o, yset_d, ne_eq, Nat.reduceEqDiff, Int.reduceToNat, Int.reduceEq, Int.reduceLE, Int.reduceLT, Classical.not_not, Nat.reduceLT, ↓zvk_s, ↓zvk_n, ↓s_152_0, ↓s_152_1, ↓s_152_2, ↓s_152_5, ↓s_152_6, ↓s_152_9, ↓s_152_12, ↓s_152_13, ↓s_152_14, ↓s_152_15, ↓s_152_18, ↓s_152_21, ↓s_152_22, ↓g_152_23, ↓k_152_23, ↓s_152_24, ↓s_152_25, ↓s_152_28, ↓s_152_29n, ↓s_152_29i, ↓s_152_29p, ↓s_152_31, ↓s_152_32n, ↓s_152_32i, ↓s_152_32p, ↓g_152_34, ↓k_152_34, ↓s_152_36, ↓s_152_37, ↓s_152_40, ↓s_152_41, ↓g_152_44, ↓k_152_44, ↓s_152_45, ↓s_152_47, ↓s_152_50, ↓s_152_53, ↓s_152_54, ↓s_152_56, ↓s_152_58, ↓s_152_61, ↓g_152_64, ↓k_152_64, ↓s_152_65, ↓s_152_67, ↓s_152_70a, ↓s_152_70b, ↓s_152_71, ↓s_152_74, ↓s_152_76, ↓s_152_77, ↓s_152_79, ↓s_152_82, ↓s_152_83n, ↓s_152_83i, ↓s_152_83p, ↓s_152_85n, ↓s_152_85i, ↓s_152_85p, ↓s_152_88, ↓s_152_91, ↓s_152_92, ↓s_152_95, ↓s_152_96, ↓s_152_97, ↓s_152_98, ↓s_152_101, ↓s_152_102, ↓s_152_103, ↓s_152_106, ↓s_152_108, ↓s_152_111, ↓s_152_112, ↓s_152_115, ↓s_152_116, ↓s_152_117, zar_136, zia_136, zln_136, zit_136, zar_97, zia_97, zln_97, zit_97, zio_95]
    rcases q3 with ⟨_, hz⟩ | ⟨_, hz⟩
    · exact ih m2 (by omega) (by omega) (fun i j hi => by rw [fr i j hi]; exact hF i j hi) hG2 hd2
    · have := zix_mono (f := g) (g := m' 136) (b := w32 (m 97 1) + 1) (by omega) (w32 (m 109 (w32 v).toNat)).toNat (fun j hj => by rw [hz j hj]; exact (hg.1 j (by omega)).2)
      omega
theorem ch34 {E : yE} (hE : yEok E) {d : Nat} (hd : 2 ≤ d) {mem m : yMem} {Q : Option yV → yMem → Prop} {cr ve pa : Int} {cc : Int} (hcc : cc ≤ 999) (hL : LbQ mem cc m) (hve : 0 ≤ w32 ve) (hven : w32 ve < w32 (m 97 2)) (hpa : 0 ≤ w32 pa) (hpa3 : w32 pa < 3) (hQ : ∀ r m', RQn mem m' → Q (some (0, r)) m') : ∀ (n : Nat) (v l : Int) (m' : yMem), (w32 ve + 1 - w32 v).toNat = n → 0 ≤ w32 v → w32 v ≤ w32 ve + 1 → 0 ≤ w32 l → w32 l ≤ cc → (∀ i j, i ≠ 136 → m' i j = m i j) → aGok m' → zG E d xm_152 34 [some (1, 95), some (0, cr), some (0, ve), some (0, pa), some (0, l), some (0, v)] [] m' Q := by
  have g2 := ag hL.1.1 97 2 ag_97_2
  have g1 := ag hL.1.1 97 1 ag_97_1
  intro n
  induction n with
  | zero =>
    intro v l m' hn h0 h1 hl hl2 hF hG
    have hR : RQn mem m' := RQn_tr hL.1 ⟨hG, yoc_Om m m' (fun i j hi => hF i j (fun e => by subst e; exact absurd hi (by decide))) hL.1.2.1, fun i j hi => hF i j (by omega), fun j hj => hF 95 j (by decide)⟩
    refine zgo_ok (n := 60) hE xmo_152 (cs := zc_152) ?_
    simp only [ynok_30, ynok_31, w32c_0, w32c_1, w32c_2, w32c_3, w32c_4, w32c_5, w32c_6, w32c_7, w32c_8, w32c_9, w32c_10, w32c_11, w32c_12, w32c_13, w32c_14, w32c_m1, w32c_m2, w32c_118, Int.reduceAdd, Int.reduceSub, Int.reduceMul, yput_s, yput_n, znl_n, znl_0, znl_1, znl_4, ysum_n, ysum_0, ysum_1, ysum_4, true_and, and_true, Nat.reduceAdd, Nat.reduceLeDiff, true_implies, eq_self, true_or, or_true, or_false, false_or, not_true_eq_false, not_false_eq_true, false_implies, implies_true, yset_s, yset_o, yset_d, ne_eq, Nat.reduceEqDiff, Int.reduceToNat, Int.reduceEq, Int.reduceLE, Int.reduceLT, Classical.not_not, Nat.reduceLT, ↓zvk_s, ↓zvk_n, ↓s_152_0, ↓s_152_1, ↓s_152_2, ↓s_152_5, ↓s_152_6, ↓s_152_9, ↓s_152_12, ↓s_152_13, ↓s_152_14, ↓s_152_15, ↓s_152_18, ↓s_152_21, ↓s_152_22, ↓g_152_23, ↓k_152_23, ↓s_152_24, ↓s_152_25, ↓s_152_28, ↓s_152_29n, ↓s_152_29i, ↓s_152_29p, ↓s_152_31, ↓s_152_32n, ↓s_152_32i, ↓s_152_32p, ↓g_152_34, ↓k_152_34, ↓s_152_36, ↓s_152_37, ↓s_152_40, ↓s_152_41, ↓g_152_44, ↓k_152_44, ↓s_152_45, ↓s_152_47, ↓s_152_50, ↓s_152_53, ↓s_152_54, ↓s_152_56, ↓s_152_58, ↓s_152_61, ↓g_152_64, ↓k_152_64, ↓s_152_65, ↓s_152_67, ↓s_152_70a, ↓s_152_70b, ↓s_152_71, ↓s_152_74, ↓s_152_76, ↓s_152_77, ↓s_152_79, ↓s_152_82, ↓s_152_83n, ↓s_152_83i, ↓s_152_83p, ↓s_152_85n, ↓s_152_85i, ↓s_152_85p, ↓s_152_88, ↓s_152_91, ↓s_152_92, ↓s_152_95, ↓s_152_96, ↓s_152_97, ↓s_152_98, ↓s_152_101, ↓s_152_102, ↓s_152_103, ↓s_152_106, ↓s_152_108, ↓s_152_111, ↓s_152_112, ↓s_152_115, ↓s_152_116, ↓s_152_117, zar_136, zia_136, zln_136, zit_136, zar_97, zia_97, zln_97, zit_97, zio_95]
    exact ⟨fun _ => ⟨⟨by omega, by omega⟩, by omega, fun _ => ⟨⟨by omega, by omega⟩, hQ _ _ hR⟩, fun _ => hQ _ _ hR⟩, fun h => absurd (show w32 ve < w32 v by omega) h⟩
  | succ n ih =>
    intro v l m' hn h0 h1 hl hl2 hF hG
    have e1 : w32 (v + 1) = w32 v + 1 := by rw [w32_ad (by rw [w32c_1]; omega) (by rw [w32c_1]; omega), w32c_1]
    have g109 := agA hL.1.1 109 (w32 v).toNat ae_109
    refine zgo_ok (n := 60) hE xmo_152 (cs := zc_152) ?_
    simp only [ynok_30, ynok_31, w32c_0, w32c_1, w32c_2, w32c_3, w32c_4, w32c_5, w32c_6, w32c_7, w32c_8, w32c_9, w32c_10, w32c_11, w32c_12, w32c_13, w32c_14, w32c_m1, w32c_m2, w32c_118, Int.reduceAdd, Int.reduceSub, Int.reduceMul, yput_s, yput_n, znl_n, znl_0, znl_1, znl_4, ysum_n, ysum_0, ysum_1, ysum_4, true_and, and_true, Nat.reduceAdd, Nat.reduceLeDiff, true_implies, eq_self, true_or, or_true, or_false, false_or, not_true_eq_false, not_false_eq_true, false_implies, implies_true, yset_s, yset_o, yset_d, ne_eq, Nat.reduceEqDiff, Int.reduceToNat, Int.reduceEq, Int.reduceLE, Int.reduceLT, Classical.not_not, Nat.reduceLT, ↓zvk_s, ↓zvk_n, ↓s_152_0, ↓s_152_1, ↓s_152_2, ↓s_152_5, ↓s_152_6, ↓s_152_9, ↓s_152_12, ↓s_152_13, ↓s_152_14, ↓s_152_15, ↓s_152_18, ↓s_152_21, ↓s_152_22, ↓g_152_23, ↓k_152_23, ↓s_152_24, ↓s_152_25, ↓s_152_28, ↓s_152_29n, ↓s_152_29i, ↓s_152_29p, ↓s_152_31, ↓s_152_32n, ↓s_152_32i, ↓s_152_32p, ↓g_152_34, ↓k_152_34, ↓s_152_36, ↓s_152_37, ↓s_152_40, ↓s_152_41, ↓g_152_44, ↓k_152_44, ↓s_152_45, ↓s_152_47, ↓s_152_50, ↓s_152_53, ↓s_152_54, ↓s_152_56, ↓s_152_58, ↓s_152_61, ↓g_152_64, ↓k_152_64, ↓s_152_65, ↓s_152_67, ↓s_152_70a, ↓s_152_70b, ↓s_152_71, ↓s_152_74, ↓s_152_76, ↓s_152_77, ↓s_152_79, ↓s_152_82, ↓s_152_83n, ↓s_152_83i, ↓s_152_83p, ↓s_152_85n, ↓s_152_85i, ↓s_152_85p, ↓s_152_88, ↓s_152_91, ↓s_152_92, ↓s_152_95, ↓s_152_96, ↓s_152_97, ↓s_152_98, ↓s_152_101, ↓s_152_102, ↓s_152_103, ↓s_152_106, ↓s_152_108, ↓s_152_111, ↓s_152_112, ↓s_152_115, ↓s_152_116, ↓s_152_117, zar_136, zia_136, zln_136, zit_136, zar_97, zia_97, zln_97, zit_97, zio_95]
    refine ⟨fun h => absurd h (by omega), fun _ => c_starts hE (by omega) ?_⟩
    refine zgk_n hE xmo_152 60 zc_152 ?_
    simp only [ynok_30, ynok_31, w32c_0, w32c_1, w32c_2, w32c_3, w32c_4, w32c_5, w32c_6, w32c_7, w32c_8, w32c_9, w32c_10, w32c_11, w32c_12, w32c_13, w32c_14, w32c_m1, w32c_m2, w32c_118, Int.reduceAdd, Int.reduceSub, Int.reduceMul, yput_s, yput_n, znl_n, znl_0, znl_1, znl_4, ysum_n, ysum_0, ysum_1, ysum_4, true_and, and_true, Nat.reduceAdd, Nat.reduceLeDiff, true_implies, eq_self, true_or, or_true, or_false, false_or, not_true_eq_false, not_false_eq_true, false_implies, implies_true, yset_s, yset_o, yset_d, ne_eq, Nat.reduceEqDiff, Int.reduceToNat, Int.reduceEq, Int.reduceLE, Int.reduceLT, Classical.not_not, Nat.reduceLT, ↓zvk_s, ↓zvk_n, ↓s_152_0, ↓s_152_1, ↓s_152_2, ↓s_152_5, ↓s_152_6, ↓s_152_9, ↓s_152_12, ↓s_152_13, ↓s_152_14, ↓s_152_15, ↓s_152_18, ↓s_152_21, ↓s_152_22, ↓g_152_23, ↓k_152_23, ↓s_152_24, ↓s_152_25, ↓s_152_28, ↓s_152_29n, ↓s_152_29i, ↓s_152_29p, ↓s_152_31, ↓s_152_32n, ↓s_152_32i, ↓s_152_32p, ↓g_152_34, ↓k_152_34, ↓s_152_36, ↓s_152_37, ↓s_152_40, ↓s_152_41, ↓g_152_44, ↓k_152_44, ↓s_152_45, ↓s_152_47, ↓s_152_50, ↓s_152_53, ↓s_152_54, ↓s_152_56, ↓s_152_58, ↓s_152_61, ↓g_152_64, ↓k_152_64, ↓s_152_65, ↓s_152_67, ↓s_152_70a, ↓s_152_70b, ↓s_152_71, ↓s_152_74, ↓s_152_76, ↓s_152_77, ↓s_152_79, ↓s_152_82, ↓s_152_83n, ↓s_152_83i, ↓s_152_83p, ↓s_152_85n, ↓s_152_85i, ↓s_152_85p, ↓s_152_88, ↓s_152_91, ↓s_152_92, ↓s_152_95, ↓s_152_96, ↓s_152_97, ↓s_152_98, ↓s_152_101, ↓s_152_102, ↓s_152_103, ↓s_152_106, ↓s_152_108, ↓s_152_111, ↓s_152_112, ↓s_152_115, ↓s_152_116, ↓s_152_117, zar_136, zia_136, zln_136, zit_136, zar_97, zia_97, zln_97, zit_97, zio_95]
    obtain ⟨g, hg, hgc, hg1, hg2⟩ := hL.2.2.1 (w32 v) h0 (by omega) (w32 l) hl hl2
    have d0 : ∀ j, j < 3 → w32 (yset (yset (yset m' 136 0 0) 136 1 0) 136 2 0 136 j) = 0 := fun j hj => by
      match j, hj with
      | 0, _ => rw [yset_d (by decide), yset_d (by decide), yset_s]; decide
      | 1, _ => rw [yset_d (by decide), yset_s]; decide
      | 2, _ => rw [yset_s]; decide
    refine ch44 hE hd hL.1.1 h0 (by omega) hl (by omega) (fun c c0 c1 => hL.2.1 (w32 v + 1) (by omega) (by omega) c c0 (by omega)) hg hgc hg1 hg2 (fun m2 l' hF2 hG2 a1 a2 => ih (v + 1) l' m2 (by omega) (by omega) (by omega) a1 (by omega) hF2 hG2) _ _ rfl (zix_mono (by omega) _ (fun j hj => by rw [d0 j (by omega)]; exact (hg.1 j (by omega)).1)) (fun i j hi => by rw [yset_o hi, yset_o hi, yset_o hi]; exact hF i j hi) (aGok_set (aGok_set (aGok_set hG (by rw [agam_A ae_136]; decide)) (by rw [agam_A ae_136]; decide)) (by rw [agam_A ae_136]; decide)) (fun j hj => by rw [d0 j hj]; omega)
theorem c_chosen {E : yE} (hE : yEok E) (hm : yman Om) {D : Nat} (hD : 9 ≤ D) {mem : yMem} {Q : Option yV → yMem → Prop} {c v w : Int} (hG : aGok mem) (hO : Om mem) (hQ : ∀ r m, RQn mem m → Q (some (0, r)) m) : yCon E D xm_152 [(1, 95), (0, c), (0, v), (0, w)] mem Q := by
  obtain ⟨d, rfl⟩ := Nat.exists_eq_add_of_le' hD
  refine e_152 ?_
  refine zvc_ok hE 90 zc_152 _ _ _ _ _ _ _ xmo_152 ?_
  have same : RQn mem (yset mem 95 0 0) := ⟨aGok_set hG (ag_32 ag_95_0), yoc_Om mem _ (fun i j hi => yset_o (fun e => by subst e; exact absurd hi (by decide))) hO, fun i j h => yset_o (by omega), fun j hj => yset_d (by omega)⟩
  have q0 := fun r => hQ r _ same
  have g2 := ag hG 97 2 ag_97_2
  have g109 := agA hG 109 (w32 v).toNat ae_109
  have f23 : 0 ≤ w32 c → w32 c ≤ 999 → 0 ≤ w32 v → w32 v < w32 (mem 97 2) → 0 ≤ w32 w → w32 w < w32 (mem 109 (w32 v).toNat) → zG E (d + 8) xm_152 23 [some (1, 95), some (0, c), some (0, v), some (0, w), none, none] [] (yset mem 95 0 0) Q := fun c0 c9 v0 v1 w0 w1 => by
    refine zgo_ok (n := 60) hE xmo_152 (cs := zc_152) ?_
    simp only [ynok_30, ynok_31, w32c_0, w32c_1, w32c_2, w32c_3, w32c_4, w32c_5, w32c_6, w32c_7, w32c_8, w32c_9, w32c_10, w32c_11, w32c_12, w32c_13, w32c_14, w32c_m1, w32c_m2, w32c_118, Int.reduceAdd, Int.reduceSub, Int.reduceMul, yput_s, yput_n, znl_n, znl_0, znl_1, znl_4, ysum_n, ysum_0, ysum_1, ysum_4, true_and, and_true, Nat.reduceAdd, Nat.reduceLeDiff, true_implies, eq_self, true_or, or_true, or_false, false_or, not_true_eq_false, not_false_eq_true, false_implies, implies_true, yset_s, yset_o, yset_d, ne_eq, Nat.reduceEqDiff, Int.reduceToNat, Int.reduceEq, Int.reduceLE, Int.reduceLT, Classical.not_not, Nat.reduceLT, ↓zvk_s, ↓zvk_n, ↓s_152_0, ↓s_152_1, ↓s_152_2, ↓s_152_5, ↓s_152_6, ↓s_152_9, ↓s_152_12, ↓s_152_13, ↓s_152_14, ↓s_152_15, ↓s_152_18, ↓s_152_21, ↓s_152_22, ↓g_152_23, ↓k_152_23, ↓s_152_24, ↓s_152_25, ↓s_152_28, ↓s_152_29n, ↓s_152_29i, ↓s_152_29p, ↓s_152_31, ↓s_152_32n, ↓s_152_32i, ↓s_152_32p, ↓g_152_34, ↓k_152_34, ↓s_152_36, ↓s_152_37, ↓s_152_40, ↓s_152_41, ↓g_152_44, ↓k_152_44, ↓s_152_45, ↓s_152_47, ↓s_152_50, ↓s_152_53, ↓s_152_54, ↓s_152_56, ↓s_152_58, ↓s_152_61, ↓g_152_64, ↓k_152_64, ↓s_152_65, ↓s_152_67, ↓s_152_70a, ↓s_152_70b, ↓s_152_71, ↓s_152_74, ↓s_152_76, ↓s_152_77, ↓s_152_79, ↓s_152_82, ↓s_152_83n, ↓s_152_83i, ↓s_152_83p, ↓s_152_85n, ↓s_152_85i, ↓s_152_85p, ↓s_152_88, ↓s_152_91, ↓s_152_92, ↓s_152_95, ↓s_152_96, ↓s_152_97, ↓s_152_98, ↓s_152_101, ↓s_152_102, ↓s_152_103, ↓s_152_106, ↓s_152_108, ↓s_152_111, ↓s_152_112, ↓s_152_115, ↓s_152_116, ↓s_152_117, zar_136, zia_136, zln_136, zit_136, zar_97, zia_97, zln_97, zit_97, zio_95]
    refine c_layBest hE hm (by omega) same.1 same.2.1 c0 c9 (fun m hL => ?_)
    refine zgk_n hE xmo_152 60 zc_152 ?_
    simp only [ynok_30, ynok_31, w32c_0, w32c_1, w32c_2, w32c_3, w32c_4, w32c_5, w32c_6, w32c_7, w32c_8, w32c_9, w32c_10, w32c_11, w32c_12, w32c_13, w32c_14, w32c_m1, w32c_m2, w32c_118, Int.reduceAdd, Int.reduceSub, Int.reduceMul, yput_s, yput_n, znl_n, znl_0, znl_1, znl_4, ysum_n, ysum_0, ysum_1, ysum_4, true_and, and_true, Nat.reduceAdd, Nat.reduceLeDiff, true_implies, eq_self, true_or, or_true, or_false, false_or, not_true_eq_false, not_false_eq_true, false_implies, implies_true, yset_s, yset_o, yset_d, ne_eq, Nat.reduceEqDiff, Int.reduceToNat, Int.reduceEq, Int.reduceLE, Int.reduceLT, Classical.not_not, Nat.reduceLT, ↓zvk_s, ↓zvk_n, ↓s_152_0, ↓s_152_1, ↓s_152_2, ↓s_152_5, ↓s_152_6, ↓s_152_9, ↓s_152_12, ↓s_152_13, ↓s_152_14, ↓s_152_15, ↓s_152_18, ↓s_152_21, ↓s_152_22, ↓g_152_23, ↓k_152_23, ↓s_152_24, ↓s_152_25, ↓s_152_28, ↓s_152_29n, ↓s_152_29i, ↓s_152_29p, ↓s_152_31, ↓s_152_32n, ↓s_152_32i, ↓s_152_32p, ↓g_152_34, ↓k_152_34, ↓s_152_36, ↓s_152_37, ↓s_152_40, ↓s_152_41, ↓g_152_44, ↓k_152_44, ↓s_152_45, ↓s_152_47, ↓s_152_50, ↓s_152_53, ↓s_152_54, ↓s_152_56, ↓s_152_58, ↓s_152_61, ↓g_152_64, ↓k_152_64, ↓s_152_65, ↓s_152_67, ↓s_152_70a, ↓s_152_70b, ↓s_152_71, ↓s_152_74, ↓s_152_76, ↓s_152_77, ↓s_152_79, ↓s_152_82, ↓s_152_83n, ↓s_152_83i, ↓s_152_83p, ↓s_152_85n, ↓s_152_85i, ↓s_152_85p, ↓s_152_88, ↓s_152_91, ↓s_152_92, ↓s_152_95, ↓s_152_96, ↓s_152_97, ↓s_152_98, ↓s_152_101, ↓s_152_102, ↓s_152_103, ↓s_152_106, ↓s_152_108, ↓s_152_111, ↓s_152_112, ↓s_152_115, ↓s_152_116, ↓s_152_117, zar_136, zia_136, zln_136, zit_136, zar_97, zia_97, zln_97, zit_97, zio_95]
    exact ch34 hE (by omega) c9 hL v0 (by rw [hL.2.2.2, yset_o (by decide)]; exact v1) w0 (by omega) (fun r m' h => hQ r m' (RQn_tr same h)) _ _ _ m rfl (by decide) (by rw [w32c_0]; omega) c0 (Int.le_refl _) (fun _ _ _ => rfl) hL.1.1
  simp only [ynok_30, ynok_31, w32c_0, w32c_1, w32c_2, w32c_3, w32c_4, w32c_5, w32c_6, w32c_7, w32c_8, w32c_9, w32c_10, w32c_11, w32c_12, w32c_13, w32c_14, w32c_m1, w32c_m2, w32c_118, Int.reduceAdd, Int.reduceSub, Int.reduceMul, yput_s, yput_n, znl_n, znl_0, znl_1, znl_4, ysum_n, ysum_0, ysum_1, ysum_4, true_and, and_true, Nat.reduceAdd, Nat.reduceLeDiff, true_implies, eq_self, true_or, or_true, or_false, false_or, not_true_eq_false, not_false_eq_true, false_implies, implies_true, yset_s, yset_o, yset_d, ne_eq, Nat.reduceEqDiff, Int.reduceToNat, Int.reduceEq, Int.reduceLE, Int.reduceLT, Classical.not_not, Nat.reduceLT, ↓zvk_s, ↓zvk_n, ↓s_152_0, ↓s_152_1, ↓s_152_2, ↓s_152_5, ↓s_152_6, ↓s_152_9, ↓s_152_12, ↓s_152_13, ↓s_152_14, ↓s_152_15, ↓s_152_18, ↓s_152_21, ↓s_152_22, ↓g_152_23, ↓k_152_23, ↓s_152_24, ↓s_152_25, ↓s_152_28, ↓s_152_29n, ↓s_152_29i, ↓s_152_29p, ↓s_152_31, ↓s_152_32n, ↓s_152_32i, ↓s_152_32p, ↓g_152_34, ↓k_152_34, ↓s_152_36, ↓s_152_37, ↓s_152_40, ↓s_152_41, ↓g_152_44, ↓k_152_44, ↓s_152_45, ↓s_152_47, ↓s_152_50, ↓s_152_53, ↓s_152_54, ↓s_152_56, ↓s_152_58, ↓s_152_61, ↓g_152_64, ↓k_152_64, ↓s_152_65, ↓s_152_67, ↓s_152_70a, ↓s_152_70b, ↓s_152_71, ↓s_152_74, ↓s_152_76, ↓s_152_77, ↓s_152_79, ↓s_152_82, ↓s_152_83n, ↓s_152_83i, ↓s_152_83p, ↓s_152_85n, ↓s_152_85i, ↓s_152_85p, ↓s_152_88, ↓s_152_91, ↓s_152_92, ↓s_152_95, ↓s_152_96, ↓s_152_97, ↓s_152_98, ↓s_152_101, ↓s_152_102, ↓s_152_103, ↓s_152_106, ↓s_152_108, ↓s_152_111, ↓s_152_112, ↓s_152_115, ↓s_152_116, ↓s_152_117, ↓s_184_0, ↓s_184_1, ↓s_184_4, ↓s_184_5, ↓s_184_8, ↓s_184_11, ↓s_184_12, ↓s_184_15, ↓s_184_16, w32c_1000, ↓s_189_0, ↓s_189_1, ↓s_189_2, ↓s_189_5, ↓s_189_8, ↓s_189_9, ↓s_189_12, ↓s_189_13, ↓s_189_14, ↓s_189_17, ↓s_189_18, ↓s_189_19, ↓s_189_22, ↓s_189_23, ↓s_189_26, ↓s_189_27, ↓s_196_0, ↓s_196_1, ↓s_196_4, ↓s_196_5, ↓s_196_6, ↓s_196_9, ↓s_196_10, ↓s_196_11, ↓s_196_14, ↓s_196_15, ↓s_196_18, ↓s_196_19, zar_97, zia_97, zln_97, zit_97, zar_136, zia_136, zln_136, zit_136, zar_109, zia_109, zln_109, zit_109, zio_95]
  repeat' first | exact q0 _ | exact f23 (by omega) (by omega) (by omega) (by omega) (by omega) (by omega) | omega | refine And.intro ?_ ?_ | intro _
end
section
def abc_take : aCon := (86, [(1, 2, 0, 0), (1, 28, 0, 0)], [], (99, 0, 0, 0), [], [(2, 17), (2, 18), (2, 19), (3, 2), (4, 0), (5, 2), (6, 0), (7, 2), (8, 0), (9, 2), (10, 0), (11, 0), (12, 0), (13, 0), (14, 0), (15, 0), (16, 0), (17, 0), (18, 0), (19, 0), (20, 0), (21, 0), (22, 5), (23, 0), (24, 0), (25, 0), (26, 0)], 2, [])
set_option maxRecDepth 1000000 in
theorem abs_take {Om : yMem → Prop} (hO : aOmF yoc Om) (hm : yman Om) : aSnd Om abc_take := aSnd_of (T := []) hO (xnl) 263 (by decide +kernel) (by decide +kernel)
def abc_begin : aCon := (135, [(1, 57, 0, 0), (1, 2, 0, 0)], [], (99, 0, 0, 0), [], [(57, 7), (57, 8), (57, 9), (57, 10), (57, 11), (57, 12), (57, 13), (58, 0), (59, 0), (60, 0), (61, 0)], 3, [])
set_option maxRecDepth 1000000 in
theorem abs_begin {Om : yMem → Prop} (hO : aOmF yoc Om) (hm : yman Om) : aSnd Om abc_begin := aSnd_of (T := [ac_154, ac_155, ac_156, ac_74]) hO (xcns (as_154 hO hm) <| xcns (as_155 hO hm) <| xcns (as_156 hO hm) <| xcns (as_74 hO hm) <| xnl) 73 (by decide +kernel) (by decide +kernel)
end
section
def zc_41 : List Nat := [12, 15]
theorem s_41_0 {E : yE} {n d : Nat} {mem : yMem} {Post : Option yV → yMem → Prop} {st : List yV} {r0 r2 : Option yV} {x : Int} : zvc E (n + 1) zc_41 d xm_41 0 [r0, some (0, x), r2] (st) mem Post = (zvc E n zc_41 d xm_41 1 [r0, some (0, x), r2] ((0, x) :: st) mem Post) := zrf rfl
theorem s_41_1 {E : yE} {n d : Nat} {mem : yMem} {Post : Option yV → yMem → Prop} {st : List yV} {r0 r1 r2 : Option yV} {x : Int} : zvc E (n + 1) zc_41 d xm_41 1 [r0, r1, r2] ((0, x) :: st) mem Post = ((w32 x < w32 0 → zvc E n zc_41 d xm_41 12 [r0, r1, r2] (st) mem Post) ∧ (¬ (w32 x < w32 0) → zvc E n zc_41 d xm_41 4 [r0, r1, r2] (st) mem Post)) := zrf rfl
theorem s_41_4 {E : yE} {n d : Nat} {mem : yMem} {Post : Option yV → yMem → Prop} {st : List yV} {r0 r2 : Option yV} {x : Int} : zvc E (n + 1) zc_41 d xm_41 4 [r0, some (0, x), r2] (st) mem Post = (zvc E n zc_41 d xm_41 5 [r0, some (0, x), r2] ((0, x) :: st) mem Post) := zrf rfl
theorem s_41_5 {E : yE} {n d : Nat} {mem : yMem} {Post : Option yV → yMem → Prop} {st : List yV} {r1 r2 : Option yV} {x : Int} : zvc E (n + 1) zc_41 d xm_41 5 [some (1, x), r1, r2] (st) mem Post = (zvc E n zc_41 d xm_41 6 [some (1, x), r1, r2] ((1, x) :: st) mem Post) := zrf rfl
theorem s_41_6 {E : yE} {n d : Nat} {mem : yMem} {Post : Option yV → yMem → Prop} {st : List yV} {r0 r1 r2 : Option yV} : zvc E (n + 1) zc_41 d xm_41 6 [r0, r1, r2] ((1, 0) :: st) mem Post = (zvc E n zc_41 d xm_41 9 [r0, r1, r2] ((0, mem 0 11) :: st) mem Post) := zrf rfl
theorem s_41_9 {E : yE} {n d : Nat} {mem : yMem} {Post : Option yV → yMem → Prop} {st : List yV} {r0 r1 r2 : Option yV} {x y : Int} : zvc E (n + 1) zc_41 d xm_41 9 [r0, r1, r2] ((0, y) :: (0, x) :: st) mem Post = ((w32 x ≤ w32 y → zvc E n zc_41 d xm_41 15 [r0, r1, r2] (st) mem Post) ∧ (¬ (w32 x ≤ w32 y) → zvc E n zc_41 d xm_41 12 [r0, r1, r2] (st) mem Post)) := zrf rfl
theorem g_41_12 {E : yE} {n d : Nat} {mem : yMem} {Post : Option yV → yMem → Prop} {st : List yV} {r0 r1 r2 : Option yV} : zgo E n zc_41 d xm_41 12 [r0, r1, r2] (st) mem Post = (zvc E n zc_41 d xm_41 14 [r0, r1, r2] ((0, (-2)) :: st) mem Post) := zrf rfl
theorem k_41_12 {E : yE} {n d : Nat} {mem : yMem} {Post : Option yV → yMem → Prop} {st : List yV} {rg : zR} : zvc E (n + 1) zc_41 d xm_41 12 rg st mem Post = zG E d xm_41 12 rg st mem Post := zrf rfl
theorem s_41_14 {E : yE} {n d : Nat} {mem : yMem} {Post : Option yV → yMem → Prop} {r0 r1 r2 : Option yV} {x : Int} : zvc E (n + 1) zc_41 d xm_41 14 [r0, r1, r2] ([(0, x)]) mem Post = (Post (some (0, x)) mem) := zrf rfl
theorem g_41_15 {E : yE} {n d : Nat} {mem : yMem} {Post : Option yV → yMem → Prop} {st : List yV} {r1 r2 : Option yV} {x : Int} : zgo E n zc_41 d xm_41 15 [some (1, x), r1, r2] (st) mem Post = (zvc E n zc_41 d xm_41 16 [some (1, x), r1, r2] ((1, x) :: st) mem Post) := zrf rfl
theorem k_41_15 {E : yE} {n d : Nat} {mem : yMem} {Post : Option yV → yMem → Prop} {st : List yV} {rg : zR} : zvc E (n + 1) zc_41 d xm_41 15 rg st mem Post = zG E d xm_41 15 rg st mem Post := zrf rfl
theorem s_41_16 {E : yE} {n d : Nat} {mem : yMem} {Post : Option yV → yMem → Prop} {st : List yV} {r0 r1 r2 : Option yV} : zvc E (n + 1) zc_41 d xm_41 16 [r0, r1, r2] ((1, 0) :: st) mem Post = (zvc E n zc_41 d xm_41 19 [r0, r1, r2] ((1, 54) :: st) mem Post) := zrf rfl
theorem s_41_19 {E : yE} {n d : Nat} {mem : yMem} {Post : Option yV → yMem → Prop} {st : List yV} {r0 r2 : Option yV} {x : Int} : zvc E (n + 1) zc_41 d xm_41 19 [r0, some (0, x), r2] (st) mem Post = (zvc E n zc_41 d xm_41 20 [r0, some (0, x), r2] ((0, x) :: st) mem Post) := zrf rfl
theorem s_41_20 {E : yE} {n d : Nat} {mem : yMem} {Post : Option yV → yMem → Prop} {st : List yV} {r0 r1 r2 : Option yV} {z a0 : Int} : zvc E (n + 1) zc_41 d xm_41 20 [r0, r1, r2] ((0, a0) :: (1, z) :: st) mem Post = (zio z 8 = true ∧ ysum st ≤ 8 ∧ yCon E d xm_120 [(1, z), (0, a0)] mem (fun v mem' => zgk E d xm_41 23 [r0, r1, r2] st v mem' Post)) := zrf rfl
theorem s_41_23n {E : yE} {n d : Nat} {mem : yMem} {Post : Option yV → yMem → Prop} {st : List yV} {r0 r2 : Option yV} {x : Int} : zvc E (n + 1) zc_41 d xm_41 23 [r0, none, r2] ((0, x) :: st) mem Post = (zvc E n zc_41 d xm_41 24 [r0, none, some (0, x)] (st) mem Post) := zrf rfl
theorem s_41_23i {E : yE} {n d : Nat} {mem : yMem} {Post : Option yV → yMem → Prop} {st : List yV} {r0 r2 : Option yV} {x w : Int} : zvc E (n + 1) zc_41 d xm_41 23 [r0, some (0, w), r2] ((0, x) :: st) mem Post = (zvc E n zc_41 d xm_41 24 [r0, some (0, w), some (0, x)] (st) mem Post) := zrf rfl
theorem s_41_23p {E : yE} {n d : Nat} {mem : yMem} {Post : Option yV → yMem → Prop} {st : List yV} {r0 r2 : Option yV} {x w : Int} : zvc E (n + 1) zc_41 d xm_41 23 [r0, some (1, w), r2] ((0, x) :: st) mem Post = (zvc E n zc_41 d xm_41 24 [r0, some (1, w), some (0, x)] (st) mem Post) := zrf rfl
theorem s_41_24 {E : yE} {n d : Nat} {mem : yMem} {Post : Option yV → yMem → Prop} {st : List yV} {r1 r2 : Option yV} {x : Int} : zvc E (n + 1) zc_41 d xm_41 24 [some (1, x), r1, r2] (st) mem Post = (zvc E n zc_41 d xm_41 25 [some (1, x), r1, r2] ((1, x) :: st) mem Post) := zrf rfl
theorem s_41_25 {E : yE} {n d : Nat} {mem : yMem} {Post : Option yV → yMem → Prop} {st : List yV} {r0 r1 r2 : Option yV} : zvc E (n + 1) zc_41 d xm_41 25 [r0, r1, r2] (st) mem Post = (zvc E n zc_41 d xm_41 26 [r0, r1, r2] ((0, 0) :: st) mem Post) := zrf rfl
theorem s_41_26 {E : yE} {n d : Nat} {mem : yMem} {Post : Option yV → yMem → Prop} {st : List yV} {r0 r1 r2 : Option yV} {x : Int} : zvc E (n + 1) zc_41 d xm_41 26 [r0, r1, r2] ((0, x) :: (1, 0) :: st) mem Post = (zvc E n zc_41 d xm_41 29 [r0, r1, r2] (st) (yset mem 0 11 x) Post) := zrf rfl
theorem s_41_29 {E : yE} {n d : Nat} {mem : yMem} {Post : Option yV → yMem → Prop} {st : List yV} {r1 r2 : Option yV} {x : Int} : zvc E (n + 1) zc_41 d xm_41 29 [some (1, x), r1, r2] (st) mem Post = (zvc E n zc_41 d xm_41 30 [some (1, x), r1, r2] ((1, x) :: st) mem Post) := zrf rfl
theorem s_41_30 {E : yE} {n d : Nat} {mem : yMem} {Post : Option yV → yMem → Prop} {st : List yV} {r1 r2 : Option yV} {x : Int} : zvc E (n + 1) zc_41 d xm_41 30 [some (1, x), r1, r2] (st) mem Post = (zvc E n zc_41 d xm_41 31 [some (1, x), r1, r2] ((1, x) :: st) mem Post) := zrf rfl
theorem s_41_31 {E : yE} {n d : Nat} {mem : yMem} {Post : Option yV → yMem → Prop} {st : List yV} {r0 r1 r2 : Option yV} : zvc E (n + 1) zc_41 d xm_41 31 [r0, r1, r2] ((1, 0) :: st) mem Post = (zvc E n zc_41 d xm_41 34 [r0, r1, r2] ((1, 54) :: st) mem Post) := zrf rfl
theorem s_41_34 {E : yE} {n d : Nat} {mem : yMem} {Post : Option yV → yMem → Prop} {st : List yV} {r0 r1 r2 : Option yV} : zvc E (n + 1) zc_41 d xm_41 34 [r0, r1, r2] ((1, 54) :: st) mem Post = (zvc E n zc_41 d xm_41 37 [r0, r1, r2] ((1, 55) :: st) mem Post) := zrf rfl
theorem s_41_37 {E : yE} {n d : Nat} {mem : yMem} {Post : Option yV → yMem → Prop} {st : List yV} {r0 r1 r2 : Option yV} : zvc E (n + 1) zc_41 d xm_41 37 [r0, r1, r2] ((1, 55) :: st) mem Post = (zvc E n zc_41 d xm_41 40 [r0, r1, r2] ((0, mem 55 7) :: st) mem Post) := zrf rfl
theorem s_41_40 {E : yE} {n d : Nat} {mem : yMem} {Post : Option yV → yMem → Prop} {st : List yV} {r0 r1 r2 : Option yV} {x : Int} : zvc E (n + 1) zc_41 d xm_41 40 [r0, r1, r2] ((0, x) :: (1, 0) :: st) mem Post = (zvc E n zc_41 d xm_41 43 [r0, r1, r2] (st) (yset mem 0 12 x) Post) := zrf rfl
theorem s_41_43 {E : yE} {n d : Nat} {mem : yMem} {Post : Option yV → yMem → Prop} {st : List yV} {r1 r2 : Option yV} {x : Int} : zvc E (n + 1) zc_41 d xm_41 43 [some (1, x), r1, r2] (st) mem Post = (zvc E n zc_41 d xm_41 44 [some (1, x), r1, r2] ((1, x) :: st) mem Post) := zrf rfl
theorem s_41_44 {E : yE} {n d : Nat} {mem : yMem} {Post : Option yV → yMem → Prop} {st : List yV} {r1 r2 : Option yV} {x : Int} : zvc E (n + 1) zc_41 d xm_41 44 [some (1, x), r1, r2] (st) mem Post = (zvc E n zc_41 d xm_41 45 [some (1, x), r1, r2] ((1, x) :: st) mem Post) := zrf rfl
theorem s_41_45 {E : yE} {n d : Nat} {mem : yMem} {Post : Option yV → yMem → Prop} {st : List yV} {r0 r1 r2 : Option yV} : zvc E (n + 1) zc_41 d xm_41 45 [r0, r1, r2] ((1, 0) :: st) mem Post = (zvc E n zc_41 d xm_41 48 [r0, r1, r2] ((1, 54) :: st) mem Post) := zrf rfl
theorem s_41_48 {E : yE} {n d : Nat} {mem : yMem} {Post : Option yV → yMem → Prop} {st : List yV} {r0 r1 r2 : Option yV} : zvc E (n + 1) zc_41 d xm_41 48 [r0, r1, r2] ((1, 54) :: st) mem Post = (zvc E n zc_41 d xm_41 51 [r0, r1, r2] ((1, 55) :: st) mem Post) := zrf rfl
theorem s_41_51 {E : yE} {n d : Nat} {mem : yMem} {Post : Option yV → yMem → Prop} {st : List yV} {r0 r1 r2 : Option yV} : zvc E (n + 1) zc_41 d xm_41 51 [r0, r1, r2] ((1, 55) :: st) mem Post = (zvc E n zc_41 d xm_41 54 [r0, r1, r2] ((0, mem 55 8) :: st) mem Post) := zrf rfl
theorem s_41_54 {E : yE} {n d : Nat} {mem : yMem} {Post : Option yV → yMem → Prop} {st : List yV} {r0 r1 r2 : Option yV} {x : Int} : zvc E (n + 1) zc_41 d xm_41 54 [r0, r1, r2] ((0, x) :: (1, 0) :: st) mem Post = (zvc E n zc_41 d xm_41 57 [r0, r1, r2] (st) (yset mem 0 13 x) Post) := zrf rfl
theorem s_41_57 {E : yE} {n d : Nat} {mem : yMem} {Post : Option yV → yMem → Prop} {st : List yV} {r1 r2 : Option yV} {x : Int} : zvc E (n + 1) zc_41 d xm_41 57 [some (1, x), r1, r2] (st) mem Post = (zvc E n zc_41 d xm_41 58 [some (1, x), r1, r2] ((1, x) :: st) mem Post) := zrf rfl
theorem s_41_58 {E : yE} {n d : Nat} {mem : yMem} {Post : Option yV → yMem → Prop} {st : List yV} {r0 r1 r2 : Option yV} : zvc E (n + 1) zc_41 d xm_41 58 [r0, r1, r2] ((1, 0) :: st) mem Post = (zvc E n zc_41 d xm_41 61 [r0, r1, r2] ((0, mem 0 12) :: st) mem Post) := zrf rfl
theorem s_41_61 {E : yE} {n d : Nat} {mem : yMem} {Post : Option yV → yMem → Prop} {st : List yV} {r0 r1 r2 : Option yV} {x : Int} : zvc E (n + 1) zc_41 d xm_41 61 [r0, r1, r2] ((0, x) :: st) mem Post = ((w32 x = w32 0 → zvc E n zc_41 d xm_41 66 [r0, r1, r2] (st) mem Post) ∧ (¬ (w32 x = w32 0) → zvc E n zc_41 d xm_41 64 [r0, r1, r2] (st) mem Post)) := zrf rfl
theorem s_41_64 {E : yE} {n d : Nat} {mem : yMem} {Post : Option yV → yMem → Prop} {st : List yV} {r0 r1 r2 : Option yV} : zvc E (n + 1) zc_41 d xm_41 64 [r0, r1, r2] (st) mem Post = (zvc E n zc_41 d xm_41 65 [r0, r1, r2] ((0, (-1)) :: st) mem Post) := zrf rfl
theorem s_41_65 {E : yE} {n d : Nat} {mem : yMem} {Post : Option yV → yMem → Prop} {r0 r1 r2 : Option yV} {x : Int} : zvc E (n + 1) zc_41 d xm_41 65 [r0, r1, r2] ([(0, x)]) mem Post = (Post (some (0, x)) mem) := zrf rfl
theorem s_41_66 {E : yE} {n d : Nat} {mem : yMem} {Post : Option yV → yMem → Prop} {st : List yV} {r1 r2 : Option yV} {x : Int} : zvc E (n + 1) zc_41 d xm_41 66 [some (1, x), r1, r2] (st) mem Post = (zvc E n zc_41 d xm_41 67 [some (1, x), r1, r2] ((1, x) :: st) mem Post) := zrf rfl
theorem s_41_67 {E : yE} {n d : Nat} {mem : yMem} {Post : Option yV → yMem → Prop} {st : List yV} {r0 r1 r2 : Option yV} : zvc E (n + 1) zc_41 d xm_41 67 [r0, r1, r2] ((1, 0) :: st) mem Post = (zvc E n zc_41 d xm_41 70 [r0, r1, r2] ((1, 2) :: st) mem Post) := zrf rfl
theorem s_41_70 {E : yE} {n d : Nat} {mem : yMem} {Post : Option yV → yMem → Prop} {st : List yV} {r1 r2 : Option yV} {x : Int} : zvc E (n + 1) zc_41 d xm_41 70 [some (1, x), r1, r2] (st) mem Post = (zvc E n zc_41 d xm_41 71 [some (1, x), r1, r2] ((1, x) :: st) mem Post) := zrf rfl
theorem s_41_71 {E : yE} {n d : Nat} {mem : yMem} {Post : Option yV → yMem → Prop} {st : List yV} {r0 r1 r2 : Option yV} : zvc E (n + 1) zc_41 d xm_41 71 [r0, r1, r2] ((1, 0) :: st) mem Post = (zvc E n zc_41 d xm_41 74 [r0, r1, r2] ((1, 28) :: st) mem Post) := zrf rfl
theorem s_41_74 {E : yE} {n d : Nat} {mem : yMem} {Post : Option yV → yMem → Prop} {st : List yV} {r0 r1 r2 : Option yV} {z a0 : Int} : zvc E (n + 1) zc_41 d xm_41 74 [r0, r1, r2] ((1, a0) :: (1, z) :: st) mem Post = (zio z 4 = true ∧ ysum st ≤ 8 ∧ yCon E d xm_86 [(1, z), (1, a0)] mem (fun v mem' => zgk E d xm_41 77 [r0, r1, r2] st v mem' Post)) := zrf rfl
theorem s_41_77 {E : yE} {n d : Nat} {mem : yMem} {Post : Option yV → yMem → Prop} {st : List yV} {r1 r2 : Option yV} {x : Int} : zvc E (n + 1) zc_41 d xm_41 77 [some (1, x), r1, r2] (st) mem Post = (zvc E n zc_41 d xm_41 78 [some (1, x), r1, r2] ((1, x) :: st) mem Post) := zrf rfl
theorem s_41_78 {E : yE} {n d : Nat} {mem : yMem} {Post : Option yV → yMem → Prop} {st : List yV} {r0 r1 r2 : Option yV} : zvc E (n + 1) zc_41 d xm_41 78 [r0, r1, r2] ((1, 0) :: st) mem Post = (zvc E n zc_41 d xm_41 81 [r0, r1, r2] ((1, 57) :: st) mem Post) := zrf rfl
theorem s_41_81 {E : yE} {n d : Nat} {mem : yMem} {Post : Option yV → yMem → Prop} {st : List yV} {r1 r2 : Option yV} {x : Int} : zvc E (n + 1) zc_41 d xm_41 81 [some (1, x), r1, r2] (st) mem Post = (zvc E n zc_41 d xm_41 82 [some (1, x), r1, r2] ((1, x) :: st) mem Post) := zrf rfl
theorem s_41_82 {E : yE} {n d : Nat} {mem : yMem} {Post : Option yV → yMem → Prop} {st : List yV} {r0 r1 r2 : Option yV} : zvc E (n + 1) zc_41 d xm_41 82 [r0, r1, r2] ((1, 0) :: st) mem Post = (zvc E n zc_41 d xm_41 85 [r0, r1, r2] ((1, 2) :: st) mem Post) := zrf rfl
theorem s_41_85 {E : yE} {n d : Nat} {mem : yMem} {Post : Option yV → yMem → Prop} {st : List yV} {r0 r1 r2 : Option yV} {z a0 : Int} : zvc E (n + 1) zc_41 d xm_41 85 [r0, r1, r2] ((1, a0) :: (1, z) :: st) mem Post = (zio z 10 = true ∧ ysum st ≤ 8 ∧ yCon E d xm_135 [(1, z), (1, a0)] mem (fun v mem' => zgk E d xm_41 88 [r0, r1, r2] st v mem' Post)) := zrf rfl
theorem s_41_88 {E : yE} {n d : Nat} {mem : yMem} {Post : Option yV → yMem → Prop} {st : List yV} {r1 r2 : Option yV} {x : Int} : zvc E (n + 1) zc_41 d xm_41 88 [some (1, x), r1, r2] (st) mem Post = (zvc E n zc_41 d xm_41 89 [some (1, x), r1, r2] ((1, x) :: st) mem Post) := zrf rfl
theorem s_41_89 {E : yE} {n d : Nat} {mem : yMem} {Post : Option yV → yMem → Prop} {st : List yV} {r0 r1 r2 : Option yV} : zvc E (n + 1) zc_41 d xm_41 89 [r0, r1, r2] ((1, 0) :: st) mem Post = (zvc E n zc_41 d xm_41 92 [r0, r1, r2] ((1, 71) :: st) mem Post) := zrf rfl
theorem s_41_92 {E : yE} {n d : Nat} {mem : yMem} {Post : Option yV → yMem → Prop} {st : List yV} {r0 r1 r2 : Option yV} : zvc E (n + 1) zc_41 d xm_41 92 [r0, r1, r2] (st) mem Post = (zvc E n zc_41 d xm_41 93 [r0, r1, r2] ((0, 0) :: st) mem Post) := zrf rfl
theorem s_41_93 {E : yE} {n d : Nat} {mem : yMem} {Post : Option yV → yMem → Prop} {st : List yV} {r0 r1 r2 : Option yV} {x : Int} : zvc E (n + 1) zc_41 d xm_41 93 [r0, r1, r2] ((0, x) :: (1, 71) :: st) mem Post = (zvc E n zc_41 d xm_41 96 [r0, r1, r2] (st) (yset mem 71 1 x) Post) := zrf rfl
theorem s_41_96 {E : yE} {n d : Nat} {mem : yMem} {Post : Option yV → yMem → Prop} {st : List yV} {r1 r2 : Option yV} {x : Int} : zvc E (n + 1) zc_41 d xm_41 96 [some (1, x), r1, r2] (st) mem Post = (zvc E n zc_41 d xm_41 97 [some (1, x), r1, r2] ((1, x) :: st) mem Post) := zrf rfl
theorem s_41_97 {E : yE} {n d : Nat} {mem : yMem} {Post : Option yV → yMem → Prop} {st : List yV} {r0 r1 r2 : Option yV} : zvc E (n + 1) zc_41 d xm_41 97 [r0, r1, r2] (st) mem Post = (zvc E n zc_41 d xm_41 98 [r0, r1, r2] ((0, 0) :: st) mem Post) := zrf rfl
theorem s_41_98 {E : yE} {n d : Nat} {mem : yMem} {Post : Option yV → yMem → Prop} {st : List yV} {r0 r1 r2 : Option yV} {x : Int} : zvc E (n + 1) zc_41 d xm_41 98 [r0, r1, r2] ((0, x) :: (1, 0) :: st) mem Post = ((w32 x = 0 ∨ w32 x = 1) ∧ zvc E n zc_41 d xm_41 101 [r0, r1, r2] (st) (yset mem 0 14 x) Post) := zrf rfl
theorem s_41_101 {E : yE} {n d : Nat} {mem : yMem} {Post : Option yV → yMem → Prop} {st : List yV} {r1 r2 : Option yV} {x : Int} : zvc E (n + 1) zc_41 d xm_41 101 [some (1, x), r1, r2] (st) mem Post = (zvc E n zc_41 d xm_41 102 [some (1, x), r1, r2] ((1, x) :: st) mem Post) := zrf rfl
theorem s_41_102 {E : yE} {n d : Nat} {mem : yMem} {Post : Option yV → yMem → Prop} {st : List yV} {r0 r1 r2 : Option yV} : zvc E (n + 1) zc_41 d xm_41 102 [r0, r1, r2] ((1, 0) :: st) mem Post = (zvc E n zc_41 d xm_41 105 [r0, r1, r2] ((1, 76) :: st) mem Post) := zrf rfl
theorem s_41_105 {E : yE} {n d : Nat} {mem : yMem} {Post : Option yV → yMem → Prop} {st : List yV} {r0 r1 r2 : Option yV} : zvc E (n + 1) zc_41 d xm_41 105 [r0, r1, r2] (st) mem Post = (zvc E n zc_41 d xm_41 106 [r0, r1, r2] ((0, 0) :: st) mem Post) := zrf rfl
theorem s_41_106 {E : yE} {n d : Nat} {mem : yMem} {Post : Option yV → yMem → Prop} {st : List yV} {r0 r1 r2 : Option yV} {x : Int} : zvc E (n + 1) zc_41 d xm_41 106 [r0, r1, r2] ((0, x) :: (1, 76) :: st) mem Post = ((w32 x = 0 ∨ w32 x = 1) ∧ zvc E n zc_41 d xm_41 109 [r0, r1, r2] (st) (yset mem 76 10 x) Post) := zrf rfl
theorem s_41_109 {E : yE} {n d : Nat} {mem : yMem} {Post : Option yV → yMem → Prop} {st : List yV} {r0 r1 : Option yV} {x : Int} : zvc E (n + 1) zc_41 d xm_41 109 [r0, r1, some (0, x)] (st) mem Post = (zvc E n zc_41 d xm_41 110 [r0, r1, some (0, x)] ((0, x) :: st) mem Post) := zrf rfl
theorem s_41_110 {E : yE} {n d : Nat} {mem : yMem} {Post : Option yV → yMem → Prop} {r0 r1 r2 : Option yV} {x : Int} : zvc E (n + 1) zc_41 d xm_41 110 [r0, r1, r2] ([(0, x)]) mem Post = (Post (some (0, x)) mem) := zrf rfl
theorem e_41 {E : yE} {d : Nat} {mem : yMem} {Q : Option yV → yMem → Prop} {z a0 : Int} (h : zG E d xm_41 0 [some (1, z), some (0, a0), none] [] mem Q) : yCon E (d + 1) xm_41 [(1, z), (0, a0)] mem Q := zcon_of xmo_41 (Nat.le_of_ble_eq_true rfl) h

/-- what a call of the class leaves, but for feed and text -/
def CQ (mem m : yMem) : Prop := aGok m ∧ Om m ∧ (∀ i j, 95 ≤ i → m i j = mem i j) ∧ m 0 11 = mem 0 11
def lcw (w : List (Nat × Nat)) : Bool := w.all (fun q => Nat.blt q.1 95 && !(Nat.beq q.1 0 && (Nat.beq q.2 0 || Nat.beq q.2 12)))
theorem lcw_ok {w : List (Nat × Nat)} (h : lcw w = true) {i j : Nat} (hi : 95 ≤ i ∨ (i = 0 ∧ j = 11)) : amod w i j = false := by
  cases hm : amod w i j with
  | false => rfl
  | true =>
    obtain ⟨q, q1, q2, q3⟩ := amod_ex hm
    have h2 := List.all_eq_true.mp h q q1
    simp only [Bool.and_eq_true, Nat.blt_eq, Bool.not_eq_true', Bool.and_eq_false_iff, Bool.or_eq_false_iff] at h2
    obtain ⟨h3, h4⟩ := h2
    rcases hi with hi | ⟨rfl, rfl⟩
    · omega
    · rcases h4 with h4 | ⟨h4, h5⟩
      · rw [q2] at h4
        cases h4
      · rcases q3 with q3 | q3
        · rw [q3] at h4; cases h4
        · rw [q3] at h5; cases h5
theorem CQ_of {c : aCon} {mem : yMem} {r : Option yV} {m : yMem} (he : aEnd Om c mem r m) (hw : lcw (acW c) = true) : CQ mem m :=
  ⟨he.2.1, he.2.2.1, fun i j hi => he.2.2.2.1 i j (lcw_ok hw (Or.inl hi)), he.2.2.2.1 0 11 (lcw_ok hw (Or.inr ⟨rfl, rfl⟩))⟩
theorem CQ_tr {a b c : yMem} (h1 : CQ a b) (h2 : CQ b c) : CQ a c := ⟨h2.1, h2.2.1, fun i j hi => by rw [h2.2.2.1 i j hi]; exact h1.2.2.1 i j hi, by rw [h2.2.2.2]; exact h1.2.2.2⟩
theorem CQ_set {mem : yMem} (hG : aGok mem) (hO : Om mem) {i j : Nat} {x : Int} (hi : i < 95) (hij : i = 0 → j ≠ 11) (hx : (agam i j).1 ≤ w32 x ∧ w32 x ≤ (agam i j).2) : CQ mem (yset mem i j x) := by
  refine ⟨aGok_set hG hx, yoc_Om mem _ (fun a b ha => yset_o (fun e => ?_)) hO, fun a b ha => yset_o (by omega), ?_⟩
  · subst e
    have : ∀ k ∈ yoc, 95 ≤ k := by decide
    have := this _ ha
    omega
  · rw [yset_a]
    split
    · next e =>
      rw [if_neg (fun e2 => hij e.symm e2.symm)]
    · rfl
def XTQ (mem : yMem) (n : Int) (m : yMem) : Prop := aGok m ∧ Om m ∧ (∀ i j, 95 ≤ i → m i j = mem i j) ∧ w32 (m 0 11) = (if 0 ≤ w32 n ∧ w32 n ≤ w32 (mem 0 11) then 0 else w32 (mem 0 11))
end
section
def zc_39 : List Nat := [3]
theorem s_39_0 {E : yE} {n d : Nat} {mem : yMem} {Post : Option yV → yMem → Prop} {st : List yV} {r0 r1 r2 : Option yV} : zvc E (n + 1) zc_39 d xm_39 0 [r0, r1, r2] (st) mem Post = (zvc E n zc_39 d xm_39 2 [r0, r1, r2] ((0, 24) :: st) mem Post) := zrf rfl
theorem s_39_2n {E : yE} {n d : Nat} {mem : yMem} {Post : Option yV → yMem → Prop} {st : List yV} {r0 r2 : Option yV} {x : Int} : zvc E (n + 1) zc_39 d xm_39 2 [r0, none, r2] ((0, x) :: st) mem Post = (zvc E n zc_39 d xm_39 3 [r0, none, some (0, x)] (st) mem Post) := zrf rfl
theorem s_39_2i {E : yE} {n d : Nat} {mem : yMem} {Post : Option yV → yMem → Prop} {st : List yV} {r0 r2 : Option yV} {x w : Int} : zvc E (n + 1) zc_39 d xm_39 2 [r0, some (0, w), r2] ((0, x) :: st) mem Post = (zvc E n zc_39 d xm_39 3 [r0, some (0, w), some (0, x)] (st) mem Post) := zrf rfl
theorem s_39_2p {E : yE} {n d : Nat} {mem : yMem} {Post : Option yV → yMem → Prop} {st : List yV} {r0 r2 : Option yV} {x w : Int} : zvc E (n + 1) zc_39 d xm_39 2 [r0, some (1, w), r2] ((0, x) :: st) mem Post = (zvc E n zc_39 d xm_39 3 [r0, some (1, w), some (0, x)] (st) mem Post) := zrf rfl
theorem g_39_3 {E : yE} {n d : Nat} {mem : yMem} {Post : Option yV → yMem → Prop} {st : List yV} {r0 r1 : Option yV} {x : Int} : zgo E n zc_39 d xm_39 3 [r0, r1, some (0, x)] (st) mem Post = (zvc E n zc_39 d xm_39 4 [r0, r1, some (0, x)] ((0, x) :: st) mem Post) := zrf rfl
theorem k_39_3 {E : yE} {n d : Nat} {mem : yMem} {Post : Option yV → yMem → Prop} {st : List yV} {rg : zR} : zvc E (n + 1) zc_39 d xm_39 3 rg st mem Post = zG E d xm_39 3 rg st mem Post := zrf rfl
theorem s_39_4 {E : yE} {n d : Nat} {mem : yMem} {Post : Option yV → yMem → Prop} {st : List yV} {r0 r1 r2 : Option yV} {x : Int} : zvc E (n + 1) zc_39 d xm_39 4 [r0, r1, r2] ((0, x) :: st) mem Post = ((w32 x < w32 0 → zvc E n zc_39 d xm_39 46 [r0, r1, r2] (st) mem Post) ∧ (¬ (w32 x < w32 0) → zvc E n zc_39 d xm_39 7 [r0, r1, r2] (st) mem Post)) := zrf rfl
theorem s_39_7 {E : yE} {n d : Nat} {mem : yMem} {Post : Option yV → yMem → Prop} {st : List yV} {r1 r2 : Option yV} {x : Int} : zvc E (n + 1) zc_39 d xm_39 7 [some (1, x), r1, r2] (st) mem Post = (zvc E n zc_39 d xm_39 8 [some (1, x), r1, r2] ((1, x) :: st) mem Post) := zrf rfl
theorem s_39_8 {E : yE} {n d : Nat} {mem : yMem} {Post : Option yV → yMem → Prop} {st : List yV} {r0 r1 r2 : Option yV} : zvc E (n + 1) zc_39 d xm_39 8 [r0, r1, r2] ((1, 0) :: st) mem Post = (zvc E n zc_39 d xm_39 11 [r0, r1, r2] ((0, mem 0 11) :: st) mem Post) := zrf rfl
theorem s_39_11 {E : yE} {n d : Nat} {mem : yMem} {Post : Option yV → yMem → Prop} {st : List yV} {r0 r1 r2 : Option yV} : zvc E (n + 1) zc_39 d xm_39 11 [r0, r1, r2] (st) mem Post = (zvc E n zc_39 d xm_39 14 [r0, r1, r2] ((0, 800) :: st) mem Post) := zrf rfl
theorem s_39_14 {E : yE} {n d : Nat} {mem : yMem} {Post : Option yV → yMem → Prop} {st : List yV} {r0 r1 r2 : Option yV} {x y : Int} : zvc E (n + 1) zc_39 d xm_39 14 [r0, r1, r2] ((0, y) :: (0, x) :: st) mem Post = ((w32 y ≤ w32 x → zvc E n zc_39 d xm_39 46 [r0, r1, r2] (st) mem Post) ∧ (¬ (w32 y ≤ w32 x) → zvc E n zc_39 d xm_39 17 [r0, r1, r2] (st) mem Post)) := zrf rfl
theorem s_39_17 {E : yE} {n d : Nat} {mem : yMem} {Post : Option yV → yMem → Prop} {st : List yV} {r1 r2 : Option yV} {x : Int} : zvc E (n + 1) zc_39 d xm_39 17 [some (1, x), r1, r2] (st) mem Post = (zvc E n zc_39 d xm_39 18 [some (1, x), r1, r2] ((1, x) :: st) mem Post) := zrf rfl
theorem s_39_18 {E : yE} {n d : Nat} {mem : yMem} {Post : Option yV → yMem → Prop} {st : List yV} {r0 r1 r2 : Option yV} : zvc E (n + 1) zc_39 d xm_39 18 [r0, r1, r2] ((1, 0) :: st) mem Post = (zvc E n zc_39 d xm_39 21 [r0, r1, r2] ((1, 1) :: st) mem Post) := zrf rfl
theorem s_39_21 {E : yE} {n d : Nat} {mem : yMem} {Post : Option yV → yMem → Prop} {st : List yV} {r1 r2 : Option yV} {x : Int} : zvc E (n + 1) zc_39 d xm_39 21 [some (1, x), r1, r2] (st) mem Post = (zvc E n zc_39 d xm_39 22 [some (1, x), r1, r2] ((1, x) :: st) mem Post) := zrf rfl
theorem s_39_22 {E : yE} {n d : Nat} {mem : yMem} {Post : Option yV → yMem → Prop} {st : List yV} {r0 r1 r2 : Option yV} : zvc E (n + 1) zc_39 d xm_39 22 [r0, r1, r2] ((1, 0) :: st) mem Post = (zvc E n zc_39 d xm_39 25 [r0, r1, r2] ((0, mem 0 11) :: st) mem Post) := zrf rfl
theorem s_39_25 {E : yE} {n d : Nat} {mem : yMem} {Post : Option yV → yMem → Prop} {st : List yV} {r0 r2 : Option yV} {x : Int} : zvc E (n + 1) zc_39 d xm_39 25 [r0, some (0, x), r2] (st) mem Post = (zvc E n zc_39 d xm_39 26 [r0, some (0, x), r2] ((0, x) :: st) mem Post) := zrf rfl
theorem s_39_26 {E : yE} {n d : Nat} {mem : yMem} {Post : Option yV → yMem → Prop} {st : List yV} {r0 r1 : Option yV} {x : Int} : zvc E (n + 1) zc_39 d xm_39 26 [r0, r1, some (0, x)] (st) mem Post = (zvc E n zc_39 d xm_39 27 [r0, r1, some (0, x)] ((0, x) :: st) mem Post) := zrf rfl
theorem s_39_27 {E : yE} {n d : Nat} {mem : yMem} {Post : Option yV → yMem → Prop} {st : List yV} {r0 r1 r2 : Option yV} {x y : Int} : zvc E (n + 1) zc_39 d xm_39 27 [r0, r1, r2] ((0, y) :: (0, x) :: st) mem Post = (zvc E n zc_39 d xm_39 28 [r0, r1, r2] ((0, ybin 7 x y) :: st) mem Post) := zrf rfl
theorem s_39_28 {E : yE} {n d : Nat} {mem : yMem} {Post : Option yV → yMem → Prop} {st : List yV} {r0 r1 r2 : Option yV} {x : Int} : zvc E (n + 1) zc_39 d xm_39 28 [r0, r1, r2] ((0, x) :: st) mem Post = (zvc E n zc_39 d xm_39 29 [r0, r1, r2] ((0, (iI x).toInt8.toInt32.toInt) :: st) mem Post) := zrf rfl
theorem s_39_29 {E : yE} {n d : Nat} {mem : yMem} {Post : Option yV → yMem → Prop} {st : List yV} {r0 r1 r2 : Option yV} {x z j : Int} : zvc E (n + 1) zc_39 d xm_39 29 [r0, r1, r2] ((0, x) :: (0, j) :: (1, z) :: st) mem Post = ((0 ≤ w32 j ∧ w32 j < ((zar z 1 : Nat) : Int)) ∧ ynok 1 x ∧ zvc E n zc_39 d xm_39 30 [r0, r1, r2] (st) (yset mem z.toNat (w32 j).toNat x) Post) := zrf rfl
theorem s_39_30 {E : yE} {n d : Nat} {mem : yMem} {Post : Option yV → yMem → Prop} {st : List yV} {r1 r2 : Option yV} {x : Int} : zvc E (n + 1) zc_39 d xm_39 30 [some (1, x), r1, r2] (st) mem Post = (zvc E n zc_39 d xm_39 31 [some (1, x), r1, r2] ((1, x) :: st) mem Post) := zrf rfl
theorem s_39_31a {E : yE} {n d : Nat} {mem : yMem} {Post : Option yV → yMem → Prop} {st : List yV} {r0 r1 r2 : Option yV} {x : Int} : zvc E (n + 1) zc_39 d xm_39 31 [r0, r1, r2] ((0, x) :: st) mem Post = (zvc E n zc_39 d xm_39 32 [r0, r1, r2] ((0, x) :: (0, x) :: st) mem Post) := zrf rfl
theorem s_39_31b {E : yE} {n d : Nat} {mem : yMem} {Post : Option yV → yMem → Prop} {st : List yV} {r0 r1 r2 : Option yV} {x : Int} : zvc E (n + 1) zc_39 d xm_39 31 [r0, r1, r2] ((1, x) :: st) mem Post = (zvc E n zc_39 d xm_39 32 [r0, r1, r2] ((1, x) :: (1, x) :: st) mem Post) := zrf rfl
theorem s_39_32 {E : yE} {n d : Nat} {mem : yMem} {Post : Option yV → yMem → Prop} {st : List yV} {r0 r1 r2 : Option yV} : zvc E (n + 1) zc_39 d xm_39 32 [r0, r1, r2] ((1, 0) :: st) mem Post = (zvc E n zc_39 d xm_39 35 [r0, r1, r2] ((0, mem 0 11) :: st) mem Post) := zrf rfl
theorem s_39_35 {E : yE} {n d : Nat} {mem : yMem} {Post : Option yV → yMem → Prop} {st : List yV} {r0 r1 r2 : Option yV} : zvc E (n + 1) zc_39 d xm_39 35 [r0, r1, r2] (st) mem Post = (zvc E n zc_39 d xm_39 36 [r0, r1, r2] ((0, 1) :: st) mem Post) := zrf rfl
theorem s_39_36 {E : yE} {n d : Nat} {mem : yMem} {Post : Option yV → yMem → Prop} {st : List yV} {r0 r1 r2 : Option yV} {x y : Int} : zvc E (n + 1) zc_39 d xm_39 36 [r0, r1, r2] ((0, y) :: (0, x) :: st) mem Post = (zvc E n zc_39 d xm_39 37 [r0, r1, r2] ((0, x + y) :: st) mem Post) := zrf rfl
theorem s_39_37 {E : yE} {n d : Nat} {mem : yMem} {Post : Option yV → yMem → Prop} {st : List yV} {r0 r1 r2 : Option yV} {x : Int} : zvc E (n + 1) zc_39 d xm_39 37 [r0, r1, r2] ((0, x) :: (1, 0) :: st) mem Post = (zvc E n zc_39 d xm_39 40 [r0, r1, r2] (st) (yset mem 0 11 x) Post) := zrf rfl
theorem s_39_40n {E : yE} {n d : Nat} {mem : yMem} {Post : Option yV → yMem → Prop} {st : List yV} {r0 : Option yV} {x : Int} : zvc E (n + 1) zc_39 d xm_39 40 [r0, none, some (0, x)] (st) mem Post = (zvc E n zc_39 d xm_39 43 [r0, none, some (0, x + (-8))] (st) mem Post) := zrf rfl
theorem s_39_40i {E : yE} {n d : Nat} {mem : yMem} {Post : Option yV → yMem → Prop} {st : List yV} {r0 : Option yV} {x w : Int} : zvc E (n + 1) zc_39 d xm_39 40 [r0, some (0, w), some (0, x)] (st) mem Post = (zvc E n zc_39 d xm_39 43 [r0, some (0, w), some (0, x + (-8))] (st) mem Post) := zrf rfl
theorem s_39_40p {E : yE} {n d : Nat} {mem : yMem} {Post : Option yV → yMem → Prop} {st : List yV} {r0 : Option yV} {x w : Int} : zvc E (n + 1) zc_39 d xm_39 40 [r0, some (1, w), some (0, x)] (st) mem Post = (zvc E n zc_39 d xm_39 43 [r0, some (1, w), some (0, x + (-8))] (st) mem Post) := zrf rfl
theorem s_39_43 {E : yE} {n d : Nat} {mem : yMem} {Post : Option yV → yMem → Prop} {st : List yV} {r0 r1 r2 : Option yV} : zvc E (n + 1) zc_39 d xm_39 43 [r0, r1, r2] (st) mem Post = (zvc E n zc_39 d xm_39 3 [r0, r1, r2] (st) mem Post) := zrf rfl
theorem s_39_46 {E : yE} {n d : Nat} {mem : yMem} {Post : Option yV → yMem → Prop} {r0 r1 r2 : Option yV} : zvc E (n + 1) zc_39 d xm_39 46 [r0, r1, r2] ([]) mem Post = (Post none mem) := zrf rfl
theorem s_14_0 {E : yE} {n d : Nat} {mem : yMem} {Post : Option yV → yMem → Prop} {st : List yV} {r1 r2 r3 r4 r5 : Option yV} {x : Int} : zvc E (n + 1) [] d xm_14 0 [some (1, x), r1, r2, r3, r4, r5] (st) mem Post = (zvc E n [] d xm_14 1 [some (1, x), r1, r2, r3, r4, r5] ((1, x) :: st) mem Post) := zrf rfl
theorem s_14_1 {E : yE} {n d : Nat} {mem : yMem} {Post : Option yV → yMem → Prop} {st : List yV} {r0 r1 r2 r3 r4 r5 : Option yV} : zvc E (n + 1) [] d xm_14 1 [r0, r1, r2, r3, r4, r5] ((1, 0) :: st) mem Post = (zvc E n [] d xm_14 4 [r0, r1, r2, r3, r4, r5] ((0, mem 0 11) :: st) mem Post) := zrf rfl
theorem s_14_4 {E : yE} {n d : Nat} {mem : yMem} {Post : Option yV → yMem → Prop} {st : List yV} {r0 r1 r2 r3 r4 r5 : Option yV} : zvc E (n + 1) [] d xm_14 4 [r0, r1, r2, r3, r4, r5] (st) mem Post = (zvc E n [] d xm_14 6 [r0, r1, r2, r3, r4, r5] ((0, 20) :: st) mem Post) := zrf rfl
theorem s_14_6 {E : yE} {n d : Nat} {mem : yMem} {Post : Option yV → yMem → Prop} {st : List yV} {r0 r1 r2 r3 r4 r5 : Option yV} {x y : Int} : zvc E (n + 1) [] d xm_14 6 [r0, r1, r2, r3, r4, r5] ((0, y) :: (0, x) :: st) mem Post = (zvc E n [] d xm_14 7 [r0, r1, r2, r3, r4, r5] ((0, x + y) :: st) mem Post) := zrf rfl
theorem s_14_7 {E : yE} {n d : Nat} {mem : yMem} {Post : Option yV → yMem → Prop} {st : List yV} {r0 r1 r2 r3 r4 r5 : Option yV} : zvc E (n + 1) [] d xm_14 7 [r0, r1, r2, r3, r4, r5] (st) mem Post = (zvc E n [] d xm_14 10 [r0, r1, r2, r3, r4, r5] ((0, 800) :: st) mem Post) := zrf rfl
theorem s_14_10 {E : yE} {n d : Nat} {mem : yMem} {Post : Option yV → yMem → Prop} {st : List yV} {r0 r1 r2 r3 r4 r5 : Option yV} {x y : Int} : zvc E (n + 1) [] d xm_14 10 [r0, r1, r2, r3, r4, r5] ((0, y) :: (0, x) :: st) mem Post = ((w32 x ≤ w32 y → zvc E n [] d xm_14 15 [r0, r1, r2, r3, r4, r5] (st) mem Post) ∧ (¬ (w32 x ≤ w32 y) → zvc E n [] d xm_14 13 [r0, r1, r2, r3, r4, r5] (st) mem Post)) := zrf rfl
theorem s_14_13 {E : yE} {n d : Nat} {mem : yMem} {Post : Option yV → yMem → Prop} {st : List yV} {r0 r1 r2 r3 r4 r5 : Option yV} : zvc E (n + 1) [] d xm_14 13 [r0, r1, r2, r3, r4, r5] (st) mem Post = (zvc E n [] d xm_14 14 [r0, r1, r2, r3, r4, r5] ((0, (-1)) :: st) mem Post) := zrf rfl
theorem s_14_14 {E : yE} {n d : Nat} {mem : yMem} {Post : Option yV → yMem → Prop} {r0 r1 r2 r3 r4 r5 : Option yV} {x : Int} : zvc E (n + 1) [] d xm_14 14 [r0, r1, r2, r3, r4, r5] ([(0, x)]) mem Post = (Post (some (0, x)) mem) := zrf rfl
theorem s_14_15 {E : yE} {n d : Nat} {mem : yMem} {Post : Option yV → yMem → Prop} {st : List yV} {r1 r2 r3 r4 r5 : Option yV} {x : Int} : zvc E (n + 1) [] d xm_14 15 [some (1, x), r1, r2, r3, r4, r5] (st) mem Post = (zvc E n [] d xm_14 16 [some (1, x), r1, r2, r3, r4, r5] ((1, x) :: st) mem Post) := zrf rfl
theorem s_14_16 {E : yE} {n d : Nat} {mem : yMem} {Post : Option yV → yMem → Prop} {st : List yV} {r0 r2 r3 r4 r5 : Option yV} {x : Int} : zvc E (n + 1) [] d xm_14 16 [r0, some (0, x), r2, r3, r4, r5] (st) mem Post = (zvc E n [] d xm_14 17 [r0, some (0, x), r2, r3, r4, r5] ((0, x) :: st) mem Post) := zrf rfl
theorem s_14_17 {E : yE} {n d : Nat} {mem : yMem} {Post : Option yV → yMem → Prop} {st : List yV} {r0 r1 r2 r3 r4 r5 : Option yV} {z a0 : Int} : zvc E (n + 1) [] d xm_14 17 [r0, r1, r2, r3, r4, r5] ((0, a0) :: (1, z) :: st) mem Post = (zio z 11 = true ∧ ysum st ≤ 8 ∧ yCon E d xm_39 [(1, z), (0, a0)] mem (fun v mem' => zgk E d xm_14 20 [r0, r1, r2, r3, r4, r5] st v mem' Post)) := zrf rfl
theorem s_14_20 {E : yE} {n d : Nat} {mem : yMem} {Post : Option yV → yMem → Prop} {st : List yV} {r1 r2 r3 r4 r5 : Option yV} {x : Int} : zvc E (n + 1) [] d xm_14 20 [some (1, x), r1, r2, r3, r4, r5] (st) mem Post = (zvc E n [] d xm_14 21 [some (1, x), r1, r2, r3, r4, r5] ((1, x) :: st) mem Post) := zrf rfl
theorem s_14_21 {E : yE} {n d : Nat} {mem : yMem} {Post : Option yV → yMem → Prop} {st : List yV} {r0 r1 r3 r4 r5 : Option yV} {x : Int} : zvc E (n + 1) [] d xm_14 21 [r0, r1, some (0, x), r3, r4, r5] (st) mem Post = (zvc E n [] d xm_14 22 [r0, r1, some (0, x), r3, r4, r5] ((0, x) :: st) mem Post) := zrf rfl
theorem s_14_22 {E : yE} {n d : Nat} {mem : yMem} {Post : Option yV → yMem → Prop} {st : List yV} {r0 r1 r2 r3 r4 r5 : Option yV} {z a0 : Int} : zvc E (n + 1) [] d xm_14 22 [r0, r1, r2, r3, r4, r5] ((0, a0) :: (1, z) :: st) mem Post = (zio z 11 = true ∧ ysum st ≤ 8 ∧ yCon E d xm_39 [(1, z), (0, a0)] mem (fun v mem' => zgk E d xm_14 25 [r0, r1, r2, r3, r4, r5] st v mem' Post)) := zrf rfl
theorem s_14_25 {E : yE} {n d : Nat} {mem : yMem} {Post : Option yV → yMem → Prop} {st : List yV} {r1 r2 r3 r4 r5 : Option yV} {x : Int} : zvc E (n + 1) [] d xm_14 25 [some (1, x), r1, r2, r3, r4, r5] (st) mem Post = (zvc E n [] d xm_14 26 [some (1, x), r1, r2, r3, r4, r5] ((1, x) :: st) mem Post) := zrf rfl
theorem s_14_26 {E : yE} {n d : Nat} {mem : yMem} {Post : Option yV → yMem → Prop} {st : List yV} {r0 r1 r2 r4 r5 : Option yV} {x : Int} : zvc E (n + 1) [] d xm_14 26 [r0, r1, r2, some (0, x), r4, r5] (st) mem Post = (zvc E n [] d xm_14 27 [r0, r1, r2, some (0, x), r4, r5] ((0, x) :: st) mem Post) := zrf rfl
theorem s_14_27 {E : yE} {n d : Nat} {mem : yMem} {Post : Option yV → yMem → Prop} {st : List yV} {r0 r1 r2 r3 r4 r5 : Option yV} {z a0 : Int} : zvc E (n + 1) [] d xm_14 27 [r0, r1, r2, r3, r4, r5] ((0, a0) :: (1, z) :: st) mem Post = (zio z 11 = true ∧ ysum st ≤ 8 ∧ yCon E d xm_39 [(1, z), (0, a0)] mem (fun v mem' => zgk E d xm_14 30 [r0, r1, r2, r3, r4, r5] st v mem' Post)) := zrf rfl
theorem s_14_30 {E : yE} {n d : Nat} {mem : yMem} {Post : Option yV → yMem → Prop} {st : List yV} {r1 r2 r3 r4 r5 : Option yV} {x : Int} : zvc E (n + 1) [] d xm_14 30 [some (1, x), r1, r2, r3, r4, r5] (st) mem Post = (zvc E n [] d xm_14 31 [some (1, x), r1, r2, r3, r4, r5] ((1, x) :: st) mem Post) := zrf rfl
theorem s_14_31 {E : yE} {n d : Nat} {mem : yMem} {Post : Option yV → yMem → Prop} {st : List yV} {r0 r1 r2 r3 r5 : Option yV} {x : Int} : zvc E (n + 1) [] d xm_14 31 [r0, r1, r2, r3, some (0, x), r5] (st) mem Post = (zvc E n [] d xm_14 33 [r0, r1, r2, r3, some (0, x), r5] ((0, x) :: st) mem Post) := zrf rfl
theorem s_14_33 {E : yE} {n d : Nat} {mem : yMem} {Post : Option yV → yMem → Prop} {st : List yV} {r0 r1 r2 r3 r4 r5 : Option yV} {z a0 : Int} : zvc E (n + 1) [] d xm_14 33 [r0, r1, r2, r3, r4, r5] ((0, a0) :: (1, z) :: st) mem Post = (zio z 11 = true ∧ ysum st ≤ 8 ∧ yCon E d xm_39 [(1, z), (0, a0)] mem (fun v mem' => zgk E d xm_14 36 [r0, r1, r2, r3, r4, r5] st v mem' Post)) := zrf rfl
theorem s_14_36 {E : yE} {n d : Nat} {mem : yMem} {Post : Option yV → yMem → Prop} {st : List yV} {r1 r2 r3 r4 r5 : Option yV} {x : Int} : zvc E (n + 1) [] d xm_14 36 [some (1, x), r1, r2, r3, r4, r5] (st) mem Post = (zvc E n [] d xm_14 37 [some (1, x), r1, r2, r3, r4, r5] ((1, x) :: st) mem Post) := zrf rfl
theorem s_14_37 {E : yE} {n d : Nat} {mem : yMem} {Post : Option yV → yMem → Prop} {st : List yV} {r0 r1 r2 r3 r4 : Option yV} {x : Int} : zvc E (n + 1) [] d xm_14 37 [r0, r1, r2, r3, r4, some (0, x)] (st) mem Post = (zvc E n [] d xm_14 39 [r0, r1, r2, r3, r4, some (0, x)] ((0, x) :: st) mem Post) := zrf rfl
theorem s_14_39 {E : yE} {n d : Nat} {mem : yMem} {Post : Option yV → yMem → Prop} {st : List yV} {r0 r1 r2 r3 r4 r5 : Option yV} {z a0 : Int} : zvc E (n + 1) [] d xm_14 39 [r0, r1, r2, r3, r4, r5] ((0, a0) :: (1, z) :: st) mem Post = (zio z 11 = true ∧ ysum st ≤ 8 ∧ yCon E d xm_39 [(1, z), (0, a0)] mem (fun v mem' => zgk E d xm_14 42 [r0, r1, r2, r3, r4, r5] st v mem' Post)) := zrf rfl
theorem s_14_42 {E : yE} {n d : Nat} {mem : yMem} {Post : Option yV → yMem → Prop} {st : List yV} {r1 r2 r3 r4 r5 : Option yV} {x : Int} : zvc E (n + 1) [] d xm_14 42 [some (1, x), r1, r2, r3, r4, r5] (st) mem Post = (zvc E n [] d xm_14 43 [some (1, x), r1, r2, r3, r4, r5] ((1, x) :: st) mem Post) := zrf rfl
theorem s_14_43 {E : yE} {n d : Nat} {mem : yMem} {Post : Option yV → yMem → Prop} {st : List yV} {r0 r1 r2 r3 r4 r5 : Option yV} : zvc E (n + 1) [] d xm_14 43 [r0, r1, r2, r3, r4, r5] ((1, 0) :: st) mem Post = (zvc E n [] d xm_14 46 [r0, r1, r2, r3, r4, r5] ((0, mem 0 11) :: st) mem Post) := zrf rfl
theorem s_14_46 {E : yE} {n d : Nat} {mem : yMem} {Post : Option yV → yMem → Prop} {r0 r1 r2 r3 r4 r5 : Option yV} {x : Int} : zvc E (n + 1) [] d xm_14 46 [r0, r1, r2, r3, r4, r5] ([(0, x)]) mem Post = (Post (some (0, x)) mem) := zrf rfl
def zc_167 : List Nat := [20, 73]
theorem s_167_0 {E : yE} {n d : Nat} {mem : yMem} {Post : Option yV → yMem → Prop} {st : List yV} {r1 r2 r3 r4 r5 r6 r7 : Option yV} {x : Int} : zvc E (n + 1) zc_167 d xm_167 0 [some (1, x), r1, r2, r3, r4, r5, r6, r7] (st) mem Post = (zvc E n zc_167 d xm_167 1 [some (1, x), r1, r2, r3, r4, r5, r6, r7] ((1, x) :: st) mem Post) := zrf rfl
theorem s_167_1 {E : yE} {n d : Nat} {mem : yMem} {Post : Option yV → yMem → Prop} {st : List yV} {r0 r1 r2 r3 r4 r5 r6 r7 : Option yV} : zvc E (n + 1) zc_167 d xm_167 1 [r0, r1, r2, r3, r4, r5, r6, r7] (st) mem Post = (zvc E n zc_167 d xm_167 2 [r0, r1, r2, r3, r4, r5, r6, r7] ((0, 0) :: st) mem Post) := zrf rfl
theorem s_167_2 {E : yE} {n d : Nat} {mem : yMem} {Post : Option yV → yMem → Prop} {st : List yV} {r0 r1 r2 r3 r4 r5 r6 r7 : Option yV} {x : Int} : zvc E (n + 1) zc_167 d xm_167 2 [r0, r1, r2, r3, r4, r5, r6, r7] ((0, x) :: (1, 95) :: st) mem Post = (zvc E n zc_167 d xm_167 5 [r0, r1, r2, r3, r4, r5, r6, r7] (st) (yset mem 95 0 x) Post) := zrf rfl
theorem s_167_5 {E : yE} {n d : Nat} {mem : yMem} {Post : Option yV → yMem → Prop} {st : List yV} {r1 r2 r3 r4 r5 r6 r7 : Option yV} {x : Int} : zvc E (n + 1) zc_167 d xm_167 5 [some (1, x), r1, r2, r3, r4, r5, r6, r7] (st) mem Post = (zvc E n zc_167 d xm_167 6 [some (1, x), r1, r2, r3, r4, r5, r6, r7] ((1, x) :: st) mem Post) := zrf rfl
theorem s_167_6 {E : yE} {n d : Nat} {mem : yMem} {Post : Option yV → yMem → Prop} {st : List yV} {r0 r1 r2 r3 r4 r5 r6 r7 : Option yV} : zvc E (n + 1) zc_167 d xm_167 6 [r0, r1, r2, r3, r4, r5, r6, r7] ((1, 95) :: st) mem Post = (zvc E n zc_167 d xm_167 9 [r0, r1, r2, r3, r4, r5, r6, r7] ((0, mem 95 2) :: st) mem Post) := zrf rfl
theorem s_167_9 {E : yE} {n d : Nat} {mem : yMem} {Post : Option yV → yMem → Prop} {st : List yV} {r0 r1 r2 r3 r4 r5 r6 r7 : Option yV} : zvc E (n + 1) zc_167 d xm_167 9 [r0, r1, r2, r3, r4, r5, r6, r7] (st) mem Post = (zvc E n zc_167 d xm_167 12 [r0, r1, r2, r3, r4, r5, r6, r7] ((0, 780) :: st) mem Post) := zrf rfl
theorem s_167_12 {E : yE} {n d : Nat} {mem : yMem} {Post : Option yV → yMem → Prop} {st : List yV} {r0 r1 r2 r3 r4 r5 r6 r7 : Option yV} {x y : Int} : zvc E (n + 1) zc_167 d xm_167 12 [r0, r1, r2, r3, r4, r5, r6, r7] ((0, y) :: (0, x) :: st) mem Post = ((w32 x ≤ w32 y → zvc E n zc_167 d xm_167 17 [r0, r1, r2, r3, r4, r5, r6, r7] (st) mem Post) ∧ (¬ (w32 x ≤ w32 y) → zvc E n zc_167 d xm_167 15 [r0, r1, r2, r3, r4, r5, r6, r7] (st) mem Post)) := zrf rfl
theorem s_167_15 {E : yE} {n d : Nat} {mem : yMem} {Post : Option yV → yMem → Prop} {st : List yV} {r0 r1 r2 r3 r4 r5 r6 r7 : Option yV} : zvc E (n + 1) zc_167 d xm_167 15 [r0, r1, r2, r3, r4, r5, r6, r7] (st) mem Post = (zvc E n zc_167 d xm_167 16 [r0, r1, r2, r3, r4, r5, r6, r7] ((0, (-1)) :: st) mem Post) := zrf rfl
theorem s_167_16 {E : yE} {n d : Nat} {mem : yMem} {Post : Option yV → yMem → Prop} {r0 r1 r2 r3 r4 r5 r6 r7 : Option yV} {x : Int} : zvc E (n + 1) zc_167 d xm_167 16 [r0, r1, r2, r3, r4, r5, r6, r7] ([(0, x)]) mem Post = (Post (some (0, x)) mem) := zrf rfl
theorem s_167_17 {E : yE} {n d : Nat} {mem : yMem} {Post : Option yV → yMem → Prop} {st : List yV} {r0 r1 r2 r3 r4 r5 r6 r7 : Option yV} : zvc E (n + 1) zc_167 d xm_167 17 [r0, r1, r2, r3, r4, r5, r6, r7] (st) mem Post = (zvc E n zc_167 d xm_167 18 [r0, r1, r2, r3, r4, r5, r6, r7] ((0, 0) :: st) mem Post) := zrf rfl
theorem s_167_18n {E : yE} {n d : Nat} {mem : yMem} {Post : Option yV → yMem → Prop} {st : List yV} {r0 r1 r2 r3 r4 r6 r7 : Option yV} {x : Int} : zvc E (n + 1) zc_167 d xm_167 18 [r0, r1, r2, r3, r4, none, r6, r7] ((0, x) :: st) mem Post = (zvc E n zc_167 d xm_167 20 [r0, r1, r2, r3, r4, none, some (0, x), r7] (st) mem Post) := zrf rfl
theorem s_167_18i {E : yE} {n d : Nat} {mem : yMem} {Post : Option yV → yMem → Prop} {st : List yV} {r0 r1 r2 r3 r4 r6 r7 : Option yV} {x w : Int} : zvc E (n + 1) zc_167 d xm_167 18 [r0, r1, r2, r3, r4, some (0, w), r6, r7] ((0, x) :: st) mem Post = (zvc E n zc_167 d xm_167 20 [r0, r1, r2, r3, r4, some (0, w), some (0, x), r7] (st) mem Post) := zrf rfl
theorem s_167_18p {E : yE} {n d : Nat} {mem : yMem} {Post : Option yV → yMem → Prop} {st : List yV} {r0 r1 r2 r3 r4 r6 r7 : Option yV} {x w : Int} : zvc E (n + 1) zc_167 d xm_167 18 [r0, r1, r2, r3, r4, some (1, w), r6, r7] ((0, x) :: st) mem Post = (zvc E n zc_167 d xm_167 20 [r0, r1, r2, r3, r4, some (1, w), some (0, x), r7] (st) mem Post) := zrf rfl
theorem s_167_18j {E : yE} {n d : Nat} {mem : yMem} {Post : Option yV → yMem → Prop} {st : List yV} {r0 r1 r2 r3 r4 r5 r6 r7 : Option yV} {x : Int} : zvc E (n + 1) zc_167 d xm_167 18 [r0, r1, r2, r3, r4, r5, r6, r7] ((0, x) :: st) mem Post = (zvc E n zc_167 d xm_167 20 [r0, r1, r2, r3, r4, znl r5, some (0, x), r7] (st) mem Post) := zrf rfl
theorem g_167_20 {E : yE} {n d : Nat} {mem : yMem} {Post : Option yV → yMem → Prop} {st : List yV} {r0 r1 r2 r3 r4 r5 r7 : Option yV} {x : Int} : zgo E n zc_167 d xm_167 20 [r0, r1, r2, r3, r4, r5, some (0, x), r7] (st) mem Post = (zvc E n zc_167 d xm_167 22 [r0, r1, r2, r3, r4, r5, some (0, x), r7] ((0, x) :: st) mem Post) := zrf rfl
theorem k_167_20 {E : yE} {n d : Nat} {mem : yMem} {Post : Option yV → yMem → Prop} {st : List yV} {rg : zR} : zvc E (n + 1) zc_167 d xm_167 20 rg st mem Post = zG E d xm_167 20 rg st mem Post := zrf rfl
theorem s_167_22 {E : yE} {n d : Nat} {mem : yMem} {Post : Option yV → yMem → Prop} {st : List yV} {r0 r1 r2 r3 r4 r5 r6 r7 : Option yV} : zvc E (n + 1) zc_167 d xm_167 22 [r0, r1, r2, r3, r4, r5, r6, r7] (st) mem Post = (zvc E n zc_167 d xm_167 24 [r0, r1, r2, r3, r4, r5, r6, r7] ((0, 20) :: st) mem Post) := zrf rfl
theorem s_167_24 {E : yE} {n d : Nat} {mem : yMem} {Post : Option yV → yMem → Prop} {st : List yV} {r0 r1 r2 r3 r4 r5 r6 r7 : Option yV} {x y : Int} : zvc E (n + 1) zc_167 d xm_167 24 [r0, r1, r2, r3, r4, r5, r6, r7] ((0, y) :: (0, x) :: st) mem Post = ((w32 y ≤ w32 x → zvc E n zc_167 d xm_167 110 [r0, r1, r2, r3, r4, r5, r6, r7] (st) mem Post) ∧ (¬ (w32 y ≤ w32 x) → zvc E n zc_167 d xm_167 27 [r0, r1, r2, r3, r4, r5, r6, r7] (st) mem Post)) := zrf rfl
theorem s_167_27 {E : yE} {n d : Nat} {mem : yMem} {Post : Option yV → yMem → Prop} {st : List yV} {r0 r1 r2 r3 r4 r5 r7 : Option yV} {x : Int} : zvc E (n + 1) zc_167 d xm_167 27 [r0, r1, r2, r3, r4, r5, some (0, x), r7] (st) mem Post = (zvc E n zc_167 d xm_167 29 [r0, r1, r2, r3, r4, r5, some (0, x), r7] ((0, x) :: st) mem Post) := zrf rfl
theorem s_167_29 {E : yE} {n d : Nat} {mem : yMem} {Post : Option yV → yMem → Prop} {st : List yV} {r0 r1 r2 r3 r4 r5 r6 r7 : Option yV} : zvc E (n + 1) zc_167 d xm_167 29 [r0, r1, r2, r3, r4, r5, r6, r7] (st) mem Post = (zvc E n zc_167 d xm_167 30 [r0, r1, r2, r3, r4, r5, r6, r7] ((0, 4) :: st) mem Post) := zrf rfl
theorem s_167_30 {E : yE} {n d : Nat} {mem : yMem} {Post : Option yV → yMem → Prop} {st : List yV} {r0 r1 r2 r3 r4 r5 r6 r7 : Option yV} {x y : Int} : zvc E (n + 1) zc_167 d xm_167 30 [r0, r1, r2, r3, r4, r5, r6, r7] ((0, y) :: (0, x) :: st) mem Post = ((w32 y ≤ w32 x → zvc E n zc_167 d xm_167 37 [r0, r1, r2, r3, r4, r5, r6, r7] (st) mem Post) ∧ (¬ (w32 y ≤ w32 x) → zvc E n zc_167 d xm_167 33 [r0, r1, r2, r3, r4, r5, r6, r7] (st) mem Post)) := zrf rfl
theorem s_167_33 {E : yE} {n d : Nat} {mem : yMem} {Post : Option yV → yMem → Prop} {st : List yV} {r0 r2 r3 r4 r5 r6 r7 : Option yV} {x : Int} : zvc E (n + 1) zc_167 d xm_167 33 [r0, some (0, x), r2, r3, r4, r5, r6, r7] (st) mem Post = (zvc E n zc_167 d xm_167 34 [r0, some (0, x), r2, r3, r4, r5, r6, r7] ((0, x) :: st) mem Post) := zrf rfl
theorem s_167_34 {E : yE} {n d : Nat} {mem : yMem} {Post : Option yV → yMem → Prop} {st : List yV} {r0 r1 r2 r3 r4 r5 r6 r7 : Option yV} : zvc E (n + 1) zc_167 d xm_167 34 [r0, r1, r2, r3, r4, r5, r6, r7] (st) mem Post = (zvc E n zc_167 d xm_167 73 [r0, r1, r2, r3, r4, r5, r6, r7] (st) mem Post) := zrf rfl
theorem s_167_37 {E : yE} {n d : Nat} {mem : yMem} {Post : Option yV → yMem → Prop} {st : List yV} {r0 r1 r2 r3 r4 r5 r7 : Option yV} {x : Int} : zvc E (n + 1) zc_167 d xm_167 37 [r0, r1, r2, r3, r4, r5, some (0, x), r7] (st) mem Post = (zvc E n zc_167 d xm_167 39 [r0, r1, r2, r3, r4, r5, some (0, x), r7] ((0, x) :: st) mem Post) := zrf rfl
theorem s_167_39 {E : yE} {n d : Nat} {mem : yMem} {Post : Option yV → yMem → Prop} {st : List yV} {r0 r1 r2 r3 r4 r5 r6 r7 : Option yV} : zvc E (n + 1) zc_167 d xm_167 39 [r0, r1, r2, r3, r4, r5, r6, r7] (st) mem Post = (zvc E n zc_167 d xm_167 41 [r0, r1, r2, r3, r4, r5, r6, r7] ((0, 8) :: st) mem Post) := zrf rfl
theorem s_167_41 {E : yE} {n d : Nat} {mem : yMem} {Post : Option yV → yMem → Prop} {st : List yV} {r0 r1 r2 r3 r4 r5 r6 r7 : Option yV} {x y : Int} : zvc E (n + 1) zc_167 d xm_167 41 [r0, r1, r2, r3, r4, r5, r6, r7] ((0, y) :: (0, x) :: st) mem Post = ((w32 y ≤ w32 x → zvc E n zc_167 d xm_167 48 [r0, r1, r2, r3, r4, r5, r6, r7] (st) mem Post) ∧ (¬ (w32 y ≤ w32 x) → zvc E n zc_167 d xm_167 44 [r0, r1, r2, r3, r4, r5, r6, r7] (st) mem Post)) := zrf rfl
theorem s_167_44 {E : yE} {n d : Nat} {mem : yMem} {Post : Option yV → yMem → Prop} {st : List yV} {r0 r1 r3 r4 r5 r6 r7 : Option yV} {x : Int} : zvc E (n + 1) zc_167 d xm_167 44 [r0, r1, some (0, x), r3, r4, r5, r6, r7] (st) mem Post = (zvc E n zc_167 d xm_167 45 [r0, r1, some (0, x), r3, r4, r5, r6, r7] ((0, x) :: st) mem Post) := zrf rfl
theorem s_167_45 {E : yE} {n d : Nat} {mem : yMem} {Post : Option yV → yMem → Prop} {st : List yV} {r0 r1 r2 r3 r4 r5 r6 r7 : Option yV} : zvc E (n + 1) zc_167 d xm_167 45 [r0, r1, r2, r3, r4, r5, r6, r7] (st) mem Post = (zvc E n zc_167 d xm_167 73 [r0, r1, r2, r3, r4, r5, r6, r7] (st) mem Post) := zrf rfl
theorem s_167_48 {E : yE} {n d : Nat} {mem : yMem} {Post : Option yV → yMem → Prop} {st : List yV} {r0 r1 r2 r3 r4 r5 r7 : Option yV} {x : Int} : zvc E (n + 1) zc_167 d xm_167 48 [r0, r1, r2, r3, r4, r5, some (0, x), r7] (st) mem Post = (zvc E n zc_167 d xm_167 50 [r0, r1, r2, r3, r4, r5, some (0, x), r7] ((0, x) :: st) mem Post) := zrf rfl
theorem s_167_50 {E : yE} {n d : Nat} {mem : yMem} {Post : Option yV → yMem → Prop} {st : List yV} {r0 r1 r2 r3 r4 r5 r6 r7 : Option yV} : zvc E (n + 1) zc_167 d xm_167 50 [r0, r1, r2, r3, r4, r5, r6, r7] (st) mem Post = (zvc E n zc_167 d xm_167 52 [r0, r1, r2, r3, r4, r5, r6, r7] ((0, 12) :: st) mem Post) := zrf rfl
theorem s_167_52 {E : yE} {n d : Nat} {mem : yMem} {Post : Option yV → yMem → Prop} {st : List yV} {r0 r1 r2 r3 r4 r5 r6 r7 : Option yV} {x y : Int} : zvc E (n + 1) zc_167 d xm_167 52 [r0, r1, r2, r3, r4, r5, r6, r7] ((0, y) :: (0, x) :: st) mem Post = ((w32 y ≤ w32 x → zvc E n zc_167 d xm_167 59 [r0, r1, r2, r3, r4, r5, r6, r7] (st) mem Post) ∧ (¬ (w32 y ≤ w32 x) → zvc E n zc_167 d xm_167 55 [r0, r1, r2, r3, r4, r5, r6, r7] (st) mem Post)) := zrf rfl
theorem s_167_55 {E : yE} {n d : Nat} {mem : yMem} {Post : Option yV → yMem → Prop} {st : List yV} {r0 r1 r2 r4 r5 r6 r7 : Option yV} {x : Int} : zvc E (n + 1) zc_167 d xm_167 55 [r0, r1, r2, some (0, x), r4, r5, r6, r7] (st) mem Post = (zvc E n zc_167 d xm_167 56 [r0, r1, r2, some (0, x), r4, r5, r6, r7] ((0, x) :: st) mem Post) := zrf rfl
theorem s_167_56 {E : yE} {n d : Nat} {mem : yMem} {Post : Option yV → yMem → Prop} {st : List yV} {r0 r1 r2 r3 r4 r5 r6 r7 : Option yV} : zvc E (n + 1) zc_167 d xm_167 56 [r0, r1, r2, r3, r4, r5, r6, r7] (st) mem Post = (zvc E n zc_167 d xm_167 73 [r0, r1, r2, r3, r4, r5, r6, r7] (st) mem Post) := zrf rfl
theorem s_167_59 {E : yE} {n d : Nat} {mem : yMem} {Post : Option yV → yMem → Prop} {st : List yV} {r0 r1 r2 r3 r4 r5 r7 : Option yV} {x : Int} : zvc E (n + 1) zc_167 d xm_167 59 [r0, r1, r2, r3, r4, r5, some (0, x), r7] (st) mem Post = (zvc E n zc_167 d xm_167 61 [r0, r1, r2, r3, r4, r5, some (0, x), r7] ((0, x) :: st) mem Post) := zrf rfl
theorem s_167_61 {E : yE} {n d : Nat} {mem : yMem} {Post : Option yV → yMem → Prop} {st : List yV} {r0 r1 r2 r3 r4 r5 r6 r7 : Option yV} : zvc E (n + 1) zc_167 d xm_167 61 [r0, r1, r2, r3, r4, r5, r6, r7] (st) mem Post = (zvc E n zc_167 d xm_167 63 [r0, r1, r2, r3, r4, r5, r6, r7] ((0, 16) :: st) mem Post) := zrf rfl
theorem s_167_63 {E : yE} {n d : Nat} {mem : yMem} {Post : Option yV → yMem → Prop} {st : List yV} {r0 r1 r2 r3 r4 r5 r6 r7 : Option yV} {x y : Int} : zvc E (n + 1) zc_167 d xm_167 63 [r0, r1, r2, r3, r4, r5, r6, r7] ((0, y) :: (0, x) :: st) mem Post = ((w32 y ≤ w32 x → zvc E n zc_167 d xm_167 71 [r0, r1, r2, r3, r4, r5, r6, r7] (st) mem Post) ∧ (¬ (w32 y ≤ w32 x) → zvc E n zc_167 d xm_167 66 [r0, r1, r2, r3, r4, r5, r6, r7] (st) mem Post)) := zrf rfl
theorem s_167_66 {E : yE} {n d : Nat} {mem : yMem} {Post : Option yV → yMem → Prop} {st : List yV} {r0 r1 r2 r3 r5 r6 r7 : Option yV} {x : Int} : zvc E (n + 1) zc_167 d xm_167 66 [r0, r1, r2, r3, some (0, x), r5, r6, r7] (st) mem Post = (zvc E n zc_167 d xm_167 68 [r0, r1, r2, r3, some (0, x), r5, r6, r7] ((0, x) :: st) mem Post) := zrf rfl
theorem s_167_68 {E : yE} {n d : Nat} {mem : yMem} {Post : Option yV → yMem → Prop} {st : List yV} {r0 r1 r2 r3 r4 r5 r6 r7 : Option yV} : zvc E (n + 1) zc_167 d xm_167 68 [r0, r1, r2, r3, r4, r5, r6, r7] (st) mem Post = (zvc E n zc_167 d xm_167 73 [r0, r1, r2, r3, r4, r5, r6, r7] (st) mem Post) := zrf rfl
theorem s_167_71 {E : yE} {n d : Nat} {mem : yMem} {Post : Option yV → yMem → Prop} {st : List yV} {r0 r1 r2 r3 r4 r6 r7 : Option yV} {x : Int} : zvc E (n + 1) zc_167 d xm_167 71 [r0, r1, r2, r3, r4, some (0, x), r6, r7] (st) mem Post = (zvc E n zc_167 d xm_167 73 [r0, r1, r2, r3, r4, some (0, x), r6, r7] ((0, x) :: st) mem Post) := zrf rfl
theorem g_167_73n {E : yE} {n d : Nat} {mem : yMem} {Post : Option yV → yMem → Prop} {st : List yV} {r0 r1 r2 r3 r4 r5 r7 : Option yV} {x : Int} : zgo E n zc_167 d xm_167 73 [r0, r1, r2, r3, r4, r5, none, r7] ((0, x) :: st) mem Post = (zvc E n zc_167 d xm_167 75 [r0, r1, r2, r3, r4, r5, none, some (0, x)] (st) mem Post) := zrf rfl
theorem g_167_73i {E : yE} {n d : Nat} {mem : yMem} {Post : Option yV → yMem → Prop} {st : List yV} {r0 r1 r2 r3 r4 r5 r7 : Option yV} {x w : Int} : zgo E n zc_167 d xm_167 73 [r0, r1, r2, r3, r4, r5, some (0, w), r7] ((0, x) :: st) mem Post = (zvc E n zc_167 d xm_167 75 [r0, r1, r2, r3, r4, r5, some (0, w), some (0, x)] (st) mem Post) := zrf rfl
theorem g_167_73p {E : yE} {n d : Nat} {mem : yMem} {Post : Option yV → yMem → Prop} {st : List yV} {r0 r1 r2 r3 r4 r5 r7 : Option yV} {x w : Int} : zgo E n zc_167 d xm_167 73 [r0, r1, r2, r3, r4, r5, some (1, w), r7] ((0, x) :: st) mem Post = (zvc E n zc_167 d xm_167 75 [r0, r1, r2, r3, r4, r5, some (1, w), some (0, x)] (st) mem Post) := zrf rfl
theorem g_167_73j {E : yE} {n d : Nat} {mem : yMem} {Post : Option yV → yMem → Prop} {st : List yV} {r0 r1 r2 r3 r4 r5 r6 r7 : Option yV} {x : Int} : zgo E n zc_167 d xm_167 73 [r0, r1, r2, r3, r4, r5, r6, r7] ((0, x) :: st) mem Post = (zvc E n zc_167 d xm_167 75 [r0, r1, r2, r3, r4, r5, znl r6, some (0, x)] (st) mem Post) := zrf rfl
theorem k_167_73 {E : yE} {n d : Nat} {mem : yMem} {Post : Option yV → yMem → Prop} {st : List yV} {rg : zR} : zvc E (n + 1) zc_167 d xm_167 73 rg st mem Post = zG E d xm_167 73 rg st mem Post := zrf rfl
theorem s_167_75 {E : yE} {n d : Nat} {mem : yMem} {Post : Option yV → yMem → Prop} {st : List yV} {r1 r2 r3 r4 r5 r6 r7 : Option yV} {x : Int} : zvc E (n + 1) zc_167 d xm_167 75 [some (1, x), r1, r2, r3, r4, r5, r6, r7] (st) mem Post = (zvc E n zc_167 d xm_167 76 [some (1, x), r1, r2, r3, r4, r5, r6, r7] ((1, x) :: st) mem Post) := zrf rfl
theorem s_167_76 {E : yE} {n d : Nat} {mem : yMem} {Post : Option yV → yMem → Prop} {st : List yV} {r0 r1 r2 r3 r4 r5 r6 r7 : Option yV} : zvc E (n + 1) zc_167 d xm_167 76 [r0, r1, r2, r3, r4, r5, r6, r7] ((1, 95) :: st) mem Post = (zvc E n zc_167 d xm_167 79 [r0, r1, r2, r3, r4, r5, r6, r7] ((1, 96) :: st) mem Post) := zrf rfl
theorem s_167_79 {E : yE} {n d : Nat} {mem : yMem} {Post : Option yV → yMem → Prop} {st : List yV} {r1 r2 r3 r4 r5 r6 r7 : Option yV} {x : Int} : zvc E (n + 1) zc_167 d xm_167 79 [some (1, x), r1, r2, r3, r4, r5, r6, r7] (st) mem Post = (zvc E n zc_167 d xm_167 80 [some (1, x), r1, r2, r3, r4, r5, r6, r7] ((1, x) :: st) mem Post) := zrf rfl
theorem s_167_80 {E : yE} {n d : Nat} {mem : yMem} {Post : Option yV → yMem → Prop} {st : List yV} {r0 r1 r2 r3 r4 r5 r6 r7 : Option yV} : zvc E (n + 1) zc_167 d xm_167 80 [r0, r1, r2, r3, r4, r5, r6, r7] ((1, 95) :: st) mem Post = (zvc E n zc_167 d xm_167 83 [r0, r1, r2, r3, r4, r5, r6, r7] ((0, mem 95 2) :: st) mem Post) := zrf rfl
theorem s_167_83 {E : yE} {n d : Nat} {mem : yMem} {Post : Option yV → yMem → Prop} {st : List yV} {r0 r1 r2 r3 r4 r5 r7 : Option yV} {x : Int} : zvc E (n + 1) zc_167 d xm_167 83 [r0, r1, r2, r3, r4, r5, some (0, x), r7] (st) mem Post = (zvc E n zc_167 d xm_167 85 [r0, r1, r2, r3, r4, r5, some (0, x), r7] ((0, x) :: st) mem Post) := zrf rfl
theorem s_167_85 {E : yE} {n d : Nat} {mem : yMem} {Post : Option yV → yMem → Prop} {st : List yV} {r0 r1 r2 r3 r4 r5 r6 r7 : Option yV} {x y : Int} : zvc E (n + 1) zc_167 d xm_167 85 [r0, r1, r2, r3, r4, r5, r6, r7] ((0, y) :: (0, x) :: st) mem Post = (zvc E n zc_167 d xm_167 86 [r0, r1, r2, r3, r4, r5, r6, r7] ((0, x + y) :: st) mem Post) := zrf rfl
theorem s_167_86 {E : yE} {n d : Nat} {mem : yMem} {Post : Option yV → yMem → Prop} {st : List yV} {r0 r1 r2 r3 r4 r5 r6 : Option yV} {x : Int} : zvc E (n + 1) zc_167 d xm_167 86 [r0, r1, r2, r3, r4, r5, r6, some (0, x)] (st) mem Post = (zvc E n zc_167 d xm_167 88 [r0, r1, r2, r3, r4, r5, r6, some (0, x)] ((0, x) :: st) mem Post) := zrf rfl
theorem s_167_88 {E : yE} {n d : Nat} {mem : yMem} {Post : Option yV → yMem → Prop} {st : List yV} {r0 r1 r2 r3 r4 r5 r6 r7 : Option yV} : zvc E (n + 1) zc_167 d xm_167 88 [r0, r1, r2, r3, r4, r5, r6, r7] (st) mem Post = (zvc E n zc_167 d xm_167 90 [r0, r1, r2, r3, r4, r5, r6, r7] ((0, 24) :: st) mem Post) := zrf rfl
theorem s_167_90 {E : yE} {n d : Nat} {mem : yMem} {Post : Option yV → yMem → Prop} {st : List yV} {r0 r1 r2 r3 r4 r5 r6 r7 : Option yV} : zvc E (n + 1) zc_167 d xm_167 90 [r0, r1, r2, r3, r4, r5, r6, r7] (st) mem Post = (zvc E n zc_167 d xm_167 92 [r0, r1, r2, r3, r4, r5, r6, r7] ((0, 8) :: st) mem Post) := zrf rfl
theorem s_167_92 {E : yE} {n d : Nat} {mem : yMem} {Post : Option yV → yMem → Prop} {st : List yV} {r0 r1 r2 r3 r4 r5 r7 : Option yV} {x : Int} : zvc E (n + 1) zc_167 d xm_167 92 [r0, r1, r2, r3, r4, r5, some (0, x), r7] (st) mem Post = (zvc E n zc_167 d xm_167 94 [r0, r1, r2, r3, r4, r5, some (0, x), r7] ((0, x) :: st) mem Post) := zrf rfl
theorem s_167_94 {E : yE} {n d : Nat} {mem : yMem} {Post : Option yV → yMem → Prop} {st : List yV} {r0 r1 r2 r3 r4 r5 r6 r7 : Option yV} : zvc E (n + 1) zc_167 d xm_167 94 [r0, r1, r2, r3, r4, r5, r6, r7] (st) mem Post = (zvc E n zc_167 d xm_167 95 [r0, r1, r2, r3, r4, r5, r6, r7] ((0, 4) :: st) mem Post) := zrf rfl
theorem s_167_95 {E : yE} {n d : Nat} {mem : yMem} {Post : Option yV → yMem → Prop} {st : List yV} {r0 r1 r2 r3 r4 r5 r6 r7 : Option yV} {x y : Int} : zvc E (n + 1) zc_167 d xm_167 95 [r0, r1, r2, r3, r4, r5, r6, r7] ((0, y) :: (0, x) :: st) mem Post = (¬ w32 y = 0 ∧ zvc E n zc_167 d xm_167 96 [r0, r1, r2, r3, r4, r5, r6, r7] ((0, ybin 10 x y) :: st) mem Post) := zrf rfl
theorem s_167_96 {E : yE} {n d : Nat} {mem : yMem} {Post : Option yV → yMem → Prop} {st : List yV} {r0 r1 r2 r3 r4 r5 r6 r7 : Option yV} {x y : Int} : zvc E (n + 1) zc_167 d xm_167 96 [r0, r1, r2, r3, r4, r5, r6, r7] ((0, y) :: (0, x) :: st) mem Post = (zvc E n zc_167 d xm_167 97 [r0, r1, r2, r3, r4, r5, r6, r7] ((0, x * y) :: st) mem Post) := zrf rfl
theorem s_167_97 {E : yE} {n d : Nat} {mem : yMem} {Post : Option yV → yMem → Prop} {st : List yV} {r0 r1 r2 r3 r4 r5 r6 r7 : Option yV} {x y : Int} : zvc E (n + 1) zc_167 d xm_167 97 [r0, r1, r2, r3, r4, r5, r6, r7] ((0, y) :: (0, x) :: st) mem Post = (zvc E n zc_167 d xm_167 98 [r0, r1, r2, r3, r4, r5, r6, r7] ((0, x - y) :: st) mem Post) := zrf rfl
theorem s_167_98 {E : yE} {n d : Nat} {mem : yMem} {Post : Option yV → yMem → Prop} {st : List yV} {r0 r1 r2 r3 r4 r5 r6 r7 : Option yV} {x y : Int} : zvc E (n + 1) zc_167 d xm_167 98 [r0, r1, r2, r3, r4, r5, r6, r7] ((0, y) :: (0, x) :: st) mem Post = (zvc E n zc_167 d xm_167 99 [r0, r1, r2, r3, r4, r5, r6, r7] ((0, ybin 7 x y) :: st) mem Post) := zrf rfl
theorem s_167_99 {E : yE} {n d : Nat} {mem : yMem} {Post : Option yV → yMem → Prop} {st : List yV} {r0 r1 r2 r3 r4 r5 r6 r7 : Option yV} : zvc E (n + 1) zc_167 d xm_167 99 [r0, r1, r2, r3, r4, r5, r6, r7] (st) mem Post = (zvc E n zc_167 d xm_167 102 [r0, r1, r2, r3, r4, r5, r6, r7] ((0, 255) :: st) mem Post) := zrf rfl
theorem s_167_102 {E : yE} {n d : Nat} {mem : yMem} {Post : Option yV → yMem → Prop} {st : List yV} {r0 r1 r2 r3 r4 r5 r6 r7 : Option yV} {x y : Int} : zvc E (n + 1) zc_167 d xm_167 102 [r0, r1, r2, r3, r4, r5, r6, r7] ((0, y) :: (0, x) :: st) mem Post = (zvc E n zc_167 d xm_167 103 [r0, r1, r2, r3, r4, r5, r6, r7] ((0, ybin 3 x y) :: st) mem Post) := zrf rfl
theorem s_167_103 {E : yE} {n d : Nat} {mem : yMem} {Post : Option yV → yMem → Prop} {st : List yV} {r0 r1 r2 r3 r4 r5 r6 r7 : Option yV} {x z j : Int} : zvc E (n + 1) zc_167 d xm_167 103 [r0, r1, r2, r3, r4, r5, r6, r7] ((0, x) :: (0, j) :: (1, z) :: st) mem Post = ((0 ≤ w32 j ∧ w32 j < ((zar z 0 : Nat) : Int)) ∧ zvc E n zc_167 d xm_167 104 [r0, r1, r2, r3, r4, r5, r6, r7] (st) (yset mem z.toNat (w32 j).toNat x) Post) := zrf rfl
theorem s_167_104n {E : yE} {n d : Nat} {mem : yMem} {Post : Option yV → yMem → Prop} {st : List yV} {r0 r1 r2 r3 r4 r7 : Option yV} {x : Int} : zvc E (n + 1) zc_167 d xm_167 104 [r0, r1, r2, r3, r4, none, some (0, x), r7] (st) mem Post = (zvc E n zc_167 d xm_167 107 [r0, r1, r2, r3, r4, none, some (0, x + 1), r7] (st) mem Post) := zrf rfl
theorem s_167_104i {E : yE} {n d : Nat} {mem : yMem} {Post : Option yV → yMem → Prop} {st : List yV} {r0 r1 r2 r3 r4 r7 : Option yV} {x w : Int} : zvc E (n + 1) zc_167 d xm_167 104 [r0, r1, r2, r3, r4, some (0, w), some (0, x), r7] (st) mem Post = (zvc E n zc_167 d xm_167 107 [r0, r1, r2, r3, r4, some (0, w), some (0, x + 1), r7] (st) mem Post) := zrf rfl
theorem s_167_104p {E : yE} {n d : Nat} {mem : yMem} {Post : Option yV → yMem → Prop} {st : List yV} {r0 r1 r2 r3 r4 r7 : Option yV} {x w : Int} : zvc E (n + 1) zc_167 d xm_167 104 [r0, r1, r2, r3, r4, some (1, w), some (0, x), r7] (st) mem Post = (zvc E n zc_167 d xm_167 107 [r0, r1, r2, r3, r4, some (1, w), some (0, x + 1), r7] (st) mem Post) := zrf rfl
theorem s_167_104j {E : yE} {n d : Nat} {mem : yMem} {Post : Option yV → yMem → Prop} {st : List yV} {r0 r1 r2 r3 r4 r5 r7 : Option yV} {x : Int} : zvc E (n + 1) zc_167 d xm_167 104 [r0, r1, r2, r3, r4, r5, some (0, x), r7] (st) mem Post = (zvc E n zc_167 d xm_167 107 [r0, r1, r2, r3, r4, znl r5, some (0, x + 1), r7] (st) mem Post) := zrf rfl
theorem s_167_107 {E : yE} {n d : Nat} {mem : yMem} {Post : Option yV → yMem → Prop} {st : List yV} {r0 r1 r2 r3 r4 r5 r6 r7 : Option yV} : zvc E (n + 1) zc_167 d xm_167 107 [r0, r1, r2, r3, r4, r5, r6, r7] (st) mem Post = (zvc E n zc_167 d xm_167 20 [r0, r1, r2, r3, r4, r5, r6, r7] (st) mem Post) := zrf rfl
theorem s_167_110 {E : yE} {n d : Nat} {mem : yMem} {Post : Option yV → yMem → Prop} {st : List yV} {r1 r2 r3 r4 r5 r6 r7 : Option yV} {x : Int} : zvc E (n + 1) zc_167 d xm_167 110 [some (1, x), r1, r2, r3, r4, r5, r6, r7] (st) mem Post = (zvc E n zc_167 d xm_167 111 [some (1, x), r1, r2, r3, r4, r5, r6, r7] ((1, x) :: st) mem Post) := zrf rfl
theorem s_167_111a {E : yE} {n d : Nat} {mem : yMem} {Post : Option yV → yMem → Prop} {st : List yV} {r0 r1 r2 r3 r4 r5 r6 r7 : Option yV} {x : Int} : zvc E (n + 1) zc_167 d xm_167 111 [r0, r1, r2, r3, r4, r5, r6, r7] ((0, x) :: st) mem Post = (zvc E n zc_167 d xm_167 112 [r0, r1, r2, r3, r4, r5, r6, r7] ((0, x) :: (0, x) :: st) mem Post) := zrf rfl
theorem s_167_111b {E : yE} {n d : Nat} {mem : yMem} {Post : Option yV → yMem → Prop} {st : List yV} {r0 r1 r2 r3 r4 r5 r6 r7 : Option yV} {x : Int} : zvc E (n + 1) zc_167 d xm_167 111 [r0, r1, r2, r3, r4, r5, r6, r7] ((1, x) :: st) mem Post = (zvc E n zc_167 d xm_167 112 [r0, r1, r2, r3, r4, r5, r6, r7] ((1, x) :: (1, x) :: st) mem Post) := zrf rfl
theorem s_167_112 {E : yE} {n d : Nat} {mem : yMem} {Post : Option yV → yMem → Prop} {st : List yV} {r0 r1 r2 r3 r4 r5 r6 r7 : Option yV} : zvc E (n + 1) zc_167 d xm_167 112 [r0, r1, r2, r3, r4, r5, r6, r7] ((1, 95) :: st) mem Post = (zvc E n zc_167 d xm_167 115 [r0, r1, r2, r3, r4, r5, r6, r7] ((0, mem 95 2) :: st) mem Post) := zrf rfl
theorem s_167_115 {E : yE} {n d : Nat} {mem : yMem} {Post : Option yV → yMem → Prop} {st : List yV} {r0 r1 r2 r3 r4 r5 r6 r7 : Option yV} : zvc E (n + 1) zc_167 d xm_167 115 [r0, r1, r2, r3, r4, r5, r6, r7] (st) mem Post = (zvc E n zc_167 d xm_167 117 [r0, r1, r2, r3, r4, r5, r6, r7] ((0, 20) :: st) mem Post) := zrf rfl
theorem s_167_117 {E : yE} {n d : Nat} {mem : yMem} {Post : Option yV → yMem → Prop} {st : List yV} {r0 r1 r2 r3 r4 r5 r6 r7 : Option yV} {x y : Int} : zvc E (n + 1) zc_167 d xm_167 117 [r0, r1, r2, r3, r4, r5, r6, r7] ((0, y) :: (0, x) :: st) mem Post = (zvc E n zc_167 d xm_167 118 [r0, r1, r2, r3, r4, r5, r6, r7] ((0, x + y) :: st) mem Post) := zrf rfl
theorem s_167_118 {E : yE} {n d : Nat} {mem : yMem} {Post : Option yV → yMem → Prop} {st : List yV} {r0 r1 r2 r3 r4 r5 r6 r7 : Option yV} {x : Int} : zvc E (n + 1) zc_167 d xm_167 118 [r0, r1, r2, r3, r4, r5, r6, r7] ((0, x) :: (1, 95) :: st) mem Post = (zvc E n zc_167 d xm_167 121 [r0, r1, r2, r3, r4, r5, r6, r7] (st) (yset mem 95 2 x) Post) := zrf rfl
theorem s_167_121 {E : yE} {n d : Nat} {mem : yMem} {Post : Option yV → yMem → Prop} {st : List yV} {r1 r2 r3 r4 r5 r6 r7 : Option yV} {x : Int} : zvc E (n + 1) zc_167 d xm_167 121 [some (1, x), r1, r2, r3, r4, r5, r6, r7] (st) mem Post = (zvc E n zc_167 d xm_167 122 [some (1, x), r1, r2, r3, r4, r5, r6, r7] ((1, x) :: st) mem Post) := zrf rfl
theorem s_167_122 {E : yE} {n d : Nat} {mem : yMem} {Post : Option yV → yMem → Prop} {st : List yV} {r0 r1 r2 r3 r4 r5 r6 r7 : Option yV} : zvc E (n + 1) zc_167 d xm_167 122 [r0, r1, r2, r3, r4, r5, r6, r7] ((1, 95) :: st) mem Post = (zvc E n zc_167 d xm_167 125 [r0, r1, r2, r3, r4, r5, r6, r7] ((0, mem 95 2) :: st) mem Post) := zrf rfl
theorem s_167_125 {E : yE} {n d : Nat} {mem : yMem} {Post : Option yV → yMem → Prop} {r0 r1 r2 r3 r4 r5 r6 r7 : Option yV} {x : Int} : zvc E (n + 1) zc_167 d xm_167 125 [r0, r1, r2, r3, r4, r5, r6, r7] ([(0, x)]) mem Post = (Post (some (0, x)) mem) := zrf rfl
theorem e_39 {E : yE} {d : Nat} {mem : yMem} {Q : Option yV → yMem → Prop} {z a0 : Int} (h : zG E d xm_39 0 [some (1, z), some (0, a0), none] [] mem Q) : yCon E (d + 1) xm_39 [(1, z), (0, a0)] mem Q := zcon_of xmo_39 (Nat.le_of_ble_eq_true rfl) h
theorem e_14 {E : yE} {d : Nat} {mem : yMem} {Q : Option yV → yMem → Prop} {z a0 a1 a2 a3 a4 : Int} (h : zG E d xm_14 0 [some (1, z), some (0, a0), some (0, a1), some (0, a2), some (0, a3), some (0, a4)] [] mem Q) : yCon E (d + 1) xm_14 [(1, z), (0, a0), (0, a1), (0, a2), (0, a3), (0, a4)] mem Q := zcon_of xmo_14 (Nat.le_of_ble_eq_true rfl) h
theorem e_167 {E : yE} {d : Nat} {mem : yMem} {Q : Option yV → yMem → Prop} {z a0 a1 a2 a3 a4 : Int} (h : zG E d xm_167 0 [some (1, z), some (0, a0), some (0, a1), some (0, a2), some (0, a3), some (0, a4), none, none] [] mem Q) : yCon E (d + 1) xm_167 [(1, z), (0, a0), (0, a1), (0, a2), (0, a3), (0, a4)] mem Q := zcon_of xmo_167 (Nat.le_of_ble_eq_true rfl) h

theorem i8_b (x : Int) : -128 ≤ w32 ((iI x).toInt8.toInt32.toInt) ∧ w32 ((iI x).toInt8.toInt32.toInt) ≤ 127 := by
  have e : w32 ((iI x).toInt8.toInt32.toInt) = (iI x).toInt8.toInt := by
    show (Int32.ofInt ((iI x).toInt8.toInt32.toInt)).toInt = _
    rw [Int32.ofInt_toInt, Int8.toInt_toInt32]
  have h1 := Int8.le_toInt (iI x).toInt8
  have h2 := Int8.toInt_lt (iI x).toInt8
  rw [e]
  omega
/-- so many bytes more -/
def TnQ (mem : yMem) (k : Int) (m : yMem) : Prop := aGok m ∧ (∀ i j, i ≠ 1 → (i ≠ 0 ∨ j ≠ 11) → m i j = mem i j) ∧ w32 (m 0 11) = w32 (mem 0 11) + k
theorem TnQ_tr {a b c : yMem} {k l : Int} (h1 : TnQ a k b) (h2 : TnQ b l c) : TnQ a (k + l) c := ⟨h2.1, fun i j h h' => by rw [h2.2.1 i j h h']; exact h1.2.1 i j h h', by rw [h2.2.2, h1.2.2]; omega⟩
/-- feed of the class -/
def FxQ (mem : yMem) (r : Int) (m : yMem) : Prop := aGok m ∧ (∀ i j, 95 ≤ i → m i j = mem i j) ∧ (if w32 (mem 0 11) ≤ 780 then w32 r = w32 (mem 0 11) + 20 ∧ w32 (m 0 11) = w32 (mem 0 11) + 20 else w32 r = -1 ∧ w32 (m 0 11) = w32 (mem 0 11))
/-- feed of the reference -/
def FrQ (mem : yMem) (r : Int) (m : yMem) : Prop := aGok m ∧ (∀ i j, i ≠ 95 → i ≠ 96 → m i j = mem i j) ∧ (if w32 (mem 95 2) ≤ 780 then w32 r = w32 (mem 95 2) + 20 ∧ w32 (m 95 2) = w32 (mem 95 2) + 20 else w32 r = -1 ∧ w32 (m 95 2) = w32 (mem 95 2))
theorem and255 (x : Int) : 0 ≤ w32 (ybin 3 x 255) ∧ w32 (ybin 3 x 255) ≤ 255 := by
  obtain ⟨j, hj, ej⟩ := pk_andE (iI x) (m := nI 255) 8 (by decide)
  have e : ybin 3 x 255 = (iI x &&& nI 255).toInt := by
    show (fbin 3 (iI x) (iI 255)).toInt = _
    rw [show iI 255 = nI 255 from iI_n 255]
    rfl
  have e2 : w32 ((nI j).toInt) = (j : Int) := by
    show (Int32.ofInt (nI j).toInt).toInt = _
    rw [Int32.ofInt_toInt, ← iI_n]
    exact w32_of (by omega) (by omega)
  rw [e, ej, e2]
  omega
end
section
theorem dX11_look_0 : decode cX11_look 0 = .ok (.aload_n 0, 1) := by decide +kernel
theorem dX11_look_1 : decode cX11_look 1 = .ok (.getfield 16, 3) := by decide +kernel
theorem dX11_look_4 : decode cX11_look 4 = .ok (.getfield 136, 3) := by decide +kernel
theorem dX11_look_7 : decode cX11_look 7 = .ok (.iload_n 1, 1) := by decide +kernel
theorem dX11_look_8 : decode cX11_look 8 = .ok (.invokevirtual 145, 3) := by decide +kernel
theorem dX11_look_11 : decode cX11_look 11 = .ok (.ifCond .ne 13, 3) := by decide +kernel
theorem dX11_look_24 : decode cX11_look 24 = .ok (.iload_n 2, 1) := by decide +kernel
theorem dX11_look_25 : decode cX11_look 25 = .ok (.tableswitch 121 0 5 #[39, 49, 59, 69, 79, 89], 39) := by decide +kernel
theorem dX11_look_64 : decode cX11_look 64 = .ok (.aload_n 0, 1) := by decide +kernel
theorem dX11_look_65 : decode cX11_look 65 = .ok (.getfield 16, 3) := by decide +kernel
theorem dX11_look_68 : decode cX11_look 68 = .ok (.getfield 156, 3) := by decide +kernel
theorem dX11_look_71 : decode cX11_look 71 = .ok (.iload_n 1, 1) := by decide +kernel
theorem dX11_look_72 : decode cX11_look 72 = .ok (.iaload, 1) := by decide +kernel
theorem dX11_look_73 : decode cX11_look 73 = .ok (.ireturn, 1) := by decide +kernel
theorem dX11_look_74 : decode cX11_look 74 = .ok (.aload_n 0, 1) := by decide +kernel
theorem dX11_look_75 : decode cX11_look 75 = .ok (.getfield 16, 3) := by decide +kernel
theorem dX11_look_78 : decode cX11_look 78 = .ok (.getfield 160, 3) := by decide +kernel
theorem dX11_look_81 : decode cX11_look 81 = .ok (.iload_n 1, 1) := by decide +kernel
theorem dX11_look_82 : decode cX11_look 82 = .ok (.iaload, 1) := by decide +kernel
theorem dX11_look_83 : decode cX11_look 83 = .ok (.ireturn, 1) := by decide +kernel
theorem dX11_look_84 : decode cX11_look 84 = .ok (.aload_n 0, 1) := by decide +kernel
theorem dX11_look_85 : decode cX11_look 85 = .ok (.getfield 16, 3) := by decide +kernel
theorem dX11_look_88 : decode cX11_look 88 = .ok (.getfield 163, 3) := by decide +kernel
theorem dX11_look_91 : decode cX11_look 91 = .ok (.iload_n 1, 1) := by decide +kernel
theorem dX11_look_92 : decode cX11_look 92 = .ok (.iaload, 1) := by decide +kernel
theorem dX11_look_93 : decode cX11_look 93 = .ok (.ireturn, 1) := by decide +kernel
theorem dX11_look_94 : decode cX11_look 94 = .ok (.aload_n 0, 1) := by decide +kernel
theorem dX11_look_95 : decode cX11_look 95 = .ok (.getfield 16, 3) := by decide +kernel
theorem dX11_look_98 : decode cX11_look 98 = .ok (.getfield 166, 3) := by decide +kernel
theorem dX11_look_101 : decode cX11_look 101 = .ok (.iload_n 1, 1) := by decide +kernel
theorem dX11_look_102 : decode cX11_look 102 = .ok (.iaload, 1) := by decide +kernel
theorem dX11_look_103 : decode cX11_look 103 = .ok (.ireturn, 1) := by decide +kernel
theorem dX11_look_104 : decode cX11_look 104 = .ok (.aload_n 0, 1) := by decide +kernel
theorem dX11_look_105 : decode cX11_look 105 = .ok (.getfield 40, 3) := by decide +kernel
theorem dX11_look_108 : decode cX11_look 108 = .ok (.getfield 169, 3) := by decide +kernel
theorem dX11_look_111 : decode cX11_look 111 = .ok (.iload_n 1, 1) := by decide +kernel
theorem dX11_look_112 : decode cX11_look 112 = .ok (.iaload, 1) := by decide +kernel
theorem dX11_look_113 : decode cX11_look 113 = .ok (.ireturn, 1) := by decide +kernel
theorem dX11_look_114 : decode cX11_look 114 = .ok (.aload_n 0, 1) := by decide +kernel
theorem dX11_look_115 : decode cX11_look 115 = .ok (.getfield 40, 3) := by decide +kernel
theorem dX11_look_118 : decode cX11_look 118 = .ok (.iload_n 1, 1) := by decide +kernel
theorem dX11_look_119 : decode cX11_look 119 = .ok (.invokevirtual 172, 3) := by decide +kernel
theorem dX11_look_122 : decode cX11_look 122 = .ok (.ifCond .eq 7, 3) := by decide +kernel
theorem dX11_look_125 : decode cX11_look 125 = .ok (.iconst 2, 1) := by decide +kernel
theorem dX11_look_126 : decode cX11_look 126 = .ok (.goto 19, 3) := by decide +kernel
theorem dX11_look_129 : decode cX11_look 129 = .ok (.aload_n 0, 1) := by decide +kernel
theorem dX11_look_130 : decode cX11_look 130 = .ok (.getfield 16, 3) := by decide +kernel
theorem dX11_look_133 : decode cX11_look 133 = .ok (.iload_n 1, 1) := by decide +kernel
theorem dX11_look_134 : decode cX11_look 134 = .ok (.invokevirtual 175, 3) := by decide +kernel
theorem dX11_look_137 : decode cX11_look 137 = .ok (.ifCond .eq 7, 3) := by decide +kernel
theorem dX11_look_140 : decode cX11_look 140 = .ok (.iconst 1, 1) := by decide +kernel
theorem dX11_look_141 : decode cX11_look 141 = .ok (.goto 4, 3) := by decide +kernel
theorem dX11_look_144 : decode cX11_look 144 = .ok (.iconst 0, 1) := by decide +kernel
theorem dX11_look_145 : decode cX11_look 145 = .ok (.ireturn, 1) := by decide +kernel
theorem dX11_look_14 : decode cX11_look 14 = .ok (.new 149, 3) := by decide +kernel
theorem dX11_look_17 : decode cX11_look 17 = .ok (.dup, 1) := by decide +kernel
theorem dX11_look_18 : decode cX11_look 18 = .ok (.ldc 151, 2) := by decide +kernel
theorem dX11_look_20 : decode cX11_look 20 = .ok (.invokespecial 153, 3) := by decide +kernel
theorem dX11_look_23 : decode cX11_look 23 = .ok (.athrow, 1) := by decide +kernel
theorem dX11_look_146 : decode cX11_look 146 = .ok (.new 178, 3) := by decide +kernel
theorem dX11_look_149 : decode cX11_look 149 = .ok (.dup, 1) := by decide +kernel
theorem dX11_look_150 : decode cX11_look 150 = .ok (.ldc 180, 2) := by decide +kernel
theorem dX11_look_152 : decode cX11_look 152 = .ok (.invokespecial 182, 3) := by decide +kernel
theorem dX11_look_155 : decode cX11_look 155 = .ok (.athrow, 1) := by decide +kernel
theorem dL_look_8 : decode cL_look 8 = .ok (.i2l, 1) := by decide +kernel
theorem dL_look_9 : decode cL_look 9 = .ok (.lastore, 1) := by decide +kernel
theorem dL_look_10 : decode cL_look 10 = .ok (.goto 11, 3) := by decide +kernel
theorem dL_look_21 : decode cL_look 21 = .ok (.iconst 0, 1) := by decide +kernel
theorem dL_look_22 : decode cL_look 22 = .ok (.ireturn, 1) := by decide +kernel
theorem dL_look_0 : decode cL_look 0 = .ok (.aload_n 3, 1) := by decide +kernel
theorem dL_look_1 : decode cL_look 1 = .ok (.iconst 0, 1) := by decide +kernel
theorem dL_look_2 : decode cL_look 2 = .ok (.aload_n 0, 1) := by decide +kernel
theorem dL_look_3 : decode cL_look 3 = .ok (.iload_n 1, 1) := by decide +kernel
theorem dL_look_4 : decode cL_look 4 = .ok (.iload_n 2, 1) := by decide +kernel
theorem dL_look_5 : decode cL_look 5 = .ok (.invokevirtual 7, 3) := by decide +kernel
theorem dL_look_13 : decode cL_look 13 = .ok (.astore 4, 2) := by decide +kernel
theorem dL_look_15 : decode cL_look 15 = .ok (.iconst 1, 1) := by decide +kernel
theorem dL_look_16 : decode cL_look 16 = .ok (.ireturn, 1) := by decide +kernel
theorem dL_look_17 : decode cL_look 17 = .ok (.astore 4, 2) := by decide +kernel
theorem dL_look_19 : decode cL_look 19 = .ok (.iconst 2, 1) := by decide +kernel
theorem dL_look_20 : decode cL_look 20 = .ok (.ireturn, 1) := by decide +kernel
theorem xu_0 : Cond.fieldLink RX11 156 (TX4 6).1 (TX4 6).2.1 (TX4 6).2.2.1 ∈ xgt := xwm 248 (by decide +kernel) (by decide +kernel)
theorem xu_1 : Cond.fieldLink RX11 160 (TX4 7).1 (TX4 7).2.1 (TX4 7).2.2.1 ∈ xgt := xwm 252 (by decide +kernel) (by decide +kernel)
theorem xu_2 : Cond.fieldLink RX11 166 (TX4 9).1 (TX4 9).2.1 (TX4 9).2.2.1 ∈ xgt := xwm 260 (by decide +kernel) (by decide +kernel)
def xk_LK : List (Nat × xOp) := [(0, (2, 1, 1, 0, [])), (1, (16, 4, 11, 1, [])), (4, (16, 7, 4, 1, [])), (7, (2, 8, 0, 1, [])), (8, (28, 11, 103, 6, [])), (11, (12, 14, 24, 1, [])), (24, (2, 25, 0, 2, [])), (25, (15, 0, 146, 0, [(0, 64), (1, 74), (2, 84), (3, 94), (4, 104), (5, 114)])), (64, (2, 65, 1, 0, [])), (65, (16, 68, 11, 1, [])), (68, (16, 71, 4, 6, [])), (71, (2, 72, 0, 1, [])), (72, (19, 73, 0, 0, [])), (73, (30, 74, 0, 0, [])), (74, (2, 75, 1, 0, [])), (75, (16, 78, 11, 1, [])), (78, (16, 81, 4, 7, [])), (81, (2, 82, 0, 1, [])), (82, (19, 83, 0, 0, [])), (83, (30, 84, 0, 0, [])), (84, (2, 85, 1, 0, [])), (85, (16, 88, 11, 1, [])), (88, (16, 91, 4, 8, [])), (91, (2, 92, 0, 1, [])), (92, (19, 93, 0, 0, [])), (93, (30, 94, 0, 0, [])), (94, (2, 95, 1, 0, [])), (95, (16, 98, 11, 1, [])), (98, (16, 101, 4, 9, [])), (101, (2, 102, 0, 1, [])), (102, (19, 103, 0, 0, [])), (103, (30, 104, 0, 0, [])), (104, (2, 105, 1, 0, [])), (105, (16, 108, 11, 4, [])), (108, (16, 111, 10, 1, [])), (111, (2, 112, 0, 1, [])), (112, (19, 113, 0, 0, [])), (113, (30, 114, 0, 0, [])), (114, (2, 115, 1, 0, [])), (115, (16, 118, 11, 4, [])), (118, (2, 119, 0, 1, [])), (119, (28, 122, 139, 10, [])), (122, (12, 125, 129, 0, [])), (125, (0, 126, 2, 0, [])), (126, (14, 145, 0, 0, [])), (129, (2, 130, 1, 0, [])), (130, (16, 133, 11, 1, [])), (133, (2, 134, 0, 1, [])), (134, (28, 137, 81, 4, [])), (137, (12, 140, 144, 0, [])), (140, (0, 141, 1, 0, [])), (141, (14, 145, 0, 0, [])), (144, (0, 145, 0, 0, [])), (145, (30, 146, 0, 0, []))]
def xm_LK : xM := (yX11_look, cX11_look, 3, some .int, 2, RX11, room_1, xk_LK)
set_option maxRecDepth 100000 in
set_option maxHeartbeats 4000000 in
theorem xo_LK : ∀ q ∈ xk_LK, xok xmt xm_LK q.1 q.2 := by
  refine xcns ?_ <| xcns ?_ <| xcns ?_ <| xcns ?_ <| xcns ?_ <| xcns ?_ <| xcns ?_ <| xcns ?_ <| xcns ?_ <| xcns ?_ <| xcns ?_ <| xcns ?_ <| xcns ?_ <| xcns ?_ <| xcns ?_ <| xcns ?_ <| xcns ?_ <| xcns ?_ <| xcns ?_ <| xcns ?_ <| xcns ?_ <| xcns ?_ <| xcns ?_ <| xcns ?_ <| xcns ?_ <| xcns ?_ <| xcns ?_ <| xcns ?_ <| xcns ?_ <| xcns ?_ <| xcns ?_ <| xcns ?_ <| xcns ?_ <| xcns ?_ <| xcns ?_ <| xcns ?_ <| xcns ?_ <| xcns ?_ <| xcns ?_ <| xcns ?_ <| xcns ?_ <| xcns ?_ <| xcns ?_ <| xcns ?_ <| xcns ?_ <| xcns ?_ <| xcns ?_ <| xcns ?_ <| xcns ?_ <| xcns ?_ <| xcns ?_ <| xcns ?_ <| xcns ?_ <| xcns ?_ <| xnl
  · exact (⟨by decide, xr_aloadn dX11_look_0 rfl⟩)
  · exact (xr_getf dX11_look_1 (show vwCl[11]? = some (RX11, TX11, 15) from rfl) (by decide) xin_X11 xw_8)
  · exact (xr_getf dX11_look_4 (show vwCl[4]? = some (RX4, TX4, 19) from rfl) (by decide) xin_X4 xw_107)
  · exact (⟨by decide, xr_iloadn dX11_look_7 rfl⟩)
  · exact (⟨rfl, _, rfl, ⟨145, dX11_look_8, xw_74, xw_72, xw_73⟩, _, rfl, rfl⟩)
  · exact (xr_ifne dX11_look_11 (by decide))
  · exact (⟨by decide, xr_iloadn dX11_look_24 rfl⟩)
  · exact (xr_table dX11_look_25 (by decide) (by decide) (by decide))
  · exact (⟨by decide, xr_aloadn dX11_look_64 rfl⟩)
  · exact (xr_getf dX11_look_65 (show vwCl[11]? = some (RX11, TX11, 15) from rfl) (by decide) xin_X11 xw_8)
  · exact (xr_getf dX11_look_68 (show vwCl[4]? = some (RX4, TX4, 19) from rfl) (by decide) xin_X4 xu_0)
  · exact (⟨by decide, xr_iloadn dX11_look_71 rfl⟩)
  · exact (⟨by decide, xr_iald dX11_look_72⟩)
  · exact (⟨dX11_look_73, .int, rfl, rfl, Or.inl rfl⟩)
  · exact (⟨by decide, xr_aloadn dX11_look_74 rfl⟩)
  · exact (xr_getf dX11_look_75 (show vwCl[11]? = some (RX11, TX11, 15) from rfl) (by decide) xin_X11 xw_8)
  · exact (xr_getf dX11_look_78 (show vwCl[4]? = some (RX4, TX4, 19) from rfl) (by decide) xin_X4 xu_1)
  · exact (⟨by decide, xr_iloadn dX11_look_81 rfl⟩)
  · exact (⟨by decide, xr_iald dX11_look_82⟩)
  · exact (⟨dX11_look_83, .int, rfl, rfl, Or.inl rfl⟩)
  · exact (⟨by decide, xr_aloadn dX11_look_84 rfl⟩)
  · exact (xr_getf dX11_look_85 (show vwCl[11]? = some (RX11, TX11, 15) from rfl) (by decide) xin_X11 xw_8)
  · exact (xr_getf dX11_look_88 (show vwCl[4]? = some (RX4, TX4, 19) from rfl) (by decide) xin_X4 xw_109)
  · exact (⟨by decide, xr_iloadn dX11_look_91 rfl⟩)
  · exact (⟨by decide, xr_iald dX11_look_92⟩)
  · exact (⟨dX11_look_93, .int, rfl, rfl, Or.inl rfl⟩)
  · exact (⟨by decide, xr_aloadn dX11_look_94 rfl⟩)
  · exact (xr_getf dX11_look_95 (show vwCl[11]? = some (RX11, TX11, 15) from rfl) (by decide) xin_X11 xw_8)
  · exact (xr_getf dX11_look_98 (show vwCl[4]? = some (RX4, TX4, 19) from rfl) (by decide) xin_X4 xu_2)
  · exact (⟨by decide, xr_iloadn dX11_look_101 rfl⟩)
  · exact (⟨by decide, xr_iald dX11_look_102⟩)
  · exact (⟨dX11_look_103, .int, rfl, rfl, Or.inl rfl⟩)
  · exact (⟨by decide, xr_aloadn dX11_look_104 rfl⟩)
  · exact (xr_getf dX11_look_105 (show vwCl[11]? = some (RX11, TX11, 15) from rfl) (by decide) xin_X11 xw_25)
  · exact (xr_getf dX11_look_108 (show vwCl[10]? = some (RX10, TX10, 13) from rfl) (by decide) xin_X10 xw_110)
  · exact (⟨by decide, xr_iloadn dX11_look_111 rfl⟩)
  · exact (⟨by decide, xr_iald dX11_look_112⟩)
  · exact (⟨dX11_look_113, .int, rfl, rfl, Or.inl rfl⟩)
  · exact (⟨by decide, xr_aloadn dX11_look_114 rfl⟩)
  · exact (xr_getf dX11_look_115 (show vwCl[11]? = some (RX11, TX11, 15) from rfl) (by decide) xin_X11 xw_25)
  · exact (⟨by decide, xr_iloadn dX11_look_118 rfl⟩)
  · exact (⟨rfl, _, rfl, ⟨172, dX11_look_119, xw_133, xw_131, xw_132⟩, _, rfl, rfl⟩)
  · exact (xr_ifeq dX11_look_122 (by decide))
  · exact (xr_iconst dX11_look_125 (by decide +kernel))
  · exact (xr_goto dX11_look_126 (by decide))
  · exact (⟨by decide, xr_aloadn dX11_look_129 rfl⟩)
  · exact (xr_getf dX11_look_130 (show vwCl[11]? = some (RX11, TX11, 15) from rfl) (by decide) xin_X11 xw_8)
  · exact (⟨by decide, xr_iloadn dX11_look_133 rfl⟩)
  · exact (⟨rfl, _, rfl, ⟨175, dX11_look_134, xw_130, xw_128, xw_129⟩, _, rfl, rfl⟩)
  · exact (xr_ifeq dX11_look_137 (by decide))
  · exact (xr_iconst dX11_look_140 (by decide +kernel))
  · exact (xr_goto dX11_look_141 (by decide))
  · exact (xr_iconst dX11_look_144 (by decide +kernel))
  · exact (⟨dX11_look_145, .int, rfl, rfl, Or.inl rfl⟩)
def xk_LL : List (Nat × xOp) := [(8, (65, 9, 0, 0, [])), (9, (68, 10, 0, 0, [])), (10, (14, 21, 0, 0, [])), (21, (0, 22, 0, 0, [])), (22, (30, 0, 0, 0, []))]
def xm_LL : xM := (yL_look, cL_look, 5, some .int, 99, RL, room_1, xk_LL)
set_option maxRecDepth 100000 in
set_option maxHeartbeats 4000000 in
theorem xo_LL : ∀ q ∈ xk_LL, xok xmt xm_LL q.1 q.2 := by
  refine xcns ?_ <| xcns ?_ <| xcns ?_ <| xcns ?_ <| xcns ?_ <| xnl
  · exact (fun x => xr_i2l dL_look_8 x)
  · exact (xr_last dL_look_9)
  · exact (xr_goto dL_look_10 (by decide))
  · exact (xr_iconst dL_look_21 (by decide +kernel))
  · exact (⟨dL_look_22, .int, rfl, rfl, Or.inl rfl⟩)
end
section
theorem s_103_0 {E : yE} {n d : Nat} {mem : yMem} {Post : Option yV → yMem → Prop} {st : List yV} {r0 : Option yV} {x : Int} : zvc E (n + 1) [] d xm_103 0 [r0, some (0, x)] (st) mem Post = (zvc E n [] d xm_103 1 [r0, some (0, x)] ((0, x) :: st) mem Post) := zrf rfl
theorem s_103_1 {E : yE} {n d : Nat} {mem : yMem} {Post : Option yV → yMem → Prop} {st : List yV} {r0 r1 : Option yV} {x : Int} : zvc E (n + 1) [] d xm_103 1 [r0, r1] ((0, x) :: st) mem Post = ((w32 x < w32 0 → zvc E n [] d xm_103 16 [r0, r1] (st) mem Post) ∧ (¬ (w32 x < w32 0) → zvc E n [] d xm_103 4 [r0, r1] (st) mem Post)) := zrf rfl
theorem s_103_4 {E : yE} {n d : Nat} {mem : yMem} {Post : Option yV → yMem → Prop} {st : List yV} {r0 : Option yV} {x : Int} : zvc E (n + 1) [] d xm_103 4 [r0, some (0, x)] (st) mem Post = (zvc E n [] d xm_103 5 [r0, some (0, x)] ((0, x) :: st) mem Post) := zrf rfl
theorem s_103_5 {E : yE} {n d : Nat} {mem : yMem} {Post : Option yV → yMem → Prop} {st : List yV} {r1 : Option yV} {x : Int} : zvc E (n + 1) [] d xm_103 5 [some (1, x), r1] (st) mem Post = (zvc E n [] d xm_103 6 [some (1, x), r1] ((1, x) :: st) mem Post) := zrf rfl
theorem s_103_6_3 {E : yE} {n d : Nat} {mem : yMem} {Post : Option yV → yMem → Prop} {st : List yV} {r0 r1 : Option yV} : zvc E (n + 1) [] d xm_103 6 [r0, r1] ((1, 3) :: st) mem Post = (zvc E n [] d xm_103 9 [r0, r1] ((0, mem 3 1) :: st) mem Post) := zrf rfl
theorem s_103_6_5 {E : yE} {n d : Nat} {mem : yMem} {Post : Option yV → yMem → Prop} {st : List yV} {r0 r1 : Option yV} : zvc E (n + 1) [] d xm_103 6 [r0, r1] ((1, 5) :: st) mem Post = (zvc E n [] d xm_103 9 [r0, r1] ((0, mem 5 1) :: st) mem Post) := zrf rfl
theorem s_103_6_7 {E : yE} {n d : Nat} {mem : yMem} {Post : Option yV → yMem → Prop} {st : List yV} {r0 r1 : Option yV} : zvc E (n + 1) [] d xm_103 6 [r0, r1] ((1, 7) :: st) mem Post = (zvc E n [] d xm_103 9 [r0, r1] ((0, mem 7 1) :: st) mem Post) := zrf rfl
theorem s_103_6_9 {E : yE} {n d : Nat} {mem : yMem} {Post : Option yV → yMem → Prop} {st : List yV} {r0 r1 : Option yV} : zvc E (n + 1) [] d xm_103 6 [r0, r1] ((1, 9) :: st) mem Post = (zvc E n [] d xm_103 9 [r0, r1] ((0, mem 9 1) :: st) mem Post) := zrf rfl
theorem s_103_6_29 {E : yE} {n d : Nat} {mem : yMem} {Post : Option yV → yMem → Prop} {st : List yV} {r0 r1 : Option yV} : zvc E (n + 1) [] d xm_103 6 [r0, r1] ((1, 29) :: st) mem Post = (zvc E n [] d xm_103 9 [r0, r1] ((0, mem 29 1) :: st) mem Post) := zrf rfl
theorem s_103_6_31 {E : yE} {n d : Nat} {mem : yMem} {Post : Option yV → yMem → Prop} {st : List yV} {r0 r1 : Option yV} : zvc E (n + 1) [] d xm_103 6 [r0, r1] ((1, 31) :: st) mem Post = (zvc E n [] d xm_103 9 [r0, r1] ((0, mem 31 1) :: st) mem Post) := zrf rfl
theorem s_103_6_33 {E : yE} {n d : Nat} {mem : yMem} {Post : Option yV → yMem → Prop} {st : List yV} {r0 r1 : Option yV} : zvc E (n + 1) [] d xm_103 6 [r0, r1] ((1, 33) :: st) mem Post = (zvc E n [] d xm_103 9 [r0, r1] ((0, mem 33 1) :: st) mem Post) := zrf rfl
theorem s_103_6_35 {E : yE} {n d : Nat} {mem : yMem} {Post : Option yV → yMem → Prop} {st : List yV} {r0 r1 : Option yV} : zvc E (n + 1) [] d xm_103 6 [r0, r1] ((1, 35) :: st) mem Post = (zvc E n [] d xm_103 9 [r0, r1] ((0, mem 35 1) :: st) mem Post) := zrf rfl
theorem s_103_9 {E : yE} {n d : Nat} {mem : yMem} {Post : Option yV → yMem → Prop} {st : List yV} {r0 r1 : Option yV} {x y : Int} : zvc E (n + 1) [] d xm_103 9 [r0, r1] ((0, y) :: (0, x) :: st) mem Post = ((w32 y ≤ w32 x → zvc E n [] d xm_103 16 [r0, r1] (st) mem Post) ∧ (¬ (w32 y ≤ w32 x) → zvc E n [] d xm_103 12 [r0, r1] (st) mem Post)) := zrf rfl
theorem s_103_12 {E : yE} {n d : Nat} {mem : yMem} {Post : Option yV → yMem → Prop} {st : List yV} {r0 r1 : Option yV} : zvc E (n + 1) [] d xm_103 12 [r0, r1] (st) mem Post = (zvc E n [] d xm_103 13 [r0, r1] ((0, 1) :: st) mem Post) := zrf rfl
theorem s_103_13 {E : yE} {n d : Nat} {mem : yMem} {Post : Option yV → yMem → Prop} {st : List yV} {r0 r1 : Option yV} : zvc E (n + 1) [] d xm_103 13 [r0, r1] (st) mem Post = (zvc E n [] d xm_103 17 [r0, r1] (st) mem Post) := zrf rfl
theorem s_103_16 {E : yE} {n d : Nat} {mem : yMem} {Post : Option yV → yMem → Prop} {st : List yV} {r0 r1 : Option yV} : zvc E (n + 1) [] d xm_103 16 [r0, r1] (st) mem Post = (zvc E n [] d xm_103 17 [r0, r1] ((0, 0) :: st) mem Post) := zrf rfl
theorem s_103_17 {E : yE} {n d : Nat} {mem : yMem} {Post : Option yV → yMem → Prop} {r0 r1 : Option yV} {x : Int} : zvc E (n + 1) [] d xm_103 17 [r0, r1] ([(0, x)]) mem Post = ((w32 x = 0 ∨ w32 x = 1) ∧ Post (some (0, x)) mem) := zrf rfl
theorem s_139_0 {E : yE} {n d : Nat} {mem : yMem} {Post : Option yV → yMem → Prop} {st : List yV} {r1 : Option yV} {x : Int} : zvc E (n + 1) [] d xm_139 0 [some (1, x), r1] (st) mem Post = (zvc E n [] d xm_139 1 [some (1, x), r1] ((1, x) :: st) mem Post) := zrf rfl
theorem s_139_1_57 {E : yE} {n d : Nat} {mem : yMem} {Post : Option yV → yMem → Prop} {st : List yV} {r0 r1 : Option yV} : zvc E (n + 1) [] d xm_139 1 [r0, r1] ((1, 57) :: st) mem Post = (zvc E n [] d xm_139 4 [r0, r1] ((0, mem 57 10) :: st) mem Post) := zrf rfl
theorem s_139_1_64 {E : yE} {n d : Nat} {mem : yMem} {Post : Option yV → yMem → Prop} {st : List yV} {r0 r1 : Option yV} : zvc E (n + 1) [] d xm_139 1 [r0, r1] ((1, 64) :: st) mem Post = (zvc E n [] d xm_139 4 [r0, r1] ((0, mem 64 10) :: st) mem Post) := zrf rfl
theorem s_139_4 {E : yE} {n d : Nat} {mem : yMem} {Post : Option yV → yMem → Prop} {st : List yV} {r0 : Option yV} {x : Int} : zvc E (n + 1) [] d xm_139 4 [r0, some (0, x)] (st) mem Post = (zvc E n [] d xm_139 5 [r0, some (0, x)] ((0, x) :: st) mem Post) := zrf rfl
theorem s_139_5 {E : yE} {n d : Nat} {mem : yMem} {Post : Option yV → yMem → Prop} {st : List yV} {r0 r1 : Option yV} {x y : Int} : zvc E (n + 1) [] d xm_139 5 [r0, r1] ((0, y) :: (0, x) :: st) mem Post = (zvc E n [] d xm_139 6 [r0, r1] ((0, ybin 7 x y) :: st) mem Post) := zrf rfl
theorem s_139_6 {E : yE} {n d : Nat} {mem : yMem} {Post : Option yV → yMem → Prop} {st : List yV} {r0 r1 : Option yV} : zvc E (n + 1) [] d xm_139 6 [r0, r1] (st) mem Post = (zvc E n [] d xm_139 7 [r0, r1] ((0, 1) :: st) mem Post) := zrf rfl
theorem s_139_7 {E : yE} {n d : Nat} {mem : yMem} {Post : Option yV → yMem → Prop} {st : List yV} {r0 r1 : Option yV} {x y : Int} : zvc E (n + 1) [] d xm_139 7 [r0, r1] ((0, y) :: (0, x) :: st) mem Post = (zvc E n [] d xm_139 8 [r0, r1] ((0, ybin 3 x y) :: st) mem Post) := zrf rfl
theorem s_139_8 {E : yE} {n d : Nat} {mem : yMem} {Post : Option yV → yMem → Prop} {st : List yV} {r0 r1 : Option yV} {x : Int} : zvc E (n + 1) [] d xm_139 8 [r0, r1] ((0, x) :: st) mem Post = ((w32 x = w32 0 → zvc E n [] d xm_139 15 [r0, r1] (st) mem Post) ∧ (¬ (w32 x = w32 0) → zvc E n [] d xm_139 11 [r0, r1] (st) mem Post)) := zrf rfl
theorem s_139_11 {E : yE} {n d : Nat} {mem : yMem} {Post : Option yV → yMem → Prop} {st : List yV} {r0 r1 : Option yV} : zvc E (n + 1) [] d xm_139 11 [r0, r1] (st) mem Post = (zvc E n [] d xm_139 12 [r0, r1] ((0, 1) :: st) mem Post) := zrf rfl
theorem s_139_12 {E : yE} {n d : Nat} {mem : yMem} {Post : Option yV → yMem → Prop} {st : List yV} {r0 r1 : Option yV} : zvc E (n + 1) [] d xm_139 12 [r0, r1] (st) mem Post = (zvc E n [] d xm_139 16 [r0, r1] (st) mem Post) := zrf rfl
theorem s_139_15 {E : yE} {n d : Nat} {mem : yMem} {Post : Option yV → yMem → Prop} {st : List yV} {r0 r1 : Option yV} : zvc E (n + 1) [] d xm_139 15 [r0, r1] (st) mem Post = (zvc E n [] d xm_139 16 [r0, r1] ((0, 0) :: st) mem Post) := zrf rfl
theorem s_139_16 {E : yE} {n d : Nat} {mem : yMem} {Post : Option yV → yMem → Prop} {r0 r1 : Option yV} {x : Int} : zvc E (n + 1) [] d xm_139 16 [r0, r1] ([(0, x)]) mem Post = ((w32 x = 0 ∨ w32 x = 1) ∧ Post (some (0, x)) mem) := zrf rfl
theorem s_81_0 {E : yE} {n d : Nat} {mem : yMem} {Post : Option yV → yMem → Prop} {st : List yV} {r1 : Option yV} {x : Int} : zvc E (n + 1) [] d xm_81 0 [some (1, x), r1] (st) mem Post = (zvc E n [] d xm_81 1 [some (1, x), r1] ((1, x) :: st) mem Post) := zrf rfl
theorem s_81_1_2 {E : yE} {n d : Nat} {mem : yMem} {Post : Option yV → yMem → Prop} {st : List yV} {r0 r1 : Option yV} : zvc E (n + 1) [] d xm_81 1 [r0, r1] ((1, 2) :: st) mem Post = (zvc E n [] d xm_81 4 [r0, r1] ((0, mem 2 16) :: st) mem Post) := zrf rfl
theorem s_81_1_28 {E : yE} {n d : Nat} {mem : yMem} {Post : Option yV → yMem → Prop} {st : List yV} {r0 r1 : Option yV} : zvc E (n + 1) [] d xm_81 1 [r0, r1] ((1, 28) :: st) mem Post = (zvc E n [] d xm_81 4 [r0, r1] ((0, mem 28 16) :: st) mem Post) := zrf rfl
theorem s_81_4 {E : yE} {n d : Nat} {mem : yMem} {Post : Option yV → yMem → Prop} {st : List yV} {r0 : Option yV} {x : Int} : zvc E (n + 1) [] d xm_81 4 [r0, some (0, x)] (st) mem Post = (zvc E n [] d xm_81 5 [r0, some (0, x)] ((0, x) :: st) mem Post) := zrf rfl
theorem s_81_5 {E : yE} {n d : Nat} {mem : yMem} {Post : Option yV → yMem → Prop} {st : List yV} {r0 r1 : Option yV} {x y : Int} : zvc E (n + 1) [] d xm_81 5 [r0, r1] ((0, y) :: (0, x) :: st) mem Post = (zvc E n [] d xm_81 6 [r0, r1] ((0, ybin 7 x y) :: st) mem Post) := zrf rfl
theorem s_81_6 {E : yE} {n d : Nat} {mem : yMem} {Post : Option yV → yMem → Prop} {st : List yV} {r0 r1 : Option yV} : zvc E (n + 1) [] d xm_81 6 [r0, r1] (st) mem Post = (zvc E n [] d xm_81 7 [r0, r1] ((0, 1) :: st) mem Post) := zrf rfl
theorem s_81_7 {E : yE} {n d : Nat} {mem : yMem} {Post : Option yV → yMem → Prop} {st : List yV} {r0 r1 : Option yV} {x y : Int} : zvc E (n + 1) [] d xm_81 7 [r0, r1] ((0, y) :: (0, x) :: st) mem Post = (zvc E n [] d xm_81 8 [r0, r1] ((0, ybin 3 x y) :: st) mem Post) := zrf rfl
theorem s_81_8 {E : yE} {n d : Nat} {mem : yMem} {Post : Option yV → yMem → Prop} {st : List yV} {r0 r1 : Option yV} {x : Int} : zvc E (n + 1) [] d xm_81 8 [r0, r1] ((0, x) :: st) mem Post = ((w32 x = w32 0 → zvc E n [] d xm_81 15 [r0, r1] (st) mem Post) ∧ (¬ (w32 x = w32 0) → zvc E n [] d xm_81 11 [r0, r1] (st) mem Post)) := zrf rfl
theorem s_81_11 {E : yE} {n d : Nat} {mem : yMem} {Post : Option yV → yMem → Prop} {st : List yV} {r0 r1 : Option yV} : zvc E (n + 1) [] d xm_81 11 [r0, r1] (st) mem Post = (zvc E n [] d xm_81 12 [r0, r1] ((0, 1) :: st) mem Post) := zrf rfl
theorem s_81_12 {E : yE} {n d : Nat} {mem : yMem} {Post : Option yV → yMem → Prop} {st : List yV} {r0 r1 : Option yV} : zvc E (n + 1) [] d xm_81 12 [r0, r1] (st) mem Post = (zvc E n [] d xm_81 16 [r0, r1] (st) mem Post) := zrf rfl
theorem s_81_15 {E : yE} {n d : Nat} {mem : yMem} {Post : Option yV → yMem → Prop} {st : List yV} {r0 r1 : Option yV} : zvc E (n + 1) [] d xm_81 15 [r0, r1] (st) mem Post = (zvc E n [] d xm_81 16 [r0, r1] ((0, 0) :: st) mem Post) := zrf rfl
theorem s_81_16 {E : yE} {n d : Nat} {mem : yMem} {Post : Option yV → yMem → Prop} {r0 r1 : Option yV} {x : Int} : zvc E (n + 1) [] d xm_81 16 [r0, r1] ([(0, x)]) mem Post = ((w32 x = 0 ∨ w32 x = 1) ∧ Post (some (0, x)) mem) := zrf rfl
theorem e_103 {E : yE} {d : Nat} {mem : yMem} {Q : Option yV → yMem → Prop} {z a0 : Int} (h : zG E d xm_103 0 [some (1, z), some (0, a0)] [] mem Q) : yCon E (d + 1) xm_103 [(1, z), (0, a0)] mem Q := zcon_of xmo_103 (Nat.le_of_ble_eq_true rfl) h
theorem e_139 {E : yE} {d : Nat} {mem : yMem} {Q : Option yV → yMem → Prop} {z a0 : Int} (h : zG E d xm_139 0 [some (1, z), some (0, a0)] [] mem Q) : yCon E (d + 1) xm_139 [(1, z), (0, a0)] mem Q := zcon_of xmo_139 (Nat.le_of_ble_eq_true rfl) h
theorem e_81 {E : yE} {d : Nat} {mem : yMem} {Q : Option yV → yMem → Prop} {z a0 : Int} (h : zG E d xm_81 0 [some (1, z), some (0, a0)] [] mem Q) : yCon E (d + 1) xm_81 [(1, z), (0, a0)] mem Q := zcon_of xmo_81 (Nat.le_of_ble_eq_true rfl) h

theorem c_holds5 {E : yE} (hE : yEok E) {D : Nat} (hD : 1 ≤ D) {mem : yMem} {Q : Option yV → yMem → Prop} {x : Int} (yes : 0 ≤ w32 x → w32 x < w32 (mem 5 1) → Q (some (0, 1)) mem) (no : Q (some (0, 0)) mem) : yCon E D xm_103 [(1, 5), (0, x)] mem Q := by
  obtain ⟨d, rfl⟩ := Nat.exists_eq_add_of_le' hD
  refine e_103 ?_
  refine zvc_ok hE 60 [] _ _ _ _ _ _ _ xmo_103 ?_
  simp only [ynok_30, ynok_31, w32c_0, w32c_1, w32c_2, w32c_3, w32c_4, w32c_5, w32c_6, w32c_7, w32c_8, w32c_9, w32c_10, w32c_11, w32c_12, w32c_13, w32c_14, w32c_m1, w32c_m2, w32c_118, Int.reduceAdd, Int.reduceSub, Int.reduceMul, yput_s, yput_n, znl_n, znl_0, znl_1, znl_4, ysum_n, ysum_0, ysum_1, ysum_4, true_and, and_true, Nat.reduceAdd, Nat.reduceLeDiff, true_implies, eq_self, true_or, or_true, or_false, false_or, not_true_eq_false, not_false_eq_true, false_implies, implies_true, yset_s, yset_o, yset_d, ne_eq, Nat.reduceEqDiff, Int.reduceToNat, Int.reduceEq, Int.reduceLE, Int.reduceLT, Classical.not_not, Nat.reduceLT, ↓zvk_s, ↓zvk_n, ↓s_103_0, ↓s_103_1, ↓s_103_4, ↓s_103_5, ↓s_103_6_3, ↓s_103_6_5, ↓s_103_6_7, ↓s_103_6_9, ↓s_103_6_29, ↓s_103_6_31, ↓s_103_6_33, ↓s_103_6_35, ↓s_103_9, ↓s_103_12, ↓s_103_13, ↓s_103_16, ↓s_103_17, zio_33, zio_3, zio_35, zio_5, zio_7, zio_9, zio_29, zio_31]
  exact ⟨fun _ => no, fun h => ⟨fun _ => no, fun h2 => yes (by omega) (by omega)⟩⟩
theorem c_isCracked57 {E : yE} (hE : yEok E) {D : Nat} (hD : 1 ≤ D) {mem : yMem} {Q : Option yV → yMem → Prop} {x : Int} (hQ : ∀ v, Q (some (0, v)) mem) : yCon E D xm_139 [(1, 57), (0, x)] mem Q := by
  obtain ⟨d, rfl⟩ := Nat.exists_eq_add_of_le' hD
  refine e_139 ?_
  refine zvc_ok hE 60 [] _ _ _ _ _ _ _ xmo_139 ?_
  simp only [ynok_30, ynok_31, w32c_0, w32c_1, w32c_2, w32c_3, w32c_4, w32c_5, w32c_6, w32c_7, w32c_8, w32c_9, w32c_10, w32c_11, w32c_12, w32c_13, w32c_14, w32c_m1, w32c_m2, w32c_118, Int.reduceAdd, Int.reduceSub, Int.reduceMul, yput_s, yput_n, znl_n, znl_0, znl_1, znl_4, ysum_n, ysum_0, ysum_1, ysum_4, true_and, and_true, Nat.reduceAdd, Nat.reduceLeDiff, true_implies, eq_self, true_or, or_true, or_false, false_or, not_true_eq_false, not_false_eq_true, false_implies, implies_true, yset_s, yset_o, yset_d, ne_eq, Nat.reduceEqDiff, Int.reduceToNat, Int.reduceEq, Int.reduceLE, Int.reduceLT, Classical.not_not, Nat.reduceLT, ↓zvk_s, ↓zvk_n, ↓s_139_0, ↓s_139_1_57, ↓s_139_1_64, ↓s_139_4, ↓s_139_5, ↓s_139_6, ↓s_139_7, ↓s_139_8, ↓s_139_11, ↓s_139_12, ↓s_139_15, ↓s_139_16, zio_64, zio_57]
  exact ⟨fun _ => hQ _, fun _ => hQ _⟩
theorem c_isBoy2 {E : yE} (hE : yEok E) {D : Nat} (hD : 1 ≤ D) {mem : yMem} {Q : Option yV → yMem → Prop} {x : Int} (hQ : ∀ v, Q (some (0, v)) mem) : yCon E D xm_81 [(1, 2), (0, x)] mem Q := by
  obtain ⟨d, rfl⟩ := Nat.exists_eq_add_of_le' hD
  refine e_81 ?_
  refine zvc_ok hE 60 [] _ _ _ _ _ _ _ xmo_81 ?_
  simp only [ynok_30, ynok_31, w32c_0, w32c_1, w32c_2, w32c_3, w32c_4, w32c_5, w32c_6, w32c_7, w32c_8, w32c_9, w32c_10, w32c_11, w32c_12, w32c_13, w32c_14, w32c_m1, w32c_m2, w32c_118, Int.reduceAdd, Int.reduceSub, Int.reduceMul, yput_s, yput_n, znl_n, znl_0, znl_1, znl_4, ysum_n, ysum_0, ysum_1, ysum_4, true_and, and_true, Nat.reduceAdd, Nat.reduceLeDiff, true_implies, eq_self, true_or, or_true, or_false, false_or, not_true_eq_false, not_false_eq_true, false_implies, implies_true, yset_s, yset_o, yset_d, ne_eq, Nat.reduceEqDiff, Int.reduceToNat, Int.reduceEq, Int.reduceLE, Int.reduceLT, Classical.not_not, Nat.reduceLT, ↓zvk_s, ↓zvk_n, ↓s_81_0, ↓s_81_1_2, ↓s_81_1_28, ↓s_81_4, ↓s_81_5, ↓s_81_6, ↓s_81_7, ↓s_81_8, ↓s_81_11, ↓s_81_12, ↓s_81_15, ↓s_81_16, zio_2, zio_28]
  exact ⟨fun _ => hQ _, fun _ => hQ _⟩
/-! the machine's own level -/
section YW
variable {E : yE} {M : xM} {p : Program} {e : Env} {R : Room} {s : State} {m : MethodId} {args : Array Value} {below : List Frame} {meth : Method} {c : Code} {A : Nat → Prop} {H : Heap} {locs : List Loc} {ce sl : Nat} {Q : State → Prop} {ls : Array Slot} {mem : yMem} {pc nx : Nat}
theorem yw_getf {ci k i : Nat} {fs : List yV} {v : yV} {rest : List Value} (hT : xGf (xMc M) (xMo M) pc nx ci k) (hK : ysh[i]? = some (.inr (ci, fs))) (hv : fs[k]? = some v) (hC : yCtx E M p s m args meth c A) (hP : va_P (yD E) vwCl (yW E mem) H) (h : W p (yl E) e R s m args below meth c H locs ce sl Q (F0 m nx ls (ydv E (yfv v (mem i k)) :: rest))) : W p (yl E) e R s m args below meth c H locs ce sl Q (F0 m pc ls (.ref (yb E + i) :: rest)) :=
  hT p (yl E) e R s m args below meth c H locs ce sl Q ls rest hC.1.1 (yD E) (xtys (yda E)) _ i (yb E + i) (yfs E 0 fs (mem i)) _ hC.1.2.2.1 hP (yW_at hK) (by rw [yfs_get, hv, Nat.zero_add]; rfl) h
theorem yw_call {st rest : List yV} {Pc : Option yV → yMem → Prop} {mc ms : Nat} (hC : yCtx E M p s m args meth c A) (hS : va_S A s.heap H locs)
    (hrun : va_Run p (yl E) e R s m args below meth c H locs ce sl mc ms (F0 m pc ls (st.map (ydv E))) (rest.map (ydv E)) (yQp E H.size Pc) (xA (yb E) ysh.length H.size))
    (hall : ∀ r mem' H1 locs1, Pc r mem' → va_P (yD E) vwCl (yW E mem') H1 → va_S A s.heap H1 locs1 → W p (yl E) e R s m args below meth c H1 locs1 (ce + mc) (sl + ms) Q (F0 m (pc + 3) ls ((yput rest r).map (ydv E)))) : W p (yl E) e R s m args below meth c H locs ce sl Q (F0 m pc ls (st.map (ydv E))) := by
  intro T hT X
  obtain ⟨v, st₀, t, T', L, h0, X', hL, e1, e2, ⟨r, mem', k1, k2, k3, k6⟩, stp⟩ := hrun T hT X
  have ev : v = r.map (ydv E) := by injection k2
  have hsub : ∀ q, xA (yb E) ysh.length H.size q → A q := by
    rintro q (⟨a1, a2⟩ | a1)
    · have := hC.2 (q - yb E) (by omega)
      rwa [show yb E + (q - yb E) = q by omega] at this
    · exact hC.1.2.2.2.1 q (Nat.le_trans hS.1 a1)
  obtain ⟨f1, f2⟩ := k6
  rw [h0] at f1 f2
  have hS2 : va_S A s.heap T'.heap (locs ++ L) := ⟨by rw [e1]; exact Nat.le_trans hS.1 f1, fun q q1 q2 => by
    rw [e1, f2 q (Nat.lt_of_lt_of_le q1 hS.1) (fun z => q2 (hsub q z))]
    exact hS.2.1 q q1 q2, fun q hq => by
    rcases List.mem_append.mp hq with h | h
    · exact hS.2.2 q h
    · exact hsub _ (hL q h)⟩
  have W2 := hall r mem' T'.heap (locs ++ L) k1 (by rw [e1]; exact k3) hS2
  obtain ⟨t2, a1, b1⟩ := W2 T' rfl X'
  refine ⟨t2, stp t2 ?_, b1⟩
  have es : v.toList ++ rest.map (ydv E) = (yput rest r).map (ydv E) := by
    rw [ev]
    cases r <;> rfl
  rw [es]
  exact a1
/-- what stands at a method's entry -/
theorem yw_ctx {y : MethodName} {spec : Spec} {cc : ByteArray} {ml : Nat} {ret : Option FieldType} {s₁ : State} {sz : Nat} (B : BodyLoose p (yl E) y spec cc ml ret e s m args below meth c s₁) (hM1 : xMc M = cc) (hM2 : xMo M = y.cls) (hM3 : c.maxLocals = xMl M) (hM4 : xMr M = ret) (hM5 : (xMy M).name = y.name) (hts : ∀ w ∈ xgt, w.before args s = true) (hb : yb E + ysh.length ≤ sz) (hP : yPp E mem sz s) : yCtx E M p s m args meth c (xA (yb E) ysh.length sz) := by
  obtain ⟨hsz, hP, hK, hEX⟩ := hP
  refine ⟨⟨⟨B.exec, by rw [hM1]; exact B.bytes, by rw [hM2]; exact findClass_of_methodNamed B.named, hts⟩, hM3, hK, fun q h => Or.inr (by omega), fun q h => ?_, by rw [hM4]; exact B.returns, B.notSynchronized, fun h => ?_, hEX, by omega⟩, fun i hi => Or.inl ⟨by omega, by omega⟩⟩
  · rcases h with h | h
    · exact h.1
    · omega
  · exact (name_of_methodNamed B.named B.method).1.trans (hM5.symm.trans h)
end YW
/-! single instructions -/
section YO
variable {E : yE} {R : Room} {d : Nat} {M : xM} {pc nx : Nat} {lv : yL} {st : List yV} {mem : yMem} {ce sl : Nat} {Post : Option yV → yMem → Prop}
def yRm (R : Room) (d ce sl : Nat) : Prop := (d + 1 ≤ R.frames ∧ 64 * d + 64 ≤ R.locals) ∧ ce ≤ R.cells ∧ sl ≤ R.slots
theorem yo_c (hE : yEok E) (hR : yRm R d ce sl) {a : Nat} (hok : xok xmt M pc (0, nx, a, 0, [])) (h : yG E R M nx lv ((0, cI a) :: st) mem ce sl Post) : yG E R M pc lv st mem ce sl Post := yst (d := d) hE hR.1 hR.2 hok h
theorem yo_ld (hE : yEok E) (hR : yRm R d ce sl) {k i : Nat} {v : yV} (hok : xok xmt M pc (2, nx, k, i, [])) (hv : ylk lv i = some v) (hk : ykdb k v = true) (h : yG E R M nx lv (v :: st) mem ce sl Post) : yG E R M pc lv st mem ce sl Post := yst (d := d) hE hR.1 hR.2 hok (show ∃ v, ylk lv i = some v ∧ ykdb k v = true ∧ yG E R M nx lv (v :: st) mem ce sl Post from ⟨v, hv, hk, h⟩)
theorem yo_st (hE : yEok E) (hR : yRm R d ce sl) {k i : Nat} {v : yV} (hok : xok xmt M pc (3, nx, k, i, [])) (hk : ykdb k v = true) (hi : i + xwd k < xMl M) (h : yG E R M nx ((i, v) :: lv.filter (yflb k i)) st mem ce sl Post) : yG E R M pc lv (v :: st) mem ce sl Post := yst (d := d) hE hR.1 hR.2 hok (show ykdb k v = true ∧ i + xwd k < xMl M ∧ yG E R M nx ((i, v) :: lv.filter (yflb k i)) st mem ce sl Post from ⟨hk, hi, h⟩)
theorem yo_inc (hE : yEok E) (hR : yRm R d ce sl) {i a : Nat} {x : Int} (hok : xok xmt M pc (4, nx, i, a, [])) (hv : ylk lv i = some (0, x)) (hi : i < xMl M) (h : yG E R M nx ((i, (0, x + cI a)) :: lv.filter (yflb 0 i)) st mem ce sl Post) : yG E R M pc lv st mem ce sl Post := yst (d := d) hE hR.1 hR.2 hok (show ∃ x, ylk lv i = some (0, x) ∧ i < xMl M ∧ yG E R M nx ((i, (0, x + cI a)) :: lv.filter (yflb 0 i)) st mem ce sl Post from ⟨x, hv, hi, h⟩)
theorem yo_bin (hE : yEok E) (hR : yRm R d ce sl) {o : Nat} {x y : Int} (hok : xok xmt M pc (5, nx, o, 0, [])) (ho : o < 9) (h : yG E R M nx lv ((0, ybin o x y) :: st) mem ce sl Post) : yG E R M pc lv ((0, y) :: (0, x) :: st) mem ce sl Post := yst (d := d) hE hR.1 hR.2 hok (show ((o = 9 ∨ o = 10) → ¬ w32 y = 0) ∧ yG E R M nx lv ((0, ybin o x y) :: st) mem ce sl Post from ⟨fun z => by omega, h⟩)
theorem yo_pop (hE : yEok E) (hR : yRm R d ce sl) {v : yV} (hok : xok xmt M pc (10, nx, 0, 0, [])) (hv : ycat v = 1) (h : yG E R M nx lv st mem ce sl Post) : yG E R M pc lv (v :: st) mem ce sl Post := yst (d := d) hE hR.1 hR.2 hok (show ycat v = 1 ∧ yG E R M nx lv st mem ce sl Post from ⟨hv, h⟩)
theorem yo_pop2 (hE : yEok E) (hR : yRm R d ce sl) {v : yV} (hok : xok xmt M pc (69, nx, 0, 0, [])) (hv : ycat v = 2) (h : yG E R M nx lv st mem ce sl Post) : yG E R M pc lv (v :: st) mem ce sl Post := yst (d := d) hE hR.1 hR.2 hok (show ycat v = 2 ∧ yG E R M nx lv st mem ce sl Post from ⟨hv, h⟩)
theorem yo_if (hE : yEok E) (hR : yRm R d ce sl) {t c : Nat} {x : Int} (hok : xok xmt M pc (12, nx, t, c, [])) (h1 : ycp c x 0 → yG E R M t lv st mem ce sl Post) (h2 : ¬ ycp c x 0 → yG E R M nx lv st mem ce sl Post) : yG E R M pc lv ((0, x) :: st) mem ce sl Post := yst (d := d) hE hR.1 hR.2 hok (show (ycp c x 0 → yG E R M t lv st mem ce sl Post) ∧ (¬ ycp c x 0 → yG E R M nx lv st mem ce sl Post) from ⟨h1, h2⟩)
theorem yo_cmp (hE : yEok E) (hR : yRm R d ce sl) {t c : Nat} {x y : Int} (hok : xok xmt M pc (13, nx, t, c, [])) (h1 : ycp c x y → yG E R M t lv st mem ce sl Post) (h2 : ¬ ycp c x y → yG E R M nx lv st mem ce sl Post) : yG E R M pc lv ((0, y) :: (0, x) :: st) mem ce sl Post := yst (d := d) hE hR.1 hR.2 hok (show (ycp c x y → yG E R M t lv st mem ce sl Post) ∧ (¬ ycp c x y → yG E R M nx lv st mem ce sl Post) from ⟨h1, h2⟩)
theorem yo_go (hE : yEok E) (hR : yRm R d ce sl) (hok : xok xmt M pc (14, nx, 0, 0, [])) (h : yG E R M nx lv st mem ce sl Post) : yG E R M pc lv st mem ce sl Post := yst (d := d) hE hR.1 hR.2 hok h
theorem yo_gf (hE : yEok E) (hR : yRm R d ce sl) {ci k i : Nat} {fs : List yV} {v : yV} (hok : xok xmt M pc (16, nx, ci, k, [])) (hK : ysh[i]? = some (.inr (ci, fs))) (hv : fs[k]? = some v) (h : yG E R M nx lv (yfv v (mem i k) :: st) mem ce sl Post) : yG E R M pc lv ((1, (i : Int)) :: st) mem ce sl Post := yst (d := d) hE hR.1 hR.2 hok (show ∃ fs v, ysh[i]? = some (.inr (ci, fs)) ∧ fs[k]? = some v ∧ yG E R M nx lv (yfv v (mem i k) :: st) mem ce sl Post from ⟨fs, v, hK, hv, h⟩)
theorem yo_rd (hE : yEok E) (hR : yRm R d ce sl) {i n : Nat} {rs : List Nat} {j : Int} (hok : xok xmt M pc (19, nx, 0, 0, [])) (hK : ysh[i]? = some (.inl (0, n, rs))) (h0 : 0 ≤ w32 j) (h1 : w32 j < (n : Int)) (h : yG E R M nx lv ((0, mem i (w32 j).toNat) :: st) mem ce sl Post) : yG E R M pc lv ((0, j) :: (1, (i : Int)) :: st) mem ce sl Post := yst (d := d) hE hR.1 hR.2 hok (show ∃ n rs, ysh[i]? = some (.inl (0, n, rs)) ∧ 0 ≤ w32 j ∧ w32 j < (n : Int) ∧ yG E R M nx lv ((0, mem i (w32 j).toNat) :: st) mem ce sl Post from ⟨n, rs, hK, h0, h1, h⟩)
theorem yo_call (hE : yEok E) (hR : yRm R d ce sl) {mi ci i : Nat} {fs avs rest : List yV} {M' : xM} (hok : xok xmt M pc (28, pc + 3, mi, ci, [])) (hmi : xmt[mi]? = some M') (hn : avs.length = xMn M') (hrest : ysum rest ≤ 8) (hs : ysum ((1, (i : Int)) :: avs) ≤ xMl M') (hl : xMl M' ≤ 45) (hK : ysh[i]? = some (.inr (ci, fs))) (h : yCon E d M' ((1, (i : Int)) :: avs) mem (fun r mem' => yG E R M (pc + 3) lv (yput rest r) mem' ce sl Post)) : yG E R M pc lv (avs.reverse ++ (1, (i : Int)) :: rest) mem ce sl Post := by
  refine yst (d := d) hE hR.1 hR.2 hok ?_
  have e1 : (avs.reverse ++ (1, (i : Int)) :: rest).drop (xMn M') = (1, (i : Int)) :: rest := List.drop_left' (by rw [List.length_reverse, hn])
  have e2 : (avs.reverse ++ (1, (i : Int)) :: rest).drop (xMn M' + 1) = rest := by
    rw [← List.drop_drop, e1]
    rfl
  have e3 : (avs.reverse ++ (1, (i : Int)) :: rest).take (xMn M' + 1) = avs.reverse ++ [(1, (i : Int))] := by
    rw [List.append_cons]
    exact List.take_left' (by simp [hn])
  have e4 : ((avs.reverse ++ (1, (i : Int)) :: rest).take (xMn M' + 1)).reverse = (1, (i : Int)) :: avs := by rw [e3]; simp
  have hc : ycall E d mi 1 (avs.reverse ++ (1, (i : Int)) :: rest) mem (fun st' mem' => yG E R M (pc + 3) lv st' mem' ce sl Post) := by
    unfold ycall
    rw [hmi]
    refine ⟨by simp [hn], by rw [e2]; exact hrest, ?_, hl, ?_⟩
    · rw [e3, ysum_app, ysum_rev]
      simp only [ysum] at hs ⊢
      omega
    · rw [e4, e2]
      exact h
  refine (show (match xmt[mi]? with
    | some M' => match (avs.reverse ++ (1, (i : Int)) :: rest).drop (xMn M') with
      | (1, i) :: _ => ∃ fs, ysh[i.toNat]? = some (.inr (ci, fs))
      | _ => False
    | none => False) ∧ ycall E d mi 1 (avs.reverse ++ (1, (i : Int)) :: rest) mem (fun st' mem' => yG E R M (pc + 3) lv st' mem' ce sl Post) from ⟨?_, hc⟩)
  rw [hmi]
  dsimp only
  rw [e1]
  exact ⟨fs, hK⟩
theorem yo_rt (hE : yEok E) (hR : yRm R d ce sl) {b : Nat} {x : Int} (hok : xok xmt M pc (30, nx, 0, b, [])) (hb : b = 0 ∨ (b = 3 ∧ (w32 x = 0 ∨ w32 x = 1))) (h : Post (some (0, x)) mem) : yG E R M pc lv [(0, x)] mem ce sl Post := yst (d := d) hE hR.1 hR.2 hok (show (b = 0 ∨ (b = 3 ∧ (w32 x = 0 ∨ w32 x = 1))) ∧ Post (some (0, x)) mem from ⟨hb, h⟩)
theorem yo_i2l (hE : yEok E) (hR : yRm R d ce sl) {x : Int} (hok : xok xmt M pc (65, nx, 0, 0, [])) (h : yG E R M nx lv ((4, w32 x) :: st) mem ce sl Post) : yG E R M pc lv ((0, x) :: st) mem ce sl Post := yst (d := d) hE hR.1 hR.2 hok h
theorem yo_lst (hE : yEok E) (hR : yRm R d ce sl) {i n : Nat} {rs : List Nat} {x j : Int} (hok : xok xmt M pc (68, nx, 0, 0, [])) (hK : ysh[i]? = some (.inl (2, n, rs))) (h0 : 0 ≤ w32 j) (h1 : w32 j < (n : Int)) (h : yG E R M nx lv st (yset mem i (w32 j).toNat x) ce sl Post) : yG E R M pc lv ((4, x) :: (0, j) :: (1, (i : Int)) :: st) mem ce sl Post := yst (d := d) hE hR.1 hR.2 hok (show ∃ n rs, ysh[i]? = some (.inl (2, n, rs)) ∧ 0 ≤ w32 j ∧ w32 j < (n : Int) ∧ yG E R M nx lv st (yset mem i (w32 j).toNat x) ce sl Post from ⟨n, rs, hK, h0, h1, h⟩)
theorem yo_sw (hE : yEok E) (hR : yRm R d ce sl) {t : Nat} {cs : List (Nat × Nat)} {x : Int} (hok : xok xmt M pc (15, 0, t, 0, cs)) (h1 : ∀ q ∈ cs, w32 x = cI q.1 → yG E R M q.2 lv st mem ce sl Post) (h2 : (∀ q ∈ cs, ¬ w32 x = cI q.1) → yG E R M t lv st mem ce sl Post) (h3 : ∀ q ∈ cs, q.1 < 4294967296) : yG E R M pc lv ((0, x) :: st) mem ce sl Post := yst (d := d) hE hR.1 hR.2 hok (show (∀ q ∈ cs, w32 x = cI q.1 → yG E R M q.2 lv st mem ce sl Post) ∧ ((∀ q ∈ cs, ¬ w32 x = cI q.1) → yG E R M t lv st mem ce sl Post) ∧ (∀ q ∈ cs, q.1 < 4294967296) from ⟨h1, h2, h3⟩)
end YO
/-! look's ways that return -/
section LKG
variable {E : yE} {R : Room} {mem : yMem} {ce sl : Nat} {Post : Option yV → yMem → Prop} {x y : Int}
abbrev lklv (x y : Int) : yL := [(0, (1, 0)), (1, (0, x)), (2, (0, y))]
theorem lko {pc : Nat} {op : xOp} (h : xfind xk_LK pc = some op) : xok xmt xm_LK pc op := xo_LK _ (xfind_mem h)
theorem lk_get (hE : yEok E) (hR : yRm R 2 ce sl) {pc f1 c1 c2 ci f2 n nx : Nat} {fs gs : List yV} {rs : List Nat}
    (h0 : xfind xk_LK pc = some (2, pc + 1, 1, 0, [])) (h1 : xfind xk_LK (pc + 1) = some (16, pc + 4, 11, f1, [])) (h2 : xfind xk_LK (pc + 4) = some (16, pc + 7, ci, f2, [])) (h3 : xfind xk_LK (pc + 7) = some (2, pc + 8, 0, 1, [])) (h4 : xfind xk_LK (pc + 8) = some (19, pc + 9, 0, 0, [])) (h5 : xfind xk_LK (pc + 9) = some (30, nx, 0, 0, []))
    (k0 : ysh[0]? = some (.inr (11, fs))) (k1 : fs[f1]? = some (1, (c1 : Int))) (k2 : ysh[c1]? = some (.inr (ci, gs))) (k3 : gs[f2]? = some (1, (c2 : Int))) (k4 : ysh[c2]? = some (.inl (0, n, rs))) (hx : 0 ≤ w32 x) (hx2 : w32 x < (n : Int))
    (hQ : ∀ v, Post (some (0, v)) mem) : yG E R xm_LK pc (lklv x y) [] mem ce sl Post :=
  yo_ld (v := (1, 0)) hE hR (lko h0) rfl rfl <|
  yo_gf (i := 0) hE hR (lko h1) k0 k1 <|
  yo_gf (i := c1) hE hR (lko h2) k2 k3 <|
  yo_ld (v := (0, x)) hE hR (lko h3) rfl rfl <|
  yo_rd (i := c2) hE hR (lko h4) k4 hx hx2 <|
  yo_rt hE hR (lko h5) (Or.inl rfl) (hQ _)
theorem lk_5 (hE : yEok E) (hR : yRm R 2 ce sl) (hQ : ∀ v, Post (some (0, v)) mem) : yG E R xm_LK 114 (lklv x y) [] mem ce sl Post := by
  have rt : ∀ v, yG E R xm_LK 145 (lklv x y) [(0, v)] mem ce sl Post := fun v => yo_rt (nx := 146) (b := 0) hE hR (lko rfl) (Or.inl rfl) (hQ _)
  refine yo_ld (nx := 115) (k := 1) (i := 0) (v := (1, 0)) hE hR (lko rfl) rfl rfl ?_
  refine yo_gf (nx := 118) (ci := 11) (k := 4) (i := 0) (v := (1, 57)) hE hR (lko rfl) rfl rfl ?_
  refine yo_ld (nx := 119) (k := 0) (i := 1) (v := (0, x)) hE hR (lko rfl) rfl rfl ?_
  refine yo_call (mi := 139) (ci := 10) (i := 57) (avs := [(0, x)]) (rest := []) (M' := xm_139) hE hR (lko rfl) rfl rfl (by decide) (Nat.le_of_ble_eq_true rfl) (by decide) rfl (c_isCracked57 hE (by decide) (fun v => ?_))
  refine yo_if (pc := 122) (nx := 125) (t := 129) (c := 0) hE hR (lko rfl) (fun _ => ?_) (fun _ => ?_)
  · refine yo_ld (nx := 130) (k := 1) (i := 0) (v := (1, 0)) hE hR (lko rfl) rfl rfl ?_
    refine yo_gf (nx := 133) (ci := 11) (k := 1) (i := 0) (v := (1, 2)) hE hR (lko rfl) rfl rfl ?_
    refine yo_ld (nx := 134) (k := 0) (i := 1) (v := (0, x)) hE hR (lko rfl) rfl rfl ?_
    refine yo_call (mi := 81) (ci := 4) (i := 2) (avs := [(0, x)]) (rest := []) (M' := xm_81) hE hR (lko rfl) rfl rfl (by decide) (Nat.le_of_ble_eq_true rfl) (by decide) rfl (c_isBoy2 hE (by decide) (fun v => ?_))
    refine yo_if (pc := 137) (nx := 140) (t := 144) (c := 0) hE hR (lko rfl) (fun _ => ?_) (fun _ => ?_)
    · exact yo_c (nx := 145) (a := 0) hE hR (lko rfl) (rt _)
    · exact yo_c (nx := 141) (a := 1) hE hR (lko rfl) (yo_go (nx := 145) hE hR (lko rfl) (rt _))
  · exact yo_c (nx := 126) (a := 2) hE hR (lko rfl) (yo_go (nx := 145) hE hR (lko rfl) (rt _))
end LKG
end
section
/-! A THROWABLE WITH A TEXT whose constructor's link to the one above has any index (the library's own law wants 7; NoSuchElementException has 13) -/
section CT
def ctOwn (own : String) (ic : Nat) (X : String) : List Cond :=
  [.methodLink own ic (Bundle.initS X), .instantiable X 6, .castable X X, .selects X Bundle.tFill0 Bundle.tFill0, .selects X Bundle.tFill Bundle.tFill,
   .lays X Bundle.tN "cause" "Ljava/lang/Throwable;", .lays X Bundle.tN "stackTrace" Bundle.steD, .lays X Bundle.tN "suppressedExceptions" Bundle.listD, .lays X Bundle.tN "detailMessage" "Ljava/lang/String;",
   .isRef (.static Bundle.tN "UNASSIGNED_STACK" Bundle.steD), .isRef (.static Bundle.tN "SUPPRESSED_SENTINEL" Bundle.listD),
   .fieldLink Bundle.tN 198 Bundle.tN "backtrace" "Ljava/lang/Object;", .lays Bundle.tN Bundle.tN "backtrace" "Ljava/lang/Object;", .lays X Bundle.tN "backtrace" "Ljava/lang/Object;"]
def ctAt (own : String) (ic : Nat) (X Y : String) (ix : Nat) (bs : ByteArray) (names : List String) : List Cond :=
  Bundle.throwableAtoms ++ (Bundle.throwableSAtoms ++ (Bundle.passSAtoms X Y ix bs ++ (Bundle.chainSAtoms Y names ++ ctOwn own ic X)))
variable {p : Program} {l : Launch} {e : Env} {R : Room} {s : State} {m : MethodId} {args : Array Value} {below : List Frame} {meth : Method} {c : Code} {V : State} {locs : List Loc} {cells slots : Nat}
set_option maxHeartbeats 4000000 in
theorem ct_ctor (X : Stand p l e R s m args below meth c V locs cells slots) (hexec : p.tables.exec = Jvm.exec) (htr : e.platform.stackTraces = false) {own cls up : String} {names : List String} {ic ix : Nat} {bs : ByteArray}
    (b0 : decode bs 0 = .ok (.aload_n 0, 1)) (b1 : decode bs 1 = .ok (.aload_n 1, 1)) (b2 : decode bs 2 = .ok (.invokespecial ix, 3)) (b5 : decode bs 5 = .ok (.return_, 1))
    (hown : s.vm.findClass own = some m.cls) (hcls : Bundle.fit cls = true) (hup : Bundle.fit up = true) (hnames : ∀ n ∈ names, Bundle.fit n = true)
    (h : ∀ a ∈ ctAt own ic cls up ix bs names, a.before args s = true)
    (hlocs : ∀ x ∈ locs, ∀ cell, s.heap[x.base]? = some cell → cell.vm.isStatics = false)
    {a : Addr} {cX : ClassId} {kX : Class} (hfoundX : s.vm.findClass cls = some cX) (hkX : s.vm.classes[cX]? = some kX) (hcell : V.heap[a]? = some (freshCell cX kX)) (hnew : s.heap.size ≤ a)
    {msg : Value} (hmsg : msg.isRef = true)
    {g : JFrame} (hg : g.method = m) (hsize : g.locals.size = c.maxLocals) (hlocked : g.locked = none) (hentered : g.entered = []) {rest : List Value} (hstack : g.stack = msg :: .ref a :: .ref a :: rest)
    (hd6 : decode c.code g.pc = .ok (.invokespecial ic, 3)) (hd9 : decode c.code (g.pc + 3) = .ok (.athrow, 1)) (hout : ∀ x ∈ c.exceptionTable.toList, covers x (g.pc + 3) = false)
    (hRf : names.length + 4 < R.frames) (hRl : 2 * g.monitorRoom + ((Value.ref a :: rest).map fun v => v.category).sum + (13 * (names.length + 2) + 42) ≤ R.locals) (hlocks : meth.locks = false) :
    ∃ U : State, Steps p.tables e below (V.setTop g) U ∧ U.status = .running ∧ Ended U below (.threw a) ∧ s.WarmedH U.vm ∧ s.sameButNew ({ U with vm := s.vm } : State) locs cells slots ∧
      ∃ ce, U.heap[a]? = some ce ∧ ce.vm = .none ∧ s.vm.findClass cls = some ce.cls := by
  have hmon : e.platform.frameOwnsMonitors = true := by rw [X.admits.platform]
  have hfin : e.platform.finalization = false := by rw [X.admits.platform]
  have hpl : e.platform.magicAccessors = ({} : Platform).magicAccessors := by rw [X.admits.platform]
  have at1 : ∀ w ∈ Bundle.throwableAtoms, w.before args s = true := fun w hw => h w (List.mem_append_left _ hw)
  have at2 : ∀ w ∈ Bundle.throwableSAtoms, w.before args s = true := fun w hw => h w (List.mem_append_right _ (List.mem_append_left _ hw))
  have at3 : ∀ w ∈ Bundle.passSAtoms cls up ix bs, w.before args s = true := fun w hw => h w (List.mem_append_right _ (List.mem_append_right _ (List.mem_append_left _ hw)))
  have at4 : ∀ w ∈ Bundle.chainSAtoms up names, w.before args s = true := fun w hw => h w (List.mem_append_right _ (List.mem_append_right _ (List.mem_append_right _ (List.mem_append_left _ hw))))
  have own' : ∀ w, w ∈ ctOwn own ic cls → w.before args s = true := fun w hw => h w (List.mem_append_right _ (List.mem_append_right _ (List.mem_append_right _ (List.mem_append_right _ hw))))
  obtain ⟨T, Z0, L, -, Y⟩ := ThrowableC.of_atoms (args := args) hmon hfin hpl at1
  obtain ⟨Z, M, LZ, LM, hnZ⟩ := Init0T.ofS_atoms (args := args) hpl L Y at2
  obtain ⟨P2, Ps, hlen, L2, hLs, hm2, hsup2, hpass2⟩ := Bundle.chainS (args := args) hpl hnZ names up hup hnames at4
  obtain ⟨P1, L1, hm1, hs1⟩ := PassC.ofS_atoms (args := args) (s := s) hpl (X := cls) (Y := up) (Bundle.fit_spec hcls).1 (Bundle.fit_spec hup).2 b0 b1 b2 b5 at3
  have hsup1 : P1.sup = P2.m := Option.some.inj (hs1.symm.trans hm2)
  have hfound : s.vm.findClass cls = some P1.m.cls := findClass_of_methodNamed hm1
  cases Option.some.inj (hfoundX.symm.trans hfound)
  obtain ⟨c1, kX', hc1, hk, hord, -, -, hn6⟩ := Cond.instantiable_spec (own' (.instantiable cls 6) (by simp [ctOwn]))
  cases Option.some.inj (hc1.symm.trans hfound)
  cases Option.some.inj (hkX.symm.trans hk)
  have sel : ∀ {x : MethodName} {mm : MethodId}, s.methodNamed? x = some mm → (x.cls ≠ "java/lang/invoke/MethodHandle" → True) → s.methodFound? x.cls x.name x.desc = some mm → (Cond.selects cls x x).before args s = true → selectMethod e.platform s.vm P1.m.cls mm = .method mm := by
    intro x mm q0 _ qf q
    obtain ⟨c2, r2, m2, q1, q2, q3, q4, -⟩ := Cond.selects_spec q
    cases Option.some.inj (q1.symm.trans hfound)
    cases Option.some.inj (q2.symm.trans qf)
    cases Option.some.inj (q3.symm.trans q0)
    rw [Launch.admits_selectMethod X.admits]
    exact q4
  have hsel0 := sel Y.fill0 (fun _ => trivial) (State.methodFound?_of_named Y.fill0 (by decide)) (own' (.selects cls Bundle.tFill0 Bundle.tFill0) (by simp [ctOwn]))
  have hselF := sel Y.fill (fun _ => trivial) (State.methodFound?_of_named Y.fill (by decide)) (own' (.selects cls Bundle.tFill Bundle.tFill) (by simp [ctOwn]))
  obtain ⟨cS0, hcS0, hiss⟩ := Y.statics
  obtain ⟨u0, hu0⟩ := Cond.staticRefV Y.unassigned L.unassignedStatic L.statics hcS0 hiss (own' (.isRef (.static Bundle.tN "UNASSIGNED_STACK" Bundle.steD)) (by simp [ctOwn]))
  obtain ⟨sen, hsen⟩ := Cond.staticRefV Y.sentinel L.sentinelStatic L.statics hcS0 hiss (own' (.isRef (.static Bundle.tN "SUPPRESSED_SENTINEL" Bundle.listD)) (by simp [ctOwn]))
  obtain ⟨ci9, i9, fB, k1, k2, k3, k4, -, k5, k6, hffB⟩ := Cond.ownField (t := .object "java/lang/Object") Y.found L.cls (by decide +kernel) (own' (.fieldLink Bundle.tN 198 Bundle.tN "backtrace" "Ljava/lang/Object;") (by simp [ctOwn])) (own' (.lays Bundle.tN Bundle.tN "backtrace" "Ljava/lang/Object;") (by simp [ctOwn])) e.platform hpl
  obtain ⟨cS, hcS', heS, -, hkeep⟩ := X.same.2.2.2.2.2 T.aS cS0 hcS0
  have hcS : V.heap[T.aS]? = some cS := hcS'
  have hnotin : ∀ i, (⟨T.aS, i⟩ : Loc) ∉ locs := fun i hi => by
    have := hlocs _ hi cS0 hcS0
    rw [hiss] at this
    cases this
  have hknown : cS.vm ≠ .unknown := by
    rw [heS]
    intro hu
    rw [show cS0.vm = .unknown from hu] at hiss
    cases hiss
  have hne : T.aS ≠ a := Nat.ne_of_lt (Nat.lt_of_lt_of_le (Array.getElem?_eq_some_iff.mp hcS0).1 hnew)
  obtain ⟨iM, hffM⟩ := Y.msg
  obtain ⟨tyC, dC, hdC, hnC⟩ := Cond.laysAt hfound hk Y.cause (own' (.lays cls Bundle.tN "cause" "Ljava/lang/Throwable;") (by simp [ctOwn]))
  obtain ⟨tyS, dS, hdS, hnS⟩ := Cond.laysAt hfound hk Y.stack (own' (.lays cls Bundle.tN "stackTrace" Bundle.steD) (by simp [ctOwn]))
  obtain ⟨tyP, dP, hdP, hnP⟩ := Cond.laysAt hfound hk Y.supp (own' (.lays cls Bundle.tN "suppressedExceptions" Bundle.listD) (by simp [ctOwn]))
  obtain ⟨tyM, dM, hdM, hnM⟩ := Cond.laysAt hfound hk hffM (own' (.lays cls Bundle.tN "detailMessage" "Ljava/lang/String;") (by simp [ctOwn]))
  obtain ⟨tyB, dB, hdB, hnB⟩ := Cond.laysAt hfound hk hffB (own' (.lays cls Bundle.tN "backtrace" "Ljava/lang/Object;") (by simp [ctOwn]))
  have bC := Cond.laysApart hdB hdC hnB hnC (by rw [k5, Y.causeName]; decide)
  have bS := Cond.laysApart hdB hdS hnB hnS (by rw [k5, Y.stackName]; decide)
  have bP := Cond.laysApart hdB hdP hnB hnP (by rw [k5, Y.suppName]; decide)
  have hskip : SkipFacts T e.platform s (fun u => u) u0 ((preparedCellV T.toThrowableT (freshCell P1.m.cls kX) a u0 sen).withEntry V.cur) :=
    ⟨{ ci198 := ci9, i198 := i9, fBack := fB }, ⟨k1, k2, k3, k4⟩, by
      have := fresh_default (c := P1.m.cls) tyB
      rw [k6] at this
      simpa [preparedCellV, Cell.setSlot, Cell.withEntry, Array.getElem?_setIfInBounds, bC, bS, bP, bC.symm, bS.symm, bP.symm, defaultValue] using this, fun _ _ => rfl⟩
  obtain ⟨tm, -, -, -, vm1, hn1, -, -, -, -, -, -, -, hW1, st1⟩ := Steps.initColdS (tb := p.tables) (e := e) (below := below) (s := s) (U := V) X.here hexec X.warmed hpl hown (t := Bundle.initS cls) rfl rfl (Bundle.fit_spec hcls).2
    (own' (.methodLink own ic (Bundle.initS cls)) (by simp [ctOwn])) (at3 (.instanceMethod (Bundle.initS cls)) (by simp [Bundle.passSAtoms])) (bytes := bs) (maxL := 2) (at3 (.code (Bundle.initS cls) bs 2 none) (by simp [Bundle.passSAtoms]))
    (f := g) hg (a := a) (msg := msg) (rest := .ref a :: rest) hstack hd6
  cases Option.some.inj (hn1.symm.trans hm1)
  have X1 := X.noted hW1
  obtain ⟨vm2, X2, st2⟩ := X1.ctorMessageOffV hexec (g := { g with stack := .ref a :: rest }) hg hsize T L Z LZ M LM (P1 :: P2 :: Ps)
    (fun P hP => by
      rcases List.mem_cons.mp hP with rfl | hP
      · exact L1
      · rcases List.mem_cons.mp hP with rfl | hP
        · exact L2
        · exact hLs P hP) ⟨hsup1, hsup2, hpass2⟩ (u0 := u0) (sen := sen) (self := a) hmsg (cell := freshCell P1.m.cls kX) (cellS := cS)
    hcell (fun _ => by simp) (by simp) rfl rfl hsel0 hselF hcS hne hknown (by rw [hkeep _ (hnotin _)]; exact hu0) (by rw [hkeep _ (hnotin _)]; exact hsen)
    (Takes.of_laid hk hord tyC (by rw [Y.causeType]; rfl)) (Takes.of_laid hk hord tyS (by rw [Y.stackType]; exact fits_refV_array _ u0)) (Takes.of_laid hk hord tyP (by rw [Y.suppType]; exact fits_refV_object _ sen))
    (Takes.of_laid hk hord tyM (by rw [Y.msgType]; exact fits_refV_object _ ⟨msg, hmsg⟩)) Y.objLocals hskip htr [] hd6
    (by simp only [List.length_cons, hlen]; omega) (by simp only [List.length_cons, hlen]; exact hRl)
  obtain ⟨hwalk, hrun, hended, hWU, hsame⟩ := X2.athrowLeaves hexec (g := { g with stack := .ref a :: rest, pc := g.pc + 3 }) hg hlocked hentered hout (a := a) (rest := rest) rfl hd9
  have hlt : a < ((V.setVm vm1).setVm vm2).heap.size := (Array.getElem?_eq_some_iff.mp hcell).1
  have hU := heapAt_setCell_self (s := (V.setVm vm1).setVm vm2) (plainBareV T.toThrowableT (freshCell P1.m.cls kX) a u0 sen msg) hlt
  refine ⟨_, st1 _ (fun acts => ?_), hrun, hended, hWU, hsame.weaken (fun y hy hlt' => ?_) (Nat.le_refl _) (Nat.le_refl _), _, hU, rfl, hfound⟩
  · rw [doInvoke_state]
    exact st2 _ hwalk
  · rcases List.mem_append.mp hy with h1 | h1
    · exact h1
    · exfalso
      have hb : y.base = a := by
        simp only [List.mem_cons, List.not_mem_nil, or_false] at h1
        rcases h1 with rfl | rfl | rfl | rfl | rfl <;> rfl
      rw [hb] at hlt'
      exact Nat.not_lt.mpr hnew hlt'
end CT
section CTW
variable {p : Program} {l : Launch} {e : Env} {R : Room} {s : State} {m : MethodId} {args : Array Value} {below : List Frame} {meth : Method} {c : Code} {H : Heap} {locs : List Loc} {cells slots : Nat} {free : Addr → Prop} {ls : Array Slot} {rest : List Value} {Qc : Array Value → State → Outcome → State → Prop} {XC : String → State → State → Prop}
set_option maxHeartbeats 4000000 in
/-- 'throw new E("text")' of such a class -/
theorem ct_throw {cc : ByteArray} {pc : Nat} (hexec : p.tables.exec = Jvm.exec) (hb : c.code = cc) (hl : l.stackTraces = false) {own cls up text : String} {names : List String} {ik is ic ix mc ms sa : Nat} {bs : ByteArray} {A : Nat → Prop}
    (b0 : decode bs 0 = .ok (.aload_n 0, 1)) (b1 : decode bs 1 = .ok (.aload_n 1, 1)) (b2 : decode bs 2 = .ok (.invokespecial ix, 3)) (b5 : decode bs 5 = .ok (.return_, 1))
    (hown : s.vm.findClass own = some m.cls) (hcls : Bundle.fit cls = true) (hup : Bundle.fit up = true) (hnames : ∀ n ∈ names, Bundle.fit n = true)
    (hk : (Cond.classLink own ik cls).before args s = true) (hini : (Cond.initialized cls).before args s = true) (hstr : vk_R own is text sa s) (hat : ∀ w ∈ (ctAt own ic cls up ix bs names).filter vx_no, w.before args s = true)
    (hgood : ∀ w ∈ Cond.classLink own ik cls :: Cond.initialized cls :: (ctAt own ic cls up ix bs names).filter vx_no, vx_ot w = true)
    (hU : vx_Zq Bundle.tN "UNASSIGNED_STACK" Bundle.steD A s s.heap) (hN : vx_Zq Bundle.tN "SUPPRESSED_SENTINEL" Bundle.listD A s s.heap) (hS : va_S A s.heap H locs) (hsize : ls.size = c.maxLocals)
    (d0 : decode cc pc = .ok (.new ik, 3)) (d3 : decode cc (pc + 3) = .ok (.dup, 1)) (d4 : decode cc (pc + 4) = .ok (.ldc is, 2)) (d6 : decode cc (pc + 6) = .ok (.invokespecial ic, 3)) (d9 : decode cc (pc + 9) = .ok (.athrow, 1))
    (hout : ∀ x ∈ c.exceptionTable.toList, covers x (pc + 9) = false)
    (hRf : names.length + 4 < R.frames) (hRl : (rest.map fun v => v.category).sum + (13 * (names.length + 2) + 43) ≤ R.locals) (hRc : cells + 1 ≤ R.cells) (hRs : slots + 6 ≤ R.slots) (hlocks : meth.locks = false)
    (hx : ∀ t : State, s.vm.Alike t.vm → H.size ≤ t.heap.size → (∀ q : Nat, q < H.size → t.heap[q]? = H[q]?) → XC cls s t)
    (hf : ∀ z ∈ locs, free z.base) (hc : cells + 1 ≤ mc) (hs : slots + 6 ≤ ms) :
    W p l e R s m args below meth c H locs cells slots (vx_MQ below Qc XC args s mc ms free) (F0 m pc ls rest) := by
  intro T hT X
  have htr : e.platform.stackTraces = false := (show e.platform.stackTraces = l.stackTraces by rw [X.admits.platform]).trans hl
  have Y := vx_rebase X (R' := { frames := R.frames, locals := R.locals, cells := 1, slots := 6 }) (Nat.le_refl _) (Nat.le_refl _) hRc hRs
  obtain ⟨s', hA⟩ : ∃ z, z = (T.setVm s.vm).setFrames (.invoking m args :: below) := ⟨_, rfl⟩
  rw [← hA] at Y
  have hvm : s'.vm = s.vm := by rw [hA]; rfl
  have hhp : s'.heap = H := by rw [hA]; exact hT
  have hW0 : s.WarmedH s'.vm := by rw [hvm]; exact State.WarmedH.refl s
  have mv : ∀ w, vx_ot w = true → w.before args s = true → w.before args s' = true := fun w h1 h2 => vx_ot_at hW0 hvm.symm h1 h2
  have hU' : vx_Zq Bundle.tN "UNASSIGNED_STACK" Bundle.steD A s' s'.heap := by rw [hhp]; exact vx_Zq.moved hW0.alike (hU.kept hS.2.1)
  have hN' : vx_Zq Bundle.tN "SUPPRESSED_SENTINEL" Bundle.listD A s' s'.heap := by rw [hhp]; exact vx_Zq.moved hW0.alike (hN.kept hS.2.1)
  have h : ∀ w ∈ ctAt own ic cls up ix bs names, w.before args s' = true := vx_own (fun w hw => mv w (hgood w (List.mem_cons_of_mem _ (List.mem_cons_of_mem _ hw))) (hat w hw)) (vx_isRefq hU'.1) (vx_isRefq hN'.1) hU'.2.word hN'.2.word
  have hown' : s'.vm.findClass own = some m.cls := by rw [hvm]; exact hown
  have hins : (Cond.instantiable cls 6).before args s' = true := h _ (by simp [ctAt, ctOwn])
  obtain ⟨vm1, cX, kX, hfX, hkX, -, -, X1, st1⟩ := Y.newCold hexec (own := own) (C := cls) (index := ik) (n := 6) hown' (mv _ (hgood _ List.mem_cons_self) hk) hins (mv _ (hgood _ (List.mem_cons_of_mem _ List.mem_cons_self)) hini)
    (g := F0 m pc ls rest) rfl (by rw [hb]; exact d0) (Nat.le_refl _) (Nat.le_refl _)
  generalize hT1 : (T.setVm vm1).pushCell { cls := cX, slots := kX.instanceTypes.map defaultValue, vm := .none } = T1 at X1 st1
  have hcat : (Value.ref T.heap.size).category = 1 := rfl
  have hcellA : T1.heap[T.heap.size]? = some (freshCell cX kX) := by rw [← hT1]; exact State.heap_pushCell_size _ _
  have d3' : decode c.code (pc + 3) = .ok (.dup, 1) := by rw [hb]; exact d3
  have d4' : decode c.code (pc + 4) = .ok (.ldc is, 2) := by rw [hb]; exact d4
  have hstr' : vk_R own is text sa s' := vk_R.warm hW0 hstr
  obtain ⟨U, hsteps, hrun, hend, hW, hsame, ce, hce, hcv, hcl⟩ := ct_ctor X1 hexec htr b0 b1 b2 b5 hown' hcls hup hnames h (fun x hx => nomatch hx) hfX hkX hcellA (by rw [hhp, hT]; exact Nat.le_refl _) (msg := .ref sa) rfl
    (g := { method := m, pc := pc + 6, locals := ls, stack := .ref sa :: .ref T.heap.size :: .ref T.heap.size :: rest, locked := none }) rfl hsize rfl rfl (rest := rest) rfl
    (by rw [hb]; exact d6) (by rw [hb]; exact d9) hout hRf (by simp only [List.map_cons, List.sum_cons, hcat]; omega) hlocks
  obtain ⟨f1, f2⟩ := vx_frame hsame
  rw [hhp] at f1 f2
  have hWs : s.WarmedH U.vm := State.WarmedH.trans hW0 hW
  have hcl' : s.vm.findClass cls = some ce.cls := by
    rw [hvm] at hcl
    exact hcl
  have hall : s.sameButNew ({ U with vm := s.vm } : State) locs mc ms := by
    subst hA
    obtain ⟨e1, e2⟩ := hsame
    rw [State.setFrames_setFrames] at e1
    have h2 : (T.setVm s.vm).sameButNew ({ U with vm := s.vm } : State) [] (0 + 1) (0 + 6) := ⟨e1, e2⟩
    have h3 := X.same.trans h2
    rw [List.append_nil] at h3
    exact h3.mono hc hs
  refine ⟨U, ?_, .threw T.heap.size, hrun, hend, Or.inr ⟨T.heap.size, rfl, cls, ce, locs, hx U hWs.alike f1 (fun q hq => f2 q hq (fun z hz => nomatch hz)), hce, hcv, hcl', hWs, hall, hf⟩⟩
  refine st1 _ ?_
  show Steps p.tables e below (T1.setTop { method := m, pc := pc + 3, locals := ls, stack := .ref T.heap.size :: rest, locked := none }) _
  jvm_step X1.here [X1.here.top, hexec, d3', Value.category]
  exact X1.ldcString hexec (own := own) (text := text) (index := is) (a := sa) hown' hstr'.1 hstr'.2
    (g := { method := m, pc := pc + 4, locals := ls, stack := .ref T.heap.size :: .ref T.heap.size :: rest, locked := none }) rfl d4' _ hsteps
end CTW
abbrev ctNs : List Cond := (ctAt RX11 182 "java/util/NoSuchElementException" "java/lang/RuntimeException" 13 prog_32_method_4_code ["java/lang/Exception"]).filter vx_no
theorem ctNs_0 : decode prog_32_method_4_code 0 = .ok (.aload_n 0, 1) := by decide +kernel
theorem ctNs_1 : decode prog_32_method_4_code 1 = .ok (.aload_n 1, 1) := by decide +kernel
theorem ctNs_2 : decode prog_32_method_4_code 2 = .ok (.invokespecial 13, 3) := by decide +kernel
theorem ctNs_5 : decode prog_32_method_4_code 5 = .ok (.return_, 1) := by decide +kernel
theorem ctNs_good : ∀ w ∈ ctNs.filter goodWord, w ∈ lw_tbl := by decide +kernel
theorem ctNs_tab : ∀ w ∈ xthr2, w.onTables = true := by decide +kernel
theorem ctNs_bad : ∀ w ∈ ctNs.filter (fun w => !goodWord w), w ∈ xthr2 := by decide +kernel
theorem xat2 {args : Array Value} {s : State} (hts : ∀ w ∈ xgt, w.before args s = true) (h : ∀ w ∈ xthr2, va_Nw w s) : ∀ w ∈ ctNs, w.before args s = true := by
  intro w hw
  by_cases hg : goodWord w = true
  · exact hts w (List.mem_filter.mpr ⟨ctNs_good w (List.mem_filter.mpr ⟨hw, hg⟩), hg⟩)
  · have hx : w ∈ xthr2 := ctNs_bad w (List.mem_filter.mpr ⟨hw, by simpa using hg⟩)
    exact va_Nw.use (ctNs_tab w hx) (h w hx)
end
section
/-! look: it returns, or throws one of two -/
theorem xthr_good : ∀ w ∈ (vx_atS RX11 153 "java/lang/IndexOutOfBoundsException" ["java/lang/RuntimeException", "java/lang/Exception"]).filter goodWord, w ∈ lw_tbl := by decide +kernel
theorem xthr_tab : ∀ w ∈ xthr, w.onTables = true := by decide +kernel
theorem xat {args : Array Value} {s : State} (hts : ∀ w ∈ xgt, w.before args s = true) (h : ∀ w ∈ xthr, va_Nw w s) : ∀ w ∈ vx_atS RX11 153 "java/lang/IndexOutOfBoundsException" ["java/lang/RuntimeException", "java/lang/Exception"], w.before args s = true := by
  intro w hw
  by_cases hg : goodWord w = true
  · exact hts w (List.mem_filter.mpr ⟨xthr_good w (List.mem_filter.mpr ⟨hw, hg⟩), hg⟩)
  · have hx : w ∈ xthr := List.mem_filter.mpr ⟨hw, by simpa using hg⟩
    exact va_Nw.use (xthr_tab w hx) (h w hx)
theorem xA_lo {b n sz q : Nat} (h : b ≤ sz) (hq : xA b n sz q) : b ≤ q := by
  rcases hq with hq | hq
  · exact hq.1
  · omega
abbrev lkRm : Room := { frames := 12, cells := 1, slots := 6, locals := 1000 }
abbrev lkWs : List Cond := .code yX11_look cX11_look 3 (some .int) :: xgt
abbrev lkX (E : yE) (mem : yMem) (sz : Nat) : String → State → State → Prop := vx_X (fun _ : Unit => True) (fun C _ t => (C = "java/lang/IndexOutOfBoundsException" ∨ C = "java/util/NoSuchElementException") ∧ va_P (yD E) vwCl (yW E mem) t.heap) (xA (yb E) ysh.length sz)
abbrev lkQ (E : yE) (mem : yMem) (sz : Nat) : Array Value → State → Outcome → State → Prop := va_Qi (fun (_ : Int32) (_ : Unit) => True) (fun _ t => va_P (yD E) vwCl (yW E mem) t.heap) (xA (yb E) ysh.length sz)
set_option maxHeartbeats 4000000 in
theorem y_look {E : yE} (hE : yEok E) {mem : yMem} (hG : aGok mem) (x y : Int) (sz : Nat) (hb : yb E + ysh.length ≤ sz) : vx_Met (yl E) yX11_look lkWs lkRm (va_Pc [.ref (yb E + 0), .int (iI x), .int (iI y)] (yPp E mem sz)) (lkQ E mem sz) (lkX E mem sz) 1 6 (xA (yb E) ysh.length sz) := by
  refine vx_ofW (cc := cX11_look) (maxL := 3) (ret := some .int) (by decide +kernel) rfl ?_
  intro p e s m args below meth c s₁ B hml htab hvv
  obtain ⟨rfl, hPp⟩ := hvv
  have hts := atoms_spec (ws := lkWs) B.pre
  have hC : yCtx E xm_LK p s m ([Value.ref (yb E + 0), Value.int (iI x), Value.int (iI y)] : List Value).toArray meth c (xA (yb E) ysh.length sz) := yw_ctx B rfl rfl hml rfl rfl (fun w hw => hts w (List.mem_cons_of_mem _ hw)) hb hPp
  obtain ⟨hsz, hP, hK, hEX⟩ := hPp
  have hl := lv_entry ([.ref (yb E + 0), .int (iI x), .int (iI y)]) (n := 3) (Nat.le_of_ble_eq_true rfl)
  rw [lg_entry_eq]
  generalize (lg_sl ([.ref (yb E + 0), .int (iI x), .int (iI y)]) ++ List.replicate (3 - (lg_sl ([.ref (yb E + 0), .int (iI x), .int (iI y)])).length) Slot.unset).toArray = ls at hl ⊢
  have hl : lv_has ls 3 (ydL E (lklv x y)) := hl
  have hR : ∀ ce sl, ce ≤ 1 → sl ≤ 6 → yRm (headSpec lkWs lkRm).room 2 ce sl := fun ce sl h1 h2 => ⟨⟨by decide, by decide⟩, h1, h2⟩
  have C := hC.1.1
  refine lv_aload_n C.1 C.2.1 dX11_look_0 rfl (lv_at hl 0 rfl) ?_
  refine yw_getf (i := 0) (v := (1, 2)) (lko (show xfind xk_LK 1 = some (16, 4, 11, 1, []) from rfl)) rfl rfl hC hP ?_
  refine yw_getf (i := 2) (v := (1, 5)) (lko (show xfind xk_LK 4 = some (16, 7, 4, 1, []) from rfl)) rfl rfl hC hP ?_
  refine lv_iload_n C.1 C.2.1 dX11_look_7 rfl (lv_at hl 1 rfl) ?_
  obtain ⟨-, M', hmi, hc, q6, hq6, hqn⟩ := lko (show xfind xk_LK 8 = some (28, 11, 103, 6, []) from rfl)
  have hmi' : M' = xm_103 := by
    have h2 : xmt[103]? = some xm_103 := rfl
    rw [show xmt[((28, 11, 103, 6, []) : xOp).2.2.1]? = xmt[103]? from rfl, h2] at hmi
    exact (Option.some.inj hmi).symm
  subst hmi'
  have g51 := ag hG 5 1 ag_5_1
  refine yw_call (st := [(0, x), (1, 5)]) (rest := []) hC va_S.rf (y_runV (d := 2) (ci := 6) (z := 5) (avs := [(0, x)]) (rest := []) (st := [(0, x), (1, 5)]) (Pc := fun r m => m = mem ∧ ((r = some (0, 1) ∧ 0 ≤ w32 x ∧ w32 x < 6) ∨ r = some (0, 0))) hE (xmt_ok _ _ hmi) hc (by decide) ⟨by decide, by decide⟩ ⟨by decide, by decide⟩ rfl hq6 hqn rfl rfl (by decide) (c_holds5 hE (by decide) (fun h1 h2 => ⟨rfl, Or.inl ⟨rfl, h1, by omega⟩⟩) ⟨rfl, Or.inr rfl⟩) p e s m _ below meth c _ hC _ _ ls hl hP va_S.rf) (fun r mem' H1 locs1 hr hP1 hS1 => ?_)
  obtain ⟨rfl, hr⟩ := hr
  have hF := (hE.2.2.2 s hEX)
  have hAB : ∀ q, xA (yb E) ysh.length sz q → yb E ≤ q := fun q hq => xA_lo (by omega) hq
  obtain ⟨hU, hN, hstr, hthr, -, hstr2, hthr2⟩ := hF.2.2.2.2.2.2.2
  have hxc : ∀ (C0 : String), (C0 = "java/lang/IndexOutOfBoundsException" ∨ C0 = "java/util/NoSuchElementException") → ∀ t : State, s.vm.Alike t.vm → H1.size ≤ t.heap.size → (∀ q : Nat, q < H1.size → t.heap[q]? = H1[q]?) → lkX E mem' sz C0 s t := fun C0 hC0 t hv1 hz2 hk2 =>
    ⟨(), trivial, ⟨hC0, hP1.kept (fun k q hq => hk2 q.1 ((hP1 k q hq).lt))⟩, Nat.le_trans hS1.1 hz2, fun q hq hn => (hk2 q (Nat.lt_of_lt_of_le hq hS1.1)).trans (hS1.2.1 q hq hn)⟩
  rcases hr with ⟨rfl, hx0, hx6⟩ | rfl
  · refine lv_if_ne (tgt := 24) C.1 C.2.1 dX11_look_11 (by decide) (fun _ => ?_) (fun h0 => absurd (show iI 1 = 0 from h0) (by decide))
    have hQ : ∀ (r : Option yV) (m9 : yMem) (t : State), ((∃ v, r = some (0, v)) ∧ m9 = mem') → va_P (yD E) vwCl (yW E m9) t.heap → va_F (xA (yb E) ysh.length sz) s t → lkQ E mem' sz ([Value.ref (yb E + 0), Value.int (iI x), Value.int (iI y)] : List Value).toArray s (.returned (r.map (ydv E))) t := by
      rintro r m9 t ⟨⟨v, rfl⟩, rfl⟩ k1 k2
      exact ⟨⟨iI v, (), rfl, trivial, k1⟩, k2⟩
    have norm : ∀ pc, (yG E (headSpec lkWs lkRm).room xm_LK pc (lklv x y) [] mem' 0 0 (fun r m9 => (∃ v, r = some (0, v)) ∧ m9 = mem')) → W p (yl E) e (headSpec lkWs lkRm).room s m ([Value.ref (yb E + 0), Value.int (iI x), Value.int (iI y)] : List Value).toArray below meth c H1 locs1 (0 + 0) (0 + 0) (vx_MQ below (lkQ E mem' sz) (lkX E mem' sz) ([Value.ref (yb E + 0), Value.int (iI x), Value.int (iI y)] : List Value).toArray s 1 6 (xA (yb E) ysh.length sz)) (F0 m pc ls []) := fun pc h => vx_ret (h p e s m _ below meth c _ _ hC hQ H1 locs1 ls hl hP1 hS1)
    refine lv_iload_n C.1 C.2.1 dX11_look_24 rfl (lv_at hl 2 rfl) ?_
    refine lko (show xfind xk_LK 25 = some (15, 0, 146, 0, [(0, 64), (1, 74), (2, 84), (3, 94), (4, 104), (5, 114)]) from rfl) p (yl E) e _ s m _ below meth c _ _ _ _ _ ls _ C (iI y) ?_
    by_cases hy : ∃ q ∈ ([(0, 64), (1, 74), (2, 84), (3, 94), (4, 104), (5, 114)] : List (Nat × Nat)), iI y = nI q.1
    · obtain ⟨q, hq, hq2⟩ := hy
      refine Or.inl ⟨q, hq, hq2, norm _ ?_⟩
      have ok : ∀ v, (∃ v', some ((0, v) : yV) = some (0, v')) ∧ mem' = mem' := fun v => ⟨⟨v, rfl⟩, rfl⟩
      simp only [List.mem_cons, List.not_mem_nil, or_false] at hq
      rcases hq with rfl | rfl | rfl | rfl | rfl | rfl
      · exact lk_get (c1 := 2) (c2 := 13) (n := 6) hE (hR 0 0 (by decide) (by decide)) rfl rfl rfl rfl rfl rfl rfl rfl rfl rfl rfl hx0 hx6 ok
      · exact lk_get (c1 := 2) (c2 := 14) (n := 6) hE (hR 0 0 (by decide) (by decide)) rfl rfl rfl rfl rfl rfl rfl rfl rfl rfl rfl hx0 hx6 ok
      · exact lk_get (c1 := 2) (c2 := 15) (n := 6) hE (hR 0 0 (by decide) (by decide)) rfl rfl rfl rfl rfl rfl rfl rfl rfl rfl rfl hx0 hx6 ok
      · exact lk_get (c1 := 2) (c2 := 16) (n := 6) hE (hR 0 0 (by decide) (by decide)) rfl rfl rfl rfl rfl rfl rfl rfl rfl rfl rfl hx0 hx6 ok
      · exact lk_get (c1 := 57) (c2 := 59) (n := 6) hE (hR 0 0 (by decide) (by decide)) rfl rfl rfl rfl rfl rfl rfl rfl rfl rfl rfl hx0 hx6 ok
      · exact lk_5 hE (hR 0 0 (by decide) (by decide)) ok
    · refine Or.inr ⟨fun q hq hq2 => hy ⟨q, hq, hq2⟩, ?_⟩
      exact ct_throw C.1 C.2.1 hE.1 (own := RX11) (cls := "java/util/NoSuchElementException") (up := "java/lang/RuntimeException") (names := ["java/lang/Exception"]) (ik := 178) (is := 180) (ic := 182) (A := xA (yb E) ysh.length sz) ctNs_0 ctNs_1 ctNs_2 ctNs_5 C.2.2.1 (by decide +kernel) (by decide +kernel) (by decide +kernel) (C.2.2.2 _ (xwm 1369 (by decide +kernel) (by decide +kernel))) (C.2.2.2 _ (xwm 140 (by decide +kernel) (by decide +kernel))) hstr2 (xat2 C.2.2.2 hthr2) (by decide +kernel) (hU.narrow hAB) (hN.narrow hAB) hS1 (by rw [hml]; exact hl.1) dX11_look_146 dX11_look_149 dX11_look_150 dX11_look_152 dX11_look_155 (fun z hz => absurd hz (fun hz => htab z hz)) (by decide) (Nat.le_of_ble_eq_true rfl) (Nat.le_of_ble_eq_true rfl) (Nat.le_of_ble_eq_true rfl) B.notSynchronized (hxc _ (Or.inr rfl)) (fun z hz => hS1.2.2 z hz) (Nat.le_of_ble_eq_true rfl) (Nat.le_of_ble_eq_true rfl)
  · refine lv_if_ne (tgt := 24) C.1 C.2.1 dX11_look_11 (by decide) (fun h0 => absurd (show iI 0 = 0 from by decide) h0) (fun _ => ?_)
    exact vx_throwS C.1 C.2.1 hE.1 (own := RX11) (cls := "java/lang/IndexOutOfBoundsException") (names := ["java/lang/RuntimeException", "java/lang/Exception"]) (ik := 149) (is := 151) (ic := 153) (A := xA (yb E) ysh.length sz) C.2.2.1 (by decide +kernel) (by decide +kernel) (C.2.2.2 _ (xwm 1303 (by decide +kernel) (by decide +kernel))) (C.2.2.2 _ (xwm 139 (by decide +kernel) (by decide +kernel))) hstr (xat C.2.2.2 hthr) (by decide +kernel) (hU.narrow hAB) (hN.narrow hAB) hS1 (by rw [hml]; exact hl.1) dX11_look_14 dX11_look_17 dX11_look_18 dX11_look_20 dX11_look_23 (fun z hz => absurd hz (fun hz => htab z hz)) (by decide) (Nat.le_of_ble_eq_true rfl) (Nat.le_of_ble_eq_true rfl) (Nat.le_of_ble_eq_true rfl) B.notSynchronized (hxc _ (Or.inl rfl)) (fun z hz => hS1.2.2 z hz) (Nat.le_of_ble_eq_true rfl) (Nat.le_of_ble_eq_true rfl)
end
section
/-! WHAT A TEXT SAYS: its tokens. ch: the bytes (0 to 255), n: how many; from a on -/
def sRn (ch : Nat → Int) (lo hi : Int) (n a e : Nat) : Prop := a ≤ e ∧ e ≤ n ∧ (∀ j, a ≤ j → j < e → lo ≤ ch j ∧ ch j ≤ hi) ∧ (e < n → ¬ (lo ≤ ch e ∧ ch e ≤ hi))
def sBk (ch : Nat → Int) (n a p : Nat) : Prop := a ≤ p ∧ p ≤ n ∧ (∀ j, a ≤ j → j < p → ch j = 10 ∨ ch j = 32) ∧ (p < n → ¬ (ch p = 10 ∨ ch p = 32))
def sNm (ch : Nat → Int) (p : Nat) : Nat → Int
  | 0 => 0
  | k + 1 => min (10 * sNm ch p k + (ch (p + k) - 48)) 100000
def sLt (ch : Nat → Int) (p e k : Nat) : Int := if p + k < e then ch (p + k) - 96 else 0
def sPk (ch : Nat → Int) (p e : Nat) : Int := zix (sLt ch p e) 32 6
def sWd : List Int := [672863822, 754224288, 744049824, 68523584, 559500448, 642945024, 404455424, 83656704, 538687488, 507661312, 538529792, 156401664, 119573856, 522190848, 48365568, 486146048, 139546624, 605688832, 486151776, 609866336, 278110208, 777169920, 538530400]
def sWi : List Int → Int → Nat → Nat
  | [], _, _ => 3
  | w :: r, v, i => if v = w then i else sWi r v (i + 1)
def sWk (v : Int) : Nat := sWi sWd v 17
/-- a sign's kind and length -/
def sSg (c b : Int) : Nat × Nat := if c = 59 then (4, 1) else if c = 40 then (5, 1) else if c = 41 then (6, 1) else if c = 60 then (if b = 61 then (8, 2) else if b = 62 then (10, 2) else (7, 1)) else if c = 61 then (9, 1) else if c = 62 then (if b = 61 then (11, 2) else (12, 1)) else if c = 43 then (13, 1) else if c = 45 then (14, 1) else if c = 42 then (15, 1) else if c = 47 then (16, 1) else (1, 1)
/-- the token from a on: its kind, place, value, end -/
def sTk (ch : Nat → Int) (n a k p : Nat) (v : Int) (e : Nat) : Prop := sBk ch n a p ∧
  ((p = n ∧ k = 0 ∧ v = 0 ∧ e = n) ∨
   (p < n ∧ (97 ≤ ch p ∧ ch p ≤ 122) ∧ sRn ch 97 122 n p e ∧ ((p + 6 < e ∧ k = 1 ∧ v = 0) ∨ (e ≤ p + 6 ∧ k = sWk (sPk ch p e) ∧ v = sPk ch p e))) ∨
   (p < n ∧ (48 ≤ ch p ∧ ch p ≤ 57) ∧ sRn ch 48 57 n p e ∧ k = 2 ∧ v = sNm ch p (e - p)) ∨
   (p < n ∧ ¬ (97 ≤ ch p ∧ ch p ≤ 122) ∧ ¬ (48 ≤ ch p ∧ ch p ≤ 57) ∧ k = (sSg (ch p) (if p + 1 < n then ch (p + 1) else 0)).1 ∧ e = p + (sSg (ch p) (if p + 1 < n then ch (p + 1) else 0)).2 ∧ v = 0))
theorem sRn_u {ch : Nat → Int} {lo hi : Int} {n a e e' : Nat} (h : sRn ch lo hi n a e) (h' : sRn ch lo hi n a e') : e = e' := by
  obtain ⟨h1, h2, h3, h4⟩ := h
  obtain ⟨g1, g2, g3, g4⟩ := h'
  rcases Nat.lt_trichotomy e e' with hl | hl | hl
  · exact absurd (g3 e h1 hl) (h4 (by omega))
  · exact hl
  · exact absurd (h3 e' g1 hl) (g4 (by omega))
theorem sBk_u {ch : Nat → Int} {n a p p' : Nat} (h : sBk ch n a p) (h' : sBk ch n a p') : p = p' := by
  obtain ⟨h1, h2, h3, h4⟩ := h
  obtain ⟨g1, g2, g3, g4⟩ := h'
  rcases Nat.lt_trichotomy p p' with hl | hl | hl
  · exact absurd (g3 p h1 hl) (h4 (by omega))
  · exact hl
  · exact absurd (h3 p' g1 hl) (g4 (by omega))
/-- there is but one -/
theorem sTk_u {ch : Nat → Int} {n a k p e k' p' e' : Nat} {v v' : Int} (h : sTk ch n a k p v e) (h' : sTk ch n a k' p' v' e') : k = k' ∧ p = p' ∧ v = v' ∧ e = e' := by
  obtain ⟨hb, h⟩ := h
  obtain ⟨gb, g⟩ := h'
  have hp := sBk_u hb gb
  subst hp
  rcases h with ⟨h1, h2, h3, h4⟩ | ⟨h1, h2, h3, h4⟩ | ⟨h1, h2, h3, h4, h5⟩ | ⟨h1, h2, h3, h4, h5, h6⟩ <;> rcases g with ⟨g1, g2, g3, g4⟩ | ⟨g1, g2, g3, g4⟩ | ⟨g1, g2, g3, g4, g5⟩ | ⟨g1, g2, g3, g4, g5, g6⟩
  · exact ⟨by rw [h2, g2], rfl, by rw [h3, g3], by rw [h4, g4]⟩
  · omega
  · omega
  · omega
  · omega
  · have he := sRn_u h3 g3
    subst he
    rcases h4 with ⟨a1, a2, a3⟩ | ⟨a1, a2, a3⟩ <;> rcases g4 with ⟨b1, b2, b3⟩ | ⟨b1, b2, b3⟩
    · exact ⟨by rw [a2, b2], rfl, by rw [a3, b3], rfl⟩
    · omega
    · omega
    · exact ⟨by rw [a2, b2], rfl, by rw [a3, b3], rfl⟩
  · omega
  · exact absurd h2 g2
  · omega
  · omega
  · have he := sRn_u h3 g3
    subst he
    exact ⟨by rw [h4, g4], rfl, by rw [h5, g5], rfl⟩
  · exact absurd h2 g3
  · omega
  · exact absurd g2 h2
  · exact absurd g2 h3
  · exact ⟨by rw [h4, g4], rfl, by rw [h6, g6], by rw [h5, g5]⟩
theorem sSg_l (c b : Int) : 1 ≤ (sSg c b).2 ∧ (sSg c b).2 ≤ 2 ∧ ((sSg c b).2 = 2 → b = 61 ∨ b = 62) := by
  unfold sSg
  repeat' split
  all_goals first | (refine ⟨by decide, by decide, fun h => ?_⟩; first | exact absurd h (by decide) | exact Or.inl (by assumption) | exact Or.inr (by assumption))
theorem sSg_2 (c b : Int) : ((sSg c b).2 = 2 ∧ ((sSg c b).1 = 8 ∨ (sSg c b).1 = 10 ∨ (sSg c b).1 = 11)) ∨ ((sSg c b).2 = 1 ∧ ¬ (sSg c b).1 = 8 ∧ ¬ (sSg c b).1 = 10 ∧ ¬ (sSg c b).1 = 11) := by
  unfold sSg
  repeat' split
  all_goals decide
/-- a token that isn't the end has its bytes -/
theorem sTk_lt {ch : Nat → Int} {n a k p e : Nat} {v : Int} (h : sTk ch n a k p v e) : a ≤ p ∧ p ≤ e ∧ e ≤ n ∧ (¬ k = 0 → p < e) := by
  obtain ⟨⟨b1, b2, b3, b4⟩, h⟩ := h
  rcases h with ⟨h1, h2, h3, h4⟩ | ⟨h1, h2, h3, h4⟩ | ⟨h1, h2, h3, h4, h5⟩ | ⟨h1, h2, h3, h4, h5, h6⟩
  · exact ⟨b1, by omega, by omega, fun h => absurd h2 h⟩
  · have hlt : p < e := by
      rcases Nat.lt_or_ge p e with h | h
      · exact h
      · have : e = p := by have := h3.1; omega
        subst this
        exact absurd h2 (h3.2.2.2 h1)
    exact ⟨b1, by omega, h3.2.1, fun _ => hlt⟩
  · have hlt : p < e := by
      rcases Nat.lt_or_ge p e with h | h
      · exact h
      · have : e = p := by have := h3.1; omega
        subst this
        exact absurd h2 (h3.2.2.2 h1)
    exact ⟨b1, by omega, h3.2.1, fun _ => hlt⟩
  · have hl := sSg_l (ch p) (if p + 1 < n then ch (p + 1) else 0)
    refine ⟨b1, by omega, ?_, fun _ => by omega⟩
    by_cases hn : p + 1 < n
    · omega
    · rw [if_neg hn] at hl h5
      have : ¬ (sSg (ch p) 0).2 = 2 := fun h => by
        rcases hl.2.2 h with h | h <;> exact absurd h (by decide)
      omega
/-! words -/
def sgm (m j : Nat) : Int := if j < zwe.getD m 0 - zws.getD m 0 then ((zW (zws.getD m 0 + j) : Nat) : Int) - 96 else 0
/-- the reference's word m among the class's -/
def sPm (m : Nat) : Nat := [0, 1, 2, 3, 4, 5, 6, 10, 7, 8, 9, 11, 12, 13, 14, 15, 16, 17, 18, 19, 20, 21, 22].getD m 0
def sRw (k : Nat) : Int := [0, 1, 2, 3, 4, 5, 6, 8, 9, 10, 7, 11, 12, 13, 14, 15, 16, 17, 18, 19, 20, 21, 22].getD (k - 17) 0
theorem sgm_ok : ∀ m : Nat, m < 23 → zix (sgm m) 32 6 = sWd.getD (sPm m) 0 ∧ sWk (sWd.getD (sPm m) 0) = 17 + sPm m ∧ sRw (17 + sPm m) = (m : Int) ∧ sPm m < 23 := by decide +kernel
theorem sgm_l : ∀ m : Nat, m < 23 → 1 ≤ zwe.getD m 0 - zws.getD m 0 ∧ zwe.getD m 0 - zws.getD m 0 ≤ 6 ∧ zws.getD m 0 ≤ zwe.getD m 0 := by decide +kernel
theorem sgm_d : ∀ m : Nat, m < 23 → ∀ j : Nat, j < 6 → 0 ≤ sgm m j ∧ sgm m j < 32 ∧ (j < zwe.getD m 0 - zws.getD m 0 ↔ 1 ≤ sgm m j) := by decide +kernel
theorem sWd_all : ∀ i : Nat, i < 23 → ∃ m : Nat, m < 23 ∧ sWd.getD i 0 = sWd.getD (sPm m) 0 := by decide +kernel
/-- the letters from p to e are word m -/
def sMt (ch : Nat → Int) (p e m : Nat) : Prop := e - p = zwe.getD m 0 - zws.getD m 0 ∧ ∀ i, i < zwe.getD m 0 - zws.getD m 0 → ch (p + i) = ((zW (zws.getD m 0 + i) : Nat) : Int)
theorem sLt_d {ch : Nat → Int} {p e : Nat} (hl : ∀ j, p ≤ j → j < e → 97 ≤ ch j ∧ ch j ≤ 122) (j : Nat) : 0 ≤ sLt ch p e j ∧ sLt ch p e j < 32 ∧ (p + j < e ↔ 1 ≤ sLt ch p e j) := by
  unfold sLt
  split
  · next h =>
    have := hl (p + j) (by omega) h
    omega
  · next h => omega
theorem sMt_pk {ch : Nat → Int} {p e : Nat} (hpe : p ≤ e) (h6 : e ≤ p + 6) (hl : ∀ j, p ≤ j → j < e → 97 ≤ ch j ∧ ch j ≤ 122) {m : Nat} (hm : m < 23) : sMt ch p e m ↔ sPk ch p e = sWd.getD (sPm m) 0 := by
  have l1 := sgm_l m hm
  constructor
  · rintro ⟨h1, h2⟩
    rw [← (sgm_ok m hm).1]
    refine zix_ext 6 (fun j hj => ?_)
    unfold sLt sgm
    by_cases hj2 : j < zwe.getD m 0 - zws.getD m 0
    · rw [if_pos (by omega), if_pos hj2, h2 j hj2]
    · rw [if_neg (by omega), if_neg hj2]
  · intro h
    rw [← (sgm_ok m hm).1] at h
    have wd : ∀ x : Int, 0 ≤ x → x < 32 → w32 x = x := fun x a b => w32_of (by omega) (by omega)
    have dg := zix_inj (f := sLt ch p e) (g := sgm m) (b := 32) (by decide) 6 (fun j _ => by
      have := sLt_d hl j
      rw [wd _ this.1 this.2.1]
      exact ⟨this.1, this.2.1⟩) (fun j hj => by
      have := sgm_d m hm j hj
      rw [wd _ this.1 this.2.1]
      exact ⟨this.1, this.2.1⟩) h
    have de : ∀ j, j < 6 → sLt ch p e j = sgm m j := fun j hj => by
      have a := sLt_d hl j
      have b := sgm_d m hm j hj
      have := dg j hj
      rw [wd _ a.1 a.2.1, wd _ b.1 b.2.1] at this
      exact this
    have iff : ∀ j, j < 6 → (p + j < e ↔ j < zwe.getD m 0 - zws.getD m 0) := fun j hj => by
      rw [(sLt_d hl j).2.2, (sgm_d m hm j hj).2.2, de j hj]
    have hlen : e - p = zwe.getD m 0 - zws.getD m 0 := by
      rcases Nat.lt_trichotomy (e - p) (zwe.getD m 0 - zws.getD m 0) with hlt | heq | hgt
      · have := (iff (e - p) (by omega)).mpr hlt
        omega
      · exact heq
      · have := (iff (zwe.getD m 0 - zws.getD m 0) (by omega)).mp (by omega)
        omega
    refine ⟨hlen, fun i hi => ?_⟩
    have := de i (by omega)
    unfold sLt sgm at this
    rw [if_pos (by omega), if_pos hi] at this
    omega
theorem sWi_no {v : Int} : ∀ (l : List Int) (i : Nat), (∀ j, j < l.length → ¬ v = l.getD j 0) → sWi l v i = 3
  | [], _, _ => rfl
  | w :: r, i, h => by
    simp only [sWi]
    have h0 := h 0 (by simp)
    simp only [List.getD_cons_zero] at h0
    rw [if_neg h0]
    exact sWi_no r (i + 1) (fun j hj => by
      have := h (j + 1) (by simp; omega)
      simpa using this)
/-- a run of letters that is a word, and one that is none -/
theorem sWk_yes {ch : Nat → Int} {p e : Nat} (hpe : p ≤ e) (hl : ∀ j, p ≤ j → j < e → 97 ≤ ch j ∧ ch j ≤ 122) {m : Nat} (hm : m < 23) (h : sMt ch p e m) : e ≤ p + 6 ∧ sWk (sPk ch p e) = 17 + sPm m := by
  have h6 : e ≤ p + 6 := by have := h.1; have := (sgm_l m hm).2.1; omega
  rw [(sMt_pk hpe h6 hl hm).mp h]
  exact ⟨h6, (sgm_ok m hm).2.1⟩
theorem sWk_no {ch : Nat → Int} {p e : Nat} (hpe : p ≤ e) (h6 : e ≤ p + 6) (hl : ∀ j, p ≤ j → j < e → 97 ≤ ch j ∧ ch j ≤ 122) (h : ∀ m, m < 23 → ¬ sMt ch p e m) : sWk (sPk ch p e) = 3 := by
  refine sWi_no sWd 17 (fun j hj hv => ?_)
  obtain ⟨m, hm, e1⟩ := sWd_all j hj
  rw [e1] at hv
  exact h m hm ((sMt_pk hpe h6 hl hm).mpr hv)
/-- how the reference holds a token -/
def sSc (k : Nat) : Int := [59, 40, 41, 60, 256, 61, 257, 258, 62, 43, 45, 42, 47].getD (k - 4) 0
def sRk (so va : Int) (k : Nat) (v : Int) : Prop := (k = 0 ∧ so = 4) ∨ (k = 1 ∧ so = 5) ∨ (k = 2 ∧ so = 2 ∧ 0 ≤ va ∧ min va 100000 = v) ∨ (k = 3 ∧ so = 1 ∧ va = v) ∨ (4 ≤ k ∧ k ≤ 16 ∧ so = 3 ∧ va = sSc k) ∨ (17 ≤ k ∧ k ≤ 39 ∧ so = 0 ∧ va = sRw k)
end
section
/-! THE REFERENCE'S TOKENS, as they are -/
theorem iI_natE {x : Int} {a : Nat} (h : w32 x = (a : Int)) : iI x = nI a := by rw [← iI_n, ← h, iI_w]
theorem w32_nI {a : Nat} (h : a < 2147483648) : w32 (nI a).toInt = (a : Int) := by
  show (Int32.ofInt (nI a).toInt).toInt = _
  rw [Int32.ofInt_toInt, ← iI_n]
  exact w32_of (by omega) (by omega)
theorem bb31 : ∀ s : Nat, s < 32 → (nI s &&& 31) = nI s ∧ ((nI s).toBitVec.smod 32).toNat = s := by decide +kernel
theorem yb_shl {x y : Int} {a s : Nat} (hx : w32 x = (a : Int)) (hy : w32 y = (s : Int)) (hs : s < 32) (h : a * 2 ^ s < 2147483648) : w32 (ybin 6 x y) = ((a * 2 ^ s : Nat) : Int) := by
  show w32 (fbin 6 (iI x) (iI y)).toInt = _
  rw [iI_natE hx, iI_natE hy]
  show w32 (nI a <<< (nI s &&& 31)).toInt = _
  rw [(bb31 s hs).1, pk_shlN (nI s) s (bb31 s hs).2 (by omega), w32_nI h]
theorem nI_or {p q : Nat} (hp : p < 2 ^ 32) (hq : q < 2 ^ 32) : nI p ||| nI q = nI (p ||| q) := by
  apply Int32.toBitVec_inj.mp
  apply BitVec.eq_of_toNat_eq
  rw [Int32.toBitVec_or, BitVec.toNat_or, pk_tn hp, pk_tn hq, pk_tn (Nat.or_lt_two_pow hp hq)]
theorem yb_or {x y : Int} {a b k : Nat} (hx : w32 x = ((2 ^ k * a : Nat) : Int)) (hy : w32 y = (b : Int)) (hb : b < 2 ^ k) (h : 2 ^ k * a + b < 2147483648) : w32 (ybin 4 x y) = ((2 ^ k * a + b : Nat) : Int) := by
  show w32 (fbin 4 (iI x) (iI y)).toInt = _
  rw [iI_natE hx, iI_natE hy]
  show w32 (nI (2 ^ k * a) ||| nI b).toInt = _
  rw [nI_or (by omega) (by omega), ← Nat.two_pow_add_eq_or_of_lt hb, w32_nI h]
/-- the reference's bytes -/
abbrev rch (mem : yMem) : Nat → Int := fun j => w32 (mem 96 j)
abbrev rpl (mem : yMem) : Nat := (w32 (mem 95 28)).toNat
abbrev rat (mem : yMem) : Nat := (w32 (mem 95 27)).toNat
theorem fw_cmp {E : yE} (hE : yEok E) {d : Nat} {mem : yMem} {Q : Option yV → yMem → Prop} (hp : 0 ≤ w32 (mem 95 28)) (hpe : w32 (mem 95 28) ≤ w32 (mem 95 27)) (ha : w32 (mem 95 27) ≤ 800) {m : Nat} (hm : m < 23) {n k : Int} (hk : w32 k = ((zws.getD m 0 : Nat) : Int)) (hn : sMt (rch mem) (rpl mem) (rat mem) m → Q (some (0, n)) mem) (go : ¬ sMt (rch mem) (rpl mem) (rat mem) m → ∀ r3, zG E (d + 4) xm_252 97 [some (1, 95), some (0, n), some (0, k), r3] [] mem Q) : ∀ (c : Nat) (i : Int), zwe.getD m 0 - (w32 k + w32 i).toNat = c → 0 ≤ w32 i → (w32 k + w32 i).toNat ≤ zwe.getD m 0 → w32 (mem 95 28) + w32 i ≤ w32 (mem 95 27) → (∀ j : Nat, (j : Int) < w32 i → rch mem (rpl mem + j) = ((zW (zws.getD m 0 + j) : Nat) : Int)) → zG E (d + 4) xm_252 15 [some (1, 95), some (0, n), some (0, k), some (0, i)] [] mem Q := by
  obtain ⟨z1, z2, z3⟩ := zword_ok m hm
  have rp : rpl mem = (w32 (mem 95 28)).toNat := rfl
  have ra : rat mem = (w32 (mem 95 27)).toNat := rfl
  intro c
  induction c with
  | zero =>
    intro i hc h0 h2 hpi hM
    refine zgo_ok (n := 60) hE xmo_252 (cs := zc_252) ?_
    have eki : w32 (k + i) = w32 k + w32 i := w32_ad (by omega) (by omega)
    have epi : w32 (mem 95 28 + i) = w32 (mem 95 28) + w32 i := w32_ad (by omega) (by omega)
    have e := (zword_sp m hm (w32 (k + i)).toNat (by omega) (by omega) (by omega)).mpr (by omega)
    have tail : yCon E (d + 4) xm_257 [(5, 2), (0, k + i)] mem (fun v mem' => zgk E (d + 4) xm_252 77 [some (1, 95), some (0, n), some (0, k), some (0, i)] [] v mem' Q) := by
      refine c_charAt hE (by omega) (by omega) (by omega) ?_
      refine zgk_s hE xmo_252 60 zc_252 ?_
      simp only [ynok_30, ynok_31, w32c_0, w32c_1, w32c_2, w32c_3, w32c_4, w32c_5, w32c_6, w32c_7, w32c_8, w32c_9, w32c_10, w32c_11, w32c_12, w32c_13, w32c_14, w32c_m1, w32c_m2, w32c_118, Int.reduceAdd, Int.reduceSub, Int.reduceMul, yput_s, yput_n, znl_n, znl_0, znl_1, znl_4, ysum_n, ysum_0, ysum_1, ysum_4, true_and, and_true, Nat.reduceAdd, Nat.reduceLeDiff, true_implies, eq_self, true_or, or_true, or_false, false_or, not_true_eq_false, not_false_eq_true, false_implies, implies_true, yset_s, yset_o, yset_d, ne_eq, Nat.reduceEqDiff, Int.reduceToNat, Int.reduceEq, Int.reduceLE, Int.reduceLT, Classical.not_not, Nat.reduceLT, ↓zvk_s, ↓zvk_n, ↓s_252_0, ↓s_252_1n, ↓s_252_1i, ↓s_252_1p, ↓s_252_2, ↓s_252_3n, ↓s_252_3i, ↓s_252_3p, ↓g_252_4, ↓k_252_4, ↓s_252_5, ↓s_252_7, ↓s_252_10, ↓s_252_13, ↓s_252_14n, ↓s_252_14i, ↓s_252_14p, ↓g_252_15, ↓k_252_15, ↓s_252_17, ↓s_252_18, ↓s_252_19, ↓s_252_20, ↓s_252_23, ↓s_252_25, ↓s_252_28, ↓s_252_29, ↓s_252_32, ↓s_252_33, ↓s_252_34, ↓s_252_35, ↓s_252_38, ↓s_252_41, ↓s_252_42, ↓s_252_45, ↓s_252_46, ↓s_252_49, ↓s_252_50, ↓s_252_51, ↓s_252_52, ↓s_252_54, ↓s_252_55, ↓s_252_56, ↓s_252_57, ↓s_252_60, ↓s_252_63n, ↓s_252_63i, ↓s_252_63p, ↓s_252_66, ↓s_252_69, ↓s_252_71, ↓s_252_72, ↓s_252_73, ↓s_252_74, ↓s_252_77, ↓s_252_79, ↓s_252_82, ↓s_252_83, ↓s_252_86, ↓s_252_87, ↓s_252_88, ↓s_252_89, ↓s_252_92, ↓s_252_95, ↓s_252_96, ↓g_252_97, ↓k_252_97, ↓s_252_99, ↓s_252_100, ↓s_252_103, ↓s_252_105, ↓s_252_108n, ↓s_252_108i, ↓s_252_108p, ↓s_252_111, ↓s_252_114n, ↓s_252_114i, ↓s_252_114p, ↓s_252_117n, ↓s_252_117i, ↓s_252_117p, ↓s_252_120, ↓s_252_123, ↓s_252_124, w32c_32, zar_96, zia_96, zln_96, zit_96, zio_95]
      rw [e, epi]
      refine ⟨fun h => absurd (show w32 ((32 : Nat) : Int) = 32 by decide) h, fun _ => ⟨fun h => go (fun z => h ?_) _, fun h => hn ⟨?_, fun j hj => hM j (by omega)⟩⟩⟩
      · have := z.1
        omega
      · omega
    simp only [ynok_30, ynok_31, w32c_0, w32c_1, w32c_2, w32c_3, w32c_4, w32c_5, w32c_6, w32c_7, w32c_8, w32c_9, w32c_10, w32c_11, w32c_12, w32c_13, w32c_14, w32c_m1, w32c_m2, w32c_118, Int.reduceAdd, Int.reduceSub, Int.reduceMul, yput_s, yput_n, znl_n, znl_0, znl_1, znl_4, ysum_n, ysum_0, ysum_1, ysum_4, true_and, and_true, Nat.reduceAdd, Nat.reduceLeDiff, true_implies, eq_self, true_or, or_true, or_false, false_or, not_true_eq_false, not_false_eq_true, false_implies, implies_true, yset_s, yset_o, yset_d, ne_eq, Nat.reduceEqDiff, Int.reduceToNat, Int.reduceEq, Int.reduceLE, Int.reduceLT, Classical.not_not, Nat.reduceLT, ↓zvk_s, ↓zvk_n, ↓s_252_0, ↓s_252_1n, ↓s_252_1i, ↓s_252_1p, ↓s_252_2, ↓s_252_3n, ↓s_252_3i, ↓s_252_3p, ↓g_252_4, ↓k_252_4, ↓s_252_5, ↓s_252_7, ↓s_252_10, ↓s_252_13, ↓s_252_14n, ↓s_252_14i, ↓s_252_14p, ↓g_252_15, ↓k_252_15, ↓s_252_17, ↓s_252_18, ↓s_252_19, ↓s_252_20, ↓s_252_23, ↓s_252_25, ↓s_252_28, ↓s_252_29, ↓s_252_32, ↓s_252_33, ↓s_252_34, ↓s_252_35, ↓s_252_38, ↓s_252_41, ↓s_252_42, ↓s_252_45, ↓s_252_46, ↓s_252_49, ↓s_252_50, ↓s_252_51, ↓s_252_52, ↓s_252_54, ↓s_252_55, ↓s_252_56, ↓s_252_57, ↓s_252_60, ↓s_252_63n, ↓s_252_63i, ↓s_252_63p, ↓s_252_66, ↓s_252_69, ↓s_252_71, ↓s_252_72, ↓s_252_73, ↓s_252_74, ↓s_252_77, ↓s_252_79, ↓s_252_82, ↓s_252_83, ↓s_252_86, ↓s_252_87, ↓s_252_88, ↓s_252_89, ↓s_252_92, ↓s_252_95, ↓s_252_96, ↓g_252_97, ↓k_252_97, ↓s_252_99, ↓s_252_100, ↓s_252_103, ↓s_252_105, ↓s_252_108n, ↓s_252_108i, ↓s_252_108p, ↓s_252_111, ↓s_252_114n, ↓s_252_114i, ↓s_252_114p, ↓s_252_117n, ↓s_252_117i, ↓s_252_117p, ↓s_252_120, ↓s_252_123, ↓s_252_124, w32c_32, zar_96, zia_96, zln_96, zit_96, zio_95]
    refine c_charAt hE (by omega) (by omega) (by omega) ?_
    refine zgk_s hE xmo_252 60 zc_252 ?_
    rw [e]
    simp only [ynok_30, ynok_31, w32c_0, w32c_1, w32c_2, w32c_3, w32c_4, w32c_5, w32c_6, w32c_7, w32c_8, w32c_9, w32c_10, w32c_11, w32c_12, w32c_13, w32c_14, w32c_m1, w32c_m2, w32c_118, Int.reduceAdd, Int.reduceSub, Int.reduceMul, yput_s, yput_n, znl_n, znl_0, znl_1, znl_4, ysum_n, ysum_0, ysum_1, ysum_4, true_and, and_true, Nat.reduceAdd, Nat.reduceLeDiff, true_implies, eq_self, true_or, or_true, or_false, false_or, not_true_eq_false, not_false_eq_true, false_implies, implies_true, yset_s, yset_o, yset_d, ne_eq, Nat.reduceEqDiff, Int.reduceToNat, Int.reduceEq, Int.reduceLE, Int.reduceLT, Classical.not_not, Nat.reduceLT, ↓zvk_s, ↓zvk_n, ↓s_252_0, ↓s_252_1n, ↓s_252_1i, ↓s_252_1p, ↓s_252_2, ↓s_252_3n, ↓s_252_3i, ↓s_252_3p, ↓g_252_4, ↓k_252_4, ↓s_252_5, ↓s_252_7, ↓s_252_10, ↓s_252_13, ↓s_252_14n, ↓s_252_14i, ↓s_252_14p, ↓g_252_15, ↓k_252_15, ↓s_252_17, ↓s_252_18, ↓s_252_19, ↓s_252_20, ↓s_252_23, ↓s_252_25, ↓s_252_28, ↓s_252_29, ↓s_252_32, ↓s_252_33, ↓s_252_34, ↓s_252_35, ↓s_252_38, ↓s_252_41, ↓s_252_42, ↓s_252_45, ↓s_252_46, ↓s_252_49, ↓s_252_50, ↓s_252_51, ↓s_252_52, ↓s_252_54, ↓s_252_55, ↓s_252_56, ↓s_252_57, ↓s_252_60, ↓s_252_63n, ↓s_252_63i, ↓s_252_63p, ↓s_252_66, ↓s_252_69, ↓s_252_71, ↓s_252_72, ↓s_252_73, ↓s_252_74, ↓s_252_77, ↓s_252_79, ↓s_252_82, ↓s_252_83, ↓s_252_86, ↓s_252_87, ↓s_252_88, ↓s_252_89, ↓s_252_92, ↓s_252_95, ↓s_252_96, ↓g_252_97, ↓k_252_97, ↓s_252_99, ↓s_252_100, ↓s_252_103, ↓s_252_105, ↓s_252_108n, ↓s_252_108i, ↓s_252_108p, ↓s_252_111, ↓s_252_114n, ↓s_252_114i, ↓s_252_114p, ↓s_252_117n, ↓s_252_117i, ↓s_252_117p, ↓s_252_120, ↓s_252_123, ↓s_252_124, w32c_32, zar_96, zia_96, zln_96, zit_96, zio_95]
    exact ⟨fun _ => tail, fun h => absurd (show w32 ((32 : Nat) : Int) = 32 by decide) h⟩
  | succ c ih =>
    intro i hc h0 h2 hpi hM
    have hi1 : w32 (i + 1) = w32 i + 1 := by rw [w32_ad (by rw [w32c_1]; omega) (by rw [w32c_1]; omega), w32c_1]
    refine zgo_ok (n := 60) hE xmo_252 (cs := zc_252) ?_
    have eki : w32 (k + i) = w32 k + w32 i := w32_ad (by omega) (by omega)
    have epi : w32 (mem 95 28 + i) = w32 (mem 95 28) + w32 i := w32_ad (by omega) (by omega)
    have hz := zW_lt (w32 (k + i)).toNat (by omega)
    have wz : w32 ((zW (w32 (k + i)).toNat : Nat) : Int) = ((zW (w32 (k + i)).toNat : Nat) : Int) := w32_of (by omega) (by omega)
    have e : ¬ zW (w32 (k + i)).toNat = 32 := fun h => by
      have := (zword_sp m hm (w32 (k + i)).toNat (by omega) (by omega) (by omega)).mp h
      omega
    have tail : ¬ sMt (rch mem) (rpl mem) (rat mem) m → yCon E (d + 4) xm_257 [(5, 2), (0, k + i)] mem (fun v mem' => zgk E (d + 4) xm_252 77 [some (1, 95), some (0, n), some (0, k), some (0, i)] [] v mem' Q) := fun hno => by
      refine c_charAt hE (by omega) (by omega) (by omega) ?_
      refine zgk_s hE xmo_252 60 zc_252 ?_
      simp only [ynok_30, ynok_31, w32c_0, w32c_1, w32c_2, w32c_3, w32c_4, w32c_5, w32c_6, w32c_7, w32c_8, w32c_9, w32c_10, w32c_11, w32c_12, w32c_13, w32c_14, w32c_m1, w32c_m2, w32c_118, Int.reduceAdd, Int.reduceSub, Int.reduceMul, yput_s, yput_n, znl_n, znl_0, znl_1, znl_4, ysum_n, ysum_0, ysum_1, ysum_4, true_and, and_true, Nat.reduceAdd, Nat.reduceLeDiff, true_implies, eq_self, true_or, or_true, or_false, false_or, not_true_eq_false, not_false_eq_true, false_implies, implies_true, yset_s, yset_o, yset_d, ne_eq, Nat.reduceEqDiff, Int.reduceToNat, Int.reduceEq, Int.reduceLE, Int.reduceLT, Classical.not_not, Nat.reduceLT, ↓zvk_s, ↓zvk_n, ↓s_252_0, ↓s_252_1n, ↓s_252_1i, ↓s_252_1p, ↓s_252_2, ↓s_252_3n, ↓s_252_3i, ↓s_252_3p, ↓g_252_4, ↓k_252_4, ↓s_252_5, ↓s_252_7, ↓s_252_10, ↓s_252_13, ↓s_252_14n, ↓s_252_14i, ↓s_252_14p, ↓g_252_15, ↓k_252_15, ↓s_252_17, ↓s_252_18, ↓s_252_19, ↓s_252_20, ↓s_252_23, ↓s_252_25, ↓s_252_28, ↓s_252_29, ↓s_252_32, ↓s_252_33, ↓s_252_34, ↓s_252_35, ↓s_252_38, ↓s_252_41, ↓s_252_42, ↓s_252_45, ↓s_252_46, ↓s_252_49, ↓s_252_50, ↓s_252_51, ↓s_252_52, ↓s_252_54, ↓s_252_55, ↓s_252_56, ↓s_252_57, ↓s_252_60, ↓s_252_63n, ↓s_252_63i, ↓s_252_63p, ↓s_252_66, ↓s_252_69, ↓s_252_71, ↓s_252_72, ↓s_252_73, ↓s_252_74, ↓s_252_77, ↓s_252_79, ↓s_252_82, ↓s_252_83, ↓s_252_86, ↓s_252_87, ↓s_252_88, ↓s_252_89, ↓s_252_92, ↓s_252_95, ↓s_252_96, ↓g_252_97, ↓k_252_97, ↓s_252_99, ↓s_252_100, ↓s_252_103, ↓s_252_105, ↓s_252_108n, ↓s_252_108i, ↓s_252_108p, ↓s_252_111, ↓s_252_114n, ↓s_252_114i, ↓s_252_114p, ↓s_252_117n, ↓s_252_117i, ↓s_252_117p, ↓s_252_120, ↓s_252_123, ↓s_252_124, w32c_32, zar_96, zia_96, zln_96, zit_96, zio_95]
      rw [wz]
      exact ⟨fun _ => go hno _, fun h => absurd h (by omega)⟩
    simp only [ynok_30, ynok_31, w32c_0, w32c_1, w32c_2, w32c_3, w32c_4, w32c_5, w32c_6, w32c_7, w32c_8, w32c_9, w32c_10, w32c_11, w32c_12, w32c_13, w32c_14, w32c_m1, w32c_m2, w32c_118, Int.reduceAdd, Int.reduceSub, Int.reduceMul, yput_s, yput_n, znl_n, znl_0, znl_1, znl_4, ysum_n, ysum_0, ysum_1, ysum_4, true_and, and_true, Nat.reduceAdd, Nat.reduceLeDiff, true_implies, eq_self, true_or, or_true, or_false, false_or, not_true_eq_false, not_false_eq_true, false_implies, implies_true, yset_s, yset_o, yset_d, ne_eq, Nat.reduceEqDiff, Int.reduceToNat, Int.reduceEq, Int.reduceLE, Int.reduceLT, Classical.not_not, Nat.reduceLT, ↓zvk_s, ↓zvk_n, ↓s_252_0, ↓s_252_1n, ↓s_252_1i, ↓s_252_1p, ↓s_252_2, ↓s_252_3n, ↓s_252_3i, ↓s_252_3p, ↓g_252_4, ↓k_252_4, ↓s_252_5, ↓s_252_7, ↓s_252_10, ↓s_252_13, ↓s_252_14n, ↓s_252_14i, ↓s_252_14p, ↓g_252_15, ↓k_252_15, ↓s_252_17, ↓s_252_18, ↓s_252_19, ↓s_252_20, ↓s_252_23, ↓s_252_25, ↓s_252_28, ↓s_252_29, ↓s_252_32, ↓s_252_33, ↓s_252_34, ↓s_252_35, ↓s_252_38, ↓s_252_41, ↓s_252_42, ↓s_252_45, ↓s_252_46, ↓s_252_49, ↓s_252_50, ↓s_252_51, ↓s_252_52, ↓s_252_54, ↓s_252_55, ↓s_252_56, ↓s_252_57, ↓s_252_60, ↓s_252_63n, ↓s_252_63i, ↓s_252_63p, ↓s_252_66, ↓s_252_69, ↓s_252_71, ↓s_252_72, ↓s_252_73, ↓s_252_74, ↓s_252_77, ↓s_252_79, ↓s_252_82, ↓s_252_83, ↓s_252_86, ↓s_252_87, ↓s_252_88, ↓s_252_89, ↓s_252_92, ↓s_252_95, ↓s_252_96, ↓g_252_97, ↓k_252_97, ↓s_252_99, ↓s_252_100, ↓s_252_103, ↓s_252_105, ↓s_252_108n, ↓s_252_108i, ↓s_252_108p, ↓s_252_111, ↓s_252_114n, ↓s_252_114i, ↓s_252_114p, ↓s_252_117n, ↓s_252_117i, ↓s_252_117p, ↓s_252_120, ↓s_252_123, ↓s_252_124, w32c_32, zar_96, zia_96, zln_96, zit_96, zio_95]
    refine c_charAt hE (by omega) (by omega) (by omega) ?_
    refine zgk_s hE xmo_252 60 zc_252 ?_
    simp only [ynok_30, ynok_31, w32c_0, w32c_1, w32c_2, w32c_3, w32c_4, w32c_5, w32c_6, w32c_7, w32c_8, w32c_9, w32c_10, w32c_11, w32c_12, w32c_13, w32c_14, w32c_m1, w32c_m2, w32c_118, Int.reduceAdd, Int.reduceSub, Int.reduceMul, yput_s, yput_n, znl_n, znl_0, znl_1, znl_4, ysum_n, ysum_0, ysum_1, ysum_4, true_and, and_true, Nat.reduceAdd, Nat.reduceLeDiff, true_implies, eq_self, true_or, or_true, or_false, false_or, not_true_eq_false, not_false_eq_true, false_implies, implies_true, yset_s, yset_o, yset_d, ne_eq, Nat.reduceEqDiff, Int.reduceToNat, Int.reduceEq, Int.reduceLE, Int.reduceLT, Classical.not_not, Nat.reduceLT, ↓zvk_s, ↓zvk_n, ↓s_252_0, ↓s_252_1n, ↓s_252_1i, ↓s_252_1p, ↓s_252_2, ↓s_252_3n, ↓s_252_3i, ↓s_252_3p, ↓g_252_4, ↓k_252_4, ↓s_252_5, ↓s_252_7, ↓s_252_10, ↓s_252_13, ↓s_252_14n, ↓s_252_14i, ↓s_252_14p, ↓g_252_15, ↓k_252_15, ↓s_252_17, ↓s_252_18, ↓s_252_19, ↓s_252_20, ↓s_252_23, ↓s_252_25, ↓s_252_28, ↓s_252_29, ↓s_252_32, ↓s_252_33, ↓s_252_34, ↓s_252_35, ↓s_252_38, ↓s_252_41, ↓s_252_42, ↓s_252_45, ↓s_252_46, ↓s_252_49, ↓s_252_50, ↓s_252_51, ↓s_252_52, ↓s_252_54, ↓s_252_55, ↓s_252_56, ↓s_252_57, ↓s_252_60, ↓s_252_63n, ↓s_252_63i, ↓s_252_63p, ↓s_252_66, ↓s_252_69, ↓s_252_71, ↓s_252_72, ↓s_252_73, ↓s_252_74, ↓s_252_77, ↓s_252_79, ↓s_252_82, ↓s_252_83, ↓s_252_86, ↓s_252_87, ↓s_252_88, ↓s_252_89, ↓s_252_92, ↓s_252_95, ↓s_252_96, ↓g_252_97, ↓k_252_97, ↓s_252_99, ↓s_252_100, ↓s_252_103, ↓s_252_105, ↓s_252_108n, ↓s_252_108i, ↓s_252_108p, ↓s_252_111, ↓s_252_114n, ↓s_252_114i, ↓s_252_114p, ↓s_252_117n, ↓s_252_117i, ↓s_252_117p, ↓s_252_120, ↓s_252_123, ↓s_252_124, w32c_32, zar_96, zia_96, zln_96, zit_96, zio_95]
    rw [wz, epi]
    have eidx : (w32 (mem 95 28) + w32 i).toNat = rpl mem + (w32 i).toNat := by
      show _ = (w32 (mem 95 28)).toNat + _
      omega
    have ezx : zW (w32 (k + i)).toNat = zW (zws.getD m 0 + (w32 i).toNat) := by rw [show (w32 (k + i)).toNat = zws.getD m 0 + (w32 i).toNat by omega]
    refine ⟨fun h => absurd h (by omega), fun _ => ⟨fun hge => tail (fun z => ?_), fun hlt => ⟨⟨by omega, by omega⟩, ?_⟩⟩⟩
    · have := z.1
      omega
    refine c_charAt hE (by omega) (by omega) (by omega) ?_
    refine zgk_s hE xmo_252 60 zc_252 ?_
    simp only [ynok_30, ynok_31, w32c_0, w32c_1, w32c_2, w32c_3, w32c_4, w32c_5, w32c_6, w32c_7, w32c_8, w32c_9, w32c_10, w32c_11, w32c_12, w32c_13, w32c_14, w32c_m1, w32c_m2, w32c_118, Int.reduceAdd, Int.reduceSub, Int.reduceMul, yput_s, yput_n, znl_n, znl_0, znl_1, znl_4, ysum_n, ysum_0, ysum_1, ysum_4, true_and, and_true, Nat.reduceAdd, Nat.reduceLeDiff, true_implies, eq_self, true_or, or_true, or_false, false_or, not_true_eq_false, not_false_eq_true, false_implies, implies_true, yset_s, yset_o, yset_d, ne_eq, Nat.reduceEqDiff, Int.reduceToNat, Int.reduceEq, Int.reduceLE, Int.reduceLT, Classical.not_not, Nat.reduceLT, ↓zvk_s, ↓zvk_n, ↓s_252_0, ↓s_252_1n, ↓s_252_1i, ↓s_252_1p, ↓s_252_2, ↓s_252_3n, ↓s_252_3i, ↓s_252_3p, ↓g_252_4, ↓k_252_4, ↓s_252_5, ↓s_252_7, ↓s_252_10, ↓s_252_13, ↓s_252_14n, ↓s_252_14i, ↓s_252_14p, ↓g_252_15, ↓k_252_15, ↓s_252_17, ↓s_252_18, ↓s_252_19, ↓s_252_20, ↓s_252_23, ↓s_252_25, ↓s_252_28, ↓s_252_29, ↓s_252_32, ↓s_252_33, ↓s_252_34, ↓s_252_35, ↓s_252_38, ↓s_252_41, ↓s_252_42, ↓s_252_45, ↓s_252_46, ↓s_252_49, ↓s_252_50, ↓s_252_51, ↓s_252_52, ↓s_252_54, ↓s_252_55, ↓s_252_56, ↓s_252_57, ↓s_252_60, ↓s_252_63n, ↓s_252_63i, ↓s_252_63p, ↓s_252_66, ↓s_252_69, ↓s_252_71, ↓s_252_72, ↓s_252_73, ↓s_252_74, ↓s_252_77, ↓s_252_79, ↓s_252_82, ↓s_252_83, ↓s_252_86, ↓s_252_87, ↓s_252_88, ↓s_252_89, ↓s_252_92, ↓s_252_95, ↓s_252_96, ↓g_252_97, ↓k_252_97, ↓s_252_99, ↓s_252_100, ↓s_252_103, ↓s_252_105, ↓s_252_108n, ↓s_252_108i, ↓s_252_108p, ↓s_252_111, ↓s_252_114n, ↓s_252_114i, ↓s_252_114p, ↓s_252_117n, ↓s_252_117i, ↓s_252_117p, ↓s_252_120, ↓s_252_123, ↓s_252_124, w32c_32, zar_96, zia_96, zln_96, zit_96, zio_95]
    rw [wz, eidx]
    refine ⟨fun hne => tail (fun z => hne ?_), fun heq => ih (i + 1) (by omega) (by omega) (by omega) (by omega) (fun j hj => ?_)⟩
    · have := z.2 (w32 i).toNat (by omega)
      rw [ezx]
      exact this
    · by_cases hj2 : j = (w32 i).toNat
      · subst hj2
        rw [ezx] at heq
        exact heq
      · exact hM j (by omega)
theorem fw_loop {E : yE} (hE : yEok E) {d : Nat} {mem : yMem} {Q : Option yV → yMem → Prop} (hp : 0 ≤ w32 (mem 95 28)) (hpe : w32 (mem 95 28) ≤ w32 (mem 95 27)) (ha : w32 (mem 95 27) ≤ 800) (yes : ∀ (m : Nat) (r : Int), m < 23 → w32 r = (m : Int) → sMt (rch mem) (rpl mem) (rat mem) m → Q (some (0, r)) mem) (no : (∀ m, m < 23 → ¬ sMt (rch mem) (rpl mem) (rat mem) m) → Q (some (0, -1)) mem) : ∀ (c m : Nat), m + c = 23 → ∀ (n k : Int) (r3 : Option yV), w32 n = (m : Int) → w32 k = ((zws.getD m 0 : Nat) : Int) → (∀ m', m' < m → ¬ sMt (rch mem) (rpl mem) (rat mem) m') → zG E (d + 4) xm_252 4 [some (1, 95), some (0, n), some (0, k), r3] [] mem Q := by
  intro c
  induction c with
  | zero =>
    intro m hm n k r3 hn hk hA
    have hz := zws_lt m (by omega)
    refine zgo_ok (n := 60) hE xmo_252 (cs := zc_252) ?_
    simp only [ynok_30, ynok_31, w32c_0, w32c_1, w32c_2, w32c_3, w32c_4, w32c_5, w32c_6, w32c_7, w32c_8, w32c_9, w32c_10, w32c_11, w32c_12, w32c_13, w32c_14, w32c_m1, w32c_m2, w32c_118, Int.reduceAdd, Int.reduceSub, Int.reduceMul, yput_s, yput_n, znl_n, znl_0, znl_1, znl_4, ysum_n, ysum_0, ysum_1, ysum_4, true_and, and_true, Nat.reduceAdd, Nat.reduceLeDiff, true_implies, eq_self, true_or, or_true, or_false, false_or, not_true_eq_false, not_false_eq_true, false_implies, implies_true, yset_s, yset_o, yset_d, ne_eq, Nat.reduceEqDiff, Int.reduceToNat, Int.reduceEq, Int.reduceLE, Int.reduceLT, Classical.not_not, Nat.reduceLT, ↓zvk_s, ↓zvk_n, ↓s_252_0, ↓s_252_1n, ↓s_252_1i, ↓s_252_1p, ↓s_252_2, ↓s_252_3n, ↓s_252_3i, ↓s_252_3p, ↓g_252_4, ↓k_252_4, ↓s_252_5, ↓s_252_7, ↓s_252_10, ↓s_252_13, ↓s_252_14n, ↓s_252_14i, ↓s_252_14p, ↓g_252_15, ↓k_252_15, ↓s_252_17, ↓s_252_18, ↓s_252_19, ↓s_252_20, ↓s_252_23, ↓s_252_25, ↓s_252_28, ↓s_252_29, ↓s_252_32, ↓s_252_33, ↓s_252_34, ↓s_252_35, ↓s_252_38, ↓s_252_41, ↓s_252_42, ↓s_252_45, ↓s_252_46, ↓s_252_49, ↓s_252_50, ↓s_252_51, ↓s_252_52, ↓s_252_54, ↓s_252_55, ↓s_252_56, ↓s_252_57, ↓s_252_60, ↓s_252_63n, ↓s_252_63i, ↓s_252_63p, ↓s_252_66, ↓s_252_69, ↓s_252_71, ↓s_252_72, ↓s_252_73, ↓s_252_74, ↓s_252_77, ↓s_252_79, ↓s_252_82, ↓s_252_83, ↓s_252_86, ↓s_252_87, ↓s_252_88, ↓s_252_89, ↓s_252_92, ↓s_252_95, ↓s_252_96, ↓g_252_97, ↓k_252_97, ↓s_252_99, ↓s_252_100, ↓s_252_103, ↓s_252_105, ↓s_252_108n, ↓s_252_108i, ↓s_252_108p, ↓s_252_111, ↓s_252_114n, ↓s_252_114i, ↓s_252_114p, ↓s_252_117n, ↓s_252_117i, ↓s_252_117p, ↓s_252_120, ↓s_252_123, ↓s_252_124, w32c_32, zar_96, zia_96, zln_96, zit_96, zio_95]
    refine c_strlen hE (by omega) ?_
    refine zgk_s hE xmo_252 60 zc_252 ?_
    simp only [ynok_30, ynok_31, w32c_0, w32c_1, w32c_2, w32c_3, w32c_4, w32c_5, w32c_6, w32c_7, w32c_8, w32c_9, w32c_10, w32c_11, w32c_12, w32c_13, w32c_14, w32c_m1, w32c_m2, w32c_118, Int.reduceAdd, Int.reduceSub, Int.reduceMul, yput_s, yput_n, znl_n, znl_0, znl_1, znl_4, ysum_n, ysum_0, ysum_1, ysum_4, true_and, and_true, Nat.reduceAdd, Nat.reduceLeDiff, true_implies, eq_self, true_or, or_true, or_false, false_or, not_true_eq_false, not_false_eq_true, false_implies, implies_true, yset_s, yset_o, yset_d, ne_eq, Nat.reduceEqDiff, Int.reduceToNat, Int.reduceEq, Int.reduceLE, Int.reduceLT, Classical.not_not, Nat.reduceLT, ↓zvk_s, ↓zvk_n, ↓s_252_0, ↓s_252_1n, ↓s_252_1i, ↓s_252_1p, ↓s_252_2, ↓s_252_3n, ↓s_252_3i, ↓s_252_3p, ↓g_252_4, ↓k_252_4, ↓s_252_5, ↓s_252_7, ↓s_252_10, ↓s_252_13, ↓s_252_14n, ↓s_252_14i, ↓s_252_14p, ↓g_252_15, ↓k_252_15, ↓s_252_17, ↓s_252_18, ↓s_252_19, ↓s_252_20, ↓s_252_23, ↓s_252_25, ↓s_252_28, ↓s_252_29, ↓s_252_32, ↓s_252_33, ↓s_252_34, ↓s_252_35, ↓s_252_38, ↓s_252_41, ↓s_252_42, ↓s_252_45, ↓s_252_46, ↓s_252_49, ↓s_252_50, ↓s_252_51, ↓s_252_52, ↓s_252_54, ↓s_252_55, ↓s_252_56, ↓s_252_57, ↓s_252_60, ↓s_252_63n, ↓s_252_63i, ↓s_252_63p, ↓s_252_66, ↓s_252_69, ↓s_252_71, ↓s_252_72, ↓s_252_73, ↓s_252_74, ↓s_252_77, ↓s_252_79, ↓s_252_82, ↓s_252_83, ↓s_252_86, ↓s_252_87, ↓s_252_88, ↓s_252_89, ↓s_252_92, ↓s_252_95, ↓s_252_96, ↓g_252_97, ↓k_252_97, ↓s_252_99, ↓s_252_100, ↓s_252_103, ↓s_252_105, ↓s_252_108n, ↓s_252_108i, ↓s_252_108p, ↓s_252_111, ↓s_252_114n, ↓s_252_114i, ↓s_252_114p, ↓s_252_117n, ↓s_252_117i, ↓s_252_117p, ↓s_252_120, ↓s_252_123, ↓s_252_124, w32c_32, zar_96, zia_96, zln_96, zit_96, zio_95]
    exact ⟨fun _ => no (fun m' hm' => hA m' (by omega)), fun h => absurd (show 118 ≤ w32 k by omega) h⟩
  | succ c ih =>
    intro m hm n k r3 hn hk hA
    have hz := zws_lt m (by omega)
    obtain ⟨z1, z2, z3⟩ := zword_ok m (by omega)
    have hn1 : w32 (n + 1) = w32 n + 1 := by rw [w32_ad (by rw [w32c_1]; omega) (by rw [w32c_1]; omega), w32c_1]
    refine zgo_ok (n := 60) hE xmo_252 (cs := zc_252) ?_
    simp only [ynok_30, ynok_31, w32c_0, w32c_1, w32c_2, w32c_3, w32c_4, w32c_5, w32c_6, w32c_7, w32c_8, w32c_9, w32c_10, w32c_11, w32c_12, w32c_13, w32c_14, w32c_m1, w32c_m2, w32c_118, Int.reduceAdd, Int.reduceSub, Int.reduceMul, yput_s, yput_n, znl_n, znl_0, znl_1, znl_4, ysum_n, ysum_0, ysum_1, ysum_4, true_and, and_true, Nat.reduceAdd, Nat.reduceLeDiff, true_implies, eq_self, true_or, or_true, or_false, false_or, not_true_eq_false, not_false_eq_true, false_implies, implies_true, yset_s, yset_o, yset_d, ne_eq, Nat.reduceEqDiff, Int.reduceToNat, Int.reduceEq, Int.reduceLE, Int.reduceLT, Classical.not_not, Nat.reduceLT, ↓zvk_s, ↓zvk_n, ↓s_252_0, ↓s_252_1n, ↓s_252_1i, ↓s_252_1p, ↓s_252_2, ↓s_252_3n, ↓s_252_3i, ↓s_252_3p, ↓g_252_4, ↓k_252_4, ↓s_252_5, ↓s_252_7, ↓s_252_10, ↓s_252_13, ↓s_252_14n, ↓s_252_14i, ↓s_252_14p, ↓g_252_15, ↓k_252_15, ↓s_252_17, ↓s_252_18, ↓s_252_19, ↓s_252_20, ↓s_252_23, ↓s_252_25, ↓s_252_28, ↓s_252_29, ↓s_252_32, ↓s_252_33, ↓s_252_34, ↓s_252_35, ↓s_252_38, ↓s_252_41, ↓s_252_42, ↓s_252_45, ↓s_252_46, ↓s_252_49, ↓s_252_50, ↓s_252_51, ↓s_252_52, ↓s_252_54, ↓s_252_55, ↓s_252_56, ↓s_252_57, ↓s_252_60, ↓s_252_63n, ↓s_252_63i, ↓s_252_63p, ↓s_252_66, ↓s_252_69, ↓s_252_71, ↓s_252_72, ↓s_252_73, ↓s_252_74, ↓s_252_77, ↓s_252_79, ↓s_252_82, ↓s_252_83, ↓s_252_86, ↓s_252_87, ↓s_252_88, ↓s_252_89, ↓s_252_92, ↓s_252_95, ↓s_252_96, ↓g_252_97, ↓k_252_97, ↓s_252_99, ↓s_252_100, ↓s_252_103, ↓s_252_105, ↓s_252_108n, ↓s_252_108i, ↓s_252_108p, ↓s_252_111, ↓s_252_114n, ↓s_252_114i, ↓s_252_114p, ↓s_252_117n, ↓s_252_117i, ↓s_252_117p, ↓s_252_120, ↓s_252_123, ↓s_252_124, w32c_32, zar_96, zia_96, zln_96, zit_96, zio_95]
    refine c_strlen hE (by omega) ?_
    refine zgk_s hE xmo_252 60 zc_252 ?_
    simp only [ynok_30, ynok_31, w32c_0, w32c_1, w32c_2, w32c_3, w32c_4, w32c_5, w32c_6, w32c_7, w32c_8, w32c_9, w32c_10, w32c_11, w32c_12, w32c_13, w32c_14, w32c_m1, w32c_m2, w32c_118, Int.reduceAdd, Int.reduceSub, Int.reduceMul, yput_s, yput_n, znl_n, znl_0, znl_1, znl_4, ysum_n, ysum_0, ysum_1, ysum_4, true_and, and_true, Nat.reduceAdd, Nat.reduceLeDiff, true_implies, eq_self, true_or, or_true, or_false, false_or, not_true_eq_false, not_false_eq_true, false_implies, implies_true, yset_s, yset_o, yset_d, ne_eq, Nat.reduceEqDiff, Int.reduceToNat, Int.reduceEq, Int.reduceLE, Int.reduceLT, Classical.not_not, Nat.reduceLT, ↓zvk_s, ↓zvk_n, ↓s_252_0, ↓s_252_1n, ↓s_252_1i, ↓s_252_1p, ↓s_252_2, ↓s_252_3n, ↓s_252_3i, ↓s_252_3p, ↓g_252_4, ↓k_252_4, ↓s_252_5, ↓s_252_7, ↓s_252_10, ↓s_252_13, ↓s_252_14n, ↓s_252_14i, ↓s_252_14p, ↓g_252_15, ↓k_252_15, ↓s_252_17, ↓s_252_18, ↓s_252_19, ↓s_252_20, ↓s_252_23, ↓s_252_25, ↓s_252_28, ↓s_252_29, ↓s_252_32, ↓s_252_33, ↓s_252_34, ↓s_252_35, ↓s_252_38, ↓s_252_41, ↓s_252_42, ↓s_252_45, ↓s_252_46, ↓s_252_49, ↓s_252_50, ↓s_252_51, ↓s_252_52, ↓s_252_54, ↓s_252_55, ↓s_252_56, ↓s_252_57, ↓s_252_60, ↓s_252_63n, ↓s_252_63i, ↓s_252_63p, ↓s_252_66, ↓s_252_69, ↓s_252_71, ↓s_252_72, ↓s_252_73, ↓s_252_74, ↓s_252_77, ↓s_252_79, ↓s_252_82, ↓s_252_83, ↓s_252_86, ↓s_252_87, ↓s_252_88, ↓s_252_89, ↓s_252_92, ↓s_252_95, ↓s_252_96, ↓g_252_97, ↓k_252_97, ↓s_252_99, ↓s_252_100, ↓s_252_103, ↓s_252_105, ↓s_252_108n, ↓s_252_108i, ↓s_252_108p, ↓s_252_111, ↓s_252_114n, ↓s_252_114i, ↓s_252_114p, ↓s_252_117n, ↓s_252_117i, ↓s_252_117p, ↓s_252_120, ↓s_252_123, ↓s_252_124, w32c_32, zar_96, zia_96, zln_96, zit_96, zio_95]
    refine ⟨fun h => absurd h (by omega), fun _ => ?_⟩
    refine fw_cmp hE hp hpe ha (m := m) (by omega) hk (yes m n (by omega) hn) (fun hno r3 => ?_) _ _ rfl (by rw [w32c_0]; omega) (by rw [w32c_0]; omega) (by rw [w32c_0]; omega) (fun j hj => absurd hj (by rw [w32c_0]; omega))
    exact word_skip hE (m := m) (by omega) (fun k' r3' hk' => ih (m + 1) (by omega) (n + 1) k' r3' (by omega) hk' (fun m' hm' => by
      by_cases h : m' = m
      · subst h; exact hno
      · exact hA m' (by omega))) _ _ rfl (by omega) (by omega) (by omega)
theorem f_word {E : yE} (hE : yEok E) {D : Nat} (hD : 5 ≤ D) {mem : yMem} {Q : Option yV → yMem → Prop} (hp : 0 ≤ w32 (mem 95 28)) (hpe : w32 (mem 95 28) ≤ w32 (mem 95 27)) (ha : w32 (mem 95 27) ≤ 800) (yes : ∀ (m : Nat) (r : Int), m < 23 → w32 r = (m : Int) → sMt (rch mem) (rpl mem) (rat mem) m → Q (some (0, r)) mem) (no : (∀ m, m < 23 → ¬ sMt (rch mem) (rpl mem) (rat mem) m) → Q (some (0, -1)) mem) : yCon E D xm_252 [(1, 95)] mem Q := by
  obtain ⟨d, rfl⟩ := Nat.exists_eq_add_of_le' hD
  refine e_252 ?_
  refine zvc_ok hE 60 zc_252 _ _ _ _ _ _ _ xmo_252 ?_
  simp only [ynok_30, ynok_31, w32c_0, w32c_1, w32c_2, w32c_3, w32c_4, w32c_5, w32c_6, w32c_7, w32c_8, w32c_9, w32c_10, w32c_11, w32c_12, w32c_13, w32c_14, w32c_m1, w32c_m2, w32c_118, Int.reduceAdd, Int.reduceSub, Int.reduceMul, yput_s, yput_n, znl_n, znl_0, znl_1, znl_4, ysum_n, ysum_0, ysum_1, ysum_4, true_and, and_true, Nat.reduceAdd, Nat.reduceLeDiff, true_implies, eq_self, true_or, or_true, or_false, false_or, not_true_eq_false, not_false_eq_true, false_implies, implies_true, yset_s, yset_o, yset_d, ne_eq, Nat.reduceEqDiff, Int.reduceToNat, Int.reduceEq, Int.reduceLE, Int.reduceLT, Classical.not_not, Nat.reduceLT, ↓zvk_s, ↓zvk_n, ↓s_252_0, ↓s_252_1n, ↓s_252_1i, ↓s_252_1p, ↓s_252_2, ↓s_252_3n, ↓s_252_3i, ↓s_252_3p, ↓g_252_4, ↓k_252_4, ↓s_252_5, ↓s_252_7, ↓s_252_10, ↓s_252_13, ↓s_252_14n, ↓s_252_14i, ↓s_252_14p, ↓g_252_15, ↓k_252_15, ↓s_252_17, ↓s_252_18, ↓s_252_19, ↓s_252_20, ↓s_252_23, ↓s_252_25, ↓s_252_28, ↓s_252_29, ↓s_252_32, ↓s_252_33, ↓s_252_34, ↓s_252_35, ↓s_252_38, ↓s_252_41, ↓s_252_42, ↓s_252_45, ↓s_252_46, ↓s_252_49, ↓s_252_50, ↓s_252_51, ↓s_252_52, ↓s_252_54, ↓s_252_55, ↓s_252_56, ↓s_252_57, ↓s_252_60, ↓s_252_63n, ↓s_252_63i, ↓s_252_63p, ↓s_252_66, ↓s_252_69, ↓s_252_71, ↓s_252_72, ↓s_252_73, ↓s_252_74, ↓s_252_77, ↓s_252_79, ↓s_252_82, ↓s_252_83, ↓s_252_86, ↓s_252_87, ↓s_252_88, ↓s_252_89, ↓s_252_92, ↓s_252_95, ↓s_252_96, ↓g_252_97, ↓k_252_97, ↓s_252_99, ↓s_252_100, ↓s_252_103, ↓s_252_105, ↓s_252_108n, ↓s_252_108i, ↓s_252_108p, ↓s_252_111, ↓s_252_114n, ↓s_252_114i, ↓s_252_114p, ↓s_252_117n, ↓s_252_117i, ↓s_252_117p, ↓s_252_120, ↓s_252_123, ↓s_252_124, w32c_32, zar_96, zia_96, zln_96, zit_96, zio_95]
  exact fw_loop hE hp hpe ha yes no 23 0 rfl 0 0 _ (by decide) (by decide) (fun m' hm' => absurd hm' (by omega))
theorem zix_b32 {f : Nat → Int} (hf : ∀ j, 0 ≤ w32 (f j) ∧ w32 (f j) < 32) : ∀ n : Nat, 0 ≤ zix f 32 n ∧ zix f 32 n < 32 ^ n := fun n => zix_lt (by decide) n (fun j _ => hf j)
theorem fn_loop {E : yE} (hE : yEok E) {d : Nat} {mem : yMem} {Q : Option yV → yMem → Prop} (hp : 0 ≤ w32 (mem 95 28)) (hpe : w32 (mem 95 28) ≤ w32 (mem 95 27)) (ha : w32 (mem 95 27) ≤ 800) (hl : ∀ j, rpl mem ≤ j → j < rat mem → 97 ≤ rch mem j ∧ rch mem j ≤ 122) (hQ : ∀ m, aFrm [(95, 31)] mem m → w32 (m 95 30) = sPk (rch mem) (rpl mem) (rat mem) → Q none m) : ∀ (c : Nat) (k : Int) (m : yMem), (6 - w32 k).toNat = c → 0 ≤ w32 k → w32 k ≤ 6 → aFrm [(95, 31)] mem m → w32 (m 95 30) = zix (sLt (rch mem) (rpl mem) (rat mem)) 32 (w32 k).toNat → zG E d xm_209 7 [some (1, 95), some (0, k)] [] m Q := by
  have sd := fun j => sLt_d hl j
  have sw : ∀ j, w32 (sLt (rch mem) (rpl mem) (rat mem) j) = sLt (rch mem) (rpl mem) (rat mem) j := fun j => w32_of (by have := sd j; omega) (by have := sd j; omega)
  intro c
  induction c with
  | zero =>
    intro k m hc h0 h1 hF hv
    refine zgo_ok (n := 60) hE xmo_209 (cs := zc_209) ?_
    simp only [ynok_30, ynok_31, w32c_0, w32c_1, w32c_2, w32c_3, w32c_4, w32c_5, w32c_6, w32c_7, w32c_8, w32c_9, w32c_10, w32c_11, w32c_12, w32c_13, w32c_14, w32c_m1, w32c_m2, w32c_118, Int.reduceAdd, Int.reduceSub, Int.reduceMul, yput_s, yput_n, znl_n, znl_0, znl_1, znl_4, ysum_n, ysum_0, ysum_1, ysum_4, true_and, and_true, Nat.reduceAdd, Nat.reduceLeDiff, true_implies, eq_self, true_or, or_true, or_false, false_or, not_true_eq_false, not_false_eq_true, false_implies, implies_true, yset_s, yset_o, yset_d, ne_eq, Nat.reduceEqDiff, Int.reduceToNat, Int.reduceEq, Int.reduceLE, Int.reduceLT, Classical.not_not, Nat.reduceLT, ↓zvk_s, ↓zvk_n, ↓s_209_0, ↓s_209_1, ↓s_209_2, ↓s_209_5, ↓s_209_6n, ↓s_209_6i, ↓s_209_6p, ↓g_209_7, ↓k_209_7, ↓s_209_8, ↓s_209_10, ↓s_209_13, ↓s_209_14, ↓s_209_15, ↓s_209_18, ↓s_209_19, ↓s_209_20, ↓s_209_21, ↓s_209_24, ↓s_209_25, ↓s_209_26, ↓s_209_27, ↓s_209_30, ↓s_209_33, ↓s_209_34, ↓s_209_37, ↓s_209_38, ↓s_209_41, ↓s_209_42, ↓s_209_43, ↓s_209_44, ↓s_209_46, ↓s_209_47, ↓s_209_48, ↓s_209_49, ↓s_209_52, ↓s_209_53, ↓s_209_54, ↓s_209_57n, ↓s_209_57i, ↓s_209_57p, ↓s_209_60, ↓s_209_63, w32c_97, zar_96, zia_96, zln_96, zit_96, zio_95]
    refine ⟨fun _ => hQ m hF ?_, fun h => absurd (show 6 ≤ w32 k by omega) h⟩
    rw [hv, show (w32 k).toNat = 6 by omega]
    rfl
  | succ c ih =>
    intro k m hc h0 h1 hF hv
    refine zgo_ok (n := 60) hE xmo_209 (cs := zc_209) ?_
    have e28 : m 95 28 = mem 95 28 := hF 95 28 rfl
    have e27 : m 95 27 = mem 95 27 := hF 95 27 rfl
    have hk1 : w32 (k + 1) = w32 k + 1 := by rw [w32_ad (by rw [w32c_1]; omega) (by rw [w32c_1]; omega), w32c_1]
    have epk : w32 (mem 95 28 + k) = w32 (mem 95 28) + w32 k := w32_ad (by omega) (by omega)
    have zb := zix_b32 (f := sLt (rch mem) (rpl mem) (rat mem)) (fun j => by rw [sw j]; exact ⟨(sd j).1, (sd j).2.1⟩) (w32 k).toNat
    have hb : zix (sLt (rch mem) (rpl mem) (rat mem)) 32 (w32 k).toNat < 33554432 := by
      have : ∀ q : Nat, q ≤ 5 → (32 : Int) ^ q ≤ 33554432 := by decide
      have := this (w32 k).toNat (by omega)
      omega
    have s1 : w32 (ybin 6 (m 95 30) 5) = ((32 * (zix (sLt (rch mem) (rpl mem) (rat mem)) 32 (w32 k).toNat).toNat : Nat) : Int) := by
      have := yb_shl (x := m 95 30) (y := 5) (a := (zix (sLt (rch mem) (rpl mem) (rat mem)) 32 (w32 k).toNat).toNat) (s := 5) (by rw [hv]; omega) (by decide) (by decide) (by omega)
      rw [this]
      omega
    have step : ∀ x : Int, w32 x = sLt (rch mem) (rpl mem) (rat mem) (w32 k).toNat → w32 (ybin 4 (ybin 6 (m 95 30) 5) x) = zix (sLt (rch mem) (rpl mem) (rat mem)) 32 ((w32 k).toNat + 1) := fun x hx => by
      have sk := sd (w32 k).toNat
      have := yb_or (x := ybin 6 (m 95 30) 5) (y := x) (a := (zix (sLt (rch mem) (rpl mem) (rat mem)) 32 (w32 k).toNat).toNat) (b := (sLt (rch mem) (rpl mem) (rat mem) (w32 k).toNat).toNat) (k := 5) s1 (by rw [hx]; omega) (by omega) (by omega)
      rw [this]
      simp only [zix]
      rw [sw]
      omega
    have go : ∀ v, w32 v = zix (sLt (rch mem) (rpl mem) (rat mem)) 32 ((w32 k).toNat + 1) → zG E d xm_209 7 [some (1, 95), some (0, k + 1)] [] (yset m 95 30 v) Q := fun v hv' => ih (k + 1) _ (by omega) (by omega) (by omega) (aFrm_set hF rfl) (by rw [yset_s, hv', show (w32 (k + 1)).toNat = (w32 k).toNat + 1 by omega])
    simp only [ynok_30, ynok_31, w32c_0, w32c_1, w32c_2, w32c_3, w32c_4, w32c_5, w32c_6, w32c_7, w32c_8, w32c_9, w32c_10, w32c_11, w32c_12, w32c_13, w32c_14, w32c_m1, w32c_m2, w32c_118, Int.reduceAdd, Int.reduceSub, Int.reduceMul, yput_s, yput_n, znl_n, znl_0, znl_1, znl_4, ysum_n, ysum_0, ysum_1, ysum_4, true_and, and_true, Nat.reduceAdd, Nat.reduceLeDiff, true_implies, eq_self, true_or, or_true, or_false, false_or, not_true_eq_false, not_false_eq_true, false_implies, implies_true, yset_s, yset_o, yset_d, ne_eq, Nat.reduceEqDiff, Int.reduceToNat, Int.reduceEq, Int.reduceLE, Int.reduceLT, Classical.not_not, Nat.reduceLT, ↓zvk_s, ↓zvk_n, ↓s_209_0, ↓s_209_1, ↓s_209_2, ↓s_209_5, ↓s_209_6n, ↓s_209_6i, ↓s_209_6p, ↓g_209_7, ↓k_209_7, ↓s_209_8, ↓s_209_10, ↓s_209_13, ↓s_209_14, ↓s_209_15, ↓s_209_18, ↓s_209_19, ↓s_209_20, ↓s_209_21, ↓s_209_24, ↓s_209_25, ↓s_209_26, ↓s_209_27, ↓s_209_30, ↓s_209_33, ↓s_209_34, ↓s_209_37, ↓s_209_38, ↓s_209_41, ↓s_209_42, ↓s_209_43, ↓s_209_44, ↓s_209_46, ↓s_209_47, ↓s_209_48, ↓s_209_49, ↓s_209_52, ↓s_209_53, ↓s_209_54, ↓s_209_57n, ↓s_209_57i, ↓s_209_57p, ↓s_209_60, ↓s_209_63, w32c_97, zar_96, zia_96, zln_96, zit_96, zio_95]
    rw [e28, e27, hF 96 _ rfl]
    refine ⟨fun h => absurd h (by omega), fun _ => ⟨fun hge => go _ (step _ ?_), fun hlt => ⟨⟨by omega, by omega⟩, go _ (step _ ?_)⟩⟩⟩
    · unfold sLt
      rw [if_neg (by show ¬ (w32 (mem 95 28)).toNat + (w32 k).toNat < (w32 (mem 95 27)).toNat; omega)]
      decide
    · have hin : rpl mem + (w32 k).toNat < rat mem := by show (w32 (mem 95 28)).toNat + (w32 k).toNat < (w32 (mem 95 27)).toNat; omega
      have hlk := hl (rpl mem + (w32 k).toNat) (by omega) hin
      have ei : (w32 (mem 95 28 + k)).toNat = rpl mem + (w32 k).toNat := by show _ = (w32 (mem 95 28)).toNat + (w32 k).toNat; omega
      unfold sLt
      rw [if_pos hin, ei]
      have e97 : w32 97 = 97 := by decide
      have h1' : w32 (mem 96 (rpl mem + (w32 k).toNat) - 97) = w32 (mem 96 (rpl mem + (w32 k).toNat)) - 97 := by rw [w32_sb (by rw [e97]; have := hlk.1; have := hlk.2; show -2147483648 ≤ rch mem (rpl mem + (w32 k).toNat) - 97; omega) (by rw [e97]; have := hlk.2; show rch mem (rpl mem + (w32 k).toNat) - 97 < 2147483648; omega), e97]
      rw [w32_ad (by rw [w32c_1, h1']; have := hlk.1; show -2147483648 ≤ rch mem (rpl mem + (w32 k).toNat) - 97 + 1; omega) (by rw [w32c_1, h1']; have := hlk.2; show rch mem (rpl mem + (w32 k).toNat) - 97 + 1 < 2147483648; omega), w32c_1, h1']
      show rch mem (rpl mem + (w32 k).toNat) - 97 + 1 = rch mem (rpl mem + (w32 k).toNat) - 96
      omega
theorem f_name {E : yE} (hE : yEok E) {D : Nat} (hD : 1 ≤ D) {mem : yMem} {Q : Option yV → yMem → Prop} (hp : 0 ≤ w32 (mem 95 28)) (hpe : w32 (mem 95 28) ≤ w32 (mem 95 27)) (ha : w32 (mem 95 27) ≤ 800) (hl : ∀ j, rpl mem ≤ j → j < rat mem → 97 ≤ rch mem j ∧ rch mem j ≤ 122) (hQ : ∀ m, aFrm [(95, 31)] mem m → w32 (m 95 30) = sPk (rch mem) (rpl mem) (rat mem) → Q none m) : yCon E D xm_209 [(1, 95)] mem Q := by
  obtain ⟨d, rfl⟩ := Nat.exists_eq_add_of_le' hD
  refine e_209 ?_
  refine zvc_ok hE 60 zc_209 _ _ _ _ _ _ _ xmo_209 ?_
  simp only [ynok_30, ynok_31, w32c_0, w32c_1, w32c_2, w32c_3, w32c_4, w32c_5, w32c_6, w32c_7, w32c_8, w32c_9, w32c_10, w32c_11, w32c_12, w32c_13, w32c_14, w32c_m1, w32c_m2, w32c_118, Int.reduceAdd, Int.reduceSub, Int.reduceMul, yput_s, yput_n, znl_n, znl_0, znl_1, znl_4, ysum_n, ysum_0, ysum_1, ysum_4, true_and, and_true, Nat.reduceAdd, Nat.reduceLeDiff, true_implies, eq_self, true_or, or_true, or_false, false_or, not_true_eq_false, not_false_eq_true, false_implies, implies_true, yset_s, yset_o, yset_d, ne_eq, Nat.reduceEqDiff, Int.reduceToNat, Int.reduceEq, Int.reduceLE, Int.reduceLT, Classical.not_not, Nat.reduceLT, ↓zvk_s, ↓zvk_n, ↓s_209_0, ↓s_209_1, ↓s_209_2, ↓s_209_5, ↓s_209_6n, ↓s_209_6i, ↓s_209_6p, ↓g_209_7, ↓k_209_7, ↓s_209_8, ↓s_209_10, ↓s_209_13, ↓s_209_14, ↓s_209_15, ↓s_209_18, ↓s_209_19, ↓s_209_20, ↓s_209_21, ↓s_209_24, ↓s_209_25, ↓s_209_26, ↓s_209_27, ↓s_209_30, ↓s_209_33, ↓s_209_34, ↓s_209_37, ↓s_209_38, ↓s_209_41, ↓s_209_42, ↓s_209_43, ↓s_209_44, ↓s_209_46, ↓s_209_47, ↓s_209_48, ↓s_209_49, ↓s_209_52, ↓s_209_53, ↓s_209_54, ↓s_209_57n, ↓s_209_57i, ↓s_209_57p, ↓s_209_60, ↓s_209_63, w32c_97, zar_96, zia_96, zln_96, zit_96, zio_95]
  exact fn_loop hE hp hpe ha hl hQ _ _ _ rfl (by decide) (by decide) (aFrm_set aFrm_rf rfl) (by rw [yset_s, w32c_0]; rfl)
end
section
/-! the reference's sign and token, as they are -/
abbrev rsz (mem : yMem) : Nat := (w32 (mem 95 26)).toNat
def sIn (c : Int) : Prop := c = 59 ∨ c = 40 ∨ c = 41 ∨ c = 43 ∨ c = 45 ∨ c = 42 ∨ c = 47 ∨ c = 60 ∨ c = 61 ∨ c = 62
def sVl (c b : Int) : Int := if c = 60 ∧ b = 61 then 256 else if c = 60 ∧ b = 62 then 257 else if c = 62 ∧ b = 61 then 258 else c
theorem sg_fin {c b b0 s : Int} (hc : c ≤ 255) (hb : b = b0 ∨ (b = -1 ∧ b0 = 0)) (hs : (sIn c ∧ s = 3) ∨ (¬ sIn c ∧ s = 5)) : sRk s (sVl c b) (sSg c b0).1 0 ∧ (if 256 ≤ sVl c b then (2 : Int) else 1) = ((sSg c b0).2 : Int) := by
  have key : sIn c → s = 3 := fun h => by
    rcases hs with h' | h'
    · exact h'.2
    · exact absurd h h'.1
  have mk : ∀ k : Nat, 4 ≤ k → k ≤ 16 → s = 3 → sVl c b = sSc k → sRk s (sVl c b) k 0 := fun k h1 h2 h3 h4 => Or.inr (Or.inr (Or.inr (Or.inr (Or.inl ⟨h1, h2, h3, h4⟩))))
  unfold sSg
  by_cases h59 : c = 59
  · rw [if_pos h59]; subst h59
    have ev : sVl 59 b = 59 := by unfold sVl; rw [if_neg (by omega), if_neg (by omega), if_neg (by omega)]
    rw [ev]
    rw [ev] at mk
    exact ⟨mk 4 (by decide) (by decide) (key (by unfold sIn; omega)) rfl, by decide⟩
  rw [if_neg h59]
  by_cases h40 : c = 40
  · rw [if_pos h40]; subst h40
    have ev : sVl 40 b = 40 := by unfold sVl; rw [if_neg (by omega), if_neg (by omega), if_neg (by omega)]
    rw [ev]
    rw [ev] at mk
    exact ⟨mk 5 (by decide) (by decide) (key (by unfold sIn; omega)) rfl, by decide⟩
  rw [if_neg h40]
  by_cases h41 : c = 41
  · rw [if_pos h41]; subst h41
    have ev : sVl 41 b = 41 := by unfold sVl; rw [if_neg (by omega), if_neg (by omega), if_neg (by omega)]
    rw [ev]
    rw [ev] at mk
    exact ⟨mk 6 (by decide) (by decide) (key (by unfold sIn; omega)) rfl, by decide⟩
  rw [if_neg h41]
  by_cases h60 : c = 60
  · rw [if_pos h60]; subst h60
    by_cases hb1 : b0 = 61
    · rw [if_pos hb1]
      have ev : sVl 60 b = 256 := by unfold sVl; rw [if_pos ⟨rfl, by omega⟩]
      rw [ev]
      rw [ev] at mk
      exact ⟨mk 8 (by decide) (by decide) (key (by unfold sIn; omega)) rfl, by decide⟩
    · rw [if_neg hb1]
      by_cases hb2 : b0 = 62
      · rw [if_pos hb2]
        have ev : sVl 60 b = 257 := by unfold sVl; rw [if_neg (by omega), if_pos ⟨rfl, by omega⟩]
        rw [ev]
        rw [ev] at mk
        exact ⟨mk 10 (by decide) (by decide) (key (by unfold sIn; omega)) rfl, by decide⟩
      · rw [if_neg hb2]
        have ev : sVl 60 b = 60 := by unfold sVl; rw [if_neg (by omega), if_neg (by omega), if_neg (by omega)]
        rw [ev]
        rw [ev] at mk
        exact ⟨mk 7 (by decide) (by decide) (key (by unfold sIn; omega)) rfl, by decide⟩
  rw [if_neg h60]
  by_cases h61 : c = 61
  · rw [if_pos h61]; subst h61
    have ev : sVl 61 b = 61 := by unfold sVl; rw [if_neg (by omega), if_neg (by omega), if_neg (by omega)]
    rw [ev]
    rw [ev] at mk
    exact ⟨mk 9 (by decide) (by decide) (key (by unfold sIn; omega)) rfl, by decide⟩
  rw [if_neg h61]
  by_cases h62 : c = 62
  · rw [if_pos h62]; subst h62
    by_cases hb1 : b0 = 61
    · rw [if_pos hb1]
      have ev : sVl 62 b = 258 := by unfold sVl; rw [if_neg (by omega), if_neg (by omega), if_pos ⟨rfl, by omega⟩]
      rw [ev]
      rw [ev] at mk
      exact ⟨mk 11 (by decide) (by decide) (key (by unfold sIn; omega)) rfl, by decide⟩
    · rw [if_neg hb1]
      have ev : sVl 62 b = 62 := by unfold sVl; rw [if_neg (by omega), if_neg (by omega), if_neg (by omega)]
      rw [ev]
      rw [ev] at mk
      exact ⟨mk 12 (by decide) (by decide) (key (by unfold sIn; omega)) rfl, by decide⟩
  rw [if_neg h62]
  by_cases h43 : c = 43
  · rw [if_pos h43]; subst h43
    have ev : sVl 43 b = 43 := by unfold sVl; rw [if_neg (by omega), if_neg (by omega), if_neg (by omega)]
    rw [ev]
    rw [ev] at mk
    exact ⟨mk 13 (by decide) (by decide) (key (by unfold sIn; omega)) rfl, by decide⟩
  rw [if_neg h43]
  by_cases h45 : c = 45
  · rw [if_pos h45]; subst h45
    have ev : sVl 45 b = 45 := by unfold sVl; rw [if_neg (by omega), if_neg (by omega), if_neg (by omega)]
    rw [ev]
    rw [ev] at mk
    exact ⟨mk 14 (by decide) (by decide) (key (by unfold sIn; omega)) rfl, by decide⟩
  rw [if_neg h45]
  by_cases h42 : c = 42
  · rw [if_pos h42]; subst h42
    have ev : sVl 42 b = 42 := by unfold sVl; rw [if_neg (by omega), if_neg (by omega), if_neg (by omega)]
    rw [ev]
    rw [ev] at mk
    exact ⟨mk 15 (by decide) (by decide) (key (by unfold sIn; omega)) rfl, by decide⟩
  rw [if_neg h42]
  by_cases h47 : c = 47
  · rw [if_pos h47]; subst h47
    have ev : sVl 47 b = 47 := by unfold sVl; rw [if_neg (by omega), if_neg (by omega), if_neg (by omega)]
    rw [ev]
    rw [ev] at mk
    exact ⟨mk 16 (by decide) (by decide) (key (by unfold sIn; omega)) rfl, by decide⟩
  rw [if_neg h47]
  have ev : sVl c b = c := by unfold sVl; rw [if_neg (by omega), if_neg (by omega), if_neg (by omega)]
  rw [ev, if_neg (show ¬ 256 ≤ c by omega)]
  refine ⟨Or.inr (Or.inl ⟨rfl, ?_⟩), rfl⟩
  rcases hs with h' | h'
  · have := h'.1
    unfold sIn at this
    omega
  · exact h'.2
/-- what stands behind the sign -/
def rHb (mem : yMem) : Int := if w32 (mem 95 27) + 1 < w32 (mem 95 26) then w32 (mem 96 (w32 (mem 95 27) + 1).toNat) else -1
def SfI (mem m : yMem) (s : Int) : Prop := aFrm [(95, 28), (95, 30), (95, 31)] mem m ∧ w32 (m 95 27) = w32 (mem 95 27) + 1 ∧ w32 (m 95 29) = s
theorem sf150 {E : yE} (hE : yEok E) {d : Nat} {mem m : yMem} {Q : Option yV → yMem → Prop} {r1 : Option yV} {s : Int} (hs : w32 (mem 95 26) ≤ 800) (ha : 0 ≤ w32 (mem 95 27)) (ha2 : w32 (mem 95 27) < w32 (mem 95 26)) (hI : SfI mem m s) (fin : ∀ m', aFrm [(95, 28), (95, 30), (95, 31)] mem m' → w32 (m' 95 27) = w32 (mem 95 27) + (if 256 ≤ w32 (m 95 30) then 2 else 1) → w32 (m' 95 29) = s → w32 (m' 95 30) = w32 (m 95 30) → Q none m') : zG E (d + 1) xm_228 150 [some (1, 95), r1] [] m Q := by
  obtain ⟨h1, h2, h3⟩ := hI
  refine zgo_ok (n := 60) hE xmo_228 (cs := zc_228) ?_
  have e1 : w32 (m 95 27 + 1) = w32 (m 95 27) + 1 := by rw [w32_ad (by rw [w32c_1]; omega) (by rw [w32c_1]; omega), w32c_1]
  simp only [ynok_30, ynok_31, w32c_0, w32c_1, w32c_2, w32c_3, w32c_4, w32c_5, w32c_6, w32c_7, w32c_8, w32c_9, w32c_10, w32c_11, w32c_12, w32c_13, w32c_14, w32c_m1, w32c_m2, w32c_118, Int.reduceAdd, Int.reduceSub, Int.reduceMul, yput_s, yput_n, znl_n, znl_0, znl_1, znl_4, ysum_n, ysum_0, ysum_1, ysum_4, true_and, and_true, Nat.reduceAdd, Nat.reduceLeDiff, true_implies, eq_self, true_or, or_true, or_false, false_or, not_true_eq_false, not_false_eq_true, false_implies, implies_true, yset_s, yset_o, yset_d, ne_eq, Nat.reduceEqDiff, Int.reduceToNat, Int.reduceEq, Int.reduceLE, Int.reduceLT, Classical.not_not, Nat.reduceLT, ↓zvk_s, ↓zvk_n, ↓s_228_0, ↓s_228_1a, ↓s_228_1b, ↓s_228_2, ↓s_228_5, ↓s_228_6, ↓s_228_7, ↓s_228_10, ↓s_228_11, ↓s_228_12, ↓s_228_14, ↓s_228_17, ↓s_228_18, ↓s_228_20, ↓s_228_23, ↓s_228_24, ↓s_228_26, ↓s_228_29, ↓s_228_30, ↓s_228_32, ↓s_228_35, ↓s_228_36, ↓s_228_38, ↓s_228_41, ↓s_228_42, ↓s_228_44, ↓s_228_47, ↓s_228_48, ↓s_228_50, ↓s_228_53, ↓s_228_54, ↓s_228_56, ↓s_228_59, ↓s_228_60, ↓s_228_62, ↓s_228_65, ↓s_228_66, ↓s_228_68, ↓s_228_71, ↓s_228_72, ↓s_228_75, ↓s_228_76, ↓g_228_79, ↓k_228_79, ↓s_228_80, ↓s_228_81, ↓s_228_84, ↓s_228_85, ↓s_228_87, ↓s_228_90, ↓s_228_91, ↓s_228_94, ↓s_228_96, ↓s_228_99, ↓s_228_100, ↓s_228_103, ↓g_228_106, ↓k_228_106, ↓s_228_107, ↓s_228_109, ↓s_228_112, ↓s_228_113, ↓s_228_116, ↓s_228_118, ↓s_228_121, ↓s_228_122, ↓s_228_125, ↓g_228_128, ↓k_228_128, ↓s_228_129, ↓s_228_131, ↓s_228_134, ↓s_228_135, ↓s_228_138, ↓s_228_140, ↓s_228_143, ↓s_228_144, ↓s_228_147, ↓g_228_150, ↓k_228_150, ↓s_228_151, ↓s_228_154, ↓s_228_157, ↓s_228_160, ↓s_228_161a, ↓s_228_161b, ↓s_228_162, ↓s_228_165, ↓s_228_166, ↓s_228_167, ↓s_228_170, w32c_59, w32c_40, w32c_41, w32c_43, w32c_45, w32c_42, w32c_47, w32c_60, w32c_61, w32c_62, w32c_256, w32c_257, w32c_258, zio_95]
  refine ⟨fun h => fin m h1 ?_ h3 rfl, fun h => fin _ (aFrm_set h1 rfl) ?_ ?_ ?_⟩
  · rw [if_neg (by omega), h2]
  · rw [yset_s, e1, if_pos (by omega), h2]; omega
  · rw [yset_d (by decide)]; exact h3
  · rw [yset_d (by decide)]
theorem SfI_val {mem m : yMem} {s : Int} (hI : SfI mem m s) {v : Int} : SfI mem (yset m 95 30 v) s := ⟨aFrm_set hI.1 rfl, by rw [yset_d (by decide)]; exact hI.2.1, by rw [yset_d (by decide)]; exact hI.2.2⟩
theorem rHb1 {mem : yMem} {x : Int} (e27 : x = w32 (mem 95 27) + 1) (h : x < w32 (mem 95 26)) : rHb mem = w32 (mem 96 x.toNat) := by
  unfold rHb
  rw [if_pos (by omega), e27]
theorem rHb2 {mem : yMem} {x : Int} (e27 : x = w32 (mem 95 27) + 1) (h : w32 (mem 95 26) ≤ x) : rHb mem = -1 := by
  unfold rHb
  rw [if_neg (by omega)]
def sv150 (_ _ v : Int) : Int := v
def sv128 (c b v : Int) : Int := if c = 62 ∧ b = 61 then 258 else v
def sv106 (c b v : Int) : Int := if c = 60 ∧ b = 62 then sv128 c b 257 else sv128 c b v
def sv79 (c b v : Int) : Int := if c = 60 ∧ b = 61 then sv106 c b 256 else sv106 c b v
theorem sv128_n {c b v : Int} (h : ¬ (c = 62 ∧ b = 61)) : sv128 c b v = sv150 c b v := if_neg h
theorem sv128_y {c b v : Int} (h : c = 62 ∧ b = 61) : sv128 c b v = sv150 c b (w32 258) := (if_pos h).trans (by first | (rw [show w32 258 = 258 by decide]; done) | (rw [show w32 258 = 258 by decide]; rfl))
theorem sv106_n {c b v : Int} (h : ¬ (c = 60 ∧ b = 62)) : sv106 c b v = sv128 c b v := if_neg h
theorem sv106_y {c b v : Int} (h : c = 60 ∧ b = 62) : sv106 c b v = sv128 c b (w32 257) := (if_pos h).trans (by first | (rw [show w32 257 = 257 by decide]; done) | (rw [show w32 257 = 257 by decide]; rfl))
theorem sv79_n {c b v : Int} (h : ¬ (c = 60 ∧ b = 61)) : sv79 c b v = sv106 c b v := if_neg h
theorem sv79_y {c b v : Int} (h : c = 60 ∧ b = 61) : sv79 c b v = sv106 c b (w32 256) := (if_pos h).trans (by first | (rw [show w32 256 = 256 by decide]; done) | (rw [show w32 256 = 256 by decide]; rfl))
theorem sf128 {E : yE} (hE : yEok E) {d : Nat} {mem m : yMem} {Q : Option yV → yMem → Prop} {c s : Int} (hs : w32 (mem 95 26) ≤ 800) (ha : 0 ≤ w32 (mem 95 27)) (ha2 : w32 (mem 95 27) < w32 (mem 95 26)) (hI : SfI mem m s) (fin : ∀ m', aFrm [(95, 28), (95, 30), (95, 31)] mem m' → w32 (m' 95 27) = w32 (mem 95 27) + (if 256 ≤ sv128 (w32 c) (rHb mem) (w32 (m 95 30)) then 2 else 1) → w32 (m' 95 29) = s → w32 (m' 95 30) = sv128 (w32 c) (rHb mem) (w32 (m 95 30)) → Q none m') : zG E (d + 1) xm_228 128 [some (1, 95), some (0, c)] [] m Q := by
  have e26 : m 95 26 = mem 95 26 := hI.1 95 26 rfl
  have e27 := hI.2.1
  have no : ¬ (w32 c = 62 ∧ rHb mem = 61) → zG E (d + 1) xm_228 150 [some (1, 95), some (0, c)] [] m Q := fun hn => sf150 hE hs ha ha2 hI (fun m' g1 g2 g3 g4 => fin m' g1 (by rw [sv128_n hn]; exact g2) g3 (by rw [sv128_n hn]; exact g4))
  have yes : w32 c = 62 ∧ rHb mem = 61 → zG E (d + 1) xm_228 150 [some (1, 95), some (0, c)] [] (yset m 95 30 258) Q := fun hy => sf150 hE hs ha ha2 (SfI_val hI) (fun m' g1 g2 g3 g4 => fin m' g1 (by rw [sv128_y hy]; rw [yset_s] at g2; exact g2) g3 (by rw [sv128_y hy]; rw [yset_s] at g4; exact g4))
  refine zgo_ok (n := 60) hE xmo_228 (cs := zc_228) ?_
  simp only [ynok_30, ynok_31, w32c_0, w32c_1, w32c_2, w32c_3, w32c_4, w32c_5, w32c_6, w32c_7, w32c_8, w32c_9, w32c_10, w32c_11, w32c_12, w32c_13, w32c_14, w32c_m1, w32c_m2, w32c_118, Int.reduceAdd, Int.reduceSub, Int.reduceMul, yput_s, yput_n, znl_n, znl_0, znl_1, znl_4, ysum_n, ysum_0, ysum_1, ysum_4, true_and, and_true, Nat.reduceAdd, Nat.reduceLeDiff, true_implies, eq_self, true_or, or_true, or_false, false_or, not_true_eq_false, not_false_eq_true, false_implies, implies_true, yset_s, yset_o, yset_d, ne_eq, Nat.reduceEqDiff, Int.reduceToNat, Int.reduceEq, Int.reduceLE, Int.reduceLT, Classical.not_not, Nat.reduceLT, ↓zvk_s, ↓zvk_n, ↓s_228_0, ↓s_228_1a, ↓s_228_1b, ↓s_228_2, ↓s_228_5, ↓s_228_6, ↓s_228_7, ↓s_228_10, ↓s_228_11, ↓s_228_12, ↓s_228_14, ↓s_228_17, ↓s_228_18, ↓s_228_20, ↓s_228_23, ↓s_228_24, ↓s_228_26, ↓s_228_29, ↓s_228_30, ↓s_228_32, ↓s_228_35, ↓s_228_36, ↓s_228_38, ↓s_228_41, ↓s_228_42, ↓s_228_44, ↓s_228_47, ↓s_228_48, ↓s_228_50, ↓s_228_53, ↓s_228_54, ↓s_228_56, ↓s_228_59, ↓s_228_60, ↓s_228_62, ↓s_228_65, ↓s_228_66, ↓s_228_68, ↓s_228_71, ↓s_228_72, ↓s_228_75, ↓s_228_76, ↓g_228_79, ↓k_228_79, ↓s_228_80, ↓s_228_81, ↓s_228_84, ↓s_228_85, ↓s_228_87, ↓s_228_90, ↓s_228_91, ↓s_228_94, ↓s_228_96, ↓s_228_99, ↓s_228_100, ↓s_228_103, ↓g_228_106, ↓k_228_106, ↓s_228_107, ↓s_228_109, ↓s_228_112, ↓s_228_113, ↓s_228_116, ↓s_228_118, ↓s_228_121, ↓s_228_122, ↓s_228_125, ↓g_228_128, ↓k_228_128, ↓s_228_129, ↓s_228_131, ↓s_228_134, ↓s_228_135, ↓s_228_138, ↓s_228_140, ↓s_228_143, ↓s_228_144, ↓s_228_147, ↓g_228_150, ↓k_228_150, ↓s_228_151, ↓s_228_154, ↓s_228_157, ↓s_228_160, ↓s_228_161a, ↓s_228_161b, ↓s_228_162, ↓s_228_165, ↓s_228_166, ↓s_228_167, ↓s_228_170, w32c_59, w32c_40, w32c_41, w32c_43, w32c_45, w32c_42, w32c_47, w32c_60, w32c_61, w32c_62, w32c_256, w32c_257, w32c_258, ↓s_178_0, ↓s_178_1, ↓s_178_4, ↓s_178_5, ↓s_178_8, ↓s_178_11, ↓s_178_12, ↓s_178_15, ↓s_178_16, ↓s_178_19, ↓s_178_20, ↓s_178_23, ↓s_178_24, zar_96, zia_96, zln_96, zit_96, zio_95]
  rw [e26, hI.1 96 _ rfl]
  exact ⟨fun h => no (fun z => h z.1), fun h => ⟨fun h2 => no (fun z => by have := rHb2 e27 h2; omega), fun h2 => ⟨⟨by omega, by omega⟩, fun h3 => no (fun z => h3 (by rw [← rHb1 e27 (by omega)]; exact z.2)), fun h3 => yes ⟨h, by rw [rHb1 e27 (by omega)]; exact h3⟩⟩⟩⟩
theorem sf106 {E : yE} (hE : yEok E) {d : Nat} {mem m : yMem} {Q : Option yV → yMem → Prop} {c s : Int} (hs : w32 (mem 95 26) ≤ 800) (ha : 0 ≤ w32 (mem 95 27)) (ha2 : w32 (mem 95 27) < w32 (mem 95 26)) (hI : SfI mem m s) (fin : ∀ m', aFrm [(95, 28), (95, 30), (95, 31)] mem m' → w32 (m' 95 27) = w32 (mem 95 27) + (if 256 ≤ sv106 (w32 c) (rHb mem) (w32 (m 95 30)) then 2 else 1) → w32 (m' 95 29) = s → w32 (m' 95 30) = sv106 (w32 c) (rHb mem) (w32 (m 95 30)) → Q none m') : zG E (d + 1) xm_228 106 [some (1, 95), some (0, c)] [] m Q := by
  have e26 : m 95 26 = mem 95 26 := hI.1 95 26 rfl
  have e27 := hI.2.1
  have no : ¬ (w32 c = 60 ∧ rHb mem = 62) → zG E (d + 1) xm_228 128 [some (1, 95), some (0, c)] [] m Q := fun hn => sf128 hE hs ha ha2 hI (fun m' g1 g2 g3 g4 => fin m' g1 (by rw [sv106_n hn]; exact g2) g3 (by rw [sv106_n hn]; exact g4))
  have yes : w32 c = 60 ∧ rHb mem = 62 → zG E (d + 1) xm_228 128 [some (1, 95), some (0, c)] [] (yset m 95 30 257) Q := fun hy => sf128 hE hs ha ha2 (SfI_val hI) (fun m' g1 g2 g3 g4 => fin m' g1 (by rw [sv106_y hy]; rw [yset_s] at g2; exact g2) g3 (by rw [sv106_y hy]; rw [yset_s] at g4; exact g4))
  refine zgo_ok (n := 60) hE xmo_228 (cs := zc_228) ?_
  simp only [ynok_30, ynok_31, w32c_0, w32c_1, w32c_2, w32c_3, w32c_4, w32c_5, w32c_6, w32c_7, w32c_8, w32c_9, w32c_10, w32c_11, w32c_12, w32c_13, w32c_14, w32c_m1, w32c_m2, w32c_118, Int.reduceAdd, Int.reduceSub, Int.reduceMul, yput_s, yput_n, znl_n, znl_0, znl_1, znl_4, ysum_n, ysum_0, ysum_1, ysum_4, true_and, and_true, Nat.reduceAdd, Nat.reduceLeDiff, true_implies, eq_self, true_or, or_true, or_false, false_or, not_true_eq_false, not_false_eq_true, false_implies, implies_true, yset_s, yset_o, yset_d, ne_eq, Nat.reduceEqDiff, Int.reduceToNat, Int.reduceEq, Int.reduceLE, Int.reduceLT, Classical.not_not, Nat.reduceLT, ↓zvk_s, ↓zvk_n, ↓s_228_0, ↓s_228_1a, ↓s_228_1b, ↓s_228_2, ↓s_228_5, ↓s_228_6, ↓s_228_7, ↓s_228_10, ↓s_228_11, ↓s_228_12, ↓s_228_14, ↓s_228_17, ↓s_228_18, ↓s_228_20, ↓s_228_23, ↓s_228_24, ↓s_228_26, ↓s_228_29, ↓s_228_30, ↓s_228_32, ↓s_228_35, ↓s_228_36, ↓s_228_38, ↓s_228_41, ↓s_228_42, ↓s_228_44, ↓s_228_47, ↓s_228_48, ↓s_228_50, ↓s_228_53, ↓s_228_54, ↓s_228_56, ↓s_228_59, ↓s_228_60, ↓s_228_62, ↓s_228_65, ↓s_228_66, ↓s_228_68, ↓s_228_71, ↓s_228_72, ↓s_228_75, ↓s_228_76, ↓g_228_79, ↓k_228_79, ↓s_228_80, ↓s_228_81, ↓s_228_84, ↓s_228_85, ↓s_228_87, ↓s_228_90, ↓s_228_91, ↓s_228_94, ↓s_228_96, ↓s_228_99, ↓s_228_100, ↓s_228_103, ↓g_228_106, ↓k_228_106, ↓s_228_107, ↓s_228_109, ↓s_228_112, ↓s_228_113, ↓s_228_116, ↓s_228_118, ↓s_228_121, ↓s_228_122, ↓s_228_125, ↓g_228_128, ↓k_228_128, ↓s_228_129, ↓s_228_131, ↓s_228_134, ↓s_228_135, ↓s_228_138, ↓s_228_140, ↓s_228_143, ↓s_228_144, ↓s_228_147, ↓g_228_150, ↓k_228_150, ↓s_228_151, ↓s_228_154, ↓s_228_157, ↓s_228_160, ↓s_228_161a, ↓s_228_161b, ↓s_228_162, ↓s_228_165, ↓s_228_166, ↓s_228_167, ↓s_228_170, w32c_59, w32c_40, w32c_41, w32c_43, w32c_45, w32c_42, w32c_47, w32c_60, w32c_61, w32c_62, w32c_256, w32c_257, w32c_258, ↓s_178_0, ↓s_178_1, ↓s_178_4, ↓s_178_5, ↓s_178_8, ↓s_178_11, ↓s_178_12, ↓s_178_15, ↓s_178_16, ↓s_178_19, ↓s_178_20, ↓s_178_23, ↓s_178_24, zar_96, zia_96, zln_96, zit_96, zio_95]
  rw [e26, hI.1 96 _ rfl]
  exact ⟨fun h => no (fun z => h z.1), fun h => ⟨fun h2 => no (fun z => by have := rHb2 e27 h2; omega), fun h2 => ⟨⟨by omega, by omega⟩, fun h3 => no (fun z => h3 (by rw [← rHb1 e27 (by omega)]; exact z.2)), fun h3 => yes ⟨h, by rw [rHb1 e27 (by omega)]; exact h3⟩⟩⟩⟩
theorem sv79_V {c b : Int} (hc : c ≤ 255) : sv79 c b c = sVl c b := by
  unfold sv79 sv106 sv128 sVl
  by_cases h1 : c = 60 ∧ b = 61
  · rw [if_pos h1, if_pos h1, if_neg (by omega), if_neg (by omega)]
  · rw [if_neg h1, if_neg h1]
    by_cases h2 : c = 60 ∧ b = 62
    · rw [if_pos h2, if_pos h2, if_neg (by omega)]
    · rw [if_neg h2, if_neg h2]
theorem sf79 {E : yE} (hE : yEok E) {d : Nat} {mem m : yMem} {Q : Option yV → yMem → Prop} {c s : Int} (hs : w32 (mem 95 26) ≤ 800) (ha : 0 ≤ w32 (mem 95 27)) (ha2 : w32 (mem 95 27) < w32 (mem 95 26)) (hI : SfI mem m s) (fin : ∀ m', aFrm [(95, 28), (95, 30), (95, 31)] mem m' → w32 (m' 95 27) = w32 (mem 95 27) + (if 256 ≤ sv79 (w32 c) (rHb mem) (w32 c) then 2 else 1) → w32 (m' 95 29) = s → w32 (m' 95 30) = sv79 (w32 c) (rHb mem) (w32 c) → Q none m') : zG E (d + 1) xm_228 79 [some (1, 95), some (0, c)] [] m Q := by
  have e26 : m 95 26 = mem 95 26 := hI.1 95 26 rfl
  have e27 := hI.2.1
  have hI2 : SfI mem (yset m 95 30 c) s := SfI_val hI
  have no : ¬ (w32 c = 60 ∧ rHb mem = 61) → zG E (d + 1) xm_228 106 [some (1, 95), some (0, c)] [] (yset m 95 30 c) Q := fun hn => sf106 hE hs ha ha2 hI2 (fun m' g1 g2 g3 g4 => fin m' g1 (by rw [sv79_n hn]; rw [yset_s] at g2; exact g2) g3 (by rw [sv79_n hn]; rw [yset_s] at g4; exact g4))
  have yes : w32 c = 60 ∧ rHb mem = 61 → zG E (d + 1) xm_228 106 [some (1, 95), some (0, c)] [] (yset (yset m 95 30 c) 95 30 256) Q := fun hy => sf106 hE hs ha ha2 (SfI_val hI2) (fun m' g1 g2 g3 g4 => fin m' g1 (by rw [sv79_y hy]; rw [yset_s] at g2; exact g2) g3 (by rw [sv79_y hy]; rw [yset_s] at g4; exact g4))
  refine zgo_ok (n := 60) hE xmo_228 (cs := zc_228) ?_
  simp only [ynok_30, ynok_31, w32c_0, w32c_1, w32c_2, w32c_3, w32c_4, w32c_5, w32c_6, w32c_7, w32c_8, w32c_9, w32c_10, w32c_11, w32c_12, w32c_13, w32c_14, w32c_m1, w32c_m2, w32c_118, Int.reduceAdd, Int.reduceSub, Int.reduceMul, yput_s, yput_n, znl_n, znl_0, znl_1, znl_4, ysum_n, ysum_0, ysum_1, ysum_4, true_and, and_true, Nat.reduceAdd, Nat.reduceLeDiff, true_implies, eq_self, true_or, or_true, or_false, false_or, not_true_eq_false, not_false_eq_true, false_implies, implies_true, yset_s, yset_o, yset_d, ne_eq, Nat.reduceEqDiff, Int.reduceToNat, Int.reduceEq, Int.reduceLE, Int.reduceLT, Classical.not_not, Nat.reduceLT, ↓zvk_s, ↓zvk_n, ↓s_228_0, ↓s_228_1a, ↓s_228_1b, ↓s_228_2, ↓s_228_5, ↓s_228_6, ↓s_228_7, ↓s_228_10, ↓s_228_11, ↓s_228_12, ↓s_228_14, ↓s_228_17, ↓s_228_18, ↓s_228_20, ↓s_228_23, ↓s_228_24, ↓s_228_26, ↓s_228_29, ↓s_228_30, ↓s_228_32, ↓s_228_35, ↓s_228_36, ↓s_228_38, ↓s_228_41, ↓s_228_42, ↓s_228_44, ↓s_228_47, ↓s_228_48, ↓s_228_50, ↓s_228_53, ↓s_228_54, ↓s_228_56, ↓s_228_59, ↓s_228_60, ↓s_228_62, ↓s_228_65, ↓s_228_66, ↓s_228_68, ↓s_228_71, ↓s_228_72, ↓s_228_75, ↓s_228_76, ↓g_228_79, ↓k_228_79, ↓s_228_80, ↓s_228_81, ↓s_228_84, ↓s_228_85, ↓s_228_87, ↓s_228_90, ↓s_228_91, ↓s_228_94, ↓s_228_96, ↓s_228_99, ↓s_228_100, ↓s_228_103, ↓g_228_106, ↓k_228_106, ↓s_228_107, ↓s_228_109, ↓s_228_112, ↓s_228_113, ↓s_228_116, ↓s_228_118, ↓s_228_121, ↓s_228_122, ↓s_228_125, ↓g_228_128, ↓k_228_128, ↓s_228_129, ↓s_228_131, ↓s_228_134, ↓s_228_135, ↓s_228_138, ↓s_228_140, ↓s_228_143, ↓s_228_144, ↓s_228_147, ↓g_228_150, ↓k_228_150, ↓s_228_151, ↓s_228_154, ↓s_228_157, ↓s_228_160, ↓s_228_161a, ↓s_228_161b, ↓s_228_162, ↓s_228_165, ↓s_228_166, ↓s_228_167, ↓s_228_170, w32c_59, w32c_40, w32c_41, w32c_43, w32c_45, w32c_42, w32c_47, w32c_60, w32c_61, w32c_62, w32c_256, w32c_257, w32c_258, ↓s_178_0, ↓s_178_1, ↓s_178_4, ↓s_178_5, ↓s_178_8, ↓s_178_11, ↓s_178_12, ↓s_178_15, ↓s_178_16, ↓s_178_19, ↓s_178_20, ↓s_178_23, ↓s_178_24, zar_96, zia_96, zln_96, zit_96, zio_95]
  rw [e26, hI.1 96 _ rfl]
  exact ⟨fun h => no (fun z => h z.1), fun h => ⟨fun h2 => no (fun z => by have := rHb2 e27 h2; omega), fun h2 => ⟨⟨by omega, by omega⟩, fun h3 => no (fun z => h3 (by rw [← rHb1 e27 (by omega)]; exact z.2)), fun h3 => yes ⟨h, by rw [rHb1 e27 (by omega)]; exact h3⟩⟩⟩⟩
/-- behind sign -/
theorem f_sign {E : yE} (hE : yEok E) {D : Nat} (hD : 2 ≤ D) {mem : yMem} {Q : Option yV → yMem → Prop} {c : Int} (hs : w32 (mem 95 26) ≤ 800) (ha : 0 ≤ w32 (mem 95 27)) (ha2 : w32 (mem 95 27) < w32 (mem 95 26)) (hc : w32 c ≤ 255) (hQ : ∀ m, aFrm [(95, 28), (95, 30), (95, 31)] mem m → w32 (m 95 27) = w32 (mem 95 27) + ((sSg (w32 c) (if rat mem + 1 < rsz mem then rch mem (rat mem + 1) else 0)).2 : Int) → sRk (w32 (m 95 29)) (w32 (m 95 30)) (sSg (w32 c) (if rat mem + 1 < rsz mem then rch mem (rat mem + 1) else 0)).1 0 → Q none m) : yCon E D xm_228 [(1, 95), (0, c)] mem Q := by
  obtain ⟨d, rfl⟩ := Nat.exists_eq_add_of_le' hD
  refine e_228 ?_
  refine zvc_ok hE 80 zc_228 _ _ _ _ _ _ _ xmo_228 ?_
  have e1 : w32 (mem 95 27 + 1) = w32 (mem 95 27) + 1 := by rw [w32_ad (by rw [w32c_1]; omega) (by rw [w32c_1]; omega), w32c_1]
  have hb : rHb mem = (if rat mem + 1 < rsz mem then rch mem (rat mem + 1) else 0) ∨ (rHb mem = -1 ∧ (if rat mem + 1 < rsz mem then rch mem (rat mem + 1) else 0) = 0) := by
    have r1 : rat mem = (w32 (mem 95 27)).toNat := rfl
    have r2 : rsz mem = (w32 (mem 95 26)).toNat := rfl
    unfold rHb
    by_cases h : w32 (mem 95 27) + 1 < w32 (mem 95 26)
    · left
      rw [if_pos h, if_pos (by omega), show (w32 (mem 95 27) + 1).toNat = rat mem + 1 by omega]
    · right
      rw [if_neg h, if_neg (by omega)]
      exact ⟨rfl, rfl⟩
  have fin : ∀ v s : Int, w32 v = s → ((sIn (w32 c) ∧ s = 3) ∨ (¬ sIn (w32 c) ∧ s = 5)) → zG E (d + 1) xm_228 79 [some (1, 95), some (0, c)] [] (yset (yset mem 95 27 (mem 95 27 + 1)) 95 29 v) Q := fun v s hv hsn =>
    sf79 (s := s) hE hs ha ha2 ⟨aFrm_set (aFrm_set aFrm_rf rfl) rfl, by rw [yset_d (by decide), yset_s, e1], by rw [yset_s]; exact hv⟩ (fun m' g1 g2 g3 g4 => by
      have sf := sg_fin hc hb hsn
      rw [sv79_V hc] at g2 g4
      refine hQ m' g1 ?_ ?_
      · rw [g2, sf.2]
      · rw [g3, g4]
        exact sf.1)
  have f3 : sIn (w32 c) → zG E (d + 1) xm_228 79 [some (1, 95), some (0, c)] [] (yset (yset mem 95 27 (mem 95 27 + 1)) 95 29 3) Q := fun h => fin 3 3 (by decide) (Or.inl ⟨h, rfl⟩)
  have f5 : ¬ sIn (w32 c) → zG E (d + 1) xm_228 79 [some (1, 95), some (0, c)] [] (yset (yset mem 95 27 (mem 95 27 + 1)) 95 29 5) Q := fun h => fin 5 5 (by decide) (Or.inr ⟨h, rfl⟩)
  simp only [ynok_30, ynok_31, w32c_0, w32c_1, w32c_2, w32c_3, w32c_4, w32c_5, w32c_6, w32c_7, w32c_8, w32c_9, w32c_10, w32c_11, w32c_12, w32c_13, w32c_14, w32c_m1, w32c_m2, w32c_118, Int.reduceAdd, Int.reduceSub, Int.reduceMul, yput_s, yput_n, znl_n, znl_0, znl_1, znl_4, ysum_n, ysum_0, ysum_1, ysum_4, true_and, and_true, Nat.reduceAdd, Nat.reduceLeDiff, true_implies, eq_self, true_or, or_true, or_false, false_or, not_true_eq_false, not_false_eq_true, false_implies, implies_true, yset_s, yset_o, yset_d, ne_eq, Nat.reduceEqDiff, Int.reduceToNat, Int.reduceEq, Int.reduceLE, Int.reduceLT, Classical.not_not, Nat.reduceLT, ↓zvk_s, ↓zvk_n, ↓s_228_0, ↓s_228_1a, ↓s_228_1b, ↓s_228_2, ↓s_228_5, ↓s_228_6, ↓s_228_7, ↓s_228_10, ↓s_228_11, ↓s_228_12, ↓s_228_14, ↓s_228_17, ↓s_228_18, ↓s_228_20, ↓s_228_23, ↓s_228_24, ↓s_228_26, ↓s_228_29, ↓s_228_30, ↓s_228_32, ↓s_228_35, ↓s_228_36, ↓s_228_38, ↓s_228_41, ↓s_228_42, ↓s_228_44, ↓s_228_47, ↓s_228_48, ↓s_228_50, ↓s_228_53, ↓s_228_54, ↓s_228_56, ↓s_228_59, ↓s_228_60, ↓s_228_62, ↓s_228_65, ↓s_228_66, ↓s_228_68, ↓s_228_71, ↓s_228_72, ↓s_228_75, ↓s_228_76, ↓g_228_79, ↓k_228_79, ↓s_228_80, ↓s_228_81, ↓s_228_84, ↓s_228_85, ↓s_228_87, ↓s_228_90, ↓s_228_91, ↓s_228_94, ↓s_228_96, ↓s_228_99, ↓s_228_100, ↓s_228_103, ↓g_228_106, ↓k_228_106, ↓s_228_107, ↓s_228_109, ↓s_228_112, ↓s_228_113, ↓s_228_116, ↓s_228_118, ↓s_228_121, ↓s_228_122, ↓s_228_125, ↓g_228_128, ↓k_228_128, ↓s_228_129, ↓s_228_131, ↓s_228_134, ↓s_228_135, ↓s_228_138, ↓s_228_140, ↓s_228_143, ↓s_228_144, ↓s_228_147, ↓g_228_150, ↓k_228_150, ↓s_228_151, ↓s_228_154, ↓s_228_157, ↓s_228_160, ↓s_228_161a, ↓s_228_161b, ↓s_228_162, ↓s_228_165, ↓s_228_166, ↓s_228_167, ↓s_228_170, w32c_59, w32c_40, w32c_41, w32c_43, w32c_45, w32c_42, w32c_47, w32c_60, w32c_61, w32c_62, w32c_256, w32c_257, w32c_258, ↓s_178_0, ↓s_178_1, ↓s_178_4, ↓s_178_5, ↓s_178_8, ↓s_178_11, ↓s_178_12, ↓s_178_15, ↓s_178_16, ↓s_178_19, ↓s_178_20, ↓s_178_23, ↓s_178_24, zar_96, zia_96, zln_96, zit_96, zio_95]
  repeat' first | exact f3 (by unfold sIn; omega) | exact f5 (by unfold sIn; omega) | refine And.intro ?_ ?_ | intro _
end
