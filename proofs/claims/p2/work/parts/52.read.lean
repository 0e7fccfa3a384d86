theorem s_212_0 {E : yE} {n d : Nat} {mem : yMem} {Post : Option yV → yMem → Prop} {st : List yV} {r1 r2 r3 : Option yV} {x : Int} : zvc E (n + 1) [] d xm_212 0 [some (1, x), r1, r2, r3] (st) mem Post = (zvc E n [] d xm_212 1 [some (1, x), r1, r2, r3] ((1, x) :: st) mem Post) := zrf rfl
theorem s_212_1 {E : yE} {n d : Nat} {mem : yMem} {Post : Option yV → yMem → Prop} {st : List yV} {r0 r1 r2 r3 : Option yV} : zvc E (n + 1) [] d xm_212 1 [r0, r1, r2, r3] ((1, 95) :: st) mem Post = (zvc E n [] d xm_212 4 [r0, r1, r2, r3] ((0, mem 95 31) :: st) mem Post) := zrf rfl
theorem s_212_4 {E : yE} {n d : Nat} {mem : yMem} {Post : Option yV → yMem → Prop} {st : List yV} {r0 r1 r2 r3 : Option yV} {x : Int} : zvc E (n + 1) [] d xm_212 4 [r0, r1, r2, r3] ((0, x) :: st) mem Post = ((w32 x = w32 0 → zvc E n [] d xm_212 9 [r0, r1, r2, r3] (st) mem Post) ∧ (¬ (w32 x = w32 0) → zvc E n [] d xm_212 7 [r0, r1, r2, r3] (st) mem Post)) := zrf rfl
theorem s_212_7 {E : yE} {n d : Nat} {mem : yMem} {Post : Option yV → yMem → Prop} {st : List yV} {r0 r2 r3 : Option yV} {x : Int} : zvc E (n + 1) [] d xm_212 7 [r0, some (0, x), r2, r3] (st) mem Post = (zvc E n [] d xm_212 8 [r0, some (0, x), r2, r3] ((0, x) :: st) mem Post) := zrf rfl
theorem s_212_8 {E : yE} {n d : Nat} {mem : yMem} {Post : Option yV → yMem → Prop} {r0 r1 r2 r3 : Option yV} {x : Int} : zvc E (n + 1) [] d xm_212 8 [r0, r1, r2, r3] ([(0, x)]) mem Post = (Post (some (0, x)) mem) := zrf rfl
theorem s_212_9 {E : yE} {n d : Nat} {mem : yMem} {Post : Option yV → yMem → Prop} {st : List yV} {r1 r2 r3 : Option yV} {x : Int} : zvc E (n + 1) [] d xm_212 9 [some (1, x), r1, r2, r3] (st) mem Post = (zvc E n [] d xm_212 10 [some (1, x), r1, r2, r3] ((1, x) :: st) mem Post) := zrf rfl
theorem s_212_10 {E : yE} {n d : Nat} {mem : yMem} {Post : Option yV → yMem → Prop} {st : List yV} {r0 r1 r2 r3 : Option yV} : zvc E (n + 1) [] d xm_212 10 [r0, r1, r2, r3] ((1, 95) :: st) mem Post = (zvc E n [] d xm_212 13 [r0, r1, r2, r3] ((0, mem 95 29) :: st) mem Post) := zrf rfl
theorem s_212_13 {E : yE} {n d : Nat} {mem : yMem} {Post : Option yV → yMem → Prop} {st : List yV} {r0 r1 r2 r3 : Option yV} : zvc E (n + 1) [] d xm_212 13 [r0, r1, r2, r3] (st) mem Post = (zvc E n [] d xm_212 14 [r0, r1, r2, r3] ((0, 2) :: st) mem Post) := zrf rfl
theorem s_212_14 {E : yE} {n d : Nat} {mem : yMem} {Post : Option yV → yMem → Prop} {st : List yV} {r0 r1 r2 r3 : Option yV} {x y : Int} : zvc E (n + 1) [] d xm_212 14 [r0, r1, r2, r3] ((0, y) :: (0, x) :: st) mem Post = ((w32 x = w32 y → zvc E n [] d xm_212 25 [r0, r1, r2, r3] (st) mem Post) ∧ (¬ (w32 x = w32 y) → zvc E n [] d xm_212 17 [r0, r1, r2, r3] (st) mem Post)) := zrf rfl
theorem s_212_17 {E : yE} {n d : Nat} {mem : yMem} {Post : Option yV → yMem → Prop} {st : List yV} {r1 r2 r3 : Option yV} {x : Int} : zvc E (n + 1) [] d xm_212 17 [some (1, x), r1, r2, r3] (st) mem Post = (zvc E n [] d xm_212 18 [some (1, x), r1, r2, r3] ((1, x) :: st) mem Post) := zrf rfl
theorem s_212_18 {E : yE} {n d : Nat} {mem : yMem} {Post : Option yV → yMem → Prop} {st : List yV} {r0 r1 r2 r3 : Option yV} : zvc E (n + 1) [] d xm_212 18 [r0, r1, r2, r3] (st) mem Post = (zvc E n [] d xm_212 19 [r0, r1, r2, r3] ((0, 1) :: st) mem Post) := zrf rfl
theorem s_212_19 {E : yE} {n d : Nat} {mem : yMem} {Post : Option yV → yMem → Prop} {st : List yV} {r0 r1 r2 r3 : Option yV} {z a0 : Int} : zvc E (n + 1) [] (d + 1) xm_212 19 [r0, r1, r2, r3] ((0, a0) :: (1, z) :: st) mem Post = (zio z 12 = true ∧ ysum st ≤ 8 ∧ zvc E n [] d xm_254 0 [some (1, z), some (0, a0)] [] mem (fun v mem' => zvk E n [] (d + 1) xm_212 22 [r0, r1, r2, r3] st v mem' Post)) := zrf rfl
theorem s_212_22 {E : yE} {n d : Nat} {mem : yMem} {Post : Option yV → yMem → Prop} {st : List yV} {r0 r1 r2 r3 : Option yV} : zvc E (n + 1) [] d xm_212 22 [r0, r1, r2, r3] (st) mem Post = (zvc E n [] d xm_212 46 [r0, r1, r2, r3] (st) mem Post) := zrf rfl
theorem s_212_25 {E : yE} {n d : Nat} {mem : yMem} {Post : Option yV → yMem → Prop} {st : List yV} {r1 r2 r3 : Option yV} {x : Int} : zvc E (n + 1) [] d xm_212 25 [some (1, x), r1, r2, r3] (st) mem Post = (zvc E n [] d xm_212 26 [some (1, x), r1, r2, r3] ((1, x) :: st) mem Post) := zrf rfl
theorem s_212_26 {E : yE} {n d : Nat} {mem : yMem} {Post : Option yV → yMem → Prop} {st : List yV} {r0 r1 r2 r3 : Option yV} : zvc E (n + 1) [] d xm_212 26 [r0, r1, r2, r3] ((1, 95) :: st) mem Post = (zvc E n [] d xm_212 29 [r0, r1, r2, r3] ((0, mem 95 30) :: st) mem Post) := zrf rfl
theorem s_212_29 {E : yE} {n d : Nat} {mem : yMem} {Post : Option yV → yMem → Prop} {st : List yV} {r0 r2 r3 : Option yV} {x : Int} : zvc E (n + 1) [] d xm_212 29 [r0, some (0, x), r2, r3] (st) mem Post = (zvc E n [] d xm_212 30 [r0, some (0, x), r2, r3] ((0, x) :: st) mem Post) := zrf rfl
theorem s_212_30 {E : yE} {n d : Nat} {mem : yMem} {Post : Option yV → yMem → Prop} {st : List yV} {r0 r1 r2 r3 : Option yV} {x y : Int} : zvc E (n + 1) [] d xm_212 30 [r0, r1, r2, r3] ((0, y) :: (0, x) :: st) mem Post = ((w32 x < w32 y → zvc E n [] d xm_212 41 [r0, r1, r2, r3] (st) mem Post) ∧ (¬ (w32 x < w32 y) → zvc E n [] d xm_212 33 [r0, r1, r2, r3] (st) mem Post)) := zrf rfl
theorem s_212_33 {E : yE} {n d : Nat} {mem : yMem} {Post : Option yV → yMem → Prop} {st : List yV} {r1 r2 r3 : Option yV} {x : Int} : zvc E (n + 1) [] d xm_212 33 [some (1, x), r1, r2, r3] (st) mem Post = (zvc E n [] d xm_212 34 [some (1, x), r1, r2, r3] ((1, x) :: st) mem Post) := zrf rfl
theorem s_212_34 {E : yE} {n d : Nat} {mem : yMem} {Post : Option yV → yMem → Prop} {st : List yV} {r0 r1 r2 r3 : Option yV} : zvc E (n + 1) [] d xm_212 34 [r0, r1, r2, r3] ((1, 95) :: st) mem Post = (zvc E n [] d xm_212 37 [r0, r1, r2, r3] ((0, mem 95 30) :: st) mem Post) := zrf rfl
theorem s_212_37 {E : yE} {n d : Nat} {mem : yMem} {Post : Option yV → yMem → Prop} {st : List yV} {r0 r1 r3 : Option yV} {x : Int} : zvc E (n + 1) [] d xm_212 37 [r0, r1, some (0, x), r3] (st) mem Post = (zvc E n [] d xm_212 38 [r0, r1, some (0, x), r3] ((0, x) :: st) mem Post) := zrf rfl
theorem s_212_38 {E : yE} {n d : Nat} {mem : yMem} {Post : Option yV → yMem → Prop} {st : List yV} {r0 r1 r2 r3 : Option yV} {x y : Int} : zvc E (n + 1) [] d xm_212 38 [r0, r1, r2, r3] ((0, y) :: (0, x) :: st) mem Post = ((w32 x ≤ w32 y → zvc E n [] d xm_212 46 [r0, r1, r2, r3] (st) mem Post) ∧ (¬ (w32 x ≤ w32 y) → zvc E n [] d xm_212 41 [r0, r1, r2, r3] (st) mem Post)) := zrf rfl
theorem s_212_41 {E : yE} {n d : Nat} {mem : yMem} {Post : Option yV → yMem → Prop} {st : List yV} {r1 r2 r3 : Option yV} {x : Int} : zvc E (n + 1) [] d xm_212 41 [some (1, x), r1, r2, r3] (st) mem Post = (zvc E n [] d xm_212 42 [some (1, x), r1, r2, r3] ((1, x) :: st) mem Post) := zrf rfl
theorem s_212_42 {E : yE} {n d : Nat} {mem : yMem} {Post : Option yV → yMem → Prop} {st : List yV} {r0 r1 r2 r3 : Option yV} : zvc E (n + 1) [] d xm_212 42 [r0, r1, r2, r3] (st) mem Post = (zvc E n [] d xm_212 43 [r0, r1, r2, r3] ((0, 2) :: st) mem Post) := zrf rfl
theorem s_212_43 {E : yE} {n d : Nat} {mem : yMem} {Post : Option yV → yMem → Prop} {st : List yV} {r0 r1 r2 r3 : Option yV} {z a0 : Int} : zvc E (n + 1) [] (d + 1) xm_212 43 [r0, r1, r2, r3] ((0, a0) :: (1, z) :: st) mem Post = (zio z 12 = true ∧ ysum st ≤ 8 ∧ zvc E n [] d xm_254 0 [some (1, z), some (0, a0)] [] mem (fun v mem' => zvk E n [] (d + 1) xm_212 46 [r0, r1, r2, r3] st v mem' Post)) := zrf rfl
theorem s_212_46 {E : yE} {n d : Nat} {mem : yMem} {Post : Option yV → yMem → Prop} {st : List yV} {r1 r2 r3 : Option yV} {x : Int} : zvc E (n + 1) [] d xm_212 46 [some (1, x), r1, r2, r3] (st) mem Post = (zvc E n [] d xm_212 47 [some (1, x), r1, r2, r3] ((1, x) :: st) mem Post) := zrf rfl
theorem s_212_47 {E : yE} {n d : Nat} {mem : yMem} {Post : Option yV → yMem → Prop} {st : List yV} {r0 r1 r2 r3 : Option yV} : zvc E (n + 1) [] d xm_212 47 [r0, r1, r2, r3] ((1, 95) :: st) mem Post = (zvc E n [] d xm_212 50 [r0, r1, r2, r3] ((0, mem 95 31) :: st) mem Post) := zrf rfl
theorem s_212_50 {E : yE} {n d : Nat} {mem : yMem} {Post : Option yV → yMem → Prop} {st : List yV} {r0 r1 r2 r3 : Option yV} {x : Int} : zvc E (n + 1) [] d xm_212 50 [r0, r1, r2, r3] ((0, x) :: st) mem Post = ((w32 x = w32 0 → zvc E n [] d xm_212 55 [r0, r1, r2, r3] (st) mem Post) ∧ (¬ (w32 x = w32 0) → zvc E n [] d xm_212 53 [r0, r1, r2, r3] (st) mem Post)) := zrf rfl
theorem s_212_53 {E : yE} {n d : Nat} {mem : yMem} {Post : Option yV → yMem → Prop} {st : List yV} {r0 r2 r3 : Option yV} {x : Int} : zvc E (n + 1) [] d xm_212 53 [r0, some (0, x), r2, r3] (st) mem Post = (zvc E n [] d xm_212 54 [r0, some (0, x), r2, r3] ((0, x) :: st) mem Post) := zrf rfl
theorem s_212_54 {E : yE} {n d : Nat} {mem : yMem} {Post : Option yV → yMem → Prop} {r0 r1 r2 r3 : Option yV} {x : Int} : zvc E (n + 1) [] d xm_212 54 [r0, r1, r2, r3] ([(0, x)]) mem Post = (Post (some (0, x)) mem) := zrf rfl
theorem s_212_55 {E : yE} {n d : Nat} {mem : yMem} {Post : Option yV → yMem → Prop} {st : List yV} {r1 r2 r3 : Option yV} {x : Int} : zvc E (n + 1) [] d xm_212 55 [some (1, x), r1, r2, r3] (st) mem Post = (zvc E n [] d xm_212 56 [some (1, x), r1, r2, r3] ((1, x) :: st) mem Post) := zrf rfl
theorem s_212_56 {E : yE} {n d : Nat} {mem : yMem} {Post : Option yV → yMem → Prop} {st : List yV} {r0 r1 r2 r3 : Option yV} : zvc E (n + 1) [] d xm_212 56 [r0, r1, r2, r3] ((1, 95) :: st) mem Post = (zvc E n [] d xm_212 59 [r0, r1, r2, r3] ((0, mem 95 30) :: st) mem Post) := zrf rfl
theorem s_212_59n {E : yE} {n d : Nat} {mem : yMem} {Post : Option yV → yMem → Prop} {st : List yV} {r0 r1 r3 : Option yV} {x : Int} : zvc E (n + 1) [] d xm_212 59 [r0, r1, none, r3] ((0, x) :: st) mem Post = (zvc E n [] d xm_212 60 [r0, r1, none, some (0, x)] (st) mem Post) := zrf rfl
theorem s_212_59i {E : yE} {n d : Nat} {mem : yMem} {Post : Option yV → yMem → Prop} {st : List yV} {r0 r1 r3 : Option yV} {x w : Int} : zvc E (n + 1) [] d xm_212 59 [r0, r1, some (0, w), r3] ((0, x) :: st) mem Post = (zvc E n [] d xm_212 60 [r0, r1, some (0, w), some (0, x)] (st) mem Post) := zrf rfl
theorem s_212_59p {E : yE} {n d : Nat} {mem : yMem} {Post : Option yV → yMem → Prop} {st : List yV} {r0 r1 r3 : Option yV} {x w : Int} : zvc E (n + 1) [] d xm_212 59 [r0, r1, some (1, w), r3] ((0, x) :: st) mem Post = (zvc E n [] d xm_212 60 [r0, r1, some (1, w), some (0, x)] (st) mem Post) := zrf rfl
theorem s_212_59j {E : yE} {n d : Nat} {mem : yMem} {Post : Option yV → yMem → Prop} {st : List yV} {r0 r1 r2 r3 : Option yV} {x : Int} : zvc E (n + 1) [] d xm_212 59 [r0, r1, r2, r3] ((0, x) :: st) mem Post = (zvc E n [] d xm_212 60 [r0, r1, znl r2, some (0, x)] (st) mem Post) := zrf rfl
theorem s_212_60 {E : yE} {n d : Nat} {mem : yMem} {Post : Option yV → yMem → Prop} {st : List yV} {r1 r2 r3 : Option yV} {x : Int} : zvc E (n + 1) [] d xm_212 60 [some (1, x), r1, r2, r3] (st) mem Post = (zvc E n [] d xm_212 61 [some (1, x), r1, r2, r3] ((1, x) :: st) mem Post) := zrf rfl
theorem s_212_61 {E : yE} {n d : Nat} {mem : yMem} {Post : Option yV → yMem → Prop} {st : List yV} {r0 r1 r2 r3 : Option yV} {z : Int} : zvc E (n + 1) [] d xm_212 61 [r0, r1, r2, r3] ((1, z) :: st) mem Post = (zio z 12 = true ∧ ysum st ≤ 8 ∧ yCon E d xm_244 [(1, z)] mem (fun v mem' => zgk E d xm_212 64 [r0, r1, r2, r3] st v mem' Post)) := zrf rfl
theorem s_212_64 {E : yE} {n d : Nat} {mem : yMem} {Post : Option yV → yMem → Prop} {st : List yV} {r0 r1 r2 : Option yV} {x : Int} : zvc E (n + 1) [] d xm_212 64 [r0, r1, r2, some (0, x)] (st) mem Post = (zvc E n [] d xm_212 65 [r0, r1, r2, some (0, x)] ((0, x) :: st) mem Post) := zrf rfl
theorem s_212_65 {E : yE} {n d : Nat} {mem : yMem} {Post : Option yV → yMem → Prop} {r0 r1 r2 r3 : Option yV} {x : Int} : zvc E (n + 1) [] d xm_212 65 [r0, r1, r2, r3] ([(0, x)]) mem Post = (Post (some (0, x)) mem) := zrf rfl
theorem s_254_0 {E : yE} {n d : Nat} {mem : yMem} {Post : Option yV → yMem → Prop} {st : List yV} {r1 : Option yV} {x : Int} : zvc E (n + 1) [] d xm_254 0 [some (1, x), r1] (st) mem Post = (zvc E n [] d xm_254 1 [some (1, x), r1] ((1, x) :: st) mem Post) := zrf rfl
theorem s_254_1 {E : yE} {n d : Nat} {mem : yMem} {Post : Option yV → yMem → Prop} {st : List yV} {r0 r1 : Option yV} : zvc E (n + 1) [] d xm_254 1 [r0, r1] ((1, 95) :: st) mem Post = (zvc E n [] d xm_254 4 [r0, r1] ((0, mem 95 31) :: st) mem Post) := zrf rfl
theorem s_254_4 {E : yE} {n d : Nat} {mem : yMem} {Post : Option yV → yMem → Prop} {st : List yV} {r0 r1 : Option yV} {x : Int} : zvc E (n + 1) [] d xm_254 4 [r0, r1] ((0, x) :: st) mem Post = ((w32 x = w32 0 → zvc E n [] d xm_254 8 [r0, r1] (st) mem Post) ∧ (¬ (w32 x = w32 0) → zvc E n [] d xm_254 7 [r0, r1] (st) mem Post)) := zrf rfl
theorem s_254_7 {E : yE} {n d : Nat} {mem : yMem} {Post : Option yV → yMem → Prop} {r0 r1 : Option yV} : zvc E (n + 1) [] d xm_254 7 [r0, r1] ([]) mem Post = (Post none mem) := zrf rfl
theorem s_254_8 {E : yE} {n d : Nat} {mem : yMem} {Post : Option yV → yMem → Prop} {st : List yV} {r1 : Option yV} {x : Int} : zvc E (n + 1) [] d xm_254 8 [some (1, x), r1] (st) mem Post = (zvc E n [] d xm_254 9 [some (1, x), r1] ((1, x) :: st) mem Post) := zrf rfl
theorem s_254_9 {E : yE} {n d : Nat} {mem : yMem} {Post : Option yV → yMem → Prop} {st : List yV} {r0 : Option yV} {x : Int} : zvc E (n + 1) [] d xm_254 9 [r0, some (0, x)] (st) mem Post = (zvc E n [] d xm_254 10 [r0, some (0, x)] ((0, x) :: st) mem Post) := zrf rfl
theorem s_254_10 {E : yE} {n d : Nat} {mem : yMem} {Post : Option yV → yMem → Prop} {st : List yV} {r0 r1 : Option yV} {x : Int} : zvc E (n + 1) [] d xm_254 10 [r0, r1] ((0, x) :: (1, 95) :: st) mem Post = (zvc E n [] d xm_254 13 [r0, r1] (st) (yset mem 95 31 x) Post) := zrf rfl
theorem s_254_13 {E : yE} {n d : Nat} {mem : yMem} {Post : Option yV → yMem → Prop} {st : List yV} {r1 : Option yV} {x : Int} : zvc E (n + 1) [] d xm_254 13 [some (1, x), r1] (st) mem Post = (zvc E n [] d xm_254 14 [some (1, x), r1] ((1, x) :: st) mem Post) := zrf rfl
theorem s_254_14 {E : yE} {n d : Nat} {mem : yMem} {Post : Option yV → yMem → Prop} {st : List yV} {r1 : Option yV} {x : Int} : zvc E (n + 1) [] d xm_254 14 [some (1, x), r1] (st) mem Post = (zvc E n [] d xm_254 15 [some (1, x), r1] ((1, x) :: st) mem Post) := zrf rfl
theorem s_254_15 {E : yE} {n d : Nat} {mem : yMem} {Post : Option yV → yMem → Prop} {st : List yV} {r0 r1 : Option yV} : zvc E (n + 1) [] d xm_254 15 [r0, r1] ((1, 95) :: st) mem Post = (zvc E n [] d xm_254 18 [r0, r1] ((0, mem 95 28) :: st) mem Post) := zrf rfl
theorem s_254_18 {E : yE} {n d : Nat} {mem : yMem} {Post : Option yV → yMem → Prop} {st : List yV} {r0 r1 : Option yV} {x : Int} : zvc E (n + 1) [] d xm_254 18 [r0, r1] ((0, x) :: (1, 95) :: st) mem Post = (zvc E n [] d xm_254 21 [r0, r1] (st) (yset mem 95 32 x) Post) := zrf rfl
theorem s_254_21 {E : yE} {n d : Nat} {mem : yMem} {Post : Option yV → yMem → Prop} {r0 r1 : Option yV} : zvc E (n + 1) [] d xm_254 21 [r0, r1] ([]) mem Post = (Post none mem) := zrf rfl
theorem e_212 {E : yE} {d : Nat} {mem : yMem} {Q : Option yV → yMem → Prop} {z a0 a1 : Int} (h : zG E d xm_212 0 [some (1, z), some (0, a0), some (0, a1), none] [] mem Q) : yCon E (d + 1) xm_212 [(1, z), (0, a0), (0, a1)] mem Q := zcon_of xmo_212 (Nat.le_of_ble_eq_true rfl) h
theorem e_254 {E : yE} {d : Nat} {mem : yMem} {Q : Option yV → yMem → Prop} {z a0 : Int} (h : zG E d xm_254 0 [some (1, z), some (0, a0)] [] mem Q) : yCon E (d + 1) xm_254 [(1, z), (0, a0)] mem Q := zcon_of xmo_254 (Nat.le_of_ble_eq_true rfl) h

/-- what holds while a TEXT is read -/
def PI (mem : yMem) : Prop := aGok mem ∧ w32 (mem 95 27) ≤ w32 (mem 95 26) ∧ w32 (mem 97 13) ≤ w32 (mem 95 36) ∧ (w32 (mem 95 29) = 0 → 0 ≤ w32 (mem 95 30) ∧ w32 (mem 95 30) ≤ 22)
abbrev rdW : List (Nat × Nat) := [(95, 28), (95, 29), (95, 30), (95, 31), (95, 32), (95, 33)]
/-- what a reader of one TOKEN does -/
def Rd (mem m : yMem) : Prop := PI m ∧ aFrm rdW mem m ∧ w32 (mem 95 27) ≤ w32 (m 95 27) ∧ (¬ w32 (mem 95 31) = 0 → m = mem)
theorem aFrm_tr {w : List (Nat × Nat)} {a b c : yMem} (h1 : aFrm w a b) (h2 : aFrm w b c) : aFrm w a c := fun i j h => by rw [h2 i j h, h1 i j h]
theorem amod_sub {w w' : List (Nat × Nat)} (h : amsub w w' = true) {i j : Nat} (hm : amod w' i j = false) : amod w i j = false := by
  induction w with
  | nil => rfl
  | cons q r ih =>
    simp only [amsub, Bool.and_eq_true] at h
    simp only [amod, Bool.or_eq_false_iff]
    refine ⟨?_, ih h.2⟩
    obtain ⟨a, b⟩ := q
    cases hb : Nat.beq a i with
    | false => rfl
    | true =>
      have hb' := Nat.eq_of_beq_eq_true hb
      subst hb'
      dsimp only at h ⊢
      have key : ∀ (w' : List (Nat × Nat)), amodA w' a = true → amod w' a j = true := by
        intro w'
        induction w' with
        | nil => intro h; cases h
        | cons p s ih2 =>
          intro h
          simp only [amodA, Bool.or_eq_true, Bool.and_eq_true] at h
          simp only [amod, Bool.or_eq_true, Bool.and_eq_true]
          rcases h with h | h
          · exact Or.inl ⟨h.1, Or.inl h.2⟩
          · exact Or.inr (ih2 h)
      cases b with
      | zero =>
        have := key w' h.1
        rw [hm] at this
        cases this
      | succ b =>
        have h1 : amod w' a b = true := h.1
        cases hj : Nat.beq (b + 1) (j + 1) with
        | false => rfl
        | true =>
          have := Nat.eq_of_beq_eq_true hj
          have e : b = j := by omega
          subst e
          rw [hm] at h1
          cases h1
theorem aFrm_w {w w' : List (Nat × Nat)} {a b : yMem} (h : aFrm w a b) (hs : amsub w w' = true) : aFrm w' a b := fun i j hm => h i j (amod_sub hs hm)
theorem Rd_rf {mem : yMem} (h : PI mem) : Rd mem mem := ⟨h, aFrm_rf, Int.le_refl _, fun _ => rfl⟩
theorem Rd_tr {a b c : yMem} (h1 : Rd a b) (h2 : Rd b c) : Rd a c := by
  refine ⟨h2.1, aFrm_tr h1.2.1 h2.2.1, Int.le_trans h1.2.2.1 h2.2.2.1, fun h => ?_⟩
  have e := h1.2.2.2 h
  rw [e] at h2
  exact h2.2.2.2 h
/-- a memory that differs from one as it should in told slots alone -/
theorem aGok_frm {w : List (Nat × Nat)} {mem m : yMem} (hG : aGok mem) (hF : aFrm w mem m) (h : ∀ i j, amod w i j = true → (agam i j).1 ≤ w32 (m i j) ∧ w32 (m i j) ≤ (agam i j).2) : aGok m := by
  intro i j
  cases hm : amod w i j with
  | true => exact h i j hm
  | false => rw [hF i j hm]; exact hG i j
theorem ag_32 {i j : Nat} {x : Int} (h : agam i j = (-2147483648, 2147483647)) : (agam i j).1 ≤ w32 x ∧ w32 x ≤ (agam i j).2 := by
  rw [h]
  have h1 := w32_lo x
  have h2 := w32_hi x
  constructor
  · exact h1
  · show w32 x ≤ 2147483647; omega
theorem TkQ_Rd {mem m : yMem} (hP : PI mem) (hf : w32 (mem 95 31) = 0) (h : TkQ mem m) : Rd mem m := by
  obtain ⟨h1, h2, h3, h4, h5, h6, h7⟩ := h
  have g26 := ag hP.1 95 26 ag_95_26
  have g27 := ag hP.1 95 27 ag_95_27
  refine ⟨⟨aGok_frm hP.1 h1 (fun i j hm => ?_), ?_, ?_, h7⟩, aFrm_w h1 rfl, h2, fun h => absurd hf h⟩
  · simp only [amod, Bool.or_eq_true, Bool.and_eq_true, Nat.beq_eq, Bool.false_eq_true, or_false] at hm
    rcases hm with ⟨rfl, hm⟩ | ⟨rfl, hm⟩ | ⟨rfl, hm⟩ | ⟨rfl, hm⟩
    · have e : j = 27 := by omega
      subst e
      rw [ag_95_27]
      exact ⟨by dsimp only; omega, by dsimp only; omega⟩
    · have e : j = 28 := by omega
      subst e
      rw [ag_95_28]
      exact ⟨by dsimp only; omega, by dsimp only; omega⟩
    · have e : j = 29 := by omega
      subst e
      exact ag_32 ag_95_29
    · have e : j = 30 := by omega
      subst e
      exact ag_32 ag_95_30
  · rw [h1 95 26 rfl]; exact h3
  · rw [h1 97 13 rfl, h1 95 36 rfl]; exact hP.2.2.1
/-- wrong -/
theorem PI_wrong {mem : yMem} (hP : PI mem) {k : Int} : PI (yset (yset mem 95 31 k) 95 32 (mem 95 28)) ∧ aFrm rdW mem (yset (yset mem 95 31 k) 95 32 (mem 95 28)) := by
  refine ⟨⟨aGok_set (aGok_set hP.1 (ag_32 ag_95_31)) (ag_32 ag_95_32), ?_, ?_, ?_⟩, aFrm_set (aFrm_set aFrm_rf rfl) rfl⟩
  · rw [yset_d (by decide), yset_d (by decide), yset_d (by decide), yset_d (by decide)]; exact hP.2.1
  · rw [yset_o (by decide), yset_o (by decide), yset_d (by decide), yset_d (by decide)]; exact hP.2.2.1
  · rw [yset_d (by decide), yset_d (by decide), yset_d (by decide), yset_d (by decide)]; exact hP.2.2.2
theorem PI_tok {mem : yMem} (hP : PI mem) : w32 (mem 95 26) ≤ 800 ∧ 0 ≤ w32 (mem 95 27) ∧ w32 (mem 95 27) ≤ w32 (mem 95 26) ∧ (∀ j, 0 ≤ w32 (mem 96 j) ∧ w32 (mem 96 j) ≤ 255) :=
  ⟨(ag hP.1 95 26 ag_95_26).2, (ag hP.1 95 27 ag_95_27).1, hP.2.1, fun j => agA hP.1 96 j ae_96⟩
/-- token, where no FAULT is -/
theorem r_token {E : yE} (hE : yEok E) {D : Nat} (hD : 6 ≤ D) {mem : yMem} {Q : Option yV → yMem → Prop} (hP : PI mem) (hf : w32 (mem 95 31) = 0) (hQ : ∀ m, Rd mem m → w32 (m 95 31) = 0 → (¬ w32 (m 95 29) = 4 → w32 (mem 95 27) < w32 (m 95 27)) → Q none m) : yCon E D xm_244 [(1, 95)] mem Q := by
  obtain ⟨h1, h2, h3, h4⟩ := PI_tok hP
  exact c_token hE hD h1 h2 h3 h4 (fun m h => hQ m (TkQ_Rd hP hf h) (by rw [h.1 95 31 rfl]; exact hf) h.2.2.2.2.2.1)
theorem c_numeral {E : yE} (hE : yEok E) {D : Nat} (hD : 7 ≤ D) {mem : yMem} {Q : Option yV → yMem → Prop} {a b : Int} (hP : PI mem) (hQ : ∀ r m, Rd mem m → (w32 (m 95 31) = 0 → w32 (mem 95 29) = 2 ∧ w32 a ≤ w32 r ∧ w32 r ≤ w32 b) → Q (some (0, r)) m) : yCon E D xm_212 [(1, 95), (0, a), (0, b)] mem Q := by
  obtain ⟨d, rfl⟩ := Nat.exists_eq_add_of_le' hD
  refine e_212 ?_
  refine zvc_ok hE 80 [] _ _ _ _ _ _ _ xmo_212 ?_
  simp only [w32c_0, w32c_1, w32c_m1, w32c_118, yput_s, yput_n, znl_n, znl_0, znl_1, znl_4, ysum_n, ysum_0, ysum_1, ysum_4, true_and, and_true, Nat.reduceAdd, Nat.reduceLeDiff, true_implies, eq_self, true_or, or_true, or_false, false_or, not_true_eq_false, not_false_eq_true, false_implies, implies_true, yset_s, yset_o, yset_d, ne_eq, Nat.reduceEqDiff, Int.reduceToNat, Int.reduceEq, Int.reduceLE, Int.reduceLT, Classical.not_not, Nat.reduceLT, ↓zvk_s, ↓zvk_n, ↓s_212_0, ↓s_212_1, ↓s_212_4, ↓s_212_7, ↓s_212_8, ↓s_212_9, ↓s_212_10, ↓s_212_13, ↓s_212_14, ↓s_212_17, ↓s_212_18, ↓s_212_19, ↓s_212_22, ↓s_212_25, ↓s_212_26, ↓s_212_29, ↓s_212_30, ↓s_212_33, ↓s_212_34, ↓s_212_37, ↓s_212_38, ↓s_212_41, ↓s_212_42, ↓s_212_43, ↓s_212_46, ↓s_212_47, ↓s_212_50, ↓s_212_53, ↓s_212_54, ↓s_212_55, ↓s_212_56, ↓s_212_59n, ↓s_212_59i, ↓s_212_59p, ↓s_212_60, ↓s_212_61, ↓s_212_64, ↓s_212_65, w32c_2, ↓s_254_0, ↓s_254_1, ↓s_254_4, ↓s_254_7, ↓s_254_8, ↓s_254_9, ↓s_254_10, ↓s_254_13, ↓s_254_14, ↓s_254_15, ↓s_254_18, ↓s_254_21, zio_95]
  trace_state
  sorry
