section
theorem s_119_0 {E : yE} {n d : Nat} {mem : yMem} {Post : Option yV → yMem → Prop} {st : List yV} {r1 : Option yV} {x : Int} : zvc E (n + 1) [] d xm_119 0 [some (1, x), r1] (st) mem Post = (zvc E n [] d xm_119 1 [some (1, x), r1] ((1, x) :: st) mem Post) := zrf rfl
theorem s_119_1 {E : yE} {n d : Nat} {mem : yMem} {Post : Option yV → yMem → Prop} {st : List yV} {r0 r1 : Option yV} : zvc E (n + 1) [] d xm_119 1 [r0, r1] ((1, 54) :: st) mem Post = (zvc E n [] d xm_119 4 [r0, r1] ((1, 55) :: st) mem Post) := zrf rfl
theorem s_119_4 {E : yE} {n d : Nat} {mem : yMem} {Post : Option yV → yMem → Prop} {st : List yV} {r0 r1 : Option yV} : zvc E (n + 1) [] d xm_119 4 [r0, r1] ((1, 55) :: st) mem Post = (zvc E n [] d xm_119 7 [r0, r1] ((0, mem 55 4) :: st) mem Post) := zrf rfl
theorem s_119_7 {E : yE} {n d : Nat} {mem : yMem} {Post : Option yV → yMem → Prop} {st : List yV} {r0 : Option yV} {x : Int} : zvc E (n + 1) [] d xm_119 7 [r0, some (0, x)] (st) mem Post = (zvc E n [] d xm_119 8 [r0, some (0, x)] ((0, x) :: st) mem Post) := zrf rfl
theorem s_119_8 {E : yE} {n d : Nat} {mem : yMem} {Post : Option yV → yMem → Prop} {st : List yV} {r0 r1 : Option yV} {x y : Int} : zvc E (n + 1) [] d xm_119 8 [r0, r1] ((0, y) :: (0, x) :: st) mem Post = ((w32 x = w32 y → zvc E n [] d xm_119 13 [r0, r1] (st) mem Post) ∧ (¬ (w32 x = w32 y) → zvc E n [] d xm_119 11 [r0, r1] (st) mem Post)) := zrf rfl
theorem s_119_11 {E : yE} {n d : Nat} {mem : yMem} {Post : Option yV → yMem → Prop} {st : List yV} {r0 r1 : Option yV} : zvc E (n + 1) [] d xm_119 11 [r0, r1] (st) mem Post = (zvc E n [] d xm_119 12 [r0, r1] ((0, 0) :: st) mem Post) := zrf rfl
theorem s_119_12 {E : yE} {n d : Nat} {mem : yMem} {Post : Option yV → yMem → Prop} {r0 r1 : Option yV} {x : Int} : zvc E (n + 1) [] d xm_119 12 [r0, r1] ([(0, x)]) mem Post = ((w32 x = 0 ∨ w32 x = 1) ∧ Post (some (0, x)) mem) := zrf rfl
theorem s_119_13 {E : yE} {n d : Nat} {mem : yMem} {Post : Option yV → yMem → Prop} {st : List yV} {r1 : Option yV} {x : Int} : zvc E (n + 1) [] d xm_119 13 [some (1, x), r1] (st) mem Post = (zvc E n [] d xm_119 14 [some (1, x), r1] ((1, x) :: st) mem Post) := zrf rfl
theorem s_119_14 {E : yE} {n d : Nat} {mem : yMem} {Post : Option yV → yMem → Prop} {st : List yV} {r0 r1 : Option yV} : zvc E (n + 1) [] d xm_119 14 [r0, r1] ((1, 54) :: st) mem Post = (zvc E n [] d xm_119 17 [r0, r1] ((1, 55) :: st) mem Post) := zrf rfl
theorem s_119_17 {E : yE} {n d : Nat} {mem : yMem} {Post : Option yV → yMem → Prop} {st : List yV} {r0 r1 : Option yV} {z : Int} : zvc E (n + 1) [] d xm_119 17 [r0, r1] ((1, z) :: st) mem Post = (zio z 9 = true ∧ ysum st ≤ 8 ∧ yCon E d xm_126 [(1, z)] mem (fun v mem' => zgk E d xm_119 20 [r0, r1] st v mem' Post)) := zrf rfl
theorem s_119_20 {E : yE} {n d : Nat} {mem : yMem} {Post : Option yV → yMem → Prop} {st : List yV} {r0 r1 : Option yV} : zvc E (n + 1) [] d xm_119 20 [r0, r1] (st) mem Post = (zvc E n [] d xm_119 21 [r0, r1] ((0, 1) :: st) mem Post) := zrf rfl
theorem s_119_21 {E : yE} {n d : Nat} {mem : yMem} {Post : Option yV → yMem → Prop} {r0 r1 : Option yV} {x : Int} : zvc E (n + 1) [] d xm_119 21 [r0, r1] ([(0, x)]) mem Post = ((w32 x = 0 ∨ w32 x = 1) ∧ Post (some (0, x)) mem) := zrf rfl
def zc_118 : List Nat := [88, 112, 150]
theorem s_118_0 {E : yE} {n d : Nat} {mem : yMem} {Post : Option yV → yMem → Prop} {st : List yV} {r1 : Option yV} {x : Int} : zvc E (n + 1) zc_118 d xm_118 0 [some (1, x), r1] (st) mem Post = (zvc E n zc_118 d xm_118 1 [some (1, x), r1] ((1, x) :: st) mem Post) := zrf rfl
theorem s_118_1 {E : yE} {n d : Nat} {mem : yMem} {Post : Option yV → yMem → Prop} {st : List yV} {r1 : Option yV} {x : Int} : zvc E (n + 1) zc_118 d xm_118 1 [some (1, x), r1] (st) mem Post = (zvc E n zc_118 d xm_118 2 [some (1, x), r1] ((1, x) :: st) mem Post) := zrf rfl
theorem s_118_2 {E : yE} {n d : Nat} {mem : yMem} {Post : Option yV → yMem → Prop} {st : List yV} {r0 r1 : Option yV} : zvc E (n + 1) zc_118 d xm_118 2 [r0, r1] ((1, 54) :: st) mem Post = (zvc E n zc_118 d xm_118 5 [r0, r1] ((1, 28) :: st) mem Post) := zrf rfl
theorem s_118_5_2 {E : yE} {n d : Nat} {mem : yMem} {Post : Option yV → yMem → Prop} {st : List yV} {r0 r1 : Option yV} : zvc E (n + 1) zc_118 d xm_118 5 [r0, r1] ((1, 2) :: st) mem Post = (zvc E n zc_118 d xm_118 8 [r0, r1] ((1, 5) :: st) mem Post) := zrf rfl
theorem s_118_5_28 {E : yE} {n d : Nat} {mem : yMem} {Post : Option yV → yMem → Prop} {st : List yV} {r0 r1 : Option yV} : zvc E (n + 1) zc_118 d xm_118 5 [r0, r1] ((1, 28) :: st) mem Post = (zvc E n zc_118 d xm_118 8 [r0, r1] ((1, 31) :: st) mem Post) := zrf rfl
theorem s_118_8 {E : yE} {n d : Nat} {mem : yMem} {Post : Option yV → yMem → Prop} {st : List yV} {r0 r1 : Option yV} {z a0 : Int} : zvc E (n + 1) zc_118 d xm_118 8 [r0, r1] ((1, a0) :: (1, z) :: st) mem Post = (zio z 8 = true ∧ ysum st ≤ 8 ∧ yCon E d xm_110 [(1, z), (1, a0)] mem (fun v mem' => zgk E d xm_118 11 [r0, r1] st v mem' Post)) := zrf rfl
theorem s_118_11n {E : yE} {n d : Nat} {mem : yMem} {Post : Option yV → yMem → Prop} {st : List yV} {r1 : Option yV} {x : Int} : zvc E (n + 1) zc_118 d xm_118 11 [none, r1] ((0, x) :: st) mem Post = (zvc E n zc_118 d xm_118 12 [none, some (0, x)] (st) mem Post) := zrf rfl
theorem s_118_11i {E : yE} {n d : Nat} {mem : yMem} {Post : Option yV → yMem → Prop} {st : List yV} {r1 : Option yV} {x w : Int} : zvc E (n + 1) zc_118 d xm_118 11 [some (0, w), r1] ((0, x) :: st) mem Post = (zvc E n zc_118 d xm_118 12 [some (0, w), some (0, x)] (st) mem Post) := zrf rfl
theorem s_118_11p {E : yE} {n d : Nat} {mem : yMem} {Post : Option yV → yMem → Prop} {st : List yV} {r1 : Option yV} {x w : Int} : zvc E (n + 1) zc_118 d xm_118 11 [some (1, w), r1] ((0, x) :: st) mem Post = (zvc E n zc_118 d xm_118 12 [some (1, w), some (0, x)] (st) mem Post) := zrf rfl
theorem s_118_11j {E : yE} {n d : Nat} {mem : yMem} {Post : Option yV → yMem → Prop} {st : List yV} {r0 r1 : Option yV} {x : Int} : zvc E (n + 1) zc_118 d xm_118 11 [r0, r1] ((0, x) :: st) mem Post = (zvc E n zc_118 d xm_118 12 [znl r0, some (0, x)] (st) mem Post) := zrf rfl
theorem s_118_12 {E : yE} {n d : Nat} {mem : yMem} {Post : Option yV → yMem → Prop} {st : List yV} {r0 : Option yV} {x : Int} : zvc E (n + 1) zc_118 d xm_118 12 [r0, some (0, x)] (st) mem Post = (zvc E n zc_118 d xm_118 13 [r0, some (0, x)] ((0, x) :: st) mem Post) := zrf rfl
theorem s_118_13 {E : yE} {n d : Nat} {mem : yMem} {Post : Option yV → yMem → Prop} {st : List yV} {r0 r1 : Option yV} : zvc E (n + 1) zc_118 d xm_118 13 [r0, r1] (st) mem Post = (zvc E n zc_118 d xm_118 14 [r0, r1] ((0, (-1)) :: st) mem Post) := zrf rfl
theorem s_118_14 {E : yE} {n d : Nat} {mem : yMem} {Post : Option yV → yMem → Prop} {st : List yV} {r0 r1 : Option yV} {x y : Int} : zvc E (n + 1) zc_118 d xm_118 14 [r0, r1] ((0, y) :: (0, x) :: st) mem Post = ((¬ w32 x = w32 y → zvc E n zc_118 d xm_118 18 [r0, r1] (st) mem Post) ∧ (¬ (¬ w32 x = w32 y) → zvc E n zc_118 d xm_118 17 [r0, r1] (st) mem Post)) := zrf rfl
theorem s_118_17 {E : yE} {n d : Nat} {mem : yMem} {Post : Option yV → yMem → Prop} {r0 r1 : Option yV} : zvc E (n + 1) zc_118 d xm_118 17 [r0, r1] ([]) mem Post = (Post none mem) := zrf rfl
theorem s_118_18 {E : yE} {n d : Nat} {mem : yMem} {Post : Option yV → yMem → Prop} {st : List yV} {r1 : Option yV} {x : Int} : zvc E (n + 1) zc_118 d xm_118 18 [some (1, x), r1] (st) mem Post = (zvc E n zc_118 d xm_118 19 [some (1, x), r1] ((1, x) :: st) mem Post) := zrf rfl
theorem s_118_19 {E : yE} {n d : Nat} {mem : yMem} {Post : Option yV → yMem → Prop} {st : List yV} {r0 r1 : Option yV} : zvc E (n + 1) zc_118 d xm_118 19 [r0, r1] ((1, 54) :: st) mem Post = (zvc E n zc_118 d xm_118 22 [r0, r1] ((1, 28) :: st) mem Post) := zrf rfl
theorem s_118_22_2 {E : yE} {n d : Nat} {mem : yMem} {Post : Option yV → yMem → Prop} {st : List yV} {r0 r1 : Option yV} : zvc E (n + 1) zc_118 d xm_118 22 [r0, r1] ((1, 2) :: st) mem Post = (zvc E n zc_118 d xm_118 25 [r0, r1] ((1, 13) :: st) mem Post) := zrf rfl
theorem s_118_22_28 {E : yE} {n d : Nat} {mem : yMem} {Post : Option yV → yMem → Prop} {st : List yV} {r0 r1 : Option yV} : zvc E (n + 1) zc_118 d xm_118 22 [r0, r1] ((1, 28) :: st) mem Post = (zvc E n zc_118 d xm_118 25 [r0, r1] ((1, 39) :: st) mem Post) := zrf rfl
theorem s_118_25 {E : yE} {n d : Nat} {mem : yMem} {Post : Option yV → yMem → Prop} {st : List yV} {r0 : Option yV} {x : Int} : zvc E (n + 1) zc_118 d xm_118 25 [r0, some (0, x)] (st) mem Post = (zvc E n zc_118 d xm_118 26 [r0, some (0, x)] ((0, x) :: st) mem Post) := zrf rfl
theorem s_118_26 {E : yE} {n d : Nat} {mem : yMem} {Post : Option yV → yMem → Prop} {st : List yV} {r1 : Option yV} {x : Int} : zvc E (n + 1) zc_118 d xm_118 26 [some (1, x), r1] (st) mem Post = (zvc E n zc_118 d xm_118 27 [some (1, x), r1] ((1, x) :: st) mem Post) := zrf rfl
theorem s_118_27 {E : yE} {n d : Nat} {mem : yMem} {Post : Option yV → yMem → Prop} {st : List yV} {r0 r1 : Option yV} : zvc E (n + 1) zc_118 d xm_118 27 [r0, r1] (st) mem Post = (zvc E n zc_118 d xm_118 28 [r0, r1] ((0, 1) :: st) mem Post) := zrf rfl
theorem s_118_28 {E : yE} {n d : Nat} {mem : yMem} {Post : Option yV → yMem → Prop} {st : List yV} {r0 r1 : Option yV} : zvc E (n + 1) zc_118 d xm_118 28 [r0, r1] (st) mem Post = (zvc E n zc_118 d xm_118 30 [r0, r1] ((0, 40) :: st) mem Post) := zrf rfl
theorem s_118_30 {E : yE} {n d : Nat} {mem : yMem} {Post : Option yV → yMem → Prop} {st : List yV} {r0 r1 : Option yV} {z a0 a1 : Int} : zvc E (n + 1) zc_118 d xm_118 30 [r0, r1] ((0, a1) :: (0, a0) :: (1, z) :: st) mem Post = (zio z 8 = true ∧ ysum st ≤ 8 ∧ yCon E d xm_112 [(1, z), (0, a0), (0, a1)] mem (fun v mem' => zgk E d xm_118 33 [r0, r1] st v mem' Post)) := zrf rfl
theorem s_118_33 {E : yE} {n d : Nat} {mem : yMem} {Post : Option yV → yMem → Prop} {st : List yV} {r0 r1 : Option yV} {x z j : Int} : zvc E (n + 1) zc_118 d xm_118 33 [r0, r1] ((0, x) :: (0, j) :: (1, z) :: st) mem Post = ((0 ≤ w32 j ∧ w32 j < ((zar z 0 : Nat) : Int)) ∧ zvc E n zc_118 d xm_118 34 [r0, r1] (st) (yset mem z.toNat (w32 j).toNat x) Post) := zrf rfl
theorem s_118_34 {E : yE} {n d : Nat} {mem : yMem} {Post : Option yV → yMem → Prop} {st : List yV} {r1 : Option yV} {x : Int} : zvc E (n + 1) zc_118 d xm_118 34 [some (1, x), r1] (st) mem Post = (zvc E n zc_118 d xm_118 35 [some (1, x), r1] ((1, x) :: st) mem Post) := zrf rfl
theorem s_118_35 {E : yE} {n d : Nat} {mem : yMem} {Post : Option yV → yMem → Prop} {st : List yV} {r0 r1 : Option yV} : zvc E (n + 1) zc_118 d xm_118 35 [r0, r1] ((1, 54) :: st) mem Post = (zvc E n zc_118 d xm_118 38 [r0, r1] ((1, 28) :: st) mem Post) := zrf rfl
theorem s_118_38_2 {E : yE} {n d : Nat} {mem : yMem} {Post : Option yV → yMem → Prop} {st : List yV} {r0 r1 : Option yV} : zvc E (n + 1) zc_118 d xm_118 38 [r0, r1] ((1, 2) :: st) mem Post = (zvc E n zc_118 d xm_118 41 [r0, r1] ((1, 14) :: st) mem Post) := zrf rfl
theorem s_118_38_28 {E : yE} {n d : Nat} {mem : yMem} {Post : Option yV → yMem → Prop} {st : List yV} {r0 r1 : Option yV} : zvc E (n + 1) zc_118 d xm_118 38 [r0, r1] ((1, 28) :: st) mem Post = (zvc E n zc_118 d xm_118 41 [r0, r1] ((1, 40) :: st) mem Post) := zrf rfl
theorem s_118_41 {E : yE} {n d : Nat} {mem : yMem} {Post : Option yV → yMem → Prop} {st : List yV} {r0 : Option yV} {x : Int} : zvc E (n + 1) zc_118 d xm_118 41 [r0, some (0, x)] (st) mem Post = (zvc E n zc_118 d xm_118 42 [r0, some (0, x)] ((0, x) :: st) mem Post) := zrf rfl
theorem s_118_42 {E : yE} {n d : Nat} {mem : yMem} {Post : Option yV → yMem → Prop} {st : List yV} {r1 : Option yV} {x : Int} : zvc E (n + 1) zc_118 d xm_118 42 [some (1, x), r1] (st) mem Post = (zvc E n zc_118 d xm_118 43 [some (1, x), r1] ((1, x) :: st) mem Post) := zrf rfl
theorem s_118_43 {E : yE} {n d : Nat} {mem : yMem} {Post : Option yV → yMem → Prop} {st : List yV} {r1 : Option yV} {x : Int} : zvc E (n + 1) zc_118 d xm_118 43 [some (1, x), r1] (st) mem Post = (zvc E n zc_118 d xm_118 44 [some (1, x), r1] ((1, x) :: st) mem Post) := zrf rfl
theorem s_118_44 {E : yE} {n d : Nat} {mem : yMem} {Post : Option yV → yMem → Prop} {st : List yV} {r0 r1 : Option yV} : zvc E (n + 1) zc_118 d xm_118 44 [r0, r1] ((1, 54) :: st) mem Post = (zvc E n zc_118 d xm_118 47 [r0, r1] ((1, 28) :: st) mem Post) := zrf rfl
theorem s_118_47_2 {E : yE} {n d : Nat} {mem : yMem} {Post : Option yV → yMem → Prop} {st : List yV} {r0 r1 : Option yV} : zvc E (n + 1) zc_118 d xm_118 47 [r0, r1] ((1, 2) :: st) mem Post = (zvc E n zc_118 d xm_118 50 [r0, r1] ((1, 13) :: st) mem Post) := zrf rfl
theorem s_118_47_28 {E : yE} {n d : Nat} {mem : yMem} {Post : Option yV → yMem → Prop} {st : List yV} {r0 r1 : Option yV} : zvc E (n + 1) zc_118 d xm_118 47 [r0, r1] ((1, 28) :: st) mem Post = (zvc E n zc_118 d xm_118 50 [r0, r1] ((1, 39) :: st) mem Post) := zrf rfl
theorem s_118_50 {E : yE} {n d : Nat} {mem : yMem} {Post : Option yV → yMem → Prop} {st : List yV} {r0 : Option yV} {x : Int} : zvc E (n + 1) zc_118 d xm_118 50 [r0, some (0, x)] (st) mem Post = (zvc E n zc_118 d xm_118 51 [r0, some (0, x)] ((0, x) :: st) mem Post) := zrf rfl
theorem s_118_51 {E : yE} {n d : Nat} {mem : yMem} {Post : Option yV → yMem → Prop} {st : List yV} {r0 r1 : Option yV} {z j : Int} : zvc E (n + 1) zc_118 d xm_118 51 [r0, r1] ((0, j) :: (1, z) :: st) mem Post = ((0 ≤ w32 j ∧ w32 j < ((zar z 0 : Nat) : Int)) ∧ zvc E n zc_118 d xm_118 52 [r0, r1] ((0, mem z.toNat (w32 j).toNat) :: st) mem Post) := zrf rfl
theorem s_118_52 {E : yE} {n d : Nat} {mem : yMem} {Post : Option yV → yMem → Prop} {st : List yV} {r0 r1 : Option yV} : zvc E (n + 1) zc_118 d xm_118 52 [r0, r1] (st) mem Post = (zvc E n zc_118 d xm_118 54 [r0, r1] ((0, 40) :: st) mem Post) := zrf rfl
theorem s_118_54 {E : yE} {n d : Nat} {mem : yMem} {Post : Option yV → yMem → Prop} {st : List yV} {r0 r1 : Option yV} {z a0 a1 : Int} : zvc E (n + 1) zc_118 d xm_118 54 [r0, r1] ((0, a1) :: (0, a0) :: (1, z) :: st) mem Post = (zio z 8 = true ∧ ysum st ≤ 8 ∧ yCon E d xm_112 [(1, z), (0, a0), (0, a1)] mem (fun v mem' => zgk E d xm_118 57 [r0, r1] st v mem' Post)) := zrf rfl
theorem s_118_57 {E : yE} {n d : Nat} {mem : yMem} {Post : Option yV → yMem → Prop} {st : List yV} {r0 r1 : Option yV} {x z j : Int} : zvc E (n + 1) zc_118 d xm_118 57 [r0, r1] ((0, x) :: (0, j) :: (1, z) :: st) mem Post = ((0 ≤ w32 j ∧ w32 j < ((zar z 0 : Nat) : Int)) ∧ zvc E n zc_118 d xm_118 58 [r0, r1] (st) (yset mem z.toNat (w32 j).toNat x) Post) := zrf rfl
theorem s_118_58 {E : yE} {n d : Nat} {mem : yMem} {Post : Option yV → yMem → Prop} {st : List yV} {r1 : Option yV} {x : Int} : zvc E (n + 1) zc_118 d xm_118 58 [some (1, x), r1] (st) mem Post = (zvc E n zc_118 d xm_118 59 [some (1, x), r1] ((1, x) :: st) mem Post) := zrf rfl
theorem s_118_59 {E : yE} {n d : Nat} {mem : yMem} {Post : Option yV → yMem → Prop} {st : List yV} {r0 r1 : Option yV} : zvc E (n + 1) zc_118 d xm_118 59 [r0, r1] ((1, 54) :: st) mem Post = (zvc E n zc_118 d xm_118 62 [r0, r1] ((1, 28) :: st) mem Post) := zrf rfl
theorem s_118_62_2 {E : yE} {n d : Nat} {mem : yMem} {Post : Option yV → yMem → Prop} {st : List yV} {r0 r1 : Option yV} : zvc E (n + 1) zc_118 d xm_118 62 [r0, r1] ((1, 2) :: st) mem Post = (zvc E n zc_118 d xm_118 65 [r0, r1] ((1, 15) :: st) mem Post) := zrf rfl
theorem s_118_62_28 {E : yE} {n d : Nat} {mem : yMem} {Post : Option yV → yMem → Prop} {st : List yV} {r0 r1 : Option yV} : zvc E (n + 1) zc_118 d xm_118 62 [r0, r1] ((1, 28) :: st) mem Post = (zvc E n zc_118 d xm_118 65 [r0, r1] ((1, 41) :: st) mem Post) := zrf rfl
theorem s_118_65 {E : yE} {n d : Nat} {mem : yMem} {Post : Option yV → yMem → Prop} {st : List yV} {r0 : Option yV} {x : Int} : zvc E (n + 1) zc_118 d xm_118 65 [r0, some (0, x)] (st) mem Post = (zvc E n zc_118 d xm_118 66 [r0, some (0, x)] ((0, x) :: st) mem Post) := zrf rfl
theorem s_118_66 {E : yE} {n d : Nat} {mem : yMem} {Post : Option yV → yMem → Prop} {st : List yV} {r0 r1 : Option yV} : zvc E (n + 1) zc_118 d xm_118 66 [r0, r1] (st) mem Post = (zvc E n zc_118 d xm_118 67 [r0, r1] ((0, (-1)) :: st) mem Post) := zrf rfl
theorem s_118_67 {E : yE} {n d : Nat} {mem : yMem} {Post : Option yV → yMem → Prop} {st : List yV} {r0 r1 : Option yV} {x z j : Int} : zvc E (n + 1) zc_118 d xm_118 67 [r0, r1] ((0, x) :: (0, j) :: (1, z) :: st) mem Post = ((0 ≤ w32 j ∧ w32 j < ((zar z 0 : Nat) : Int)) ∧ zvc E n zc_118 d xm_118 68 [r0, r1] (st) (yset mem z.toNat (w32 j).toNat x) Post) := zrf rfl
theorem s_118_68 {E : yE} {n d : Nat} {mem : yMem} {Post : Option yV → yMem → Prop} {st : List yV} {r1 : Option yV} {x : Int} : zvc E (n + 1) zc_118 d xm_118 68 [some (1, x), r1] (st) mem Post = (zvc E n zc_118 d xm_118 69 [some (1, x), r1] ((1, x) :: st) mem Post) := zrf rfl
theorem s_118_69 {E : yE} {n d : Nat} {mem : yMem} {Post : Option yV → yMem → Prop} {st : List yV} {r0 r1 : Option yV} : zvc E (n + 1) zc_118 d xm_118 69 [r0, r1] ((1, 54) :: st) mem Post = (zvc E n zc_118 d xm_118 72 [r0, r1] ((1, 28) :: st) mem Post) := zrf rfl
theorem s_118_72_2 {E : yE} {n d : Nat} {mem : yMem} {Post : Option yV → yMem → Prop} {st : List yV} {r0 r1 : Option yV} : zvc E (n + 1) zc_118 d xm_118 72 [r0, r1] ((1, 2) :: st) mem Post = (zvc E n zc_118 d xm_118 75 [r0, r1] ((1, 16) :: st) mem Post) := zrf rfl
theorem s_118_72_28 {E : yE} {n d : Nat} {mem : yMem} {Post : Option yV → yMem → Prop} {st : List yV} {r0 r1 : Option yV} : zvc E (n + 1) zc_118 d xm_118 72 [r0, r1] ((1, 28) :: st) mem Post = (zvc E n zc_118 d xm_118 75 [r0, r1] ((1, 42) :: st) mem Post) := zrf rfl
theorem s_118_75 {E : yE} {n d : Nat} {mem : yMem} {Post : Option yV → yMem → Prop} {st : List yV} {r0 : Option yV} {x : Int} : zvc E (n + 1) zc_118 d xm_118 75 [r0, some (0, x)] (st) mem Post = (zvc E n zc_118 d xm_118 76 [r0, some (0, x)] ((0, x) :: st) mem Post) := zrf rfl
theorem s_118_76 {E : yE} {n d : Nat} {mem : yMem} {Post : Option yV → yMem → Prop} {st : List yV} {r0 r1 : Option yV} : zvc E (n + 1) zc_118 d xm_118 76 [r0, r1] (st) mem Post = (zvc E n zc_118 d xm_118 77 [r0, r1] ((0, 0) :: st) mem Post) := zrf rfl
theorem s_118_77 {E : yE} {n d : Nat} {mem : yMem} {Post : Option yV → yMem → Prop} {st : List yV} {r0 r1 : Option yV} {x z j : Int} : zvc E (n + 1) zc_118 d xm_118 77 [r0, r1] ((0, x) :: (0, j) :: (1, z) :: st) mem Post = ((0 ≤ w32 j ∧ w32 j < ((zar z 0 : Nat) : Int)) ∧ zvc E n zc_118 d xm_118 78 [r0, r1] (st) (yset mem z.toNat (w32 j).toNat x) Post) := zrf rfl
theorem s_118_78 {E : yE} {n d : Nat} {mem : yMem} {Post : Option yV → yMem → Prop} {st : List yV} {r1 : Option yV} {x : Int} : zvc E (n + 1) zc_118 d xm_118 78 [some (1, x), r1] (st) mem Post = (zvc E n zc_118 d xm_118 79 [some (1, x), r1] ((1, x) :: st) mem Post) := zrf rfl
theorem s_118_79 {E : yE} {n d : Nat} {mem : yMem} {Post : Option yV → yMem → Prop} {st : List yV} {r0 r1 : Option yV} : zvc E (n + 1) zc_118 d xm_118 79 [r0, r1] ((1, 54) :: st) mem Post = (zvc E n zc_118 d xm_118 82 [r0, r1] ((1, 28) :: st) mem Post) := zrf rfl
theorem s_118_82_2 {E : yE} {n d : Nat} {mem : yMem} {Post : Option yV → yMem → Prop} {st : List yV} {r0 r1 : Option yV} : zvc E (n + 1) zc_118 d xm_118 82 [r0, r1] ((1, 2) :: st) mem Post = (zvc E n zc_118 d xm_118 85 [r0, r1] ((1, 17) :: st) mem Post) := zrf rfl
theorem s_118_82_28 {E : yE} {n d : Nat} {mem : yMem} {Post : Option yV → yMem → Prop} {st : List yV} {r0 r1 : Option yV} : zvc E (n + 1) zc_118 d xm_118 82 [r0, r1] ((1, 28) :: st) mem Post = (zvc E n zc_118 d xm_118 85 [r0, r1] ((1, 43) :: st) mem Post) := zrf rfl
theorem s_118_85 {E : yE} {n d : Nat} {mem : yMem} {Post : Option yV → yMem → Prop} {st : List yV} {r0 : Option yV} {x : Int} : zvc E (n + 1) zc_118 d xm_118 85 [r0, some (0, x)] (st) mem Post = (zvc E n zc_118 d xm_118 86 [r0, some (0, x)] ((0, x) :: st) mem Post) := zrf rfl
theorem s_118_86 {E : yE} {n d : Nat} {mem : yMem} {Post : Option yV → yMem → Prop} {st : List yV} {r0 r1 : Option yV} : zvc E (n + 1) zc_118 d xm_118 86 [r0, r1] (st) mem Post = (zvc E n zc_118 d xm_118 87 [r0, r1] ((0, 1) :: st) mem Post) := zrf rfl
theorem s_118_87 {E : yE} {n d : Nat} {mem : yMem} {Post : Option yV → yMem → Prop} {st : List yV} {r0 r1 : Option yV} {x z j : Int} : zvc E (n + 1) zc_118 d xm_118 87 [r0, r1] ((0, x) :: (0, j) :: (1, z) :: st) mem Post = ((0 ≤ w32 j ∧ w32 j < ((zar z 0 : Nat) : Int)) ∧ zvc E n zc_118 d xm_118 88 [r0, r1] (st) (yset mem z.toNat (w32 j).toNat x) Post) := zrf rfl
theorem g_118_88 {E : yE} {n d : Nat} {mem : yMem} {Post : Option yV → yMem → Prop} {st : List yV} {r1 : Option yV} {x : Int} : zgo E n zc_118 d xm_118 88 [some (1, x), r1] (st) mem Post = (zvc E n zc_118 d xm_118 89 [some (1, x), r1] ((1, x) :: st) mem Post) := zrf rfl
theorem k_118_88 {E : yE} {n d : Nat} {mem : yMem} {Post : Option yV → yMem → Prop} {st : List yV} {rg : zR} : zvc E (n + 1) zc_118 d xm_118 88 rg st mem Post = zG E d xm_118 88 rg st mem Post := zrf rfl
theorem s_118_89 {E : yE} {n d : Nat} {mem : yMem} {Post : Option yV → yMem → Prop} {st : List yV} {r0 r1 : Option yV} : zvc E (n + 1) zc_118 d xm_118 89 [r0, r1] (st) mem Post = (zvc E n zc_118 d xm_118 91 [r0, r1] ((0, 24) :: st) mem Post) := zrf rfl
theorem s_118_91 {E : yE} {n d : Nat} {mem : yMem} {Post : Option yV → yMem → Prop} {st : List yV} {r0 r1 : Option yV} {z a0 : Int} : zvc E (n + 1) zc_118 (d + 1) xm_118 91 [r0, r1] ((0, a0) :: (1, z) :: st) mem Post = (zio z 8 = true ∧ ysum st ≤ 8 ∧ zvc E n [] d xm_119 0 [some (1, z), some (0, a0)] [] mem (fun v mem' => zvk E n zc_118 (d + 1) xm_118 94 [r0, r1] st v mem' Post)) := zrf rfl
theorem s_118_94 {E : yE} {n d : Nat} {mem : yMem} {Post : Option yV → yMem → Prop} {st : List yV} {r0 r1 : Option yV} {x : Int} : zvc E (n + 1) zc_118 d xm_118 94 [r0, r1] ((0, x) :: st) mem Post = ((w32 x = w32 0 → zvc E n zc_118 d xm_118 112 [r0, r1] (st) mem Post) ∧ (¬ (w32 x = w32 0) → zvc E n zc_118 d xm_118 97 [r0, r1] (st) mem Post)) := zrf rfl
theorem s_118_97 {E : yE} {n d : Nat} {mem : yMem} {Post : Option yV → yMem → Prop} {st : List yV} {r1 : Option yV} {x : Int} : zvc E (n + 1) zc_118 d xm_118 97 [some (1, x), r1] (st) mem Post = (zvc E n zc_118 d xm_118 98 [some (1, x), r1] ((1, x) :: st) mem Post) := zrf rfl
theorem s_118_98 {E : yE} {n d : Nat} {mem : yMem} {Post : Option yV → yMem → Prop} {st : List yV} {r0 r1 : Option yV} : zvc E (n + 1) zc_118 d xm_118 98 [r0, r1] ((1, 54) :: st) mem Post = (zvc E n zc_118 d xm_118 101 [r0, r1] ((1, 28) :: st) mem Post) := zrf rfl
theorem s_118_101a {E : yE} {n d : Nat} {mem : yMem} {Post : Option yV → yMem → Prop} {st : List yV} {r0 r1 : Option yV} {x : Int} : zvc E (n + 1) zc_118 d xm_118 101 [r0, r1] ((0, x) :: st) mem Post = (zvc E n zc_118 d xm_118 102 [r0, r1] ((0, x) :: (0, x) :: st) mem Post) := zrf rfl
theorem s_118_101b {E : yE} {n d : Nat} {mem : yMem} {Post : Option yV → yMem → Prop} {st : List yV} {r0 r1 : Option yV} {x : Int} : zvc E (n + 1) zc_118 d xm_118 101 [r0, r1] ((1, x) :: st) mem Post = (zvc E n zc_118 d xm_118 102 [r0, r1] ((1, x) :: (1, x) :: st) mem Post) := zrf rfl
theorem s_118_102_2 {E : yE} {n d : Nat} {mem : yMem} {Post : Option yV → yMem → Prop} {st : List yV} {r0 r1 : Option yV} : zvc E (n + 1) zc_118 d xm_118 102 [r0, r1] ((1, 2) :: st) mem Post = (zvc E n zc_118 d xm_118 105 [r0, r1] ((0, mem 2 16) :: st) mem Post) := zrf rfl
theorem s_118_102_28 {E : yE} {n d : Nat} {mem : yMem} {Post : Option yV → yMem → Prop} {st : List yV} {r0 r1 : Option yV} : zvc E (n + 1) zc_118 d xm_118 102 [r0, r1] ((1, 28) :: st) mem Post = (zvc E n zc_118 d xm_118 105 [r0, r1] ((0, mem 28 16) :: st) mem Post) := zrf rfl
theorem s_118_105 {E : yE} {n d : Nat} {mem : yMem} {Post : Option yV → yMem → Prop} {st : List yV} {r0 r1 : Option yV} : zvc E (n + 1) zc_118 d xm_118 105 [r0, r1] (st) mem Post = (zvc E n zc_118 d xm_118 106 [r0, r1] ((0, 1) :: st) mem Post) := zrf rfl
theorem s_118_106 {E : yE} {n d : Nat} {mem : yMem} {Post : Option yV → yMem → Prop} {st : List yV} {r0 : Option yV} {x : Int} : zvc E (n + 1) zc_118 d xm_118 106 [r0, some (0, x)] (st) mem Post = (zvc E n zc_118 d xm_118 107 [r0, some (0, x)] ((0, x) :: st) mem Post) := zrf rfl
theorem s_118_107 {E : yE} {n d : Nat} {mem : yMem} {Post : Option yV → yMem → Prop} {st : List yV} {r0 r1 : Option yV} {x y : Int} : zvc E (n + 1) zc_118 d xm_118 107 [r0, r1] ((0, y) :: (0, x) :: st) mem Post = (zvc E n zc_118 d xm_118 108 [r0, r1] ((0, ybin 6 x y) :: st) mem Post) := zrf rfl
theorem s_118_108 {E : yE} {n d : Nat} {mem : yMem} {Post : Option yV → yMem → Prop} {st : List yV} {r0 r1 : Option yV} {x y : Int} : zvc E (n + 1) zc_118 d xm_118 108 [r0, r1] ((0, y) :: (0, x) :: st) mem Post = (zvc E n zc_118 d xm_118 109 [r0, r1] ((0, ybin 4 x y) :: st) mem Post) := zrf rfl
theorem s_118_109_2 {E : yE} {n d : Nat} {mem : yMem} {Post : Option yV → yMem → Prop} {st : List yV} {r0 r1 : Option yV} {x : Int} : zvc E (n + 1) zc_118 d xm_118 109 [r0, r1] ((0, x) :: (1, 2) :: st) mem Post = (zvc E n zc_118 d xm_118 112 [r0, r1] (st) (yset mem 2 16 x) Post) := zrf rfl
theorem s_118_109_28 {E : yE} {n d : Nat} {mem : yMem} {Post : Option yV → yMem → Prop} {st : List yV} {r0 r1 : Option yV} {x : Int} : zvc E (n + 1) zc_118 d xm_118 109 [r0, r1] ((0, x) :: (1, 28) :: st) mem Post = (zvc E n zc_118 d xm_118 112 [r0, r1] (st) (yset mem 28 16 x) Post) := zrf rfl
theorem g_118_112 {E : yE} {n d : Nat} {mem : yMem} {Post : Option yV → yMem → Prop} {st : List yV} {r1 : Option yV} {x : Int} : zgo E n zc_118 d xm_118 112 [some (1, x), r1] (st) mem Post = (zvc E n zc_118 d xm_118 113 [some (1, x), r1] ((1, x) :: st) mem Post) := zrf rfl
theorem k_118_112 {E : yE} {n d : Nat} {mem : yMem} {Post : Option yV → yMem → Prop} {st : List yV} {rg : zR} : zvc E (n + 1) zc_118 d xm_118 112 rg st mem Post = zG E d xm_118 112 rg st mem Post := zrf rfl
theorem s_118_113 {E : yE} {n d : Nat} {mem : yMem} {Post : Option yV → yMem → Prop} {st : List yV} {r0 r1 : Option yV} : zvc E (n + 1) zc_118 d xm_118 113 [r0, r1] (st) mem Post = (zvc E n zc_118 d xm_118 115 [r0, r1] ((0, 25) :: st) mem Post) := zrf rfl
theorem s_118_115 {E : yE} {n d : Nat} {mem : yMem} {Post : Option yV → yMem → Prop} {st : List yV} {r0 r1 : Option yV} {z a0 : Int} : zvc E (n + 1) zc_118 (d + 1) xm_118 115 [r0, r1] ((0, a0) :: (1, z) :: st) mem Post = (zio z 8 = true ∧ ysum st ≤ 8 ∧ zvc E n [] d xm_119 0 [some (1, z), some (0, a0)] [] mem (fun v mem' => zvk E n zc_118 (d + 1) xm_118 118 [r0, r1] st v mem' Post)) := zrf rfl
theorem s_118_118 {E : yE} {n d : Nat} {mem : yMem} {Post : Option yV → yMem → Prop} {st : List yV} {r0 r1 : Option yV} {x : Int} : zvc E (n + 1) zc_118 d xm_118 118 [r0, r1] ((0, x) :: st) mem Post = ((w32 x = w32 0 → zvc E n zc_118 d xm_118 150 [r0, r1] (st) mem Post) ∧ (¬ (w32 x = w32 0) → zvc E n zc_118 d xm_118 121 [r0, r1] (st) mem Post)) := zrf rfl
theorem s_118_121 {E : yE} {n d : Nat} {mem : yMem} {Post : Option yV → yMem → Prop} {st : List yV} {r1 : Option yV} {x : Int} : zvc E (n + 1) zc_118 d xm_118 121 [some (1, x), r1] (st) mem Post = (zvc E n zc_118 d xm_118 122 [some (1, x), r1] ((1, x) :: st) mem Post) := zrf rfl
theorem s_118_122 {E : yE} {n d : Nat} {mem : yMem} {Post : Option yV → yMem → Prop} {st : List yV} {r0 r1 : Option yV} : zvc E (n + 1) zc_118 d xm_118 122 [r0, r1] ((1, 54) :: st) mem Post = (zvc E n zc_118 d xm_118 125 [r0, r1] ((1, 28) :: st) mem Post) := zrf rfl
theorem s_118_125_2 {E : yE} {n d : Nat} {mem : yMem} {Post : Option yV → yMem → Prop} {st : List yV} {r0 r1 : Option yV} : zvc E (n + 1) zc_118 d xm_118 125 [r0, r1] ((1, 2) :: st) mem Post = (zvc E n zc_118 d xm_118 128 [r0, r1] ((1, 15) :: st) mem Post) := zrf rfl
theorem s_118_125_28 {E : yE} {n d : Nat} {mem : yMem} {Post : Option yV → yMem → Prop} {st : List yV} {r0 r1 : Option yV} : zvc E (n + 1) zc_118 d xm_118 125 [r0, r1] ((1, 28) :: st) mem Post = (zvc E n zc_118 d xm_118 128 [r0, r1] ((1, 41) :: st) mem Post) := zrf rfl
theorem s_118_128 {E : yE} {n d : Nat} {mem : yMem} {Post : Option yV → yMem → Prop} {st : List yV} {r0 : Option yV} {x : Int} : zvc E (n + 1) zc_118 d xm_118 128 [r0, some (0, x)] (st) mem Post = (zvc E n zc_118 d xm_118 129 [r0, some (0, x)] ((0, x) :: st) mem Post) := zrf rfl
theorem s_118_129 {E : yE} {n d : Nat} {mem : yMem} {Post : Option yV → yMem → Prop} {st : List yV} {r1 : Option yV} {x : Int} : zvc E (n + 1) zc_118 d xm_118 129 [some (1, x), r1] (st) mem Post = (zvc E n zc_118 d xm_118 130 [some (1, x), r1] ((1, x) :: st) mem Post) := zrf rfl
theorem s_118_130 {E : yE} {n d : Nat} {mem : yMem} {Post : Option yV → yMem → Prop} {st : List yV} {r0 r1 : Option yV} {z : Int} : zvc E (n + 1) zc_118 d xm_118 130 [r0, r1] ((1, z) :: st) mem Post = (zio z 8 = true ∧ ysum st ≤ 8 ∧ yCon E d xm_121 [(1, z)] mem (fun v mem' => zgk E d xm_118 133 [r0, r1] st v mem' Post)) := zrf rfl
theorem s_118_133 {E : yE} {n d : Nat} {mem : yMem} {Post : Option yV → yMem → Prop} {st : List yV} {r0 r1 : Option yV} {x z j : Int} : zvc E (n + 1) zc_118 d xm_118 133 [r0, r1] ((0, x) :: (0, j) :: (1, z) :: st) mem Post = ((0 ≤ w32 j ∧ w32 j < ((zar z 0 : Nat) : Int)) ∧ zvc E n zc_118 d xm_118 134 [r0, r1] (st) (yset mem z.toNat (w32 j).toNat x) Post) := zrf rfl
theorem s_118_134 {E : yE} {n d : Nat} {mem : yMem} {Post : Option yV → yMem → Prop} {st : List yV} {r1 : Option yV} {x : Int} : zvc E (n + 1) zc_118 d xm_118 134 [some (1, x), r1] (st) mem Post = (zvc E n zc_118 d xm_118 135 [some (1, x), r1] ((1, x) :: st) mem Post) := zrf rfl
theorem s_118_135 {E : yE} {n d : Nat} {mem : yMem} {Post : Option yV → yMem → Prop} {st : List yV} {r0 r1 : Option yV} : zvc E (n + 1) zc_118 d xm_118 135 [r0, r1] ((1, 54) :: st) mem Post = (zvc E n zc_118 d xm_118 138 [r0, r1] ((1, 28) :: st) mem Post) := zrf rfl
theorem s_118_138_2 {E : yE} {n d : Nat} {mem : yMem} {Post : Option yV → yMem → Prop} {st : List yV} {r0 r1 : Option yV} : zvc E (n + 1) zc_118 d xm_118 138 [r0, r1] ((1, 2) :: st) mem Post = (zvc E n zc_118 d xm_118 141 [r0, r1] ((1, 16) :: st) mem Post) := zrf rfl
theorem s_118_138_28 {E : yE} {n d : Nat} {mem : yMem} {Post : Option yV → yMem → Prop} {st : List yV} {r0 r1 : Option yV} : zvc E (n + 1) zc_118 d xm_118 138 [r0, r1] ((1, 28) :: st) mem Post = (zvc E n zc_118 d xm_118 141 [r0, r1] ((1, 42) :: st) mem Post) := zrf rfl
theorem s_118_141 {E : yE} {n d : Nat} {mem : yMem} {Post : Option yV → yMem → Prop} {st : List yV} {r0 : Option yV} {x : Int} : zvc E (n + 1) zc_118 d xm_118 141 [r0, some (0, x)] (st) mem Post = (zvc E n zc_118 d xm_118 142 [r0, some (0, x)] ((0, x) :: st) mem Post) := zrf rfl
theorem s_118_142 {E : yE} {n d : Nat} {mem : yMem} {Post : Option yV → yMem → Prop} {st : List yV} {r1 : Option yV} {x : Int} : zvc E (n + 1) zc_118 d xm_118 142 [some (1, x), r1] (st) mem Post = (zvc E n zc_118 d xm_118 143 [some (1, x), r1] ((1, x) :: st) mem Post) := zrf rfl
theorem s_118_143 {E : yE} {n d : Nat} {mem : yMem} {Post : Option yV → yMem → Prop} {st : List yV} {r0 r1 : Option yV} : zvc E (n + 1) zc_118 d xm_118 143 [r0, r1] (st) mem Post = (zvc E n zc_118 d xm_118 144 [r0, r1] ((0, 0) :: st) mem Post) := zrf rfl
theorem s_118_144 {E : yE} {n d : Nat} {mem : yMem} {Post : Option yV → yMem → Prop} {st : List yV} {r0 r1 : Option yV} : zvc E (n + 1) zc_118 d xm_118 144 [r0, r1] (st) mem Post = (zvc E n zc_118 d xm_118 146 [r0, r1] ((0, 99) :: st) mem Post) := zrf rfl
theorem s_118_146 {E : yE} {n d : Nat} {mem : yMem} {Post : Option yV → yMem → Prop} {st : List yV} {r0 r1 : Option yV} {z a0 a1 : Int} : zvc E (n + 1) zc_118 d xm_118 146 [r0, r1] ((0, a1) :: (0, a0) :: (1, z) :: st) mem Post = (zio z 8 = true ∧ ysum st ≤ 8 ∧ yCon E d xm_112 [(1, z), (0, a0), (0, a1)] mem (fun v mem' => zgk E d xm_118 149 [r0, r1] st v mem' Post)) := zrf rfl
theorem s_118_149 {E : yE} {n d : Nat} {mem : yMem} {Post : Option yV → yMem → Prop} {st : List yV} {r0 r1 : Option yV} {x z j : Int} : zvc E (n + 1) zc_118 d xm_118 149 [r0, r1] ((0, x) :: (0, j) :: (1, z) :: st) mem Post = ((0 ≤ w32 j ∧ w32 j < ((zar z 0 : Nat) : Int)) ∧ zvc E n zc_118 d xm_118 150 [r0, r1] (st) (yset mem z.toNat (w32 j).toNat x) Post) := zrf rfl
theorem g_118_150 {E : yE} {n d : Nat} {mem : yMem} {Post : Option yV → yMem → Prop} {st : List yV} {r1 : Option yV} {x : Int} : zgo E n zc_118 d xm_118 150 [some (1, x), r1] (st) mem Post = (zvc E n zc_118 d xm_118 151 [some (1, x), r1] ((1, x) :: st) mem Post) := zrf rfl
theorem k_118_150 {E : yE} {n d : Nat} {mem : yMem} {Post : Option yV → yMem → Prop} {st : List yV} {rg : zR} : zvc E (n + 1) zc_118 d xm_118 150 rg st mem Post = zG E d xm_118 150 rg st mem Post := zrf rfl
theorem s_118_151 {E : yE} {n d : Nat} {mem : yMem} {Post : Option yV → yMem → Prop} {st : List yV} {r0 r1 : Option yV} : zvc E (n + 1) zc_118 d xm_118 151 [r0, r1] (st) mem Post = (zvc E n zc_118 d xm_118 153 [r0, r1] ((0, 26) :: st) mem Post) := zrf rfl
theorem s_118_153 {E : yE} {n d : Nat} {mem : yMem} {Post : Option yV → yMem → Prop} {st : List yV} {r0 r1 : Option yV} {z a0 : Int} : zvc E (n + 1) zc_118 (d + 1) xm_118 153 [r0, r1] ((0, a0) :: (1, z) :: st) mem Post = (zio z 8 = true ∧ ysum st ≤ 8 ∧ zvc E n [] d xm_119 0 [some (1, z), some (0, a0)] [] mem (fun v mem' => zvk E n zc_118 (d + 1) xm_118 156 [r0, r1] st v mem' Post)) := zrf rfl
theorem s_118_156 {E : yE} {n d : Nat} {mem : yMem} {Post : Option yV → yMem → Prop} {st : List yV} {r0 r1 : Option yV} {x : Int} : zvc E (n + 1) zc_118 d xm_118 156 [r0, r1] ((0, x) :: st) mem Post = ((w32 x = w32 0 → zvc E n zc_118 d xm_118 175 [r0, r1] (st) mem Post) ∧ (¬ (w32 x = w32 0) → zvc E n zc_118 d xm_118 159 [r0, r1] (st) mem Post)) := zrf rfl
theorem s_118_159 {E : yE} {n d : Nat} {mem : yMem} {Post : Option yV → yMem → Prop} {st : List yV} {r1 : Option yV} {x : Int} : zvc E (n + 1) zc_118 d xm_118 159 [some (1, x), r1] (st) mem Post = (zvc E n zc_118 d xm_118 160 [some (1, x), r1] ((1, x) :: st) mem Post) := zrf rfl
theorem s_118_160 {E : yE} {n d : Nat} {mem : yMem} {Post : Option yV → yMem → Prop} {st : List yV} {r0 r1 : Option yV} : zvc E (n + 1) zc_118 d xm_118 160 [r0, r1] ((1, 54) :: st) mem Post = (zvc E n zc_118 d xm_118 163 [r0, r1] ((1, 28) :: st) mem Post) := zrf rfl
theorem s_118_163_2 {E : yE} {n d : Nat} {mem : yMem} {Post : Option yV → yMem → Prop} {st : List yV} {r0 r1 : Option yV} : zvc E (n + 1) zc_118 d xm_118 163 [r0, r1] ((1, 2) :: st) mem Post = (zvc E n zc_118 d xm_118 166 [r0, r1] ((1, 17) :: st) mem Post) := zrf rfl
theorem s_118_163_28 {E : yE} {n d : Nat} {mem : yMem} {Post : Option yV → yMem → Prop} {st : List yV} {r0 r1 : Option yV} : zvc E (n + 1) zc_118 d xm_118 163 [r0, r1] ((1, 28) :: st) mem Post = (zvc E n zc_118 d xm_118 166 [r0, r1] ((1, 43) :: st) mem Post) := zrf rfl
theorem s_118_166 {E : yE} {n d : Nat} {mem : yMem} {Post : Option yV → yMem → Prop} {st : List yV} {r0 : Option yV} {x : Int} : zvc E (n + 1) zc_118 d xm_118 166 [r0, some (0, x)] (st) mem Post = (zvc E n zc_118 d xm_118 167 [r0, some (0, x)] ((0, x) :: st) mem Post) := zrf rfl
theorem s_118_167 {E : yE} {n d : Nat} {mem : yMem} {Post : Option yV → yMem → Prop} {st : List yV} {r1 : Option yV} {x : Int} : zvc E (n + 1) zc_118 d xm_118 167 [some (1, x), r1] (st) mem Post = (zvc E n zc_118 d xm_118 168 [some (1, x), r1] ((1, x) :: st) mem Post) := zrf rfl
theorem s_118_168 {E : yE} {n d : Nat} {mem : yMem} {Post : Option yV → yMem → Prop} {st : List yV} {r0 r1 : Option yV} : zvc E (n + 1) zc_118 d xm_118 168 [r0, r1] (st) mem Post = (zvc E n zc_118 d xm_118 169 [r0, r1] ((0, 1) :: st) mem Post) := zrf rfl
theorem s_118_169 {E : yE} {n d : Nat} {mem : yMem} {Post : Option yV → yMem → Prop} {st : List yV} {r0 r1 : Option yV} : zvc E (n + 1) zc_118 d xm_118 169 [r0, r1] (st) mem Post = (zvc E n zc_118 d xm_118 171 [r0, r1] ((0, 99) :: st) mem Post) := zrf rfl
theorem s_118_171 {E : yE} {n d : Nat} {mem : yMem} {Post : Option yV → yMem → Prop} {st : List yV} {r0 r1 : Option yV} {z a0 a1 : Int} : zvc E (n + 1) zc_118 d xm_118 171 [r0, r1] ((0, a1) :: (0, a0) :: (1, z) :: st) mem Post = (zio z 8 = true ∧ ysum st ≤ 8 ∧ yCon E d xm_112 [(1, z), (0, a0), (0, a1)] mem (fun v mem' => zgk E d xm_118 174 [r0, r1] st v mem' Post)) := zrf rfl
theorem s_118_174 {E : yE} {n d : Nat} {mem : yMem} {Post : Option yV → yMem → Prop} {st : List yV} {r0 r1 : Option yV} {x z j : Int} : zvc E (n + 1) zc_118 d xm_118 174 [r0, r1] ((0, x) :: (0, j) :: (1, z) :: st) mem Post = ((0 ≤ w32 j ∧ w32 j < ((zar z 0 : Nat) : Int)) ∧ zvc E n zc_118 d xm_118 175 [r0, r1] (st) (yset mem z.toNat (w32 j).toNat x) Post) := zrf rfl
theorem s_118_175 {E : yE} {n d : Nat} {mem : yMem} {Post : Option yV → yMem → Prop} {r0 r1 : Option yV} : zvc E (n + 1) zc_118 d xm_118 175 [r0, r1] ([]) mem Post = (Post none mem) := zrf rfl
theorem e_119 {E : yE} {d : Nat} {mem : yMem} {Q : Option yV → yMem → Prop} {z a0 : Int} (h : zG E d xm_119 0 [some (1, z), some (0, a0)] [] mem Q) : yCon E (d + 1) xm_119 [(1, z), (0, a0)] mem Q := zcon_of xmo_119 (Nat.le_of_ble_eq_true rfl) h
theorem e_118 {E : yE} {d : Nat} {mem : yMem} {Q : Option yV → yMem → Prop} {z : Int} (h : zG E d xm_118 0 [some (1, z), none] [] mem Q) : yCon E (d + 1) xm_118 [(1, z)] mem Q := zcon_of xmo_118 (Nat.le_of_ble_eq_true rfl) h

/-- a tavern's name -/
def yTt (nm : List Int) (x : sY) : Int × sY := if yKd x = 3 then (if sFd (fun j => nm.getD j 0) (yVl x) nm.length 0 = -1 then (-1, yFl 4 x) else (sFd (fun j => nm.getD j 0) (yVl x) nm.length 0, yNx x)) else (-1, yFl 1 x)
theorem yNx_fl (f : Nat) (x : sY) : yNx (yFl f x) = yFl f x := by
  cases x with
  | inl e => rfl
  | inr l => rfl
/-- a voice from its boy on -/
def pV1 (x : sY) : sY × Int := if yKd x = 24 then (yNx x, 1) else (x, 0)
def pV2 (nm : List Int) (x : sY) : sY × Int × Int := if yKd x = 25 then ((yNm 0 99 (yTt nm (yNx x)).2).2, (yTt nm (yNx x)).1, (yNm 0 99 (yTt nm (yNx x)).2).1) else (x, -1, 0)
def pV3 (x : sY) : sY × Int := if yKd x = 26 then ((yNm 1 99 (yNx x)).2, (yNm 1 99 (yNx x)).1) else (x, 1)
def vF (len i j : Nat) : Prop := (39 ≤ i ∧ i ≤ 43 ∧ j = len) ∨ (i = 28 ∧ j = 16) ∨ i = 55
def VoS (b m : yMem) (len : Nat) (lo hi bo ho de od : Int) : Prop := (∀ i j, ¬ vF len i j → m i j = b i j) ∧ w32 (m 39 len) = lo ∧ w32 (m 40 len) = hi ∧ w32 (m 28 16) = bo ∧ w32 (m 41 len) = ho ∧ w32 (m 42 len) = de ∧ w32 (m 43 len) = od
theorem VoS_tk {b m m' : yMem} {len : Nat} {lo hi bo ho de od : Int} (h : VoS b m len lo hi bo ho de od) (hF : aFrm cfF m m') : VoS b m' len lo hi bo ho de od := by
  have k : ∀ i j, i ≠ 55 → m' i j = m i j := fun i j hi => hF i j (amod_n55 hi)
  obtain ⟨h0, h1, h2, h3, h4, h5, h6⟩ := h
  refine ⟨fun i j hv => ?_, ?_, ?_, ?_, ?_, ?_, ?_⟩
  · rw [k i j (fun e => hv (Or.inr (Or.inr e)))]; exact h0 i j hv
  · rw [k 39 len (by decide)]; exact h1
  · rw [k 40 len (by decide)]; exact h2
  · rw [k 28 16 (by decide)]; exact h3
  · rw [k 41 len (by decide)]; exact h4
  · rw [k 42 len (by decide)]; exact h5
  · rw [k 43 len (by decide)]; exact h6
theorem yset_fr {b m : yMem} {len i j : Nat} {x : Int} (h : ∀ i j, ¬ vF len i j → m i j = b i j) (hv : vF len i j) : ∀ i' j', ¬ vF len i' j' → yset m i j x i' j' = b i' j' := fun i' j' h' => by
  rw [yset_a]
  split
  · next e1 =>
    rw [if_neg (fun e2 => h' (by rw [e1, e2]; exact hv))]
    exact h i' j' h'
  · exact h i' j' h'
theorem yb_orr {x y : Int} {a b k : Nat} (hx : w32 x = (b : Int)) (hy : w32 y = ((2 ^ k * a : Nat) : Int)) (hb : b < 2 ^ k) (h : 2 ^ k * a + b < 2147483648) : w32 (ybin 4 x y) = ((2 ^ k * a + b : Nat) : Int) := by
  show w32 (fbin 4 (iI x) (iI y)).toInt = _
  rw [iI_natE hx, iI_natE hy]
  show w32 (nI b ||| nI (2 ^ k * a)).toInt = _
  rw [nI_or (by omega) (by omega), Nat.or_comm, ← Nat.two_pow_add_eq_or_of_lt hb, w32_nI h]
theorem yb_bit {x r : Int} {len : Nat} (hl : len < 6) (hr : w32 r = (len : Int)) {bo : Int} (hx : w32 x = bo) (hb : 0 ≤ bo ∧ bo < 2 ^ len) : w32 (ybin 4 x (ybin 6 1 r)) = bo + 1 * 2 ^ len := by
  obtain ⟨k, rfl⟩ := Int.eq_ofNat_of_zero_le hb.1
  have hk : k < 2 ^ len := by
    have := hb.2
    exact_mod_cast this
  have h2 : 2 ^ len < 64 := (by decide : ∀ l : Nat, l < 6 → 2 ^ l < 64) len hl
  have e := yb_orr (x := x) (y := ybin 6 1 r) (a := 1) (b := k) (k := len) hx (by rw [yb_shl (a := 1) (s := len) w32c_1 hr (by omega) (by omega), Nat.mul_comm]) hk (by omega)
  rw [e]
  push_cast
  omega
section CK
variable {E : yE} {mem b m : yMem} {Q : Option yV → yMem → Prop} {ch : Nat → Int} {n : Nat} {x y : sY} {d len : Nat} {lo hi bo ho de od r : Int}
theorem g_told (hE : yEok E) {D : Nat} (hD : 5 ≤ D) {nm : List Int} (h : cTk ch n mem x) (hN : cNm mem 29 3 nm) (hQ : ∀ r m, aFrm cfF mem m → w32 r = (yTt nm x).1 → cTk ch n m (yTt nm x).2 → Q (some (0, r)) m) : yCon E D xm_121 [(1, 54)] mem Q := by
  obtain ⟨d, rfl⟩ := Nat.exists_eq_add_of_le' hD
  refine e_121 ?_
  refine zvc_ok hE 90 [] _ _ _ _ _ _ _ xmo_121 ?_
  simp only [ynok_30, ynok_31, w32c_0, w32c_1, w32c_2, w32c_3, w32c_4, w32c_5, w32c_6, w32c_7, w32c_8, w32c_9, w32c_10, w32c_11, w32c_12, w32c_13, w32c_14, w32c_m1, w32c_m2, w32c_118, Int.reduceAdd, Int.reduceSub, Int.reduceMul, yput_s, yput_n, znl_n, znl_0, znl_1, znl_4, ysum_n, ysum_0, ysum_1, ysum_4, true_and, and_true, Nat.reduceAdd, Nat.reduceLeDiff, true_implies, eq_self, true_or, or_true, or_false, false_or, not_true_eq_false, not_false_eq_true, false_implies, implies_true, yset_s, yset_o, yset_d, ne_eq, Nat.reduceEqDiff, Int.reduceToNat, Int.reduceEq, Int.reduceLE, Int.reduceLT, Classical.not_not, Nat.reduceLT, ↓zvk_s, ↓zvk_n, ↓s_121_0, ↓s_121_1, ↓s_121_4, ↓s_121_7, ↓s_121_8, ↓s_121_11, ↓s_121_12, ↓s_121_15, ↓s_121_16, ↓s_121_19a, ↓s_121_19b, ↓s_121_20, ↓s_121_21, ↓s_121_22, ↓s_121_23, ↓s_121_26_2, ↓s_121_26_28, ↓s_121_29, ↓s_121_30, ↓s_121_33, ↓s_121_36, ↓s_121_39n, ↓s_121_39i, ↓s_121_39p, ↓s_121_40, ↓s_121_41, ↓s_121_42, ↓s_121_45, ↓s_121_46, ↓s_121_49, ↓s_121_50, ↓s_121_53a, ↓s_121_53b, ↓s_121_54, ↓s_121_55, ↓s_121_58, ↓s_121_61, ↓s_121_62, ↓s_123_0, ↓s_123_1, ↓s_123_4, ↓s_123_7, ↓s_123_8, ↓s_123_9, ↓s_123_12, ↓s_123_13, ↓s_123_14, ↓s_123_17, ↓s_123_20, ↓s_123_21, ↓s_123_22, ↓s_123_25, ↓s_123_26, zio_33, zio_2, zio_3, zio_35, zio_5, zio_7, zio_9, zio_54, zio_55, zio_28, zio_29, zio_31]
  rw [cTk_kd h]
  refine ⟨fun hk => ?_, fun hk => ?_⟩
  · have hk3 : yKd x = 3 := by omega
    refine g_find_29 hE (by omega) (by rw [hN.1]; omega) (by rw [hN.1]; have := hN.2.1; omega) (fun r hr => ?_)
    rw [cNm_fd hN, cTk_nm h hk3] at hr
    refine zgk_s hE xmo_121 60 [] ?_
    simp only [ynok_30, ynok_31, w32c_0, w32c_1, w32c_2, w32c_3, w32c_4, w32c_5, w32c_6, w32c_7, w32c_8, w32c_9, w32c_10, w32c_11, w32c_12, w32c_13, w32c_14, w32c_m1, w32c_m2, w32c_118, Int.reduceAdd, Int.reduceSub, Int.reduceMul, yput_s, yput_n, znl_n, znl_0, znl_1, znl_4, ysum_n, ysum_0, ysum_1, ysum_4, true_and, and_true, Nat.reduceAdd, Nat.reduceLeDiff, true_implies, eq_self, true_or, or_true, or_false, false_or, not_true_eq_false, not_false_eq_true, false_implies, implies_true, yset_s, yset_o, yset_d, ne_eq, Nat.reduceEqDiff, Int.reduceToNat, Int.reduceEq, Int.reduceLE, Int.reduceLT, Classical.not_not, Nat.reduceLT, ↓zvk_s, ↓zvk_n, ↓s_121_0, ↓s_121_1, ↓s_121_4, ↓s_121_7, ↓s_121_8, ↓s_121_11, ↓s_121_12, ↓s_121_15, ↓s_121_16, ↓s_121_19a, ↓s_121_19b, ↓s_121_20, ↓s_121_21, ↓s_121_22, ↓s_121_23, ↓s_121_26_2, ↓s_121_26_28, ↓s_121_29, ↓s_121_30, ↓s_121_33, ↓s_121_36, ↓s_121_39n, ↓s_121_39i, ↓s_121_39p, ↓s_121_40, ↓s_121_41, ↓s_121_42, ↓s_121_45, ↓s_121_46, ↓s_121_49, ↓s_121_50, ↓s_121_53a, ↓s_121_53b, ↓s_121_54, ↓s_121_55, ↓s_121_58, ↓s_121_61, ↓s_121_62, ↓s_123_0, ↓s_123_1, ↓s_123_4, ↓s_123_7, ↓s_123_8, ↓s_123_9, ↓s_123_12, ↓s_123_13, ↓s_123_14, ↓s_123_17, ↓s_123_20, ↓s_123_21, ↓s_123_22, ↓s_123_25, ↓s_123_26, zio_33, zio_2, zio_3, zio_35, zio_5, zio_7, zio_9, zio_54, zio_55, zio_28, zio_29, zio_31]
    rw [hr]
    have fin : ∀ m1, aFrm cfF mem m1 → cTk ch n m1 (if sFd (fun j => nm.getD j 0) (yVl x) nm.length 0 = -1 then yFl 4 x else x) → yCon E (d + 4) xm_126 [(1, 55)] m1 (fun v mem' => zgk E (d + 4) xm_121 61 [some (1, 54), some (0, r)] [] v mem' Q) := fun m1 F1 T1 => by
      refine g_next hE (by omega) T1 (fun m2 F2 T2 => ?_)
      refine zgk_n hE xmo_121 60 [] ?_
      simp only [ynok_30, ynok_31, w32c_0, w32c_1, w32c_2, w32c_3, w32c_4, w32c_5, w32c_6, w32c_7, w32c_8, w32c_9, w32c_10, w32c_11, w32c_12, w32c_13, w32c_14, w32c_m1, w32c_m2, w32c_118, Int.reduceAdd, Int.reduceSub, Int.reduceMul, yput_s, yput_n, znl_n, znl_0, znl_1, znl_4, ysum_n, ysum_0, ysum_1, ysum_4, true_and, and_true, Nat.reduceAdd, Nat.reduceLeDiff, true_implies, eq_self, true_or, or_true, or_false, false_or, not_true_eq_false, not_false_eq_true, false_implies, implies_true, yset_s, yset_o, yset_d, ne_eq, Nat.reduceEqDiff, Int.reduceToNat, Int.reduceEq, Int.reduceLE, Int.reduceLT, Classical.not_not, Nat.reduceLT, ↓zvk_s, ↓zvk_n, ↓s_121_0, ↓s_121_1, ↓s_121_4, ↓s_121_7, ↓s_121_8, ↓s_121_11, ↓s_121_12, ↓s_121_15, ↓s_121_16, ↓s_121_19a, ↓s_121_19b, ↓s_121_20, ↓s_121_21, ↓s_121_22, ↓s_121_23, ↓s_121_26_2, ↓s_121_26_28, ↓s_121_29, ↓s_121_30, ↓s_121_33, ↓s_121_36, ↓s_121_39n, ↓s_121_39i, ↓s_121_39p, ↓s_121_40, ↓s_121_41, ↓s_121_42, ↓s_121_45, ↓s_121_46, ↓s_121_49, ↓s_121_50, ↓s_121_53a, ↓s_121_53b, ↓s_121_54, ↓s_121_55, ↓s_121_58, ↓s_121_61, ↓s_121_62, zio_33, zio_2, zio_3, zio_35, zio_5, zio_7, zio_9, zio_54, zio_55, zio_28, zio_29, zio_31]
      refine hQ r m2 (aFrm_tt F1 F2) ?_ ?_
      · unfold yTt
        rw [if_pos hk3, hr]
        split
        · next e => exact e
        · rfl
      · unfold yTt
        rw [if_pos hk3]
        by_cases e : sFd (fun j => nm.getD j 0) (yVl x) nm.length 0 = -1
        · rw [if_pos e] at T2 ⊢
          rw [yNx_fl] at T2
          exact T2
        · rw [if_neg e] at T2 ⊢
          exact T2
    refine ⟨fun hne => fin mem aFrm_rf (by rw [if_neg hne]; exact h), fun he => ⟨fun hz => fin _ (g_fl1 (f := 4) h hz).1 (by rw [if_pos he]; exact (g_fl1 h hz).2), fun hz => fin _ (g_fl0 (f := 4) h (by decide) (by decide) hz).1 (by rw [if_pos he]; exact (g_fl0 h (by decide) (by decide) hz).2)⟩⟩
  · have hk3 : ¬ yKd x = 3 := by omega
    have fin : ∀ m1, aFrm cfF mem m1 → cTk ch n m1 (yFl 1 x) → Q (some (0, -1)) m1 := fun m1 F1 T1 => hQ _ m1 F1 (by unfold yTt; rw [if_neg hk3]; exact w32c_m1) (by unfold yTt; rw [if_neg hk3]; exact T1)
    exact ⟨fun hz => fin _ (g_fl1 (f := 1) h hz).1 (g_fl1 h hz).2, fun hz => fin _ (g_fl0 (f := 1) h (by decide) (by decide) hz).1 (g_fl0 h (by decide) (by decide) hz).2⟩
theorem rv150 (hE : yEok E) (hd : 5 ≤ d) (hl : len < 6) (hr : w32 r = (len : Int)) (h : cTk ch n m y) (hS : VoS b m len lo hi bo ho de 1) (fin : ∀ m', cTk ch n m' (pV3 y).1 → VoS b m' len lo hi bo ho de (pV3 y).2 → Q none m') : zG E (d + 1) xm_118 150 [some (1, 54), some (0, r)] [] m Q := by
  have hrt : (w32 r).toNat = len := by rw [hr]; exact Int.toNat_natCast _
  refine zgo_ok (n := 60) hE xmo_118 (cs := zc_118) ?_
  simp only [ynok_30, ynok_31, w32c_0, w32c_1, w32c_2, w32c_3, w32c_4, w32c_5, w32c_6, w32c_7, w32c_8, w32c_9, w32c_10, w32c_11, w32c_12, w32c_13, w32c_14, w32c_m1, w32c_m2, w32c_118, Int.reduceAdd, Int.reduceSub, Int.reduceMul, yput_s, yput_n, znl_n, znl_0, znl_1, znl_4, ysum_n, ysum_0, ysum_1, ysum_4, true_and, and_true, Nat.reduceAdd, Nat.reduceLeDiff, true_implies, eq_self, true_or, or_true, or_false, false_or, not_true_eq_false, not_false_eq_true, false_implies, implies_true, yset_s, yset_o, yset_d, ne_eq, Nat.reduceEqDiff, Int.reduceToNat, Int.reduceEq, Int.reduceLE, Int.reduceLT, Classical.not_not, Nat.reduceLT, ↓zvk_s, ↓zvk_n, ↓s_118_0, ↓s_118_1, ↓s_118_2, ↓s_118_5_2, ↓s_118_5_28, ↓s_118_8, ↓s_118_11n, ↓s_118_11i, ↓s_118_11p, ↓s_118_12, ↓s_118_13, ↓s_118_14, ↓s_118_17, ↓s_118_18, ↓s_118_19, ↓s_118_22_2, ↓s_118_22_28, ↓s_118_25, ↓s_118_26, ↓s_118_27, ↓s_118_28, ↓s_118_30, ↓s_118_33, ↓s_118_34, ↓s_118_35, ↓s_118_38_2, ↓s_118_38_28, ↓s_118_41, ↓s_118_42, ↓s_118_43, ↓s_118_44, ↓s_118_47_2, ↓s_118_47_28, ↓s_118_50, ↓s_118_51, ↓s_118_52, ↓s_118_54, ↓s_118_57, ↓s_118_58, ↓s_118_59, ↓s_118_62_2, ↓s_118_62_28, ↓s_118_65, ↓s_118_66, ↓s_118_67, ↓s_118_68, ↓s_118_69, ↓s_118_72_2, ↓s_118_72_28, ↓s_118_75, ↓s_118_76, ↓s_118_77, ↓s_118_78, ↓s_118_79, ↓s_118_82_2, ↓s_118_82_28, ↓s_118_85, ↓s_118_86, ↓s_118_87, ↓g_118_88, ↓k_118_88, ↓s_118_89, ↓s_118_91, ↓s_118_94, ↓s_118_97, ↓s_118_98, ↓s_118_101a, ↓s_118_101b, ↓s_118_102_2, ↓s_118_102_28, ↓s_118_105, ↓s_118_106, ↓s_118_107, ↓s_118_108, ↓s_118_109_2, ↓s_118_109_28, ↓g_118_112, ↓k_118_112, ↓s_118_113, ↓s_118_115, ↓s_118_118, ↓s_118_121, ↓s_118_122, ↓s_118_125_2, ↓s_118_125_28, ↓s_118_128, ↓s_118_129, ↓s_118_130, ↓s_118_133, ↓s_118_134, ↓s_118_135, ↓s_118_138_2, ↓s_118_138_28, ↓s_118_141, ↓s_118_142, ↓s_118_143, ↓s_118_144, ↓s_118_146, ↓s_118_149, ↓g_118_150, ↓k_118_150, ↓s_118_151, ↓s_118_153, ↓s_118_156, ↓s_118_159, ↓s_118_160, ↓s_118_163_2, ↓s_118_163_28, ↓s_118_166, ↓s_118_167, ↓s_118_168, ↓s_118_169, ↓s_118_171, ↓s_118_174, ↓s_118_175, w32c_40, w32c_24, w32c_25, w32c_99, w32c_26, ↓s_119_0, ↓s_119_1, ↓s_119_4, ↓s_119_7, ↓s_119_8, ↓s_119_11, ↓s_119_12, ↓s_119_13, ↓s_119_14, ↓s_119_17, ↓s_119_20, ↓s_119_21, zio_2, zio_5, zar_39, zia_39, zln_39, zit_39, zar_40, zia_40, zln_40, zit_40, zar_41, zia_41, zln_41, zit_41, zar_42, zia_42, zln_42, zit_42, zar_43, zia_43, zln_43, zit_43, zar_13, zia_13, zln_13, zit_13, zar_14, zia_14, zln_14, zit_14, zar_15, zia_15, zln_15, zit_15, zar_16, zia_16, zln_16, zit_16, zar_17, zia_17, zln_17, zit_17, zio_54, zio_55, zio_28, zio_31]
  rw [cTk_kd h]
  refine ⟨fun hk => ?_, fun hk => ?_⟩
  · have hk' : yKd y = 26 := by omega
    have ep : pV3 y = ((yNm 1 99 (yNx y)).2, (yNm 1 99 (yNx y)).1) := by unfold pV3; rw [if_pos hk']
    refine g_next hE (by omega) h (fun m1 F1 T1 => ?_)
    refine zgk_n hE xmo_119 60 [] ?_
    simp only [ynok_30, ynok_31, w32c_0, w32c_1, w32c_2, w32c_3, w32c_4, w32c_5, w32c_6, w32c_7, w32c_8, w32c_9, w32c_10, w32c_11, w32c_12, w32c_13, w32c_14, w32c_m1, w32c_m2, w32c_118, Int.reduceAdd, Int.reduceSub, Int.reduceMul, yput_s, yput_n, znl_n, znl_0, znl_1, znl_4, ysum_n, ysum_0, ysum_1, ysum_4, true_and, and_true, Nat.reduceAdd, Nat.reduceLeDiff, true_implies, eq_self, true_or, or_true, or_false, false_or, not_true_eq_false, not_false_eq_true, false_implies, implies_true, yset_s, yset_o, yset_d, ne_eq, Nat.reduceEqDiff, Int.reduceToNat, Int.reduceEq, Int.reduceLE, Int.reduceLT, Classical.not_not, Nat.reduceLT, ↓zvk_s, ↓zvk_n, ↓s_119_0, ↓s_119_1, ↓s_119_4, ↓s_119_7, ↓s_119_8, ↓s_119_11, ↓s_119_12, ↓s_119_13, ↓s_119_14, ↓s_119_17, ↓s_119_20, ↓s_119_21, ↓s_118_0, ↓s_118_1, ↓s_118_2, ↓s_118_5_2, ↓s_118_5_28, ↓s_118_8, ↓s_118_11n, ↓s_118_11i, ↓s_118_11p, ↓s_118_12, ↓s_118_13, ↓s_118_14, ↓s_118_17, ↓s_118_18, ↓s_118_19, ↓s_118_22_2, ↓s_118_22_28, ↓s_118_25, ↓s_118_26, ↓s_118_27, ↓s_118_28, ↓s_118_30, ↓s_118_33, ↓s_118_34, ↓s_118_35, ↓s_118_38_2, ↓s_118_38_28, ↓s_118_41, ↓s_118_42, ↓s_118_43, ↓s_118_44, ↓s_118_47_2, ↓s_118_47_28, ↓s_118_50, ↓s_118_51, ↓s_118_52, ↓s_118_54, ↓s_118_57, ↓s_118_58, ↓s_118_59, ↓s_118_62_2, ↓s_118_62_28, ↓s_118_65, ↓s_118_66, ↓s_118_67, ↓s_118_68, ↓s_118_69, ↓s_118_72_2, ↓s_118_72_28, ↓s_118_75, ↓s_118_76, ↓s_118_77, ↓s_118_78, ↓s_118_79, ↓s_118_82_2, ↓s_118_82_28, ↓s_118_85, ↓s_118_86, ↓s_118_87, ↓g_118_88, ↓k_118_88, ↓s_118_89, ↓s_118_91, ↓s_118_94, ↓s_118_97, ↓s_118_98, ↓s_118_101a, ↓s_118_101b, ↓s_118_102_2, ↓s_118_102_28, ↓s_118_105, ↓s_118_106, ↓s_118_107, ↓s_118_108, ↓s_118_109_2, ↓s_118_109_28, ↓g_118_112, ↓k_118_112, ↓s_118_113, ↓s_118_115, ↓s_118_118, ↓s_118_121, ↓s_118_122, ↓s_118_125_2, ↓s_118_125_28, ↓s_118_128, ↓s_118_129, ↓s_118_130, ↓s_118_133, ↓s_118_134, ↓s_118_135, ↓s_118_138_2, ↓s_118_138_28, ↓s_118_141, ↓s_118_142, ↓s_118_143, ↓s_118_144, ↓s_118_146, ↓s_118_149, ↓g_118_150, ↓k_118_150, ↓s_118_151, ↓s_118_153, ↓s_118_156, ↓s_118_159, ↓s_118_160, ↓s_118_163_2, ↓s_118_163_28, ↓s_118_166, ↓s_118_167, ↓s_118_168, ↓s_118_169, ↓s_118_171, ↓s_118_174, ↓s_118_175, w32c_40, w32c_24, w32c_25, w32c_99, w32c_26, zio_2, zio_5, zar_39, zia_39, zln_39, zit_39, zar_40, zia_40, zln_40, zit_40, zar_41, zia_41, zln_41, zit_41, zar_42, zia_42, zln_42, zit_42, zar_43, zia_43, zln_43, zit_43, zar_13, zia_13, zln_13, zit_13, zar_14, zia_14, zln_14, zit_14, zar_15, zia_15, zln_15, zit_15, zar_16, zia_16, zln_16, zit_16, zar_17, zia_17, zln_17, zit_17, zio_54, zio_55, zio_28, zio_31]
    refine g_number hE (by omega) T1 (by decide) (by decide) (fun r1 m2 F2 e2 T2 => ?_)
    rw [w32c_1, w32c_99] at e2 T2
    refine zgk_s hE xmo_118 60 zc_118 ?_
    simp only [ynok_30, ynok_31, w32c_0, w32c_1, w32c_2, w32c_3, w32c_4, w32c_5, w32c_6, w32c_7, w32c_8, w32c_9, w32c_10, w32c_11, w32c_12, w32c_13, w32c_14, w32c_m1, w32c_m2, w32c_118, Int.reduceAdd, Int.reduceSub, Int.reduceMul, yput_s, yput_n, znl_n, znl_0, znl_1, znl_4, ysum_n, ysum_0, ysum_1, ysum_4, true_and, and_true, Nat.reduceAdd, Nat.reduceLeDiff, true_implies, eq_self, true_or, or_true, or_false, false_or, not_true_eq_false, not_false_eq_true, false_implies, implies_true, yset_s, yset_o, yset_d, ne_eq, Nat.reduceEqDiff, Int.reduceToNat, Int.reduceEq, Int.reduceLE, Int.reduceLT, Classical.not_not, Nat.reduceLT, ↓zvk_s, ↓zvk_n, ↓s_118_0, ↓s_118_1, ↓s_118_2, ↓s_118_5_2, ↓s_118_5_28, ↓s_118_8, ↓s_118_11n, ↓s_118_11i, ↓s_118_11p, ↓s_118_12, ↓s_118_13, ↓s_118_14, ↓s_118_17, ↓s_118_18, ↓s_118_19, ↓s_118_22_2, ↓s_118_22_28, ↓s_118_25, ↓s_118_26, ↓s_118_27, ↓s_118_28, ↓s_118_30, ↓s_118_33, ↓s_118_34, ↓s_118_35, ↓s_118_38_2, ↓s_118_38_28, ↓s_118_41, ↓s_118_42, ↓s_118_43, ↓s_118_44, ↓s_118_47_2, ↓s_118_47_28, ↓s_118_50, ↓s_118_51, ↓s_118_52, ↓s_118_54, ↓s_118_57, ↓s_118_58, ↓s_118_59, ↓s_118_62_2, ↓s_118_62_28, ↓s_118_65, ↓s_118_66, ↓s_118_67, ↓s_118_68, ↓s_118_69, ↓s_118_72_2, ↓s_118_72_28, ↓s_118_75, ↓s_118_76, ↓s_118_77, ↓s_118_78, ↓s_118_79, ↓s_118_82_2, ↓s_118_82_28, ↓s_118_85, ↓s_118_86, ↓s_118_87, ↓g_118_88, ↓k_118_88, ↓s_118_89, ↓s_118_91, ↓s_118_94, ↓s_118_97, ↓s_118_98, ↓s_118_101a, ↓s_118_101b, ↓s_118_102_2, ↓s_118_102_28, ↓s_118_105, ↓s_118_106, ↓s_118_107, ↓s_118_108, ↓s_118_109_2, ↓s_118_109_28, ↓g_118_112, ↓k_118_112, ↓s_118_113, ↓s_118_115, ↓s_118_118, ↓s_118_121, ↓s_118_122, ↓s_118_125_2, ↓s_118_125_28, ↓s_118_128, ↓s_118_129, ↓s_118_130, ↓s_118_133, ↓s_118_134, ↓s_118_135, ↓s_118_138_2, ↓s_118_138_28, ↓s_118_141, ↓s_118_142, ↓s_118_143, ↓s_118_144, ↓s_118_146, ↓s_118_149, ↓g_118_150, ↓k_118_150, ↓s_118_151, ↓s_118_153, ↓s_118_156, ↓s_118_159, ↓s_118_160, ↓s_118_163_2, ↓s_118_163_28, ↓s_118_166, ↓s_118_167, ↓s_118_168, ↓s_118_169, ↓s_118_171, ↓s_118_174, ↓s_118_175, w32c_40, w32c_24, w32c_25, w32c_99, w32c_26, zio_2, zio_5, zar_39, zia_39, zln_39, zit_39, zar_40, zia_40, zln_40, zit_40, zar_41, zia_41, zln_41, zit_41, zar_42, zia_42, zln_42, zit_42, zar_43, zia_43, zln_43, zit_43, zar_13, zia_13, zln_13, zit_13, zar_14, zia_14, zln_14, zit_14, zar_15, zia_15, zln_15, zit_15, zar_16, zia_16, zln_16, zit_16, zar_17, zia_17, zln_17, zit_17, zio_54, zio_28, zio_31]
    rw [ep] at fin
    refine ⟨⟨by omega, by omega⟩, fin _ (cTk_of T2 (fun j => yset_o (by decide)) (fun j => yset_o (by decide)) (fun j => yset_o (by decide))) ?_⟩
    obtain ⟨h0, h1, h2, h3, h4, h5, _⟩ := VoS_tk hS (aFrm_tt F1 F2)
    rw [hrt]
    exact ⟨yset_fr h0 (Or.inl ⟨by decide, by decide, rfl⟩), by rw [yset_o (by decide)]; exact h1, by rw [yset_o (by decide)]; exact h2, by rw [yset_o (by decide)]; exact h3, by rw [yset_o (by decide)]; exact h4, by rw [yset_o (by decide)]; exact h5, by rw [yset_s]; exact e2⟩
  · have hk' : ¬ yKd y = 26 := by omega
    have ep : pV3 y = (y, 1) := by unfold pV3; rw [if_neg hk']
    rw [ep] at fin
    exact fin m h hS
theorem rv112 (hE : yEok E) (hd : 6 ≤ d) (hl : len < 6) (hr : w32 r = (len : Int)) {nm : List Int} (hN : cNm b 29 3 nm) (h : cTk ch n m y) (hS : VoS b m len lo hi bo (-1) 0 1) (fin : ∀ m', cTk ch n m' (pV3 (pV2 nm y).1).1 → VoS b m' len lo hi bo (pV2 nm y).2.1 (pV2 nm y).2.2 (pV3 (pV2 nm y).1).2 → Q none m') : zG E (d + 1) xm_118 112 [some (1, 54), some (0, r)] [] m Q := by
  have hrt : (w32 r).toNat = len := by rw [hr]; exact Int.toNat_natCast _
  refine zgo_ok (n := 60) hE xmo_118 (cs := zc_118) ?_
  simp only [ynok_30, ynok_31, w32c_0, w32c_1, w32c_2, w32c_3, w32c_4, w32c_5, w32c_6, w32c_7, w32c_8, w32c_9, w32c_10, w32c_11, w32c_12, w32c_13, w32c_14, w32c_m1, w32c_m2, w32c_118, Int.reduceAdd, Int.reduceSub, Int.reduceMul, yput_s, yput_n, znl_n, znl_0, znl_1, znl_4, ysum_n, ysum_0, ysum_1, ysum_4, true_and, and_true, Nat.reduceAdd, Nat.reduceLeDiff, true_implies, eq_self, true_or, or_true, or_false, false_or, not_true_eq_false, not_false_eq_true, false_implies, implies_true, yset_s, yset_o, yset_d, ne_eq, Nat.reduceEqDiff, Int.reduceToNat, Int.reduceEq, Int.reduceLE, Int.reduceLT, Classical.not_not, Nat.reduceLT, ↓zvk_s, ↓zvk_n, ↓s_118_0, ↓s_118_1, ↓s_118_2, ↓s_118_5_2, ↓s_118_5_28, ↓s_118_8, ↓s_118_11n, ↓s_118_11i, ↓s_118_11p, ↓s_118_12, ↓s_118_13, ↓s_118_14, ↓s_118_17, ↓s_118_18, ↓s_118_19, ↓s_118_22_2, ↓s_118_22_28, ↓s_118_25, ↓s_118_26, ↓s_118_27, ↓s_118_28, ↓s_118_30, ↓s_118_33, ↓s_118_34, ↓s_118_35, ↓s_118_38_2, ↓s_118_38_28, ↓s_118_41, ↓s_118_42, ↓s_118_43, ↓s_118_44, ↓s_118_47_2, ↓s_118_47_28, ↓s_118_50, ↓s_118_51, ↓s_118_52, ↓s_118_54, ↓s_118_57, ↓s_118_58, ↓s_118_59, ↓s_118_62_2, ↓s_118_62_28, ↓s_118_65, ↓s_118_66, ↓s_118_67, ↓s_118_68, ↓s_118_69, ↓s_118_72_2, ↓s_118_72_28, ↓s_118_75, ↓s_118_76, ↓s_118_77, ↓s_118_78, ↓s_118_79, ↓s_118_82_2, ↓s_118_82_28, ↓s_118_85, ↓s_118_86, ↓s_118_87, ↓g_118_88, ↓k_118_88, ↓s_118_89, ↓s_118_91, ↓s_118_94, ↓s_118_97, ↓s_118_98, ↓s_118_101a, ↓s_118_101b, ↓s_118_102_2, ↓s_118_102_28, ↓s_118_105, ↓s_118_106, ↓s_118_107, ↓s_118_108, ↓s_118_109_2, ↓s_118_109_28, ↓g_118_112, ↓k_118_112, ↓s_118_113, ↓s_118_115, ↓s_118_118, ↓s_118_121, ↓s_118_122, ↓s_118_125_2, ↓s_118_125_28, ↓s_118_128, ↓s_118_129, ↓s_118_130, ↓s_118_133, ↓s_118_134, ↓s_118_135, ↓s_118_138_2, ↓s_118_138_28, ↓s_118_141, ↓s_118_142, ↓s_118_143, ↓s_118_144, ↓s_118_146, ↓s_118_149, ↓g_118_150, ↓k_118_150, ↓s_118_151, ↓s_118_153, ↓s_118_156, ↓s_118_159, ↓s_118_160, ↓s_118_163_2, ↓s_118_163_28, ↓s_118_166, ↓s_118_167, ↓s_118_168, ↓s_118_169, ↓s_118_171, ↓s_118_174, ↓s_118_175, w32c_40, w32c_24, w32c_25, w32c_99, w32c_26, ↓s_119_0, ↓s_119_1, ↓s_119_4, ↓s_119_7, ↓s_119_8, ↓s_119_11, ↓s_119_12, ↓s_119_13, ↓s_119_14, ↓s_119_17, ↓s_119_20, ↓s_119_21, zio_2, zio_5, zar_39, zia_39, zln_39, zit_39, zar_40, zia_40, zln_40, zit_40, zar_41, zia_41, zln_41, zit_41, zar_42, zia_42, zln_42, zit_42, zar_43, zia_43, zln_43, zit_43, zar_13, zia_13, zln_13, zit_13, zar_14, zia_14, zln_14, zit_14, zar_15, zia_15, zln_15, zit_15, zar_16, zia_16, zln_16, zit_16, zar_17, zia_17, zln_17, zit_17, zio_54, zio_55, zio_28, zio_31]
  rw [cTk_kd h]
  refine ⟨fun hk => ?_, fun hk => ?_⟩
  · have hk' : yKd y = 25 := by omega
    have ep : pV2 nm y = ((yNm 0 99 (yTt nm (yNx y)).2).2, (yTt nm (yNx y)).1, (yNm 0 99 (yTt nm (yNx y)).2).1) := by unfold pV2; rw [if_pos hk']
    rw [ep] at fin
    refine g_next hE (by omega) h (fun m1 F1 T1 => ?_)
    refine zgk_n hE xmo_119 60 [] ?_
    simp only [ynok_30, ynok_31, w32c_0, w32c_1, w32c_2, w32c_3, w32c_4, w32c_5, w32c_6, w32c_7, w32c_8, w32c_9, w32c_10, w32c_11, w32c_12, w32c_13, w32c_14, w32c_m1, w32c_m2, w32c_118, Int.reduceAdd, Int.reduceSub, Int.reduceMul, yput_s, yput_n, znl_n, znl_0, znl_1, znl_4, ysum_n, ysum_0, ysum_1, ysum_4, true_and, and_true, Nat.reduceAdd, Nat.reduceLeDiff, true_implies, eq_self, true_or, or_true, or_false, false_or, not_true_eq_false, not_false_eq_true, false_implies, implies_true, yset_s, yset_o, yset_d, ne_eq, Nat.reduceEqDiff, Int.reduceToNat, Int.reduceEq, Int.reduceLE, Int.reduceLT, Classical.not_not, Nat.reduceLT, ↓zvk_s, ↓zvk_n, ↓s_119_0, ↓s_119_1, ↓s_119_4, ↓s_119_7, ↓s_119_8, ↓s_119_11, ↓s_119_12, ↓s_119_13, ↓s_119_14, ↓s_119_17, ↓s_119_20, ↓s_119_21, ↓s_118_0, ↓s_118_1, ↓s_118_2, ↓s_118_5_2, ↓s_118_5_28, ↓s_118_8, ↓s_118_11n, ↓s_118_11i, ↓s_118_11p, ↓s_118_12, ↓s_118_13, ↓s_118_14, ↓s_118_17, ↓s_118_18, ↓s_118_19, ↓s_118_22_2, ↓s_118_22_28, ↓s_118_25, ↓s_118_26, ↓s_118_27, ↓s_118_28, ↓s_118_30, ↓s_118_33, ↓s_118_34, ↓s_118_35, ↓s_118_38_2, ↓s_118_38_28, ↓s_118_41, ↓s_118_42, ↓s_118_43, ↓s_118_44, ↓s_118_47_2, ↓s_118_47_28, ↓s_118_50, ↓s_118_51, ↓s_118_52, ↓s_118_54, ↓s_118_57, ↓s_118_58, ↓s_118_59, ↓s_118_62_2, ↓s_118_62_28, ↓s_118_65, ↓s_118_66, ↓s_118_67, ↓s_118_68, ↓s_118_69, ↓s_118_72_2, ↓s_118_72_28, ↓s_118_75, ↓s_118_76, ↓s_118_77, ↓s_118_78, ↓s_118_79, ↓s_118_82_2, ↓s_118_82_28, ↓s_118_85, ↓s_118_86, ↓s_118_87, ↓g_118_88, ↓k_118_88, ↓s_118_89, ↓s_118_91, ↓s_118_94, ↓s_118_97, ↓s_118_98, ↓s_118_101a, ↓s_118_101b, ↓s_118_102_2, ↓s_118_102_28, ↓s_118_105, ↓s_118_106, ↓s_118_107, ↓s_118_108, ↓s_118_109_2, ↓s_118_109_28, ↓g_118_112, ↓k_118_112, ↓s_118_113, ↓s_118_115, ↓s_118_118, ↓s_118_121, ↓s_118_122, ↓s_118_125_2, ↓s_118_125_28, ↓s_118_128, ↓s_118_129, ↓s_118_130, ↓s_118_133, ↓s_118_134, ↓s_118_135, ↓s_118_138_2, ↓s_118_138_28, ↓s_118_141, ↓s_118_142, ↓s_118_143, ↓s_118_144, ↓s_118_146, ↓s_118_149, ↓g_118_150, ↓k_118_150, ↓s_118_151, ↓s_118_153, ↓s_118_156, ↓s_118_159, ↓s_118_160, ↓s_118_163_2, ↓s_118_163_28, ↓s_118_166, ↓s_118_167, ↓s_118_168, ↓s_118_169, ↓s_118_171, ↓s_118_174, ↓s_118_175, w32c_40, w32c_24, w32c_25, w32c_99, w32c_26, zio_2, zio_5, zar_39, zia_39, zln_39, zit_39, zar_40, zia_40, zln_40, zit_40, zar_41, zia_41, zln_41, zit_41, zar_42, zia_42, zln_42, zit_42, zar_43, zia_43, zln_43, zit_43, zar_13, zia_13, zln_13, zit_13, zar_14, zia_14, zln_14, zit_14, zar_15, zia_15, zln_15, zit_15, zar_16, zia_16, zln_16, zit_16, zar_17, zia_17, zln_17, zit_17, zio_54, zio_55, zio_28, zio_31]
    have S1 := VoS_tk hS F1
    refine g_told hE (by omega) T1 (cNm_fr hN (S1.1 29 1 (by unfold vF; omega)) (fun j => S1.1 30 j (by unfold vF; omega))) (fun r1 m2 F2 e2 T2 => ?_)
    refine zgk_s hE xmo_118 60 zc_118 ?_
    simp only [ynok_30, ynok_31, w32c_0, w32c_1, w32c_2, w32c_3, w32c_4, w32c_5, w32c_6, w32c_7, w32c_8, w32c_9, w32c_10, w32c_11, w32c_12, w32c_13, w32c_14, w32c_m1, w32c_m2, w32c_118, Int.reduceAdd, Int.reduceSub, Int.reduceMul, yput_s, yput_n, znl_n, znl_0, znl_1, znl_4, ysum_n, ysum_0, ysum_1, ysum_4, true_and, and_true, Nat.reduceAdd, Nat.reduceLeDiff, true_implies, eq_self, true_or, or_true, or_false, false_or, not_true_eq_false, not_false_eq_true, false_implies, implies_true, yset_s, yset_o, yset_d, ne_eq, Nat.reduceEqDiff, Int.reduceToNat, Int.reduceEq, Int.reduceLE, Int.reduceLT, Classical.not_not, Nat.reduceLT, ↓zvk_s, ↓zvk_n, ↓s_118_0, ↓s_118_1, ↓s_118_2, ↓s_118_5_2, ↓s_118_5_28, ↓s_118_8, ↓s_118_11n, ↓s_118_11i, ↓s_118_11p, ↓s_118_12, ↓s_118_13, ↓s_118_14, ↓s_118_17, ↓s_118_18, ↓s_118_19, ↓s_118_22_2, ↓s_118_22_28, ↓s_118_25, ↓s_118_26, ↓s_118_27, ↓s_118_28, ↓s_118_30, ↓s_118_33, ↓s_118_34, ↓s_118_35, ↓s_118_38_2, ↓s_118_38_28, ↓s_118_41, ↓s_118_42, ↓s_118_43, ↓s_118_44, ↓s_118_47_2, ↓s_118_47_28, ↓s_118_50, ↓s_118_51, ↓s_118_52, ↓s_118_54, ↓s_118_57, ↓s_118_58, ↓s_118_59, ↓s_118_62_2, ↓s_118_62_28, ↓s_118_65, ↓s_118_66, ↓s_118_67, ↓s_118_68, ↓s_118_69, ↓s_118_72_2, ↓s_118_72_28, ↓s_118_75, ↓s_118_76, ↓s_118_77, ↓s_118_78, ↓s_118_79, ↓s_118_82_2, ↓s_118_82_28, ↓s_118_85, ↓s_118_86, ↓s_118_87, ↓g_118_88, ↓k_118_88, ↓s_118_89, ↓s_118_91, ↓s_118_94, ↓s_118_97, ↓s_118_98, ↓s_118_101a, ↓s_118_101b, ↓s_118_102_2, ↓s_118_102_28, ↓s_118_105, ↓s_118_106, ↓s_118_107, ↓s_118_108, ↓s_118_109_2, ↓s_118_109_28, ↓g_118_112, ↓k_118_112, ↓s_118_113, ↓s_118_115, ↓s_118_118, ↓s_118_121, ↓s_118_122, ↓s_118_125_2, ↓s_118_125_28, ↓s_118_128, ↓s_118_129, ↓s_118_130, ↓s_118_133, ↓s_118_134, ↓s_118_135, ↓s_118_138_2, ↓s_118_138_28, ↓s_118_141, ↓s_118_142, ↓s_118_143, ↓s_118_144, ↓s_118_146, ↓s_118_149, ↓g_118_150, ↓k_118_150, ↓s_118_151, ↓s_118_153, ↓s_118_156, ↓s_118_159, ↓s_118_160, ↓s_118_163_2, ↓s_118_163_28, ↓s_118_166, ↓s_118_167, ↓s_118_168, ↓s_118_169, ↓s_118_171, ↓s_118_174, ↓s_118_175, w32c_40, w32c_24, w32c_25, w32c_99, w32c_26, zio_2, zio_5, zar_39, zia_39, zln_39, zit_39, zar_40, zia_40, zln_40, zit_40, zar_41, zia_41, zln_41, zit_41, zar_42, zia_42, zln_42, zit_42, zar_43, zia_43, zln_43, zit_43, zar_13, zia_13, zln_13, zit_13, zar_14, zia_14, zln_14, zit_14, zar_15, zia_15, zln_15, zit_15, zar_16, zia_16, zln_16, zit_16, zar_17, zia_17, zln_17, zit_17, zio_54, zio_28, zio_31]
    refine ⟨⟨by omega, by omega⟩, g_number hE (by omega) (cTk_of T2 (fun j => yset_o (by decide)) (fun j => yset_o (by decide)) (fun j => yset_o (by decide))) (by decide) (by decide) (fun r2 m3 F3 e3 T3 => ?_)⟩
    rw [w32c_0, w32c_99] at e3 T3
    refine zgk_s hE xmo_118 60 zc_118 ?_
    simp only [ynok_30, ynok_31, w32c_0, w32c_1, w32c_2, w32c_3, w32c_4, w32c_5, w32c_6, w32c_7, w32c_8, w32c_9, w32c_10, w32c_11, w32c_12, w32c_13, w32c_14, w32c_m1, w32c_m2, w32c_118, Int.reduceAdd, Int.reduceSub, Int.reduceMul, yput_s, yput_n, znl_n, znl_0, znl_1, znl_4, ysum_n, ysum_0, ysum_1, ysum_4, true_and, and_true, Nat.reduceAdd, Nat.reduceLeDiff, true_implies, eq_self, true_or, or_true, or_false, false_or, not_true_eq_false, not_false_eq_true, false_implies, implies_true, yset_s, yset_o, yset_d, ne_eq, Nat.reduceEqDiff, Int.reduceToNat, Int.reduceEq, Int.reduceLE, Int.reduceLT, Classical.not_not, Nat.reduceLT, ↓zvk_s, ↓zvk_n, ↓s_118_0, ↓s_118_1, ↓s_118_2, ↓s_118_5_2, ↓s_118_5_28, ↓s_118_8, ↓s_118_11n, ↓s_118_11i, ↓s_118_11p, ↓s_118_12, ↓s_118_13, ↓s_118_14, ↓s_118_17, ↓s_118_18, ↓s_118_19, ↓s_118_22_2, ↓s_118_22_28, ↓s_118_25, ↓s_118_26, ↓s_118_27, ↓s_118_28, ↓s_118_30, ↓s_118_33, ↓s_118_34, ↓s_118_35, ↓s_118_38_2, ↓s_118_38_28, ↓s_118_41, ↓s_118_42, ↓s_118_43, ↓s_118_44, ↓s_118_47_2, ↓s_118_47_28, ↓s_118_50, ↓s_118_51, ↓s_118_52, ↓s_118_54, ↓s_118_57, ↓s_118_58, ↓s_118_59, ↓s_118_62_2, ↓s_118_62_28, ↓s_118_65, ↓s_118_66, ↓s_118_67, ↓s_118_68, ↓s_118_69, ↓s_118_72_2, ↓s_118_72_28, ↓s_118_75, ↓s_118_76, ↓s_118_77, ↓s_118_78, ↓s_118_79, ↓s_118_82_2, ↓s_118_82_28, ↓s_118_85, ↓s_118_86, ↓s_118_87, ↓g_118_88, ↓k_118_88, ↓s_118_89, ↓s_118_91, ↓s_118_94, ↓s_118_97, ↓s_118_98, ↓s_118_101a, ↓s_118_101b, ↓s_118_102_2, ↓s_118_102_28, ↓s_118_105, ↓s_118_106, ↓s_118_107, ↓s_118_108, ↓s_118_109_2, ↓s_118_109_28, ↓g_118_112, ↓k_118_112, ↓s_118_113, ↓s_118_115, ↓s_118_118, ↓s_118_121, ↓s_118_122, ↓s_118_125_2, ↓s_118_125_28, ↓s_118_128, ↓s_118_129, ↓s_118_130, ↓s_118_133, ↓s_118_134, ↓s_118_135, ↓s_118_138_2, ↓s_118_138_28, ↓s_118_141, ↓s_118_142, ↓s_118_143, ↓s_118_144, ↓s_118_146, ↓s_118_149, ↓g_118_150, ↓k_118_150, ↓s_118_151, ↓s_118_153, ↓s_118_156, ↓s_118_159, ↓s_118_160, ↓s_118_163_2, ↓s_118_163_28, ↓s_118_166, ↓s_118_167, ↓s_118_168, ↓s_118_169, ↓s_118_171, ↓s_118_174, ↓s_118_175, w32c_40, w32c_24, w32c_25, w32c_99, w32c_26, zio_2, zio_5, zar_39, zia_39, zln_39, zit_39, zar_40, zia_40, zln_40, zit_40, zar_41, zia_41, zln_41, zit_41, zar_42, zia_42, zln_42, zit_42, zar_43, zia_43, zln_43, zit_43, zar_13, zia_13, zln_13, zit_13, zar_14, zia_14, zln_14, zit_14, zar_15, zia_15, zln_15, zit_15, zar_16, zia_16, zln_16, zit_16, zar_17, zia_17, zln_17, zit_17, zio_54, zio_28, zio_31]
    refine ⟨⟨by omega, by omega⟩, ?_⟩
    have S2 : VoS b (yset m2 41 (w32 r).toNat r1) len lo hi bo (yTt nm (yNx y)).1 0 1 := by
      obtain ⟨h0, h1, h2, h3, _, h5, h6⟩ := VoS_tk S1 F2
      rw [hrt]
      exact ⟨yset_fr h0 (Or.inl ⟨by decide, by decide, rfl⟩), by rw [yset_o (by decide)]; exact h1, by rw [yset_o (by decide)]; exact h2, by rw [yset_o (by decide)]; exact h3, by rw [yset_s]; exact e2, by rw [yset_o (by decide)]; exact h5, by rw [yset_o (by decide)]; exact h6⟩
    have S3 : VoS b (yset m3 42 (w32 r).toNat r2) len lo hi bo (yTt nm (yNx y)).1 (yNm 0 99 (yTt nm (yNx y)).2).1 1 := by
      obtain ⟨h0, h1, h2, h3, h4, _, h6⟩ := VoS_tk S2 F3
      rw [hrt]
      exact ⟨yset_fr h0 (Or.inl ⟨by decide, by decide, rfl⟩), by rw [yset_o (by decide)]; exact h1, by rw [yset_o (by decide)]; exact h2, by rw [yset_o (by decide)]; exact h3, by rw [yset_o (by decide)]; exact h4, by rw [yset_s]; exact e3, by rw [yset_o (by decide)]; exact h6⟩
    exact rv150 hE (by omega) hl hr (cTk_of T3 (fun j => yset_o (by decide)) (fun j => yset_o (by decide)) (fun j => yset_o (by decide))) S3 fin
  · have hk' : ¬ yKd y = 25 := by omega
    have ep : pV2 nm y = (y, -1, 0) := by unfold pV2; rw [if_neg hk']
    rw [ep] at fin
    exact rv150 hE (by omega) hl hr h hS fin
theorem rv88 (hE : yEok E) (hd : 6 ≤ d) (hl : len < 6) (hr : w32 r = (len : Int)) {nm : List Int} (hN : cNm b 29 3 nm) (h : cTk ch n m y) (hb : 0 ≤ bo ∧ bo < 2 ^ len) (hS : VoS b m len lo hi bo (-1) 0 1) (fin : ∀ m', cTk ch n m' (pV3 (pV2 nm (pV1 y).1).1).1 → VoS b m' len lo hi (bo + (pV1 y).2 * 2 ^ len) (pV2 nm (pV1 y).1).2.1 (pV2 nm (pV1 y).1).2.2 (pV3 (pV2 nm (pV1 y).1).1).2 → Q none m') : zG E (d + 1) xm_118 88 [some (1, 54), some (0, r)] [] m Q := by
  have hrt : (w32 r).toNat = len := by rw [hr]; exact Int.toNat_natCast _
  refine zgo_ok (n := 60) hE xmo_118 (cs := zc_118) ?_
  simp only [ynok_30, ynok_31, w32c_0, w32c_1, w32c_2, w32c_3, w32c_4, w32c_5, w32c_6, w32c_7, w32c_8, w32c_9, w32c_10, w32c_11, w32c_12, w32c_13, w32c_14, w32c_m1, w32c_m2, w32c_118, Int.reduceAdd, Int.reduceSub, Int.reduceMul, yput_s, yput_n, znl_n, znl_0, znl_1, znl_4, ysum_n, ysum_0, ysum_1, ysum_4, true_and, and_true, Nat.reduceAdd, Nat.reduceLeDiff, true_implies, eq_self, true_or, or_true, or_false, false_or, not_true_eq_false, not_false_eq_true, false_implies, implies_true, yset_s, yset_o, yset_d, ne_eq, Nat.reduceEqDiff, Int.reduceToNat, Int.reduceEq, Int.reduceLE, Int.reduceLT, Classical.not_not, Nat.reduceLT, ↓zvk_s, ↓zvk_n, ↓s_118_0, ↓s_118_1, ↓s_118_2, ↓s_118_5_2, ↓s_118_5_28, ↓s_118_8, ↓s_118_11n, ↓s_118_11i, ↓s_118_11p, ↓s_118_12, ↓s_118_13, ↓s_118_14, ↓s_118_17, ↓s_118_18, ↓s_118_19, ↓s_118_22_2, ↓s_118_22_28, ↓s_118_25, ↓s_118_26, ↓s_118_27, ↓s_118_28, ↓s_118_30, ↓s_118_33, ↓s_118_34, ↓s_118_35, ↓s_118_38_2, ↓s_118_38_28, ↓s_118_41, ↓s_118_42, ↓s_118_43, ↓s_118_44, ↓s_118_47_2, ↓s_118_47_28, ↓s_118_50, ↓s_118_51, ↓s_118_52, ↓s_118_54, ↓s_118_57, ↓s_118_58, ↓s_118_59, ↓s_118_62_2, ↓s_118_62_28, ↓s_118_65, ↓s_118_66, ↓s_118_67, ↓s_118_68, ↓s_118_69, ↓s_118_72_2, ↓s_118_72_28, ↓s_118_75, ↓s_118_76, ↓s_118_77, ↓s_118_78, ↓s_118_79, ↓s_118_82_2, ↓s_118_82_28, ↓s_118_85, ↓s_118_86, ↓s_118_87, ↓g_118_88, ↓k_118_88, ↓s_118_89, ↓s_118_91, ↓s_118_94, ↓s_118_97, ↓s_118_98, ↓s_118_101a, ↓s_118_101b, ↓s_118_102_2, ↓s_118_102_28, ↓s_118_105, ↓s_118_106, ↓s_118_107, ↓s_118_108, ↓s_118_109_2, ↓s_118_109_28, ↓g_118_112, ↓k_118_112, ↓s_118_113, ↓s_118_115, ↓s_118_118, ↓s_118_121, ↓s_118_122, ↓s_118_125_2, ↓s_118_125_28, ↓s_118_128, ↓s_118_129, ↓s_118_130, ↓s_118_133, ↓s_118_134, ↓s_118_135, ↓s_118_138_2, ↓s_118_138_28, ↓s_118_141, ↓s_118_142, ↓s_118_143, ↓s_118_144, ↓s_118_146, ↓s_118_149, ↓g_118_150, ↓k_118_150, ↓s_118_151, ↓s_118_153, ↓s_118_156, ↓s_118_159, ↓s_118_160, ↓s_118_163_2, ↓s_118_163_28, ↓s_118_166, ↓s_118_167, ↓s_118_168, ↓s_118_169, ↓s_118_171, ↓s_118_174, ↓s_118_175, w32c_40, w32c_24, w32c_25, w32c_99, w32c_26, ↓s_119_0, ↓s_119_1, ↓s_119_4, ↓s_119_7, ↓s_119_8, ↓s_119_11, ↓s_119_12, ↓s_119_13, ↓s_119_14, ↓s_119_17, ↓s_119_20, ↓s_119_21, zio_2, zio_5, zar_39, zia_39, zln_39, zit_39, zar_40, zia_40, zln_40, zit_40, zar_41, zia_41, zln_41, zit_41, zar_42, zia_42, zln_42, zit_42, zar_43, zia_43, zln_43, zit_43, zar_13, zia_13, zln_13, zit_13, zar_14, zia_14, zln_14, zit_14, zar_15, zia_15, zln_15, zit_15, zar_16, zia_16, zln_16, zit_16, zar_17, zia_17, zln_17, zit_17, zio_54, zio_55, zio_28, zio_31]
  rw [cTk_kd h]
  refine ⟨fun hk => ?_, fun hk => ?_⟩
  · have hk' : yKd y = 24 := by omega
    have ep : pV1 y = (yNx y, 1) := by unfold pV1; rw [if_pos hk']
    rw [ep] at fin
    refine g_next hE (by omega) h (fun m1 F1 T1 => ?_)
    refine zgk_n hE xmo_119 60 [] ?_
    simp only [ynok_30, ynok_31, w32c_0, w32c_1, w32c_2, w32c_3, w32c_4, w32c_5, w32c_6, w32c_7, w32c_8, w32c_9, w32c_10, w32c_11, w32c_12, w32c_13, w32c_14, w32c_m1, w32c_m2, w32c_118, Int.reduceAdd, Int.reduceSub, Int.reduceMul, yput_s, yput_n, znl_n, znl_0, znl_1, znl_4, ysum_n, ysum_0, ysum_1, ysum_4, true_and, and_true, Nat.reduceAdd, Nat.reduceLeDiff, true_implies, eq_self, true_or, or_true, or_false, false_or, not_true_eq_false, not_false_eq_true, false_implies, implies_true, yset_s, yset_o, yset_d, ne_eq, Nat.reduceEqDiff, Int.reduceToNat, Int.reduceEq, Int.reduceLE, Int.reduceLT, Classical.not_not, Nat.reduceLT, ↓zvk_s, ↓zvk_n, ↓s_119_0, ↓s_119_1, ↓s_119_4, ↓s_119_7, ↓s_119_8, ↓s_119_11, ↓s_119_12, ↓s_119_13, ↓s_119_14, ↓s_119_17, ↓s_119_20, ↓s_119_21, ↓s_118_0, ↓s_118_1, ↓s_118_2, ↓s_118_5_2, ↓s_118_5_28, ↓s_118_8, ↓s_118_11n, ↓s_118_11i, ↓s_118_11p, ↓s_118_12, ↓s_118_13, ↓s_118_14, ↓s_118_17, ↓s_118_18, ↓s_118_19, ↓s_118_22_2, ↓s_118_22_28, ↓s_118_25, ↓s_118_26, ↓s_118_27, ↓s_118_28, ↓s_118_30, ↓s_118_33, ↓s_118_34, ↓s_118_35, ↓s_118_38_2, ↓s_118_38_28, ↓s_118_41, ↓s_118_42, ↓s_118_43, ↓s_118_44, ↓s_118_47_2, ↓s_118_47_28, ↓s_118_50, ↓s_118_51, ↓s_118_52, ↓s_118_54, ↓s_118_57, ↓s_118_58, ↓s_118_59, ↓s_118_62_2, ↓s_118_62_28, ↓s_118_65, ↓s_118_66, ↓s_118_67, ↓s_118_68, ↓s_118_69, ↓s_118_72_2, ↓s_118_72_28, ↓s_118_75, ↓s_118_76, ↓s_118_77, ↓s_118_78, ↓s_118_79, ↓s_118_82_2, ↓s_118_82_28, ↓s_118_85, ↓s_118_86, ↓s_118_87, ↓g_118_88, ↓k_118_88, ↓s_118_89, ↓s_118_91, ↓s_118_94, ↓s_118_97, ↓s_118_98, ↓s_118_101a, ↓s_118_101b, ↓s_118_102_2, ↓s_118_102_28, ↓s_118_105, ↓s_118_106, ↓s_118_107, ↓s_118_108, ↓s_118_109_2, ↓s_118_109_28, ↓g_118_112, ↓k_118_112, ↓s_118_113, ↓s_118_115, ↓s_118_118, ↓s_118_121, ↓s_118_122, ↓s_118_125_2, ↓s_118_125_28, ↓s_118_128, ↓s_118_129, ↓s_118_130, ↓s_118_133, ↓s_118_134, ↓s_118_135, ↓s_118_138_2, ↓s_118_138_28, ↓s_118_141, ↓s_118_142, ↓s_118_143, ↓s_118_144, ↓s_118_146, ↓s_118_149, ↓g_118_150, ↓k_118_150, ↓s_118_151, ↓s_118_153, ↓s_118_156, ↓s_118_159, ↓s_118_160, ↓s_118_163_2, ↓s_118_163_28, ↓s_118_166, ↓s_118_167, ↓s_118_168, ↓s_118_169, ↓s_118_171, ↓s_118_174, ↓s_118_175, w32c_40, w32c_24, w32c_25, w32c_99, w32c_26, zio_2, zio_5, zar_39, zia_39, zln_39, zit_39, zar_40, zia_40, zln_40, zit_40, zar_41, zia_41, zln_41, zit_41, zar_42, zia_42, zln_42, zit_42, zar_43, zia_43, zln_43, zit_43, zar_13, zia_13, zln_13, zit_13, zar_14, zia_14, zln_14, zit_14, zar_15, zia_15, zln_15, zit_15, zar_16, zia_16, zln_16, zit_16, zar_17, zia_17, zln_17, zit_17, zio_54, zio_55, zio_28, zio_31]
    obtain ⟨h0, h1, h2, h3, h4, h5, h6⟩ := VoS_tk hS F1
    refine rv112 hE hd hl hr hN (cTk_of T1 (fun j => yset_o (by decide)) (fun j => yset_o (by decide)) (fun j => yset_o (by decide))) ⟨yset_fr h0 (Or.inr (Or.inl ⟨rfl, rfl⟩)), by rw [yset_o (by decide)]; exact h1, by rw [yset_o (by decide)]; exact h2, by rw [yset_s]; exact yb_bit hl hr h3 hb, by rw [yset_o (by decide)]; exact h4, by rw [yset_o (by decide)]; exact h5, by rw [yset_o (by decide)]; exact h6⟩ fin
  · have hk' : ¬ yKd y = 24 := by omega
    have ep : pV1 y = (y, 0) := by unfold pV1; rw [if_neg hk']
    rw [ep] at fin
    exact rv112 hE hd hl hr hN h hS (fun m' g1 g2 => fin m' g1 (by rw [Int.zero_mul, Int.add_zero]; exact g2))
end CK
end
section
/-! VOICES -/
abbrev tVo : Type := Int × Int × Int × Int × Int × Int × Int
abbrev dVo : Type := List tVo
def bsum : List Int → Int
  | [] => 0
  | b :: r => b + 2 * bsum r
theorem bsum_app (b : Int) : ∀ l : List Int, bsum (l ++ [b]) = bsum l + b * 2 ^ l.length
  | [] => by show b + 2 * 0 = 0 + b * 2 ^ 0; omega
  | c :: r => by
    show c + 2 * bsum (r ++ [b]) = c + 2 * bsum r + b * 2 ^ (r.length + 1)
    rw [bsum_app b r, Int.pow_succ, ← Int.mul_assoc]
    generalize b * 2 ^ r.length = z
    omega
theorem bsum_bd : ∀ {l : List Int}, (∀ b ∈ l, b = 0 ∨ b = 1) → 0 ≤ bsum l ∧ bsum l < 2 ^ l.length
  | [], _ => by show (0 : Int) ≤ 0 ∧ (0 : Int) < 2 ^ 0; omega
  | c :: r, h => by
    obtain ⟨i1, i2⟩ := bsum_bd (l := r) (fun b hb => h b (List.mem_cons_of_mem _ hb))
    have hc := h c List.mem_cons_self
    show 0 ≤ c + 2 * bsum r ∧ c + 2 * bsum r < 2 ^ (r.length + 1)
    rw [Int.pow_succ]
    revert i2
    generalize (2 : Int) ^ r.length = z
    intro i2
    omega
def cVo (mem : yMem) (vo : dVo) : Prop := cNm mem 31 6 (vo.map (fun t => t.1)) ∧ w32 (mem 28 16) = bsum (vo.map (fun t => t.2.2.2.1)) ∧ (∀ t ∈ vo, t.2.2.2.1 = 0 ∨ t.2.2.2.1 = 1) ∧ ∀ j t, vo[j]? = some t → w32 (mem 39 j) = t.2.1 ∧ w32 (mem 40 j) = t.2.2.1 ∧ w32 (mem 41 j) = t.2.2.2.2.1 ∧ w32 (mem 42 j) = t.2.2.2.2.2.1 ∧ w32 (mem 43 j) = t.2.2.2.2.2.2
theorem yNm_bd (lo hi : Int) (x : sY) (h : lo ≤ hi) : lo ≤ (yNm lo hi x).1 ∧ (yNm lo hi x).1 ≤ hi := by
  unfold yNm
  by_cases h1 : yKd x = 2
  · rw [if_pos h1]
    by_cases h2 : yVl x < lo ∨ hi < yVl x
    · rw [if_pos h2]; exact ⟨Int.le_refl _, h⟩
    · rw [if_neg h2]; exact ⟨by show lo ≤ yVl x; omega, by show yVl x ≤ hi; omega⟩
  · rw [if_neg h1]; exact ⟨Int.le_refl _, h⟩
/-- a voice from its numbers on -/
def pVn (tn : List Int) (nm : Int) (x : sY) : sY × tVo := ((pV3 (pV2 tn (pV1 (yNm (yNm 1 40 x).1 40 (yNm 1 40 x).2).2).1).1).1, (nm, (yNm 1 40 x).1, (yNm (yNm 1 40 x).1 40 (yNm 1 40 x).2).1, (pV1 (yNm (yNm 1 40 x).1 40 (yNm 1 40 x).2).2).2, (pV2 tn (pV1 (yNm (yNm 1 40 x).1 40 (yNm 1 40 x).2).2).1).2.1, (pV2 tn (pV1 (yNm (yNm 1 40 x).1 40 (yNm 1 40 x).2).2).1).2.2, (pV3 (pV2 tn (pV1 (yNm (yNm 1 40 x).1 40 (yNm 1 40 x).2).2).1).1).2))
def pVo (tn : List Int) (vo : dVo) (x : sY) : sY × tVo := if (yBg (vo.map (fun t => t.1)) 6 x).1 = -1 then ((yBg (vo.map (fun t => t.1)) 6 x).2, (0, 0, 0, 0, 0, 0, 0)) else pVn tn (yVl (yNx x)) (yBg (vo.map (fun t => t.1)) 6 x).2
theorem pV1_01 (x : sY) : (pV1 x).2 = 0 ∨ (pV1 x).2 = 1 := by
  unfold pV1
  split
  · exact Or.inr rfl
  · exact Or.inl rfl
section CL
variable {E : yE} {mem : yMem} {Q : Option yV → yMem → Prop} {ch : Nat → Int} {n : Nat} {x : sY}
abbrev voF : List (Nat × Nat) := [(55, 0), (31, 2), (32, 0), (28, 17), (39, 0), (40, 0), (41, 0), (42, 0), (43, 0)]
theorem vF_voF {len i j : Nat} (h : amod voF i j = false) : ¬ vF len i j := fun hv => by
  have : amod voF i j = true := by
    rcases hv with ⟨h1, h2, _⟩ | ⟨rfl, rfl⟩ | rfl
    · have : i = 39 ∨ i = 40 ∨ i = 41 ∨ i = 42 ∨ i = 43 := by omega
      rcases this with rfl | rfl | rfl | rfl | rfl <;> rfl
    · rfl
    · rfl
  rw [this] at h
  cases h
theorem g_readVoice (hE : yEok E) {D : Nat} (hD : 8 ≤ D) {tn : List Int} {vo : dVo} (h : cTk ch n mem x) (hN : cNm mem 29 3 tn) (hV : cVo mem vo) (hQ : ∀ m, aFrm voF mem m → cTk ch n m (pVo tn vo x).1 → (∀ l, (pVo tn vo x).1 = .inr l → cVo m (vo ++ [(pVo tn vo x).2])) → Q none m) : yCon E D xm_118 [(1, 54)] mem Q := by
  obtain ⟨d, rfl⟩ := Nat.exists_eq_add_of_le' hD
  refine e_118 ?_
  refine zvc_ok hE 90 zc_118 _ _ _ _ _ _ _ xmo_118 ?_
  simp only [ynok_30, ynok_31, w32c_0, w32c_1, w32c_2, w32c_3, w32c_4, w32c_5, w32c_6, w32c_7, w32c_8, w32c_9, w32c_10, w32c_11, w32c_12, w32c_13, w32c_14, w32c_m1, w32c_m2, w32c_118, Int.reduceAdd, Int.reduceSub, Int.reduceMul, yput_s, yput_n, znl_n, znl_0, znl_1, znl_4, ysum_n, ysum_0, ysum_1, ysum_4, true_and, and_true, Nat.reduceAdd, Nat.reduceLeDiff, true_implies, eq_self, true_or, or_true, or_false, false_or, not_true_eq_false, not_false_eq_true, false_implies, implies_true, yset_s, yset_o, yset_d, ne_eq, Nat.reduceEqDiff, Int.reduceToNat, Int.reduceEq, Int.reduceLE, Int.reduceLT, Classical.not_not, Nat.reduceLT, ↓zvk_s, ↓zvk_n, ↓s_118_0, ↓s_118_1, ↓s_118_2, ↓s_118_5_2, ↓s_118_5_28, ↓s_118_8, ↓s_118_11n, ↓s_118_11i, ↓s_118_11p, ↓s_118_12, ↓s_118_13, ↓s_118_14, ↓s_118_17, ↓s_118_18, ↓s_118_19, ↓s_118_22_2, ↓s_118_22_28, ↓s_118_25, ↓s_118_26, ↓s_118_27, ↓s_118_28, ↓s_118_30, ↓s_118_33, ↓s_118_34, ↓s_118_35, ↓s_118_38_2, ↓s_118_38_28, ↓s_118_41, ↓s_118_42, ↓s_118_43, ↓s_118_44, ↓s_118_47_2, ↓s_118_47_28, ↓s_118_50, ↓s_118_51, ↓s_118_52, ↓s_118_54, ↓s_118_57, ↓s_118_58, ↓s_118_59, ↓s_118_62_2, ↓s_118_62_28, ↓s_118_65, ↓s_118_66, ↓s_118_67, ↓s_118_68, ↓s_118_69, ↓s_118_72_2, ↓s_118_72_28, ↓s_118_75, ↓s_118_76, ↓s_118_77, ↓s_118_78, ↓s_118_79, ↓s_118_82_2, ↓s_118_82_28, ↓s_118_85, ↓s_118_86, ↓s_118_87, ↓g_118_88, ↓k_118_88, ↓s_118_89, ↓s_118_91, ↓s_118_94, ↓s_118_97, ↓s_118_98, ↓s_118_101a, ↓s_118_101b, ↓s_118_102_2, ↓s_118_102_28, ↓s_118_105, ↓s_118_106, ↓s_118_107, ↓s_118_108, ↓s_118_109_2, ↓s_118_109_28, ↓g_118_112, ↓k_118_112, ↓s_118_113, ↓s_118_115, ↓s_118_118, ↓s_118_121, ↓s_118_122, ↓s_118_125_2, ↓s_118_125_28, ↓s_118_128, ↓s_118_129, ↓s_118_130, ↓s_118_133, ↓s_118_134, ↓s_118_135, ↓s_118_138_2, ↓s_118_138_28, ↓s_118_141, ↓s_118_142, ↓s_118_143, ↓s_118_144, ↓s_118_146, ↓s_118_149, ↓g_118_150, ↓k_118_150, ↓s_118_151, ↓s_118_153, ↓s_118_156, ↓s_118_159, ↓s_118_160, ↓s_118_163_2, ↓s_118_163_28, ↓s_118_166, ↓s_118_167, ↓s_118_168, ↓s_118_169, ↓s_118_171, ↓s_118_174, ↓s_118_175, w32c_40, w32c_24, w32c_25, w32c_99, w32c_26, zio_2, zio_5, zar_39, zia_39, zln_39, zit_39, zar_40, zia_40, zln_40, zit_40, zar_41, zia_41, zln_41, zit_41, zar_42, zia_42, zln_42, zit_42, zar_43, zia_43, zln_43, zit_43, zar_13, zia_13, zln_13, zit_13, zar_14, zia_14, zln_14, zit_14, zar_15, zia_15, zln_15, zit_15, zar_16, zia_16, zln_16, zit_16, zar_17, zia_17, zln_17, zit_17, zio_54, zio_28, zio_31]
  refine g_begin_31 hE (by omega) h hV.1 (fun r m1 F1 h1 T1 k1 kk => ?_)
  have G1 : aFrm voF mem m1 := aFrm_w F1 (by decide)
  have hb := yBg_1 (nm := vo.map (fun t => t.1)) (mx := 6) (x := x)
  have hlen : (vo.map (fun t => t.1)).length = vo.length := List.length_map _
  rw [hlen] at hb
  refine zgk_s hE xmo_118 60 zc_118 ?_
  simp only [ynok_30, ynok_31, w32c_0, w32c_1, w32c_2, w32c_3, w32c_4, w32c_5, w32c_6, w32c_7, w32c_8, w32c_9, w32c_10, w32c_11, w32c_12, w32c_13, w32c_14, w32c_m1, w32c_m2, w32c_118, Int.reduceAdd, Int.reduceSub, Int.reduceMul, yput_s, yput_n, znl_n, znl_0, znl_1, znl_4, ysum_n, ysum_0, ysum_1, ysum_4, true_and, and_true, Nat.reduceAdd, Nat.reduceLeDiff, true_implies, eq_self, true_or, or_true, or_false, false_or, not_true_eq_false, not_false_eq_true, false_implies, implies_true, yset_s, yset_o, yset_d, ne_eq, Nat.reduceEqDiff, Int.reduceToNat, Int.reduceEq, Int.reduceLE, Int.reduceLT, Classical.not_not, Nat.reduceLT, ↓zvk_s, ↓zvk_n, ↓s_118_0, ↓s_118_1, ↓s_118_2, ↓s_118_5_2, ↓s_118_5_28, ↓s_118_8, ↓s_118_11n, ↓s_118_11i, ↓s_118_11p, ↓s_118_12, ↓s_118_13, ↓s_118_14, ↓s_118_17, ↓s_118_18, ↓s_118_19, ↓s_118_22_2, ↓s_118_22_28, ↓s_118_25, ↓s_118_26, ↓s_118_27, ↓s_118_28, ↓s_118_30, ↓s_118_33, ↓s_118_34, ↓s_118_35, ↓s_118_38_2, ↓s_118_38_28, ↓s_118_41, ↓s_118_42, ↓s_118_43, ↓s_118_44, ↓s_118_47_2, ↓s_118_47_28, ↓s_118_50, ↓s_118_51, ↓s_118_52, ↓s_118_54, ↓s_118_57, ↓s_118_58, ↓s_118_59, ↓s_118_62_2, ↓s_118_62_28, ↓s_118_65, ↓s_118_66, ↓s_118_67, ↓s_118_68, ↓s_118_69, ↓s_118_72_2, ↓s_118_72_28, ↓s_118_75, ↓s_118_76, ↓s_118_77, ↓s_118_78, ↓s_118_79, ↓s_118_82_2, ↓s_118_82_28, ↓s_118_85, ↓s_118_86, ↓s_118_87, ↓g_118_88, ↓k_118_88, ↓s_118_89, ↓s_118_91, ↓s_118_94, ↓s_118_97, ↓s_118_98, ↓s_118_101a, ↓s_118_101b, ↓s_118_102_2, ↓s_118_102_28, ↓s_118_105, ↓s_118_106, ↓s_118_107, ↓s_118_108, ↓s_118_109_2, ↓s_118_109_28, ↓g_118_112, ↓k_118_112, ↓s_118_113, ↓s_118_115, ↓s_118_118, ↓s_118_121, ↓s_118_122, ↓s_118_125_2, ↓s_118_125_28, ↓s_118_128, ↓s_118_129, ↓s_118_130, ↓s_118_133, ↓s_118_134, ↓s_118_135, ↓s_118_138_2, ↓s_118_138_28, ↓s_118_141, ↓s_118_142, ↓s_118_143, ↓s_118_144, ↓s_118_146, ↓s_118_149, ↓g_118_150, ↓k_118_150, ↓s_118_151, ↓s_118_153, ↓s_118_156, ↓s_118_159, ↓s_118_160, ↓s_118_163_2, ↓s_118_163_28, ↓s_118_166, ↓s_118_167, ↓s_118_168, ↓s_118_169, ↓s_118_171, ↓s_118_174, ↓s_118_175, w32c_40, w32c_24, w32c_25, w32c_99, w32c_26, zio_2, zio_5, zar_39, zia_39, zln_39, zit_39, zar_40, zia_40, zln_40, zit_40, zar_41, zia_41, zln_41, zit_41, zar_42, zia_42, zln_42, zit_42, zar_43, zia_43, zln_43, zit_43, zar_13, zia_13, zln_13, zit_13, zar_14, zia_14, zln_14, zit_14, zar_15, zia_15, zln_15, zit_15, zar_16, zia_16, zln_16, zit_16, zar_17, zia_17, zln_17, zit_17, zio_54, zio_28, zio_31]
  refine ⟨fun hr => ?_, fun hr => ?_⟩
  · obtain ⟨hb1, hb2⟩ : (yBg (vo.map (fun t => t.1)) 6 x).1 = (vo.length : Int) ∧ vo.length < 6 := by
      rcases hb with ⟨h0, _⟩ | hb
      · exact absurd (h1.trans h0) hr
      · exact hb
    have hrl : w32 r = (vo.length : Int) := h1.trans hb1
    have hrt : (w32 r).toNat = vo.length := by rw [hrl]; exact Int.toNat_natCast _
    have e0 : ¬ (yBg (vo.map (fun t => t.1)) 6 x).1 = -1 := by omega
    have ep : pVo tn vo x = pVn tn (yVl (yNx x)) (yBg (vo.map (fun t => t.1)) 6 x).2 := by unfold pVo; rw [if_neg e0]
    rw [ep] at hQ
    revert T1 hQ
    generalize (yBg (vo.map (fun t => t.1)) 6 x).2 = y
    intro hQ T1
    refine g_number hE (by omega) T1 (by decide) (by decide) (fun r1 m2 F2 e2 T2 => ?_)
    rw [w32c_1, show w32 40 = 40 by decide] at e2 T2
    have bd := yNm_bd 1 40 y (by decide)
    refine zgk_s hE xmo_118 60 zc_118 ?_
    simp only [ynok_30, ynok_31, w32c_0, w32c_1, w32c_2, w32c_3, w32c_4, w32c_5, w32c_6, w32c_7, w32c_8, w32c_9, w32c_10, w32c_11, w32c_12, w32c_13, w32c_14, w32c_m1, w32c_m2, w32c_118, Int.reduceAdd, Int.reduceSub, Int.reduceMul, yput_s, yput_n, znl_n, znl_0, znl_1, znl_4, ysum_n, ysum_0, ysum_1, ysum_4, true_and, and_true, Nat.reduceAdd, Nat.reduceLeDiff, true_implies, eq_self, true_or, or_true, or_false, false_or, not_true_eq_false, not_false_eq_true, false_implies, implies_true, yset_s, yset_o, yset_d, ne_eq, Nat.reduceEqDiff, Int.reduceToNat, Int.reduceEq, Int.reduceLE, Int.reduceLT, Classical.not_not, Nat.reduceLT, ↓zvk_s, ↓zvk_n, ↓s_118_0, ↓s_118_1, ↓s_118_2, ↓s_118_5_2, ↓s_118_5_28, ↓s_118_8, ↓s_118_11n, ↓s_118_11i, ↓s_118_11p, ↓s_118_12, ↓s_118_13, ↓s_118_14, ↓s_118_17, ↓s_118_18, ↓s_118_19, ↓s_118_22_2, ↓s_118_22_28, ↓s_118_25, ↓s_118_26, ↓s_118_27, ↓s_118_28, ↓s_118_30, ↓s_118_33, ↓s_118_34, ↓s_118_35, ↓s_118_38_2, ↓s_118_38_28, ↓s_118_41, ↓s_118_42, ↓s_118_43, ↓s_118_44, ↓s_118_47_2, ↓s_118_47_28, ↓s_118_50, ↓s_118_51, ↓s_118_52, ↓s_118_54, ↓s_118_57, ↓s_118_58, ↓s_118_59, ↓s_118_62_2, ↓s_118_62_28, ↓s_118_65, ↓s_118_66, ↓s_118_67, ↓s_118_68, ↓s_118_69, ↓s_118_72_2, ↓s_118_72_28, ↓s_118_75, ↓s_118_76, ↓s_118_77, ↓s_118_78, ↓s_118_79, ↓s_118_82_2, ↓s_118_82_28, ↓s_118_85, ↓s_118_86, ↓s_118_87, ↓g_118_88, ↓k_118_88, ↓s_118_89, ↓s_118_91, ↓s_118_94, ↓s_118_97, ↓s_118_98, ↓s_118_101a, ↓s_118_101b, ↓s_118_102_2, ↓s_118_102_28, ↓s_118_105, ↓s_118_106, ↓s_118_107, ↓s_118_108, ↓s_118_109_2, ↓s_118_109_28, ↓g_118_112, ↓k_118_112, ↓s_118_113, ↓s_118_115, ↓s_118_118, ↓s_118_121, ↓s_118_122, ↓s_118_125_2, ↓s_118_125_28, ↓s_118_128, ↓s_118_129, ↓s_118_130, ↓s_118_133, ↓s_118_134, ↓s_118_135, ↓s_118_138_2, ↓s_118_138_28, ↓s_118_141, ↓s_118_142, ↓s_118_143, ↓s_118_144, ↓s_118_146, ↓s_118_149, ↓g_118_150, ↓k_118_150, ↓s_118_151, ↓s_118_153, ↓s_118_156, ↓s_118_159, ↓s_118_160, ↓s_118_163_2, ↓s_118_163_28, ↓s_118_166, ↓s_118_167, ↓s_118_168, ↓s_118_169, ↓s_118_171, ↓s_118_174, ↓s_118_175, w32c_40, w32c_24, w32c_25, w32c_99, w32c_26, zio_2, zio_5, zar_39, zia_39, zln_39, zit_39, zar_40, zia_40, zln_40, zit_40, zar_41, zia_41, zln_41, zit_41, zar_42, zia_42, zln_42, zit_42, zar_43, zia_43, zln_43, zit_43, zar_13, zia_13, zln_13, zit_13, zar_14, zia_14, zln_14, zit_14, zar_15, zia_15, zln_15, zit_15, zar_16, zia_16, zln_16, zit_16, zar_17, zia_17, zln_17, zit_17, zio_54, zio_28, zio_31]
    refine ⟨⟨by omega, by omega⟩, ⟨by omega, by omega⟩, g_number hE (by omega) (cTk_of T2 (fun j => yset_o (by decide)) (fun j => yset_o (by decide)) (fun j => yset_o (by decide))) (by omega) (by decide) (fun r2 m3 F3 e3 T3 => ?_)⟩
    rw [e2, show w32 40 = 40 by decide] at e3 T3
    refine zgk_s hE xmo_118 60 zc_118 ?_
    simp only [ynok_30, ynok_31, w32c_0, w32c_1, w32c_2, w32c_3, w32c_4, w32c_5, w32c_6, w32c_7, w32c_8, w32c_9, w32c_10, w32c_11, w32c_12, w32c_13, w32c_14, w32c_m1, w32c_m2, w32c_118, Int.reduceAdd, Int.reduceSub, Int.reduceMul, yput_s, yput_n, znl_n, znl_0, znl_1, znl_4, ysum_n, ysum_0, ysum_1, ysum_4, true_and, and_true, Nat.reduceAdd, Nat.reduceLeDiff, true_implies, eq_self, true_or, or_true, or_false, false_or, not_true_eq_false, not_false_eq_true, false_implies, implies_true, yset_s, yset_o, yset_d, ne_eq, Nat.reduceEqDiff, Int.reduceToNat, Int.reduceEq, Int.reduceLE, Int.reduceLT, Classical.not_not, Nat.reduceLT, ↓zvk_s, ↓zvk_n, ↓s_118_0, ↓s_118_1, ↓s_118_2, ↓s_118_5_2, ↓s_118_5_28, ↓s_118_8, ↓s_118_11n, ↓s_118_11i, ↓s_118_11p, ↓s_118_12, ↓s_118_13, ↓s_118_14, ↓s_118_17, ↓s_118_18, ↓s_118_19, ↓s_118_22_2, ↓s_118_22_28, ↓s_118_25, ↓s_118_26, ↓s_118_27, ↓s_118_28, ↓s_118_30, ↓s_118_33, ↓s_118_34, ↓s_118_35, ↓s_118_38_2, ↓s_118_38_28, ↓s_118_41, ↓s_118_42, ↓s_118_43, ↓s_118_44, ↓s_118_47_2, ↓s_118_47_28, ↓s_118_50, ↓s_118_51, ↓s_118_52, ↓s_118_54, ↓s_118_57, ↓s_118_58, ↓s_118_59, ↓s_118_62_2, ↓s_118_62_28, ↓s_118_65, ↓s_118_66, ↓s_118_67, ↓s_118_68, ↓s_118_69, ↓s_118_72_2, ↓s_118_72_28, ↓s_118_75, ↓s_118_76, ↓s_118_77, ↓s_118_78, ↓s_118_79, ↓s_118_82_2, ↓s_118_82_28, ↓s_118_85, ↓s_118_86, ↓s_118_87, ↓g_118_88, ↓k_118_88, ↓s_118_89, ↓s_118_91, ↓s_118_94, ↓s_118_97, ↓s_118_98, ↓s_118_101a, ↓s_118_101b, ↓s_118_102_2, ↓s_118_102_28, ↓s_118_105, ↓s_118_106, ↓s_118_107, ↓s_118_108, ↓s_118_109_2, ↓s_118_109_28, ↓g_118_112, ↓k_118_112, ↓s_118_113, ↓s_118_115, ↓s_118_118, ↓s_118_121, ↓s_118_122, ↓s_118_125_2, ↓s_118_125_28, ↓s_118_128, ↓s_118_129, ↓s_118_130, ↓s_118_133, ↓s_118_134, ↓s_118_135, ↓s_118_138_2, ↓s_118_138_28, ↓s_118_141, ↓s_118_142, ↓s_118_143, ↓s_118_144, ↓s_118_146, ↓s_118_149, ↓g_118_150, ↓k_118_150, ↓s_118_151, ↓s_118_153, ↓s_118_156, ↓s_118_159, ↓s_118_160, ↓s_118_163_2, ↓s_118_163_28, ↓s_118_166, ↓s_118_167, ↓s_118_168, ↓s_118_169, ↓s_118_171, ↓s_118_174, ↓s_118_175, w32c_40, w32c_24, w32c_25, w32c_99, w32c_26, zio_2, zio_5, zar_39, zia_39, zln_39, zit_39, zar_40, zia_40, zln_40, zit_40, zar_41, zia_41, zln_41, zit_41, zar_42, zia_42, zln_42, zit_42, zar_43, zia_43, zln_43, zit_43, zar_13, zia_13, zln_13, zit_13, zar_14, zia_14, zln_14, zit_14, zar_15, zia_15, zln_15, zit_15, zar_16, zia_16, zln_16, zit_16, zar_17, zia_17, zln_17, zit_17, zio_54, zio_28, zio_31]
    refine ⟨⟨by omega, by omega⟩, ⟨by omega, by omega⟩, ⟨by omega, by omega⟩, ⟨by omega, by omega⟩, ?_⟩
    rw [hrt]
    rw [hrt] at F3
    have k3 : ∀ i j, i ≠ 55 → m3 i j = yset m2 39 vo.length r1 i j := fun i j q => F3 i j (amod_n55 q)
    have k2 : ∀ i j, i ≠ 55 → m2 i j = m1 i j := fun i j q => F2 i j (amod_n55 q)
    have Z3 : ∀ i j, ¬ vF vo.length i j → m3 i j = m1 i j := fun i j hv => by
      have q : i ≠ 55 := fun e => hv (Or.inr (Or.inr e))
      rw [k3 i j q, ← k2 i j q]
      exact yset_fr (b := m2) (fun _ _ _ => rfl) (Or.inl ⟨by decide, by decide, rfl⟩) i j hv
    have v39 : m3 39 vo.length = r1 := by rw [k3 39 _ (by decide), yset_s]
    have bb : 0 ≤ bsum (vo.map (fun t => t.2.2.2.1)) ∧ bsum (vo.map (fun t => t.2.2.2.1)) < 2 ^ vo.length := by
      have := bsum_bd (l := vo.map (fun t => t.2.2.2.1)) (fun b hb => by
        obtain ⟨t, ht, rfl⟩ := List.mem_map.mp hb
        exact hV.2.2.1 t ht)
      rw [List.length_map] at this
      exact this
    have v28 : w32 (m3 28 16) = bsum (vo.map (fun t => t.2.2.2.1)) := by
      rw [k3 28 16 (by decide), yset_o (by decide), k2 28 16 (by decide), F1 28 16 rfl]
      exact hV.2.1
    refine rv88 (b := m1) hE (by omega) hb2 hrl (cNm_fr hN (F1 29 1 rfl) (fun j => F1 30 j rfl)) (cTk_of T3 (fun j => by rw [yset_o (by decide), yset_o (by decide), yset_o (by decide), yset_o (by decide)]) (fun j => by rw [yset_o (by decide), yset_o (by decide), yset_o (by decide), yset_o (by decide)]) (fun j => by rw [yset_o (by decide), yset_o (by decide), yset_o (by decide), yset_o (by decide)])) bb (lo := (yNm 1 40 y).1) (hi := (yNm (yNm 1 40 y).1 40 (yNm 1 40 y).2).1) ⟨yset_fr (yset_fr (yset_fr (yset_fr Z3 (Or.inl ⟨by decide, by decide, rfl⟩)) (Or.inl ⟨by decide, by decide, rfl⟩)) (Or.inl ⟨by decide, by decide, rfl⟩)) (Or.inl ⟨by decide, by decide, rfl⟩), by rw [yset_o (by decide), yset_o (by decide), yset_o (by decide), yset_o (by decide), v39]; exact e2, by rw [yset_o (by decide), yset_o (by decide), yset_o (by decide), yset_s]; exact e3, by rw [yset_o (by decide), yset_o (by decide), yset_o (by decide), yset_o (by decide)]; exact v28, by rw [yset_o (by decide), yset_o (by decide), yset_s]; exact w32c_m1, by rw [yset_o (by decide), yset_s]; exact w32c_0, by rw [yset_s]; exact w32c_1⟩ (fun m' g1 g2 => ?_)
    obtain ⟨s0, s1, s2, s3, s4, s5, s6⟩ := g2
    refine hQ m' (aFrm_tt G1 (fun i j hij => s0 i j (vF_voF hij))) g1 (fun l _ => ⟨?_, ?_, ?_, ?_⟩)
    · rw [List.map_append]
      exact cNm_fr (kk hr) (s0 31 1 (by unfold vF; omega)) (fun j => s0 32 j (by unfold vF; omega))
    · rw [List.map_append, s3]
      show _ = bsum (_ ++ [_])
      rw [bsum_app, List.length_map]
      rfl
    · intro t ht
      rcases List.mem_append.mp ht with ht | ht
      · exact hV.2.2.1 t ht
      · rw [List.mem_singleton.mp ht]
        exact pV1_01 _
    · intro j t ht
      rcases app_get ht with ht | ⟨rfl, rfl⟩
      · have hj := get_lt ht
        have w : ∀ i, 39 ≤ i → i ≤ 43 → m' i j = mem i j := fun i i1 i2 => by
          rw [s0 i j (by unfold vF; omega)]
          have : i = 39 ∨ i = 40 ∨ i = 41 ∨ i = 42 ∨ i = 43 := by omega
          rcases this with rfl | rfl | rfl | rfl | rfl <;> exact F1 _ j rfl
        rw [w 39 (by decide) (by decide), w 40 (by decide) (by decide), w 41 (by decide) (by decide), w 42 (by decide) (by decide), w 43 (by decide) (by decide)]
        exact hV.2.2.2 j t ht
      · exact ⟨s1, s2, s4, s5, s6⟩
  · have e0 : (yBg (vo.map (fun t => t.1)) 6 x).1 = -1 := by rw [← h1]; exact hr
    have ep : pVo tn vo x = ((yBg (vo.map (fun t => t.1)) 6 x).2, (0, 0, 0, 0, 0, 0, 0)) := by unfold pVo; rw [if_pos e0]
    refine hQ m1 G1 (by rw [ep]; exact T1) (fun l hl => ?_)
    rcases hb with ⟨_, e, he⟩ | ⟨hb, _⟩
    · rw [ep] at hl
      rw [he] at hl
      cases hl
    · omega
end CL
end
section
def zc_115 : List Nat := [20]
theorem s_115_0 {E : yE} {n d : Nat} {mem : yMem} {Post : Option yV → yMem → Prop} {st : List yV} {r1 r2 : Option yV} {x : Int} : zvc E (n + 1) zc_115 d xm_115 0 [some (1, x), r1, r2] (st) mem Post = (zvc E n zc_115 d xm_115 1 [some (1, x), r1, r2] ((1, x) :: st) mem Post) := zrf rfl
theorem s_115_1 {E : yE} {n d : Nat} {mem : yMem} {Post : Option yV → yMem → Prop} {st : List yV} {r0 r1 r2 : Option yV} : zvc E (n + 1) zc_115 d xm_115 1 [r0, r1, r2] (st) mem Post = (zvc E n zc_115 d xm_115 3 [r0, r1, r2] ((0, 27) :: st) mem Post) := zrf rfl
theorem s_115_3 {E : yE} {n d : Nat} {mem : yMem} {Post : Option yV → yMem → Prop} {st : List yV} {r0 r1 r2 : Option yV} {z a0 : Int} : zvc E (n + 1) zc_115 (d + 1) xm_115 3 [r0, r1, r2] ((0, a0) :: (1, z) :: st) mem Post = (zio z 8 = true ∧ ysum st ≤ 8 ∧ zvc E n [] d xm_119 0 [some (1, z), some (0, a0)] [] mem (fun v mem' => zvk E n zc_115 (d + 1) xm_115 6 [r0, r1, r2] st v mem' Post)) := zrf rfl
theorem s_115_6 {E : yE} {n d : Nat} {mem : yMem} {Post : Option yV → yMem → Prop} {st : List yV} {r0 r1 r2 : Option yV} {x : Int} : zvc E (n + 1) zc_115 d xm_115 6 [r0, r1, r2] ((0, x) :: st) mem Post = ((¬ w32 x = w32 0 → zvc E n zc_115 d xm_115 18 [r0, r1, r2] (st) mem Post) ∧ (¬ (¬ w32 x = w32 0) → zvc E n zc_115 d xm_115 9 [r0, r1, r2] (st) mem Post)) := zrf rfl
theorem s_115_9 {E : yE} {n d : Nat} {mem : yMem} {Post : Option yV → yMem → Prop} {st : List yV} {r1 r2 : Option yV} {x : Int} : zvc E (n + 1) zc_115 d xm_115 9 [some (1, x), r1, r2] (st) mem Post = (zvc E n zc_115 d xm_115 10 [some (1, x), r1, r2] ((1, x) :: st) mem Post) := zrf rfl
theorem s_115_10 {E : yE} {n d : Nat} {mem : yMem} {Post : Option yV → yMem → Prop} {st : List yV} {r0 r1 r2 : Option yV} : zvc E (n + 1) zc_115 d xm_115 10 [r0, r1, r2] ((1, 54) :: st) mem Post = (zvc E n zc_115 d xm_115 13 [r0, r1, r2] ((1, 55) :: st) mem Post) := zrf rfl
theorem s_115_13 {E : yE} {n d : Nat} {mem : yMem} {Post : Option yV → yMem → Prop} {st : List yV} {r0 r1 r2 : Option yV} : zvc E (n + 1) zc_115 d xm_115 13 [r0, r1, r2] (st) mem Post = (zvc E n zc_115 d xm_115 14 [r0, r1, r2] ((0, 1) :: st) mem Post) := zrf rfl
theorem s_115_14 {E : yE} {n d : Nat} {mem : yMem} {Post : Option yV → yMem → Prop} {st : List yV} {r0 r1 r2 : Option yV} {z a0 : Int} : zvc E (n + 1) zc_115 (d + 1) xm_115 14 [r0, r1, r2] ((0, a0) :: (1, z) :: st) mem Post = (zio z 9 = true ∧ ysum st ≤ 8 ∧ zvc E n [] d xm_123 0 [some (1, z), some (0, a0)] [] mem (fun v mem' => zvk E n zc_115 (d + 1) xm_115 17 [r0, r1, r2] st v mem' Post)) := zrf rfl
theorem s_115_17a {E : yE} {n d : Nat} {mem : yMem} {Post : Option yV → yMem → Prop} {st : List yV} {r0 r1 r2 : Option yV} {x : Int} : zvc E (n + 1) zc_115 d xm_115 17 [r0, r1, r2] ((0, x) :: st) mem Post = (zvc E n zc_115 d xm_115 18 [r0, r1, r2] (st) mem Post) := zrf rfl
theorem s_115_17b {E : yE} {n d : Nat} {mem : yMem} {Post : Option yV → yMem → Prop} {st : List yV} {r0 r1 r2 : Option yV} {x : Int} : zvc E (n + 1) zc_115 d xm_115 17 [r0, r1, r2] ((1, x) :: st) mem Post = (zvc E n zc_115 d xm_115 18 [r0, r1, r2] (st) mem Post) := zrf rfl
theorem s_115_18 {E : yE} {n d : Nat} {mem : yMem} {Post : Option yV → yMem → Prop} {st : List yV} {r0 r1 r2 : Option yV} : zvc E (n + 1) zc_115 d xm_115 18 [r0, r1, r2] (st) mem Post = (zvc E n zc_115 d xm_115 19 [r0, r1, r2] ((0, 0) :: st) mem Post) := zrf rfl
theorem s_115_19n {E : yE} {n d : Nat} {mem : yMem} {Post : Option yV → yMem → Prop} {st : List yV} {r0 r2 : Option yV} {x : Int} : zvc E (n + 1) zc_115 d xm_115 19 [r0, none, r2] ((0, x) :: st) mem Post = (zvc E n zc_115 d xm_115 20 [r0, none, some (0, x)] (st) mem Post) := zrf rfl
theorem s_115_19i {E : yE} {n d : Nat} {mem : yMem} {Post : Option yV → yMem → Prop} {st : List yV} {r0 r2 : Option yV} {x w : Int} : zvc E (n + 1) zc_115 d xm_115 19 [r0, some (0, w), r2] ((0, x) :: st) mem Post = (zvc E n zc_115 d xm_115 20 [r0, some (0, w), some (0, x)] (st) mem Post) := zrf rfl
theorem s_115_19p {E : yE} {n d : Nat} {mem : yMem} {Post : Option yV → yMem → Prop} {st : List yV} {r0 r2 : Option yV} {x w : Int} : zvc E (n + 1) zc_115 d xm_115 19 [r0, some (1, w), r2] ((0, x) :: st) mem Post = (zvc E n zc_115 d xm_115 20 [r0, some (1, w), some (0, x)] (st) mem Post) := zrf rfl
theorem s_115_19j {E : yE} {n d : Nat} {mem : yMem} {Post : Option yV → yMem → Prop} {st : List yV} {r0 r1 r2 : Option yV} {x : Int} : zvc E (n + 1) zc_115 d xm_115 19 [r0, r1, r2] ((0, x) :: st) mem Post = (zvc E n zc_115 d xm_115 20 [r0, znl r1, some (0, x)] (st) mem Post) := zrf rfl
theorem g_115_20 {E : yE} {n d : Nat} {mem : yMem} {Post : Option yV → yMem → Prop} {st : List yV} {r1 r2 : Option yV} {x : Int} : zgo E n zc_115 d xm_115 20 [some (1, x), r1, r2] (st) mem Post = (zvc E n zc_115 d xm_115 21 [some (1, x), r1, r2] ((1, x) :: st) mem Post) := zrf rfl
theorem k_115_20 {E : yE} {n d : Nat} {mem : yMem} {Post : Option yV → yMem → Prop} {st : List yV} {rg : zR} : zvc E (n + 1) zc_115 d xm_115 20 rg st mem Post = zG E d xm_115 20 rg st mem Post := zrf rfl
theorem s_115_21 {E : yE} {n d : Nat} {mem : yMem} {Post : Option yV → yMem → Prop} {st : List yV} {r0 r1 r2 : Option yV} : zvc E (n + 1) zc_115 d xm_115 21 [r0, r1, r2] ((1, 54) :: st) mem Post = (zvc E n zc_115 d xm_115 24 [r0, r1, r2] ((1, 28) :: st) mem Post) := zrf rfl
theorem s_115_24_2 {E : yE} {n d : Nat} {mem : yMem} {Post : Option yV → yMem → Prop} {st : List yV} {r0 r1 r2 : Option yV} : zvc E (n + 1) zc_115 d xm_115 24 [r0, r1, r2] ((1, 2) :: st) mem Post = (zvc E n zc_115 d xm_115 27 [r0, r1, r2] ((1, 20) :: st) mem Post) := zrf rfl
theorem s_115_24_28 {E : yE} {n d : Nat} {mem : yMem} {Post : Option yV → yMem → Prop} {st : List yV} {r0 r1 r2 : Option yV} : zvc E (n + 1) zc_115 d xm_115 24 [r0, r1, r2] ((1, 28) :: st) mem Post = (zvc E n zc_115 d xm_115 27 [r0, r1, r2] ((1, 46) :: st) mem Post) := zrf rfl
theorem s_115_27 {E : yE} {n d : Nat} {mem : yMem} {Post : Option yV → yMem → Prop} {st : List yV} {r0 r2 : Option yV} {x : Int} : zvc E (n + 1) zc_115 d xm_115 27 [r0, some (0, x), r2] (st) mem Post = (zvc E n zc_115 d xm_115 28 [r0, some (0, x), r2] ((0, x) :: st) mem Post) := zrf rfl
theorem s_115_28 {E : yE} {n d : Nat} {mem : yMem} {Post : Option yV → yMem → Prop} {st : List yV} {r0 r1 r2 : Option yV} : zvc E (n + 1) zc_115 d xm_115 28 [r0, r1, r2] (st) mem Post = (zvc E n zc_115 d xm_115 30 [r0, r1, r2] ((0, 8) :: st) mem Post) := zrf rfl
theorem s_115_30 {E : yE} {n d : Nat} {mem : yMem} {Post : Option yV → yMem → Prop} {st : List yV} {r0 r1 r2 : Option yV} {x y : Int} : zvc E (n + 1) zc_115 d xm_115 30 [r0, r1, r2] ((0, y) :: (0, x) :: st) mem Post = (zvc E n zc_115 d xm_115 31 [r0, r1, r2] ((0, x * y) :: st) mem Post) := zrf rfl
theorem s_115_31 {E : yE} {n d : Nat} {mem : yMem} {Post : Option yV → yMem → Prop} {st : List yV} {r0 r1 : Option yV} {x : Int} : zvc E (n + 1) zc_115 d xm_115 31 [r0, r1, some (0, x)] (st) mem Post = (zvc E n zc_115 d xm_115 32 [r0, r1, some (0, x)] ((0, x) :: st) mem Post) := zrf rfl
theorem s_115_32 {E : yE} {n d : Nat} {mem : yMem} {Post : Option yV → yMem → Prop} {st : List yV} {r0 r1 r2 : Option yV} {x y : Int} : zvc E (n + 1) zc_115 d xm_115 32 [r0, r1, r2] ((0, y) :: (0, x) :: st) mem Post = (zvc E n zc_115 d xm_115 33 [r0, r1, r2] ((0, x + y) :: st) mem Post) := zrf rfl
theorem s_115_33 {E : yE} {n d : Nat} {mem : yMem} {Post : Option yV → yMem → Prop} {st : List yV} {r1 r2 : Option yV} {x : Int} : zvc E (n + 1) zc_115 d xm_115 33 [some (1, x), r1, r2] (st) mem Post = (zvc E n zc_115 d xm_115 34 [some (1, x), r1, r2] ((1, x) :: st) mem Post) := zrf rfl
theorem s_115_34 {E : yE} {n d : Nat} {mem : yMem} {Post : Option yV → yMem → Prop} {st : List yV} {r0 r1 r2 : Option yV} : zvc E (n + 1) zc_115 d xm_115 34 [r0, r1, r2] (st) mem Post = (zvc E n zc_115 d xm_115 35 [r0, r1, r2] ((0, 0) :: st) mem Post) := zrf rfl
theorem s_115_35 {E : yE} {n d : Nat} {mem : yMem} {Post : Option yV → yMem → Prop} {st : List yV} {r0 r1 r2 : Option yV} : zvc E (n + 1) zc_115 d xm_115 35 [r0, r1, r2] (st) mem Post = (zvc E n zc_115 d xm_115 37 [r0, r1, r2] ((0, 40) :: st) mem Post) := zrf rfl
theorem s_115_37 {E : yE} {n d : Nat} {mem : yMem} {Post : Option yV → yMem → Prop} {st : List yV} {r0 r1 r2 : Option yV} {z a0 a1 : Int} : zvc E (n + 1) zc_115 d xm_115 37 [r0, r1, r2] ((0, a1) :: (0, a0) :: (1, z) :: st) mem Post = (zio z 8 = true ∧ ysum st ≤ 8 ∧ yCon E d xm_112 [(1, z), (0, a0), (0, a1)] mem (fun v mem' => zgk E d xm_115 40 [r0, r1, r2] st v mem' Post)) := zrf rfl
theorem s_115_40 {E : yE} {n d : Nat} {mem : yMem} {Post : Option yV → yMem → Prop} {st : List yV} {r0 r1 r2 : Option yV} {x z j : Int} : zvc E (n + 1) zc_115 d xm_115 40 [r0, r1, r2] ((0, x) :: (0, j) :: (1, z) :: st) mem Post = ((0 ≤ w32 j ∧ w32 j < ((zar z 0 : Nat) : Int)) ∧ zvc E n zc_115 d xm_115 41 [r0, r1, r2] (st) (yset mem z.toNat (w32 j).toNat x) Post) := zrf rfl
theorem s_115_41n {E : yE} {n d : Nat} {mem : yMem} {Post : Option yV → yMem → Prop} {st : List yV} {r0 : Option yV} {x : Int} : zvc E (n + 1) zc_115 d xm_115 41 [r0, none, some (0, x)] (st) mem Post = (zvc E n zc_115 d xm_115 44 [r0, none, some (0, x + 1)] (st) mem Post) := zrf rfl
theorem s_115_41i {E : yE} {n d : Nat} {mem : yMem} {Post : Option yV → yMem → Prop} {st : List yV} {r0 : Option yV} {x w : Int} : zvc E (n + 1) zc_115 d xm_115 41 [r0, some (0, w), some (0, x)] (st) mem Post = (zvc E n zc_115 d xm_115 44 [r0, some (0, w), some (0, x + 1)] (st) mem Post) := zrf rfl
theorem s_115_41p {E : yE} {n d : Nat} {mem : yMem} {Post : Option yV → yMem → Prop} {st : List yV} {r0 : Option yV} {x w : Int} : zvc E (n + 1) zc_115 d xm_115 41 [r0, some (1, w), some (0, x)] (st) mem Post = (zvc E n zc_115 d xm_115 44 [r0, some (1, w), some (0, x + 1)] (st) mem Post) := zrf rfl
theorem s_115_41j {E : yE} {n d : Nat} {mem : yMem} {Post : Option yV → yMem → Prop} {st : List yV} {r0 r1 : Option yV} {x : Int} : zvc E (n + 1) zc_115 d xm_115 41 [r0, r1, some (0, x)] (st) mem Post = (zvc E n zc_115 d xm_115 44 [r0, znl r1, some (0, x + 1)] (st) mem Post) := zrf rfl
theorem s_115_44 {E : yE} {n d : Nat} {mem : yMem} {Post : Option yV → yMem → Prop} {st : List yV} {r0 r1 : Option yV} {x : Int} : zvc E (n + 1) zc_115 d xm_115 44 [r0, r1, some (0, x)] (st) mem Post = (zvc E n zc_115 d xm_115 45 [r0, r1, some (0, x)] ((0, x) :: st) mem Post) := zrf rfl
theorem s_115_45 {E : yE} {n d : Nat} {mem : yMem} {Post : Option yV → yMem → Prop} {st : List yV} {r0 r1 r2 : Option yV} : zvc E (n + 1) zc_115 d xm_115 45 [r0, r1, r2] (st) mem Post = (zvc E n zc_115 d xm_115 47 [r0, r1, r2] ((0, 8) :: st) mem Post) := zrf rfl
theorem s_115_47 {E : yE} {n d : Nat} {mem : yMem} {Post : Option yV → yMem → Prop} {st : List yV} {r0 r1 r2 : Option yV} {x y : Int} : zvc E (n + 1) zc_115 d xm_115 47 [r0, r1, r2] ((0, y) :: (0, x) :: st) mem Post = ((¬ w32 x = w32 y → zvc E n zc_115 d xm_115 70 [r0, r1, r2] (st) mem Post) ∧ (¬ (¬ w32 x = w32 y) → zvc E n zc_115 d xm_115 50 [r0, r1, r2] (st) mem Post)) := zrf rfl
theorem s_115_50 {E : yE} {n d : Nat} {mem : yMem} {Post : Option yV → yMem → Prop} {st : List yV} {r1 r2 : Option yV} {x : Int} : zvc E (n + 1) zc_115 d xm_115 50 [some (1, x), r1, r2] (st) mem Post = (zvc E n zc_115 d xm_115 51 [some (1, x), r1, r2] ((1, x) :: st) mem Post) := zrf rfl
theorem s_115_51 {E : yE} {n d : Nat} {mem : yMem} {Post : Option yV → yMem → Prop} {st : List yV} {r0 r1 r2 : Option yV} : zvc E (n + 1) zc_115 d xm_115 51 [r0, r1, r2] ((1, 54) :: st) mem Post = (zvc E n zc_115 d xm_115 54 [r0, r1, r2] ((1, 55) :: st) mem Post) := zrf rfl
theorem s_115_54 {E : yE} {n d : Nat} {mem : yMem} {Post : Option yV → yMem → Prop} {st : List yV} {r0 r1 r2 : Option yV} : zvc E (n + 1) zc_115 d xm_115 54 [r0, r1, r2] ((1, 55) :: st) mem Post = (zvc E n zc_115 d xm_115 57 [r0, r1, r2] ((0, mem 55 4) :: st) mem Post) := zrf rfl
theorem s_115_57 {E : yE} {n d : Nat} {mem : yMem} {Post : Option yV → yMem → Prop} {st : List yV} {r0 r1 r2 : Option yV} : zvc E (n + 1) zc_115 d xm_115 57 [r0, r1, r2] (st) mem Post = (zvc E n zc_115 d xm_115 58 [r0, r1, r2] ((0, 2) :: st) mem Post) := zrf rfl
theorem s_115_58 {E : yE} {n d : Nat} {mem : yMem} {Post : Option yV → yMem → Prop} {st : List yV} {r0 r1 r2 : Option yV} {x y : Int} : zvc E (n + 1) zc_115 d xm_115 58 [r0, r1, r2] ((0, y) :: (0, x) :: st) mem Post = ((¬ w32 x = w32 y → zvc E n zc_115 d xm_115 70 [r0, r1, r2] (st) mem Post) ∧ (¬ (¬ w32 x = w32 y) → zvc E n zc_115 d xm_115 61 [r0, r1, r2] (st) mem Post)) := zrf rfl
theorem s_115_61 {E : yE} {n d : Nat} {mem : yMem} {Post : Option yV → yMem → Prop} {st : List yV} {r1 r2 : Option yV} {x : Int} : zvc E (n + 1) zc_115 d xm_115 61 [some (1, x), r1, r2] (st) mem Post = (zvc E n zc_115 d xm_115 62 [some (1, x), r1, r2] ((1, x) :: st) mem Post) := zrf rfl
theorem s_115_62 {E : yE} {n d : Nat} {mem : yMem} {Post : Option yV → yMem → Prop} {st : List yV} {r0 r1 r2 : Option yV} : zvc E (n + 1) zc_115 d xm_115 62 [r0, r1, r2] ((1, 54) :: st) mem Post = (zvc E n zc_115 d xm_115 65 [r0, r1, r2] ((1, 55) :: st) mem Post) := zrf rfl
theorem s_115_65 {E : yE} {n d : Nat} {mem : yMem} {Post : Option yV → yMem → Prop} {st : List yV} {r0 r1 r2 : Option yV} : zvc E (n + 1) zc_115 d xm_115 65 [r0, r1, r2] (st) mem Post = (zvc E n zc_115 d xm_115 66 [r0, r1, r2] ((0, 2) :: st) mem Post) := zrf rfl
theorem s_115_66 {E : yE} {n d : Nat} {mem : yMem} {Post : Option yV → yMem → Prop} {st : List yV} {r0 r1 r2 : Option yV} {z a0 : Int} : zvc E (n + 1) zc_115 (d + 1) xm_115 66 [r0, r1, r2] ((0, a0) :: (1, z) :: st) mem Post = (zio z 9 = true ∧ ysum st ≤ 8 ∧ zvc E n [] d xm_123 0 [some (1, z), some (0, a0)] [] mem (fun v mem' => zvk E n zc_115 (d + 1) xm_115 69 [r0, r1, r2] st v mem' Post)) := zrf rfl
theorem s_115_69a {E : yE} {n d : Nat} {mem : yMem} {Post : Option yV → yMem → Prop} {st : List yV} {r0 r1 r2 : Option yV} {x : Int} : zvc E (n + 1) zc_115 d xm_115 69 [r0, r1, r2] ((0, x) :: st) mem Post = (zvc E n zc_115 d xm_115 70 [r0, r1, r2] (st) mem Post) := zrf rfl
theorem s_115_69b {E : yE} {n d : Nat} {mem : yMem} {Post : Option yV → yMem → Prop} {st : List yV} {r0 r1 r2 : Option yV} {x : Int} : zvc E (n + 1) zc_115 d xm_115 69 [r0, r1, r2] ((1, x) :: st) mem Post = (zvc E n zc_115 d xm_115 70 [r0, r1, r2] (st) mem Post) := zrf rfl
theorem s_115_70 {E : yE} {n d : Nat} {mem : yMem} {Post : Option yV → yMem → Prop} {st : List yV} {r0 r1 : Option yV} {x : Int} : zvc E (n + 1) zc_115 d xm_115 70 [r0, r1, some (0, x)] (st) mem Post = (zvc E n zc_115 d xm_115 71 [r0, r1, some (0, x)] ((0, x) :: st) mem Post) := zrf rfl
theorem s_115_71 {E : yE} {n d : Nat} {mem : yMem} {Post : Option yV → yMem → Prop} {st : List yV} {r0 r1 r2 : Option yV} : zvc E (n + 1) zc_115 d xm_115 71 [r0, r1, r2] (st) mem Post = (zvc E n zc_115 d xm_115 73 [r0, r1, r2] ((0, 8) :: st) mem Post) := zrf rfl
theorem s_115_73 {E : yE} {n d : Nat} {mem : yMem} {Post : Option yV → yMem → Prop} {st : List yV} {r0 r1 r2 : Option yV} {x y : Int} : zvc E (n + 1) zc_115 d xm_115 73 [r0, r1, r2] ((0, y) :: (0, x) :: st) mem Post = ((w32 y ≤ w32 x → zvc E n zc_115 d xm_115 87 [r0, r1, r2] (st) mem Post) ∧ (¬ (w32 y ≤ w32 x) → zvc E n zc_115 d xm_115 76 [r0, r1, r2] (st) mem Post)) := zrf rfl
theorem s_115_76 {E : yE} {n d : Nat} {mem : yMem} {Post : Option yV → yMem → Prop} {st : List yV} {r1 r2 : Option yV} {x : Int} : zvc E (n + 1) zc_115 d xm_115 76 [some (1, x), r1, r2] (st) mem Post = (zvc E n zc_115 d xm_115 77 [some (1, x), r1, r2] ((1, x) :: st) mem Post) := zrf rfl
theorem s_115_77 {E : yE} {n d : Nat} {mem : yMem} {Post : Option yV → yMem → Prop} {st : List yV} {r0 r1 r2 : Option yV} : zvc E (n + 1) zc_115 d xm_115 77 [r0, r1, r2] ((1, 54) :: st) mem Post = (zvc E n zc_115 d xm_115 80 [r0, r1, r2] ((1, 55) :: st) mem Post) := zrf rfl
theorem s_115_80 {E : yE} {n d : Nat} {mem : yMem} {Post : Option yV → yMem → Prop} {st : List yV} {r0 r1 r2 : Option yV} : zvc E (n + 1) zc_115 d xm_115 80 [r0, r1, r2] ((1, 55) :: st) mem Post = (zvc E n zc_115 d xm_115 83 [r0, r1, r2] ((0, mem 55 4) :: st) mem Post) := zrf rfl
theorem s_115_83 {E : yE} {n d : Nat} {mem : yMem} {Post : Option yV → yMem → Prop} {st : List yV} {r0 r1 r2 : Option yV} : zvc E (n + 1) zc_115 d xm_115 83 [r0, r1, r2] (st) mem Post = (zvc E n zc_115 d xm_115 84 [r0, r1, r2] ((0, 2) :: st) mem Post) := zrf rfl
theorem s_115_84 {E : yE} {n d : Nat} {mem : yMem} {Post : Option yV → yMem → Prop} {st : List yV} {r0 r1 r2 : Option yV} {x y : Int} : zvc E (n + 1) zc_115 d xm_115 84 [r0, r1, r2] ((0, y) :: (0, x) :: st) mem Post = ((w32 x = w32 y → zvc E n zc_115 d xm_115 20 [r0, r1, r2] (st) mem Post) ∧ (¬ (w32 x = w32 y) → zvc E n zc_115 d xm_115 87 [r0, r1, r2] (st) mem Post)) := zrf rfl
theorem s_115_87 {E : yE} {n d : Nat} {mem : yMem} {Post : Option yV → yMem → Prop} {st : List yV} {r1 r2 : Option yV} {x : Int} : zvc E (n + 1) zc_115 d xm_115 87 [some (1, x), r1, r2] (st) mem Post = (zvc E n zc_115 d xm_115 88 [some (1, x), r1, r2] ((1, x) :: st) mem Post) := zrf rfl
theorem s_115_88 {E : yE} {n d : Nat} {mem : yMem} {Post : Option yV → yMem → Prop} {st : List yV} {r0 r1 r2 : Option yV} : zvc E (n + 1) zc_115 d xm_115 88 [r0, r1, r2] ((1, 54) :: st) mem Post = (zvc E n zc_115 d xm_115 91 [r0, r1, r2] ((1, 28) :: st) mem Post) := zrf rfl
theorem s_115_91_2 {E : yE} {n d : Nat} {mem : yMem} {Post : Option yV → yMem → Prop} {st : List yV} {r0 r1 r2 : Option yV} : zvc E (n + 1) zc_115 d xm_115 91 [r0, r1, r2] ((1, 2) :: st) mem Post = (zvc E n zc_115 d xm_115 94 [r0, r1, r2] ((1, 19) :: st) mem Post) := zrf rfl
theorem s_115_91_28 {E : yE} {n d : Nat} {mem : yMem} {Post : Option yV → yMem → Prop} {st : List yV} {r0 r1 r2 : Option yV} : zvc E (n + 1) zc_115 d xm_115 91 [r0, r1, r2] ((1, 28) :: st) mem Post = (zvc E n zc_115 d xm_115 94 [r0, r1, r2] ((1, 45) :: st) mem Post) := zrf rfl
theorem s_115_94 {E : yE} {n d : Nat} {mem : yMem} {Post : Option yV → yMem → Prop} {st : List yV} {r0 r2 : Option yV} {x : Int} : zvc E (n + 1) zc_115 d xm_115 94 [r0, some (0, x), r2] (st) mem Post = (zvc E n zc_115 d xm_115 95 [r0, some (0, x), r2] ((0, x) :: st) mem Post) := zrf rfl
theorem s_115_95 {E : yE} {n d : Nat} {mem : yMem} {Post : Option yV → yMem → Prop} {st : List yV} {r0 r1 : Option yV} {x : Int} : zvc E (n + 1) zc_115 d xm_115 95 [r0, r1, some (0, x)] (st) mem Post = (zvc E n zc_115 d xm_115 96 [r0, r1, some (0, x)] ((0, x) :: st) mem Post) := zrf rfl
theorem s_115_96 {E : yE} {n d : Nat} {mem : yMem} {Post : Option yV → yMem → Prop} {st : List yV} {r0 r1 r2 : Option yV} {x z j : Int} : zvc E (n + 1) zc_115 d xm_115 96 [r0, r1, r2] ((0, x) :: (0, j) :: (1, z) :: st) mem Post = ((0 ≤ w32 j ∧ w32 j < ((zar z 0 : Nat) : Int)) ∧ zvc E n zc_115 d xm_115 97 [r0, r1, r2] (st) (yset mem z.toNat (w32 j).toNat x) Post) := zrf rfl
theorem s_115_97 {E : yE} {n d : Nat} {mem : yMem} {Post : Option yV → yMem → Prop} {r0 r1 r2 : Option yV} : zvc E (n + 1) zc_115 d xm_115 97 [r0, r1, r2] ([]) mem Post = (Post none mem) := zrf rfl
def zc_117 : List Nat := [20]
theorem s_117_0 {E : yE} {n d : Nat} {mem : yMem} {Post : Option yV → yMem → Prop} {st : List yV} {r1 r2 : Option yV} {x : Int} : zvc E (n + 1) zc_117 d xm_117 0 [some (1, x), r1, r2] (st) mem Post = (zvc E n zc_117 d xm_117 1 [some (1, x), r1, r2] ((1, x) :: st) mem Post) := zrf rfl
theorem s_117_1 {E : yE} {n d : Nat} {mem : yMem} {Post : Option yV → yMem → Prop} {st : List yV} {r1 r2 : Option yV} {x : Int} : zvc E (n + 1) zc_117 d xm_117 1 [some (1, x), r1, r2] (st) mem Post = (zvc E n zc_117 d xm_117 2 [some (1, x), r1, r2] ((1, x) :: st) mem Post) := zrf rfl
theorem s_117_2 {E : yE} {n d : Nat} {mem : yMem} {Post : Option yV → yMem → Prop} {st : List yV} {r0 r1 r2 : Option yV} : zvc E (n + 1) zc_117 d xm_117 2 [r0, r1, r2] ((1, 54) :: st) mem Post = (zvc E n zc_117 d xm_117 5 [r0, r1, r2] ((1, 28) :: st) mem Post) := zrf rfl
theorem s_117_5_2 {E : yE} {n d : Nat} {mem : yMem} {Post : Option yV → yMem → Prop} {st : List yV} {r0 r1 r2 : Option yV} : zvc E (n + 1) zc_117 d xm_117 5 [r0, r1, r2] ((1, 2) :: st) mem Post = (zvc E n zc_117 d xm_117 8 [r0, r1, r2] ((1, 7) :: st) mem Post) := zrf rfl
theorem s_117_5_28 {E : yE} {n d : Nat} {mem : yMem} {Post : Option yV → yMem → Prop} {st : List yV} {r0 r1 r2 : Option yV} : zvc E (n + 1) zc_117 d xm_117 5 [r0, r1, r2] ((1, 28) :: st) mem Post = (zvc E n zc_117 d xm_117 8 [r0, r1, r2] ((1, 33) :: st) mem Post) := zrf rfl
theorem s_117_8 {E : yE} {n d : Nat} {mem : yMem} {Post : Option yV → yMem → Prop} {st : List yV} {r0 r1 r2 : Option yV} {z a0 : Int} : zvc E (n + 1) zc_117 d xm_117 8 [r0, r1, r2] ((1, a0) :: (1, z) :: st) mem Post = (zio z 8 = true ∧ ysum st ≤ 8 ∧ yCon E d xm_110 [(1, z), (1, a0)] mem (fun v mem' => zgk E d xm_117 11 [r0, r1, r2] st v mem' Post)) := zrf rfl
theorem s_117_11n {E : yE} {n d : Nat} {mem : yMem} {Post : Option yV → yMem → Prop} {st : List yV} {r1 r2 : Option yV} {x : Int} : zvc E (n + 1) zc_117 d xm_117 11 [none, r1, r2] ((0, x) :: st) mem Post = (zvc E n zc_117 d xm_117 12 [none, some (0, x), r2] (st) mem Post) := zrf rfl
theorem s_117_11i {E : yE} {n d : Nat} {mem : yMem} {Post : Option yV → yMem → Prop} {st : List yV} {r1 r2 : Option yV} {x w : Int} : zvc E (n + 1) zc_117 d xm_117 11 [some (0, w), r1, r2] ((0, x) :: st) mem Post = (zvc E n zc_117 d xm_117 12 [some (0, w), some (0, x), r2] (st) mem Post) := zrf rfl
theorem s_117_11p {E : yE} {n d : Nat} {mem : yMem} {Post : Option yV → yMem → Prop} {st : List yV} {r1 r2 : Option yV} {x w : Int} : zvc E (n + 1) zc_117 d xm_117 11 [some (1, w), r1, r2] ((0, x) :: st) mem Post = (zvc E n zc_117 d xm_117 12 [some (1, w), some (0, x), r2] (st) mem Post) := zrf rfl
theorem s_117_11j {E : yE} {n d : Nat} {mem : yMem} {Post : Option yV → yMem → Prop} {st : List yV} {r0 r1 r2 : Option yV} {x : Int} : zvc E (n + 1) zc_117 d xm_117 11 [r0, r1, r2] ((0, x) :: st) mem Post = (zvc E n zc_117 d xm_117 12 [znl r0, some (0, x), r2] (st) mem Post) := zrf rfl
theorem s_117_12 {E : yE} {n d : Nat} {mem : yMem} {Post : Option yV → yMem → Prop} {st : List yV} {r0 r2 : Option yV} {x : Int} : zvc E (n + 1) zc_117 d xm_117 12 [r0, some (0, x), r2] (st) mem Post = (zvc E n zc_117 d xm_117 13 [r0, some (0, x), r2] ((0, x) :: st) mem Post) := zrf rfl
theorem s_117_13 {E : yE} {n d : Nat} {mem : yMem} {Post : Option yV → yMem → Prop} {st : List yV} {r0 r1 r2 : Option yV} : zvc E (n + 1) zc_117 d xm_117 13 [r0, r1, r2] (st) mem Post = (zvc E n zc_117 d xm_117 14 [r0, r1, r2] ((0, (-1)) :: st) mem Post) := zrf rfl
theorem s_117_14 {E : yE} {n d : Nat} {mem : yMem} {Post : Option yV → yMem → Prop} {st : List yV} {r0 r1 r2 : Option yV} {x y : Int} : zvc E (n + 1) zc_117 d xm_117 14 [r0, r1, r2] ((0, y) :: (0, x) :: st) mem Post = ((¬ w32 x = w32 y → zvc E n zc_117 d xm_117 18 [r0, r1, r2] (st) mem Post) ∧ (¬ (¬ w32 x = w32 y) → zvc E n zc_117 d xm_117 17 [r0, r1, r2] (st) mem Post)) := zrf rfl
theorem s_117_17 {E : yE} {n d : Nat} {mem : yMem} {Post : Option yV → yMem → Prop} {r0 r1 r2 : Option yV} : zvc E (n + 1) zc_117 d xm_117 17 [r0, r1, r2] ([]) mem Post = (Post none mem) := zrf rfl
theorem s_117_18 {E : yE} {n d : Nat} {mem : yMem} {Post : Option yV → yMem → Prop} {st : List yV} {r0 r1 r2 : Option yV} : zvc E (n + 1) zc_117 d xm_117 18 [r0, r1, r2] (st) mem Post = (zvc E n zc_117 d xm_117 19 [r0, r1, r2] ((0, 0) :: st) mem Post) := zrf rfl
theorem s_117_19n {E : yE} {n d : Nat} {mem : yMem} {Post : Option yV → yMem → Prop} {st : List yV} {r0 r2 : Option yV} {x : Int} : zvc E (n + 1) zc_117 d xm_117 19 [r0, none, r2] ((0, x) :: st) mem Post = (zvc E n zc_117 d xm_117 20 [r0, none, some (0, x)] (st) mem Post) := zrf rfl
theorem s_117_19i {E : yE} {n d : Nat} {mem : yMem} {Post : Option yV → yMem → Prop} {st : List yV} {r0 r2 : Option yV} {x w : Int} : zvc E (n + 1) zc_117 d xm_117 19 [r0, some (0, w), r2] ((0, x) :: st) mem Post = (zvc E n zc_117 d xm_117 20 [r0, some (0, w), some (0, x)] (st) mem Post) := zrf rfl
theorem s_117_19p {E : yE} {n d : Nat} {mem : yMem} {Post : Option yV → yMem → Prop} {st : List yV} {r0 r2 : Option yV} {x w : Int} : zvc E (n + 1) zc_117 d xm_117 19 [r0, some (1, w), r2] ((0, x) :: st) mem Post = (zvc E n zc_117 d xm_117 20 [r0, some (1, w), some (0, x)] (st) mem Post) := zrf rfl
theorem s_117_19j {E : yE} {n d : Nat} {mem : yMem} {Post : Option yV → yMem → Prop} {st : List yV} {r0 r1 r2 : Option yV} {x : Int} : zvc E (n + 1) zc_117 d xm_117 19 [r0, r1, r2] ((0, x) :: st) mem Post = (zvc E n zc_117 d xm_117 20 [r0, znl r1, some (0, x)] (st) mem Post) := zrf rfl
theorem g_117_20 {E : yE} {n d : Nat} {mem : yMem} {Post : Option yV → yMem → Prop} {st : List yV} {r1 r2 : Option yV} {x : Int} : zgo E n zc_117 d xm_117 20 [some (1, x), r1, r2] (st) mem Post = (zvc E n zc_117 d xm_117 21 [some (1, x), r1, r2] ((1, x) :: st) mem Post) := zrf rfl
theorem k_117_20 {E : yE} {n d : Nat} {mem : yMem} {Post : Option yV → yMem → Prop} {st : List yV} {rg : zR} : zvc E (n + 1) zc_117 d xm_117 20 rg st mem Post = zG E d xm_117 20 rg st mem Post := zrf rfl
theorem s_117_21 {E : yE} {n d : Nat} {mem : yMem} {Post : Option yV → yMem → Prop} {st : List yV} {r0 r2 : Option yV} {x : Int} : zvc E (n + 1) zc_117 d xm_117 21 [r0, some (0, x), r2] (st) mem Post = (zvc E n zc_117 d xm_117 22 [r0, some (0, x), r2] ((0, x) :: st) mem Post) := zrf rfl
theorem s_117_22 {E : yE} {n d : Nat} {mem : yMem} {Post : Option yV → yMem → Prop} {st : List yV} {r0 r1 : Option yV} {x : Int} : zvc E (n + 1) zc_117 d xm_117 22 [r0, r1, some (0, x)] (st) mem Post = (zvc E n zc_117 d xm_117 23 [r0, r1, some (0, x)] ((0, x) :: st) mem Post) := zrf rfl
theorem s_117_23 {E : yE} {n d : Nat} {mem : yMem} {Post : Option yV → yMem → Prop} {st : List yV} {r0 r1 r2 : Option yV} {a0 a1 : Int} : zvc E (n + 1) zc_117 (d + 1) xm_117 23 [r0, r1, r2] ((0, a1) :: (0, a0) :: st) mem Post = (True ∧ ysum st ≤ 8 ∧ zvc E n [] d xm_34 0 [some (0, a0), some (0, a1)] [] mem (fun v mem' => zvk E n zc_117 (d + 1) xm_117 26 [r0, r1, r2] st v mem' Post)) := zrf rfl
theorem s_117_26 {E : yE} {n d : Nat} {mem : yMem} {Post : Option yV → yMem → Prop} {st : List yV} {r0 r1 r2 : Option yV} {z a0 : Int} : zvc E (n + 1) zc_117 d xm_117 26 [r0, r1, r2] ((0, a0) :: (1, z) :: st) mem Post = (zio z 8 = true ∧ ysum st ≤ 8 ∧ yCon E d xm_115 [(1, z), (0, a0)] mem (fun v mem' => zgk E d xm_117 29 [r0, r1, r2] st v mem' Post)) := zrf rfl
theorem s_117_29n {E : yE} {n d : Nat} {mem : yMem} {Post : Option yV → yMem → Prop} {st : List yV} {r0 : Option yV} {x : Int} : zvc E (n + 1) zc_117 d xm_117 29 [r0, none, some (0, x)] (st) mem Post = (zvc E n zc_117 d xm_117 32 [r0, none, some (0, x + 1)] (st) mem Post) := zrf rfl
theorem s_117_29i {E : yE} {n d : Nat} {mem : yMem} {Post : Option yV → yMem → Prop} {st : List yV} {r0 : Option yV} {x w : Int} : zvc E (n + 1) zc_117 d xm_117 29 [r0, some (0, w), some (0, x)] (st) mem Post = (zvc E n zc_117 d xm_117 32 [r0, some (0, w), some (0, x + 1)] (st) mem Post) := zrf rfl
theorem s_117_29p {E : yE} {n d : Nat} {mem : yMem} {Post : Option yV → yMem → Prop} {st : List yV} {r0 : Option yV} {x w : Int} : zvc E (n + 1) zc_117 d xm_117 29 [r0, some (1, w), some (0, x)] (st) mem Post = (zvc E n zc_117 d xm_117 32 [r0, some (1, w), some (0, x + 1)] (st) mem Post) := zrf rfl
theorem s_117_29j {E : yE} {n d : Nat} {mem : yMem} {Post : Option yV → yMem → Prop} {st : List yV} {r0 r1 : Option yV} {x : Int} : zvc E (n + 1) zc_117 d xm_117 29 [r0, r1, some (0, x)] (st) mem Post = (zvc E n zc_117 d xm_117 32 [r0, znl r1, some (0, x + 1)] (st) mem Post) := zrf rfl
theorem s_117_32 {E : yE} {n d : Nat} {mem : yMem} {Post : Option yV → yMem → Prop} {st : List yV} {r0 r1 : Option yV} {x : Int} : zvc E (n + 1) zc_117 d xm_117 32 [r0, r1, some (0, x)] (st) mem Post = (zvc E n zc_117 d xm_117 33 [r0, r1, some (0, x)] ((0, x) :: st) mem Post) := zrf rfl
theorem s_117_33 {E : yE} {n d : Nat} {mem : yMem} {Post : Option yV → yMem → Prop} {st : List yV} {r0 r1 r2 : Option yV} : zvc E (n + 1) zc_117 d xm_117 33 [r0, r1, r2] (st) mem Post = (zvc E n zc_117 d xm_117 34 [r0, r1, r2] ((0, 3) :: st) mem Post) := zrf rfl
theorem s_117_34 {E : yE} {n d : Nat} {mem : yMem} {Post : Option yV → yMem → Prop} {st : List yV} {r0 r1 r2 : Option yV} {x y : Int} : zvc E (n + 1) zc_117 d xm_117 34 [r0, r1, r2] ((0, y) :: (0, x) :: st) mem Post = ((¬ w32 x = w32 y → zvc E n zc_117 d xm_117 58 [r0, r1, r2] (st) mem Post) ∧ (¬ (¬ w32 x = w32 y) → zvc E n zc_117 d xm_117 37 [r0, r1, r2] (st) mem Post)) := zrf rfl
theorem s_117_37 {E : yE} {n d : Nat} {mem : yMem} {Post : Option yV → yMem → Prop} {st : List yV} {r1 r2 : Option yV} {x : Int} : zvc E (n + 1) zc_117 d xm_117 37 [some (1, x), r1, r2] (st) mem Post = (zvc E n zc_117 d xm_117 38 [some (1, x), r1, r2] ((1, x) :: st) mem Post) := zrf rfl
theorem s_117_38 {E : yE} {n d : Nat} {mem : yMem} {Post : Option yV → yMem → Prop} {st : List yV} {r0 r1 r2 : Option yV} : zvc E (n + 1) zc_117 d xm_117 38 [r0, r1, r2] ((1, 54) :: st) mem Post = (zvc E n zc_117 d xm_117 41 [r0, r1, r2] ((1, 55) :: st) mem Post) := zrf rfl
theorem s_117_41 {E : yE} {n d : Nat} {mem : yMem} {Post : Option yV → yMem → Prop} {st : List yV} {r0 r1 r2 : Option yV} : zvc E (n + 1) zc_117 d xm_117 41 [r0, r1, r2] ((1, 55) :: st) mem Post = (zvc E n zc_117 d xm_117 44 [r0, r1, r2] ((0, mem 55 4) :: st) mem Post) := zrf rfl
theorem s_117_44 {E : yE} {n d : Nat} {mem : yMem} {Post : Option yV → yMem → Prop} {st : List yV} {r0 r1 r2 : Option yV} : zvc E (n + 1) zc_117 d xm_117 44 [r0, r1, r2] (st) mem Post = (zvc E n zc_117 d xm_117 46 [r0, r1, r2] ((0, 27) :: st) mem Post) := zrf rfl
theorem s_117_46 {E : yE} {n d : Nat} {mem : yMem} {Post : Option yV → yMem → Prop} {st : List yV} {r0 r1 r2 : Option yV} {x y : Int} : zvc E (n + 1) zc_117 d xm_117 46 [r0, r1, r2] ((0, y) :: (0, x) :: st) mem Post = ((¬ w32 x = w32 y → zvc E n zc_117 d xm_117 58 [r0, r1, r2] (st) mem Post) ∧ (¬ (¬ w32 x = w32 y) → zvc E n zc_117 d xm_117 49 [r0, r1, r2] (st) mem Post)) := zrf rfl
theorem s_117_49 {E : yE} {n d : Nat} {mem : yMem} {Post : Option yV → yMem → Prop} {st : List yV} {r1 r2 : Option yV} {x : Int} : zvc E (n + 1) zc_117 d xm_117 49 [some (1, x), r1, r2] (st) mem Post = (zvc E n zc_117 d xm_117 50 [some (1, x), r1, r2] ((1, x) :: st) mem Post) := zrf rfl
theorem s_117_50 {E : yE} {n d : Nat} {mem : yMem} {Post : Option yV → yMem → Prop} {st : List yV} {r0 r1 r2 : Option yV} : zvc E (n + 1) zc_117 d xm_117 50 [r0, r1, r2] ((1, 54) :: st) mem Post = (zvc E n zc_117 d xm_117 53 [r0, r1, r2] ((1, 55) :: st) mem Post) := zrf rfl
theorem s_117_53 {E : yE} {n d : Nat} {mem : yMem} {Post : Option yV → yMem → Prop} {st : List yV} {r0 r1 r2 : Option yV} : zvc E (n + 1) zc_117 d xm_117 53 [r0, r1, r2] (st) mem Post = (zvc E n zc_117 d xm_117 54 [r0, r1, r2] ((0, 2) :: st) mem Post) := zrf rfl
theorem s_117_54 {E : yE} {n d : Nat} {mem : yMem} {Post : Option yV → yMem → Prop} {st : List yV} {r0 r1 r2 : Option yV} {z a0 : Int} : zvc E (n + 1) zc_117 (d + 1) xm_117 54 [r0, r1, r2] ((0, a0) :: (1, z) :: st) mem Post = (zio z 9 = true ∧ ysum st ≤ 8 ∧ zvc E n [] d xm_123 0 [some (1, z), some (0, a0)] [] mem (fun v mem' => zvk E n zc_117 (d + 1) xm_117 57 [r0, r1, r2] st v mem' Post)) := zrf rfl
theorem s_117_57a {E : yE} {n d : Nat} {mem : yMem} {Post : Option yV → yMem → Prop} {st : List yV} {r0 r1 r2 : Option yV} {x : Int} : zvc E (n + 1) zc_117 d xm_117 57 [r0, r1, r2] ((0, x) :: st) mem Post = (zvc E n zc_117 d xm_117 58 [r0, r1, r2] (st) mem Post) := zrf rfl
theorem s_117_57b {E : yE} {n d : Nat} {mem : yMem} {Post : Option yV → yMem → Prop} {st : List yV} {r0 r1 r2 : Option yV} {x : Int} : zvc E (n + 1) zc_117 d xm_117 57 [r0, r1, r2] ((1, x) :: st) mem Post = (zvc E n zc_117 d xm_117 58 [r0, r1, r2] (st) mem Post) := zrf rfl
theorem s_117_58 {E : yE} {n d : Nat} {mem : yMem} {Post : Option yV → yMem → Prop} {st : List yV} {r0 r1 : Option yV} {x : Int} : zvc E (n + 1) zc_117 d xm_117 58 [r0, r1, some (0, x)] (st) mem Post = (zvc E n zc_117 d xm_117 59 [r0, r1, some (0, x)] ((0, x) :: st) mem Post) := zrf rfl
theorem s_117_59 {E : yE} {n d : Nat} {mem : yMem} {Post : Option yV → yMem → Prop} {st : List yV} {r0 r1 r2 : Option yV} : zvc E (n + 1) zc_117 d xm_117 59 [r0, r1, r2] (st) mem Post = (zvc E n zc_117 d xm_117 60 [r0, r1, r2] ((0, 3) :: st) mem Post) := zrf rfl
theorem s_117_60 {E : yE} {n d : Nat} {mem : yMem} {Post : Option yV → yMem → Prop} {st : List yV} {r0 r1 r2 : Option yV} {x y : Int} : zvc E (n + 1) zc_117 d xm_117 60 [r0, r1, r2] ((0, y) :: (0, x) :: st) mem Post = ((w32 y ≤ w32 x → zvc E n zc_117 d xm_117 75 [r0, r1, r2] (st) mem Post) ∧ (¬ (w32 y ≤ w32 x) → zvc E n zc_117 d xm_117 63 [r0, r1, r2] (st) mem Post)) := zrf rfl
theorem s_117_63 {E : yE} {n d : Nat} {mem : yMem} {Post : Option yV → yMem → Prop} {st : List yV} {r1 r2 : Option yV} {x : Int} : zvc E (n + 1) zc_117 d xm_117 63 [some (1, x), r1, r2] (st) mem Post = (zvc E n zc_117 d xm_117 64 [some (1, x), r1, r2] ((1, x) :: st) mem Post) := zrf rfl
theorem s_117_64 {E : yE} {n d : Nat} {mem : yMem} {Post : Option yV → yMem → Prop} {st : List yV} {r0 r1 r2 : Option yV} : zvc E (n + 1) zc_117 d xm_117 64 [r0, r1, r2] ((1, 54) :: st) mem Post = (zvc E n zc_117 d xm_117 67 [r0, r1, r2] ((1, 55) :: st) mem Post) := zrf rfl
theorem s_117_67 {E : yE} {n d : Nat} {mem : yMem} {Post : Option yV → yMem → Prop} {st : List yV} {r0 r1 r2 : Option yV} : zvc E (n + 1) zc_117 d xm_117 67 [r0, r1, r2] ((1, 55) :: st) mem Post = (zvc E n zc_117 d xm_117 70 [r0, r1, r2] ((0, mem 55 4) :: st) mem Post) := zrf rfl
theorem s_117_70 {E : yE} {n d : Nat} {mem : yMem} {Post : Option yV → yMem → Prop} {st : List yV} {r0 r1 r2 : Option yV} : zvc E (n + 1) zc_117 d xm_117 70 [r0, r1, r2] (st) mem Post = (zvc E n zc_117 d xm_117 72 [r0, r1, r2] ((0, 27) :: st) mem Post) := zrf rfl
theorem s_117_72 {E : yE} {n d : Nat} {mem : yMem} {Post : Option yV → yMem → Prop} {st : List yV} {r0 r1 r2 : Option yV} {x y : Int} : zvc E (n + 1) zc_117 d xm_117 72 [r0, r1, r2] ((0, y) :: (0, x) :: st) mem Post = ((w32 x = w32 y → zvc E n zc_117 d xm_117 20 [r0, r1, r2] (st) mem Post) ∧ (¬ (w32 x = w32 y) → zvc E n zc_117 d xm_117 75 [r0, r1, r2] (st) mem Post)) := zrf rfl
theorem s_117_75 {E : yE} {n d : Nat} {mem : yMem} {Post : Option yV → yMem → Prop} {st : List yV} {r1 r2 : Option yV} {x : Int} : zvc E (n + 1) zc_117 d xm_117 75 [some (1, x), r1, r2] (st) mem Post = (zvc E n zc_117 d xm_117 76 [some (1, x), r1, r2] ((1, x) :: st) mem Post) := zrf rfl
theorem s_117_76 {E : yE} {n d : Nat} {mem : yMem} {Post : Option yV → yMem → Prop} {st : List yV} {r0 r1 r2 : Option yV} : zvc E (n + 1) zc_117 d xm_117 76 [r0, r1, r2] ((1, 54) :: st) mem Post = (zvc E n zc_117 d xm_117 79 [r0, r1, r2] ((1, 28) :: st) mem Post) := zrf rfl
theorem s_117_79_2 {E : yE} {n d : Nat} {mem : yMem} {Post : Option yV → yMem → Prop} {st : List yV} {r0 r1 r2 : Option yV} : zvc E (n + 1) zc_117 d xm_117 79 [r0, r1, r2] ((1, 2) :: st) mem Post = (zvc E n zc_117 d xm_117 82 [r0, r1, r2] ((1, 18) :: st) mem Post) := zrf rfl
theorem s_117_79_28 {E : yE} {n d : Nat} {mem : yMem} {Post : Option yV → yMem → Prop} {st : List yV} {r0 r1 r2 : Option yV} : zvc E (n + 1) zc_117 d xm_117 79 [r0, r1, r2] ((1, 28) :: st) mem Post = (zvc E n zc_117 d xm_117 82 [r0, r1, r2] ((1, 44) :: st) mem Post) := zrf rfl
theorem s_117_82 {E : yE} {n d : Nat} {mem : yMem} {Post : Option yV → yMem → Prop} {st : List yV} {r0 r2 : Option yV} {x : Int} : zvc E (n + 1) zc_117 d xm_117 82 [r0, some (0, x), r2] (st) mem Post = (zvc E n zc_117 d xm_117 83 [r0, some (0, x), r2] ((0, x) :: st) mem Post) := zrf rfl
theorem s_117_83 {E : yE} {n d : Nat} {mem : yMem} {Post : Option yV → yMem → Prop} {st : List yV} {r0 r1 : Option yV} {x : Int} : zvc E (n + 1) zc_117 d xm_117 83 [r0, r1, some (0, x)] (st) mem Post = (zvc E n zc_117 d xm_117 84 [r0, r1, some (0, x)] ((0, x) :: st) mem Post) := zrf rfl
theorem s_117_84 {E : yE} {n d : Nat} {mem : yMem} {Post : Option yV → yMem → Prop} {st : List yV} {r0 r1 r2 : Option yV} {x z j : Int} : zvc E (n + 1) zc_117 d xm_117 84 [r0, r1, r2] ((0, x) :: (0, j) :: (1, z) :: st) mem Post = ((0 ≤ w32 j ∧ w32 j < ((zar z 0 : Nat) : Int)) ∧ zvc E n zc_117 d xm_117 85 [r0, r1, r2] (st) (yset mem z.toNat (w32 j).toNat x) Post) := zrf rfl
theorem s_117_85 {E : yE} {n d : Nat} {mem : yMem} {Post : Option yV → yMem → Prop} {r0 r1 r2 : Option yV} : zvc E (n + 1) zc_117 d xm_117 85 [r0, r1, r2] ([]) mem Post = (Post none mem) := zrf rfl
theorem e_115 {E : yE} {d : Nat} {mem : yMem} {Q : Option yV → yMem → Prop} {z a0 : Int} (h : zG E d xm_115 0 [some (1, z), some (0, a0), none] [] mem Q) : yCon E (d + 1) xm_115 [(1, z), (0, a0)] mem Q := zcon_of xmo_115 (Nat.le_of_ble_eq_true rfl) h
theorem e_117 {E : yE} {d : Nat} {mem : yMem} {Q : Option yV → yMem → Prop} {z : Int} (h : zG E d xm_117 0 [some (1, z), none, none] [] mem Q) : yCon E (d + 1) xm_117 [(1, z)] mem Q := zcon_of xmo_117 (Nat.le_of_ble_eq_true rfl) h

/-! PARTS -/
def pBars : Nat → sY → List Int × sY
  | 0, x => ([], x)
  | 1, x => ([(yNm 0 40 x).1], if yKd (yNm 0 40 x).2 = 2 then yFl 2 (yNm 0 40 x).2 else (yNm 0 40 x).2)
  | c + 2, x => if yKd (yNm 0 40 x).2 = 2 then ((yNm 0 40 x).1 :: (pBars (c + 1) (yNm 0 40 x).2).1, (pBars (c + 1) (yNm 0 40 x).2).2) else ([(yNm 0 40 x).1], (yNm 0 40 x).2)
def ptF (s i j : Nat) : Prop := (i = 46 ∧ s * 8 ≤ j ∧ j < s * 8 + 8) ∨ (i = 45 ∧ j = s) ∨ i = 55
def PtS (b m : yMem) (s : Nat) (l : List Int) : Prop := (∀ i j, ¬ ptF s i j → m i j = b i j) ∧ ∀ j v, l[j]? = some v → w32 (m 46 (s * 8 + j)) = v
theorem ptF_fr {b m : yMem} {s i j : Nat} {x : Int} (h : ∀ i j, ¬ ptF s i j → m i j = b i j) (hv : ptF s i j) : ∀ i' j', ¬ ptF s i' j' → yset m i j x i' j' = b i' j' := fun i' j' h' => by
  rw [yset_a]
  split
  · next e1 =>
    rw [if_neg (fun e2 => h' (by rw [e1, e2]; exact hv))]
    exact h i' j' h'
  · exact h i' j' h'
theorem PtS_tk {b m m' : yMem} {s : Nat} {l : List Int} (h : PtS b m s l) (hF : aFrm cfF m m') : PtS b m' s l :=
  ⟨fun i j hv => by rw [hF i j (amod_n55 (fun e => hv (Or.inr (Or.inr e))))]; exact h.1 i j hv, fun j v hv => by rw [hF 46 _ (amod_n55 (by decide))]; exact h.2 j v hv⟩
section CM
variable {E : yE} {mem b : yMem} {Q : Option yV → yMem → Prop} {ch : Nat → Int} {n : Nat} {x : sY} {d s : Nat} {r : Int}
theorem rp20 (hE : yEok E) (hd : 5 ≤ d) (hs : s < 12) (hr : w32 r = (s : Int)) : ∀ c (k : Int) (y : sY) (m : yMem) (l : List Int), w32 k = (l.length : Int) → c + l.length = 8 → 1 ≤ c → cTk ch n m y → PtS b m s l → (∀ m', cTk ch n m' (pBars c y).2 → PtS b m' s (l ++ (pBars c y).1) → w32 (m' 45 s) = ((l ++ (pBars c y).1).length : Int) → Q none m') → zG E (d + 1) xm_115 20 [some (1, 54), some (0, r), some (0, k)] [] m Q := by
  have hrt : (w32 r).toNat = s := by rw [hr]; exact Int.toNat_natCast _
  intro c
  induction c with
  | zero => intro k y m l _ _ h; omega
  | succ c ih =>
    intro k y m l hk hc _ h hS fin
    refine zgo_ok (n := 60) hE xmo_115 (cs := zc_115) ?_
    simp only [ynok_30, ynok_31, w32c_0, w32c_1, w32c_2, w32c_3, w32c_4, w32c_5, w32c_6, w32c_7, w32c_8, w32c_9, w32c_10, w32c_11, w32c_12, w32c_13, w32c_14, w32c_m1, w32c_m2, w32c_118, Int.reduceAdd, Int.reduceSub, Int.reduceMul, yput_s, yput_n, znl_n, znl_0, znl_1, znl_4, ysum_n, ysum_0, ysum_1, ysum_4, true_and, and_true, Nat.reduceAdd, Nat.reduceLeDiff, true_implies, eq_self, true_or, or_true, or_false, false_or, not_true_eq_false, not_false_eq_true, false_implies, implies_true, yset_s, yset_o, yset_d, ne_eq, Nat.reduceEqDiff, Int.reduceToNat, Int.reduceEq, Int.reduceLE, Int.reduceLT, Classical.not_not, Nat.reduceLT, ↓zvk_s, ↓zvk_n, ↓s_115_0, ↓s_115_1, ↓s_115_3, ↓s_115_6, ↓s_115_9, ↓s_115_10, ↓s_115_13, ↓s_115_14, ↓s_115_17a, ↓s_115_17b, ↓s_115_18, ↓s_115_19n, ↓s_115_19i, ↓s_115_19p, ↓g_115_20, ↓k_115_20, ↓s_115_21, ↓s_115_24_2, ↓s_115_24_28, ↓s_115_27, ↓s_115_28, ↓s_115_30, ↓s_115_31, ↓s_115_32, ↓s_115_33, ↓s_115_34, ↓s_115_35, ↓s_115_37, ↓s_115_40, ↓s_115_41n, ↓s_115_41i, ↓s_115_41p, ↓s_115_44, ↓s_115_45, ↓s_115_47, ↓s_115_50, ↓s_115_51, ↓s_115_54, ↓s_115_57, ↓s_115_58, ↓s_115_61, ↓s_115_62, ↓s_115_65, ↓s_115_66, ↓s_115_69a, ↓s_115_69b, ↓s_115_70, ↓s_115_71, ↓s_115_73, ↓s_115_76, ↓s_115_77, ↓s_115_80, ↓s_115_83, ↓s_115_84, ↓s_115_87, ↓s_115_88, ↓s_115_91_2, ↓s_115_91_28, ↓s_115_94, ↓s_115_95, ↓s_115_96, ↓s_115_97, w32c_27, w32c_40, ↓s_123_0, ↓s_123_1, ↓s_123_4, ↓s_123_7, ↓s_123_8, ↓s_123_9, ↓s_123_12, ↓s_123_13, ↓s_123_14, ↓s_123_17, ↓s_123_20, ↓s_123_21, ↓s_123_22, ↓s_123_25, ↓s_123_26, zio_2, zar_45, zia_45, zln_45, zit_45, zar_46, zia_46, zln_46, zit_46, zar_19, zia_19, zln_19, zit_19, zar_20, zia_20, zln_20, zit_20, zio_54, zio_55, zio_28]
    refine g_number hE (by omega) h (by decide) (by decide) (fun r1 m1 F1 e1 T1 => ?_)
    rw [w32c_0, show w32 40 = 40 by decide] at e1 T1
    refine zgk_s hE xmo_115 60 zc_115 ?_
    simp only [ynok_30, ynok_31, w32c_0, w32c_1, w32c_2, w32c_3, w32c_4, w32c_5, w32c_6, w32c_7, w32c_8, w32c_9, w32c_10, w32c_11, w32c_12, w32c_13, w32c_14, w32c_m1, w32c_m2, w32c_118, Int.reduceAdd, Int.reduceSub, Int.reduceMul, yput_s, yput_n, znl_n, znl_0, znl_1, znl_4, ysum_n, ysum_0, ysum_1, ysum_4, true_and, and_true, Nat.reduceAdd, Nat.reduceLeDiff, true_implies, eq_self, true_or, or_true, or_false, false_or, not_true_eq_false, not_false_eq_true, false_implies, implies_true, yset_s, yset_o, yset_d, ne_eq, Nat.reduceEqDiff, Int.reduceToNat, Int.reduceEq, Int.reduceLE, Int.reduceLT, Classical.not_not, Nat.reduceLT, ↓zvk_s, ↓zvk_n, ↓s_115_0, ↓s_115_1, ↓s_115_3, ↓s_115_6, ↓s_115_9, ↓s_115_10, ↓s_115_13, ↓s_115_14, ↓s_115_17a, ↓s_115_17b, ↓s_115_18, ↓s_115_19n, ↓s_115_19i, ↓s_115_19p, ↓g_115_20, ↓k_115_20, ↓s_115_21, ↓s_115_24_2, ↓s_115_24_28, ↓s_115_27, ↓s_115_28, ↓s_115_30, ↓s_115_31, ↓s_115_32, ↓s_115_33, ↓s_115_34, ↓s_115_35, ↓s_115_37, ↓s_115_40, ↓s_115_41n, ↓s_115_41i, ↓s_115_41p, ↓s_115_44, ↓s_115_45, ↓s_115_47, ↓s_115_50, ↓s_115_51, ↓s_115_54, ↓s_115_57, ↓s_115_58, ↓s_115_61, ↓s_115_62, ↓s_115_65, ↓s_115_66, ↓s_115_69a, ↓s_115_69b, ↓s_115_70, ↓s_115_71, ↓s_115_73, ↓s_115_76, ↓s_115_77, ↓s_115_80, ↓s_115_83, ↓s_115_84, ↓s_115_87, ↓s_115_88, ↓s_115_91_2, ↓s_115_91_28, ↓s_115_94, ↓s_115_95, ↓s_115_96, ↓s_115_97, w32c_27, w32c_40, ↓s_123_0, ↓s_123_1, ↓s_123_4, ↓s_123_7, ↓s_123_8, ↓s_123_9, ↓s_123_12, ↓s_123_13, ↓s_123_14, ↓s_123_17, ↓s_123_20, ↓s_123_21, ↓s_123_22, ↓s_123_25, ↓s_123_26, zio_2, zar_45, zia_45, zln_45, zit_45, zar_46, zia_46, zln_46, zit_46, zar_19, zia_19, zln_19, zit_19, zar_20, zia_20, zln_20, zit_20, zio_54, zio_55, zio_28]
    have ei : w32 (r * 8 + k) = ((s * 8 + l.length : Nat) : Int) := by
      have e8 : w32 (r * 8) = w32 r * 8 := by rw [w32_ml, show w32 8 = 8 by decide]; exact w32_of (by omega) (by omega)
      rw [w32_ad (by omega) (by omega), e8]
      omega
    have ek : w32 (k + 1) = ((l.length + 1 : Nat) : Int) := by rw [w32_ad (by rw [w32c_1]; omega) (by rw [w32c_1]; omega), w32c_1]; omega
    have ej : (w32 (r * 8 + k)).toNat = s * 8 + l.length := by rw [ei]; exact Int.toNat_natCast _
    rw [ej, hrt, ei, ek]
    have T2 : cTk ch n (yset m1 46 (s * 8 + l.length) r1) (yNm 0 40 y).2 := cTk_of T1 (fun j => yset_o (by decide)) (fun j => yset_o (by decide)) (fun j => yset_o (by decide))
    have S2 : PtS b (yset m1 46 (s * 8 + l.length) r1) s (l ++ [(yNm 0 40 y).1]) := by
      obtain ⟨p1, p2⟩ := PtS_tk hS F1
      refine ⟨ptF_fr p1 (Or.inl ⟨rfl, by omega, by omega⟩), fun j v hv => ?_⟩
      rcases app_get hv with hv | ⟨rfl, rfl⟩
      · have hj := get_lt hv
        rw [yset_a, if_pos rfl, if_neg (by omega)]
        exact p2 j v hv
      · rw [yset_s]
        exact e1
    have v4 : yset m1 46 (s * 8 + l.length) r1 55 4 = m1 55 4 := yset_o (by decide)
    have v5 : yset m1 46 (s * 8 + l.length) r1 55 5 = m1 55 5 := yset_o (by decide)
    have v7 : yset m1 46 (s * 8 + l.length) r1 55 7 = m1 55 7 := yset_o (by decide)
    have kd := cTk_kd T1
    rw [← v4, ← v5, ← v7]
    rw [← v4] at kd
    revert T2 S2 kd
    generalize yset m1 46 (s * 8 + l.length) r1 = m2
    intro T2 S2 kd
    have stop : ∀ m3, cTk ch n m3 (pBars (c + 1) y).2 → (pBars (c + 1) y).1 = [(yNm 0 40 y).1] → PtS b m3 s (l ++ [(yNm 0 40 y).1]) → (0 ≤ w32 r ∧ w32 r < ↑12) ∧ Q none (yset m3 45 s (k + 1)) := fun m3 g1 g2 g3 => by
      refine ⟨⟨by omega, by omega⟩, fin _ (cTk_of g1 (fun j => yset_o (by decide)) (fun j => yset_o (by decide)) (fun j => yset_o (by decide))) ?_ ?_⟩
      · rw [g2]
        exact ⟨ptF_fr g3.1 (Or.inr (Or.inl ⟨rfl, rfl⟩)), fun j v hv => by rw [yset_o (by decide)]; exact g3.2 j v hv⟩
      · rw [g2, yset_s, ek, List.length_append]
        rfl
    rw [kd]
    cases c with
    | zero =>
      refine ⟨⟨by omega, by omega⟩, fun q => absurd (show ((l.length + 1 : Nat) : Int) = 8 by omega) q, fun _ => ⟨fun q => ?_, fun q => ?_⟩⟩
      · refine ⟨fun _ => stop m2 ?_ rfl S2, fun q => absurd (show (8 : Int) ≤ ((l.length + 1 : Nat) : Int) by omega) q⟩
        show cTk ch n m2 (if _ then _ else _)
        rw [if_neg (by omega)]
        exact T2
      · have e : (pBars 1 y).2 = yFl 2 (yNm 0 40 y).2 := by
          show (if _ then _ else _) = _
          rw [if_pos (by omega)]
        have go : ∀ m3, aFrm cfF m2 m3 → cTk ch n m3 (yFl 2 (yNm 0 40 y).2) → (0 ≤ w32 r ∧ w32 r < ↑12) ∧ Q none (yset m3 45 s (k + 1)) := fun m3 g1 g2 => stop m3 (by rw [e]; exact g2) rfl (PtS_tk S2 g1)
        exact ⟨fun hz => ⟨fun _ => go _ (g_fl1 (f := 2) T2 hz).1 (g_fl1 T2 hz).2, fun _ => go _ (g_fl1 (f := 2) T2 hz).1 (g_fl1 T2 hz).2⟩, fun hz => ⟨fun _ => go _ (g_fl0 (f := 2) T2 (by decide) (by decide) hz).1 (g_fl0 T2 (by decide) (by decide) hz).2, fun _ => go _ (g_fl0 (f := 2) T2 (by decide) (by decide) hz).1 (g_fl0 T2 (by decide) (by decide) hz).2⟩⟩
    | succ c =>
      refine ⟨⟨by omega, by omega⟩, fun _ => ⟨fun q => absurd q (by omega), fun _ => ⟨fun q => ?_, fun q => ?_⟩⟩, fun q => absurd q (by omega)⟩
      · have e : pBars (c + 2) y = ((yNm 0 40 y).1 :: (pBars (c + 1) (yNm 0 40 y).2).1, (pBars (c + 1) (yNm 0 40 y).2).2) := by
          show (if _ then _ else _) = _
          rw [if_pos (by omega)]
        refine ih (k + 1) _ m2 (l ++ [(yNm 0 40 y).1]) (by rw [ek, List.length_append]; rfl) (by rw [List.length_append]; show c + 1 + (l.length + 1) = 8; omega) (by omega) T2 S2 (fun m' g1 g2 g3 => ?_)
        rw [List.append_assoc] at g2 g3
        exact fin m' (by rw [e]; exact g1) (by rw [e]; exact g2) (by rw [e]; exact g3)
      · have e : pBars (c + 2) y = ([(yNm 0 40 y).1], (yNm 0 40 y).2) := by
          show (if _ then _ else _) = _
          rw [if_neg (by omega)]
        exact stop m2 (by rw [e]; exact T2) (by rw [e]) S2
def pPt (x : sY) : List Int × sY := pBars 8 (if yKd x = 27 then yNx x else yFl 1 x)
theorem g_readPart (hE : yEok E) {D : Nat} (hD : 7 ≤ D) (hs : s < 12) (hr : w32 r = (s : Int)) (h : cTk ch n mem x) (hQ : ∀ m, cTk ch n m (pPt x).2 → PtS mem m s (pPt x).1 → w32 (m 45 s) = ((pPt x).1.length : Int) → Q none m) : yCon E D xm_115 [(1, 54), (0, r)] mem Q := by
  obtain ⟨d, rfl⟩ := Nat.exists_eq_add_of_le' hD
  refine e_115 ?_
  refine zvc_ok hE 90 zc_115 _ _ _ _ _ _ _ xmo_115 ?_
  simp only [ynok_30, ynok_31, w32c_0, w32c_1, w32c_2, w32c_3, w32c_4, w32c_5, w32c_6, w32c_7, w32c_8, w32c_9, w32c_10, w32c_11, w32c_12, w32c_13, w32c_14, w32c_m1, w32c_m2, w32c_118, Int.reduceAdd, Int.reduceSub, Int.reduceMul, yput_s, yput_n, znl_n, znl_0, znl_1, znl_4, ysum_n, ysum_0, ysum_1, ysum_4, true_and, and_true, Nat.reduceAdd, Nat.reduceLeDiff, true_implies, eq_self, true_or, or_true, or_false, false_or, not_true_eq_false, not_false_eq_true, false_implies, implies_true, yset_s, yset_o, yset_d, ne_eq, Nat.reduceEqDiff, Int.reduceToNat, Int.reduceEq, Int.reduceLE, Int.reduceLT, Classical.not_not, Nat.reduceLT, ↓zvk_s, ↓zvk_n, ↓s_115_0, ↓s_115_1, ↓s_115_3, ↓s_115_6, ↓s_115_9, ↓s_115_10, ↓s_115_13, ↓s_115_14, ↓s_115_17a, ↓s_115_17b, ↓s_115_18, ↓s_115_19n, ↓s_115_19i, ↓s_115_19p, ↓g_115_20, ↓k_115_20, ↓s_115_21, ↓s_115_24_2, ↓s_115_24_28, ↓s_115_27, ↓s_115_28, ↓s_115_30, ↓s_115_31, ↓s_115_32, ↓s_115_33, ↓s_115_34, ↓s_115_35, ↓s_115_37, ↓s_115_40, ↓s_115_41n, ↓s_115_41i, ↓s_115_41p, ↓s_115_44, ↓s_115_45, ↓s_115_47, ↓s_115_50, ↓s_115_51, ↓s_115_54, ↓s_115_57, ↓s_115_58, ↓s_115_61, ↓s_115_62, ↓s_115_65, ↓s_115_66, ↓s_115_69a, ↓s_115_69b, ↓s_115_70, ↓s_115_71, ↓s_115_73, ↓s_115_76, ↓s_115_77, ↓s_115_80, ↓s_115_83, ↓s_115_84, ↓s_115_87, ↓s_115_88, ↓s_115_91_2, ↓s_115_91_28, ↓s_115_94, ↓s_115_95, ↓s_115_96, ↓s_115_97, w32c_27, w32c_40, ↓s_119_0, ↓s_119_1, ↓s_119_4, ↓s_119_7, ↓s_119_8, ↓s_119_11, ↓s_119_12, ↓s_119_13, ↓s_119_14, ↓s_119_17, ↓s_119_20, ↓s_119_21, ↓s_123_0, ↓s_123_1, ↓s_123_4, ↓s_123_7, ↓s_123_8, ↓s_123_9, ↓s_123_12, ↓s_123_13, ↓s_123_14, ↓s_123_17, ↓s_123_20, ↓s_123_21, ↓s_123_22, ↓s_123_25, ↓s_123_26, zio_2, zar_45, zia_45, zln_45, zit_45, zar_46, zia_46, zln_46, zit_46, zar_19, zia_19, zln_19, zit_19, zar_20, zia_20, zln_20, zit_20, zio_54, zio_55, zio_28]
  rw [cTk_kd h]
  have go : ∀ m1, aFrm cfF mem m1 → cTk ch n m1 (if yKd x = 27 then yNx x else yFl 1 x) → zG E (d + 6) xm_115 20 [some (1, 54), some (0, r), some (0, 0)] [] m1 Q := fun m1 F1 T1 => by
    refine rp20 (b := mem) (l := []) hE (by omega) hs hr 8 0 _ m1 w32c_0 rfl (by decide) T1 ⟨fun i j hv => F1 i j (amod_n55 (fun e => hv (Or.inr (Or.inr e)))), fun j v hv => by cases hv⟩ (fun m' g1 g2 g3 => hQ m' g1 g2 g3)
  refine ⟨fun hk => ?_, fun hk => ⟨fun hz => go _ (g_fl1 (f := 1) h hz).1 (by rw [if_neg (by omega)]; exact (g_fl1 h hz).2), fun hz => go _ (g_fl0 (f := 1) h (by decide) (by decide) hz).1 (by rw [if_neg (by omega)]; exact (g_fl0 h (by decide) (by decide) hz).2)⟩⟩
  refine g_next hE (by omega) h (fun m1 F1 T1 => ?_)
  refine zgk_n hE xmo_119 60 [] ?_
  simp only [ynok_30, ynok_31, w32c_0, w32c_1, w32c_2, w32c_3, w32c_4, w32c_5, w32c_6, w32c_7, w32c_8, w32c_9, w32c_10, w32c_11, w32c_12, w32c_13, w32c_14, w32c_m1, w32c_m2, w32c_118, Int.reduceAdd, Int.reduceSub, Int.reduceMul, yput_s, yput_n, znl_n, znl_0, znl_1, znl_4, ysum_n, ysum_0, ysum_1, ysum_4, true_and, and_true, Nat.reduceAdd, Nat.reduceLeDiff, true_implies, eq_self, true_or, or_true, or_false, false_or, not_true_eq_false, not_false_eq_true, false_implies, implies_true, yset_s, yset_o, yset_d, ne_eq, Nat.reduceEqDiff, Int.reduceToNat, Int.reduceEq, Int.reduceLE, Int.reduceLT, Classical.not_not, Nat.reduceLT, ↓zvk_s, ↓zvk_n, ↓s_119_0, ↓s_119_1, ↓s_119_4, ↓s_119_7, ↓s_119_8, ↓s_119_11, ↓s_119_12, ↓s_119_13, ↓s_119_14, ↓s_119_17, ↓s_119_20, ↓s_119_21, ↓s_115_0, ↓s_115_1, ↓s_115_3, ↓s_115_6, ↓s_115_9, ↓s_115_10, ↓s_115_13, ↓s_115_14, ↓s_115_17a, ↓s_115_17b, ↓s_115_18, ↓s_115_19n, ↓s_115_19i, ↓s_115_19p, ↓g_115_20, ↓k_115_20, ↓s_115_21, ↓s_115_24_2, ↓s_115_24_28, ↓s_115_27, ↓s_115_28, ↓s_115_30, ↓s_115_31, ↓s_115_32, ↓s_115_33, ↓s_115_34, ↓s_115_35, ↓s_115_37, ↓s_115_40, ↓s_115_41n, ↓s_115_41i, ↓s_115_41p, ↓s_115_44, ↓s_115_45, ↓s_115_47, ↓s_115_50, ↓s_115_51, ↓s_115_54, ↓s_115_57, ↓s_115_58, ↓s_115_61, ↓s_115_62, ↓s_115_65, ↓s_115_66, ↓s_115_69a, ↓s_115_69b, ↓s_115_70, ↓s_115_71, ↓s_115_73, ↓s_115_76, ↓s_115_77, ↓s_115_80, ↓s_115_83, ↓s_115_84, ↓s_115_87, ↓s_115_88, ↓s_115_91_2, ↓s_115_91_28, ↓s_115_94, ↓s_115_95, ↓s_115_96, ↓s_115_97, w32c_27, w32c_40, zio_2, zar_45, zia_45, zln_45, zit_45, zar_46, zia_46, zln_46, zit_46, zar_19, zia_19, zln_19, zit_19, zar_20, zia_20, zln_20, zit_20, zio_54, zio_55, zio_28]
  exact go m1 F1 (by rw [if_pos (by omega)]; exact T1)
end CM
end
section
theorem s_34_0 {E : yE} {n d : Nat} {mem : yMem} {Post : Option yV → yMem → Prop} {st : List yV} {r1 : Option yV} {x : Int} : zvc E (n + 1) [] d xm_34 0 [some (0, x), r1] (st) mem Post = (zvc E n [] d xm_34 1 [some (0, x), r1] ((0, x) :: st) mem Post) := zrf rfl
theorem s_34_1 {E : yE} {n d : Nat} {mem : yMem} {Post : Option yV → yMem → Prop} {st : List yV} {r0 r1 : Option yV} : zvc E (n + 1) [] d xm_34 1 [r0, r1] (st) mem Post = (zvc E n [] d xm_34 2 [r0, r1] ((0, 3) :: st) mem Post) := zrf rfl
theorem s_34_2 {E : yE} {n d : Nat} {mem : yMem} {Post : Option yV → yMem → Prop} {st : List yV} {r0 r1 : Option yV} {x y : Int} : zvc E (n + 1) [] d xm_34 2 [r0, r1] ((0, y) :: (0, x) :: st) mem Post = (zvc E n [] d xm_34 3 [r0, r1] ((0, x * y) :: st) mem Post) := zrf rfl
theorem s_34_3 {E : yE} {n d : Nat} {mem : yMem} {Post : Option yV → yMem → Prop} {st : List yV} {r0 : Option yV} {x : Int} : zvc E (n + 1) [] d xm_34 3 [r0, some (0, x)] (st) mem Post = (zvc E n [] d xm_34 4 [r0, some (0, x)] ((0, x) :: st) mem Post) := zrf rfl
theorem s_34_4 {E : yE} {n d : Nat} {mem : yMem} {Post : Option yV → yMem → Prop} {st : List yV} {r0 r1 : Option yV} {x y : Int} : zvc E (n + 1) [] d xm_34 4 [r0, r1] ((0, y) :: (0, x) :: st) mem Post = (zvc E n [] d xm_34 5 [r0, r1] ((0, x + y) :: st) mem Post) := zrf rfl
theorem s_34_5 {E : yE} {n d : Nat} {mem : yMem} {Post : Option yV → yMem → Prop} {r0 r1 : Option yV} {x : Int} : zvc E (n + 1) [] d xm_34 5 [r0, r1] ([(0, x)]) mem Post = (Post (some (0, x)) mem) := zrf rfl
theorem e_34 {E : yE} {d : Nat} {mem : yMem} {Q : Option yV → yMem → Prop} {a0 a1 : Int} (h : zG E d xm_34 0 [some (0, a0), some (0, a1)] [] mem Q) : yCon E (d + 1) xm_34 [(0, a0), (0, a1)] mem Q := zcon_of xmo_34 (Nat.le_of_ble_eq_true rfl) h

/-! VERSES: name, parts -/
def pPts : Nat → sY → List (List Int) × sY
  | 0, x => ([], x)
  | 1, x => ([(pPt x).1], if yKd (pPt x).2 = 27 then yFl 2 (pPt x).2 else (pPt x).2)
  | c + 2, x => if yKd (pPt x).2 = 27 then ((pPt x).1 :: (pPts (c + 1) (pPt x).2).1, (pPts (c + 1) (pPt x).2).2) else ([(pPt x).1], (pPt x).2)
theorem pBars_len : ∀ c x, (pBars c x).1.length ≤ c
  | 0, x => Nat.le_refl 0
  | 1, x => Nat.le_refl 1
  | c + 2, x => by
    show (if _ then _ else _ : List Int × sY).1.length ≤ c + 2
    split
    · have := pBars_len (c + 1) (yNm 0 40 x).2
      show (pBars (c + 1) (yNm 0 40 x).2).1.length + 1 ≤ c + 2
      omega
    · show 1 ≤ c + 2
      omega
theorem pPts_len : ∀ c x, (pPts c x).1.length ≤ c
  | 0, x => Nat.le_refl 0
  | 1, x => Nat.le_refl 1
  | c + 2, x => by
    show (if _ then _ else _ : List (List Int) × sY).1.length ≤ c + 2
    split
    · have := pPts_len (c + 1) (pPt x).2
      show (pPts (c + 1) (pPt x).2).1.length + 1 ≤ c + 2
      omega
    · show 1 ≤ c + 2
      omega
theorem pPt_len (x : sY) : (pPt x).1.length ≤ 8 := pBars_len 8 _
theorem pPts_mem : ∀ c x q, q ∈ (pPts c x).1 → q.length ≤ 8
  | 0, x, q, h => by cases h
  | 1, x, q, h => by
    rw [List.mem_singleton.mp h]
    exact pPt_len x
  | c + 2, x, q, h => by
    revert h
    show q ∈ (if _ then _ else _ : List (List Int) × sY).1 → _
    split
    · intro h
      rcases List.mem_cons.mp h with rfl | h
      · exact pPt_len x
      · exact pPts_mem (c + 1) _ q h
    · intro h
      rw [List.mem_singleton.mp h]
      exact pPt_len x
def veF (v i j : Nat) : Prop := (i = 46 ∧ v * 24 ≤ j ∧ j < v * 24 + 24) ∨ (i = 45 ∧ v * 3 ≤ j ∧ j < v * 3 + 3) ∨ (i = 44 ∧ j = v) ∨ i = 55
/-- a verse's parts -/
def cPs (m : yMem) (v : Nat) (l : List (List Int)) : Prop := ∀ p q, l[p]? = some q → q.length ≤ 8 ∧ w32 (m 45 (v * 3 + p)) = (q.length : Int) ∧ ∀ j w, q[j]? = some w → w32 (m 46 ((v * 3 + p) * 8 + j)) = w
def VeS (b m : yMem) (v : Nat) (l : List (List Int)) : Prop := (∀ i j, ¬ veF v i j → m i j = b i j) ∧ cPs m v l
theorem veF_fr {b m : yMem} {s i j : Nat} {x : Int} (h : ∀ i j, ¬ veF s i j → m i j = b i j) (hv : veF s i j) : ∀ i' j', ¬ veF s i' j' → yset m i j x i' j' = b i' j' := fun i' j' h' => by
  rw [yset_a]
  split
  · next e1 =>
    rw [if_neg (fun e2 => h' (by rw [e1, e2]; exact hv))]
    exact h i' j' h'
  · exact h i' j' h'
theorem cPs_eq {m m' : yMem} {v : Nat} {l : List (List Int)} (h : cPs m v l) (h5 : ∀ p, p < l.length → m' 45 (v * 3 + p) = m 45 (v * 3 + p)) (h6 : ∀ p j, p < l.length → j < 8 → m' 46 ((v * 3 + p) * 8 + j) = m 46 ((v * 3 + p) * 8 + j)) : cPs m' v l := fun p q hq => by
  obtain ⟨h1, h2, h3⟩ := h p q hq
  have hp := get_lt hq
  refine ⟨h1, by rw [h5 p hp]; exact h2, fun j w hw => ?_⟩
  have hj := get_lt hw
  rw [h6 p j hp (by omega)]
  exact h3 j w hw
section CN
variable {E : yE} {mem b : yMem} {Q : Option yV → yMem → Prop} {ch : Nat → Int} {n : Nat} {x : sY} {d v : Nat} {r : Int}
theorem rq20 (hE : yEok E) (hd : 7 ≤ d) (hs : v < 4) (hr : w32 r = (v : Int)) : ∀ c (k : Int) (y : sY) (m : yMem) (l : List (List Int)), w32 k = (l.length : Int) → c + l.length = 3 → 1 ≤ c → cTk ch n m y → VeS b m v l → (∀ m', cTk ch n m' (pPts c y).2 → VeS b m' v (l ++ (pPts c y).1) → w32 (m' 44 v) = ((l ++ (pPts c y).1).length : Int) → Q none m') → zG E (d + 1) xm_117 20 [some (1, 54), some (0, r), some (0, k)] [] m Q := by
  have hrt : (w32 r).toNat = v := by rw [hr]; exact Int.toNat_natCast _
  intro c
  induction c with
  | zero => intro k y m l _ _ h; omega
  | succ c ih =>
    intro k y m l hk hc _ h hS fin
    refine zgo_ok (n := 60) hE xmo_117 (cs := zc_117) ?_
    simp only [ynok_30, ynok_31, w32c_0, w32c_1, w32c_2, w32c_3, w32c_4, w32c_5, w32c_6, w32c_7, w32c_8, w32c_9, w32c_10, w32c_11, w32c_12, w32c_13, w32c_14, w32c_m1, w32c_m2, w32c_118, Int.reduceAdd, Int.reduceSub, Int.reduceMul, yput_s, yput_n, znl_n, znl_0, znl_1, znl_4, ysum_n, ysum_0, ysum_1, ysum_4, true_and, and_true, Nat.reduceAdd, Nat.reduceLeDiff, true_implies, eq_self, true_or, or_true, or_false, false_or, not_true_eq_false, not_false_eq_true, false_implies, implies_true, yset_s, yset_o, yset_d, ne_eq, Nat.reduceEqDiff, Int.reduceToNat, Int.reduceEq, Int.reduceLE, Int.reduceLT, Classical.not_not, Nat.reduceLT, ↓zvk_s, ↓zvk_n, ↓s_117_0, ↓s_117_1, ↓s_117_2, ↓s_117_5_2, ↓s_117_5_28, ↓s_117_8, ↓s_117_11n, ↓s_117_11i, ↓s_117_11p, ↓s_117_12, ↓s_117_13, ↓s_117_14, ↓s_117_17, ↓s_117_18, ↓s_117_19n, ↓s_117_19i, ↓s_117_19p, ↓g_117_20, ↓k_117_20, ↓s_117_21, ↓s_117_22, ↓s_117_23, ↓s_117_26, ↓s_117_29n, ↓s_117_29i, ↓s_117_29p, ↓s_117_32, ↓s_117_33, ↓s_117_34, ↓s_117_37, ↓s_117_38, ↓s_117_41, ↓s_117_44, ↓s_117_46, ↓s_117_49, ↓s_117_50, ↓s_117_53, ↓s_117_54, ↓s_117_57a, ↓s_117_57b, ↓s_117_58, ↓s_117_59, ↓s_117_60, ↓s_117_63, ↓s_117_64, ↓s_117_67, ↓s_117_70, ↓s_117_72, ↓s_117_75, ↓s_117_76, ↓s_117_79_2, ↓s_117_79_28, ↓s_117_82, ↓s_117_83, ↓s_117_84, ↓s_117_85, w32c_27, ↓s_123_0, ↓s_123_1, ↓s_123_4, ↓s_123_7, ↓s_123_8, ↓s_123_9, ↓s_123_12, ↓s_123_13, ↓s_123_14, ↓s_123_17, ↓s_123_20, ↓s_123_21, ↓s_123_22, ↓s_123_25, ↓s_123_26, ↓s_34_0, ↓s_34_1, ↓s_34_2, ↓s_34_3, ↓s_34_4, ↓s_34_5, zio_33, zio_2, zio_7, zar_44, zia_44, zln_44, zit_44, zar_18, zia_18, zln_18, zit_18, zio_54, zio_55, zio_28]
    have ei : w32 (r * 3 + k) = ((v * 3 + l.length : Nat) : Int) := by
      have e8 : w32 (r * 3) = w32 r * 3 := by rw [w32_ml, w32c_3]; exact w32_of (by omega) (by omega)
      rw [w32_ad (by omega) (by omega), e8]
      omega
    refine g_readPart hE (by omega) (by omega) ei h (fun m1 T1 P1 e1 => ?_)
    refine zgk_n hE xmo_117 60 zc_117 ?_
    simp only [ynok_30, ynok_31, w32c_0, w32c_1, w32c_2, w32c_3, w32c_4, w32c_5, w32c_6, w32c_7, w32c_8, w32c_9, w32c_10, w32c_11, w32c_12, w32c_13, w32c_14, w32c_m1, w32c_m2, w32c_118, Int.reduceAdd, Int.reduceSub, Int.reduceMul, yput_s, yput_n, znl_n, znl_0, znl_1, znl_4, ysum_n, ysum_0, ysum_1, ysum_4, true_and, and_true, Nat.reduceAdd, Nat.reduceLeDiff, true_implies, eq_self, true_or, or_true, or_false, false_or, not_true_eq_false, not_false_eq_true, false_implies, implies_true, yset_s, yset_o, yset_d, ne_eq, Nat.reduceEqDiff, Int.reduceToNat, Int.reduceEq, Int.reduceLE, Int.reduceLT, Classical.not_not, Nat.reduceLT, ↓zvk_s, ↓zvk_n, ↓s_117_0, ↓s_117_1, ↓s_117_2, ↓s_117_5_2, ↓s_117_5_28, ↓s_117_8, ↓s_117_11n, ↓s_117_11i, ↓s_117_11p, ↓s_117_12, ↓s_117_13, ↓s_117_14, ↓s_117_17, ↓s_117_18, ↓s_117_19n, ↓s_117_19i, ↓s_117_19p, ↓g_117_20, ↓k_117_20, ↓s_117_21, ↓s_117_22, ↓s_117_23, ↓s_117_26, ↓s_117_29n, ↓s_117_29i, ↓s_117_29p, ↓s_117_32, ↓s_117_33, ↓s_117_34, ↓s_117_37, ↓s_117_38, ↓s_117_41, ↓s_117_44, ↓s_117_46, ↓s_117_49, ↓s_117_50, ↓s_117_53, ↓s_117_54, ↓s_117_57a, ↓s_117_57b, ↓s_117_58, ↓s_117_59, ↓s_117_60, ↓s_117_63, ↓s_117_64, ↓s_117_67, ↓s_117_70, ↓s_117_72, ↓s_117_75, ↓s_117_76, ↓s_117_79_2, ↓s_117_79_28, ↓s_117_82, ↓s_117_83, ↓s_117_84, ↓s_117_85, w32c_27, ↓s_123_0, ↓s_123_1, ↓s_123_4, ↓s_123_7, ↓s_123_8, ↓s_123_9, ↓s_123_12, ↓s_123_13, ↓s_123_14, ↓s_123_17, ↓s_123_20, ↓s_123_21, ↓s_123_22, ↓s_123_25, ↓s_123_26, zio_33, zio_2, zio_7, zar_44, zia_44, zln_44, zit_44, zar_18, zia_18, zln_18, zit_18, zio_54, zio_55, zio_28]
    have ek : w32 (k + 1) = ((l.length + 1 : Nat) : Int) := by rw [w32_ad (by rw [w32c_1]; omega) (by rw [w32c_1]; omega), w32c_1]; omega
    rw [hrt, ek]
    have S2 : VeS b m1 v (l ++ [(pPt y).1]) := by
      refine ⟨fun i j hv => ?_, fun p q hq => ?_⟩
      · rw [P1.1 i j (fun hp => hv (by unfold ptF at hp; unfold veF; omega))]
        exact hS.1 i j hv
      · rcases app_get hq with hq | ⟨rfl, rfl⟩
        · have hp := get_lt hq
          obtain ⟨h1, h2, h3⟩ := hS.2 p q hq
          refine ⟨h1, by rw [P1.1 45 _ (by unfold ptF; omega)]; exact h2, fun j w hw => ?_⟩
          have hj := get_lt hw
          rw [P1.1 46 _ (by unfold ptF; omega)]
          exact h3 j w hw
        · exact ⟨pPt_len y, e1, fun j w hw => P1.2 j w hw⟩
    have kd := cTk_kd T1
    have tkS : ∀ m3, aFrm cfF m1 m3 → VeS b m3 v (l ++ [(pPt y).1]) := fun m3 hF => ⟨fun i j hv => by rw [hF i j (amod_n55 (fun e => hv (Or.inr (Or.inr (Or.inr e)))))]; exact S2.1 i j hv, cPs_eq S2.2 (fun p _ => hF 45 _ (amod_n55 (by decide))) (fun p j _ _ => hF 46 _ (amod_n55 (by decide)))⟩
    have stop : ∀ m3, cTk ch n m3 (pPts (c + 1) y).2 → (pPts (c + 1) y).1 = [(pPt y).1] → VeS b m3 v (l ++ [(pPt y).1]) → (0 ≤ w32 r ∧ w32 r < ↑4) ∧ Q none (yset m3 44 v (k + 1)) := fun m3 g1 g2 g3 => by
      refine ⟨⟨by omega, by omega⟩, fin _ (cTk_of g1 (fun j => yset_o (by decide)) (fun j => yset_o (by decide)) (fun j => yset_o (by decide))) ?_ ?_⟩
      · rw [g2]
        exact ⟨veF_fr g3.1 (Or.inr (Or.inr (Or.inl ⟨rfl, rfl⟩))), cPs_eq g3.2 (fun p _ => yset_o (by decide)) (fun p j _ _ => yset_o (by decide))⟩
      · rw [g2, yset_s, ek, List.length_append]
        rfl
    rw [kd]
    cases c with
    | zero =>
      refine ⟨fun q => absurd (show ((l.length + 1 : Nat) : Int) = 3 by omega) q, fun _ => ⟨fun q => ?_, fun q => ?_⟩⟩
      · refine ⟨fun _ => stop m1 ?_ rfl S2, fun q => absurd (show (3 : Int) ≤ ((l.length + 1 : Nat) : Int) by omega) q⟩
        show cTk ch n m1 (if _ then _ else _)
        rw [if_neg (by omega)]
        exact T1
      · have e : (pPts 1 y).2 = yFl 2 (pPt y).2 := by
          show (if _ then _ else _) = _
          rw [if_pos (by omega)]
        have go : ∀ m3, aFrm cfF m1 m3 → cTk ch n m3 (yFl 2 (pPt y).2) → (0 ≤ w32 r ∧ w32 r < ↑4) ∧ Q none (yset m3 44 v (k + 1)) := fun m3 g1 g2 => stop m3 (by rw [e]; exact g2) rfl (tkS m3 g1)
        exact ⟨fun hz => ⟨fun _ => go _ (g_fl1 (f := 2) T1 hz).1 (g_fl1 T1 hz).2, fun _ => go _ (g_fl1 (f := 2) T1 hz).1 (g_fl1 T1 hz).2⟩, fun hz => ⟨fun _ => go _ (g_fl0 (f := 2) T1 (by decide) (by decide) hz).1 (g_fl0 T1 (by decide) (by decide) hz).2, fun _ => go _ (g_fl0 (f := 2) T1 (by decide) (by decide) hz).1 (g_fl0 T1 (by decide) (by decide) hz).2⟩⟩
    | succ c =>
      refine ⟨fun _ => ⟨fun q => absurd q (by omega), fun _ => ⟨fun q => ?_, fun q => ?_⟩⟩, fun q => absurd q (by omega)⟩
      · have e : pPts (c + 2) y = ((pPt y).1 :: (pPts (c + 1) (pPt y).2).1, (pPts (c + 1) (pPt y).2).2) := by
          show (if _ then _ else _) = _
          rw [if_pos (by omega)]
        refine ih (k + 1) _ m1 (l ++ [(pPt y).1]) (by rw [ek, List.length_append]; rfl) (by rw [List.length_append]; show c + 1 + (l.length + 1) = 3; omega) (by omega) T1 S2 (fun m' g1 g2 g3 => ?_)
        rw [List.append_assoc] at g2 g3
        exact fin m' (by rw [e]; exact g1) (by rw [e]; exact g2) (by rw [e]; exact g3)
      · have e : pPts (c + 2) y = ([(pPt y).1], (pPt y).2) := by
          show (if _ then _ else _) = _
          rw [if_neg (by omega)]
        exact stop m1 (by rw [e]; exact T1) (by rw [e]) S2
abbrev dVe : Type := List (Int × List (List Int))
def cVe (m : yMem) (ve : dVe) : Prop := cNm m 33 4 (ve.map (fun t => t.1)) ∧ ∀ j t, ve[j]? = some t → t.2.length ≤ 3 ∧ w32 (m 44 j) = (t.2.length : Int) ∧ cPs m j t.2
def pVe (ve : dVe) (x : sY) : sY × (Int × List (List Int)) := if (yBg (ve.map (fun t => t.1)) 4 x).1 = -1 then ((yBg (ve.map (fun t => t.1)) 4 x).2, (0, [])) else ((pPts 3 (yBg (ve.map (fun t => t.1)) 4 x).2).2, (yVl (yNx x), (pPts 3 (yBg (ve.map (fun t => t.1)) 4 x).2).1))
abbrev veW : List (Nat × Nat) := [(55, 0), (33, 2), (34, 0), (44, 0), (45, 0), (46, 0)]
theorem veF_W {len i j : Nat} (h : amod veW i j = false) : ¬ veF len i j := fun hv => by
  have : amod veW i j = true := by
    rcases hv with ⟨rfl, _⟩ | ⟨rfl, _⟩ | ⟨rfl, _⟩ | rfl <;> rfl
  rw [this] at h
  cases h
theorem g_readVerse (hE : yEok E) {D : Nat} (hD : 9 ≤ D) {ve : dVe} (h : cTk ch n mem x) (hV : cVe mem ve) (hQ : ∀ m, aFrm veW mem m → cTk ch n m (pVe ve x).1 → (∀ l, (pVe ve x).1 = .inr l → cVe m (ve ++ [(pVe ve x).2])) → Q none m) : yCon E D xm_117 [(1, 54)] mem Q := by
  obtain ⟨d, rfl⟩ := Nat.exists_eq_add_of_le' hD
  refine e_117 ?_
  refine zvc_ok hE 90 zc_117 _ _ _ _ _ _ _ xmo_117 ?_
  simp only [ynok_30, ynok_31, w32c_0, w32c_1, w32c_2, w32c_3, w32c_4, w32c_5, w32c_6, w32c_7, w32c_8, w32c_9, w32c_10, w32c_11, w32c_12, w32c_13, w32c_14, w32c_m1, w32c_m2, w32c_118, Int.reduceAdd, Int.reduceSub, Int.reduceMul, yput_s, yput_n, znl_n, znl_0, znl_1, znl_4, ysum_n, ysum_0, ysum_1, ysum_4, true_and, and_true, Nat.reduceAdd, Nat.reduceLeDiff, true_implies, eq_self, true_or, or_true, or_false, false_or, not_true_eq_false, not_false_eq_true, false_implies, implies_true, yset_s, yset_o, yset_d, ne_eq, Nat.reduceEqDiff, Int.reduceToNat, Int.reduceEq, Int.reduceLE, Int.reduceLT, Classical.not_not, Nat.reduceLT, ↓zvk_s, ↓zvk_n, ↓s_117_0, ↓s_117_1, ↓s_117_2, ↓s_117_5_2, ↓s_117_5_28, ↓s_117_8, ↓s_117_11n, ↓s_117_11i, ↓s_117_11p, ↓s_117_12, ↓s_117_13, ↓s_117_14, ↓s_117_17, ↓s_117_18, ↓s_117_19n, ↓s_117_19i, ↓s_117_19p, ↓g_117_20, ↓k_117_20, ↓s_117_21, ↓s_117_22, ↓s_117_23, ↓s_117_26, ↓s_117_29n, ↓s_117_29i, ↓s_117_29p, ↓s_117_32, ↓s_117_33, ↓s_117_34, ↓s_117_37, ↓s_117_38, ↓s_117_41, ↓s_117_44, ↓s_117_46, ↓s_117_49, ↓s_117_50, ↓s_117_53, ↓s_117_54, ↓s_117_57a, ↓s_117_57b, ↓s_117_58, ↓s_117_59, ↓s_117_60, ↓s_117_63, ↓s_117_64, ↓s_117_67, ↓s_117_70, ↓s_117_72, ↓s_117_75, ↓s_117_76, ↓s_117_79_2, ↓s_117_79_28, ↓s_117_82, ↓s_117_83, ↓s_117_84, ↓s_117_85, w32c_27, zio_33, zio_2, zio_7, zar_44, zia_44, zln_44, zit_44, zar_18, zia_18, zln_18, zit_18, zio_54, zio_55, zio_28]
  refine g_begin_33 hE (by omega) h hV.1 (fun r m1 F1 h1 T1 k1 kk => ?_)
  have G1 : aFrm veW mem m1 := aFrm_w F1 (by decide)
  have hb := yBg_1 (nm := ve.map (fun t => t.1)) (mx := 4) (x := x)
  have hlen : (ve.map (fun t => t.1)).length = ve.length := List.length_map _
  rw [hlen] at hb
  refine zgk_s hE xmo_117 60 zc_117 ?_
  simp only [ynok_30, ynok_31, w32c_0, w32c_1, w32c_2, w32c_3, w32c_4, w32c_5, w32c_6, w32c_7, w32c_8, w32c_9, w32c_10, w32c_11, w32c_12, w32c_13, w32c_14, w32c_m1, w32c_m2, w32c_118, Int.reduceAdd, Int.reduceSub, Int.reduceMul, yput_s, yput_n, znl_n, znl_0, znl_1, znl_4, ysum_n, ysum_0, ysum_1, ysum_4, true_and, and_true, Nat.reduceAdd, Nat.reduceLeDiff, true_implies, eq_self, true_or, or_true, or_false, false_or, not_true_eq_false, not_false_eq_true, false_implies, implies_true, yset_s, yset_o, yset_d, ne_eq, Nat.reduceEqDiff, Int.reduceToNat, Int.reduceEq, Int.reduceLE, Int.reduceLT, Classical.not_not, Nat.reduceLT, ↓zvk_s, ↓zvk_n, ↓s_117_0, ↓s_117_1, ↓s_117_2, ↓s_117_5_2, ↓s_117_5_28, ↓s_117_8, ↓s_117_11n, ↓s_117_11i, ↓s_117_11p, ↓s_117_12, ↓s_117_13, ↓s_117_14, ↓s_117_17, ↓s_117_18, ↓s_117_19n, ↓s_117_19i, ↓s_117_19p, ↓g_117_20, ↓k_117_20, ↓s_117_21, ↓s_117_22, ↓s_117_23, ↓s_117_26, ↓s_117_29n, ↓s_117_29i, ↓s_117_29p, ↓s_117_32, ↓s_117_33, ↓s_117_34, ↓s_117_37, ↓s_117_38, ↓s_117_41, ↓s_117_44, ↓s_117_46, ↓s_117_49, ↓s_117_50, ↓s_117_53, ↓s_117_54, ↓s_117_57a, ↓s_117_57b, ↓s_117_58, ↓s_117_59, ↓s_117_60, ↓s_117_63, ↓s_117_64, ↓s_117_67, ↓s_117_70, ↓s_117_72, ↓s_117_75, ↓s_117_76, ↓s_117_79_2, ↓s_117_79_28, ↓s_117_82, ↓s_117_83, ↓s_117_84, ↓s_117_85, w32c_27, zio_33, zio_2, zio_7, zar_44, zia_44, zln_44, zit_44, zar_18, zia_18, zln_18, zit_18, zio_54, zio_55, zio_28]
  refine ⟨fun hr => ?_, fun hr => ?_⟩
  · obtain ⟨hb1, hb2⟩ : (yBg (ve.map (fun t => t.1)) 4 x).1 = (ve.length : Int) ∧ ve.length < 4 := by
      rcases hb with ⟨h0, _⟩ | hb
      · exact absurd (h1.trans h0) hr
      · exact hb
    have hrl : w32 r = (ve.length : Int) := h1.trans hb1
    have e0 : ¬ (yBg (ve.map (fun t => t.1)) 4 x).1 = -1 := by omega
    have ep : pVe ve x = ((pPts 3 (yBg (ve.map (fun t => t.1)) 4 x).2).2, (yVl (yNx x), (pPts 3 (yBg (ve.map (fun t => t.1)) 4 x).2).1)) := by unfold pVe; rw [if_neg e0]
    rw [ep] at hQ
    revert T1 hQ
    generalize (yBg (ve.map (fun t => t.1)) 4 x).2 = y
    intro hQ T1
    refine rq20 (b := m1) (l := []) hE (by omega) hb2 hrl 3 0 y m1 w32c_0 rfl (by decide) T1 ⟨fun _ _ _ => rfl, fun p q hq => by cases hq⟩ (fun m' g1 g2 g3 => ?_)
    refine hQ m' (aFrm_tt G1 (fun i j hij => g2.1 i j (veF_W hij))) g1 (fun l _ => ⟨?_, fun j t ht => ?_⟩)
    · rw [List.map_append]
      exact cNm_fr (kk hr) (g2.1 33 1 (by unfold veF; omega)) (fun j => g2.1 34 j (by unfold veF; omega))
    · rcases app_get ht with ht | ⟨rfl, rfl⟩
      · have hj := get_lt ht
        obtain ⟨a1, a2, a3⟩ := hV.2 j t ht
        refine ⟨a1, ?_, cPs_eq a3 (fun p hp => ?_) (fun p q hp hq => ?_)⟩
        · rw [g2.1 44 j (by unfold veF; omega), F1 44 j rfl]
          exact a2
        · rw [g2.1 45 _ (by unfold veF; omega), F1 45 _ rfl]
        · rw [g2.1 46 _ (by unfold veF; omega), F1 46 _ rfl]
      · exact ⟨pPts_len 3 y, g3, g2.2⟩
  · have e0 : (yBg (ve.map (fun t => t.1)) 4 x).1 = -1 := by rw [← h1]; exact hr
    have ep : pVe ve x = ((yBg (ve.map (fun t => t.1)) 4 x).2, (0, [])) := by unfold pVe; rw [if_pos e0]
    refine hQ m1 G1 (by rw [ep]; exact T1) (fun l hl => ?_)
    rcases hb with ⟨_, e, he⟩ | ⟨hb, _⟩
    · rw [ep] at hl
      rw [he] at hl
      cases hl
    · omega
end CN
end
section
/-! THE CLASS'S E: what it holds back, what it has put -/
def cWt (m : yMem) : List Nat → Prop
  | [] => True
  | k :: w => w32 (m 53 w.length) = (k : Int) ∧ cWt m w ∧ (k = 5 ∨ sLv k ≠ 0)
def cKs (m : yMem) : sK → Prop
  | [] => True
  | t :: o => w32 (m 49 o.length) = (t.1 : Int) ∧ (t.1 = 2 → w32 (m 50 o.length) = t.2) ∧ cKs m o
def sNs : List Nat → Nat
  | [] => 0
  | k :: w => sNs w + if k = 5 then 0 else 1
def sOs : List Nat → Nat
  | [] => 0
  | k :: w => sOs w + if k = 5 then 1 else 0
theorem sNO : ∀ w : List Nat, sNs w + sOs w = w.length
  | [] => rfl
  | k :: w => by
    have := sNO w
    simp only [sNs, sOs, List.length_cons]
    split <;> omega
theorem cWt_eq {m m' : yMem} : ∀ {w : List Nat}, cWt m w → (∀ j, j < w.length → m' 53 j = m 53 j) → cWt m' w
  | [], _, _ => trivial
  | k :: w, h, hE => ⟨by rw [hE _ (Nat.lt_succ_self _)]; exact h.1, cWt_eq h.2.1 (fun j hj => hE j (Nat.lt_succ_of_lt hj)), h.2.2⟩
theorem cKs_eq {m m' : yMem} : ∀ {o : sK}, cKs m o → (∀ j, j < o.length → m' 49 j = m 49 j) → (∀ j, j < o.length → m' 50 j = m 50 j) → cKs m' o
  | [], _, _, _ => trivial
  | t :: o, h, h1, h2 => ⟨by rw [h1 _ (Nat.lt_succ_self _)]; exact h.1, fun q => by rw [h2 _ (Nat.lt_succ_self _)]; exact h.2.1 q, cKs_eq h.2.2 (fun j hj => h1 j (Nat.lt_succ_of_lt hj)) (fun j hj => h2 j (Nat.lt_succ_of_lt hj))⟩
def cFo (m : yMem) (w : List Nat) (cn op : Nat) (o : sK) : Prop := (w32 (m 48 6) = (w.length : Int) ∧ cWt m w) ∧ (w32 (m 48 8) = (cn : Int) ∧ w32 (m 48 7) = (op : Int)) ∧ (w32 (m 48 4) = (o.length : Int) ∧ cKs m o) ∧ o.length + sNs w ≤ cn ∧ cn ≤ 64 ∧ op ≤ 8 ∧ sOs w = op
theorem cFo_of {m m' : yMem} {w : List Nat} {cn op : Nat} {o : sK} (h : cFo m w cn op o) (h48 : ∀ j, j ≠ 9 → m' 48 j = m 48 j) (h49 : ∀ j, m' 49 j = m 49 j) (h50 : ∀ j, m' 50 j = m 50 j) (h53 : ∀ j, m' 53 j = m 53 j) : cFo m' w cn op o := by
  obtain ⟨⟨a1, a2⟩, ⟨a3, a4⟩, ⟨a5, a6⟩, a7⟩ := h
  exact ⟨⟨by rw [h48 6 (by decide)]; exact a1, cWt_eq a2 (fun j _ => h53 j)⟩, ⟨by rw [h48 8 (by decide)]; exact a3, by rw [h48 7 (by decide)]; exact a4⟩, ⟨by rw [h48 4 (by decide)]; exact a5, cKs_eq a6 (fun j _ => h49 j) (fun j _ => h50 j)⟩, a7⟩
theorem cKs_put {m : yMem} {o : sK} {K V : Int} {k : Nat} {v : Int} (h : cKs m o) (hK : w32 K = (k : Int)) (hV : k = 2 → w32 V = v) : cKs (yset (yset m 49 o.length K) 50 o.length V) ((k, v) :: o) :=
  ⟨by rw [yset_o (by decide), yset_s]; exact hK, fun q => by rw [yset_s]; exact hV q, cKs_eq h (fun j hj => by rw [yset_o (by decide), yset_d (by omega)]) (fun j hj => by rw [yset_d (by omega), yset_o (by decide)])⟩
section CP
variable {E : yE} {mem : yMem} {Q : Option yV → yMem → Prop}
theorem sLv_n0 {k : Nat} (h : ¬ k = 30) (h1 : ¬ k = 31) (h2 : ¬ k = 32) (h3 : ¬ (7 ≤ k ∧ k ≤ 12)) (h4 : ¬ (k = 13 ∨ k = 14)) (h5 : ¬ (k = 15 ∨ k = 16)) : sLv k = 0 := by
  unfold sLv
  rw [if_neg h, if_neg h1, if_neg h2, if_neg h3, if_neg h4, if_neg h5]
theorem g_levelOf (hE : yEok E) {D : Nat} (hD : 1 ≤ D) {k : Int} {q : Nat} (hk : w32 k = (q : Int)) (hQ : ∀ x, w32 x = (sLv q : Int) → Q (some (0, x)) mem) : yCon E D xm_65 [(0, k)] mem Q := by
  obtain ⟨d, rfl⟩ := Nat.exists_eq_add_of_le' hD
  refine e_65 ?_
  refine zvc_ok hE 40 [] _ _ _ _ _ _ _ xmo_65 ?_
  simp only [ynok_30, ynok_31, w32c_0, w32c_1, w32c_2, w32c_3, w32c_4, w32c_5, w32c_6, w32c_7, w32c_8, w32c_9, w32c_10, w32c_11, w32c_12, w32c_13, w32c_14, w32c_m1, w32c_m2, w32c_118, Int.reduceAdd, Int.reduceSub, Int.reduceMul, yput_s, yput_n, znl_n, znl_0, znl_1, znl_4, ysum_n, ysum_0, ysum_1, ysum_4, true_and, and_true, Nat.reduceAdd, Nat.reduceLeDiff, true_implies, eq_self, true_or, or_true, or_false, false_or, not_true_eq_false, not_false_eq_true, false_implies, implies_true, yset_s, yset_o, yset_d, ne_eq, Nat.reduceEqDiff, Int.reduceToNat, Int.reduceEq, Int.reduceLE, Int.reduceLT, Classical.not_not, Nat.reduceLT, ↓zvk_s, ↓zvk_n, ↓s_65_0, ↓s_65_1, ↓s_65_96, ↓s_65_97, ↓s_65_98, ↓s_65_99, ↓s_65_100, ↓s_65_101, ↓s_65_102, ↓s_65_103, ↓s_65_104, ↓s_65_106, ↓s_65_107, ↓s_65_108, ↓s_65_110, ↓s_65_113, ↓s_65_114, ↓s_65_116, ↓s_65_119, ↓s_65_120, ↓s_65_123, ↓s_65_124]
  rw [hk]
  have H : ∀ x : Int, ∀ y : Nat, w32 x = (y : Int) → sLv q = y → Q (some (0, x)) mem := fun x y h1 h2 => hQ x (by rw [h1, h2])
  have L0 : ((q < 7 ∨ 16 < q) ∧ q ≠ 30 ∧ q ≠ 31 ∧ q ≠ 32) → sLv q = 0 := fun h => sLv_n0 (by omega) (by omega) (by omega) (by omega) (by omega) (by omega)
  have L4 : (7 ≤ q ∧ q ≤ 12) → sLv q = 4 := fun h => by unfold sLv; rw [if_neg (by omega), if_neg (by omega), if_neg (by omega), if_pos h]
  have L5 : (q = 13 ∨ q = 14) → sLv q = 5 := fun h => by unfold sLv; rw [if_neg (by omega), if_neg (by omega), if_neg (by omega), if_neg (by omega), if_pos h]
  have L6 : (q = 15 ∨ q = 16) → sLv q = 6 := fun h => by unfold sLv; rw [if_neg (by omega), if_neg (by omega), if_neg (by omega), if_neg (by omega), if_neg (by omega), if_pos h]
  have L1 : q = 30 → sLv q = 1 := fun h => by rw [h]; rfl
  have L2 : q = 31 → sLv q = 2 := fun h => by rw [h]; rfl
  have L3 : q = 32 → sLv q = 3 := fun h => by rw [h]; rfl
  repeat' (first | (refine ⟨?_, ?_⟩) | (intro _))
  all_goals first | exact H 0 0 w32c_0 (L0 (by omega)) | exact H 4 4 w32c_4 (L4 (by omega)) | exact H 5 5 w32c_5 (L5 (by omega)) | exact H 6 6 w32c_6 (L6 (by omega)) | exact H 1 1 w32c_1 (L1 (by omega)) | exact H 2 2 w32c_2 (L2 (by omega)) | exact H 3 3 w32c_3 (L3 (by omega)) | omega
abbrev seW : List (Nat × Nat) := [(48, 5), (48, 7), (49, 0), (50, 0)]
theorem g_se (hE : yEok E) {d : Nat} (hd : 1 ≤ d) {b : yMem} {l : Int} {L : Nat} (hl : w32 l = (L : Int)) (hL : 1 ≤ L) {cn op : Nat} : ∀ (w : List Nat) (o : sK) (i : Int) (m : yMem), w32 i = (w.length : Int) - 1 → aFrm seW b m → cFo m w cn op o → (∀ m', aFrm seW b m' → cFo m' (sSt L w o).1 cn op (sSt L w o).2 → Q none m') → zG E (d + 1) xm_69 7 [some (1, 48), some (0, l), some (0, i)] [] m Q
  | [], o, i, m, hi, F, h, fin => by
    refine zgo_ok (n := 60) hE xmo_69 (cs := zc_69) ?_
    simp only [ynok_30, ynok_31, w32c_0, w32c_1, w32c_2, w32c_3, w32c_4, w32c_5, w32c_6, w32c_7, w32c_8, w32c_9, w32c_10, w32c_11, w32c_12, w32c_13, w32c_14, w32c_m1, w32c_m2, w32c_118, Int.reduceAdd, Int.reduceSub, Int.reduceMul, yput_s, yput_n, znl_n, znl_0, znl_1, znl_4, ysum_n, ysum_0, ysum_1, ysum_4, true_and, and_true, Nat.reduceAdd, Nat.reduceLeDiff, true_implies, eq_self, true_or, or_true, or_false, false_or, not_true_eq_false, not_false_eq_true, false_implies, implies_true, yset_s, yset_o, yset_d, ne_eq, Nat.reduceEqDiff, Int.reduceToNat, Int.reduceEq, Int.reduceLE, Int.reduceLT, Classical.not_not, Nat.reduceLT, ↓zvk_s, ↓zvk_n, ↓s_69_0, ↓s_69_1_22, ↓s_69_1_48, ↓s_69_4, ↓s_69_5, ↓s_69_6n, ↓s_69_6i, ↓s_69_6p, ↓g_69_7, ↓k_69_7, ↓s_69_8, ↓s_69_11, ↓s_69_12_22, ↓s_69_12_48, ↓s_69_15, ↓s_69_16, ↓s_69_17, ↓s_69_20, ↓s_69_21, ↓s_69_24, ↓s_69_25, ↓s_69_26_22, ↓s_69_26_48, ↓s_69_29, ↓s_69_30, ↓s_69_31, ↓s_69_32, ↓s_69_35a, ↓s_69_35b, ↓s_69_36, ↓s_69_37, ↓s_69_38_22, ↓s_69_38_48, ↓s_69_41n, ↓s_69_41i, ↓s_69_41p, ↓s_69_44, ↓s_69_47, zio_48, zar_53, zia_53, zln_53, zit_53, zio_22, zar_27, zia_27, zln_27, zit_27]
    exact ⟨fun _ => fin m F h, fun hn => absurd (show w32 i < 0 by rw [hi]; decide) hn⟩
  | k :: w, o, i, m, hi, F, h, fin => by
    obtain ⟨⟨a1, a2⟩, ⟨a3, a4⟩, ⟨a5, a6⟩, a7, a8, a9, a10⟩ := h
    have hlen : (k :: w).length = w.length + 1 := rfl
    have hno := sNO (k :: w)
    rw [hlen] at hi hno
    have hi' : w32 i = (w.length : Int) := by omega
    have hit : (w32 i).toNat = w.length := by rw [hi']; exact Int.toNat_natCast _
    have e1 : w32 (i + -1) = w32 i - 1 := by rw [w32_ad (by rw [w32c_m1]; omega) (by rw [w32c_m1]; omega), w32c_m1]; omega
    refine zgo_ok (n := 60) hE xmo_69 (cs := zc_69) ?_
    simp only [ynok_30, ynok_31, w32c_0, w32c_1, w32c_2, w32c_3, w32c_4, w32c_5, w32c_6, w32c_7, w32c_8, w32c_9, w32c_10, w32c_11, w32c_12, w32c_13, w32c_14, w32c_m1, w32c_m2, w32c_118, Int.reduceAdd, Int.reduceSub, Int.reduceMul, yput_s, yput_n, znl_n, znl_0, znl_1, znl_4, ysum_n, ysum_0, ysum_1, ysum_4, true_and, and_true, Nat.reduceAdd, Nat.reduceLeDiff, true_implies, eq_self, true_or, or_true, or_false, false_or, not_true_eq_false, not_false_eq_true, false_implies, implies_true, yset_s, yset_o, yset_d, ne_eq, Nat.reduceEqDiff, Int.reduceToNat, Int.reduceEq, Int.reduceLE, Int.reduceLT, Classical.not_not, Nat.reduceLT, ↓zvk_s, ↓zvk_n, ↓s_69_0, ↓s_69_1_22, ↓s_69_1_48, ↓s_69_4, ↓s_69_5, ↓s_69_6n, ↓s_69_6i, ↓s_69_6p, ↓g_69_7, ↓k_69_7, ↓s_69_8, ↓s_69_11, ↓s_69_12_22, ↓s_69_12_48, ↓s_69_15, ↓s_69_16, ↓s_69_17, ↓s_69_20, ↓s_69_21, ↓s_69_24, ↓s_69_25, ↓s_69_26_22, ↓s_69_26_48, ↓s_69_29, ↓s_69_30, ↓s_69_31, ↓s_69_32, ↓s_69_35a, ↓s_69_35b, ↓s_69_36, ↓s_69_37, ↓s_69_38_22, ↓s_69_38_48, ↓s_69_41n, ↓s_69_41i, ↓s_69_41p, ↓s_69_44, ↓s_69_47, zio_48, zar_53, zia_53, zln_53, zit_53, zio_22, zar_27, zia_27, zln_27, zit_27]
    refine ⟨fun h => absurd h (by omega), fun _ => ⟨⟨by omega, by omega⟩, ?_⟩⟩
    rw [hit]
    refine g_levelOf hE (by omega) a2.1 (fun x hx => ?_)
    refine zgk_s hE xmo_69 60 zc_69 ?_
    simp only [ynok_30, ynok_31, w32c_0, w32c_1, w32c_2, w32c_3, w32c_4, w32c_5, w32c_6, w32c_7, w32c_8, w32c_9, w32c_10, w32c_11, w32c_12, w32c_13, w32c_14, w32c_m1, w32c_m2, w32c_118, Int.reduceAdd, Int.reduceSub, Int.reduceMul, yput_s, yput_n, znl_n, znl_0, znl_1, znl_4, ysum_n, ysum_0, ysum_1, ysum_4, true_and, and_true, Nat.reduceAdd, Nat.reduceLeDiff, true_implies, eq_self, true_or, or_true, or_false, false_or, not_true_eq_false, not_false_eq_true, false_implies, implies_true, yset_s, yset_o, yset_d, ne_eq, Nat.reduceEqDiff, Int.reduceToNat, Int.reduceEq, Int.reduceLE, Int.reduceLT, Classical.not_not, Nat.reduceLT, ↓zvk_s, ↓zvk_n, ↓s_69_0, ↓s_69_1_22, ↓s_69_1_48, ↓s_69_4, ↓s_69_5, ↓s_69_6n, ↓s_69_6i, ↓s_69_6p, ↓g_69_7, ↓k_69_7, ↓s_69_8, ↓s_69_11, ↓s_69_12_22, ↓s_69_12_48, ↓s_69_15, ↓s_69_16, ↓s_69_17, ↓s_69_20, ↓s_69_21, ↓s_69_24, ↓s_69_25, ↓s_69_26_22, ↓s_69_26_48, ↓s_69_29, ↓s_69_30, ↓s_69_31, ↓s_69_32, ↓s_69_35a, ↓s_69_35b, ↓s_69_36, ↓s_69_37, ↓s_69_38_22, ↓s_69_38_48, ↓s_69_41n, ↓s_69_41i, ↓s_69_41p, ↓s_69_44, ↓s_69_47, ↓s_66_0, ↓s_66_1_22, ↓s_66_1_48, ↓s_66_4, ↓s_66_6, ↓s_66_9, ↓s_66_10_22, ↓s_66_10_48, ↓s_66_13, ↓s_66_14_22, ↓s_66_14_48, ↓s_66_17, ↓s_66_18, ↓s_66_19, ↓s_66_20_22, ↓s_66_20_48, ↓s_66_23, ↓s_66_24_22, ↓s_66_24_48, ↓s_66_27, ↓s_66_28, ↓s_66_29, ↓s_66_30a, ↓s_66_30b, ↓s_66_31_22, ↓s_66_31_48, ↓s_66_34, ↓s_66_35, ↓s_66_36_22, ↓s_66_36_48, ↓s_66_39, ↓s_66_40, w32c_64, zio_48, zar_49, zia_49, zln_49, zit_49, zar_50, zia_50, zln_50, zit_50, zar_53, zia_53, zln_53, zit_53, zio_22, zar_23, zia_23, zln_23, zit_23, zar_24, zia_24, zln_24, zit_24, zar_27, zia_27, zln_27, zit_27]
    rw [hx, hl]
    refine ⟨fun hlt => ?_, fun hlt => ?_⟩
    · have e : sSt L (k :: w) o = (k :: w, o) := by
        show (if _ then _ else _) = _
        rw [if_neg (by omega)]
      rw [e] at fin
      exact fin m F ⟨⟨a1, a2⟩, ⟨a3, a4⟩, ⟨a5, a6⟩, a7, a8, a9, a10⟩
    · have e : sSt L (k :: w) o = sSt L w ((k, 0) :: o) := by
        show (if _ then _ else _) = _
        rw [if_pos (by omega)]
      rw [e] at fin
      have k5 : k ≠ 5 := fun e5 => by
        rw [e5] at hlt
        have : sLv 5 = 0 := rfl
        omega
      have n1 : sNs (k :: w) = sNs w + 1 := by show sNs w + (if _ then _ else _) = _; rw [if_neg k5]
      have o1 : sOs (k :: w) = sOs w := by show sOs w + (if _ then _ else _) = _; rw [if_neg k5]; rfl
      have ho : o.length < 64 := by omega
      have e4 : w32 (m 48 4 + 1) = w32 (m 48 4) + 1 := by rw [w32_ad (by rw [w32c_1]; omega) (by rw [w32c_1]; omega), w32c_1]
      have h4t : (w32 (m 48 4)).toNat = o.length := by rw [a5]; exact Int.toNat_natCast _
      rw [hit, h4t]
      refine ⟨⟨by omega, by omega⟩, fun h => absurd h (by omega), fun _ => ⟨⟨by omega, by omega⟩, ⟨by omega, by omega⟩, ?_⟩⟩
      refine g_se hE hd hl hL w ((k, 0) :: o) (i + -1) _ (by omega) (aFrm_set (aFrm_set (aFrm_set (aFrm_set F rfl) rfl) rfl) rfl) ⟨⟨by rw [yset_s]; exact hi', cWt_eq a2.2.1 (fun j _ => by rw [yset_o (by decide), yset_o (by decide), yset_o (by decide), yset_o (by decide)])⟩, ⟨by rw [yset_d (by decide), yset_d (by decide), yset_o (by decide), yset_o (by decide)]; exact a3, by rw [yset_d (by decide), yset_d (by decide), yset_o (by decide), yset_o (by decide)]; exact a4⟩, ⟨by rw [yset_d (by decide), yset_s, e4, a5]; rfl, cKs_eq (cKs_put a6 a2.1 (fun _ => w32c_0)) (fun j _ => by rw [yset_o (by decide), yset_o (by decide)]) (fun j _ => by rw [yset_o (by decide), yset_o (by decide)])⟩, by show o.length + 1 + sNs w ≤ cn; omega, a8, a9, by omega⟩ fin
theorem g_settle (hE : yEok E) {D : Nat} (hD : 3 ≤ D) {l : Int} {L : Nat} (hl : w32 l = (L : Int)) (hL : 1 ≤ L) {w : List Nat} {cn op : Nat} {o : sK} (h : cFo mem w cn op o) (hQ : ∀ m', aFrm seW mem m' → cFo m' (sSt L w o).1 cn op (sSt L w o).2 → Q none m') : yCon E D xm_69 [(1, 48), (0, l)] mem Q := by
  obtain ⟨d, rfl⟩ := Nat.exists_eq_add_of_le' (show 2 ≤ D by omega)
  refine e_69 ?_
  refine zvc_ok hE 60 zc_69 _ _ _ _ _ _ _ xmo_69 ?_
  have hno := sNO w
  have e1 : w32 (mem 48 6 - 1) = (w.length : Int) - 1 := by rw [w32_sb (by rw [w32c_1, h.1.1]; have := h.2.2.2; omega) (by rw [w32c_1, h.1.1]; have := h.2.2.2; omega), w32c_1, h.1.1]
  simp only [ynok_30, ynok_31, w32c_0, w32c_1, w32c_2, w32c_3, w32c_4, w32c_5, w32c_6, w32c_7, w32c_8, w32c_9, w32c_10, w32c_11, w32c_12, w32c_13, w32c_14, w32c_m1, w32c_m2, w32c_118, Int.reduceAdd, Int.reduceSub, Int.reduceMul, yput_s, yput_n, znl_n, znl_0, znl_1, znl_4, ysum_n, ysum_0, ysum_1, ysum_4, true_and, and_true, Nat.reduceAdd, Nat.reduceLeDiff, true_implies, eq_self, true_or, or_true, or_false, false_or, not_true_eq_false, not_false_eq_true, false_implies, implies_true, yset_s, yset_o, yset_d, ne_eq, Nat.reduceEqDiff, Int.reduceToNat, Int.reduceEq, Int.reduceLE, Int.reduceLT, Classical.not_not, Nat.reduceLT, ↓zvk_s, ↓zvk_n, ↓s_69_0, ↓s_69_1_22, ↓s_69_1_48, ↓s_69_4, ↓s_69_5, ↓s_69_6n, ↓s_69_6i, ↓s_69_6p, ↓g_69_7, ↓k_69_7, ↓s_69_8, ↓s_69_11, ↓s_69_12_22, ↓s_69_12_48, ↓s_69_15, ↓s_69_16, ↓s_69_17, ↓s_69_20, ↓s_69_21, ↓s_69_24, ↓s_69_25, ↓s_69_26_22, ↓s_69_26_48, ↓s_69_29, ↓s_69_30, ↓s_69_31, ↓s_69_32, ↓s_69_35a, ↓s_69_35b, ↓s_69_36, ↓s_69_37, ↓s_69_38_22, ↓s_69_38_48, ↓s_69_41n, ↓s_69_41i, ↓s_69_41p, ↓s_69_44, ↓s_69_47, zio_48, zar_53, zia_53, zln_53, zit_53, zio_22, zar_27, zia_27, zln_27, zit_27]
  exact g_se hE (by omega) hl hL w o _ _ e1 aFrm_rf h hQ
end CP
end
