section
theorem s_151_0 {E : yE} {n d : Nat} {mem : yMem} {Post : Option yV → yMem → Prop} {st : List yV} {r1 : Option yV} {x : Int} : zvc E (n + 1) [] d xm_151 0 [some (1, x), r1] (st) mem Post = (zvc E n [] d xm_151 1 [some (1, x), r1] ((1, x) :: st) mem Post) := zrf rfl
theorem s_151_1 {E : yE} {n d : Nat} {mem : yMem} {Post : Option yV → yMem → Prop} {st : List yV} {r0 r1 : Option yV} : zvc E (n + 1) [] d xm_151 1 [r0, r1] ((1, 95) :: st) mem Post = (zvc E n [] d xm_151 4 [r0, r1] ((1, 130) :: st) mem Post) := zrf rfl
theorem s_151_4 {E : yE} {n d : Nat} {mem : yMem} {Post : Option yV → yMem → Prop} {st : List yV} {r0 r1 : Option yV} : zvc E (n + 1) [] d xm_151 4 [r0, r1] (st) mem Post = (zvc E n [] d xm_151 5 [r0, r1] ((0, 0) :: st) mem Post) := zrf rfl
theorem s_151_5 {E : yE} {n d : Nat} {mem : yMem} {Post : Option yV → yMem → Prop} {st : List yV} {r1 : Option yV} {x : Int} : zvc E (n + 1) [] d xm_151 5 [some (1, x), r1] (st) mem Post = (zvc E n [] d xm_151 6 [some (1, x), r1] ((1, x) :: st) mem Post) := zrf rfl
theorem s_151_6 {E : yE} {n d : Nat} {mem : yMem} {Post : Option yV → yMem → Prop} {st : List yV} {r0 r1 : Option yV} : zvc E (n + 1) [] d xm_151 6 [r0, r1] ((1, 95) :: st) mem Post = (zvc E n [] d xm_151 9 [r0, r1] ((1, 106) :: st) mem Post) := zrf rfl
theorem s_151_9 {E : yE} {n d : Nat} {mem : yMem} {Post : Option yV → yMem → Prop} {st : List yV} {r0 : Option yV} {x : Int} : zvc E (n + 1) [] d xm_151 9 [r0, some (0, x)] (st) mem Post = (zvc E n [] d xm_151 10 [r0, some (0, x)] ((0, x) :: st) mem Post) := zrf rfl
theorem s_151_10 {E : yE} {n d : Nat} {mem : yMem} {Post : Option yV → yMem → Prop} {st : List yV} {r0 r1 : Option yV} {z j : Int} : zvc E (n + 1) [] d xm_151 10 [r0, r1] ((0, j) :: (1, z) :: st) mem Post = ((0 ≤ w32 j ∧ w32 j < ((zar z 0 : Nat) : Int)) ∧ zvc E n [] d xm_151 11 [r0, r1] ((0, mem z.toNat (w32 j).toNat) :: st) mem Post) := zrf rfl
theorem s_151_11 {E : yE} {n d : Nat} {mem : yMem} {Post : Option yV → yMem → Prop} {st : List yV} {r0 r1 : Option yV} {x : Int} : zvc E (n + 1) [] d xm_151 11 [r0, r1] ((0, x) :: st) mem Post = (zvc E n [] d xm_151 12 [r0, r1] ((4, w32 x) :: st) mem Post) := zrf rfl
theorem s_151_12 {E : yE} {n d : Nat} {mem : yMem} {Post : Option yV → yMem → Prop} {st : List yV} {r0 r1 : Option yV} {x z j : Int} : zvc E (n + 1) [] d xm_151 12 [r0, r1] ((4, x) :: (0, j) :: (1, z) :: st) mem Post = ((0 ≤ w32 j ∧ w32 j < ((zar z 2 : Nat) : Int)) ∧ zvc E n [] d xm_151 13 [r0, r1] (st) (yset mem z.toNat (w32 j).toNat x) Post) := zrf rfl
theorem s_151_13 {E : yE} {n d : Nat} {mem : yMem} {Post : Option yV → yMem → Prop} {st : List yV} {r1 : Option yV} {x : Int} : zvc E (n + 1) [] d xm_151 13 [some (1, x), r1] (st) mem Post = (zvc E n [] d xm_151 14 [some (1, x), r1] ((1, x) :: st) mem Post) := zrf rfl
theorem s_151_14 {E : yE} {n d : Nat} {mem : yMem} {Post : Option yV → yMem → Prop} {st : List yV} {r0 r1 : Option yV} : zvc E (n + 1) [] d xm_151 14 [r0, r1] ((1, 95) :: st) mem Post = (zvc E n [] d xm_151 17 [r0, r1] ((1, 130) :: st) mem Post) := zrf rfl
theorem s_151_17 {E : yE} {n d : Nat} {mem : yMem} {Post : Option yV → yMem → Prop} {st : List yV} {r0 r1 : Option yV} : zvc E (n + 1) [] d xm_151 17 [r0, r1] (st) mem Post = (zvc E n [] d xm_151 18 [r0, r1] ((0, 1) :: st) mem Post) := zrf rfl
theorem s_151_18 {E : yE} {n d : Nat} {mem : yMem} {Post : Option yV → yMem → Prop} {st : List yV} {r1 : Option yV} {x : Int} : zvc E (n + 1) [] d xm_151 18 [some (1, x), r1] (st) mem Post = (zvc E n [] d xm_151 19 [some (1, x), r1] ((1, x) :: st) mem Post) := zrf rfl
theorem s_151_19 {E : yE} {n d : Nat} {mem : yMem} {Post : Option yV → yMem → Prop} {st : List yV} {r0 r1 : Option yV} : zvc E (n + 1) [] d xm_151 19 [r0, r1] ((1, 95) :: st) mem Post = (zvc E n [] d xm_151 22 [r0, r1] ((1, 105) :: st) mem Post) := zrf rfl
theorem s_151_22 {E : yE} {n d : Nat} {mem : yMem} {Post : Option yV → yMem → Prop} {st : List yV} {r0 : Option yV} {x : Int} : zvc E (n + 1) [] d xm_151 22 [r0, some (0, x)] (st) mem Post = (zvc E n [] d xm_151 23 [r0, some (0, x)] ((0, x) :: st) mem Post) := zrf rfl
theorem s_151_23 {E : yE} {n d : Nat} {mem : yMem} {Post : Option yV → yMem → Prop} {st : List yV} {r0 r1 : Option yV} {z j : Int} : zvc E (n + 1) [] d xm_151 23 [r0, r1] ((0, j) :: (1, z) :: st) mem Post = ((0 ≤ w32 j ∧ w32 j < ((zar z 0 : Nat) : Int)) ∧ zvc E n [] d xm_151 24 [r0, r1] ((0, mem z.toNat (w32 j).toNat) :: st) mem Post) := zrf rfl
theorem s_151_24 {E : yE} {n d : Nat} {mem : yMem} {Post : Option yV → yMem → Prop} {st : List yV} {r0 r1 : Option yV} : zvc E (n + 1) [] d xm_151 24 [r0, r1] (st) mem Post = (zvc E n [] d xm_151 25 [r0, r1] ((0, (-1)) :: st) mem Post) := zrf rfl
theorem s_151_25 {E : yE} {n d : Nat} {mem : yMem} {Post : Option yV → yMem → Prop} {st : List yV} {r0 r1 : Option yV} {x y : Int} : zvc E (n + 1) [] d xm_151 25 [r0, r1] ((0, y) :: (0, x) :: st) mem Post = ((¬ w32 x = w32 y → zvc E n [] d xm_151 32 [r0, r1] (st) mem Post) ∧ (¬ (¬ w32 x = w32 y) → zvc E n [] d xm_151 28 [r0, r1] (st) mem Post)) := zrf rfl
theorem s_151_28 {E : yE} {n d : Nat} {mem : yMem} {Post : Option yV → yMem → Prop} {st : List yV} {r0 r1 : Option yV} : zvc E (n + 1) [] d xm_151 28 [r0, r1] (st) mem Post = (zvc E n [] d xm_151 29 [r0, r1] ((4, 0) :: st) mem Post) := zrf rfl
theorem s_151_29 {E : yE} {n d : Nat} {mem : yMem} {Post : Option yV → yMem → Prop} {st : List yV} {r0 r1 : Option yV} : zvc E (n + 1) [] d xm_151 29 [r0, r1] (st) mem Post = (zvc E n [] d xm_151 44 [r0, r1] (st) mem Post) := zrf rfl
theorem s_151_32 {E : yE} {n d : Nat} {mem : yMem} {Post : Option yV → yMem → Prop} {st : List yV} {r1 : Option yV} {x : Int} : zvc E (n + 1) [] d xm_151 32 [some (1, x), r1] (st) mem Post = (zvc E n [] d xm_151 33 [some (1, x), r1] ((1, x) :: st) mem Post) := zrf rfl
theorem s_151_33 {E : yE} {n d : Nat} {mem : yMem} {Post : Option yV → yMem → Prop} {st : List yV} {r0 r1 : Option yV} : zvc E (n + 1) [] d xm_151 33 [r0, r1] ((1, 95) :: st) mem Post = (zvc E n [] d xm_151 36 [r0, r1] ((1, 99) :: st) mem Post) := zrf rfl
theorem s_151_36 {E : yE} {n d : Nat} {mem : yMem} {Post : Option yV → yMem → Prop} {st : List yV} {r1 : Option yV} {x : Int} : zvc E (n + 1) [] d xm_151 36 [some (1, x), r1] (st) mem Post = (zvc E n [] d xm_151 37 [some (1, x), r1] ((1, x) :: st) mem Post) := zrf rfl
theorem s_151_37 {E : yE} {n d : Nat} {mem : yMem} {Post : Option yV → yMem → Prop} {st : List yV} {r0 r1 : Option yV} : zvc E (n + 1) [] d xm_151 37 [r0, r1] ((1, 95) :: st) mem Post = (zvc E n [] d xm_151 40 [r0, r1] ((1, 105) :: st) mem Post) := zrf rfl
theorem s_151_40 {E : yE} {n d : Nat} {mem : yMem} {Post : Option yV → yMem → Prop} {st : List yV} {r0 : Option yV} {x : Int} : zvc E (n + 1) [] d xm_151 40 [r0, some (0, x)] (st) mem Post = (zvc E n [] d xm_151 41 [r0, some (0, x)] ((0, x) :: st) mem Post) := zrf rfl
theorem s_151_41 {E : yE} {n d : Nat} {mem : yMem} {Post : Option yV → yMem → Prop} {st : List yV} {r0 r1 : Option yV} {z j : Int} : zvc E (n + 1) [] d xm_151 41 [r0, r1] ((0, j) :: (1, z) :: st) mem Post = ((0 ≤ w32 j ∧ w32 j < ((zar z 0 : Nat) : Int)) ∧ zvc E n [] d xm_151 42 [r0, r1] ((0, mem z.toNat (w32 j).toNat) :: st) mem Post) := zrf rfl
theorem s_151_42 {E : yE} {n d : Nat} {mem : yMem} {Post : Option yV → yMem → Prop} {st : List yV} {r0 r1 : Option yV} {z j : Int} : zvc E (n + 1) [] d xm_151 42 [r0, r1] ((0, j) :: (1, z) :: st) mem Post = ((0 ≤ w32 j ∧ w32 j < ((zar z 0 : Nat) : Int)) ∧ zvc E n [] d xm_151 43 [r0, r1] ((0, mem z.toNat (w32 j).toNat) :: st) mem Post) := zrf rfl
theorem s_151_43 {E : yE} {n d : Nat} {mem : yMem} {Post : Option yV → yMem → Prop} {st : List yV} {r0 r1 : Option yV} {x : Int} : zvc E (n + 1) [] d xm_151 43 [r0, r1] ((0, x) :: st) mem Post = (zvc E n [] d xm_151 44 [r0, r1] ((4, w32 x) :: st) mem Post) := zrf rfl
theorem s_151_44 {E : yE} {n d : Nat} {mem : yMem} {Post : Option yV → yMem → Prop} {st : List yV} {r0 r1 : Option yV} {x z j : Int} : zvc E (n + 1) [] d xm_151 44 [r0, r1] ((4, x) :: (0, j) :: (1, z) :: st) mem Post = ((0 ≤ w32 j ∧ w32 j < ((zar z 2 : Nat) : Int)) ∧ zvc E n [] d xm_151 45 [r0, r1] (st) (yset mem z.toNat (w32 j).toNat x) Post) := zrf rfl
theorem s_151_45 {E : yE} {n d : Nat} {mem : yMem} {Post : Option yV → yMem → Prop} {st : List yV} {r1 : Option yV} {x : Int} : zvc E (n + 1) [] d xm_151 45 [some (1, x), r1] (st) mem Post = (zvc E n [] d xm_151 46 [some (1, x), r1] ((1, x) :: st) mem Post) := zrf rfl
theorem s_151_46 {E : yE} {n d : Nat} {mem : yMem} {Post : Option yV → yMem → Prop} {st : List yV} {r0 r1 : Option yV} : zvc E (n + 1) [] d xm_151 46 [r0, r1] ((1, 95) :: st) mem Post = (zvc E n [] d xm_151 49 [r0, r1] ((1, 130) :: st) mem Post) := zrf rfl
theorem s_151_49 {E : yE} {n d : Nat} {mem : yMem} {Post : Option yV → yMem → Prop} {st : List yV} {r0 r1 : Option yV} : zvc E (n + 1) [] d xm_151 49 [r0, r1] (st) mem Post = (zvc E n [] d xm_151 50 [r0, r1] ((0, 2) :: st) mem Post) := zrf rfl
theorem s_151_50 {E : yE} {n d : Nat} {mem : yMem} {Post : Option yV → yMem → Prop} {st : List yV} {r0 r1 : Option yV} : zvc E (n + 1) [] d xm_151 50 [r0, r1] (st) mem Post = (zvc E n [] d xm_151 51 [r0, r1] ((4, 0) :: st) mem Post) := zrf rfl
theorem s_151_51 {E : yE} {n d : Nat} {mem : yMem} {Post : Option yV → yMem → Prop} {st : List yV} {r0 r1 : Option yV} {x z j : Int} : zvc E (n + 1) [] d xm_151 51 [r0, r1] ((4, x) :: (0, j) :: (1, z) :: st) mem Post = ((0 ≤ w32 j ∧ w32 j < ((zar z 2 : Nat) : Int)) ∧ zvc E n [] d xm_151 52 [r0, r1] (st) (yset mem z.toNat (w32 j).toNat x) Post) := zrf rfl
theorem s_151_52 {E : yE} {n d : Nat} {mem : yMem} {Post : Option yV → yMem → Prop} {st : List yV} {r1 : Option yV} {x : Int} : zvc E (n + 1) [] d xm_151 52 [some (1, x), r1] (st) mem Post = (zvc E n [] d xm_151 53 [some (1, x), r1] ((1, x) :: st) mem Post) := zrf rfl
theorem s_151_53 {E : yE} {n d : Nat} {mem : yMem} {Post : Option yV → yMem → Prop} {st : List yV} {r0 r1 : Option yV} : zvc E (n + 1) [] d xm_151 53 [r0, r1] ((1, 95) :: st) mem Post = (zvc E n [] d xm_151 56 [r0, r1] ((1, 130) :: st) mem Post) := zrf rfl
theorem s_151_56 {E : yE} {n d : Nat} {mem : yMem} {Post : Option yV → yMem → Prop} {st : List yV} {r0 r1 : Option yV} : zvc E (n + 1) [] d xm_151 56 [r0, r1] (st) mem Post = (zvc E n [] d xm_151 57 [r0, r1] ((0, 3) :: st) mem Post) := zrf rfl
theorem s_151_57 {E : yE} {n d : Nat} {mem : yMem} {Post : Option yV → yMem → Prop} {st : List yV} {r0 r1 : Option yV} : zvc E (n + 1) [] d xm_151 57 [r0, r1] (st) mem Post = (zvc E n [] d xm_151 58 [r0, r1] ((4, 0) :: st) mem Post) := zrf rfl
theorem s_151_58 {E : yE} {n d : Nat} {mem : yMem} {Post : Option yV → yMem → Prop} {st : List yV} {r0 r1 : Option yV} {x z j : Int} : zvc E (n + 1) [] d xm_151 58 [r0, r1] ((4, x) :: (0, j) :: (1, z) :: st) mem Post = ((0 ≤ w32 j ∧ w32 j < ((zar z 2 : Nat) : Int)) ∧ zvc E n [] d xm_151 59 [r0, r1] (st) (yset mem z.toNat (w32 j).toNat x) Post) := zrf rfl
theorem s_151_59 {E : yE} {n d : Nat} {mem : yMem} {Post : Option yV → yMem → Prop} {st : List yV} {r1 : Option yV} {x : Int} : zvc E (n + 1) [] d xm_151 59 [some (1, x), r1] (st) mem Post = (zvc E n [] d xm_151 60 [some (1, x), r1] ((1, x) :: st) mem Post) := zrf rfl
theorem s_151_60 {E : yE} {n d : Nat} {mem : yMem} {Post : Option yV → yMem → Prop} {st : List yV} {r0 r1 : Option yV} : zvc E (n + 1) [] d xm_151 60 [r0, r1] ((1, 95) :: st) mem Post = (zvc E n [] d xm_151 63 [r0, r1] ((1, 130) :: st) mem Post) := zrf rfl
theorem s_151_63 {E : yE} {n d : Nat} {mem : yMem} {Post : Option yV → yMem → Prop} {st : List yV} {r0 r1 : Option yV} : zvc E (n + 1) [] d xm_151 63 [r0, r1] (st) mem Post = (zvc E n [] d xm_151 64 [r0, r1] ((0, 4) :: st) mem Post) := zrf rfl
theorem s_151_64 {E : yE} {n d : Nat} {mem : yMem} {Post : Option yV → yMem → Prop} {st : List yV} {r1 : Option yV} {x : Int} : zvc E (n + 1) [] d xm_151 64 [some (1, x), r1] (st) mem Post = (zvc E n [] d xm_151 65 [some (1, x), r1] ((1, x) :: st) mem Post) := zrf rfl
theorem s_151_65 {E : yE} {n d : Nat} {mem : yMem} {Post : Option yV → yMem → Prop} {st : List yV} {r0 r1 : Option yV} : zvc E (n + 1) [] d xm_151 65 [r0, r1] ((1, 95) :: st) mem Post = (zvc E n [] d xm_151 68 [r0, r1] ((1, 103) :: st) mem Post) := zrf rfl
theorem s_151_68 {E : yE} {n d : Nat} {mem : yMem} {Post : Option yV → yMem → Prop} {st : List yV} {r0 : Option yV} {x : Int} : zvc E (n + 1) [] d xm_151 68 [r0, some (0, x)] (st) mem Post = (zvc E n [] d xm_151 69 [r0, some (0, x)] ((0, x) :: st) mem Post) := zrf rfl
theorem s_151_69 {E : yE} {n d : Nat} {mem : yMem} {Post : Option yV → yMem → Prop} {st : List yV} {r0 r1 : Option yV} {z j : Int} : zvc E (n + 1) [] d xm_151 69 [r0, r1] ((0, j) :: (1, z) :: st) mem Post = ((0 ≤ w32 j ∧ w32 j < ((zar z 0 : Nat) : Int)) ∧ zvc E n [] d xm_151 70 [r0, r1] ((0, mem z.toNat (w32 j).toNat) :: st) mem Post) := zrf rfl
theorem s_151_70 {E : yE} {n d : Nat} {mem : yMem} {Post : Option yV → yMem → Prop} {st : List yV} {r0 r1 : Option yV} {x : Int} : zvc E (n + 1) [] d xm_151 70 [r0, r1] ((0, x) :: st) mem Post = (zvc E n [] d xm_151 71 [r0, r1] ((4, w32 x) :: st) mem Post) := zrf rfl
theorem s_151_71 {E : yE} {n d : Nat} {mem : yMem} {Post : Option yV → yMem → Prop} {st : List yV} {r0 r1 : Option yV} {x z j : Int} : zvc E (n + 1) [] d xm_151 71 [r0, r1] ((4, x) :: (0, j) :: (1, z) :: st) mem Post = ((0 ≤ w32 j ∧ w32 j < ((zar z 2 : Nat) : Int)) ∧ zvc E n [] d xm_151 72 [r0, r1] (st) (yset mem z.toNat (w32 j).toNat x) Post) := zrf rfl
theorem s_151_72 {E : yE} {n d : Nat} {mem : yMem} {Post : Option yV → yMem → Prop} {st : List yV} {r1 : Option yV} {x : Int} : zvc E (n + 1) [] d xm_151 72 [some (1, x), r1] (st) mem Post = (zvc E n [] d xm_151 73 [some (1, x), r1] ((1, x) :: st) mem Post) := zrf rfl
theorem s_151_73 {E : yE} {n d : Nat} {mem : yMem} {Post : Option yV → yMem → Prop} {st : List yV} {r0 r1 : Option yV} : zvc E (n + 1) [] d xm_151 73 [r0, r1] ((1, 95) :: st) mem Post = (zvc E n [] d xm_151 76 [r0, r1] ((1, 130) :: st) mem Post) := zrf rfl
theorem s_151_76 {E : yE} {n d : Nat} {mem : yMem} {Post : Option yV → yMem → Prop} {st : List yV} {r0 r1 : Option yV} : zvc E (n + 1) [] d xm_151 76 [r0, r1] (st) mem Post = (zvc E n [] d xm_151 77 [r0, r1] ((0, 5) :: st) mem Post) := zrf rfl
theorem s_151_77 {E : yE} {n d : Nat} {mem : yMem} {Post : Option yV → yMem → Prop} {st : List yV} {r1 : Option yV} {x : Int} : zvc E (n + 1) [] d xm_151 77 [some (1, x), r1] (st) mem Post = (zvc E n [] d xm_151 78 [some (1, x), r1] ((1, x) :: st) mem Post) := zrf rfl
theorem s_151_78 {E : yE} {n d : Nat} {mem : yMem} {Post : Option yV → yMem → Prop} {st : List yV} {r0 r1 : Option yV} : zvc E (n + 1) [] d xm_151 78 [r0, r1] ((1, 95) :: st) mem Post = (zvc E n [] d xm_151 81 [r0, r1] ((1, 118) :: st) mem Post) := zrf rfl
theorem s_151_81 {E : yE} {n d : Nat} {mem : yMem} {Post : Option yV → yMem → Prop} {st : List yV} {r0 r1 : Option yV} : zvc E (n + 1) [] d xm_151 81 [r0, r1] (st) mem Post = (zvc E n [] d xm_151 82 [r0, r1] ((0, 0) :: st) mem Post) := zrf rfl
theorem s_151_82 {E : yE} {n d : Nat} {mem : yMem} {Post : Option yV → yMem → Prop} {st : List yV} {r0 r1 : Option yV} {z j : Int} : zvc E (n + 1) [] d xm_151 82 [r0, r1] ((0, j) :: (1, z) :: st) mem Post = ((0 ≤ w32 j ∧ w32 j < ((zar z 0 : Nat) : Int)) ∧ zvc E n [] d xm_151 83 [r0, r1] ((0, mem z.toNat (w32 j).toNat) :: st) mem Post) := zrf rfl
theorem s_151_83 {E : yE} {n d : Nat} {mem : yMem} {Post : Option yV → yMem → Prop} {st : List yV} {r0 r1 : Option yV} {x : Int} : zvc E (n + 1) [] d xm_151 83 [r0, r1] ((0, x) :: st) mem Post = (zvc E n [] d xm_151 84 [r0, r1] ((4, w32 x) :: st) mem Post) := zrf rfl
theorem s_151_84 {E : yE} {n d : Nat} {mem : yMem} {Post : Option yV → yMem → Prop} {st : List yV} {r0 r1 : Option yV} {x z j : Int} : zvc E (n + 1) [] d xm_151 84 [r0, r1] ((4, x) :: (0, j) :: (1, z) :: st) mem Post = ((0 ≤ w32 j ∧ w32 j < ((zar z 2 : Nat) : Int)) ∧ zvc E n [] d xm_151 85 [r0, r1] (st) (yset mem z.toNat (w32 j).toNat x) Post) := zrf rfl
theorem s_151_85 {E : yE} {n d : Nat} {mem : yMem} {Post : Option yV → yMem → Prop} {st : List yV} {r1 : Option yV} {x : Int} : zvc E (n + 1) [] d xm_151 85 [some (1, x), r1] (st) mem Post = (zvc E n [] d xm_151 86 [some (1, x), r1] ((1, x) :: st) mem Post) := zrf rfl
theorem s_151_86 {E : yE} {n d : Nat} {mem : yMem} {Post : Option yV → yMem → Prop} {st : List yV} {r0 r1 : Option yV} : zvc E (n + 1) [] d xm_151 86 [r0, r1] ((1, 95) :: st) mem Post = (zvc E n [] d xm_151 89 [r0, r1] ((1, 130) :: st) mem Post) := zrf rfl
theorem s_151_89 {E : yE} {n d : Nat} {mem : yMem} {Post : Option yV → yMem → Prop} {st : List yV} {r0 r1 : Option yV} : zvc E (n + 1) [] d xm_151 89 [r0, r1] (st) mem Post = (zvc E n [] d xm_151 91 [r0, r1] ((0, 6) :: st) mem Post) := zrf rfl
theorem s_151_91 {E : yE} {n d : Nat} {mem : yMem} {Post : Option yV → yMem → Prop} {st : List yV} {r0 r1 : Option yV} : zvc E (n + 1) [] d xm_151 91 [r0, r1] (st) mem Post = (zvc E n [] d xm_151 92 [r0, r1] ((4, 0) :: st) mem Post) := zrf rfl
theorem s_151_92 {E : yE} {n d : Nat} {mem : yMem} {Post : Option yV → yMem → Prop} {st : List yV} {r0 r1 : Option yV} {x z j : Int} : zvc E (n + 1) [] d xm_151 92 [r0, r1] ((4, x) :: (0, j) :: (1, z) :: st) mem Post = ((0 ≤ w32 j ∧ w32 j < ((zar z 2 : Nat) : Int)) ∧ zvc E n [] d xm_151 93 [r0, r1] (st) (yset mem z.toNat (w32 j).toNat x) Post) := zrf rfl
theorem s_151_93 {E : yE} {n d : Nat} {mem : yMem} {Post : Option yV → yMem → Prop} {r0 r1 : Option yV} : zvc E (n + 1) [] d xm_151 93 [r0, r1] ([]) mem Post = (Post none mem) := zrf rfl
theorem s_162_0 {E : yE} {n d : Nat} {mem : yMem} {Post : Option yV → yMem → Prop} {st : List yV} {r1 r2 : Option yV} {x : Int} : zvc E (n + 1) [] d xm_162 0 [some (1, x), r1, r2] (st) mem Post = (zvc E n [] d xm_162 1 [some (1, x), r1, r2] ((1, x) :: st) mem Post) := zrf rfl
theorem s_162_1 {E : yE} {n d : Nat} {mem : yMem} {Post : Option yV → yMem → Prop} {st : List yV} {r0 r1 r2 : Option yV} : zvc E (n + 1) [] d xm_162 1 [r0, r1, r2] ((1, 95) :: st) mem Post = (zvc E n [] d xm_162 4 [r0, r1, r2] ((1, 105) :: st) mem Post) := zrf rfl
theorem s_162_4 {E : yE} {n d : Nat} {mem : yMem} {Post : Option yV → yMem → Prop} {st : List yV} {r0 r1 : Option yV} {x : Int} : zvc E (n + 1) [] d xm_162 4 [r0, r1, some (0, x)] (st) mem Post = (zvc E n [] d xm_162 5 [r0, r1, some (0, x)] ((0, x) :: st) mem Post) := zrf rfl
theorem s_162_5 {E : yE} {n d : Nat} {mem : yMem} {Post : Option yV → yMem → Prop} {st : List yV} {r0 r1 r2 : Option yV} {z j : Int} : zvc E (n + 1) [] d xm_162 5 [r0, r1, r2] ((0, j) :: (1, z) :: st) mem Post = ((0 ≤ w32 j ∧ w32 j < ((zar z 0 : Nat) : Int)) ∧ zvc E n [] d xm_162 6 [r0, r1, r2] ((0, mem z.toNat (w32 j).toNat) :: st) mem Post) := zrf rfl
theorem s_162_6 {E : yE} {n d : Nat} {mem : yMem} {Post : Option yV → yMem → Prop} {st : List yV} {r0 r1 r2 : Option yV} : zvc E (n + 1) [] d xm_162 6 [r0, r1, r2] (st) mem Post = (zvc E n [] d xm_162 7 [r0, r1, r2] ((0, (-1)) :: st) mem Post) := zrf rfl
theorem s_162_7 {E : yE} {n d : Nat} {mem : yMem} {Post : Option yV → yMem → Prop} {st : List yV} {r0 r1 r2 : Option yV} {x y : Int} : zvc E (n + 1) [] d xm_162 7 [r0, r1, r2] ((0, y) :: (0, x) :: st) mem Post = ((¬ w32 x = w32 y → zvc E n [] d xm_162 12 [r0, r1, r2] (st) mem Post) ∧ (¬ (¬ w32 x = w32 y) → zvc E n [] d xm_162 10 [r0, r1, r2] (st) mem Post)) := zrf rfl
theorem s_162_10 {E : yE} {n d : Nat} {mem : yMem} {Post : Option yV → yMem → Prop} {st : List yV} {r0 r1 r2 : Option yV} : zvc E (n + 1) [] d xm_162 10 [r0, r1, r2] (st) mem Post = (zvc E n [] d xm_162 11 [r0, r1, r2] ((0, 0) :: st) mem Post) := zrf rfl
theorem s_162_11 {E : yE} {n d : Nat} {mem : yMem} {Post : Option yV → yMem → Prop} {r0 r1 r2 : Option yV} {x : Int} : zvc E (n + 1) [] d xm_162 11 [r0, r1, r2] ([(0, x)]) mem Post = (Post (some (0, x)) mem) := zrf rfl
theorem s_162_12 {E : yE} {n d : Nat} {mem : yMem} {Post : Option yV → yMem → Prop} {st : List yV} {r1 r2 : Option yV} {x : Int} : zvc E (n + 1) [] d xm_162 12 [some (1, x), r1, r2] (st) mem Post = (zvc E n [] d xm_162 13 [some (1, x), r1, r2] ((1, x) :: st) mem Post) := zrf rfl
theorem s_162_13 {E : yE} {n d : Nat} {mem : yMem} {Post : Option yV → yMem → Prop} {st : List yV} {r0 r1 : Option yV} {x : Int} : zvc E (n + 1) [] d xm_162 13 [r0, r1, some (0, x)] (st) mem Post = (zvc E n [] d xm_162 14 [r0, r1, some (0, x)] ((0, x) :: st) mem Post) := zrf rfl
theorem s_162_14 {E : yE} {n d : Nat} {mem : yMem} {Post : Option yV → yMem → Prop} {st : List yV} {r0 r1 r2 : Option yV} {z a0 : Int} : zvc E (n + 1) [] d xm_162 14 [r0, r1, r2] ((0, a0) :: (1, z) :: st) mem Post = (zio z 12 = true ∧ ysum st ≤ 8 ∧ yCon E d xm_151 [(1, z), (0, a0)] mem (fun v mem' => zgk E d xm_162 17 [r0, r1, r2] st v mem' Post)) := zrf rfl
theorem s_162_17 {E : yE} {n d : Nat} {mem : yMem} {Post : Option yV → yMem → Prop} {st : List yV} {r1 r2 : Option yV} {x : Int} : zvc E (n + 1) [] d xm_162 17 [some (1, x), r1, r2] (st) mem Post = (zvc E n [] d xm_162 18 [some (1, x), r1, r2] ((1, x) :: st) mem Post) := zrf rfl
theorem s_162_18 {E : yE} {n d : Nat} {mem : yMem} {Post : Option yV → yMem → Prop} {st : List yV} {r0 r1 r2 : Option yV} : zvc E (n + 1) [] d xm_162 18 [r0, r1, r2] ((1, 95) :: st) mem Post = (zvc E n [] d xm_162 21 [r0, r1, r2] ((1, 130) :: st) mem Post) := zrf rfl
theorem s_162_21 {E : yE} {n d : Nat} {mem : yMem} {Post : Option yV → yMem → Prop} {st : List yV} {r0 r1 r2 : Option yV} : zvc E (n + 1) [] d xm_162 21 [r0, r1, r2] (st) mem Post = (zvc E n [] d xm_162 22 [r0, r1, r2] ((0, 2) :: st) mem Post) := zrf rfl
theorem s_162_22 {E : yE} {n d : Nat} {mem : yMem} {Post : Option yV → yMem → Prop} {st : List yV} {r1 r2 : Option yV} {x : Int} : zvc E (n + 1) [] d xm_162 22 [some (1, x), r1, r2] (st) mem Post = (zvc E n [] d xm_162 23 [some (1, x), r1, r2] ((1, x) :: st) mem Post) := zrf rfl
theorem s_162_23 {E : yE} {n d : Nat} {mem : yMem} {Post : Option yV → yMem → Prop} {st : List yV} {r0 r2 : Option yV} {x : Int} : zvc E (n + 1) [] d xm_162 23 [r0, some (0, x), r2] (st) mem Post = (zvc E n [] d xm_162 24 [r0, some (0, x), r2] ((0, x) :: st) mem Post) := zrf rfl
theorem s_162_24 {E : yE} {n d : Nat} {mem : yMem} {Post : Option yV → yMem → Prop} {st : List yV} {r0 r1 : Option yV} {x : Int} : zvc E (n + 1) [] d xm_162 24 [r0, r1, some (0, x)] (st) mem Post = (zvc E n [] d xm_162 25 [r0, r1, some (0, x)] ((0, x) :: st) mem Post) := zrf rfl
theorem s_162_25 {E : yE} {n d : Nat} {mem : yMem} {Post : Option yV → yMem → Prop} {st : List yV} {r0 r1 r2 : Option yV} {z a0 a1 : Int} : zvc E (n + 1) [] d xm_162 25 [r0, r1, r2] ((0, a1) :: (0, a0) :: (1, z) :: st) mem Post = (zio z 12 = true ∧ ysum st ≤ 8 ∧ yCon E d xm_233 [(1, z), (0, a0), (0, a1)] mem (fun v mem' => zgk E d xm_162 28 [r0, r1, r2] st v mem' Post)) := zrf rfl
theorem s_162_28 {E : yE} {n d : Nat} {mem : yMem} {Post : Option yV → yMem → Prop} {st : List yV} {r0 r1 r2 : Option yV} {x : Int} : zvc E (n + 1) [] d xm_162 28 [r0, r1, r2] ((0, x) :: st) mem Post = (zvc E n [] d xm_162 29 [r0, r1, r2] ((4, w32 x) :: st) mem Post) := zrf rfl
theorem s_162_29 {E : yE} {n d : Nat} {mem : yMem} {Post : Option yV → yMem → Prop} {st : List yV} {r0 r1 r2 : Option yV} {x z j : Int} : zvc E (n + 1) [] d xm_162 29 [r0, r1, r2] ((4, x) :: (0, j) :: (1, z) :: st) mem Post = ((0 ≤ w32 j ∧ w32 j < ((zar z 2 : Nat) : Int)) ∧ zvc E n [] d xm_162 30 [r0, r1, r2] (st) (yset mem z.toNat (w32 j).toNat x) Post) := zrf rfl
theorem s_162_30 {E : yE} {n d : Nat} {mem : yMem} {Post : Option yV → yMem → Prop} {st : List yV} {r1 r2 : Option yV} {x : Int} : zvc E (n + 1) [] d xm_162 30 [some (1, x), r1, r2] (st) mem Post = (zvc E n [] d xm_162 31 [some (1, x), r1, r2] ((1, x) :: st) mem Post) := zrf rfl
theorem s_162_31 {E : yE} {n d : Nat} {mem : yMem} {Post : Option yV → yMem → Prop} {st : List yV} {r0 r1 r2 : Option yV} : zvc E (n + 1) [] d xm_162 31 [r0, r1, r2] ((1, 95) :: st) mem Post = (zvc E n [] d xm_162 34 [r0, r1, r2] ((1, 130) :: st) mem Post) := zrf rfl
theorem s_162_34 {E : yE} {n d : Nat} {mem : yMem} {Post : Option yV → yMem → Prop} {st : List yV} {r0 r1 r2 : Option yV} : zvc E (n + 1) [] d xm_162 34 [r0, r1, r2] (st) mem Post = (zvc E n [] d xm_162 35 [r0, r1, r2] ((0, 3) :: st) mem Post) := zrf rfl
theorem s_162_35 {E : yE} {n d : Nat} {mem : yMem} {Post : Option yV → yMem → Prop} {st : List yV} {r1 r2 : Option yV} {x : Int} : zvc E (n + 1) [] d xm_162 35 [some (1, x), r1, r2] (st) mem Post = (zvc E n [] d xm_162 36 [some (1, x), r1, r2] ((1, x) :: st) mem Post) := zrf rfl
theorem s_162_36 {E : yE} {n d : Nat} {mem : yMem} {Post : Option yV → yMem → Prop} {st : List yV} {r0 r2 : Option yV} {x : Int} : zvc E (n + 1) [] d xm_162 36 [r0, some (0, x), r2] (st) mem Post = (zvc E n [] d xm_162 37 [r0, some (0, x), r2] ((0, x) :: st) mem Post) := zrf rfl
theorem s_162_37 {E : yE} {n d : Nat} {mem : yMem} {Post : Option yV → yMem → Prop} {st : List yV} {r0 r1 r2 : Option yV} {z a0 : Int} : zvc E (n + 1) [] d xm_162 37 [r0, r1, r2] ((0, a0) :: (1, z) :: st) mem Post = (zio z 12 = true ∧ ysum st ≤ 8 ∧ yCon E d xm_223 [(1, z), (0, a0)] mem (fun v mem' => zgk E d xm_162 40 [r0, r1, r2] st v mem' Post)) := zrf rfl
theorem s_162_40 {E : yE} {n d : Nat} {mem : yMem} {Post : Option yV → yMem → Prop} {st : List yV} {r0 r1 r2 : Option yV} {x : Int} : zvc E (n + 1) [] d xm_162 40 [r0, r1, r2] ((0, x) :: st) mem Post = (zvc E n [] d xm_162 41 [r0, r1, r2] ((4, w32 x) :: st) mem Post) := zrf rfl
theorem s_162_41 {E : yE} {n d : Nat} {mem : yMem} {Post : Option yV → yMem → Prop} {st : List yV} {r0 r1 r2 : Option yV} {x z j : Int} : zvc E (n + 1) [] d xm_162 41 [r0, r1, r2] ((4, x) :: (0, j) :: (1, z) :: st) mem Post = ((0 ≤ w32 j ∧ w32 j < ((zar z 2 : Nat) : Int)) ∧ zvc E n [] d xm_162 42 [r0, r1, r2] (st) (yset mem z.toNat (w32 j).toNat x) Post) := zrf rfl
theorem s_162_42 {E : yE} {n d : Nat} {mem : yMem} {Post : Option yV → yMem → Prop} {st : List yV} {r1 r2 : Option yV} {x : Int} : zvc E (n + 1) [] d xm_162 42 [some (1, x), r1, r2] (st) mem Post = (zvc E n [] d xm_162 43 [some (1, x), r1, r2] ((1, x) :: st) mem Post) := zrf rfl
theorem s_162_43 {E : yE} {n d : Nat} {mem : yMem} {Post : Option yV → yMem → Prop} {st : List yV} {r0 r1 r2 : Option yV} : zvc E (n + 1) [] d xm_162 43 [r0, r1, r2] ((1, 95) :: st) mem Post = (zvc E n [] d xm_162 46 [r0, r1, r2] ((1, 130) :: st) mem Post) := zrf rfl
theorem s_162_46 {E : yE} {n d : Nat} {mem : yMem} {Post : Option yV → yMem → Prop} {st : List yV} {r0 r1 r2 : Option yV} : zvc E (n + 1) [] d xm_162 46 [r0, r1, r2] (st) mem Post = (zvc E n [] d xm_162 47 [r0, r1, r2] ((0, 4) :: st) mem Post) := zrf rfl
theorem s_162_47 {E : yE} {n d : Nat} {mem : yMem} {Post : Option yV → yMem → Prop} {st : List yV} {r1 r2 : Option yV} {x : Int} : zvc E (n + 1) [] d xm_162 47 [some (1, x), r1, r2] (st) mem Post = (zvc E n [] d xm_162 48 [some (1, x), r1, r2] ((1, x) :: st) mem Post) := zrf rfl
theorem s_162_48 {E : yE} {n d : Nat} {mem : yMem} {Post : Option yV → yMem → Prop} {st : List yV} {r0 r2 : Option yV} {x : Int} : zvc E (n + 1) [] d xm_162 48 [r0, some (0, x), r2] (st) mem Post = (zvc E n [] d xm_162 49 [r0, some (0, x), r2] ((0, x) :: st) mem Post) := zrf rfl
theorem s_162_49 {E : yE} {n d : Nat} {mem : yMem} {Post : Option yV → yMem → Prop} {st : List yV} {r0 r1 r2 : Option yV} {z a0 : Int} : zvc E (n + 1) [] d xm_162 49 [r0, r1, r2] ((0, a0) :: (1, z) :: st) mem Post = (zio z 12 = true ∧ ysum st ≤ 8 ∧ yCon E d xm_179 [(1, z), (0, a0)] mem (fun v mem' => zgk E d xm_162 52 [r0, r1, r2] st v mem' Post)) := zrf rfl
theorem s_162_52 {E : yE} {n d : Nat} {mem : yMem} {Post : Option yV → yMem → Prop} {st : List yV} {r0 r1 r2 : Option yV} {x : Int} : zvc E (n + 1) [] d xm_162 52 [r0, r1, r2] ((0, x) :: st) mem Post = (zvc E n [] d xm_162 53 [r0, r1, r2] ((4, w32 x) :: st) mem Post) := zrf rfl
theorem s_162_53 {E : yE} {n d : Nat} {mem : yMem} {Post : Option yV → yMem → Prop} {st : List yV} {r0 r1 r2 : Option yV} {x z j : Int} : zvc E (n + 1) [] d xm_162 53 [r0, r1, r2] ((4, x) :: (0, j) :: (1, z) :: st) mem Post = ((0 ≤ w32 j ∧ w32 j < ((zar z 2 : Nat) : Int)) ∧ zvc E n [] d xm_162 54 [r0, r1, r2] (st) (yset mem z.toNat (w32 j).toNat x) Post) := zrf rfl
theorem s_162_54 {E : yE} {n d : Nat} {mem : yMem} {Post : Option yV → yMem → Prop} {st : List yV} {r1 r2 : Option yV} {x : Int} : zvc E (n + 1) [] d xm_162 54 [some (1, x), r1, r2] (st) mem Post = (zvc E n [] d xm_162 55 [some (1, x), r1, r2] ((1, x) :: st) mem Post) := zrf rfl
theorem s_162_55 {E : yE} {n d : Nat} {mem : yMem} {Post : Option yV → yMem → Prop} {st : List yV} {r0 r1 r2 : Option yV} : zvc E (n + 1) [] d xm_162 55 [r0, r1, r2] ((1, 95) :: st) mem Post = (zvc E n [] d xm_162 58 [r0, r1, r2] ((1, 130) :: st) mem Post) := zrf rfl
theorem s_162_58 {E : yE} {n d : Nat} {mem : yMem} {Post : Option yV → yMem → Prop} {st : List yV} {r0 r1 r2 : Option yV} : zvc E (n + 1) [] d xm_162 58 [r0, r1, r2] (st) mem Post = (zvc E n [] d xm_162 60 [r0, r1, r2] ((0, 6) :: st) mem Post) := zrf rfl
theorem s_162_60 {E : yE} {n d : Nat} {mem : yMem} {Post : Option yV → yMem → Prop} {st : List yV} {r1 r2 : Option yV} {x : Int} : zvc E (n + 1) [] d xm_162 60 [some (1, x), r1, r2] (st) mem Post = (zvc E n [] d xm_162 61 [some (1, x), r1, r2] ((1, x) :: st) mem Post) := zrf rfl
theorem s_162_61 {E : yE} {n d : Nat} {mem : yMem} {Post : Option yV → yMem → Prop} {st : List yV} {r0 r1 r2 : Option yV} : zvc E (n + 1) [] d xm_162 61 [r0, r1, r2] ((1, 95) :: st) mem Post = (zvc E n [] d xm_162 64 [r0, r1, r2] ((1, 109) :: st) mem Post) := zrf rfl
theorem s_162_64 {E : yE} {n d : Nat} {mem : yMem} {Post : Option yV → yMem → Prop} {st : List yV} {r0 r2 : Option yV} {x : Int} : zvc E (n + 1) [] d xm_162 64 [r0, some (0, x), r2] (st) mem Post = (zvc E n [] d xm_162 65 [r0, some (0, x), r2] ((0, x) :: st) mem Post) := zrf rfl
theorem s_162_65 {E : yE} {n d : Nat} {mem : yMem} {Post : Option yV → yMem → Prop} {st : List yV} {r0 r1 r2 : Option yV} : zvc E (n + 1) [] d xm_162 65 [r0, r1, r2] (st) mem Post = (zvc E n [] d xm_162 66 [r0, r1, r2] ((0, 3) :: st) mem Post) := zrf rfl
theorem s_162_66 {E : yE} {n d : Nat} {mem : yMem} {Post : Option yV → yMem → Prop} {st : List yV} {r0 r1 r2 : Option yV} {x y : Int} : zvc E (n + 1) [] d xm_162 66 [r0, r1, r2] ((0, y) :: (0, x) :: st) mem Post = (¬ w32 y = 0 ∧ zvc E n [] d xm_162 67 [r0, r1, r2] ((0, ybin 9 x y) :: st) mem Post) := zrf rfl
theorem s_162_67 {E : yE} {n d : Nat} {mem : yMem} {Post : Option yV → yMem → Prop} {st : List yV} {r0 r1 r2 : Option yV} {z j : Int} : zvc E (n + 1) [] d xm_162 67 [r0, r1, r2] ((0, j) :: (1, z) :: st) mem Post = ((0 ≤ w32 j ∧ w32 j < ((zar z 0 : Nat) : Int)) ∧ zvc E n [] d xm_162 68 [r0, r1, r2] ((0, mem z.toNat (w32 j).toNat) :: st) mem Post) := zrf rfl
theorem s_162_68 {E : yE} {n d : Nat} {mem : yMem} {Post : Option yV → yMem → Prop} {st : List yV} {r0 r1 r2 : Option yV} {x : Int} : zvc E (n + 1) [] d xm_162 68 [r0, r1, r2] ((0, x) :: st) mem Post = (zvc E n [] d xm_162 69 [r0, r1, r2] ((4, w32 x) :: st) mem Post) := zrf rfl
theorem s_162_69 {E : yE} {n d : Nat} {mem : yMem} {Post : Option yV → yMem → Prop} {st : List yV} {r0 r1 r2 : Option yV} {x z j : Int} : zvc E (n + 1) [] d xm_162 69 [r0, r1, r2] ((4, x) :: (0, j) :: (1, z) :: st) mem Post = ((0 ≤ w32 j ∧ w32 j < ((zar z 2 : Nat) : Int)) ∧ zvc E n [] d xm_162 70 [r0, r1, r2] (st) (yset mem z.toNat (w32 j).toNat x) Post) := zrf rfl
theorem s_162_70 {E : yE} {n d : Nat} {mem : yMem} {Post : Option yV → yMem → Prop} {st : List yV} {r1 r2 : Option yV} {x : Int} : zvc E (n + 1) [] d xm_162 70 [some (1, x), r1, r2] (st) mem Post = (zvc E n [] d xm_162 71 [some (1, x), r1, r2] ((1, x) :: st) mem Post) := zrf rfl
theorem s_162_71 {E : yE} {n d : Nat} {mem : yMem} {Post : Option yV → yMem → Prop} {st : List yV} {r0 r1 r2 : Option yV} : zvc E (n + 1) [] d xm_162 71 [r0, r1, r2] (st) mem Post = (zvc E n [] d xm_162 72 [r0, r1, r2] ((0, 0) :: st) mem Post) := zrf rfl
theorem s_162_72 {E : yE} {n d : Nat} {mem : yMem} {Post : Option yV → yMem → Prop} {st : List yV} {r0 r1 r2 : Option yV} : zvc E (n + 1) [] d xm_162 72 [r0, r1, r2] (st) mem Post = (zvc E n [] d xm_162 75 [r0, r1, r2] ((0, 999) :: st) mem Post) := zrf rfl
theorem s_162_75 {E : yE} {n d : Nat} {mem : yMem} {Post : Option yV → yMem → Prop} {st : List yV} {r1 r2 : Option yV} {x : Int} : zvc E (n + 1) [] d xm_162 75 [some (1, x), r1, r2] (st) mem Post = (zvc E n [] d xm_162 76 [some (1, x), r1, r2] ((1, x) :: st) mem Post) := zrf rfl
theorem s_162_76 {E : yE} {n d : Nat} {mem : yMem} {Post : Option yV → yMem → Prop} {st : List yV} {r0 r1 r2 : Option yV} : zvc E (n + 1) [] d xm_162 76 [r0, r1, r2] ((1, 95) :: st) mem Post = (zvc E n [] d xm_162 79 [r0, r1, r2] ((1, 106) :: st) mem Post) := zrf rfl
theorem s_162_79 {E : yE} {n d : Nat} {mem : yMem} {Post : Option yV → yMem → Prop} {st : List yV} {r0 r1 : Option yV} {x : Int} : zvc E (n + 1) [] d xm_162 79 [r0, r1, some (0, x)] (st) mem Post = (zvc E n [] d xm_162 80 [r0, r1, some (0, x)] ((0, x) :: st) mem Post) := zrf rfl
theorem s_162_80 {E : yE} {n d : Nat} {mem : yMem} {Post : Option yV → yMem → Prop} {st : List yV} {r0 r1 r2 : Option yV} {z j : Int} : zvc E (n + 1) [] d xm_162 80 [r0, r1, r2] ((0, j) :: (1, z) :: st) mem Post = ((0 ≤ w32 j ∧ w32 j < ((zar z 0 : Nat) : Int)) ∧ zvc E n [] d xm_162 81 [r0, r1, r2] ((0, mem z.toNat (w32 j).toNat) :: st) mem Post) := zrf rfl
theorem s_162_81 {E : yE} {n d : Nat} {mem : yMem} {Post : Option yV → yMem → Prop} {st : List yV} {r0 r1 r2 : Option yV} {z a0 a1 a2 : Int} : zvc E (n + 1) [] d xm_162 81 [r0, r1, r2] ((0, a2) :: (0, a1) :: (0, a0) :: (1, z) :: st) mem Post = (zio z 12 = true ∧ ysum st ≤ 8 ∧ yCon E d xm_251 [(1, z), (0, a0), (0, a1), (0, a2)] mem (fun v mem' => zgk E d xm_162 84 [r0, r1, r2] st v mem' Post)) := zrf rfl
theorem s_162_84 {E : yE} {n d : Nat} {mem : yMem} {Post : Option yV → yMem → Prop} {r0 r1 r2 : Option yV} {x : Int} : zvc E (n + 1) [] d xm_162 84 [r0, r1, r2] ([(0, x)]) mem Post = (Post (some (0, x)) mem) := zrf rfl
theorem s_158_0 {E : yE} {n d : Nat} {mem : yMem} {Post : Option yV → yMem → Prop} {st : List yV} {r1 r2 : Option yV} {x : Int} : zvc E (n + 1) [] d xm_158 0 [some (1, x), r1, r2] (st) mem Post = (zvc E n [] d xm_158 1 [some (1, x), r1, r2] ((1, x) :: st) mem Post) := zrf rfl
theorem s_158_1 {E : yE} {n d : Nat} {mem : yMem} {Post : Option yV → yMem → Prop} {st : List yV} {r0 r2 : Option yV} {x : Int} : zvc E (n + 1) [] d xm_158 1 [r0, some (0, x), r2] (st) mem Post = (zvc E n [] d xm_158 2 [r0, some (0, x), r2] ((0, x) :: st) mem Post) := zrf rfl
theorem s_158_2 {E : yE} {n d : Nat} {mem : yMem} {Post : Option yV → yMem → Prop} {st : List yV} {r0 r1 r2 : Option yV} {z a0 : Int} : zvc E (n + 1) [] d xm_158 2 [r0, r1, r2] ((0, a0) :: (1, z) :: st) mem Post = (zio z 12 = true ∧ ysum st ≤ 8 ∧ yCon E d xm_151 [(1, z), (0, a0)] mem (fun v mem' => zgk E d xm_158 5 [r0, r1, r2] st v mem' Post)) := zrf rfl
theorem s_158_5 {E : yE} {n d : Nat} {mem : yMem} {Post : Option yV → yMem → Prop} {st : List yV} {r1 r2 : Option yV} {x : Int} : zvc E (n + 1) [] d xm_158 5 [some (1, x), r1, r2] (st) mem Post = (zvc E n [] d xm_158 6 [some (1, x), r1, r2] ((1, x) :: st) mem Post) := zrf rfl
theorem s_158_6 {E : yE} {n d : Nat} {mem : yMem} {Post : Option yV → yMem → Prop} {st : List yV} {r0 r1 r2 : Option yV} : zvc E (n + 1) [] d xm_158 6 [r0, r1, r2] ((1, 95) :: st) mem Post = (zvc E n [] d xm_158 9 [r0, r1, r2] ((1, 130) :: st) mem Post) := zrf rfl
theorem s_158_9 {E : yE} {n d : Nat} {mem : yMem} {Post : Option yV → yMem → Prop} {st : List yV} {r0 r1 r2 : Option yV} : zvc E (n + 1) [] d xm_158 9 [r0, r1, r2] (st) mem Post = (zvc E n [] d xm_158 10 [r0, r1, r2] ((0, 5) :: st) mem Post) := zrf rfl
theorem s_158_10 {E : yE} {n d : Nat} {mem : yMem} {Post : Option yV → yMem → Prop} {st : List yV} {r1 r2 : Option yV} {x : Int} : zvc E (n + 1) [] d xm_158 10 [some (1, x), r1, r2] (st) mem Post = (zvc E n [] d xm_158 11 [some (1, x), r1, r2] ((1, x) :: st) mem Post) := zrf rfl
theorem s_158_11 {E : yE} {n d : Nat} {mem : yMem} {Post : Option yV → yMem → Prop} {st : List yV} {r0 r1 r2 : Option yV} : zvc E (n + 1) [] d xm_158 11 [r0, r1, r2] ((1, 95) :: st) mem Post = (zvc E n [] d xm_158 14 [r0, r1, r2] ((1, 118) :: st) mem Post) := zrf rfl
theorem s_158_14 {E : yE} {n d : Nat} {mem : yMem} {Post : Option yV → yMem → Prop} {st : List yV} {r0 r1 r2 : Option yV} : zvc E (n + 1) [] d xm_158 14 [r0, r1, r2] (st) mem Post = (zvc E n [] d xm_158 15 [r0, r1, r2] ((0, 0) :: st) mem Post) := zrf rfl
theorem s_158_15 {E : yE} {n d : Nat} {mem : yMem} {Post : Option yV → yMem → Prop} {st : List yV} {r0 r1 r2 : Option yV} {z j : Int} : zvc E (n + 1) [] d xm_158 15 [r0, r1, r2] ((0, j) :: (1, z) :: st) mem Post = ((0 ≤ w32 j ∧ w32 j < ((zar z 0 : Nat) : Int)) ∧ zvc E n [] d xm_158 16 [r0, r1, r2] ((0, mem z.toNat (w32 j).toNat) :: st) mem Post) := zrf rfl
theorem s_158_16 {E : yE} {n d : Nat} {mem : yMem} {Post : Option yV → yMem → Prop} {st : List yV} {r0 r1 : Option yV} {x : Int} : zvc E (n + 1) [] d xm_158 16 [r0, r1, some (0, x)] (st) mem Post = (zvc E n [] d xm_158 17 [r0, r1, some (0, x)] ((0, x) :: st) mem Post) := zrf rfl
theorem s_158_17 {E : yE} {n d : Nat} {mem : yMem} {Post : Option yV → yMem → Prop} {st : List yV} {r0 r1 r2 : Option yV} {x y : Int} : zvc E (n + 1) [] d xm_158 17 [r0, r1, r2] ((0, y) :: (0, x) :: st) mem Post = (zvc E n [] d xm_158 18 [r0, r1, r2] ((0, x + y) :: st) mem Post) := zrf rfl
theorem s_158_18 {E : yE} {n d : Nat} {mem : yMem} {Post : Option yV → yMem → Prop} {st : List yV} {r0 r1 r2 : Option yV} {x : Int} : zvc E (n + 1) [] d xm_158 18 [r0, r1, r2] ((0, x) :: st) mem Post = (zvc E n [] d xm_158 19 [r0, r1, r2] ((4, w32 x) :: st) mem Post) := zrf rfl
theorem s_158_19 {E : yE} {n d : Nat} {mem : yMem} {Post : Option yV → yMem → Prop} {st : List yV} {r0 r1 r2 : Option yV} {x z j : Int} : zvc E (n + 1) [] d xm_158 19 [r0, r1, r2] ((4, x) :: (0, j) :: (1, z) :: st) mem Post = ((0 ≤ w32 j ∧ w32 j < ((zar z 2 : Nat) : Int)) ∧ zvc E n [] d xm_158 20 [r0, r1, r2] (st) (yset mem z.toNat (w32 j).toNat x) Post) := zrf rfl
theorem s_158_20 {E : yE} {n d : Nat} {mem : yMem} {Post : Option yV → yMem → Prop} {st : List yV} {r1 r2 : Option yV} {x : Int} : zvc E (n + 1) [] d xm_158 20 [some (1, x), r1, r2] (st) mem Post = (zvc E n [] d xm_158 21 [some (1, x), r1, r2] ((1, x) :: st) mem Post) := zrf rfl
theorem s_158_21 {E : yE} {n d : Nat} {mem : yMem} {Post : Option yV → yMem → Prop} {st : List yV} {r0 r1 r2 : Option yV} : zvc E (n + 1) [] d xm_158 21 [r0, r1, r2] (st) mem Post = (zvc E n [] d xm_158 22 [r0, r1, r2] ((0, 1) :: st) mem Post) := zrf rfl
theorem s_158_22 {E : yE} {n d : Nat} {mem : yMem} {Post : Option yV → yMem → Prop} {st : List yV} {r0 r1 r2 : Option yV} : zvc E (n + 1) [] d xm_158 22 [r0, r1, r2] (st) mem Post = (zvc E n [] d xm_158 24 [r0, r1, r2] ((0, 100) :: st) mem Post) := zrf rfl
theorem s_158_24 {E : yE} {n d : Nat} {mem : yMem} {Post : Option yV → yMem → Prop} {st : List yV} {r0 r1 r2 : Option yV} : zvc E (n + 1) [] d xm_158 24 [r0, r1, r2] (st) mem Post = (zvc E n [] d xm_158 25 [r0, r1, r2] ((0, 0) :: st) mem Post) := zrf rfl
theorem s_158_25 {E : yE} {n d : Nat} {mem : yMem} {Post : Option yV → yMem → Prop} {st : List yV} {r0 r1 r2 : Option yV} {z a0 a1 a2 : Int} : zvc E (n + 1) [] d xm_158 25 [r0, r1, r2] ((0, a2) :: (0, a1) :: (0, a0) :: (1, z) :: st) mem Post = (zio z 12 = true ∧ ysum st ≤ 8 ∧ yCon E d xm_251 [(1, z), (0, a0), (0, a1), (0, a2)] mem (fun v mem' => zgk E d xm_158 28 [r0, r1, r2] st v mem' Post)) := zrf rfl
theorem s_158_28 {E : yE} {n d : Nat} {mem : yMem} {Post : Option yV → yMem → Prop} {r0 r1 r2 : Option yV} {x : Int} : zvc E (n + 1) [] d xm_158 28 [r0, r1, r2] ([(0, x)]) mem Post = (Post (some (0, x)) mem) := zrf rfl
def zc_148 : List Nat := [67]
theorem s_148_0 {E : yE} {n d : Nat} {mem : yMem} {Post : Option yV → yMem → Prop} {st : List yV} {r1 r2 r3 r4 : Option yV} {x : Int} : zvc E (n + 1) zc_148 d xm_148 0 [some (1, x), r1, r2, r3, r4] (st) mem Post = (zvc E n zc_148 d xm_148 1 [some (1, x), r1, r2, r3, r4] ((1, x) :: st) mem Post) := zrf rfl
theorem s_148_1 {E : yE} {n d : Nat} {mem : yMem} {Post : Option yV → yMem → Prop} {st : List yV} {r0 r1 r2 r3 r4 : Option yV} : zvc E (n + 1) zc_148 d xm_148 1 [r0, r1, r2, r3, r4] ((1, 95) :: st) mem Post = (zvc E n zc_148 d xm_148 4 [r0, r1, r2, r3, r4] ((1, 130) :: st) mem Post) := zrf rfl
theorem s_148_4 {E : yE} {n d : Nat} {mem : yMem} {Post : Option yV → yMem → Prop} {st : List yV} {r0 r1 r2 r3 r4 : Option yV} : zvc E (n + 1) zc_148 d xm_148 4 [r0, r1, r2, r3, r4] (st) mem Post = (zvc E n zc_148 d xm_148 5 [r0, r1, r2, r3, r4] ((0, 0) :: st) mem Post) := zrf rfl
theorem s_148_5 {E : yE} {n d : Nat} {mem : yMem} {Post : Option yV → yMem → Prop} {st : List yV} {r0 r1 r2 r3 r4 : Option yV} : zvc E (n + 1) zc_148 d xm_148 5 [r0, r1, r2, r3, r4] (st) mem Post = (zvc E n zc_148 d xm_148 6 [r0, r1, r2, r3, r4] ((4, 0) :: st) mem Post) := zrf rfl
theorem s_148_6 {E : yE} {n d : Nat} {mem : yMem} {Post : Option yV → yMem → Prop} {st : List yV} {r0 r1 r2 r3 r4 : Option yV} {x z j : Int} : zvc E (n + 1) zc_148 d xm_148 6 [r0, r1, r2, r3, r4] ((4, x) :: (0, j) :: (1, z) :: st) mem Post = ((0 ≤ w32 j ∧ w32 j < ((zar z 2 : Nat) : Int)) ∧ zvc E n zc_148 d xm_148 7 [r0, r1, r2, r3, r4] (st) (yset mem z.toNat (w32 j).toNat x) Post) := zrf rfl
theorem s_148_7 {E : yE} {n d : Nat} {mem : yMem} {Post : Option yV → yMem → Prop} {st : List yV} {r1 r2 r3 r4 : Option yV} {x : Int} : zvc E (n + 1) zc_148 d xm_148 7 [some (1, x), r1, r2, r3, r4] (st) mem Post = (zvc E n zc_148 d xm_148 8 [some (1, x), r1, r2, r3, r4] ((1, x) :: st) mem Post) := zrf rfl
theorem s_148_8 {E : yE} {n d : Nat} {mem : yMem} {Post : Option yV → yMem → Prop} {st : List yV} {r0 r1 r2 r3 r4 : Option yV} : zvc E (n + 1) zc_148 d xm_148 8 [r0, r1, r2, r3, r4] ((1, 95) :: st) mem Post = (zvc E n zc_148 d xm_148 11 [r0, r1, r2, r3, r4] ((1, 130) :: st) mem Post) := zrf rfl
theorem s_148_11 {E : yE} {n d : Nat} {mem : yMem} {Post : Option yV → yMem → Prop} {st : List yV} {r0 r1 r2 r3 r4 : Option yV} : zvc E (n + 1) zc_148 d xm_148 11 [r0, r1, r2, r3, r4] (st) mem Post = (zvc E n zc_148 d xm_148 12 [r0, r1, r2, r3, r4] ((0, 1) :: st) mem Post) := zrf rfl
theorem s_148_12 {E : yE} {n d : Nat} {mem : yMem} {Post : Option yV → yMem → Prop} {st : List yV} {r0 r1 r2 r3 r4 : Option yV} : zvc E (n + 1) zc_148 d xm_148 12 [r0, r1, r2, r3, r4] (st) mem Post = (zvc E n zc_148 d xm_148 13 [r0, r1, r2, r3, r4] ((4, 0) :: st) mem Post) := zrf rfl
theorem s_148_13 {E : yE} {n d : Nat} {mem : yMem} {Post : Option yV → yMem → Prop} {st : List yV} {r0 r1 r2 r3 r4 : Option yV} {x z j : Int} : zvc E (n + 1) zc_148 d xm_148 13 [r0, r1, r2, r3, r4] ((4, x) :: (0, j) :: (1, z) :: st) mem Post = ((0 ≤ w32 j ∧ w32 j < ((zar z 2 : Nat) : Int)) ∧ zvc E n zc_148 d xm_148 14 [r0, r1, r2, r3, r4] (st) (yset mem z.toNat (w32 j).toNat x) Post) := zrf rfl
theorem s_148_14 {E : yE} {n d : Nat} {mem : yMem} {Post : Option yV → yMem → Prop} {st : List yV} {r1 r2 r3 r4 : Option yV} {x : Int} : zvc E (n + 1) zc_148 d xm_148 14 [some (1, x), r1, r2, r3, r4] (st) mem Post = (zvc E n zc_148 d xm_148 15 [some (1, x), r1, r2, r3, r4] ((1, x) :: st) mem Post) := zrf rfl
theorem s_148_15 {E : yE} {n d : Nat} {mem : yMem} {Post : Option yV → yMem → Prop} {st : List yV} {r0 r1 r2 r3 r4 : Option yV} : zvc E (n + 1) zc_148 d xm_148 15 [r0, r1, r2, r3, r4] ((1, 95) :: st) mem Post = (zvc E n zc_148 d xm_148 18 [r0, r1, r2, r3, r4] ((1, 130) :: st) mem Post) := zrf rfl
theorem s_148_18 {E : yE} {n d : Nat} {mem : yMem} {Post : Option yV → yMem → Prop} {st : List yV} {r0 r1 r2 r3 r4 : Option yV} : zvc E (n + 1) zc_148 d xm_148 18 [r0, r1, r2, r3, r4] (st) mem Post = (zvc E n zc_148 d xm_148 19 [r0, r1, r2, r3, r4] ((0, 2) :: st) mem Post) := zrf rfl
theorem s_148_19 {E : yE} {n d : Nat} {mem : yMem} {Post : Option yV → yMem → Prop} {st : List yV} {r0 r1 r2 r3 r4 : Option yV} : zvc E (n + 1) zc_148 d xm_148 19 [r0, r1, r2, r3, r4] (st) mem Post = (zvc E n zc_148 d xm_148 20 [r0, r1, r2, r3, r4] ((4, 0) :: st) mem Post) := zrf rfl
theorem s_148_20 {E : yE} {n d : Nat} {mem : yMem} {Post : Option yV → yMem → Prop} {st : List yV} {r0 r1 r2 r3 r4 : Option yV} {x z j : Int} : zvc E (n + 1) zc_148 d xm_148 20 [r0, r1, r2, r3, r4] ((4, x) :: (0, j) :: (1, z) :: st) mem Post = ((0 ≤ w32 j ∧ w32 j < ((zar z 2 : Nat) : Int)) ∧ zvc E n zc_148 d xm_148 21 [r0, r1, r2, r3, r4] (st) (yset mem z.toNat (w32 j).toNat x) Post) := zrf rfl
theorem s_148_21 {E : yE} {n d : Nat} {mem : yMem} {Post : Option yV → yMem → Prop} {st : List yV} {r1 r2 r3 r4 : Option yV} {x : Int} : zvc E (n + 1) zc_148 d xm_148 21 [some (1, x), r1, r2, r3, r4] (st) mem Post = (zvc E n zc_148 d xm_148 22 [some (1, x), r1, r2, r3, r4] ((1, x) :: st) mem Post) := zrf rfl
theorem s_148_22 {E : yE} {n d : Nat} {mem : yMem} {Post : Option yV → yMem → Prop} {st : List yV} {r0 r1 r2 r3 r4 : Option yV} : zvc E (n + 1) zc_148 d xm_148 22 [r0, r1, r2, r3, r4] ((1, 95) :: st) mem Post = (zvc E n zc_148 d xm_148 25 [r0, r1, r2, r3, r4] ((1, 130) :: st) mem Post) := zrf rfl
theorem s_148_25 {E : yE} {n d : Nat} {mem : yMem} {Post : Option yV → yMem → Prop} {st : List yV} {r0 r1 r2 r3 r4 : Option yV} : zvc E (n + 1) zc_148 d xm_148 25 [r0, r1, r2, r3, r4] (st) mem Post = (zvc E n zc_148 d xm_148 26 [r0, r1, r2, r3, r4] ((0, 3) :: st) mem Post) := zrf rfl
theorem s_148_26 {E : yE} {n d : Nat} {mem : yMem} {Post : Option yV → yMem → Prop} {st : List yV} {r0 r1 r2 r3 r4 : Option yV} : zvc E (n + 1) zc_148 d xm_148 26 [r0, r1, r2, r3, r4] (st) mem Post = (zvc E n zc_148 d xm_148 27 [r0, r1, r2, r3, r4] ((4, 0) :: st) mem Post) := zrf rfl
theorem s_148_27 {E : yE} {n d : Nat} {mem : yMem} {Post : Option yV → yMem → Prop} {st : List yV} {r0 r1 r2 r3 r4 : Option yV} {x z j : Int} : zvc E (n + 1) zc_148 d xm_148 27 [r0, r1, r2, r3, r4] ((4, x) :: (0, j) :: (1, z) :: st) mem Post = ((0 ≤ w32 j ∧ w32 j < ((zar z 2 : Nat) : Int)) ∧ zvc E n zc_148 d xm_148 28 [r0, r1, r2, r3, r4] (st) (yset mem z.toNat (w32 j).toNat x) Post) := zrf rfl
theorem s_148_28 {E : yE} {n d : Nat} {mem : yMem} {Post : Option yV → yMem → Prop} {st : List yV} {r1 r2 r3 r4 : Option yV} {x : Int} : zvc E (n + 1) zc_148 d xm_148 28 [some (1, x), r1, r2, r3, r4] (st) mem Post = (zvc E n zc_148 d xm_148 29 [some (1, x), r1, r2, r3, r4] ((1, x) :: st) mem Post) := zrf rfl
theorem s_148_29 {E : yE} {n d : Nat} {mem : yMem} {Post : Option yV → yMem → Prop} {st : List yV} {r0 r1 r2 r3 r4 : Option yV} : zvc E (n + 1) zc_148 d xm_148 29 [r0, r1, r2, r3, r4] ((1, 95) :: st) mem Post = (zvc E n zc_148 d xm_148 32 [r0, r1, r2, r3, r4] ((1, 130) :: st) mem Post) := zrf rfl
theorem s_148_32 {E : yE} {n d : Nat} {mem : yMem} {Post : Option yV → yMem → Prop} {st : List yV} {r0 r1 r2 r3 r4 : Option yV} : zvc E (n + 1) zc_148 d xm_148 32 [r0, r1, r2, r3, r4] (st) mem Post = (zvc E n zc_148 d xm_148 33 [r0, r1, r2, r3, r4] ((0, 4) :: st) mem Post) := zrf rfl
theorem s_148_33 {E : yE} {n d : Nat} {mem : yMem} {Post : Option yV → yMem → Prop} {st : List yV} {r0 r1 r2 r3 r4 : Option yV} : zvc E (n + 1) zc_148 d xm_148 33 [r0, r1, r2, r3, r4] (st) mem Post = (zvc E n zc_148 d xm_148 34 [r0, r1, r2, r3, r4] ((4, 0) :: st) mem Post) := zrf rfl
theorem s_148_34 {E : yE} {n d : Nat} {mem : yMem} {Post : Option yV → yMem → Prop} {st : List yV} {r0 r1 r2 r3 r4 : Option yV} {x z j : Int} : zvc E (n + 1) zc_148 d xm_148 34 [r0, r1, r2, r3, r4] ((4, x) :: (0, j) :: (1, z) :: st) mem Post = ((0 ≤ w32 j ∧ w32 j < ((zar z 2 : Nat) : Int)) ∧ zvc E n zc_148 d xm_148 35 [r0, r1, r2, r3, r4] (st) (yset mem z.toNat (w32 j).toNat x) Post) := zrf rfl
theorem s_148_35 {E : yE} {n d : Nat} {mem : yMem} {Post : Option yV → yMem → Prop} {st : List yV} {r1 r2 r3 r4 : Option yV} {x : Int} : zvc E (n + 1) zc_148 d xm_148 35 [some (1, x), r1, r2, r3, r4] (st) mem Post = (zvc E n zc_148 d xm_148 36 [some (1, x), r1, r2, r3, r4] ((1, x) :: st) mem Post) := zrf rfl
theorem s_148_36 {E : yE} {n d : Nat} {mem : yMem} {Post : Option yV → yMem → Prop} {st : List yV} {r0 r1 r2 r3 r4 : Option yV} : zvc E (n + 1) zc_148 d xm_148 36 [r0, r1, r2, r3, r4] ((1, 95) :: st) mem Post = (zvc E n zc_148 d xm_148 39 [r0, r1, r2, r3, r4] ((1, 130) :: st) mem Post) := zrf rfl
theorem s_148_39 {E : yE} {n d : Nat} {mem : yMem} {Post : Option yV → yMem → Prop} {st : List yV} {r0 r1 r2 r3 r4 : Option yV} : zvc E (n + 1) zc_148 d xm_148 39 [r0, r1, r2, r3, r4] (st) mem Post = (zvc E n zc_148 d xm_148 40 [r0, r1, r2, r3, r4] ((0, 5) :: st) mem Post) := zrf rfl
theorem s_148_40 {E : yE} {n d : Nat} {mem : yMem} {Post : Option yV → yMem → Prop} {st : List yV} {r1 r2 r3 r4 : Option yV} {x : Int} : zvc E (n + 1) zc_148 d xm_148 40 [some (1, x), r1, r2, r3, r4] (st) mem Post = (zvc E n zc_148 d xm_148 41 [some (1, x), r1, r2, r3, r4] ((1, x) :: st) mem Post) := zrf rfl
theorem s_148_41 {E : yE} {n d : Nat} {mem : yMem} {Post : Option yV → yMem → Prop} {st : List yV} {r0 r1 r2 r3 r4 : Option yV} : zvc E (n + 1) zc_148 d xm_148 41 [r0, r1, r2, r3, r4] ((1, 95) :: st) mem Post = (zvc E n zc_148 d xm_148 44 [r0, r1, r2, r3, r4] ((1, 118) :: st) mem Post) := zrf rfl
theorem s_148_44 {E : yE} {n d : Nat} {mem : yMem} {Post : Option yV → yMem → Prop} {st : List yV} {r0 r1 r2 r3 r4 : Option yV} : zvc E (n + 1) zc_148 d xm_148 44 [r0, r1, r2, r3, r4] (st) mem Post = (zvc E n zc_148 d xm_148 45 [r0, r1, r2, r3, r4] ((0, 0) :: st) mem Post) := zrf rfl
theorem s_148_45 {E : yE} {n d : Nat} {mem : yMem} {Post : Option yV → yMem → Prop} {st : List yV} {r0 r1 r2 r3 r4 : Option yV} {z j : Int} : zvc E (n + 1) zc_148 d xm_148 45 [r0, r1, r2, r3, r4] ((0, j) :: (1, z) :: st) mem Post = ((0 ≤ w32 j ∧ w32 j < ((zar z 0 : Nat) : Int)) ∧ zvc E n zc_148 d xm_148 46 [r0, r1, r2, r3, r4] ((0, mem z.toNat (w32 j).toNat) :: st) mem Post) := zrf rfl
theorem s_148_46 {E : yE} {n d : Nat} {mem : yMem} {Post : Option yV → yMem → Prop} {st : List yV} {r0 r1 r2 r3 r4 : Option yV} {x : Int} : zvc E (n + 1) zc_148 d xm_148 46 [r0, r1, r2, r3, r4] ((0, x) :: st) mem Post = (zvc E n zc_148 d xm_148 47 [r0, r1, r2, r3, r4] ((4, w32 x) :: st) mem Post) := zrf rfl
theorem s_148_47 {E : yE} {n d : Nat} {mem : yMem} {Post : Option yV → yMem → Prop} {st : List yV} {r0 r1 r2 r3 r4 : Option yV} {x z j : Int} : zvc E (n + 1) zc_148 d xm_148 47 [r0, r1, r2, r3, r4] ((4, x) :: (0, j) :: (1, z) :: st) mem Post = ((0 ≤ w32 j ∧ w32 j < ((zar z 2 : Nat) : Int)) ∧ zvc E n zc_148 d xm_148 48 [r0, r1, r2, r3, r4] (st) (yset mem z.toNat (w32 j).toNat x) Post) := zrf rfl
theorem s_148_48 {E : yE} {n d : Nat} {mem : yMem} {Post : Option yV → yMem → Prop} {st : List yV} {r1 r2 r3 r4 : Option yV} {x : Int} : zvc E (n + 1) zc_148 d xm_148 48 [some (1, x), r1, r2, r3, r4] (st) mem Post = (zvc E n zc_148 d xm_148 49 [some (1, x), r1, r2, r3, r4] ((1, x) :: st) mem Post) := zrf rfl
theorem s_148_49 {E : yE} {n d : Nat} {mem : yMem} {Post : Option yV → yMem → Prop} {st : List yV} {r0 r1 r2 r3 r4 : Option yV} : zvc E (n + 1) zc_148 d xm_148 49 [r0, r1, r2, r3, r4] ((1, 95) :: st) mem Post = (zvc E n zc_148 d xm_148 52 [r0, r1, r2, r3, r4] ((1, 130) :: st) mem Post) := zrf rfl
theorem s_148_52 {E : yE} {n d : Nat} {mem : yMem} {Post : Option yV → yMem → Prop} {st : List yV} {r0 r1 r2 r3 r4 : Option yV} : zvc E (n + 1) zc_148 d xm_148 52 [r0, r1, r2, r3, r4] (st) mem Post = (zvc E n zc_148 d xm_148 54 [r0, r1, r2, r3, r4] ((0, 6) :: st) mem Post) := zrf rfl
theorem s_148_54 {E : yE} {n d : Nat} {mem : yMem} {Post : Option yV → yMem → Prop} {st : List yV} {r1 r2 r3 r4 : Option yV} {x : Int} : zvc E (n + 1) zc_148 d xm_148 54 [some (1, x), r1, r2, r3, r4] (st) mem Post = (zvc E n zc_148 d xm_148 55 [some (1, x), r1, r2, r3, r4] ((1, x) :: st) mem Post) := zrf rfl
theorem s_148_55 {E : yE} {n d : Nat} {mem : yMem} {Post : Option yV → yMem → Prop} {st : List yV} {r0 r1 r2 r3 r4 : Option yV} : zvc E (n + 1) zc_148 d xm_148 55 [r0, r1, r2, r3, r4] ((1, 95) :: st) mem Post = (zvc E n zc_148 d xm_148 58 [r0, r1, r2, r3, r4] ((1, 109) :: st) mem Post) := zrf rfl
theorem s_148_58 {E : yE} {n d : Nat} {mem : yMem} {Post : Option yV → yMem → Prop} {st : List yV} {r0 r1 r3 r4 : Option yV} {x : Int} : zvc E (n + 1) zc_148 d xm_148 58 [r0, r1, some (0, x), r3, r4] (st) mem Post = (zvc E n zc_148 d xm_148 59 [r0, r1, some (0, x), r3, r4] ((0, x) :: st) mem Post) := zrf rfl
theorem s_148_59 {E : yE} {n d : Nat} {mem : yMem} {Post : Option yV → yMem → Prop} {st : List yV} {r0 r1 r2 r3 r4 : Option yV} {z j : Int} : zvc E (n + 1) zc_148 d xm_148 59 [r0, r1, r2, r3, r4] ((0, j) :: (1, z) :: st) mem Post = ((0 ≤ w32 j ∧ w32 j < ((zar z 0 : Nat) : Int)) ∧ zvc E n zc_148 d xm_148 60 [r0, r1, r2, r3, r4] ((0, mem z.toNat (w32 j).toNat) :: st) mem Post) := zrf rfl
theorem s_148_60 {E : yE} {n d : Nat} {mem : yMem} {Post : Option yV → yMem → Prop} {st : List yV} {r0 r1 r2 r3 r4 : Option yV} {x : Int} : zvc E (n + 1) zc_148 d xm_148 60 [r0, r1, r2, r3, r4] ((0, x) :: st) mem Post = (zvc E n zc_148 d xm_148 61 [r0, r1, r2, r3, r4] ((4, w32 x) :: st) mem Post) := zrf rfl
theorem s_148_61 {E : yE} {n d : Nat} {mem : yMem} {Post : Option yV → yMem → Prop} {st : List yV} {r0 r1 r2 r3 r4 : Option yV} {x z j : Int} : zvc E (n + 1) zc_148 d xm_148 61 [r0, r1, r2, r3, r4] ((4, x) :: (0, j) :: (1, z) :: st) mem Post = ((0 ≤ w32 j ∧ w32 j < ((zar z 2 : Nat) : Int)) ∧ zvc E n zc_148 d xm_148 62 [r0, r1, r2, r3, r4] (st) (yset mem z.toNat (w32 j).toNat x) Post) := zrf rfl
theorem s_148_62 {E : yE} {n d : Nat} {mem : yMem} {Post : Option yV → yMem → Prop} {st : List yV} {r0 r1 r2 r3 r4 : Option yV} : zvc E (n + 1) zc_148 d xm_148 62 [r0, r1, r2, r3, r4] (st) mem Post = (zvc E n zc_148 d xm_148 63 [r0, r1, r2, r3, r4] ((0, 3) :: st) mem Post) := zrf rfl
theorem s_148_63 {E : yE} {n d : Nat} {mem : yMem} {Post : Option yV → yMem → Prop} {st : List yV} {r0 r1 r3 r4 : Option yV} {x : Int} : zvc E (n + 1) zc_148 d xm_148 63 [r0, r1, some (0, x), r3, r4] (st) mem Post = (zvc E n zc_148 d xm_148 64 [r0, r1, some (0, x), r3, r4] ((0, x) :: st) mem Post) := zrf rfl
theorem s_148_64 {E : yE} {n d : Nat} {mem : yMem} {Post : Option yV → yMem → Prop} {st : List yV} {r0 r1 r2 r3 r4 : Option yV} {x y : Int} : zvc E (n + 1) zc_148 d xm_148 64 [r0, r1, r2, r3, r4] ((0, y) :: (0, x) :: st) mem Post = (zvc E n zc_148 d xm_148 65 [r0, r1, r2, r3, r4] ((0, x * y) :: st) mem Post) := zrf rfl
theorem s_148_65n {E : yE} {n d : Nat} {mem : yMem} {Post : Option yV → yMem → Prop} {st : List yV} {r0 r1 r2 r4 : Option yV} {x : Int} : zvc E (n + 1) zc_148 d xm_148 65 [r0, r1, r2, none, r4] ((0, x) :: st) mem Post = (zvc E n zc_148 d xm_148 67 [r0, r1, r2, none, some (0, x)] (st) mem Post) := zrf rfl
theorem s_148_65i {E : yE} {n d : Nat} {mem : yMem} {Post : Option yV → yMem → Prop} {st : List yV} {r0 r1 r2 r4 : Option yV} {x w : Int} : zvc E (n + 1) zc_148 d xm_148 65 [r0, r1, r2, some (0, w), r4] ((0, x) :: st) mem Post = (zvc E n zc_148 d xm_148 67 [r0, r1, r2, some (0, w), some (0, x)] (st) mem Post) := zrf rfl
theorem s_148_65p {E : yE} {n d : Nat} {mem : yMem} {Post : Option yV → yMem → Prop} {st : List yV} {r0 r1 r2 r4 : Option yV} {x w : Int} : zvc E (n + 1) zc_148 d xm_148 65 [r0, r1, r2, some (1, w), r4] ((0, x) :: st) mem Post = (zvc E n zc_148 d xm_148 67 [r0, r1, r2, some (1, w), some (0, x)] (st) mem Post) := zrf rfl
theorem g_148_67 {E : yE} {n d : Nat} {mem : yMem} {Post : Option yV → yMem → Prop} {st : List yV} {r0 r1 r2 r3 : Option yV} {x : Int} : zgo E n zc_148 d xm_148 67 [r0, r1, r2, r3, some (0, x)] (st) mem Post = (zvc E n zc_148 d xm_148 69 [r0, r1, r2, r3, some (0, x)] ((0, x) :: st) mem Post) := zrf rfl
theorem k_148_67 {E : yE} {n d : Nat} {mem : yMem} {Post : Option yV → yMem → Prop} {st : List yV} {rg : zR} : zvc E (n + 1) zc_148 d xm_148 67 rg st mem Post = zG E d xm_148 67 rg st mem Post := zrf rfl
theorem s_148_69 {E : yE} {n d : Nat} {mem : yMem} {Post : Option yV → yMem → Prop} {st : List yV} {r0 r1 r2 r3 r4 : Option yV} : zvc E (n + 1) zc_148 d xm_148 69 [r0, r1, r2, r3, r4] (st) mem Post = (zvc E n zc_148 d xm_148 70 [r0, r1, r2, r3, r4] ((0, 3) :: st) mem Post) := zrf rfl
theorem s_148_70 {E : yE} {n d : Nat} {mem : yMem} {Post : Option yV → yMem → Prop} {st : List yV} {r0 r1 r3 r4 : Option yV} {x : Int} : zvc E (n + 1) zc_148 d xm_148 70 [r0, r1, some (0, x), r3, r4] (st) mem Post = (zvc E n zc_148 d xm_148 71 [r0, r1, some (0, x), r3, r4] ((0, x) :: st) mem Post) := zrf rfl
theorem s_148_71 {E : yE} {n d : Nat} {mem : yMem} {Post : Option yV → yMem → Prop} {st : List yV} {r0 r1 r2 r3 r4 : Option yV} {x y : Int} : zvc E (n + 1) zc_148 d xm_148 71 [r0, r1, r2, r3, r4] ((0, y) :: (0, x) :: st) mem Post = (zvc E n zc_148 d xm_148 72 [r0, r1, r2, r3, r4] ((0, x * y) :: st) mem Post) := zrf rfl
theorem s_148_72 {E : yE} {n d : Nat} {mem : yMem} {Post : Option yV → yMem → Prop} {st : List yV} {r1 r2 r3 r4 : Option yV} {x : Int} : zvc E (n + 1) zc_148 d xm_148 72 [some (1, x), r1, r2, r3, r4] (st) mem Post = (zvc E n zc_148 d xm_148 73 [some (1, x), r1, r2, r3, r4] ((1, x) :: st) mem Post) := zrf rfl
theorem s_148_73 {E : yE} {n d : Nat} {mem : yMem} {Post : Option yV → yMem → Prop} {st : List yV} {r0 r1 r2 r3 r4 : Option yV} : zvc E (n + 1) zc_148 d xm_148 73 [r0, r1, r2, r3, r4] ((1, 95) :: st) mem Post = (zvc E n zc_148 d xm_148 76 [r0, r1, r2, r3, r4] ((1, 109) :: st) mem Post) := zrf rfl
theorem s_148_76 {E : yE} {n d : Nat} {mem : yMem} {Post : Option yV → yMem → Prop} {st : List yV} {r0 r1 r3 r4 : Option yV} {x : Int} : zvc E (n + 1) zc_148 d xm_148 76 [r0, r1, some (0, x), r3, r4] (st) mem Post = (zvc E n zc_148 d xm_148 77 [r0, r1, some (0, x), r3, r4] ((0, x) :: st) mem Post) := zrf rfl
theorem s_148_77 {E : yE} {n d : Nat} {mem : yMem} {Post : Option yV → yMem → Prop} {st : List yV} {r0 r1 r2 r3 r4 : Option yV} {z j : Int} : zvc E (n + 1) zc_148 d xm_148 77 [r0, r1, r2, r3, r4] ((0, j) :: (1, z) :: st) mem Post = ((0 ≤ w32 j ∧ w32 j < ((zar z 0 : Nat) : Int)) ∧ zvc E n zc_148 d xm_148 78 [r0, r1, r2, r3, r4] ((0, mem z.toNat (w32 j).toNat) :: st) mem Post) := zrf rfl
theorem s_148_78 {E : yE} {n d : Nat} {mem : yMem} {Post : Option yV → yMem → Prop} {st : List yV} {r0 r1 r2 r3 r4 : Option yV} {x y : Int} : zvc E (n + 1) zc_148 d xm_148 78 [r0, r1, r2, r3, r4] ((0, y) :: (0, x) :: st) mem Post = (zvc E n zc_148 d xm_148 79 [r0, r1, r2, r3, r4] ((0, x + y) :: st) mem Post) := zrf rfl
theorem s_148_79 {E : yE} {n d : Nat} {mem : yMem} {Post : Option yV → yMem → Prop} {st : List yV} {r0 r1 r2 r3 r4 : Option yV} {x y : Int} : zvc E (n + 1) zc_148 d xm_148 79 [r0, r1, r2, r3, r4] ((0, y) :: (0, x) :: st) mem Post = ((w32 y ≤ w32 x → zvc E n zc_148 d xm_148 150 [r0, r1, r2, r3, r4] (st) mem Post) ∧ (¬ (w32 y ≤ w32 x) → zvc E n zc_148 d xm_148 82 [r0, r1, r2, r3, r4] (st) mem Post)) := zrf rfl
theorem s_148_82 {E : yE} {n d : Nat} {mem : yMem} {Post : Option yV → yMem → Prop} {st : List yV} {r1 r2 r3 r4 : Option yV} {x : Int} : zvc E (n + 1) zc_148 d xm_148 82 [some (1, x), r1, r2, r3, r4] (st) mem Post = (zvc E n zc_148 d xm_148 83 [some (1, x), r1, r2, r3, r4] ((1, x) :: st) mem Post) := zrf rfl
theorem s_148_83 {E : yE} {n d : Nat} {mem : yMem} {Post : Option yV → yMem → Prop} {st : List yV} {r0 r1 r2 r3 r4 : Option yV} : zvc E (n + 1) zc_148 d xm_148 83 [r0, r1, r2, r3, r4] ((1, 95) :: st) mem Post = (zvc E n zc_148 d xm_148 86 [r0, r1, r2, r3, r4] ((1, 130) :: st) mem Post) := zrf rfl
theorem s_148_86 {E : yE} {n d : Nat} {mem : yMem} {Post : Option yV → yMem → Prop} {st : List yV} {r0 r1 r2 r3 r4 : Option yV} : zvc E (n + 1) zc_148 d xm_148 86 [r0, r1, r2, r3, r4] (st) mem Post = (zvc E n zc_148 d xm_148 87 [r0, r1, r2, r3, r4] ((0, 3) :: st) mem Post) := zrf rfl
theorem s_148_87 {E : yE} {n d : Nat} {mem : yMem} {Post : Option yV → yMem → Prop} {st : List yV} {r0 r1 r2 r3 r4 : Option yV} {x y : Int} : zvc E (n + 1) zc_148 d xm_148 87 [r0, r1, r2, r3, r4] ((0, x) :: (1, y) :: st) mem Post = (zvc E n zc_148 d xm_148 88 [r0, r1, r2, r3, r4] ((0, x) :: (1, y) :: (0, x) :: (1, y) :: st) mem Post) := zrf rfl
theorem s_148_88 {E : yE} {n d : Nat} {mem : yMem} {Post : Option yV → yMem → Prop} {st : List yV} {r0 r1 r2 r3 r4 : Option yV} {z j : Int} : zvc E (n + 1) zc_148 d xm_148 88 [r0, r1, r2, r3, r4] ((0, j) :: (1, z) :: st) mem Post = ((0 ≤ w32 j ∧ w32 j < ((zar z 2 : Nat) : Int)) ∧ zvc E n zc_148 d xm_148 89 [r0, r1, r2, r3, r4] ((4, mem z.toNat (w32 j).toNat) :: st) mem Post) := zrf rfl
theorem s_148_89 {E : yE} {n d : Nat} {mem : yMem} {Post : Option yV → yMem → Prop} {st : List yV} {r1 r2 r3 r4 : Option yV} {x : Int} : zvc E (n + 1) zc_148 d xm_148 89 [some (1, x), r1, r2, r3, r4] (st) mem Post = (zvc E n zc_148 d xm_148 90 [some (1, x), r1, r2, r3, r4] ((1, x) :: st) mem Post) := zrf rfl
theorem s_148_90 {E : yE} {n d : Nat} {mem : yMem} {Post : Option yV → yMem → Prop} {st : List yV} {r0 r1 r2 r3 : Option yV} {x : Int} : zvc E (n + 1) zc_148 d xm_148 90 [r0, r1, r2, r3, some (0, x)] (st) mem Post = (zvc E n zc_148 d xm_148 92 [r0, r1, r2, r3, some (0, x)] ((0, x) :: st) mem Post) := zrf rfl
theorem s_148_92 {E : yE} {n d : Nat} {mem : yMem} {Post : Option yV → yMem → Prop} {st : List yV} {r0 r1 r2 r3 r4 : Option yV} {z a0 : Int} : zvc E (n + 1) zc_148 d xm_148 92 [r0, r1, r2, r3, r4] ((0, a0) :: (1, z) :: st) mem Post = (zio z 12 = true ∧ ysum st ≤ 8 ∧ yCon E d xm_223 [(1, z), (0, a0)] mem (fun v mem' => zgk E d xm_148 95 [r0, r1, r2, r3, r4] st v mem' Post)) := zrf rfl
theorem s_148_95 {E : yE} {n d : Nat} {mem : yMem} {Post : Option yV → yMem → Prop} {st : List yV} {r0 r1 r2 r3 r4 : Option yV} {x : Int} : zvc E (n + 1) zc_148 d xm_148 95 [r0, r1, r2, r3, r4] ((0, x) :: st) mem Post = (zvc E n zc_148 d xm_148 96 [r0, r1, r2, r3, r4] ((4, w32 x) :: st) mem Post) := zrf rfl
theorem s_148_96 {E : yE} {n d : Nat} {mem : yMem} {Post : Option yV → yMem → Prop} {st : List yV} {r0 r1 r2 r3 r4 : Option yV} {x y : Int} : zvc E (n + 1) zc_148 d xm_148 96 [r0, r1, r2, r3, r4] ((4, y) :: (4, x) :: st) mem Post = (zvc E n zc_148 d xm_148 97 [r0, r1, r2, r3, r4] ((4, x + y) :: st) mem Post) := zrf rfl
theorem s_148_97 {E : yE} {n d : Nat} {mem : yMem} {Post : Option yV → yMem → Prop} {st : List yV} {r0 r1 r2 r3 r4 : Option yV} {x z j : Int} : zvc E (n + 1) zc_148 d xm_148 97 [r0, r1, r2, r3, r4] ((4, x) :: (0, j) :: (1, z) :: st) mem Post = ((0 ≤ w32 j ∧ w32 j < ((zar z 2 : Nat) : Int)) ∧ zvc E n zc_148 d xm_148 98 [r0, r1, r2, r3, r4] (st) (yset mem z.toNat (w32 j).toNat x) Post) := zrf rfl
theorem s_148_98 {E : yE} {n d : Nat} {mem : yMem} {Post : Option yV → yMem → Prop} {st : List yV} {r1 r2 r3 r4 : Option yV} {x : Int} : zvc E (n + 1) zc_148 d xm_148 98 [some (1, x), r1, r2, r3, r4] (st) mem Post = (zvc E n zc_148 d xm_148 99 [some (1, x), r1, r2, r3, r4] ((1, x) :: st) mem Post) := zrf rfl
theorem s_148_99 {E : yE} {n d : Nat} {mem : yMem} {Post : Option yV → yMem → Prop} {st : List yV} {r0 r1 r2 r3 r4 : Option yV} : zvc E (n + 1) zc_148 d xm_148 99 [r0, r1, r2, r3, r4] ((1, 95) :: st) mem Post = (zvc E n zc_148 d xm_148 102 [r0, r1, r2, r3, r4] ((1, 130) :: st) mem Post) := zrf rfl
theorem s_148_102 {E : yE} {n d : Nat} {mem : yMem} {Post : Option yV → yMem → Prop} {st : List yV} {r0 r1 r2 r3 r4 : Option yV} : zvc E (n + 1) zc_148 d xm_148 102 [r0, r1, r2, r3, r4] (st) mem Post = (zvc E n zc_148 d xm_148 103 [r0, r1, r2, r3, r4] ((0, 2) :: st) mem Post) := zrf rfl
theorem s_148_103 {E : yE} {n d : Nat} {mem : yMem} {Post : Option yV → yMem → Prop} {st : List yV} {r0 r1 r2 r3 r4 : Option yV} {x y : Int} : zvc E (n + 1) zc_148 d xm_148 103 [r0, r1, r2, r3, r4] ((0, x) :: (1, y) :: st) mem Post = (zvc E n zc_148 d xm_148 104 [r0, r1, r2, r3, r4] ((0, x) :: (1, y) :: (0, x) :: (1, y) :: st) mem Post) := zrf rfl
theorem s_148_104 {E : yE} {n d : Nat} {mem : yMem} {Post : Option yV → yMem → Prop} {st : List yV} {r0 r1 r2 r3 r4 : Option yV} {z j : Int} : zvc E (n + 1) zc_148 d xm_148 104 [r0, r1, r2, r3, r4] ((0, j) :: (1, z) :: st) mem Post = ((0 ≤ w32 j ∧ w32 j < ((zar z 2 : Nat) : Int)) ∧ zvc E n zc_148 d xm_148 105 [r0, r1, r2, r3, r4] ((4, mem z.toNat (w32 j).toNat) :: st) mem Post) := zrf rfl
theorem s_148_105 {E : yE} {n d : Nat} {mem : yMem} {Post : Option yV → yMem → Prop} {st : List yV} {r1 r2 r3 r4 : Option yV} {x : Int} : zvc E (n + 1) zc_148 d xm_148 105 [some (1, x), r1, r2, r3, r4] (st) mem Post = (zvc E n zc_148 d xm_148 106 [some (1, x), r1, r2, r3, r4] ((1, x) :: st) mem Post) := zrf rfl
theorem s_148_106 {E : yE} {n d : Nat} {mem : yMem} {Post : Option yV → yMem → Prop} {st : List yV} {r0 r1 r2 r3 r4 : Option yV} : zvc E (n + 1) zc_148 d xm_148 106 [r0, r1, r2, r3, r4] ((1, 95) :: st) mem Post = (zvc E n zc_148 d xm_148 109 [r0, r1, r2, r3, r4] ((1, 110) :: st) mem Post) := zrf rfl
theorem s_148_109 {E : yE} {n d : Nat} {mem : yMem} {Post : Option yV → yMem → Prop} {st : List yV} {r0 r1 r2 r3 : Option yV} {x : Int} : zvc E (n + 1) zc_148 d xm_148 109 [r0, r1, r2, r3, some (0, x)] (st) mem Post = (zvc E n zc_148 d xm_148 111 [r0, r1, r2, r3, some (0, x)] ((0, x) :: st) mem Post) := zrf rfl
theorem s_148_111 {E : yE} {n d : Nat} {mem : yMem} {Post : Option yV → yMem → Prop} {st : List yV} {r0 r1 r2 r3 r4 : Option yV} {z j : Int} : zvc E (n + 1) zc_148 d xm_148 111 [r0, r1, r2, r3, r4] ((0, j) :: (1, z) :: st) mem Post = ((0 ≤ w32 j ∧ w32 j < ((zar z 0 : Nat) : Int)) ∧ zvc E n zc_148 d xm_148 112 [r0, r1, r2, r3, r4] ((0, mem z.toNat (w32 j).toNat) :: st) mem Post) := zrf rfl
theorem s_148_112 {E : yE} {n d : Nat} {mem : yMem} {Post : Option yV → yMem → Prop} {st : List yV} {r1 r2 r3 r4 : Option yV} {x : Int} : zvc E (n + 1) zc_148 d xm_148 112 [some (1, x), r1, r2, r3, r4] (st) mem Post = (zvc E n zc_148 d xm_148 113 [some (1, x), r1, r2, r3, r4] ((1, x) :: st) mem Post) := zrf rfl
theorem s_148_113 {E : yE} {n d : Nat} {mem : yMem} {Post : Option yV → yMem → Prop} {st : List yV} {r0 r1 r2 r3 : Option yV} {x : Int} : zvc E (n + 1) zc_148 d xm_148 113 [r0, r1, r2, r3, some (0, x)] (st) mem Post = (zvc E n zc_148 d xm_148 115 [r0, r1, r2, r3, some (0, x)] ((0, x) :: st) mem Post) := zrf rfl
theorem s_148_115 {E : yE} {n d : Nat} {mem : yMem} {Post : Option yV → yMem → Prop} {st : List yV} {r0 r1 r2 r3 r4 : Option yV} {z a0 : Int} : zvc E (n + 1) zc_148 d xm_148 115 [r0, r1, r2, r3, r4] ((0, a0) :: (1, z) :: st) mem Post = (zio z 12 = true ∧ ysum st ≤ 8 ∧ yCon E d xm_223 [(1, z), (0, a0)] mem (fun v mem' => zgk E d xm_148 118 [r0, r1, r2, r3, r4] st v mem' Post)) := zrf rfl
theorem s_148_118 {E : yE} {n d : Nat} {mem : yMem} {Post : Option yV → yMem → Prop} {st : List yV} {r0 r1 r2 r3 r4 : Option yV} {x y : Int} : zvc E (n + 1) zc_148 d xm_148 118 [r0, r1, r2, r3, r4] ((0, y) :: (0, x) :: st) mem Post = (zvc E n zc_148 d xm_148 119 [r0, r1, r2, r3, r4] ((0, x - y) :: st) mem Post) := zrf rfl
theorem s_148_119 {E : yE} {n d : Nat} {mem : yMem} {Post : Option yV → yMem → Prop} {st : List yV} {r0 r1 r2 r3 r4 : Option yV} {x : Int} : zvc E (n + 1) zc_148 d xm_148 119 [r0, r1, r2, r3, r4] ((0, x) :: st) mem Post = (zvc E n zc_148 d xm_148 120 [r0, r1, r2, r3, r4] ((4, w32 x) :: st) mem Post) := zrf rfl
theorem s_148_120 {E : yE} {n d : Nat} {mem : yMem} {Post : Option yV → yMem → Prop} {st : List yV} {r0 r1 r2 r3 r4 : Option yV} {x y : Int} : zvc E (n + 1) zc_148 d xm_148 120 [r0, r1, r2, r3, r4] ((4, y) :: (4, x) :: st) mem Post = (zvc E n zc_148 d xm_148 121 [r0, r1, r2, r3, r4] ((4, x + y) :: st) mem Post) := zrf rfl
theorem s_148_121 {E : yE} {n d : Nat} {mem : yMem} {Post : Option yV → yMem → Prop} {st : List yV} {r0 r1 r2 r3 r4 : Option yV} {x z j : Int} : zvc E (n + 1) zc_148 d xm_148 121 [r0, r1, r2, r3, r4] ((4, x) :: (0, j) :: (1, z) :: st) mem Post = ((0 ≤ w32 j ∧ w32 j < ((zar z 2 : Nat) : Int)) ∧ zvc E n zc_148 d xm_148 122 [r0, r1, r2, r3, r4] (st) (yset mem z.toNat (w32 j).toNat x) Post) := zrf rfl
theorem s_148_122 {E : yE} {n d : Nat} {mem : yMem} {Post : Option yV → yMem → Prop} {st : List yV} {r1 r2 r3 r4 : Option yV} {x : Int} : zvc E (n + 1) zc_148 d xm_148 122 [some (1, x), r1, r2, r3, r4] (st) mem Post = (zvc E n zc_148 d xm_148 123 [some (1, x), r1, r2, r3, r4] ((1, x) :: st) mem Post) := zrf rfl
theorem s_148_123 {E : yE} {n d : Nat} {mem : yMem} {Post : Option yV → yMem → Prop} {st : List yV} {r0 r1 r2 r3 r4 : Option yV} : zvc E (n + 1) zc_148 d xm_148 123 [r0, r1, r2, r3, r4] ((1, 95) :: st) mem Post = (zvc E n zc_148 d xm_148 126 [r0, r1, r2, r3, r4] ((1, 130) :: st) mem Post) := zrf rfl
theorem s_148_126 {E : yE} {n d : Nat} {mem : yMem} {Post : Option yV → yMem → Prop} {st : List yV} {r0 r1 r2 r3 r4 : Option yV} : zvc E (n + 1) zc_148 d xm_148 126 [r0, r1, r2, r3, r4] (st) mem Post = (zvc E n zc_148 d xm_148 127 [r0, r1, r2, r3, r4] ((0, 4) :: st) mem Post) := zrf rfl
theorem s_148_127 {E : yE} {n d : Nat} {mem : yMem} {Post : Option yV → yMem → Prop} {st : List yV} {r1 r2 r3 r4 : Option yV} {x : Int} : zvc E (n + 1) zc_148 d xm_148 127 [some (1, x), r1, r2, r3, r4] (st) mem Post = (zvc E n zc_148 d xm_148 128 [some (1, x), r1, r2, r3, r4] ((1, x) :: st) mem Post) := zrf rfl
theorem s_148_128 {E : yE} {n d : Nat} {mem : yMem} {Post : Option yV → yMem → Prop} {st : List yV} {r0 r1 r2 r3 r4 : Option yV} : zvc E (n + 1) zc_148 d xm_148 128 [r0, r1, r2, r3, r4] ((1, 95) :: st) mem Post = (zvc E n zc_148 d xm_148 131 [r0, r1, r2, r3, r4] ((1, 130) :: st) mem Post) := zrf rfl
theorem s_148_131 {E : yE} {n d : Nat} {mem : yMem} {Post : Option yV → yMem → Prop} {st : List yV} {r0 r1 r2 r3 r4 : Option yV} : zvc E (n + 1) zc_148 d xm_148 131 [r0, r1, r2, r3, r4] (st) mem Post = (zvc E n zc_148 d xm_148 132 [r0, r1, r2, r3, r4] ((0, 4) :: st) mem Post) := zrf rfl
theorem s_148_132 {E : yE} {n d : Nat} {mem : yMem} {Post : Option yV → yMem → Prop} {st : List yV} {r0 r1 r2 r3 r4 : Option yV} {z j : Int} : zvc E (n + 1) zc_148 d xm_148 132 [r0, r1, r2, r3, r4] ((0, j) :: (1, z) :: st) mem Post = ((0 ≤ w32 j ∧ w32 j < ((zar z 2 : Nat) : Int)) ∧ zvc E n zc_148 d xm_148 133 [r0, r1, r2, r3, r4] ((4, mem z.toNat (w32 j).toNat) :: st) mem Post) := zrf rfl
theorem s_148_133 {E : yE} {n d : Nat} {mem : yMem} {Post : Option yV → yMem → Prop} {st : List yV} {r1 r2 r3 r4 : Option yV} {x : Int} : zvc E (n + 1) zc_148 d xm_148 133 [some (1, x), r1, r2, r3, r4] (st) mem Post = (zvc E n zc_148 d xm_148 134 [some (1, x), r1, r2, r3, r4] ((1, x) :: st) mem Post) := zrf rfl
theorem s_148_134 {E : yE} {n d : Nat} {mem : yMem} {Post : Option yV → yMem → Prop} {st : List yV} {r0 r1 r2 r3 : Option yV} {x : Int} : zvc E (n + 1) zc_148 d xm_148 134 [r0, r1, r2, r3, some (0, x)] (st) mem Post = (zvc E n zc_148 d xm_148 136 [r0, r1, r2, r3, some (0, x)] ((0, x) :: st) mem Post) := zrf rfl
theorem s_148_136 {E : yE} {n d : Nat} {mem : yMem} {Post : Option yV → yMem → Prop} {st : List yV} {r0 r1 r2 r3 r4 : Option yV} {z a0 : Int} : zvc E (n + 1) zc_148 d xm_148 136 [r0, r1, r2, r3, r4] ((0, a0) :: (1, z) :: st) mem Post = (zio z 12 = true ∧ ysum st ≤ 8 ∧ yCon E d xm_179 [(1, z), (0, a0)] mem (fun v mem' => zgk E d xm_148 139 [r0, r1, r2, r3, r4] st v mem' Post)) := zrf rfl
theorem s_148_139 {E : yE} {n d : Nat} {mem : yMem} {Post : Option yV → yMem → Prop} {st : List yV} {r0 r1 r2 r3 r4 : Option yV} {x : Int} : zvc E (n + 1) zc_148 d xm_148 139 [r0, r1, r2, r3, r4] ((0, x) :: st) mem Post = (zvc E n zc_148 d xm_148 140 [r0, r1, r2, r3, r4] ((4, w32 x) :: st) mem Post) := zrf rfl
theorem s_148_140 {E : yE} {n d : Nat} {mem : yMem} {Post : Option yV → yMem → Prop} {st : List yV} {r0 r1 r2 r3 r4 : Option yV} {x y : Int} : zvc E (n + 1) zc_148 d xm_148 140 [r0, r1, r2, r3, r4] ((4, y) :: (4, x) :: st) mem Post = (ysum st ≤ 8 ∧ zvc E n zc_148 d xm_148 143 [r0, r1, r2, r3, r4] ((4, zmxl x y) :: st) mem Post) := zrf rfl
theorem s_148_143 {E : yE} {n d : Nat} {mem : yMem} {Post : Option yV → yMem → Prop} {st : List yV} {r0 r1 r2 r3 r4 : Option yV} {x z j : Int} : zvc E (n + 1) zc_148 d xm_148 143 [r0, r1, r2, r3, r4] ((4, x) :: (0, j) :: (1, z) :: st) mem Post = ((0 ≤ w32 j ∧ w32 j < ((zar z 2 : Nat) : Int)) ∧ zvc E n zc_148 d xm_148 144 [r0, r1, r2, r3, r4] (st) (yset mem z.toNat (w32 j).toNat x) Post) := zrf rfl
theorem s_148_144n {E : yE} {n d : Nat} {mem : yMem} {Post : Option yV → yMem → Prop} {st : List yV} {r0 r1 r2 : Option yV} {x : Int} : zvc E (n + 1) zc_148 d xm_148 144 [r0, r1, r2, none, some (0, x)] (st) mem Post = (zvc E n zc_148 d xm_148 147 [r0, r1, r2, none, some (0, x + 1)] (st) mem Post) := zrf rfl
theorem s_148_144i {E : yE} {n d : Nat} {mem : yMem} {Post : Option yV → yMem → Prop} {st : List yV} {r0 r1 r2 : Option yV} {x w : Int} : zvc E (n + 1) zc_148 d xm_148 144 [r0, r1, r2, some (0, w), some (0, x)] (st) mem Post = (zvc E n zc_148 d xm_148 147 [r0, r1, r2, some (0, w), some (0, x + 1)] (st) mem Post) := zrf rfl
theorem s_148_144p {E : yE} {n d : Nat} {mem : yMem} {Post : Option yV → yMem → Prop} {st : List yV} {r0 r1 r2 : Option yV} {x w : Int} : zvc E (n + 1) zc_148 d xm_148 144 [r0, r1, r2, some (1, w), some (0, x)] (st) mem Post = (zvc E n zc_148 d xm_148 147 [r0, r1, r2, some (1, w), some (0, x + 1)] (st) mem Post) := zrf rfl
theorem s_148_147 {E : yE} {n d : Nat} {mem : yMem} {Post : Option yV → yMem → Prop} {st : List yV} {r0 r1 r2 r3 r4 : Option yV} : zvc E (n + 1) zc_148 d xm_148 147 [r0, r1, r2, r3, r4] (st) mem Post = (zvc E n zc_148 d xm_148 67 [r0, r1, r2, r3, r4] (st) mem Post) := zrf rfl
theorem s_148_150 {E : yE} {n d : Nat} {mem : yMem} {Post : Option yV → yMem → Prop} {st : List yV} {r0 r1 r2 r4 : Option yV} {x : Int} : zvc E (n + 1) zc_148 d xm_148 150 [r0, r1, r2, some (0, x), r4] (st) mem Post = (zvc E n zc_148 d xm_148 151 [r0, r1, r2, some (0, x), r4] ((0, x) :: st) mem Post) := zrf rfl
theorem s_148_151 {E : yE} {n d : Nat} {mem : yMem} {Post : Option yV → yMem → Prop} {st : List yV} {r1 r2 r3 r4 : Option yV} {x : Int} : zvc E (n + 1) zc_148 d xm_148 151 [some (1, x), r1, r2, r3, r4] (st) mem Post = (zvc E n zc_148 d xm_148 152 [some (1, x), r1, r2, r3, r4] ((1, x) :: st) mem Post) := zrf rfl
theorem s_148_152 {E : yE} {n d : Nat} {mem : yMem} {Post : Option yV → yMem → Prop} {st : List yV} {r0 r1 r2 r3 r4 : Option yV} : zvc E (n + 1) zc_148 d xm_148 152 [r0, r1, r2, r3, r4] (st) mem Post = (zvc E n zc_148 d xm_148 153 [r0, r1, r2, r3, r4] ((0, 2) :: st) mem Post) := zrf rfl
theorem s_148_153 {E : yE} {n d : Nat} {mem : yMem} {Post : Option yV → yMem → Prop} {st : List yV} {r0 r2 r3 r4 : Option yV} {x : Int} : zvc E (n + 1) zc_148 d xm_148 153 [r0, some (0, x), r2, r3, r4] (st) mem Post = (zvc E n zc_148 d xm_148 154 [r0, some (0, x), r2, r3, r4] ((0, x) :: st) mem Post) := zrf rfl
theorem s_148_154 {E : yE} {n d : Nat} {mem : yMem} {Post : Option yV → yMem → Prop} {st : List yV} {r0 r1 r2 r3 r4 : Option yV} {x y : Int} : zvc E (n + 1) zc_148 d xm_148 154 [r0, r1, r2, r3, r4] ((0, y) :: (0, x) :: st) mem Post = (zvc E n zc_148 d xm_148 155 [r0, r1, r2, r3, r4] ((0, x + y) :: st) mem Post) := zrf rfl
theorem s_148_155 {E : yE} {n d : Nat} {mem : yMem} {Post : Option yV → yMem → Prop} {st : List yV} {r0 r1 r2 r3 r4 : Option yV} : zvc E (n + 1) zc_148 d xm_148 155 [r0, r1, r2, r3, r4] (st) mem Post = (zvc E n zc_148 d xm_148 158 [r0, r1, r2, r3, r4] ((0, 999) :: st) mem Post) := zrf rfl
theorem s_148_158 {E : yE} {n d : Nat} {mem : yMem} {Post : Option yV → yMem → Prop} {st : List yV} {r0 r1 r2 r3 r4 : Option yV} : zvc E (n + 1) zc_148 d xm_148 158 [r0, r1, r2, r3, r4] (st) mem Post = (zvc E n zc_148 d xm_148 159 [r0, r1, r2, r3, r4] ((0, 0) :: st) mem Post) := zrf rfl
theorem s_148_159 {E : yE} {n d : Nat} {mem : yMem} {Post : Option yV → yMem → Prop} {st : List yV} {r0 r1 r2 r3 r4 : Option yV} {z a0 a1 a2 : Int} : zvc E (n + 1) zc_148 d xm_148 159 [r0, r1, r2, r3, r4] ((0, a2) :: (0, a1) :: (0, a0) :: (1, z) :: st) mem Post = (zio z 12 = true ∧ ysum st ≤ 8 ∧ yCon E d xm_251 [(1, z), (0, a0), (0, a1), (0, a2)] mem (fun v mem' => zgk E d xm_148 162 [r0, r1, r2, r3, r4] st v mem' Post)) := zrf rfl
theorem s_148_162 {E : yE} {n d : Nat} {mem : yMem} {Post : Option yV → yMem → Prop} {st : List yV} {r0 r1 r2 r3 r4 : Option yV} {x y : Int} : zvc E (n + 1) zc_148 d xm_148 162 [r0, r1, r2, r3, r4] ((0, y) :: (0, x) :: st) mem Post = (ysum st ≤ 8 ∧ zvc E n zc_148 d xm_148 165 [r0, r1, r2, r3, r4] ((0, zmni x y) :: st) mem Post) := zrf rfl
theorem s_148_165 {E : yE} {n d : Nat} {mem : yMem} {Post : Option yV → yMem → Prop} {r0 r1 r2 r3 r4 : Option yV} {x : Int} : zvc E (n + 1) zc_148 d xm_148 165 [r0, r1, r2, r3, r4] ([(0, x)]) mem Post = (Post (some (0, x)) mem) := zrf rfl
theorem e_151 {E : yE} {d : Nat} {mem : yMem} {Q : Option yV → yMem → Prop} {z a0 : Int} (h : zG E d xm_151 0 [some (1, z), some (0, a0)] [] mem Q) : yCon E (d + 1) xm_151 [(1, z), (0, a0)] mem Q := zcon_of xmo_151 (Nat.le_of_ble_eq_true rfl) h
theorem e_162 {E : yE} {d : Nat} {mem : yMem} {Q : Option yV → yMem → Prop} {z a0 a1 : Int} (h : zG E d xm_162 0 [some (1, z), some (0, a0), some (0, a1)] [] mem Q) : yCon E (d + 1) xm_162 [(1, z), (0, a0), (0, a1)] mem Q := zcon_of xmo_162 (Nat.le_of_ble_eq_true rfl) h
theorem e_158 {E : yE} {d : Nat} {mem : yMem} {Q : Option yV → yMem → Prop} {z a0 a1 : Int} (h : zG E d xm_158 0 [some (1, z), some (0, a0), some (0, a1)] [] mem Q) : yCon E (d + 1) xm_158 [(1, z), (0, a0), (0, a1)] mem Q := zcon_of xmo_158 (Nat.le_of_ble_eq_true rfl) h
theorem e_148 {E : yE} {d : Nat} {mem : yMem} {Q : Option yV → yMem → Prop} {z a0 a1 a2 : Int} (h : zG E d xm_148 0 [some (1, z), some (0, a0), some (0, a1), some (0, a2), none] [] mem Q) : yCon E (d + 1) xm_148 [(1, z), (0, a0), (0, a1), (0, a2)] mem Q := zcon_of xmo_148 (Nat.le_of_ble_eq_true rfl) h

/-! THE REFERENCE: what is due, how boys crack, what a BAKER bids -/
def rvN (b m : yMem) : Prop := ∀ i j, i ≠ 130 → i ≠ 131 → ¬ (i = 95 ∧ j = 52) → m i j = b i j
theorem rvN_rf {b : yMem} : rvN b b := fun _ _ _ _ _ => rfl
theorem rvN_tr {a b c : yMem} (h1 : rvN a b) (h2 : rvN b c) : rvN a c := fun i j p q r => by rw [h2 i j p q r, h1 i j p q r]
theorem rvN_z {b m : yMem} (h : rzF b m) : rvN b m := fun i j p q r => h i j r q
theorem rvN_n {b : yMem} {j : Nat} {x : Int} : rvN b (yset b 130 j x) := fun i k p q r => yset_o p
theorem rvN_D {b m : yMem} {D : dDc} (h : rvN b m) (hD : rDl b D) : rDl m D := rDl_w hD (fun i j n _ i1 i2 _ => by rw [h i j (by omega) (by omega) (by omega)])
theorem OmA_f {b m : yMem} (h : OmA b) (hf : ∀ i j, 114 ≤ i → i ≤ 117 → m i j = b i j) : OmA m := fun s hs => by
  obtain ⟨e, he⟩ := h s hs
  refine ⟨e, ?_⟩
  rw [show m 116 = b 116 from funext (fun j => hf 116 j (by decide) (by decide)), show m 117 = b 117 from funext (fun j => hf 117 j (by decide) (by decide)), hf 114 s (by decide) (by decide), hf 115 s (by decide) (by decide)]
  exact he
theorem rvN_A {b m : yMem} (h : rvN b m) (hA : OmA b) : OmA m := OmA_f hA (fun i j h1 h2 => h i j (by omega) (by omega) (by omega))
theorem ydiv3_a : ∀ a : Nat, a < 12 → w32 (ybin 9 (a : Int) 3) = ((a / 3 : Nat) : Int) := by decide +kernel
theorem ydiv3 {x : Int} {a : Nat} (hx : w32 x = (a : Int)) (ha : a < 12) : w32 (ybin 9 x 3) = ((a / 3 : Nat) : Int) := by
  rw [← ydiv3_a a ha]
  show w32 (fbin 9 (iI x) (iI 3)).toInt = w32 (fbin 9 (iI (a : Int)) (iI 3)).toInt
  rw [show iI x = iI (a : Int) from by rw [← hx, iI_w]]
theorem w64_mxl {x y : Int} : w64 (zmxl x y) = max (w64 x) (w64 y) := by
  unfold zmxl
  split <;> omega
section RU
variable {E : yE} {mem : yMem} {Q : Option yV → yMem → Prop} {D : dDc} {p v e q : Nat} {P V X wk : Int}
theorem r_calls (hE : yEok E) {D0 : Nat} (hD : 1 ≤ D0) (hK : w32 (mem 118 0) = wk) (hV : w32 V = (v : Int)) (h : rDl mem D) (hk : dOk D) (hv : v < D.2.1.length) (hQ : ∀ m, rvN mem m → (w64 (m 130 0) = vDe D v ∧ w64 (m 130 1) = sRt D v ∧ w64 (m 130 2) = 0 ∧ w64 (m 130 3) = 0 ∧ w64 (m 130 4) = vHi D v ∧ w64 (m 130 5) = wk ∧ w64 (m 130 6) = 0) → Q none m) : yCon E D0 xm_151 [(1, 95), (0, V)] mem Q := by
  obtain ⟨d, rfl⟩ := Nat.exists_eq_add_of_le' hD
  obtain ⟨⟨n1, n1'⟩, ⟨n2, n2'⟩, -⟩ := rTb_n h
  obtain ⟨v1, v2, v3, v4, v5⟩ := rTb_v h hv
  have kv : dVk D.1.length (vAt D v) := dOk_v hk hv
  have kv1 : -1 ≤ vHo D v ∧ vHo D v < (D.1.length : Int) := kv.2.1
  have Vt := w32_t hV
  refine e_151 ?_
  refine zvc_ok hE 120 [] _ _ _ _ _ _ _ xmo_151 ?_
  simp only [ynok_30, ynok_31, w32c_0, w32c_1, w32c_2, w32c_3, w32c_4, w32c_5, w32c_6, w32c_7, w32c_8, w32c_9, w32c_10, w32c_11, w32c_12, w32c_13, w32c_14, w32c_m1, w32c_m2, w32c_118, Int.reduceAdd, Int.reduceSub, Int.reduceMul, yput_s, yput_n, znl_n, znl_0, znl_1, znl_4, ysum_n, ysum_0, ysum_1, ysum_4, true_and, and_true, Nat.reduceAdd, Nat.reduceLeDiff, true_implies, eq_self, true_or, or_true, or_false, false_or, not_true_eq_false, not_false_eq_true, false_implies, implies_true, yset_s, yset_o, yset_d, ne_eq, Nat.reduceEqDiff, Int.reduceToNat, Int.reduceEq, Int.reduceLE, Int.reduceLT, Classical.not_not, Nat.reduceLT, ↓zvk_s, ↓zvk_n, ↓s_151_0, ↓s_151_1, ↓s_151_4, ↓s_151_5, ↓s_151_6, ↓s_151_9, ↓s_151_10, ↓s_151_11, ↓s_151_12, ↓s_151_13, ↓s_151_14, ↓s_151_17, ↓s_151_18, ↓s_151_19, ↓s_151_22, ↓s_151_23, ↓s_151_24, ↓s_151_25, ↓s_151_28, ↓s_151_29, ↓s_151_32, ↓s_151_33, ↓s_151_36, ↓s_151_37, ↓s_151_40, ↓s_151_41, ↓s_151_42, ↓s_151_43, ↓s_151_44, ↓s_151_45, ↓s_151_46, ↓s_151_49, ↓s_151_50, ↓s_151_51, ↓s_151_52, ↓s_151_53, ↓s_151_56, ↓s_151_57, ↓s_151_58, ↓s_151_59, ↓s_151_60, ↓s_151_63, ↓s_151_64, ↓s_151_65, ↓s_151_68, ↓s_151_69, ↓s_151_70, ↓s_151_71, ↓s_151_72, ↓s_151_73, ↓s_151_76, ↓s_151_77, ↓s_151_78, ↓s_151_81, ↓s_151_82, ↓s_151_83, ↓s_151_84, ↓s_151_85, ↓s_151_86, ↓s_151_89, ↓s_151_91, ↓s_151_92, ↓s_151_93, zar_130, zia_130, zln_130, zit_130, zar_99, zia_99, zln_99, zit_99, zar_118, zia_118, zln_118, zit_118, zar_103, zia_103, zln_103, zit_103, zar_105, zia_105, zln_105, zit_105, zar_106, zia_106, zln_106, zit_106, zio_95, Vt, v4]
  have fin : ∀ R : Int, w64 R = sRt D v → Q none (yset (yset (yset (yset (yset (yset (yset mem 130 0 (w32 (mem 106 v))) 130 1 R) 130 2 0) 130 3 0) 130 4 (w32 (mem 103 v))) 130 5 (w32 (mem 118 0))) 130 6 0) := fun R hR => hQ _ (rvN_tr (rvN_tr (rvN_tr (rvN_tr (rvN_tr (rvN_tr rvN_n rvN_n) rvN_n) rvN_n) rvN_n) rvN_n) rvN_n) (by
    refine ⟨?_, ?_, ?_, ?_, ?_, ?_, ?_⟩
    · rw [yset_d (by decide), yset_d (by decide), yset_d (by decide), yset_d (by decide), yset_d (by decide), yset_d (by decide), yset_s, w64_w32]; exact v5
    · rw [yset_d (by decide), yset_d (by decide), yset_d (by decide), yset_d (by decide), yset_d (by decide), yset_s]; exact hR
    · rw [yset_d (by decide), yset_d (by decide), yset_d (by decide), yset_d (by decide), yset_s]; exact w64_0
    · rw [yset_d (by decide), yset_d (by decide), yset_d (by decide), yset_s]; exact w64_0
    · rw [yset_d (by decide), yset_d (by decide), yset_s, w64_w32]; exact v2
    · rw [yset_d (by decide), yset_s, w64_w32]; exact hK
    · rw [yset_s]; exact w64_0)
  refine ⟨⟨by omega, by omega⟩, by decide, ⟨by omega, by omega⟩, fun nh => ⟨⟨by omega, by omega⟩, ⟨by omega, by omega⟩, by decide, by decide, by decide, ⟨by omega, by omega⟩, by decide, by decide, by decide, by decide, fin _ ?_⟩, fun yh => ⟨by decide, by decide, by decide, ⟨by omega, by omega⟩, by decide, by decide, by decide, by decide, fin _ ?_⟩⟩
  · rw [w64_w32, rTb_t h (show (vHo D v).toNat < D.1.length by omega)]
    unfold sRt
    rw [if_neg nh]
  · unfold sRt
    rw [if_pos yh]
    exact w64_0
theorem r_due (hE : yEok E) {D0 : Nat} (hD : 8 ≤ D0) (hX : w32 (mem 122 0) = X) (h0 : 0 ≤ X) (h1 : X < 64) (hK : w32 (mem 118 0) = wk) (hP : w32 P = (p : Int)) (hV : w32 V = (v : Int)) (h : rDl mem D) (hk : dOk D) (hA : OmA mem) (hp : uPv D p) (hv : v < D.2.1.length) (hQ : ∀ r m, rvN mem m → w32 r = sDu D X wk p v → Q (some (0, r)) m) : yCon E D0 xm_162 [(1, 95), (0, P), (0, V)] mem Q := by
  obtain ⟨d, rfl⟩ := Nat.exists_eq_add_of_le' hD
  obtain ⟨⟨n1, n1'⟩, ⟨n2, n2'⟩, ⟨n3, n3'⟩, n4, n4'⟩ := rTb_n h
  obtain ⟨v1, v2, v3, v4, v5⟩ := rTb_v h hv
  have Vt := w32_t hV
  have p12 := uPv_ltr h hp
  have pdv := ydiv3 hP p12.1
  have Pt := w32_t pdv
  refine e_162 ?_
  refine zvc_ok hE 120 [] _ _ _ _ _ _ _ xmo_162 ?_
  simp only [ynok_30, ynok_31, w32c_0, w32c_1, w32c_2, w32c_3, w32c_4, w32c_5, w32c_6, w32c_7, w32c_8, w32c_9, w32c_10, w32c_11, w32c_12, w32c_13, w32c_14, w32c_m1, w32c_m2, w32c_118, Int.reduceAdd, Int.reduceSub, Int.reduceMul, yput_s, yput_n, znl_n, znl_0, znl_1, znl_4, ysum_n, ysum_0, ysum_1, ysum_4, true_and, and_true, Nat.reduceAdd, Nat.reduceLeDiff, true_implies, eq_self, true_or, or_true, or_false, false_or, not_true_eq_false, not_false_eq_true, false_implies, implies_true, yset_s, yset_o, yset_d, ne_eq, Nat.reduceEqDiff, Int.reduceToNat, Int.reduceEq, Int.reduceLE, Int.reduceLT, Classical.not_not, Nat.reduceLT, ↓zvk_s, ↓zvk_n, ↓s_162_0, ↓s_162_1, ↓s_162_4, ↓s_162_5, ↓s_162_6, ↓s_162_7, ↓s_162_10, ↓s_162_11, ↓s_162_12, ↓s_162_13, ↓s_162_14, ↓s_162_17, ↓s_162_18, ↓s_162_21, ↓s_162_22, ↓s_162_23, ↓s_162_24, ↓s_162_25, ↓s_162_28, ↓s_162_29, ↓s_162_30, ↓s_162_31, ↓s_162_34, ↓s_162_35, ↓s_162_36, ↓s_162_37, ↓s_162_40, ↓s_162_41, ↓s_162_42, ↓s_162_43, ↓s_162_46, ↓s_162_47, ↓s_162_48, ↓s_162_49, ↓s_162_52, ↓s_162_53, ↓s_162_54, ↓s_162_55, ↓s_162_58, ↓s_162_60, ↓s_162_61, ↓s_162_64, ↓s_162_65, ↓s_162_66, ↓s_162_67, ↓s_162_68, ↓s_162_69, ↓s_162_70, ↓s_162_71, ↓s_162_72, ↓s_162_75, ↓s_162_76, ↓s_162_79, ↓s_162_80, ↓s_162_81, ↓s_162_84, w32c_999, zar_130, zia_130, zln_130, zit_130, zar_105, zia_105, zln_105, zit_105, zar_106, zia_106, zln_106, zit_106, zar_109, zia_109, zln_109, zit_109, zio_95, Vt, v4]
  refine ⟨⟨by omega, by omega⟩, fun nh => r_calls hE (by omega) hK hV h hk hv (fun m1 F1 N1 => ?_), fun yh => hQ 0 mem rvN_rf (by unfold sDu; rw [if_pos yh]; exact w32c_0)⟩
  refine zgk_n hE xmo_162 120 [] ?_
  simp only [ynok_30, ynok_31, w32c_0, w32c_1, w32c_2, w32c_3, w32c_4, w32c_5, w32c_6, w32c_7, w32c_8, w32c_9, w32c_10, w32c_11, w32c_12, w32c_13, w32c_14, w32c_m1, w32c_m2, w32c_118, Int.reduceAdd, Int.reduceSub, Int.reduceMul, yput_s, yput_n, znl_n, znl_0, znl_1, znl_4, ysum_n, ysum_0, ysum_1, ysum_4, true_and, and_true, Nat.reduceAdd, Nat.reduceLeDiff, true_implies, eq_self, true_or, or_true, or_false, false_or, not_true_eq_false, not_false_eq_true, false_implies, implies_true, yset_s, yset_o, yset_d, ne_eq, Nat.reduceEqDiff, Int.reduceToNat, Int.reduceEq, Int.reduceLE, Int.reduceLT, Classical.not_not, Nat.reduceLT, ↓zvk_s, ↓zvk_n, ↓s_162_0, ↓s_162_1, ↓s_162_4, ↓s_162_5, ↓s_162_6, ↓s_162_7, ↓s_162_10, ↓s_162_11, ↓s_162_12, ↓s_162_13, ↓s_162_14, ↓s_162_17, ↓s_162_18, ↓s_162_21, ↓s_162_22, ↓s_162_23, ↓s_162_24, ↓s_162_25, ↓s_162_28, ↓s_162_29, ↓s_162_30, ↓s_162_31, ↓s_162_34, ↓s_162_35, ↓s_162_36, ↓s_162_37, ↓s_162_40, ↓s_162_41, ↓s_162_42, ↓s_162_43, ↓s_162_46, ↓s_162_47, ↓s_162_48, ↓s_162_49, ↓s_162_52, ↓s_162_53, ↓s_162_54, ↓s_162_55, ↓s_162_58, ↓s_162_60, ↓s_162_61, ↓s_162_64, ↓s_162_65, ↓s_162_66, ↓s_162_67, ↓s_162_68, ↓s_162_69, ↓s_162_70, ↓s_162_71, ↓s_162_72, ↓s_162_75, ↓s_162_76, ↓s_162_79, ↓s_162_80, ↓s_162_81, ↓s_162_84, w32c_999, zar_130, zia_130, zln_130, zit_130, zar_105, zia_105, zln_105, zit_105, zar_106, zia_106, zln_106, zit_106, zar_109, zia_109, zln_109, zit_109, zio_95]
  have d1 := rvN_D F1 h
  refine r_sounds hE (by omega) (by rw [F1 122 0 (by decide) (by decide) (by decide)]; exact hX) h0 h1 hP hV d1 hk hp hv (fun r1 hr1 => ?_)
  refine zgk_s hE xmo_162 120 [] ?_
  simp only [ynok_30, ynok_31, w32c_0, w32c_1, w32c_2, w32c_3, w32c_4, w32c_5, w32c_6, w32c_7, w32c_8, w32c_9, w32c_10, w32c_11, w32c_12, w32c_13, w32c_14, w32c_m1, w32c_m2, w32c_118, Int.reduceAdd, Int.reduceSub, Int.reduceMul, yput_s, yput_n, znl_n, znl_0, znl_1, znl_4, ysum_n, ysum_0, ysum_1, ysum_4, true_and, and_true, Nat.reduceAdd, Nat.reduceLeDiff, true_implies, eq_self, true_or, or_true, or_false, false_or, not_true_eq_false, not_false_eq_true, false_implies, implies_true, yset_s, yset_o, yset_d, ne_eq, Nat.reduceEqDiff, Int.reduceToNat, Int.reduceEq, Int.reduceLE, Int.reduceLT, Classical.not_not, Nat.reduceLT, ↓zvk_s, ↓zvk_n, ↓s_162_0, ↓s_162_1, ↓s_162_4, ↓s_162_5, ↓s_162_6, ↓s_162_7, ↓s_162_10, ↓s_162_11, ↓s_162_12, ↓s_162_13, ↓s_162_14, ↓s_162_17, ↓s_162_18, ↓s_162_21, ↓s_162_22, ↓s_162_23, ↓s_162_24, ↓s_162_25, ↓s_162_28, ↓s_162_29, ↓s_162_30, ↓s_162_31, ↓s_162_34, ↓s_162_35, ↓s_162_36, ↓s_162_37, ↓s_162_40, ↓s_162_41, ↓s_162_42, ↓s_162_43, ↓s_162_46, ↓s_162_47, ↓s_162_48, ↓s_162_49, ↓s_162_52, ↓s_162_53, ↓s_162_54, ↓s_162_55, ↓s_162_58, ↓s_162_60, ↓s_162_61, ↓s_162_64, ↓s_162_65, ↓s_162_66, ↓s_162_67, ↓s_162_68, ↓s_162_69, ↓s_162_70, ↓s_162_71, ↓s_162_72, ↓s_162_75, ↓s_162_76, ↓s_162_79, ↓s_162_80, ↓s_162_81, ↓s_162_84, w32c_999, zar_130, zia_130, zln_130, zit_130, zar_105, zia_105, zln_105, zit_105, zar_106, zia_106, zln_106, zit_106, zar_109, zia_109, zln_109, zit_109, zio_95]
  refine ⟨by decide, ?_⟩
  have d2 := rvN_D (rvN_tr F1 (rvN_n (j := 2) (x := w32 r1))) h
  refine r_rests hE (by omega) hP d2 hp (fun r2 hr2 => ?_)
  refine zgk_s hE xmo_162 120 [] ?_
  simp only [ynok_30, ynok_31, w32c_0, w32c_1, w32c_2, w32c_3, w32c_4, w32c_5, w32c_6, w32c_7, w32c_8, w32c_9, w32c_10, w32c_11, w32c_12, w32c_13, w32c_14, w32c_m1, w32c_m2, w32c_118, Int.reduceAdd, Int.reduceSub, Int.reduceMul, yput_s, yput_n, znl_n, znl_0, znl_1, znl_4, ysum_n, ysum_0, ysum_1, ysum_4, true_and, and_true, Nat.reduceAdd, Nat.reduceLeDiff, true_implies, eq_self, true_or, or_true, or_false, false_or, not_true_eq_false, not_false_eq_true, false_implies, implies_true, yset_s, yset_o, yset_d, ne_eq, Nat.reduceEqDiff, Int.reduceToNat, Int.reduceEq, Int.reduceLE, Int.reduceLT, Classical.not_not, Nat.reduceLT, ↓zvk_s, ↓zvk_n, ↓s_162_0, ↓s_162_1, ↓s_162_4, ↓s_162_5, ↓s_162_6, ↓s_162_7, ↓s_162_10, ↓s_162_11, ↓s_162_12, ↓s_162_13, ↓s_162_14, ↓s_162_17, ↓s_162_18, ↓s_162_21, ↓s_162_22, ↓s_162_23, ↓s_162_24, ↓s_162_25, ↓s_162_28, ↓s_162_29, ↓s_162_30, ↓s_162_31, ↓s_162_34, ↓s_162_35, ↓s_162_36, ↓s_162_37, ↓s_162_40, ↓s_162_41, ↓s_162_42, ↓s_162_43, ↓s_162_46, ↓s_162_47, ↓s_162_48, ↓s_162_49, ↓s_162_52, ↓s_162_53, ↓s_162_54, ↓s_162_55, ↓s_162_58, ↓s_162_60, ↓s_162_61, ↓s_162_64, ↓s_162_65, ↓s_162_66, ↓s_162_67, ↓s_162_68, ↓s_162_69, ↓s_162_70, ↓s_162_71, ↓s_162_72, ↓s_162_75, ↓s_162_76, ↓s_162_79, ↓s_162_80, ↓s_162_81, ↓s_162_84, w32c_999, zar_130, zia_130, zln_130, zit_130, zar_105, zia_105, zln_105, zit_105, zar_106, zia_106, zln_106, zit_106, zar_109, zia_109, zln_109, zit_109, zio_95]
  refine ⟨by decide, ?_⟩
  have d3 := rvN_D (rvN_tr (rvN_tr F1 (rvN_n (j := 2) (x := w32 r1))) (rvN_n (j := 3) (x := w32 r2))) h
  refine r_high hE (by omega) hP d3 hp (fun r3 hr3 => ?_)
  refine zgk_s hE xmo_162 120 [] ?_
  simp only [ynok_30, ynok_31, w32c_0, w32c_1, w32c_2, w32c_3, w32c_4, w32c_5, w32c_6, w32c_7, w32c_8, w32c_9, w32c_10, w32c_11, w32c_12, w32c_13, w32c_14, w32c_m1, w32c_m2, w32c_118, Int.reduceAdd, Int.reduceSub, Int.reduceMul, yput_s, yput_n, znl_n, znl_0, znl_1, znl_4, ysum_n, ysum_0, ysum_1, ysum_4, true_and, and_true, Nat.reduceAdd, Nat.reduceLeDiff, true_implies, eq_self, true_or, or_true, or_false, false_or, not_true_eq_false, not_false_eq_true, false_implies, implies_true, yset_s, yset_o, yset_d, ne_eq, Nat.reduceEqDiff, Int.reduceToNat, Int.reduceEq, Int.reduceLE, Int.reduceLT, Classical.not_not, Nat.reduceLT, ↓zvk_s, ↓zvk_n, ↓s_162_0, ↓s_162_1, ↓s_162_4, ↓s_162_5, ↓s_162_6, ↓s_162_7, ↓s_162_10, ↓s_162_11, ↓s_162_12, ↓s_162_13, ↓s_162_14, ↓s_162_17, ↓s_162_18, ↓s_162_21, ↓s_162_22, ↓s_162_23, ↓s_162_24, ↓s_162_25, ↓s_162_28, ↓s_162_29, ↓s_162_30, ↓s_162_31, ↓s_162_34, ↓s_162_35, ↓s_162_36, ↓s_162_37, ↓s_162_40, ↓s_162_41, ↓s_162_42, ↓s_162_43, ↓s_162_46, ↓s_162_47, ↓s_162_48, ↓s_162_49, ↓s_162_52, ↓s_162_53, ↓s_162_54, ↓s_162_55, ↓s_162_58, ↓s_162_60, ↓s_162_61, ↓s_162_64, ↓s_162_65, ↓s_162_66, ↓s_162_67, ↓s_162_68, ↓s_162_69, ↓s_162_70, ↓s_162_71, ↓s_162_72, ↓s_162_75, ↓s_162_76, ↓s_162_79, ↓s_162_80, ↓s_162_81, ↓s_162_84, w32c_999, zar_130, zia_130, zln_130, zit_130, zar_105, zia_105, zln_105, zit_105, zar_106, zia_106, zln_106, zit_106, zar_109, zia_109, zln_109, zit_109, zio_95, Vt, Pt]
  have pt := (rTb_e d1 (e := p / 3) hp.1).1
  obtain ⟨N0, N1, -, -, -, N5, -⟩ := N1
  have iR : eIn (sRt D v) := by
    unfold sRt
    rw [if_neg nh, ← rTb_t h (show (vHo D v).toNat < D.1.length by have : -1 ≤ vHo D v ∧ vHo D v < (D.1.length : Int) := (dOk_v hk hv).2.1; omega)]
    exact eIn_32 _
  have F4 : rvN mem (yset (yset (yset (yset m1 130 2 (w32 r1)) 130 3 (w32 r2)) 130 4 (w32 r3)) 130 6 (w32 (m1 109 (p / 3)))) := rvN_tr (rvN_tr (rvN_tr (rvN_tr F1 rvN_n) rvN_n) rvN_n) rvN_n
  have N : ∀ i, i < 7 → w64 (yset (yset (yset (yset m1 130 2 (w32 r1)) 130 3 (w32 r2)) 130 4 (w32 r3)) 130 6 (w32 (m1 109 (p / 3))) 130 i) = nm7 (vDe D v) (sRt D v) (sNo D X p v : Nat) (sRes D p : Nat) (sHig D p) wk (sPs D (p / 3) : Nat) i ∧ eIn (nm7 (vDe D v) (sRt D v) (sNo D X p v : Nat) (sRes D p : Nat) (sHig D p) wk (sPs D (p / 3) : Nat) i) := by
    refine nm7_w ⟨?_, ?_, ?_, ?_, ?_, ?_, ?_⟩ ⟨by rw [← v5]; exact eIn_32 _, iR, by rw [← hr1]; exact eIn_32 _, by rw [← hr2]; exact eIn_32 _, by rw [← hr3]; exact eIn_32 _, by rw [← hK]; exact eIn_32 _, by rw [← pt]; exact eIn_32 _⟩
    · rw [yset_d (by decide), yset_d (by decide), yset_d (by decide), yset_d (by decide)]; exact N0
    · rw [yset_d (by decide), yset_d (by decide), yset_d (by decide), yset_d (by decide)]; exact N1
    · rw [yset_d (by decide), yset_d (by decide), yset_d (by decide), yset_s, w64_w32]; exact hr1
    · rw [yset_d (by decide), yset_d (by decide), yset_s, w64_w32]; exact hr2
    · rw [yset_d (by decide), yset_s, w64_w32]; exact hr3
    · rw [yset_d (by decide), yset_d (by decide), yset_d (by decide), yset_d (by decide)]; exact N5
    · rw [yset_s, w64_w32]; exact pt
  refine ⟨by decide, ⟨by omega, by omega⟩, by decide, ⟨by omega, by omega⟩, re_within hE (by omega) (f := 0) w32c_0 (by decide) (by rw [w32c_999]; decide) (rvN_D F4 h) hk (rvN_A F4 hA) N (fun r m F hr => ?_)⟩
  refine zgk_s hE xmo_162 120 [] ?_
  simp only [ynok_30, ynok_31, w32c_0, w32c_1, w32c_2, w32c_3, w32c_4, w32c_5, w32c_6, w32c_7, w32c_8, w32c_9, w32c_10, w32c_11, w32c_12, w32c_13, w32c_14, w32c_m1, w32c_m2, w32c_118, Int.reduceAdd, Int.reduceSub, Int.reduceMul, yput_s, yput_n, znl_n, znl_0, znl_1, znl_4, ysum_n, ysum_0, ysum_1, ysum_4, true_and, and_true, Nat.reduceAdd, Nat.reduceLeDiff, true_implies, eq_self, true_or, or_true, or_false, false_or, not_true_eq_false, not_false_eq_true, false_implies, implies_true, yset_s, yset_o, yset_d, ne_eq, Nat.reduceEqDiff, Int.reduceToNat, Int.reduceEq, Int.reduceLE, Int.reduceLT, Classical.not_not, Nat.reduceLT, ↓zvk_s, ↓zvk_n, ↓s_162_0, ↓s_162_1, ↓s_162_4, ↓s_162_5, ↓s_162_6, ↓s_162_7, ↓s_162_10, ↓s_162_11, ↓s_162_12, ↓s_162_13, ↓s_162_14, ↓s_162_17, ↓s_162_18, ↓s_162_21, ↓s_162_22, ↓s_162_23, ↓s_162_24, ↓s_162_25, ↓s_162_28, ↓s_162_29, ↓s_162_30, ↓s_162_31, ↓s_162_34, ↓s_162_35, ↓s_162_36, ↓s_162_37, ↓s_162_40, ↓s_162_41, ↓s_162_42, ↓s_162_43, ↓s_162_46, ↓s_162_47, ↓s_162_48, ↓s_162_49, ↓s_162_52, ↓s_162_53, ↓s_162_54, ↓s_162_55, ↓s_162_58, ↓s_162_60, ↓s_162_61, ↓s_162_64, ↓s_162_65, ↓s_162_66, ↓s_162_67, ↓s_162_68, ↓s_162_69, ↓s_162_70, ↓s_162_71, ↓s_162_72, ↓s_162_75, ↓s_162_76, ↓s_162_79, ↓s_162_80, ↓s_162_81, ↓s_162_84, w32c_999, zar_130, zia_130, zln_130, zit_130, zar_105, zia_105, zln_105, zit_105, zar_106, zia_106, zln_106, zit_106, zar_109, zia_109, zln_109, zit_109, zio_95]
  refine hQ r m (rvN_tr F4 (rvN_z F)) ?_
  rw [hr, w32c_999, (rTb_v d1 hv).2.2.2.2]
  unfold sDu
  rw [if_neg nh]
  rfl
theorem r_crack (hE : yEok E) {D0 : Nat} (hD : 8 ≤ D0) {L : Int} (hK : w32 (mem 118 0 + L) = wk) (hV : w32 V = (v : Int)) (h : rDl mem D) (hk : dOk D) (hA : OmA mem) (hv : v < D.2.1.length) (hQ : ∀ r m, rvN mem m → w32 r = sCr D wk v → Q (some (0, r)) m) : yCon E D0 xm_158 [(1, 95), (0, V), (0, L)] mem Q := by
  obtain ⟨d, rfl⟩ := Nat.exists_eq_add_of_le' hD
  obtain ⟨v1, v2, v3, v4, v5⟩ := rTb_v h hv
  refine e_158 ?_
  refine zvc_ok hE 120 [] _ _ _ _ _ _ _ xmo_158 ?_
  simp only [ynok_30, ynok_31, w32c_0, w32c_1, w32c_2, w32c_3, w32c_4, w32c_5, w32c_6, w32c_7, w32c_8, w32c_9, w32c_10, w32c_11, w32c_12, w32c_13, w32c_14, w32c_m1, w32c_m2, w32c_118, Int.reduceAdd, Int.reduceSub, Int.reduceMul, yput_s, yput_n, znl_n, znl_0, znl_1, znl_4, ysum_n, ysum_0, ysum_1, ysum_4, true_and, and_true, Nat.reduceAdd, Nat.reduceLeDiff, true_implies, eq_self, true_or, or_true, or_false, false_or, not_true_eq_false, not_false_eq_true, false_implies, implies_true, yset_s, yset_o, yset_d, ne_eq, Nat.reduceEqDiff, Int.reduceToNat, Int.reduceEq, Int.reduceLE, Int.reduceLT, Classical.not_not, Nat.reduceLT, ↓zvk_s, ↓zvk_n, ↓s_158_0, ↓s_158_1, ↓s_158_2, ↓s_158_5, ↓s_158_6, ↓s_158_9, ↓s_158_10, ↓s_158_11, ↓s_158_14, ↓s_158_15, ↓s_158_16, ↓s_158_17, ↓s_158_18, ↓s_158_19, ↓s_158_20, ↓s_158_21, ↓s_158_22, ↓s_158_24, ↓s_158_25, ↓s_158_28, w32c_100, zar_130, zia_130, zln_130, zit_130, zar_118, zia_118, zln_118, zit_118, zio_95]
  refine r_calls hE (by omega) rfl hV h hk hv (fun m1 F1 N1 => ?_)
  refine zgk_n hE xmo_158 120 [] ?_
  simp only [ynok_30, ynok_31, w32c_0, w32c_1, w32c_2, w32c_3, w32c_4, w32c_5, w32c_6, w32c_7, w32c_8, w32c_9, w32c_10, w32c_11, w32c_12, w32c_13, w32c_14, w32c_m1, w32c_m2, w32c_118, Int.reduceAdd, Int.reduceSub, Int.reduceMul, yput_s, yput_n, znl_n, znl_0, znl_1, znl_4, ysum_n, ysum_0, ysum_1, ysum_4, true_and, and_true, Nat.reduceAdd, Nat.reduceLeDiff, true_implies, eq_self, true_or, or_true, or_false, false_or, not_true_eq_false, not_false_eq_true, false_implies, implies_true, yset_s, yset_o, yset_d, ne_eq, Nat.reduceEqDiff, Int.reduceToNat, Int.reduceEq, Int.reduceLE, Int.reduceLT, Classical.not_not, Nat.reduceLT, ↓zvk_s, ↓zvk_n, ↓s_158_0, ↓s_158_1, ↓s_158_2, ↓s_158_5, ↓s_158_6, ↓s_158_9, ↓s_158_10, ↓s_158_11, ↓s_158_14, ↓s_158_15, ↓s_158_16, ↓s_158_17, ↓s_158_18, ↓s_158_19, ↓s_158_20, ↓s_158_21, ↓s_158_22, ↓s_158_24, ↓s_158_25, ↓s_158_28, w32c_100, zar_130, zia_130, zln_130, zit_130, zar_118, zia_118, zln_118, zit_118, zio_95]
  have e118 : m1 118 0 = mem 118 0 := F1 118 0 (by decide) (by decide) (by decide)
  obtain ⟨N0, N1, N2, N3, N4, -, N6⟩ := N1
  have iR : eIn (sRt D v) := by
    unfold sRt
    split
    · exact eIn_0
    · rw [← rTb_t h (show (vHo D v).toNat < D.1.length by have : -1 ≤ vHo D v ∧ vHo D v < (D.1.length : Int) := (dOk_v hk hv).2.1; omega)]
      exact eIn_32 _
  have F4 : rvN mem (yset m1 130 5 (w32 (m1 118 0 + L))) := rvN_tr F1 rvN_n
  have N : ∀ i, i < 7 → w64 (yset m1 130 5 (w32 (m1 118 0 + L)) 130 i) = nm7 (vDe D v) (sRt D v) 0 0 (vHi D v) wk 0 i ∧ eIn (nm7 (vDe D v) (sRt D v) 0 0 (vHi D v) wk 0 i) := by
    refine nm7_w ⟨?_, ?_, ?_, ?_, ?_, ?_, ?_⟩ ⟨by rw [← v5]; exact eIn_32 _, iR, eIn_0, eIn_0, by rw [← v2]; exact eIn_32 _, by rw [← hK]; exact eIn_32 _, eIn_0⟩
    · rw [yset_d (by decide)]; exact N0
    · rw [yset_d (by decide)]; exact N1
    · rw [yset_d (by decide)]; exact N2
    · rw [yset_d (by decide)]; exact N3
    · rw [yset_d (by decide)]; exact N4
    · rw [yset_s, w64_w32, e118]; exact hK
    · rw [yset_d (by decide)]; exact N6
  refine ⟨by decide, by decide, re_within hE (by omega) (f := 1) w32c_1 (by decide) (by rw [w32c_100]; decide) (rvN_D F4 h) hk (rvN_A F4 hA) N (fun r m F hr => ?_)⟩
  refine zgk_s hE xmo_158 120 [] ?_
  simp only [ynok_30, ynok_31, w32c_0, w32c_1, w32c_2, w32c_3, w32c_4, w32c_5, w32c_6, w32c_7, w32c_8, w32c_9, w32c_10, w32c_11, w32c_12, w32c_13, w32c_14, w32c_m1, w32c_m2, w32c_118, Int.reduceAdd, Int.reduceSub, Int.reduceMul, yput_s, yput_n, znl_n, znl_0, znl_1, znl_4, ysum_n, ysum_0, ysum_1, ysum_4, true_and, and_true, Nat.reduceAdd, Nat.reduceLeDiff, true_implies, eq_self, true_or, or_true, or_false, false_or, not_true_eq_false, not_false_eq_true, false_implies, implies_true, yset_s, yset_o, yset_d, ne_eq, Nat.reduceEqDiff, Int.reduceToNat, Int.reduceEq, Int.reduceLE, Int.reduceLT, Classical.not_not, Nat.reduceLT, ↓zvk_s, ↓zvk_n, ↓s_158_0, ↓s_158_1, ↓s_158_2, ↓s_158_5, ↓s_158_6, ↓s_158_9, ↓s_158_10, ↓s_158_11, ↓s_158_14, ↓s_158_15, ↓s_158_16, ↓s_158_17, ↓s_158_18, ↓s_158_19, ↓s_158_20, ↓s_158_21, ↓s_158_22, ↓s_158_24, ↓s_158_25, ↓s_158_28, w32c_100, zar_130, zia_130, zln_130, zit_130, zar_118, zia_118, zln_118, zit_118, zio_95]
  refine hQ r m (rvN_tr F4 (rvN_z F)) ?_
  rw [hr, w32c_100, w32c_0]
  rfl
theorem r_bid_l (hE : yEok E) {d b : Nat} {B VE PU : Int} (hVE : w32 VE = (e : Int)) (hB : w32 B = (b : Int)) (hb : b < 3) (h : rDl mem D) (hk : dOk D) (hA : OmA mem) (he : e < D.2.2.1.length) (hQ : ∀ r m, rvN mem m → w32 r = min (w32 PU) (sBi D wk b e) → Q (some (0, r)) m) : ∀ (c i : Nat) (I : Int) (m : yMem), sPs D e - i = c → i ≤ sPs D e → w32 I = ((3 * e + i : Nat) : Int) → rvN mem m → (w64 (m 130 0) = 0 ∧ w64 (m 130 1) = 0 ∧ w64 (m 130 2) = nSm (fun q => ((sBr D (3 * e + q)).length : Int) - (sRes D (3 * e + q) : Nat)) i ∧ w64 (m 130 3) = nSm (fun q => ((sRes D (3 * e + q) : Nat) : Int)) i ∧ w64 (m 130 4) = nMx (fun q => sHig D (3 * e + q)) i ∧ w64 (m 130 5) = wk ∧ w64 (m 130 6) = (sPs D e : Nat)) → (0 ≤ nSm (fun q => ((sBr D (3 * e + q)).length : Int) - (sRes D (3 * e + q) : Nat)) i ∧ nSm (fun q => ((sBr D (3 * e + q)).length : Int) - (sRes D (3 * e + q) : Nat)) i ≤ 8 * (i : Int)) → (0 ≤ nSm (fun q => ((sRes D (3 * e + q) : Nat) : Int)) i ∧ nSm (fun q => ((sRes D (3 * e + q) : Nat) : Int)) i ≤ 8 * (i : Int)) → eIn (nMx (fun q => sHig D (3 * e + q)) i) → eIn wk → zG E (d + 7) xm_148 67 [some (1, 95), some (0, B), some (0, VE), some (0, PU), some (0, I)] [] m Q := by
  obtain ⟨⟨n1, n1'⟩, ⟨n2, n2'⟩, ⟨n3, n3'⟩, n4, n4'⟩ := rTb_n h
  obtain ⟨pe, pl⟩ := rTb_e h he
  have Et := w32_t hVE
  have e3 : w32 (3 * VE) = 3 * (e : Int) := by rw [w32_k (by decide) (by omega) (by omega), hVE]
  intro c
  induction c with
  | zero =>
    intro i I m hc hi hI hF hN b1 b2 b3 b4
    have e0 : i = sPs D e := by omega
    subst e0
    have pm : w32 (m 109 e) = (sPs D e : Nat) := (rTb_e (rvN_D hF h) he).1
    have ee : w32 (3 * VE + m 109 e) = 3 * (e : Int) + (sPs D e : Nat) := by rw [w32_ad (by omega) (by omega), e3, pm]
    refine zgo_ok (n := 60) hE xmo_148 (cs := zc_148) ?_
    simp only [ynok_30, ynok_31, w32c_0, w32c_1, w32c_2, w32c_3, w32c_4, w32c_5, w32c_6, w32c_7, w32c_8, w32c_9, w32c_10, w32c_11, w32c_12, w32c_13, w32c_14, w32c_m1, w32c_m2, w32c_118, Int.reduceAdd, Int.reduceSub, Int.reduceMul, yput_s, yput_n, znl_n, znl_0, znl_1, znl_4, ysum_n, ysum_0, ysum_1, ysum_4, true_and, and_true, Nat.reduceAdd, Nat.reduceLeDiff, true_implies, eq_self, true_or, or_true, or_false, false_or, not_true_eq_false, not_false_eq_true, false_implies, implies_true, yset_s, yset_o, yset_d, ne_eq, Nat.reduceEqDiff, Int.reduceToNat, Int.reduceEq, Int.reduceLE, Int.reduceLT, Classical.not_not, Nat.reduceLT, ↓zvk_s, ↓zvk_n, ↓s_148_0, ↓s_148_1, ↓s_148_4, ↓s_148_5, ↓s_148_6, ↓s_148_7, ↓s_148_8, ↓s_148_11, ↓s_148_12, ↓s_148_13, ↓s_148_14, ↓s_148_15, ↓s_148_18, ↓s_148_19, ↓s_148_20, ↓s_148_21, ↓s_148_22, ↓s_148_25, ↓s_148_26, ↓s_148_27, ↓s_148_28, ↓s_148_29, ↓s_148_32, ↓s_148_33, ↓s_148_34, ↓s_148_35, ↓s_148_36, ↓s_148_39, ↓s_148_40, ↓s_148_41, ↓s_148_44, ↓s_148_45, ↓s_148_46, ↓s_148_47, ↓s_148_48, ↓s_148_49, ↓s_148_52, ↓s_148_54, ↓s_148_55, ↓s_148_58, ↓s_148_59, ↓s_148_60, ↓s_148_61, ↓s_148_62, ↓s_148_63, ↓s_148_64, ↓s_148_65n, ↓s_148_65i, ↓s_148_65p, ↓g_148_67, ↓k_148_67, ↓s_148_69, ↓s_148_70, ↓s_148_71, ↓s_148_72, ↓s_148_73, ↓s_148_76, ↓s_148_77, ↓s_148_78, ↓s_148_79, ↓s_148_82, ↓s_148_83, ↓s_148_86, ↓s_148_87, ↓s_148_88, ↓s_148_89, ↓s_148_90, ↓s_148_92, ↓s_148_95, ↓s_148_96, ↓s_148_97, ↓s_148_98, ↓s_148_99, ↓s_148_102, ↓s_148_103, ↓s_148_104, ↓s_148_105, ↓s_148_106, ↓s_148_109, ↓s_148_111, ↓s_148_112, ↓s_148_113, ↓s_148_115, ↓s_148_118, ↓s_148_119, ↓s_148_120, ↓s_148_121, ↓s_148_122, ↓s_148_123, ↓s_148_126, ↓s_148_127, ↓s_148_128, ↓s_148_131, ↓s_148_132, ↓s_148_133, ↓s_148_134, ↓s_148_136, ↓s_148_139, ↓s_148_140, ↓s_148_143, ↓s_148_144n, ↓s_148_144i, ↓s_148_144p, ↓s_148_147, ↓s_148_150, ↓s_148_151, ↓s_148_152, ↓s_148_153, ↓s_148_154, ↓s_148_155, ↓s_148_158, ↓s_148_159, ↓s_148_162, ↓s_148_165, w32c_999, zar_130, zia_130, zln_130, zit_130, zar_118, zia_118, zln_118, zit_118, zar_109, zia_109, zln_109, zit_109, zar_110, zia_110, zln_110, zit_110, zio_95, Et]
    have eB : w32 (2 + B) = ((2 + b : Nat) : Int) := by
      rw [w32_ad (by rw [w32c_2]; omega) (by rw [w32c_2]; omega), w32c_2]
      omega
    have N := nm7_w hN ⟨eIn_0, eIn_0, eIn_s (by omega) (by omega), eIn_s (by omega) (by omega), b3, b4, eIn_s (by omega) (by omega)⟩
    refine ⟨⟨by omega, by omega⟩, fun _ => re_within hE (by omega) (f := 2 + b) eB (by omega) (by rw [w32c_999]; decide) (rvN_D hF h) hk (rvN_A hF hA) N (fun r m' F hr => ?_), fun hh => absurd (show w32 (3 * VE + m 109 e) ≤ w32 I by omega) hh⟩
    refine zgk_s hE xmo_148 60 zc_148 ?_
    simp only [ynok_30, ynok_31, w32c_0, w32c_1, w32c_2, w32c_3, w32c_4, w32c_5, w32c_6, w32c_7, w32c_8, w32c_9, w32c_10, w32c_11, w32c_12, w32c_13, w32c_14, w32c_m1, w32c_m2, w32c_118, Int.reduceAdd, Int.reduceSub, Int.reduceMul, yput_s, yput_n, znl_n, znl_0, znl_1, znl_4, ysum_n, ysum_0, ysum_1, ysum_4, true_and, and_true, Nat.reduceAdd, Nat.reduceLeDiff, true_implies, eq_self, true_or, or_true, or_false, false_or, not_true_eq_false, not_false_eq_true, false_implies, implies_true, yset_s, yset_o, yset_d, ne_eq, Nat.reduceEqDiff, Int.reduceToNat, Int.reduceEq, Int.reduceLE, Int.reduceLT, Classical.not_not, Nat.reduceLT, ↓zvk_s, ↓zvk_n, ↓s_148_0, ↓s_148_1, ↓s_148_4, ↓s_148_5, ↓s_148_6, ↓s_148_7, ↓s_148_8, ↓s_148_11, ↓s_148_12, ↓s_148_13, ↓s_148_14, ↓s_148_15, ↓s_148_18, ↓s_148_19, ↓s_148_20, ↓s_148_21, ↓s_148_22, ↓s_148_25, ↓s_148_26, ↓s_148_27, ↓s_148_28, ↓s_148_29, ↓s_148_32, ↓s_148_33, ↓s_148_34, ↓s_148_35, ↓s_148_36, ↓s_148_39, ↓s_148_40, ↓s_148_41, ↓s_148_44, ↓s_148_45, ↓s_148_46, ↓s_148_47, ↓s_148_48, ↓s_148_49, ↓s_148_52, ↓s_148_54, ↓s_148_55, ↓s_148_58, ↓s_148_59, ↓s_148_60, ↓s_148_61, ↓s_148_62, ↓s_148_63, ↓s_148_64, ↓s_148_65n, ↓s_148_65i, ↓s_148_65p, ↓g_148_67, ↓k_148_67, ↓s_148_69, ↓s_148_70, ↓s_148_71, ↓s_148_72, ↓s_148_73, ↓s_148_76, ↓s_148_77, ↓s_148_78, ↓s_148_79, ↓s_148_82, ↓s_148_83, ↓s_148_86, ↓s_148_87, ↓s_148_88, ↓s_148_89, ↓s_148_90, ↓s_148_92, ↓s_148_95, ↓s_148_96, ↓s_148_97, ↓s_148_98, ↓s_148_99, ↓s_148_102, ↓s_148_103, ↓s_148_104, ↓s_148_105, ↓s_148_106, ↓s_148_109, ↓s_148_111, ↓s_148_112, ↓s_148_113, ↓s_148_115, ↓s_148_118, ↓s_148_119, ↓s_148_120, ↓s_148_121, ↓s_148_122, ↓s_148_123, ↓s_148_126, ↓s_148_127, ↓s_148_128, ↓s_148_131, ↓s_148_132, ↓s_148_133, ↓s_148_134, ↓s_148_136, ↓s_148_139, ↓s_148_140, ↓s_148_143, ↓s_148_144n, ↓s_148_144i, ↓s_148_144p, ↓s_148_147, ↓s_148_150, ↓s_148_151, ↓s_148_152, ↓s_148_153, ↓s_148_154, ↓s_148_155, ↓s_148_158, ↓s_148_159, ↓s_148_162, ↓s_148_165, w32c_999, zar_130, zia_130, zln_130, zit_130, zar_118, zia_118, zln_118, zit_118, zar_109, zia_109, zln_109, zit_109, zar_110, zia_110, zln_110, zit_110, zio_95]
    refine hQ _ m' (rvN_tr hF (rvN_z F)) ?_
    rw [w32_mn, hr, w32c_999, w32c_0]
    rfl
  | succ c ih =>
    intro i I m hc hi hI hF hN b1 b2 b3 b4
    have hp : uPv D (3 * e + i) := uPv_of he (by omega) pl
    have pm : w32 (m 109 e) = (sPs D e : Nat) := (rTb_e (rvN_D hF h) he).1
    have ee : w32 (3 * VE + m 109 e) = 3 * (e : Int) + (sPs D e : Nat) := by rw [w32_ad (by omega) (by omega), e3, pm]
    have rl := sRes_le D (3 * e + i)
    have e1 := w32_s1 hI (by omega)
    have It := w32_t hI
    obtain ⟨k0, k1, k2, k3, k4, k5, k6⟩ := hN
    refine zgo_ok (n := 60) hE xmo_148 (cs := zc_148) ?_
    simp only [ynok_30, ynok_31, w32c_0, w32c_1, w32c_2, w32c_3, w32c_4, w32c_5, w32c_6, w32c_7, w32c_8, w32c_9, w32c_10, w32c_11, w32c_12, w32c_13, w32c_14, w32c_m1, w32c_m2, w32c_118, Int.reduceAdd, Int.reduceSub, Int.reduceMul, yput_s, yput_n, znl_n, znl_0, znl_1, znl_4, ysum_n, ysum_0, ysum_1, ysum_4, true_and, and_true, Nat.reduceAdd, Nat.reduceLeDiff, true_implies, eq_self, true_or, or_true, or_false, false_or, not_true_eq_false, not_false_eq_true, false_implies, implies_true, yset_s, yset_o, yset_d, ne_eq, Nat.reduceEqDiff, Int.reduceToNat, Int.reduceEq, Int.reduceLE, Int.reduceLT, Classical.not_not, Nat.reduceLT, ↓zvk_s, ↓zvk_n, ↓s_148_0, ↓s_148_1, ↓s_148_4, ↓s_148_5, ↓s_148_6, ↓s_148_7, ↓s_148_8, ↓s_148_11, ↓s_148_12, ↓s_148_13, ↓s_148_14, ↓s_148_15, ↓s_148_18, ↓s_148_19, ↓s_148_20, ↓s_148_21, ↓s_148_22, ↓s_148_25, ↓s_148_26, ↓s_148_27, ↓s_148_28, ↓s_148_29, ↓s_148_32, ↓s_148_33, ↓s_148_34, ↓s_148_35, ↓s_148_36, ↓s_148_39, ↓s_148_40, ↓s_148_41, ↓s_148_44, ↓s_148_45, ↓s_148_46, ↓s_148_47, ↓s_148_48, ↓s_148_49, ↓s_148_52, ↓s_148_54, ↓s_148_55, ↓s_148_58, ↓s_148_59, ↓s_148_60, ↓s_148_61, ↓s_148_62, ↓s_148_63, ↓s_148_64, ↓s_148_65n, ↓s_148_65i, ↓s_148_65p, ↓g_148_67, ↓k_148_67, ↓s_148_69, ↓s_148_70, ↓s_148_71, ↓s_148_72, ↓s_148_73, ↓s_148_76, ↓s_148_77, ↓s_148_78, ↓s_148_79, ↓s_148_82, ↓s_148_83, ↓s_148_86, ↓s_148_87, ↓s_148_88, ↓s_148_89, ↓s_148_90, ↓s_148_92, ↓s_148_95, ↓s_148_96, ↓s_148_97, ↓s_148_98, ↓s_148_99, ↓s_148_102, ↓s_148_103, ↓s_148_104, ↓s_148_105, ↓s_148_106, ↓s_148_109, ↓s_148_111, ↓s_148_112, ↓s_148_113, ↓s_148_115, ↓s_148_118, ↓s_148_119, ↓s_148_120, ↓s_148_121, ↓s_148_122, ↓s_148_123, ↓s_148_126, ↓s_148_127, ↓s_148_128, ↓s_148_131, ↓s_148_132, ↓s_148_133, ↓s_148_134, ↓s_148_136, ↓s_148_139, ↓s_148_140, ↓s_148_143, ↓s_148_144n, ↓s_148_144i, ↓s_148_144p, ↓s_148_147, ↓s_148_150, ↓s_148_151, ↓s_148_152, ↓s_148_153, ↓s_148_154, ↓s_148_155, ↓s_148_158, ↓s_148_159, ↓s_148_162, ↓s_148_165, w32c_999, zar_130, zia_130, zln_130, zit_130, zar_118, zia_118, zln_118, zit_118, zar_109, zia_109, zln_109, zit_109, zar_110, zia_110, zln_110, zit_110, zio_95, Et, It]
    refine ⟨⟨by omega, by omega⟩, fun hh => absurd hh (by omega), fun _ => ⟨by decide, r_rests hE (by omega) hI (rvN_D hF h) hp (fun r1 hr1 => ?_)⟩⟩
    refine zgk_s hE xmo_148 60 zc_148 ?_
    simp only [ynok_30, ynok_31, w32c_0, w32c_1, w32c_2, w32c_3, w32c_4, w32c_5, w32c_6, w32c_7, w32c_8, w32c_9, w32c_10, w32c_11, w32c_12, w32c_13, w32c_14, w32c_m1, w32c_m2, w32c_118, Int.reduceAdd, Int.reduceSub, Int.reduceMul, yput_s, yput_n, znl_n, znl_0, znl_1, znl_4, ysum_n, ysum_0, ysum_1, ysum_4, true_and, and_true, Nat.reduceAdd, Nat.reduceLeDiff, true_implies, eq_self, true_or, or_true, or_false, false_or, not_true_eq_false, not_false_eq_true, false_implies, implies_true, yset_s, yset_o, yset_d, ne_eq, Nat.reduceEqDiff, Int.reduceToNat, Int.reduceEq, Int.reduceLE, Int.reduceLT, Classical.not_not, Nat.reduceLT, ↓zvk_s, ↓zvk_n, ↓s_148_0, ↓s_148_1, ↓s_148_4, ↓s_148_5, ↓s_148_6, ↓s_148_7, ↓s_148_8, ↓s_148_11, ↓s_148_12, ↓s_148_13, ↓s_148_14, ↓s_148_15, ↓s_148_18, ↓s_148_19, ↓s_148_20, ↓s_148_21, ↓s_148_22, ↓s_148_25, ↓s_148_26, ↓s_148_27, ↓s_148_28, ↓s_148_29, ↓s_148_32, ↓s_148_33, ↓s_148_34, ↓s_148_35, ↓s_148_36, ↓s_148_39, ↓s_148_40, ↓s_148_41, ↓s_148_44, ↓s_148_45, ↓s_148_46, ↓s_148_47, ↓s_148_48, ↓s_148_49, ↓s_148_52, ↓s_148_54, ↓s_148_55, ↓s_148_58, ↓s_148_59, ↓s_148_60, ↓s_148_61, ↓s_148_62, ↓s_148_63, ↓s_148_64, ↓s_148_65n, ↓s_148_65i, ↓s_148_65p, ↓g_148_67, ↓k_148_67, ↓s_148_69, ↓s_148_70, ↓s_148_71, ↓s_148_72, ↓s_148_73, ↓s_148_76, ↓s_148_77, ↓s_148_78, ↓s_148_79, ↓s_148_82, ↓s_148_83, ↓s_148_86, ↓s_148_87, ↓s_148_88, ↓s_148_89, ↓s_148_90, ↓s_148_92, ↓s_148_95, ↓s_148_96, ↓s_148_97, ↓s_148_98, ↓s_148_99, ↓s_148_102, ↓s_148_103, ↓s_148_104, ↓s_148_105, ↓s_148_106, ↓s_148_109, ↓s_148_111, ↓s_148_112, ↓s_148_113, ↓s_148_115, ↓s_148_118, ↓s_148_119, ↓s_148_120, ↓s_148_121, ↓s_148_122, ↓s_148_123, ↓s_148_126, ↓s_148_127, ↓s_148_128, ↓s_148_131, ↓s_148_132, ↓s_148_133, ↓s_148_134, ↓s_148_136, ↓s_148_139, ↓s_148_140, ↓s_148_143, ↓s_148_144n, ↓s_148_144i, ↓s_148_144p, ↓s_148_147, ↓s_148_150, ↓s_148_151, ↓s_148_152, ↓s_148_153, ↓s_148_154, ↓s_148_155, ↓s_148_158, ↓s_148_159, ↓s_148_162, ↓s_148_165, w32c_999, zar_130, zia_130, zln_130, zit_130, zar_118, zia_118, zln_118, zit_118, zar_109, zia_109, zln_109, zit_109, zar_110, zia_110, zln_110, zit_110, zio_95, It]
    have F1 := rvN_tr hF (rvN_n (j := 3) (x := m 130 3 + w32 r1))
    refine ⟨by decide, by decide, ⟨by omega, by omega⟩, r_rests hE (by omega) hI (rvN_D F1 h) hp (fun r2 hr2 => ?_)⟩
    refine zgk_s hE xmo_148 60 zc_148 ?_
    simp only [ynok_30, ynok_31, w32c_0, w32c_1, w32c_2, w32c_3, w32c_4, w32c_5, w32c_6, w32c_7, w32c_8, w32c_9, w32c_10, w32c_11, w32c_12, w32c_13, w32c_14, w32c_m1, w32c_m2, w32c_118, Int.reduceAdd, Int.reduceSub, Int.reduceMul, yput_s, yput_n, znl_n, znl_0, znl_1, znl_4, ysum_n, ysum_0, ysum_1, ysum_4, true_and, and_true, Nat.reduceAdd, Nat.reduceLeDiff, true_implies, eq_self, true_or, or_true, or_false, false_or, not_true_eq_false, not_false_eq_true, false_implies, implies_true, yset_s, yset_o, yset_d, ne_eq, Nat.reduceEqDiff, Int.reduceToNat, Int.reduceEq, Int.reduceLE, Int.reduceLT, Classical.not_not, Nat.reduceLT, ↓zvk_s, ↓zvk_n, ↓s_148_0, ↓s_148_1, ↓s_148_4, ↓s_148_5, ↓s_148_6, ↓s_148_7, ↓s_148_8, ↓s_148_11, ↓s_148_12, ↓s_148_13, ↓s_148_14, ↓s_148_15, ↓s_148_18, ↓s_148_19, ↓s_148_20, ↓s_148_21, ↓s_148_22, ↓s_148_25, ↓s_148_26, ↓s_148_27, ↓s_148_28, ↓s_148_29, ↓s_148_32, ↓s_148_33, ↓s_148_34, ↓s_148_35, ↓s_148_36, ↓s_148_39, ↓s_148_40, ↓s_148_41, ↓s_148_44, ↓s_148_45, ↓s_148_46, ↓s_148_47, ↓s_148_48, ↓s_148_49, ↓s_148_52, ↓s_148_54, ↓s_148_55, ↓s_148_58, ↓s_148_59, ↓s_148_60, ↓s_148_61, ↓s_148_62, ↓s_148_63, ↓s_148_64, ↓s_148_65n, ↓s_148_65i, ↓s_148_65p, ↓g_148_67, ↓k_148_67, ↓s_148_69, ↓s_148_70, ↓s_148_71, ↓s_148_72, ↓s_148_73, ↓s_148_76, ↓s_148_77, ↓s_148_78, ↓s_148_79, ↓s_148_82, ↓s_148_83, ↓s_148_86, ↓s_148_87, ↓s_148_88, ↓s_148_89, ↓s_148_90, ↓s_148_92, ↓s_148_95, ↓s_148_96, ↓s_148_97, ↓s_148_98, ↓s_148_99, ↓s_148_102, ↓s_148_103, ↓s_148_104, ↓s_148_105, ↓s_148_106, ↓s_148_109, ↓s_148_111, ↓s_148_112, ↓s_148_113, ↓s_148_115, ↓s_148_118, ↓s_148_119, ↓s_148_120, ↓s_148_121, ↓s_148_122, ↓s_148_123, ↓s_148_126, ↓s_148_127, ↓s_148_128, ↓s_148_131, ↓s_148_132, ↓s_148_133, ↓s_148_134, ↓s_148_136, ↓s_148_139, ↓s_148_140, ↓s_148_143, ↓s_148_144n, ↓s_148_144i, ↓s_148_144p, ↓s_148_147, ↓s_148_150, ↓s_148_151, ↓s_148_152, ↓s_148_153, ↓s_148_154, ↓s_148_155, ↓s_148_158, ↓s_148_159, ↓s_148_162, ↓s_148_165, w32c_999, zar_130, zia_130, zln_130, zit_130, zar_118, zia_118, zln_118, zit_118, zar_109, zia_109, zln_109, zit_109, zar_110, zia_110, zln_110, zit_110, zio_95, It]
    have F2 := rvN_tr F1 (rvN_n (j := 2) (x := m 130 2 + w32 (m 110 (3 * e + i) - r2)))
    refine ⟨by decide, by decide, r_high hE (by omega) hI (rvN_D F2 h) hp (fun r3 hr3 => ?_)⟩
    refine zgk_s hE xmo_148 60 zc_148 ?_
    simp only [ynok_30, ynok_31, w32c_0, w32c_1, w32c_2, w32c_3, w32c_4, w32c_5, w32c_6, w32c_7, w32c_8, w32c_9, w32c_10, w32c_11, w32c_12, w32c_13, w32c_14, w32c_m1, w32c_m2, w32c_118, Int.reduceAdd, Int.reduceSub, Int.reduceMul, yput_s, yput_n, znl_n, znl_0, znl_1, znl_4, ysum_n, ysum_0, ysum_1, ysum_4, true_and, and_true, Nat.reduceAdd, Nat.reduceLeDiff, true_implies, eq_self, true_or, or_true, or_false, false_or, not_true_eq_false, not_false_eq_true, false_implies, implies_true, yset_s, yset_o, yset_d, ne_eq, Nat.reduceEqDiff, Int.reduceToNat, Int.reduceEq, Int.reduceLE, Int.reduceLT, Classical.not_not, Nat.reduceLT, ↓zvk_s, ↓zvk_n, ↓s_148_0, ↓s_148_1, ↓s_148_4, ↓s_148_5, ↓s_148_6, ↓s_148_7, ↓s_148_8, ↓s_148_11, ↓s_148_12, ↓s_148_13, ↓s_148_14, ↓s_148_15, ↓s_148_18, ↓s_148_19, ↓s_148_20, ↓s_148_21, ↓s_148_22, ↓s_148_25, ↓s_148_26, ↓s_148_27, ↓s_148_28, ↓s_148_29, ↓s_148_32, ↓s_148_33, ↓s_148_34, ↓s_148_35, ↓s_148_36, ↓s_148_39, ↓s_148_40, ↓s_148_41, ↓s_148_44, ↓s_148_45, ↓s_148_46, ↓s_148_47, ↓s_148_48, ↓s_148_49, ↓s_148_52, ↓s_148_54, ↓s_148_55, ↓s_148_58, ↓s_148_59, ↓s_148_60, ↓s_148_61, ↓s_148_62, ↓s_148_63, ↓s_148_64, ↓s_148_65n, ↓s_148_65i, ↓s_148_65p, ↓g_148_67, ↓k_148_67, ↓s_148_69, ↓s_148_70, ↓s_148_71, ↓s_148_72, ↓s_148_73, ↓s_148_76, ↓s_148_77, ↓s_148_78, ↓s_148_79, ↓s_148_82, ↓s_148_83, ↓s_148_86, ↓s_148_87, ↓s_148_88, ↓s_148_89, ↓s_148_90, ↓s_148_92, ↓s_148_95, ↓s_148_96, ↓s_148_97, ↓s_148_98, ↓s_148_99, ↓s_148_102, ↓s_148_103, ↓s_148_104, ↓s_148_105, ↓s_148_106, ↓s_148_109, ↓s_148_111, ↓s_148_112, ↓s_148_113, ↓s_148_115, ↓s_148_118, ↓s_148_119, ↓s_148_120, ↓s_148_121, ↓s_148_122, ↓s_148_123, ↓s_148_126, ↓s_148_127, ↓s_148_128, ↓s_148_131, ↓s_148_132, ↓s_148_133, ↓s_148_134, ↓s_148_136, ↓s_148_139, ↓s_148_140, ↓s_148_143, ↓s_148_144n, ↓s_148_144i, ↓s_148_144p, ↓s_148_147, ↓s_148_150, ↓s_148_151, ↓s_148_152, ↓s_148_153, ↓s_148_154, ↓s_148_155, ↓s_148_158, ↓s_148_159, ↓s_148_162, ↓s_148_165, w32c_999, zar_130, zia_130, zln_130, zit_130, zar_118, zia_118, zln_118, zit_118, zar_109, zia_109, zln_109, zit_109, zar_110, zia_110, zln_110, zit_110, zio_95, It]
    obtain ⟨⟨bp, bl⟩, -⟩ := rTb_p (rvN_D hF h) hp
    have ed : w32 (m 110 (3 * e + i) - r2) = ((sBr D (3 * e + i)).length : Int) - (sRes D (3 * e + i) : Nat) := by rw [w32_sb (by omega) (by omega), bp, hr2]
    have s1 : nSm (fun q => ((sBr D (3 * e + q)).length : Int) - (sRes D (3 * e + q) : Nat)) (i + 1) = nSm (fun q => ((sBr D (3 * e + q)).length : Int) - (sRes D (3 * e + q) : Nat)) i + (((sBr D (3 * e + i)).length : Int) - (sRes D (3 * e + i) : Nat)) := rfl
    have s2 : nSm (fun q => ((sRes D (3 * e + q) : Nat) : Int)) (i + 1) = nSm (fun q => ((sRes D (3 * e + q) : Nat) : Int)) i + ((sRes D (3 * e + i) : Nat) : Int) := rfl
    have s3 : nMx (fun q => sHig D (3 * e + q)) (i + 1) = max (nMx (fun q => sHig D (3 * e + q)) i) (sHig D (3 * e + i)) := rfl
    have i3 : eIn (sHig D (3 * e + i)) := by rw [← hr3]; exact eIn_32 _
    refine ⟨by decide, ih (i + 1) (I + 1) _ (by omega) (by omega) e1 (rvN_tr F2 rvN_n) ⟨?_, ?_, ?_, ?_, ?_, ?_, ?_⟩ (by rw [s1]; omega) (by rw [s2]; omega) (by rw [s3]; unfold eIn at b3 i3 ⊢; omega) b4⟩
    · rw [yset_d (by decide), yset_d (by decide), yset_d (by decide)]; exact k0
    · rw [yset_d (by decide), yset_d (by decide), yset_d (by decide)]; exact k1
    · rw [yset_d (by decide), yset_s, w64_add, k2, w64_w32, ed, s1, w64_of (by omega) (by omega)]
    · rw [yset_d (by decide), yset_d (by decide), yset_s, w64_add, k3, w64_w32, hr1, s2, w64_of (by omega) (by omega)]
    · rw [yset_s, w64_mxl, k4, w64_w32, hr3, s3]
    · rw [yset_d (by decide), yset_d (by decide), yset_d (by decide)]; exact k5
    · rw [yset_d (by decide), yset_d (by decide), yset_d (by decide)]; exact k6
theorem r_bid (hE : yEok E) {D0 b : Nat} {B VE PU : Int} (hD : 8 ≤ D0) (hK : w32 (mem 118 0) = wk) (hVE : w32 VE = (e : Int)) (hB : w32 B = (b : Int)) (hb : b < 3) (h : rDl mem D) (hk : dOk D) (hA : OmA mem) (he : e < D.2.2.1.length) (hQ : ∀ r m, rvN mem m → w32 r = min (w32 PU) (sBi D wk b e) → Q (some (0, r)) m) : yCon E D0 xm_148 [(1, 95), (0, B), (0, VE), (0, PU)] mem Q := by
  obtain ⟨d, rfl⟩ := Nat.exists_eq_add_of_le' hD
  obtain ⟨⟨n1, n1'⟩, ⟨n2, n2'⟩, ⟨n3, n3'⟩, n4, n4'⟩ := rTb_n h
  obtain ⟨pe, pl⟩ := rTb_e h he
  have Et := w32_t hVE
  have e3 : w32 (3 * VE) = ((3 * e + 0 : Nat) : Int) := by
    rw [w32_k (by decide) (by omega) (by omega), hVE]
    omega
  refine e_148 ?_
  refine zvc_ok hE 120 zc_148 _ _ _ _ _ _ _ xmo_148 ?_
  simp only [ynok_30, ynok_31, w32c_0, w32c_1, w32c_2, w32c_3, w32c_4, w32c_5, w32c_6, w32c_7, w32c_8, w32c_9, w32c_10, w32c_11, w32c_12, w32c_13, w32c_14, w32c_m1, w32c_m2, w32c_118, Int.reduceAdd, Int.reduceSub, Int.reduceMul, yput_s, yput_n, znl_n, znl_0, znl_1, znl_4, ysum_n, ysum_0, ysum_1, ysum_4, true_and, and_true, Nat.reduceAdd, Nat.reduceLeDiff, true_implies, eq_self, true_or, or_true, or_false, false_or, not_true_eq_false, not_false_eq_true, false_implies, implies_true, yset_s, yset_o, yset_d, ne_eq, Nat.reduceEqDiff, Int.reduceToNat, Int.reduceEq, Int.reduceLE, Int.reduceLT, Classical.not_not, Nat.reduceLT, ↓zvk_s, ↓zvk_n, ↓s_148_0, ↓s_148_1, ↓s_148_4, ↓s_148_5, ↓s_148_6, ↓s_148_7, ↓s_148_8, ↓s_148_11, ↓s_148_12, ↓s_148_13, ↓s_148_14, ↓s_148_15, ↓s_148_18, ↓s_148_19, ↓s_148_20, ↓s_148_21, ↓s_148_22, ↓s_148_25, ↓s_148_26, ↓s_148_27, ↓s_148_28, ↓s_148_29, ↓s_148_32, ↓s_148_33, ↓s_148_34, ↓s_148_35, ↓s_148_36, ↓s_148_39, ↓s_148_40, ↓s_148_41, ↓s_148_44, ↓s_148_45, ↓s_148_46, ↓s_148_47, ↓s_148_48, ↓s_148_49, ↓s_148_52, ↓s_148_54, ↓s_148_55, ↓s_148_58, ↓s_148_59, ↓s_148_60, ↓s_148_61, ↓s_148_62, ↓s_148_63, ↓s_148_64, ↓s_148_65n, ↓s_148_65i, ↓s_148_65p, ↓g_148_67, ↓k_148_67, ↓s_148_69, ↓s_148_70, ↓s_148_71, ↓s_148_72, ↓s_148_73, ↓s_148_76, ↓s_148_77, ↓s_148_78, ↓s_148_79, ↓s_148_82, ↓s_148_83, ↓s_148_86, ↓s_148_87, ↓s_148_88, ↓s_148_89, ↓s_148_90, ↓s_148_92, ↓s_148_95, ↓s_148_96, ↓s_148_97, ↓s_148_98, ↓s_148_99, ↓s_148_102, ↓s_148_103, ↓s_148_104, ↓s_148_105, ↓s_148_106, ↓s_148_109, ↓s_148_111, ↓s_148_112, ↓s_148_113, ↓s_148_115, ↓s_148_118, ↓s_148_119, ↓s_148_120, ↓s_148_121, ↓s_148_122, ↓s_148_123, ↓s_148_126, ↓s_148_127, ↓s_148_128, ↓s_148_131, ↓s_148_132, ↓s_148_133, ↓s_148_134, ↓s_148_136, ↓s_148_139, ↓s_148_140, ↓s_148_143, ↓s_148_144n, ↓s_148_144i, ↓s_148_144p, ↓s_148_147, ↓s_148_150, ↓s_148_151, ↓s_148_152, ↓s_148_153, ↓s_148_154, ↓s_148_155, ↓s_148_158, ↓s_148_159, ↓s_148_162, ↓s_148_165, w32c_999, zar_130, zia_130, zln_130, zit_130, zar_118, zia_118, zln_118, zit_118, zar_109, zia_109, zln_109, zit_109, zar_110, zia_110, zln_110, zit_110, zio_95, Et]
  have F : rvN mem (yset (yset (yset (yset (yset (yset (yset mem 130 0 0) 130 1 0) 130 2 0) 130 3 0) 130 4 0) 130 5 (w32 (mem 118 0))) 130 6 (w32 (mem 109 e))) := rvN_tr (rvN_tr (rvN_tr (rvN_tr (rvN_tr (rvN_tr rvN_n rvN_n) rvN_n) rvN_n) rvN_n) rvN_n) rvN_n
  refine ⟨by decide, by decide, by decide, by decide, by decide, by decide, by decide, ⟨by omega, by omega⟩, by decide, r_bid_l (b := b) hE hVE hB hb h hk hA he hQ _ 0 _ _ rfl (Nat.zero_le _) e3 F ⟨?_, ?_, ?_, ?_, ?_, ?_, ?_⟩ ⟨Int.le_refl _, by show (0 : Int) ≤ 8 * ((0 : Nat) : Int); decide⟩ ⟨Int.le_refl _, by show (0 : Int) ≤ 8 * ((0 : Nat) : Int); decide⟩ eIn_0 (by rw [← hK]; exact eIn_32 _)⟩
  · rw [yset_d (by decide), yset_d (by decide), yset_d (by decide), yset_d (by decide), yset_d (by decide), yset_d (by decide), yset_s]; exact w64_0
  · rw [yset_d (by decide), yset_d (by decide), yset_d (by decide), yset_d (by decide), yset_d (by decide), yset_s]; exact w64_0
  · rw [yset_d (by decide), yset_d (by decide), yset_d (by decide), yset_d (by decide), yset_s]; exact w64_0
  · rw [yset_d (by decide), yset_d (by decide), yset_d (by decide), yset_s]; exact w64_0
  · rw [yset_d (by decide), yset_d (by decide), yset_s]; exact w64_0
  · rw [yset_d (by decide), yset_s, w64_w32]; exact hK
  · rw [yset_s, w64_w32]; exact pe
end RU
end
section
/-! WORLDS, call by call: pure -/
def uUp (f : Nat → Int) (i : Nat) (x : Int) : Nat → Int := fun j => if j = i then x else f j
theorem uUp_s {f : Nat → Int} {i : Nat} {x : Int} : uUp f i x i = x := if_pos rfl
theorem uUp_d {f : Nat → Int} {i j : Nat} {x : Int} (h : j ≠ i) : uUp f i x j = f j := if_neg h
/-- redeemed: VOICE v for slot p, due c; its tavern h (or -1) -/
def uRd (W : dU) (p v : Nat) (c h : Int) : dU := ((if h = -1 then uT W else uUp (uT W) h.toNat (w32 (uT W h.toNat + c)), uC W, uB W, uUp (uS W) p (v : Int), uUp (uL W) (uR W).toNat (p : Int), uUp (uP W) (uR W).toNat c), uR W + 1, uK W, w32 (uM W - c), uO W, uX W, uD W)
theorem uFew {D : dDc} {k p : Nat} {W : dU} (h : uOk D k W) (hp : p < 12) (hs : uS W p = -1) : uR W ≤ 11 := by
  obtain ⟨a1, -, a3, a4, -⟩ := h
  have key : (uR W).toNat + 1 ≤ 12 := by
    refine pigeon 12 ((uR W).toNat + 1) (fun i => if i = (uR W).toNat then p else (uL W i).toNat) (fun i hi => ?_) (fun i j hij hj => ?_)
    · show (if i = (uR W).toNat then p else (uL W i).toNat) < 12
      split
      · exact hp
      · have := a3 i (by omega)
        omega
    · show (if i = (uR W).toNat then p else (uL W i).toNat) ≠ (if j = (uR W).toNat then p else (uL W j).toNat)
      rw [if_neg (by omega)]
      have i3 := a3 i (by omega)
      split
      · intro e
        rw [e, hs] at i3
        exact i3.2.2 rfl
      · have j3 := a3 j (by omega)
        have := a4 i j hij (by omega)
        omega
  omega
theorem uRd_ok {D : dDc} {k l p v : Nat} {c h : Int} {W : dU} (hk : k + 6 ≤ l) (hl : l ≤ 100000) (H : uOk D k W) (hp : p < 12) (hs : uS W p = -1) (hv : v < D.2.1.length) (hpv : uPv D p) (hc : 0 ≤ c ∧ c ≤ 999) : uOk D l (uRd W p v c h) := by
  have few := uFew H hp hs
  obtain ⟨a1, a2, a3, a4, a5, a6, a7, a8, a9⟩ := H
  have e0 : ((((uR W).toNat : Nat)) : Int) = uR W := by omega
  refine ⟨⟨by show 0 ≤ uR W + 1; omega, by show uR W + 1 ≤ 12; omega⟩, fun q hq => ?_, fun i hi => ?_, fun i j hij hj => ?_, fun q hq hn => ?_, fun j hj => ?_, fun j hj => ?_, fun j hj => ?_, a9⟩
  · show uUp (uS W) p (v : Int) q = -1 ∨ (0 ≤ uUp (uS W) p (v : Int) q ∧ uUp (uS W) p (v : Int) q < _ ∧ uPv D q)
    by_cases e : q = p
    · subst e
      rw [uUp_s]
      exact Or.inr ⟨by omega, by omega, hpv⟩
    · rw [uUp_d e]
      exact a2 q hq
  · have hi : (i : Int) < uR W + 1 := hi
    show 0 ≤ uUp (uL W) (uR W).toNat (p : Int) i ∧ uUp (uL W) (uR W).toNat (p : Int) i < 12 ∧ ¬ uUp (uS W) p (v : Int) (uUp (uL W) (uR W).toNat (p : Int) i).toNat = -1
    by_cases e : i = (uR W).toNat
    · subst e
      rw [uUp_s, Int.toNat_natCast, uUp_s]
      omega
    · rw [uUp_d e]
      obtain ⟨b1, b2, b3⟩ := a3 i (by omega)
      refine ⟨b1, b2, ?_⟩
      by_cases e2 : (uL W i).toNat = p
      · rw [e2, uUp_s]
        omega
      · rw [uUp_d e2]
        exact b3
  · have hj : (j : Int) < uR W + 1 := hj
    show ¬ uUp (uL W) (uR W).toNat (p : Int) i = uUp (uL W) (uR W).toNat (p : Int) j
    rw [uUp_d (by omega)]
    by_cases e : j = (uR W).toNat
    · subst e
      rw [uUp_s]
      intro z
      obtain ⟨b1, b2, b3⟩ := a3 i (by omega)
      rw [z, Int.toNat_natCast] at b3
      exact b3 hs
    · rw [uUp_d e]
      exact a4 i j hij (by omega)
  · show ∃ i : Nat, (i : Int) < uR W + 1 ∧ uUp (uL W) (uR W).toNat (p : Int) i = (q : Int)
    by_cases e : q = p
    · subst e
      exact ⟨(uR W).toNat, by omega, uUp_s⟩
    · have hn : ¬ uUp (uS W) p (v : Int) q = -1 := hn
      rw [uUp_d e] at hn
      obtain ⟨i, i1, i2⟩ := a5 q hq hn
      exact ⟨i, by omega, by rw [uUp_d (by omega)]; exact i2⟩
  · have b := a6 j hj
    show 0 ≤ (if h = -1 then uT W else uUp (uT W) h.toNat (w32 (uT W h.toNat + c))) j ∧ (if h = -1 then uT W else uUp (uT W) h.toNat (w32 (uT W h.toNat + c))) j ≤ _
    split
    · omega
    · by_cases e : j = h.toNat
      · subst e
        rw [uUp_s, w32_of (by omega) (by omega)]
        omega
      · rw [uUp_d e]
        omega
  · have b := a7 j hj
    show 0 ≤ uC W j ∧ uC W j ≤ _
    omega
  · show 0 ≤ uUp (uP W) (uR W).toNat c j ∧ uUp (uP W) (uR W).toNat c j ≤ 999
    by_cases e : j = (uR W).toNat
    · rw [e, uUp_s]
      exact hc
    · rw [uUp_d e]
      exact a8 j hj
/-- the latest undone; its VOICE's tavern h -/
def uUn (W : dU) (h : Int) : dU := ((if h = -1 then uT W else uUp (uT W) h.toNat (w32 (uT W h.toNat - uP W (uR W - 1).toNat)), uC W, uB W, uUp (uS W) (uL W (uR W - 1).toNat).toNat (-1), uL W, uP W), uR W - 1, uK W, w32 (uM W + uP W (uR W - 1).toNat), uO W, uX W, uD W)
theorem uUn_ok {D : dDc} {k l : Nat} {h : Int} {W : dU} (hk : k + 6 ≤ l) (hl : l ≤ 100000) (H : uOk D k W) (hr : 0 < uR W) (hh : h = -1 ∨ (0 ≤ h ∧ h < 3 ∧ uP W (uR W - 1).toNat ≤ uT W h.toNat)) : uOk D l (uUn W h) := by
  obtain ⟨a1, a2, a3, a4, a5, a6, a7, a8, a9⟩ := H
  have el : (((uR W - 1).toNat : Nat) : Int) = uR W - 1 := by omega
  have last := a3 (uR W - 1).toNat (by omega)
  refine ⟨⟨by show 0 ≤ uR W - 1; omega, by show uR W - 1 ≤ 12; omega⟩, fun q hq => ?_, fun i hi => ?_, fun i j hij hj => ?_, fun q hq hn => ?_, fun j hj => ?_, fun j hj => ?_, a8, a9⟩
  · show uUp (uS W) (uL W (uR W - 1).toNat).toNat (-1) q = -1 ∨ (0 ≤ uUp (uS W) (uL W (uR W - 1).toNat).toNat (-1) q ∧ uUp (uS W) (uL W (uR W - 1).toNat).toNat (-1) q < _ ∧ uPv D q)
    by_cases e : q = (uL W (uR W - 1).toNat).toNat
    · rw [e, uUp_s]
      exact Or.inl rfl
    · rw [uUp_d e]
      exact a2 q hq
  · have hi : (i : Int) < uR W - 1 := hi
    obtain ⟨b1, b2, b3⟩ := a3 i (by omega)
    have ne := a4 i (uR W - 1).toNat (by omega) (by omega)
    show 0 ≤ uL W i ∧ uL W i < 12 ∧ ¬ uUp (uS W) (uL W (uR W - 1).toNat).toNat (-1) (uL W i).toNat = -1
    rw [uUp_d (by omega)]
    exact ⟨b1, b2, b3⟩
  · have hj : (j : Int) < uR W - 1 := hj
    exact a4 i j hij (by omega)
  · have hn : ¬ uUp (uS W) (uL W (uR W - 1).toNat).toNat (-1) q = -1 := hn
    by_cases e : q = (uL W (uR W - 1).toNat).toNat
    · rw [e, uUp_s] at hn
      exact absurd rfl hn
    · rw [uUp_d e] at hn
      obtain ⟨i, i1, i2⟩ := a5 q hq hn
      refine ⟨i, ?_, i2⟩
      show (i : Int) < uR W - 1
      by_cases e2 : i = (uR W - 1).toNat
      · rw [e2] at i2
        omega
      · omega
  · have b := a6 j hj
    have b8 := a8 (uR W - 1).toNat (by omega)
    show 0 ≤ (if h = -1 then uT W else uUp (uT W) h.toNat (w32 (uT W h.toNat - uP W (uR W - 1).toNat))) j ∧ (if h = -1 then uT W else uUp (uT W) h.toNat (w32 (uT W h.toNat - uP W (uR W - 1).toNat))) j ≤ _
    split
    · omega
    · next hn =>
      obtain ⟨g1, g2, g3⟩ := hh.resolve_left hn
      by_cases e : j = h.toNat
      · subst e
        rw [uUp_s, w32_of (by omega) (by omega)]
        omega
      · rw [uUp_d e]
        omega
  · have b := a7 j hj
    show 0 ≤ uC W j ∧ uC W j ≤ _
    omega
end
section
theorem s_27_0 {E : yE} {n d : Nat} {mem : yMem} {Post : Option yV → yMem → Prop} {st : List yV} {r1 r2 r3 r4 r5 : Option yV} {x : Int} : zvc E (n + 1) [] d xm_27 0 [some (1, x), r1, r2, r3, r4, r5] (st) mem Post = (zvc E n [] d xm_27 1 [some (1, x), r1, r2, r3, r4, r5] ((1, x) :: st) mem Post) := zrf rfl
theorem s_27_1 {E : yE} {n d : Nat} {mem : yMem} {Post : Option yV → yMem → Prop} {st : List yV} {r0 r1 r2 r3 r4 r5 : Option yV} : zvc E (n + 1) [] d xm_27 1 [r0, r1, r2, r3, r4, r5] ((1, 0) :: st) mem Post = (zvc E n [] d xm_27 4 [r0, r1, r2, r3, r4, r5] ((1, 2) :: st) mem Post) := zrf rfl
theorem s_27_4 {E : yE} {n d : Nat} {mem : yMem} {Post : Option yV → yMem → Prop} {st : List yV} {r0 r2 r3 r4 r5 : Option yV} {x : Int} : zvc E (n + 1) [] d xm_27 4 [r0, some (0, x), r2, r3, r4, r5] (st) mem Post = (zvc E n [] d xm_27 5 [r0, some (0, x), r2, r3, r4, r5] ((0, x) :: st) mem Post) := zrf rfl
theorem s_27_5 {E : yE} {n d : Nat} {mem : yMem} {Post : Option yV → yMem → Prop} {st : List yV} {r0 r1 r3 r4 r5 : Option yV} {x : Int} : zvc E (n + 1) [] d xm_27 5 [r0, r1, some (0, x), r3, r4, r5] (st) mem Post = (zvc E n [] d xm_27 6 [r0, r1, some (0, x), r3, r4, r5] ((0, x) :: st) mem Post) := zrf rfl
theorem s_27_6 {E : yE} {n d : Nat} {mem : yMem} {Post : Option yV → yMem → Prop} {st : List yV} {r0 r1 r2 r3 r4 r5 : Option yV} {z a0 a1 : Int} : zvc E (n + 1) [] (d + 1) xm_27 6 [r0, r1, r2, r3, r4, r5] ((0, a1) :: (0, a0) :: (1, z) :: st) mem Post = (zio z 4 = true ∧ ysum st ≤ 8 ∧ zvc E n [] d xm_78 0 [some (1, z), some (0, a0), some (0, a1)] [] mem (fun v mem' => zvk E n [] (d + 1) xm_27 9 [r0, r1, r2, r3, r4, r5] st v mem' Post)) := zrf rfl
theorem s_27_9 {E : yE} {n d : Nat} {mem : yMem} {Post : Option yV → yMem → Prop} {st : List yV} {r0 r1 r2 r3 r4 r5 : Option yV} {x : Int} : zvc E (n + 1) [] d xm_27 9 [r0, r1, r2, r3, r4, r5] ((0, x) :: st) mem Post = ((w32 x = w32 0 → zvc E n [] d xm_27 37 [r0, r1, r2, r3, r4, r5] (st) mem Post) ∧ (¬ (w32 x = w32 0) → zvc E n [] d xm_27 12 [r0, r1, r2, r3, r4, r5] (st) mem Post)) := zrf rfl
theorem s_27_12 {E : yE} {n d : Nat} {mem : yMem} {Post : Option yV → yMem → Prop} {st : List yV} {r1 r2 r3 r4 r5 : Option yV} {x : Int} : zvc E (n + 1) [] d xm_27 12 [some (1, x), r1, r2, r3, r4, r5] (st) mem Post = (zvc E n [] d xm_27 13 [some (1, x), r1, r2, r3, r4, r5] ((1, x) :: st) mem Post) := zrf rfl
theorem s_27_13 {E : yE} {n d : Nat} {mem : yMem} {Post : Option yV → yMem → Prop} {st : List yV} {r0 r1 r2 r3 r4 r5 : Option yV} : zvc E (n + 1) [] d xm_27 13 [r0, r1, r2, r3, r4, r5] ((1, 0) :: st) mem Post = (zvc E n [] d xm_27 16 [r0, r1, r2, r3, r4, r5] ((1, 2) :: st) mem Post) := zrf rfl
theorem s_27_16_2 {E : yE} {n d : Nat} {mem : yMem} {Post : Option yV → yMem → Prop} {st : List yV} {r0 r1 r2 r3 r4 r5 : Option yV} : zvc E (n + 1) [] d xm_27 16 [r0, r1, r2, r3, r4, r5] ((1, 2) :: st) mem Post = (zvc E n [] d xm_27 19 [r0, r1, r2, r3, r4, r5] ((1, 5) :: st) mem Post) := zrf rfl
theorem s_27_16_28 {E : yE} {n d : Nat} {mem : yMem} {Post : Option yV → yMem → Prop} {st : List yV} {r0 r1 r2 r3 r4 r5 : Option yV} : zvc E (n + 1) [] d xm_27 16 [r0, r1, r2, r3, r4, r5] ((1, 28) :: st) mem Post = (zvc E n [] d xm_27 19 [r0, r1, r2, r3, r4, r5] ((1, 31) :: st) mem Post) := zrf rfl
theorem s_27_19 {E : yE} {n d : Nat} {mem : yMem} {Post : Option yV → yMem → Prop} {st : List yV} {r0 r1 r2 r4 r5 : Option yV} {x : Int} : zvc E (n + 1) [] d xm_27 19 [r0, r1, r2, some (0, x), r4, r5] (st) mem Post = (zvc E n [] d xm_27 20 [r0, r1, r2, some (0, x), r4, r5] ((0, x) :: st) mem Post) := zrf rfl
theorem s_27_20 {E : yE} {n d : Nat} {mem : yMem} {Post : Option yV → yMem → Prop} {st : List yV} {r0 r1 r2 r3 r4 r5 : Option yV} {z a0 : Int} : zvc E (n + 1) [] (d + 1) xm_27 20 [r0, r1, r2, r3, r4, r5] ((0, a0) :: (1, z) :: st) mem Post = (zio z 6 = true ∧ ysum st ≤ 8 ∧ zvc E n [] d xm_103 0 [some (1, z), some (0, a0)] [] mem (fun v mem' => zvk E n [] (d + 1) xm_27 23 [r0, r1, r2, r3, r4, r5] st v mem' Post)) := zrf rfl
theorem s_27_23 {E : yE} {n d : Nat} {mem : yMem} {Post : Option yV → yMem → Prop} {st : List yV} {r0 r1 r2 r3 r4 r5 : Option yV} {x : Int} : zvc E (n + 1) [] d xm_27 23 [r0, r1, r2, r3, r4, r5] ((0, x) :: st) mem Post = ((w32 x = w32 0 → zvc E n [] d xm_27 37 [r0, r1, r2, r3, r4, r5] (st) mem Post) ∧ (¬ (w32 x = w32 0) → zvc E n [] d xm_27 26 [r0, r1, r2, r3, r4, r5] (st) mem Post)) := zrf rfl
theorem s_27_26 {E : yE} {n d : Nat} {mem : yMem} {Post : Option yV → yMem → Prop} {st : List yV} {r1 r2 r3 r4 r5 : Option yV} {x : Int} : zvc E (n + 1) [] d xm_27 26 [some (1, x), r1, r2, r3, r4, r5] (st) mem Post = (zvc E n [] d xm_27 27 [some (1, x), r1, r2, r3, r4, r5] ((1, x) :: st) mem Post) := zrf rfl
theorem s_27_27 {E : yE} {n d : Nat} {mem : yMem} {Post : Option yV → yMem → Prop} {st : List yV} {r0 r1 r2 r3 r4 r5 : Option yV} : zvc E (n + 1) [] d xm_27 27 [r0, r1, r2, r3, r4, r5] ((1, 0) :: st) mem Post = (zvc E n [] d xm_27 30 [r0, r1, r2, r3, r4, r5] ((1, 57) :: st) mem Post) := zrf rfl
theorem s_27_30 {E : yE} {n d : Nat} {mem : yMem} {Post : Option yV → yMem → Prop} {st : List yV} {r0 r1 r2 r4 r5 : Option yV} {x : Int} : zvc E (n + 1) [] d xm_27 30 [r0, r1, r2, some (0, x), r4, r5] (st) mem Post = (zvc E n [] d xm_27 31 [r0, r1, r2, some (0, x), r4, r5] ((0, x) :: st) mem Post) := zrf rfl
theorem s_27_31 {E : yE} {n d : Nat} {mem : yMem} {Post : Option yV → yMem → Prop} {st : List yV} {r0 r1 r2 r3 r4 r5 : Option yV} {z a0 : Int} : zvc E (n + 1) [] (d + 1) xm_27 31 [r0, r1, r2, r3, r4, r5] ((0, a0) :: (1, z) :: st) mem Post = (zio z 10 = true ∧ ysum st ≤ 8 ∧ zvc E n [] d xm_139 0 [some (1, z), some (0, a0)] [] mem (fun v mem' => zvk E n [] (d + 1) xm_27 34 [r0, r1, r2, r3, r4, r5] st v mem' Post)) := zrf rfl
theorem s_27_34 {E : yE} {n d : Nat} {mem : yMem} {Post : Option yV → yMem → Prop} {st : List yV} {r0 r1 r2 r3 r4 r5 : Option yV} {x : Int} : zvc E (n + 1) [] d xm_27 34 [r0, r1, r2, r3, r4, r5] ((0, x) :: st) mem Post = ((w32 x = w32 0 → zvc E n [] d xm_27 39 [r0, r1, r2, r3, r4, r5] (st) mem Post) ∧ (¬ (w32 x = w32 0) → zvc E n [] d xm_27 37 [r0, r1, r2, r3, r4, r5] (st) mem Post)) := zrf rfl
theorem s_27_37 {E : yE} {n d : Nat} {mem : yMem} {Post : Option yV → yMem → Prop} {st : List yV} {r0 r1 r2 r3 r4 r5 : Option yV} : zvc E (n + 1) [] d xm_27 37 [r0, r1, r2, r3, r4, r5] (st) mem Post = (zvc E n [] d xm_27 38 [r0, r1, r2, r3, r4, r5] ((0, (-1)) :: st) mem Post) := zrf rfl
theorem s_27_38 {E : yE} {n d : Nat} {mem : yMem} {Post : Option yV → yMem → Prop} {r0 r1 r2 r3 r4 r5 : Option yV} {x : Int} : zvc E (n + 1) [] d xm_27 38 [r0, r1, r2, r3, r4, r5] ([(0, x)]) mem Post = (Post (some (0, x)) mem) := zrf rfl
theorem s_27_39 {E : yE} {n d : Nat} {mem : yMem} {Post : Option yV → yMem → Prop} {st : List yV} {r0 r2 r3 r4 r5 : Option yV} {x : Int} : zvc E (n + 1) [] d xm_27 39 [r0, some (0, x), r2, r3, r4, r5] (st) mem Post = (zvc E n [] d xm_27 40 [r0, some (0, x), r2, r3, r4, r5] ((0, x) :: st) mem Post) := zrf rfl
theorem s_27_40 {E : yE} {n d : Nat} {mem : yMem} {Post : Option yV → yMem → Prop} {st : List yV} {r0 r1 r3 r4 r5 : Option yV} {x : Int} : zvc E (n + 1) [] d xm_27 40 [r0, r1, some (0, x), r3, r4, r5] (st) mem Post = (zvc E n [] d xm_27 41 [r0, r1, some (0, x), r3, r4, r5] ((0, x) :: st) mem Post) := zrf rfl
theorem s_27_41 {E : yE} {n d : Nat} {mem : yMem} {Post : Option yV → yMem → Prop} {st : List yV} {r0 r1 r2 r3 r4 r5 : Option yV} {a0 a1 : Int} : zvc E (n + 1) [] (d + 1) xm_27 41 [r0, r1, r2, r3, r4, r5] ((0, a1) :: (0, a0) :: st) mem Post = (True ∧ ysum st ≤ 8 ∧ zvc E n [] d xm_34 0 [some (0, a0), some (0, a1)] [] mem (fun v mem' => zvk E n [] (d + 1) xm_27 44 [r0, r1, r2, r3, r4, r5] st v mem' Post)) := zrf rfl
theorem s_27_44n {E : yE} {n d : Nat} {mem : yMem} {Post : Option yV → yMem → Prop} {st : List yV} {r0 r1 r2 r4 r5 : Option yV} {x : Int} : zvc E (n + 1) [] d xm_27 44 [r0, r1, r2, none, r4, r5] ((0, x) :: st) mem Post = (zvc E n [] d xm_27 46 [r0, r1, r2, none, some (0, x), r5] (st) mem Post) := zrf rfl
theorem s_27_44i {E : yE} {n d : Nat} {mem : yMem} {Post : Option yV → yMem → Prop} {st : List yV} {r0 r1 r2 r4 r5 : Option yV} {x w : Int} : zvc E (n + 1) [] d xm_27 44 [r0, r1, r2, some (0, w), r4, r5] ((0, x) :: st) mem Post = (zvc E n [] d xm_27 46 [r0, r1, r2, some (0, w), some (0, x), r5] (st) mem Post) := zrf rfl
theorem s_27_44p {E : yE} {n d : Nat} {mem : yMem} {Post : Option yV → yMem → Prop} {st : List yV} {r0 r1 r2 r4 r5 : Option yV} {x w : Int} : zvc E (n + 1) [] d xm_27 44 [r0, r1, r2, some (1, w), r4, r5] ((0, x) :: st) mem Post = (zvc E n [] d xm_27 46 [r0, r1, r2, some (1, w), some (0, x), r5] (st) mem Post) := zrf rfl
theorem s_27_46 {E : yE} {n d : Nat} {mem : yMem} {Post : Option yV → yMem → Prop} {st : List yV} {r1 r2 r3 r4 r5 : Option yV} {x : Int} : zvc E (n + 1) [] d xm_27 46 [some (1, x), r1, r2, r3, r4, r5] (st) mem Post = (zvc E n [] d xm_27 47 [some (1, x), r1, r2, r3, r4, r5] ((1, x) :: st) mem Post) := zrf rfl
theorem s_27_47 {E : yE} {n d : Nat} {mem : yMem} {Post : Option yV → yMem → Prop} {st : List yV} {r0 r1 r2 r3 r4 r5 : Option yV} : zvc E (n + 1) [] d xm_27 47 [r0, r1, r2, r3, r4, r5] ((1, 0) :: st) mem Post = (zvc E n [] d xm_27 50 [r0, r1, r2, r3, r4, r5] ((1, 57) :: st) mem Post) := zrf rfl
theorem s_27_50_57 {E : yE} {n d : Nat} {mem : yMem} {Post : Option yV → yMem → Prop} {st : List yV} {r0 r1 r2 r3 r4 r5 : Option yV} : zvc E (n + 1) [] d xm_27 50 [r0, r1, r2, r3, r4, r5] ((1, 57) :: st) mem Post = (zvc E n [] d xm_27 53 [r0, r1, r2, r3, r4, r5] ((1, 61) :: st) mem Post) := zrf rfl
theorem s_27_50_64 {E : yE} {n d : Nat} {mem : yMem} {Post : Option yV → yMem → Prop} {st : List yV} {r0 r1 r2 r3 r4 r5 : Option yV} : zvc E (n + 1) [] d xm_27 50 [r0, r1, r2, r3, r4, r5] ((1, 64) :: st) mem Post = (zvc E n [] d xm_27 53 [r0, r1, r2, r3, r4, r5] ((1, 68) :: st) mem Post) := zrf rfl
theorem s_27_53 {E : yE} {n d : Nat} {mem : yMem} {Post : Option yV → yMem → Prop} {st : List yV} {r0 r1 r2 r3 r5 : Option yV} {x : Int} : zvc E (n + 1) [] d xm_27 53 [r0, r1, r2, r3, some (0, x), r5] (st) mem Post = (zvc E n [] d xm_27 55 [r0, r1, r2, r3, some (0, x), r5] ((0, x) :: st) mem Post) := zrf rfl
theorem s_27_55 {E : yE} {n d : Nat} {mem : yMem} {Post : Option yV → yMem → Prop} {st : List yV} {r0 r1 r2 r3 r4 r5 : Option yV} {z j : Int} : zvc E (n + 1) [] d xm_27 55 [r0, r1, r2, r3, r4, r5] ((0, j) :: (1, z) :: st) mem Post = ((0 ≤ w32 j ∧ w32 j < ((zar z 0 : Nat) : Int)) ∧ zvc E n [] d xm_27 56 [r0, r1, r2, r3, r4, r5] ((0, mem z.toNat (w32 j).toNat) :: st) mem Post) := zrf rfl
theorem s_27_56 {E : yE} {n d : Nat} {mem : yMem} {Post : Option yV → yMem → Prop} {st : List yV} {r0 r1 r2 r3 r4 r5 : Option yV} : zvc E (n + 1) [] d xm_27 56 [r0, r1, r2, r3, r4, r5] (st) mem Post = (zvc E n [] d xm_27 57 [r0, r1, r2, r3, r4, r5] ((0, (-1)) :: st) mem Post) := zrf rfl
theorem s_27_57 {E : yE} {n d : Nat} {mem : yMem} {Post : Option yV → yMem → Prop} {st : List yV} {r0 r1 r2 r3 r4 r5 : Option yV} {x y : Int} : zvc E (n + 1) [] d xm_27 57 [r0, r1, r2, r3, r4, r5] ((0, y) :: (0, x) :: st) mem Post = ((¬ w32 x = w32 y → zvc E n [] d xm_27 69 [r0, r1, r2, r3, r4, r5] (st) mem Post) ∧ (¬ (¬ w32 x = w32 y) → zvc E n [] d xm_27 60 [r0, r1, r2, r3, r4, r5] (st) mem Post)) := zrf rfl
theorem s_27_60 {E : yE} {n d : Nat} {mem : yMem} {Post : Option yV → yMem → Prop} {st : List yV} {r1 r2 r3 r4 r5 : Option yV} {x : Int} : zvc E (n + 1) [] d xm_27 60 [some (1, x), r1, r2, r3, r4, r5] (st) mem Post = (zvc E n [] d xm_27 61 [some (1, x), r1, r2, r3, r4, r5] ((1, x) :: st) mem Post) := zrf rfl
theorem s_27_61 {E : yE} {n d : Nat} {mem : yMem} {Post : Option yV → yMem → Prop} {st : List yV} {r0 r2 r3 r4 r5 : Option yV} {x : Int} : zvc E (n + 1) [] d xm_27 61 [r0, some (0, x), r2, r3, r4, r5] (st) mem Post = (zvc E n [] d xm_27 62 [r0, some (0, x), r2, r3, r4, r5] ((0, x) :: st) mem Post) := zrf rfl
theorem s_27_62 {E : yE} {n d : Nat} {mem : yMem} {Post : Option yV → yMem → Prop} {st : List yV} {r0 r1 r2 r4 r5 : Option yV} {x : Int} : zvc E (n + 1) [] d xm_27 62 [r0, r1, r2, some (0, x), r4, r5] (st) mem Post = (zvc E n [] d xm_27 63 [r0, r1, r2, some (0, x), r4, r5] ((0, x) :: st) mem Post) := zrf rfl
theorem s_27_63 {E : yE} {n d : Nat} {mem : yMem} {Post : Option yV → yMem → Prop} {st : List yV} {r0 r1 r2 r3 r4 r5 : Option yV} {z a0 a1 : Int} : zvc E (n + 1) [] d xm_27 63 [r0, r1, r2, r3, r4, r5] ((0, a1) :: (0, a0) :: (1, z) :: st) mem Post = (zio z 11 = true ∧ ysum st ≤ 8 ∧ yCon E d xm_33 [(1, z), (0, a0), (0, a1)] mem (fun v mem' => zgk E d xm_27 66 [r0, r1, r2, r3, r4, r5] st v mem' Post)) := zrf rfl
theorem s_27_66 {E : yE} {n d : Nat} {mem : yMem} {Post : Option yV → yMem → Prop} {st : List yV} {r0 r1 r2 r3 r4 r5 : Option yV} {x : Int} : zvc E (n + 1) [] d xm_27 66 [r0, r1, r2, r3, r4, r5] ((0, x) :: st) mem Post = ((w32 x = w32 0 → zvc E n [] d xm_27 71 [r0, r1, r2, r3, r4, r5] (st) mem Post) ∧ (¬ (w32 x = w32 0) → zvc E n [] d xm_27 69 [r0, r1, r2, r3, r4, r5] (st) mem Post)) := zrf rfl
theorem s_27_69 {E : yE} {n d : Nat} {mem : yMem} {Post : Option yV → yMem → Prop} {st : List yV} {r0 r1 r2 r3 r4 r5 : Option yV} : zvc E (n + 1) [] d xm_27 69 [r0, r1, r2, r3, r4, r5] (st) mem Post = (zvc E n [] d xm_27 70 [r0, r1, r2, r3, r4, r5] ((0, (-1)) :: st) mem Post) := zrf rfl
theorem s_27_70 {E : yE} {n d : Nat} {mem : yMem} {Post : Option yV → yMem → Prop} {r0 r1 r2 r3 r4 r5 : Option yV} {x : Int} : zvc E (n + 1) [] d xm_27 70 [r0, r1, r2, r3, r4, r5] ([(0, x)]) mem Post = (Post (some (0, x)) mem) := zrf rfl
theorem s_27_71 {E : yE} {n d : Nat} {mem : yMem} {Post : Option yV → yMem → Prop} {st : List yV} {r1 r2 r3 r4 r5 : Option yV} {x : Int} : zvc E (n + 1) [] d xm_27 71 [some (1, x), r1, r2, r3, r4, r5] (st) mem Post = (zvc E n [] d xm_27 72 [some (1, x), r1, r2, r3, r4, r5] ((1, x) :: st) mem Post) := zrf rfl
theorem s_27_72 {E : yE} {n d : Nat} {mem : yMem} {Post : Option yV → yMem → Prop} {st : List yV} {r0 r1 r2 r3 r4 r5 : Option yV} : zvc E (n + 1) [] d xm_27 72 [r0, r1, r2, r3, r4, r5] ((1, 0) :: st) mem Post = (zvc E n [] d xm_27 75 [r0, r1, r2, r3, r4, r5] ((1, 73) :: st) mem Post) := zrf rfl
theorem s_27_75 {E : yE} {n d : Nat} {mem : yMem} {Post : Option yV → yMem → Prop} {st : List yV} {r0 r2 r3 r4 r5 : Option yV} {x : Int} : zvc E (n + 1) [] d xm_27 75 [r0, some (0, x), r2, r3, r4, r5] (st) mem Post = (zvc E n [] d xm_27 76 [r0, some (0, x), r2, r3, r4, r5] ((0, x) :: st) mem Post) := zrf rfl
theorem s_27_76 {E : yE} {n d : Nat} {mem : yMem} {Post : Option yV → yMem → Prop} {st : List yV} {r0 r1 r3 r4 r5 : Option yV} {x : Int} : zvc E (n + 1) [] d xm_27 76 [r0, r1, some (0, x), r3, r4, r5] (st) mem Post = (zvc E n [] d xm_27 77 [r0, r1, some (0, x), r3, r4, r5] ((0, x) :: st) mem Post) := zrf rfl
theorem s_27_77 {E : yE} {n d : Nat} {mem : yMem} {Post : Option yV → yMem → Prop} {st : List yV} {r0 r1 r2 r4 r5 : Option yV} {x : Int} : zvc E (n + 1) [] d xm_27 77 [r0, r1, r2, some (0, x), r4, r5] (st) mem Post = (zvc E n [] d xm_27 78 [r0, r1, r2, some (0, x), r4, r5] ((0, x) :: st) mem Post) := zrf rfl
theorem s_27_78 {E : yE} {n d : Nat} {mem : yMem} {Post : Option yV → yMem → Prop} {st : List yV} {r0 r1 r2 r3 r4 r5 : Option yV} {z a0 a1 a2 : Int} : zvc E (n + 1) [] d xm_27 78 [r0, r1, r2, r3, r4, r5] ((0, a2) :: (0, a1) :: (0, a0) :: (1, z) :: st) mem Post = (zio z 5 = true ∧ ysum st ≤ 8 ∧ yCon E d xm_91 [(1, z), (0, a0), (0, a1), (0, a2)] mem (fun v mem' => zgk E d xm_27 81 [r0, r1, r2, r3, r4, r5] st v mem' Post)) := zrf rfl
theorem s_27_81n {E : yE} {n d : Nat} {mem : yMem} {Post : Option yV → yMem → Prop} {st : List yV} {r0 r1 r2 r3 r5 : Option yV} {x : Int} : zvc E (n + 1) [] d xm_27 81 [r0, r1, r2, r3, none, r5] ((0, x) :: st) mem Post = (zvc E n [] d xm_27 83 [r0, r1, r2, r3, none, some (0, x)] (st) mem Post) := zrf rfl
theorem s_27_81i {E : yE} {n d : Nat} {mem : yMem} {Post : Option yV → yMem → Prop} {st : List yV} {r0 r1 r2 r3 r5 : Option yV} {x w : Int} : zvc E (n + 1) [] d xm_27 81 [r0, r1, r2, r3, some (0, w), r5] ((0, x) :: st) mem Post = (zvc E n [] d xm_27 83 [r0, r1, r2, r3, some (0, w), some (0, x)] (st) mem Post) := zrf rfl
theorem s_27_81p {E : yE} {n d : Nat} {mem : yMem} {Post : Option yV → yMem → Prop} {st : List yV} {r0 r1 r2 r3 r5 : Option yV} {x w : Int} : zvc E (n + 1) [] d xm_27 81 [r0, r1, r2, r3, some (1, w), r5] ((0, x) :: st) mem Post = (zvc E n [] d xm_27 83 [r0, r1, r2, r3, some (1, w), some (0, x)] (st) mem Post) := zrf rfl
theorem s_27_83 {E : yE} {n d : Nat} {mem : yMem} {Post : Option yV → yMem → Prop} {st : List yV} {r0 r1 r2 r3 r4 : Option yV} {x : Int} : zvc E (n + 1) [] d xm_27 83 [r0, r1, r2, r3, r4, some (0, x)] (st) mem Post = (zvc E n [] d xm_27 85 [r0, r1, r2, r3, r4, some (0, x)] ((0, x) :: st) mem Post) := zrf rfl
theorem s_27_85 {E : yE} {n d : Nat} {mem : yMem} {Post : Option yV → yMem → Prop} {st : List yV} {r1 r2 r3 r4 r5 : Option yV} {x : Int} : zvc E (n + 1) [] d xm_27 85 [some (1, x), r1, r2, r3, r4, r5] (st) mem Post = (zvc E n [] d xm_27 86 [some (1, x), r1, r2, r3, r4, r5] ((1, x) :: st) mem Post) := zrf rfl
theorem s_27_86 {E : yE} {n d : Nat} {mem : yMem} {Post : Option yV → yMem → Prop} {st : List yV} {r0 r1 r2 r3 r4 r5 : Option yV} : zvc E (n + 1) [] d xm_27 86 [r0, r1, r2, r3, r4, r5] ((1, 0) :: st) mem Post = (zvc E n [] d xm_27 89 [r0, r1, r2, r3, r4, r5] ((1, 57) :: st) mem Post) := zrf rfl
theorem s_27_89_57 {E : yE} {n d : Nat} {mem : yMem} {Post : Option yV → yMem → Prop} {st : List yV} {r0 r1 r2 r3 r4 r5 : Option yV} : zvc E (n + 1) [] d xm_27 89 [r0, r1, r2, r3, r4, r5] ((1, 57) :: st) mem Post = (zvc E n [] d xm_27 92 [r0, r1, r2, r3, r4, r5] ((0, mem 57 8) :: st) mem Post) := zrf rfl
theorem s_27_89_64 {E : yE} {n d : Nat} {mem : yMem} {Post : Option yV → yMem → Prop} {st : List yV} {r0 r1 r2 r3 r4 r5 : Option yV} : zvc E (n + 1) [] d xm_27 89 [r0, r1, r2, r3, r4, r5] ((1, 64) :: st) mem Post = (zvc E n [] d xm_27 92 [r0, r1, r2, r3, r4, r5] ((0, mem 64 8) :: st) mem Post) := zrf rfl
theorem s_27_92 {E : yE} {n d : Nat} {mem : yMem} {Post : Option yV → yMem → Prop} {st : List yV} {r0 r1 r2 r3 r4 r5 : Option yV} {x y : Int} : zvc E (n + 1) [] d xm_27 92 [r0, r1, r2, r3, r4, r5] ((0, y) :: (0, x) :: st) mem Post = ((w32 x ≤ w32 y → zvc E n [] d xm_27 98 [r0, r1, r2, r3, r4, r5] (st) mem Post) ∧ (¬ (w32 x ≤ w32 y) → zvc E n [] d xm_27 95 [r0, r1, r2, r3, r4, r5] (st) mem Post)) := zrf rfl
theorem s_27_95 {E : yE} {n d : Nat} {mem : yMem} {Post : Option yV → yMem → Prop} {st : List yV} {r0 r1 r2 r3 r4 r5 : Option yV} : zvc E (n + 1) [] d xm_27 95 [r0, r1, r2, r3, r4, r5] (st) mem Post = (zvc E n [] d xm_27 97 [r0, r1, r2, r3, r4, r5] ((0, (-2)) :: st) mem Post) := zrf rfl
theorem s_27_97 {E : yE} {n d : Nat} {mem : yMem} {Post : Option yV → yMem → Prop} {r0 r1 r2 r3 r4 r5 : Option yV} {x : Int} : zvc E (n + 1) [] d xm_27 97 [r0, r1, r2, r3, r4, r5] ([(0, x)]) mem Post = (Post (some (0, x)) mem) := zrf rfl
theorem s_27_98 {E : yE} {n d : Nat} {mem : yMem} {Post : Option yV → yMem → Prop} {st : List yV} {r1 r2 r3 r4 r5 : Option yV} {x : Int} : zvc E (n + 1) [] d xm_27 98 [some (1, x), r1, r2, r3, r4, r5] (st) mem Post = (zvc E n [] d xm_27 99 [some (1, x), r1, r2, r3, r4, r5] ((1, x) :: st) mem Post) := zrf rfl
theorem s_27_99 {E : yE} {n d : Nat} {mem : yMem} {Post : Option yV → yMem → Prop} {st : List yV} {r0 r1 r2 r3 r4 r5 : Option yV} : zvc E (n + 1) [] d xm_27 99 [r0, r1, r2, r3, r4, r5] ((1, 0) :: st) mem Post = (zvc E n [] d xm_27 102 [r0, r1, r2, r3, r4, r5] ((1, 57) :: st) mem Post) := zrf rfl
theorem s_27_102 {E : yE} {n d : Nat} {mem : yMem} {Post : Option yV → yMem → Prop} {st : List yV} {r0 r1 r2 r3 r5 : Option yV} {x : Int} : zvc E (n + 1) [] d xm_27 102 [r0, r1, r2, r3, some (0, x), r5] (st) mem Post = (zvc E n [] d xm_27 104 [r0, r1, r2, r3, some (0, x), r5] ((0, x) :: st) mem Post) := zrf rfl
theorem s_27_104 {E : yE} {n d : Nat} {mem : yMem} {Post : Option yV → yMem → Prop} {st : List yV} {r0 r1 r2 r4 r5 : Option yV} {x : Int} : zvc E (n + 1) [] d xm_27 104 [r0, r1, r2, some (0, x), r4, r5] (st) mem Post = (zvc E n [] d xm_27 105 [r0, r1, r2, some (0, x), r4, r5] ((0, x) :: st) mem Post) := zrf rfl
theorem s_27_105 {E : yE} {n d : Nat} {mem : yMem} {Post : Option yV → yMem → Prop} {st : List yV} {r0 r1 r2 r3 r4 : Option yV} {x : Int} : zvc E (n + 1) [] d xm_27 105 [r0, r1, r2, r3, r4, some (0, x)] (st) mem Post = (zvc E n [] d xm_27 107 [r0, r1, r2, r3, r4, some (0, x)] ((0, x) :: st) mem Post) := zrf rfl
theorem s_27_107 {E : yE} {n d : Nat} {mem : yMem} {Post : Option yV → yMem → Prop} {st : List yV} {r1 r2 r3 r4 r5 : Option yV} {x : Int} : zvc E (n + 1) [] d xm_27 107 [some (1, x), r1, r2, r3, r4, r5] (st) mem Post = (zvc E n [] d xm_27 108 [some (1, x), r1, r2, r3, r4, r5] ((1, x) :: st) mem Post) := zrf rfl
theorem s_27_108 {E : yE} {n d : Nat} {mem : yMem} {Post : Option yV → yMem → Prop} {st : List yV} {r0 r1 r2 r3 r4 r5 : Option yV} : zvc E (n + 1) [] d xm_27 108 [r0, r1, r2, r3, r4, r5] ((1, 0) :: st) mem Post = (zvc E n [] d xm_27 111 [r0, r1, r2, r3, r4, r5] ((1, 2) :: st) mem Post) := zrf rfl
theorem s_27_111_2 {E : yE} {n d : Nat} {mem : yMem} {Post : Option yV → yMem → Prop} {st : List yV} {r0 r1 r2 r3 r4 r5 : Option yV} : zvc E (n + 1) [] d xm_27 111 [r0, r1, r2, r3, r4, r5] ((1, 2) :: st) mem Post = (zvc E n [] d xm_27 114 [r0, r1, r2, r3, r4, r5] ((1, 15) :: st) mem Post) := zrf rfl
theorem s_27_111_28 {E : yE} {n d : Nat} {mem : yMem} {Post : Option yV → yMem → Prop} {st : List yV} {r0 r1 r2 r3 r4 r5 : Option yV} : zvc E (n + 1) [] d xm_27 111 [r0, r1, r2, r3, r4, r5] ((1, 28) :: st) mem Post = (zvc E n [] d xm_27 114 [r0, r1, r2, r3, r4, r5] ((1, 41) :: st) mem Post) := zrf rfl
theorem s_27_114 {E : yE} {n d : Nat} {mem : yMem} {Post : Option yV → yMem → Prop} {st : List yV} {r0 r1 r2 r4 r5 : Option yV} {x : Int} : zvc E (n + 1) [] d xm_27 114 [r0, r1, r2, some (0, x), r4, r5] (st) mem Post = (zvc E n [] d xm_27 115 [r0, r1, r2, some (0, x), r4, r5] ((0, x) :: st) mem Post) := zrf rfl
theorem s_27_115 {E : yE} {n d : Nat} {mem : yMem} {Post : Option yV → yMem → Prop} {st : List yV} {r0 r1 r2 r3 r4 r5 : Option yV} {z j : Int} : zvc E (n + 1) [] d xm_27 115 [r0, r1, r2, r3, r4, r5] ((0, j) :: (1, z) :: st) mem Post = ((0 ≤ w32 j ∧ w32 j < ((zar z 0 : Nat) : Int)) ∧ zvc E n [] d xm_27 116 [r0, r1, r2, r3, r4, r5] ((0, mem z.toNat (w32 j).toNat) :: st) mem Post) := zrf rfl
theorem s_27_116 {E : yE} {n d : Nat} {mem : yMem} {Post : Option yV → yMem → Prop} {st : List yV} {r0 r1 r2 r3 r4 r5 : Option yV} {z a0 a1 a2 a3 : Int} : zvc E (n + 1) [] d xm_27 116 [r0, r1, r2, r3, r4, r5] ((0, a3) :: (0, a2) :: (0, a1) :: (0, a0) :: (1, z) :: st) mem Post = (zio z 10 = true ∧ ysum st ≤ 8 ∧ yCon E d xm_138 [(1, z), (0, a0), (0, a1), (0, a2), (0, a3)] mem (fun v mem' => zgk E d xm_27 119 [r0, r1, r2, r3, r4, r5] st v mem' Post)) := zrf rfl
theorem s_27_119 {E : yE} {n d : Nat} {mem : yMem} {Post : Option yV → yMem → Prop} {st : List yV} {r0 r1 r2 r3 r4 : Option yV} {x : Int} : zvc E (n + 1) [] d xm_27 119 [r0, r1, r2, r3, r4, some (0, x)] (st) mem Post = (zvc E n [] d xm_27 121 [r0, r1, r2, r3, r4, some (0, x)] ((0, x) :: st) mem Post) := zrf rfl
theorem s_27_121 {E : yE} {n d : Nat} {mem : yMem} {Post : Option yV → yMem → Prop} {r0 r1 r2 r3 r4 r5 : Option yV} {x : Int} : zvc E (n + 1) [] d xm_27 121 [r0, r1, r2, r3, r4, r5] ([(0, x)]) mem Post = (Post (some (0, x)) mem) := zrf rfl
def zc_33 : List Nat := [2]
theorem s_33_0 {E : yE} {n d : Nat} {mem : yMem} {Post : Option yV → yMem → Prop} {st : List yV} {r0 r1 r2 r3 : Option yV} : zvc E (n + 1) zc_33 d xm_33 0 [r0, r1, r2, r3] (st) mem Post = (zvc E n zc_33 d xm_33 1 [r0, r1, r2, r3] ((0, 0) :: st) mem Post) := zrf rfl
theorem s_33_1n {E : yE} {n d : Nat} {mem : yMem} {Post : Option yV → yMem → Prop} {st : List yV} {r0 r1 r3 : Option yV} {x : Int} : zvc E (n + 1) zc_33 d xm_33 1 [r0, r1, none, r3] ((0, x) :: st) mem Post = (zvc E n zc_33 d xm_33 2 [r0, r1, none, some (0, x)] (st) mem Post) := zrf rfl
theorem s_33_1i {E : yE} {n d : Nat} {mem : yMem} {Post : Option yV → yMem → Prop} {st : List yV} {r0 r1 r3 : Option yV} {x w : Int} : zvc E (n + 1) zc_33 d xm_33 1 [r0, r1, some (0, w), r3] ((0, x) :: st) mem Post = (zvc E n zc_33 d xm_33 2 [r0, r1, some (0, w), some (0, x)] (st) mem Post) := zrf rfl
theorem s_33_1p {E : yE} {n d : Nat} {mem : yMem} {Post : Option yV → yMem → Prop} {st : List yV} {r0 r1 r3 : Option yV} {x w : Int} : zvc E (n + 1) zc_33 d xm_33 1 [r0, r1, some (1, w), r3] ((0, x) :: st) mem Post = (zvc E n zc_33 d xm_33 2 [r0, r1, some (1, w), some (0, x)] (st) mem Post) := zrf rfl
theorem g_33_2 {E : yE} {n d : Nat} {mem : yMem} {Post : Option yV → yMem → Prop} {st : List yV} {r0 r1 r2 : Option yV} {x : Int} : zgo E n zc_33 d xm_33 2 [r0, r1, r2, some (0, x)] (st) mem Post = (zvc E n zc_33 d xm_33 3 [r0, r1, r2, some (0, x)] ((0, x) :: st) mem Post) := zrf rfl
theorem k_33_2 {E : yE} {n d : Nat} {mem : yMem} {Post : Option yV → yMem → Prop} {st : List yV} {rg : zR} : zvc E (n + 1) zc_33 d xm_33 2 rg st mem Post = zG E d xm_33 2 rg st mem Post := zrf rfl
theorem s_33_3 {E : yE} {n d : Nat} {mem : yMem} {Post : Option yV → yMem → Prop} {st : List yV} {r1 r2 r3 : Option yV} {x : Int} : zvc E (n + 1) zc_33 d xm_33 3 [some (1, x), r1, r2, r3] (st) mem Post = (zvc E n zc_33 d xm_33 4 [some (1, x), r1, r2, r3] ((1, x) :: st) mem Post) := zrf rfl
theorem s_33_4 {E : yE} {n d : Nat} {mem : yMem} {Post : Option yV → yMem → Prop} {st : List yV} {r0 r1 r2 r3 : Option yV} : zvc E (n + 1) zc_33 d xm_33 4 [r0, r1, r2, r3] ((1, 0) :: st) mem Post = (zvc E n zc_33 d xm_33 7 [r0, r1, r2, r3] ((1, 2) :: st) mem Post) := zrf rfl
theorem s_33_7_2 {E : yE} {n d : Nat} {mem : yMem} {Post : Option yV → yMem → Prop} {st : List yV} {r0 r1 r2 r3 : Option yV} : zvc E (n + 1) zc_33 d xm_33 7 [r0, r1, r2, r3] ((1, 2) :: st) mem Post = (zvc E n zc_33 d xm_33 10 [r0, r1, r2, r3] ((1, 18) :: st) mem Post) := zrf rfl
theorem s_33_7_28 {E : yE} {n d : Nat} {mem : yMem} {Post : Option yV → yMem → Prop} {st : List yV} {r0 r1 r2 r3 : Option yV} : zvc E (n + 1) zc_33 d xm_33 7 [r0, r1, r2, r3] ((1, 28) :: st) mem Post = (zvc E n zc_33 d xm_33 10 [r0, r1, r2, r3] ((1, 44) :: st) mem Post) := zrf rfl
theorem s_33_10 {E : yE} {n d : Nat} {mem : yMem} {Post : Option yV → yMem → Prop} {st : List yV} {r0 r2 r3 : Option yV} {x : Int} : zvc E (n + 1) zc_33 d xm_33 10 [r0, some (0, x), r2, r3] (st) mem Post = (zvc E n zc_33 d xm_33 11 [r0, some (0, x), r2, r3] ((0, x) :: st) mem Post) := zrf rfl
theorem s_33_11 {E : yE} {n d : Nat} {mem : yMem} {Post : Option yV → yMem → Prop} {st : List yV} {r0 r1 r2 r3 : Option yV} {z j : Int} : zvc E (n + 1) zc_33 d xm_33 11 [r0, r1, r2, r3] ((0, j) :: (1, z) :: st) mem Post = ((0 ≤ w32 j ∧ w32 j < ((zar z 0 : Nat) : Int)) ∧ zvc E n zc_33 d xm_33 12 [r0, r1, r2, r3] ((0, mem z.toNat (w32 j).toNat) :: st) mem Post) := zrf rfl
theorem s_33_12 {E : yE} {n d : Nat} {mem : yMem} {Post : Option yV → yMem → Prop} {st : List yV} {r0 r1 r2 r3 : Option yV} {x y : Int} : zvc E (n + 1) zc_33 d xm_33 12 [r0, r1, r2, r3] ((0, y) :: (0, x) :: st) mem Post = ((w32 y ≤ w32 x → zvc E n zc_33 d xm_33 40 [r0, r1, r2, r3] (st) mem Post) ∧ (¬ (w32 y ≤ w32 x) → zvc E n zc_33 d xm_33 15 [r0, r1, r2, r3] (st) mem Post)) := zrf rfl
theorem s_33_15 {E : yE} {n d : Nat} {mem : yMem} {Post : Option yV → yMem → Prop} {st : List yV} {r1 r2 r3 : Option yV} {x : Int} : zvc E (n + 1) zc_33 d xm_33 15 [some (1, x), r1, r2, r3] (st) mem Post = (zvc E n zc_33 d xm_33 16 [some (1, x), r1, r2, r3] ((1, x) :: st) mem Post) := zrf rfl
theorem s_33_16 {E : yE} {n d : Nat} {mem : yMem} {Post : Option yV → yMem → Prop} {st : List yV} {r0 r1 r2 r3 : Option yV} : zvc E (n + 1) zc_33 d xm_33 16 [r0, r1, r2, r3] ((1, 0) :: st) mem Post = (zvc E n zc_33 d xm_33 19 [r0, r1, r2, r3] ((1, 57) :: st) mem Post) := zrf rfl
theorem s_33_19_57 {E : yE} {n d : Nat} {mem : yMem} {Post : Option yV → yMem → Prop} {st : List yV} {r0 r1 r2 r3 : Option yV} : zvc E (n + 1) zc_33 d xm_33 19 [r0, r1, r2, r3] ((1, 57) :: st) mem Post = (zvc E n zc_33 d xm_33 22 [r0, r1, r2, r3] ((1, 61) :: st) mem Post) := zrf rfl
theorem s_33_19_64 {E : yE} {n d : Nat} {mem : yMem} {Post : Option yV → yMem → Prop} {st : List yV} {r0 r1 r2 r3 : Option yV} : zvc E (n + 1) zc_33 d xm_33 19 [r0, r1, r2, r3] ((1, 64) :: st) mem Post = (zvc E n zc_33 d xm_33 22 [r0, r1, r2, r3] ((1, 68) :: st) mem Post) := zrf rfl
theorem s_33_22 {E : yE} {n d : Nat} {mem : yMem} {Post : Option yV → yMem → Prop} {st : List yV} {r0 r2 r3 : Option yV} {x : Int} : zvc E (n + 1) zc_33 d xm_33 22 [r0, some (0, x), r2, r3] (st) mem Post = (zvc E n zc_33 d xm_33 23 [r0, some (0, x), r2, r3] ((0, x) :: st) mem Post) := zrf rfl
theorem s_33_23 {E : yE} {n d : Nat} {mem : yMem} {Post : Option yV → yMem → Prop} {st : List yV} {r0 r1 r2 : Option yV} {x : Int} : zvc E (n + 1) zc_33 d xm_33 23 [r0, r1, r2, some (0, x)] (st) mem Post = (zvc E n zc_33 d xm_33 24 [r0, r1, r2, some (0, x)] ((0, x) :: st) mem Post) := zrf rfl
theorem s_33_24 {E : yE} {n d : Nat} {mem : yMem} {Post : Option yV → yMem → Prop} {st : List yV} {r0 r1 r2 r3 : Option yV} {a0 a1 : Int} : zvc E (n + 1) zc_33 (d + 1) xm_33 24 [r0, r1, r2, r3] ((0, a1) :: (0, a0) :: st) mem Post = (True ∧ ysum st ≤ 8 ∧ zvc E n [] d xm_34 0 [some (0, a0), some (0, a1)] [] mem (fun v mem' => zvk E n zc_33 (d + 1) xm_33 27 [r0, r1, r2, r3] st v mem' Post)) := zrf rfl
theorem s_33_27 {E : yE} {n d : Nat} {mem : yMem} {Post : Option yV → yMem → Prop} {st : List yV} {r0 r1 r2 r3 : Option yV} {z j : Int} : zvc E (n + 1) zc_33 d xm_33 27 [r0, r1, r2, r3] ((0, j) :: (1, z) :: st) mem Post = ((0 ≤ w32 j ∧ w32 j < ((zar z 0 : Nat) : Int)) ∧ zvc E n zc_33 d xm_33 28 [r0, r1, r2, r3] ((0, mem z.toNat (w32 j).toNat) :: st) mem Post) := zrf rfl
theorem s_33_28 {E : yE} {n d : Nat} {mem : yMem} {Post : Option yV → yMem → Prop} {st : List yV} {r0 r1 r3 : Option yV} {x : Int} : zvc E (n + 1) zc_33 d xm_33 28 [r0, r1, some (0, x), r3] (st) mem Post = (zvc E n zc_33 d xm_33 29 [r0, r1, some (0, x), r3] ((0, x) :: st) mem Post) := zrf rfl
theorem s_33_29 {E : yE} {n d : Nat} {mem : yMem} {Post : Option yV → yMem → Prop} {st : List yV} {r0 r1 r2 r3 : Option yV} {x y : Int} : zvc E (n + 1) zc_33 d xm_33 29 [r0, r1, r2, r3] ((0, y) :: (0, x) :: st) mem Post = ((¬ w32 x = w32 y → zvc E n zc_33 d xm_33 34 [r0, r1, r2, r3] (st) mem Post) ∧ (¬ (¬ w32 x = w32 y) → zvc E n zc_33 d xm_33 32 [r0, r1, r2, r3] (st) mem Post)) := zrf rfl
theorem s_33_32 {E : yE} {n d : Nat} {mem : yMem} {Post : Option yV → yMem → Prop} {st : List yV} {r0 r1 r2 r3 : Option yV} : zvc E (n + 1) zc_33 d xm_33 32 [r0, r1, r2, r3] (st) mem Post = (zvc E n zc_33 d xm_33 33 [r0, r1, r2, r3] ((0, 1) :: st) mem Post) := zrf rfl
theorem s_33_33 {E : yE} {n d : Nat} {mem : yMem} {Post : Option yV → yMem → Prop} {r0 r1 r2 r3 : Option yV} {x : Int} : zvc E (n + 1) zc_33 d xm_33 33 [r0, r1, r2, r3] ([(0, x)]) mem Post = ((w32 x = 0 ∨ w32 x = 1) ∧ Post (some (0, x)) mem) := zrf rfl
theorem s_33_34n {E : yE} {n d : Nat} {mem : yMem} {Post : Option yV → yMem → Prop} {st : List yV} {r0 r1 : Option yV} {x : Int} : zvc E (n + 1) zc_33 d xm_33 34 [r0, r1, none, some (0, x)] (st) mem Post = (zvc E n zc_33 d xm_33 37 [r0, r1, none, some (0, x + 1)] (st) mem Post) := zrf rfl
theorem s_33_34i {E : yE} {n d : Nat} {mem : yMem} {Post : Option yV → yMem → Prop} {st : List yV} {r0 r1 : Option yV} {x w : Int} : zvc E (n + 1) zc_33 d xm_33 34 [r0, r1, some (0, w), some (0, x)] (st) mem Post = (zvc E n zc_33 d xm_33 37 [r0, r1, some (0, w), some (0, x + 1)] (st) mem Post) := zrf rfl
theorem s_33_34p {E : yE} {n d : Nat} {mem : yMem} {Post : Option yV → yMem → Prop} {st : List yV} {r0 r1 : Option yV} {x w : Int} : zvc E (n + 1) zc_33 d xm_33 34 [r0, r1, some (1, w), some (0, x)] (st) mem Post = (zvc E n zc_33 d xm_33 37 [r0, r1, some (1, w), some (0, x + 1)] (st) mem Post) := zrf rfl
theorem s_33_37 {E : yE} {n d : Nat} {mem : yMem} {Post : Option yV → yMem → Prop} {st : List yV} {r0 r1 r2 r3 : Option yV} : zvc E (n + 1) zc_33 d xm_33 37 [r0, r1, r2, r3] (st) mem Post = (zvc E n zc_33 d xm_33 2 [r0, r1, r2, r3] (st) mem Post) := zrf rfl
theorem s_33_40 {E : yE} {n d : Nat} {mem : yMem} {Post : Option yV → yMem → Prop} {st : List yV} {r0 r1 r2 r3 : Option yV} : zvc E (n + 1) zc_33 d xm_33 40 [r0, r1, r2, r3] (st) mem Post = (zvc E n zc_33 d xm_33 41 [r0, r1, r2, r3] ((0, 0) :: st) mem Post) := zrf rfl
theorem s_33_41 {E : yE} {n d : Nat} {mem : yMem} {Post : Option yV → yMem → Prop} {r0 r1 r2 r3 : Option yV} {x : Int} : zvc E (n + 1) zc_33 d xm_33 41 [r0, r1, r2, r3] ([(0, x)]) mem Post = ((w32 x = 0 ∨ w32 x = 1) ∧ Post (some (0, x)) mem) := zrf rfl
theorem s_138_0 {E : yE} {n d : Nat} {mem : yMem} {Post : Option yV → yMem → Prop} {st : List yV} {r1 r2 r3 r4 : Option yV} {x : Int} : zvc E (n + 1) [] d xm_138 0 [some (1, x), r1, r2, r3, r4] (st) mem Post = (zvc E n [] d xm_138 1 [some (1, x), r1, r2, r3, r4] ((1, x) :: st) mem Post) := zrf rfl
theorem s_138_1_57 {E : yE} {n d : Nat} {mem : yMem} {Post : Option yV → yMem → Prop} {st : List yV} {r0 r1 r2 r3 r4 : Option yV} : zvc E (n + 1) [] d xm_138 1 [r0, r1, r2, r3, r4] ((1, 57) :: st) mem Post = (zvc E n [] d xm_138 4 [r0, r1, r2, r3, r4] ((0, mem 57 6) :: st) mem Post) := zrf rfl
theorem s_138_1_64 {E : yE} {n d : Nat} {mem : yMem} {Post : Option yV → yMem → Prop} {st : List yV} {r0 r1 r2 r3 r4 : Option yV} : zvc E (n + 1) [] d xm_138 1 [r0, r1, r2, r3, r4] ((1, 64) :: st) mem Post = (zvc E n [] d xm_138 4 [r0, r1, r2, r3, r4] ((0, mem 64 6) :: st) mem Post) := zrf rfl
theorem s_138_4 {E : yE} {n d : Nat} {mem : yMem} {Post : Option yV → yMem → Prop} {st : List yV} {r0 r1 r2 r3 r4 : Option yV} : zvc E (n + 1) [] d xm_138 4 [r0, r1, r2, r3, r4] (st) mem Post = (zvc E n [] d xm_138 6 [r0, r1, r2, r3, r4] ((0, 12) :: st) mem Post) := zrf rfl
theorem s_138_6 {E : yE} {n d : Nat} {mem : yMem} {Post : Option yV → yMem → Prop} {st : List yV} {r0 r1 r2 r3 r4 : Option yV} {x y : Int} : zvc E (n + 1) [] d xm_138 6 [r0, r1, r2, r3, r4] ((0, y) :: (0, x) :: st) mem Post = ((w32 x < w32 y → zvc E n [] d xm_138 10 [r0, r1, r2, r3, r4] (st) mem Post) ∧ (¬ (w32 x < w32 y) → zvc E n [] d xm_138 9 [r0, r1, r2, r3, r4] (st) mem Post)) := zrf rfl
theorem s_138_9 {E : yE} {n d : Nat} {mem : yMem} {Post : Option yV → yMem → Prop} {r0 r1 r2 r3 r4 : Option yV} : zvc E (n + 1) [] d xm_138 9 [r0, r1, r2, r3, r4] ([]) mem Post = (Post none mem) := zrf rfl
theorem s_138_10 {E : yE} {n d : Nat} {mem : yMem} {Post : Option yV → yMem → Prop} {st : List yV} {r1 r2 r3 r4 : Option yV} {x : Int} : zvc E (n + 1) [] d xm_138 10 [some (1, x), r1, r2, r3, r4] (st) mem Post = (zvc E n [] d xm_138 11 [some (1, x), r1, r2, r3, r4] ((1, x) :: st) mem Post) := zrf rfl
theorem s_138_11_57 {E : yE} {n d : Nat} {mem : yMem} {Post : Option yV → yMem → Prop} {st : List yV} {r0 r1 r2 r3 r4 : Option yV} : zvc E (n + 1) [] d xm_138 11 [r0, r1, r2, r3, r4] ((1, 57) :: st) mem Post = (zvc E n [] d xm_138 14 [r0, r1, r2, r3, r4] ((1, 61) :: st) mem Post) := zrf rfl
theorem s_138_11_64 {E : yE} {n d : Nat} {mem : yMem} {Post : Option yV → yMem → Prop} {st : List yV} {r0 r1 r2 r3 r4 : Option yV} : zvc E (n + 1) [] d xm_138 11 [r0, r1, r2, r3, r4] ((1, 64) :: st) mem Post = (zvc E n [] d xm_138 14 [r0, r1, r2, r3, r4] ((1, 68) :: st) mem Post) := zrf rfl
theorem s_138_14 {E : yE} {n d : Nat} {mem : yMem} {Post : Option yV → yMem → Prop} {st : List yV} {r0 r2 r3 r4 : Option yV} {x : Int} : zvc E (n + 1) [] d xm_138 14 [r0, some (0, x), r2, r3, r4] (st) mem Post = (zvc E n [] d xm_138 15 [r0, some (0, x), r2, r3, r4] ((0, x) :: st) mem Post) := zrf rfl
theorem s_138_15 {E : yE} {n d : Nat} {mem : yMem} {Post : Option yV → yMem → Prop} {st : List yV} {r0 r1 r3 r4 : Option yV} {x : Int} : zvc E (n + 1) [] d xm_138 15 [r0, r1, some (0, x), r3, r4] (st) mem Post = (zvc E n [] d xm_138 16 [r0, r1, some (0, x), r3, r4] ((0, x) :: st) mem Post) := zrf rfl
theorem s_138_16 {E : yE} {n d : Nat} {mem : yMem} {Post : Option yV → yMem → Prop} {st : List yV} {r0 r1 r2 r3 r4 : Option yV} {x z j : Int} : zvc E (n + 1) [] d xm_138 16 [r0, r1, r2, r3, r4] ((0, x) :: (0, j) :: (1, z) :: st) mem Post = ((0 ≤ w32 j ∧ w32 j < ((zar z 0 : Nat) : Int)) ∧ zvc E n [] d xm_138 17 [r0, r1, r2, r3, r4] (st) (yset mem z.toNat (w32 j).toNat x) Post) := zrf rfl
theorem s_138_17 {E : yE} {n d : Nat} {mem : yMem} {Post : Option yV → yMem → Prop} {st : List yV} {r1 r2 r3 r4 : Option yV} {x : Int} : zvc E (n + 1) [] d xm_138 17 [some (1, x), r1, r2, r3, r4] (st) mem Post = (zvc E n [] d xm_138 18 [some (1, x), r1, r2, r3, r4] ((1, x) :: st) mem Post) := zrf rfl
theorem s_138_18_57 {E : yE} {n d : Nat} {mem : yMem} {Post : Option yV → yMem → Prop} {st : List yV} {r0 r1 r2 r3 r4 : Option yV} : zvc E (n + 1) [] d xm_138 18 [r0, r1, r2, r3, r4] ((1, 57) :: st) mem Post = (zvc E n [] d xm_138 21 [r0, r1, r2, r3, r4] ((1, 62) :: st) mem Post) := zrf rfl
theorem s_138_18_64 {E : yE} {n d : Nat} {mem : yMem} {Post : Option yV → yMem → Prop} {st : List yV} {r0 r1 r2 r3 r4 : Option yV} : zvc E (n + 1) [] d xm_138 18 [r0, r1, r2, r3, r4] ((1, 64) :: st) mem Post = (zvc E n [] d xm_138 21 [r0, r1, r2, r3, r4] ((1, 69) :: st) mem Post) := zrf rfl
theorem s_138_21 {E : yE} {n d : Nat} {mem : yMem} {Post : Option yV → yMem → Prop} {st : List yV} {r1 r2 r3 r4 : Option yV} {x : Int} : zvc E (n + 1) [] d xm_138 21 [some (1, x), r1, r2, r3, r4] (st) mem Post = (zvc E n [] d xm_138 22 [some (1, x), r1, r2, r3, r4] ((1, x) :: st) mem Post) := zrf rfl
theorem s_138_22_57 {E : yE} {n d : Nat} {mem : yMem} {Post : Option yV → yMem → Prop} {st : List yV} {r0 r1 r2 r3 r4 : Option yV} : zvc E (n + 1) [] d xm_138 22 [r0, r1, r2, r3, r4] ((1, 57) :: st) mem Post = (zvc E n [] d xm_138 25 [r0, r1, r2, r3, r4] ((0, mem 57 6) :: st) mem Post) := zrf rfl
theorem s_138_22_64 {E : yE} {n d : Nat} {mem : yMem} {Post : Option yV → yMem → Prop} {st : List yV} {r0 r1 r2 r3 r4 : Option yV} : zvc E (n + 1) [] d xm_138 22 [r0, r1, r2, r3, r4] ((1, 64) :: st) mem Post = (zvc E n [] d xm_138 25 [r0, r1, r2, r3, r4] ((0, mem 64 6) :: st) mem Post) := zrf rfl
theorem s_138_25 {E : yE} {n d : Nat} {mem : yMem} {Post : Option yV → yMem → Prop} {st : List yV} {r0 r2 r3 r4 : Option yV} {x : Int} : zvc E (n + 1) [] d xm_138 25 [r0, some (0, x), r2, r3, r4] (st) mem Post = (zvc E n [] d xm_138 26 [r0, some (0, x), r2, r3, r4] ((0, x) :: st) mem Post) := zrf rfl
theorem s_138_26 {E : yE} {n d : Nat} {mem : yMem} {Post : Option yV → yMem → Prop} {st : List yV} {r0 r1 r2 r3 r4 : Option yV} {x z j : Int} : zvc E (n + 1) [] d xm_138 26 [r0, r1, r2, r3, r4] ((0, x) :: (0, j) :: (1, z) :: st) mem Post = ((0 ≤ w32 j ∧ w32 j < ((zar z 0 : Nat) : Int)) ∧ zvc E n [] d xm_138 27 [r0, r1, r2, r3, r4] (st) (yset mem z.toNat (w32 j).toNat x) Post) := zrf rfl
theorem s_138_27 {E : yE} {n d : Nat} {mem : yMem} {Post : Option yV → yMem → Prop} {st : List yV} {r1 r2 r3 r4 : Option yV} {x : Int} : zvc E (n + 1) [] d xm_138 27 [some (1, x), r1, r2, r3, r4] (st) mem Post = (zvc E n [] d xm_138 28 [some (1, x), r1, r2, r3, r4] ((1, x) :: st) mem Post) := zrf rfl
theorem s_138_28_57 {E : yE} {n d : Nat} {mem : yMem} {Post : Option yV → yMem → Prop} {st : List yV} {r0 r1 r2 r3 r4 : Option yV} : zvc E (n + 1) [] d xm_138 28 [r0, r1, r2, r3, r4] ((1, 57) :: st) mem Post = (zvc E n [] d xm_138 31 [r0, r1, r2, r3, r4] ((1, 63) :: st) mem Post) := zrf rfl
theorem s_138_28_64 {E : yE} {n d : Nat} {mem : yMem} {Post : Option yV → yMem → Prop} {st : List yV} {r0 r1 r2 r3 r4 : Option yV} : zvc E (n + 1) [] d xm_138 28 [r0, r1, r2, r3, r4] ((1, 64) :: st) mem Post = (zvc E n [] d xm_138 31 [r0, r1, r2, r3, r4] ((1, 70) :: st) mem Post) := zrf rfl
theorem s_138_31 {E : yE} {n d : Nat} {mem : yMem} {Post : Option yV → yMem → Prop} {st : List yV} {r1 r2 r3 r4 : Option yV} {x : Int} : zvc E (n + 1) [] d xm_138 31 [some (1, x), r1, r2, r3, r4] (st) mem Post = (zvc E n [] d xm_138 32 [some (1, x), r1, r2, r3, r4] ((1, x) :: st) mem Post) := zrf rfl
theorem s_138_32_57 {E : yE} {n d : Nat} {mem : yMem} {Post : Option yV → yMem → Prop} {st : List yV} {r0 r1 r2 r3 r4 : Option yV} : zvc E (n + 1) [] d xm_138 32 [r0, r1, r2, r3, r4] ((1, 57) :: st) mem Post = (zvc E n [] d xm_138 35 [r0, r1, r2, r3, r4] ((0, mem 57 6) :: st) mem Post) := zrf rfl
theorem s_138_32_64 {E : yE} {n d : Nat} {mem : yMem} {Post : Option yV → yMem → Prop} {st : List yV} {r0 r1 r2 r3 r4 : Option yV} : zvc E (n + 1) [] d xm_138 32 [r0, r1, r2, r3, r4] ((1, 64) :: st) mem Post = (zvc E n [] d xm_138 35 [r0, r1, r2, r3, r4] ((0, mem 64 6) :: st) mem Post) := zrf rfl
theorem s_138_35 {E : yE} {n d : Nat} {mem : yMem} {Post : Option yV → yMem → Prop} {st : List yV} {r0 r1 r2 r4 : Option yV} {x : Int} : zvc E (n + 1) [] d xm_138 35 [r0, r1, r2, some (0, x), r4] (st) mem Post = (zvc E n [] d xm_138 36 [r0, r1, r2, some (0, x), r4] ((0, x) :: st) mem Post) := zrf rfl
theorem s_138_36 {E : yE} {n d : Nat} {mem : yMem} {Post : Option yV → yMem → Prop} {st : List yV} {r0 r1 r2 r3 r4 : Option yV} {x z j : Int} : zvc E (n + 1) [] d xm_138 36 [r0, r1, r2, r3, r4] ((0, x) :: (0, j) :: (1, z) :: st) mem Post = ((0 ≤ w32 j ∧ w32 j < ((zar z 0 : Nat) : Int)) ∧ zvc E n [] d xm_138 37 [r0, r1, r2, r3, r4] (st) (yset mem z.toNat (w32 j).toNat x) Post) := zrf rfl
theorem s_138_37 {E : yE} {n d : Nat} {mem : yMem} {Post : Option yV → yMem → Prop} {st : List yV} {r1 r2 r3 r4 : Option yV} {x : Int} : zvc E (n + 1) [] d xm_138 37 [some (1, x), r1, r2, r3, r4] (st) mem Post = (zvc E n [] d xm_138 38 [some (1, x), r1, r2, r3, r4] ((1, x) :: st) mem Post) := zrf rfl
theorem s_138_38a {E : yE} {n d : Nat} {mem : yMem} {Post : Option yV → yMem → Prop} {st : List yV} {r0 r1 r2 r3 r4 : Option yV} {x : Int} : zvc E (n + 1) [] d xm_138 38 [r0, r1, r2, r3, r4] ((0, x) :: st) mem Post = (zvc E n [] d xm_138 39 [r0, r1, r2, r3, r4] ((0, x) :: (0, x) :: st) mem Post) := zrf rfl
theorem s_138_38b {E : yE} {n d : Nat} {mem : yMem} {Post : Option yV → yMem → Prop} {st : List yV} {r0 r1 r2 r3 r4 : Option yV} {x : Int} : zvc E (n + 1) [] d xm_138 38 [r0, r1, r2, r3, r4] ((1, x) :: st) mem Post = (zvc E n [] d xm_138 39 [r0, r1, r2, r3, r4] ((1, x) :: (1, x) :: st) mem Post) := zrf rfl
theorem s_138_39_57 {E : yE} {n d : Nat} {mem : yMem} {Post : Option yV → yMem → Prop} {st : List yV} {r0 r1 r2 r3 r4 : Option yV} : zvc E (n + 1) [] d xm_138 39 [r0, r1, r2, r3, r4] ((1, 57) :: st) mem Post = (zvc E n [] d xm_138 42 [r0, r1, r2, r3, r4] ((0, mem 57 6) :: st) mem Post) := zrf rfl
theorem s_138_39_64 {E : yE} {n d : Nat} {mem : yMem} {Post : Option yV → yMem → Prop} {st : List yV} {r0 r1 r2 r3 r4 : Option yV} : zvc E (n + 1) [] d xm_138 39 [r0, r1, r2, r3, r4] ((1, 64) :: st) mem Post = (zvc E n [] d xm_138 42 [r0, r1, r2, r3, r4] ((0, mem 64 6) :: st) mem Post) := zrf rfl
theorem s_138_42 {E : yE} {n d : Nat} {mem : yMem} {Post : Option yV → yMem → Prop} {st : List yV} {r0 r1 r2 r3 r4 : Option yV} : zvc E (n + 1) [] d xm_138 42 [r0, r1, r2, r3, r4] (st) mem Post = (zvc E n [] d xm_138 43 [r0, r1, r2, r3, r4] ((0, 1) :: st) mem Post) := zrf rfl
theorem s_138_43 {E : yE} {n d : Nat} {mem : yMem} {Post : Option yV → yMem → Prop} {st : List yV} {r0 r1 r2 r3 r4 : Option yV} {x y : Int} : zvc E (n + 1) [] d xm_138 43 [r0, r1, r2, r3, r4] ((0, y) :: (0, x) :: st) mem Post = (zvc E n [] d xm_138 44 [r0, r1, r2, r3, r4] ((0, x + y) :: st) mem Post) := zrf rfl
theorem s_138_44_57 {E : yE} {n d : Nat} {mem : yMem} {Post : Option yV → yMem → Prop} {st : List yV} {r0 r1 r2 r3 r4 : Option yV} {x : Int} : zvc E (n + 1) [] d xm_138 44 [r0, r1, r2, r3, r4] ((0, x) :: (1, 57) :: st) mem Post = (zvc E n [] d xm_138 47 [r0, r1, r2, r3, r4] (st) (yset mem 57 6 x) Post) := zrf rfl
theorem s_138_44_64 {E : yE} {n d : Nat} {mem : yMem} {Post : Option yV → yMem → Prop} {st : List yV} {r0 r1 r2 r3 r4 : Option yV} {x : Int} : zvc E (n + 1) [] d xm_138 44 [r0, r1, r2, r3, r4] ((0, x) :: (1, 64) :: st) mem Post = (zvc E n [] d xm_138 47 [r0, r1, r2, r3, r4] (st) (yset mem 64 6 x) Post) := zrf rfl
theorem s_138_47 {E : yE} {n d : Nat} {mem : yMem} {Post : Option yV → yMem → Prop} {st : List yV} {r1 r2 r3 r4 : Option yV} {x : Int} : zvc E (n + 1) [] d xm_138 47 [some (1, x), r1, r2, r3, r4] (st) mem Post = (zvc E n [] d xm_138 48 [some (1, x), r1, r2, r3, r4] ((1, x) :: st) mem Post) := zrf rfl
theorem s_138_48a {E : yE} {n d : Nat} {mem : yMem} {Post : Option yV → yMem → Prop} {st : List yV} {r0 r1 r2 r3 r4 : Option yV} {x : Int} : zvc E (n + 1) [] d xm_138 48 [r0, r1, r2, r3, r4] ((0, x) :: st) mem Post = (zvc E n [] d xm_138 49 [r0, r1, r2, r3, r4] ((0, x) :: (0, x) :: st) mem Post) := zrf rfl
theorem s_138_48b {E : yE} {n d : Nat} {mem : yMem} {Post : Option yV → yMem → Prop} {st : List yV} {r0 r1 r2 r3 r4 : Option yV} {x : Int} : zvc E (n + 1) [] d xm_138 48 [r0, r1, r2, r3, r4] ((1, x) :: st) mem Post = (zvc E n [] d xm_138 49 [r0, r1, r2, r3, r4] ((1, x) :: (1, x) :: st) mem Post) := zrf rfl
theorem s_138_49_57 {E : yE} {n d : Nat} {mem : yMem} {Post : Option yV → yMem → Prop} {st : List yV} {r0 r1 r2 r3 r4 : Option yV} : zvc E (n + 1) [] d xm_138 49 [r0, r1, r2, r3, r4] ((1, 57) :: st) mem Post = (zvc E n [] d xm_138 52 [r0, r1, r2, r3, r4] ((0, mem 57 8) :: st) mem Post) := zrf rfl
theorem s_138_49_64 {E : yE} {n d : Nat} {mem : yMem} {Post : Option yV → yMem → Prop} {st : List yV} {r0 r1 r2 r3 r4 : Option yV} : zvc E (n + 1) [] d xm_138 49 [r0, r1, r2, r3, r4] ((1, 64) :: st) mem Post = (zvc E n [] d xm_138 52 [r0, r1, r2, r3, r4] ((0, mem 64 8) :: st) mem Post) := zrf rfl
theorem s_138_52 {E : yE} {n d : Nat} {mem : yMem} {Post : Option yV → yMem → Prop} {st : List yV} {r0 r1 r2 r4 : Option yV} {x : Int} : zvc E (n + 1) [] d xm_138 52 [r0, r1, r2, some (0, x), r4] (st) mem Post = (zvc E n [] d xm_138 53 [r0, r1, r2, some (0, x), r4] ((0, x) :: st) mem Post) := zrf rfl
theorem s_138_53 {E : yE} {n d : Nat} {mem : yMem} {Post : Option yV → yMem → Prop} {st : List yV} {r0 r1 r2 r3 r4 : Option yV} {x y : Int} : zvc E (n + 1) [] d xm_138 53 [r0, r1, r2, r3, r4] ((0, y) :: (0, x) :: st) mem Post = (zvc E n [] d xm_138 54 [r0, r1, r2, r3, r4] ((0, x - y) :: st) mem Post) := zrf rfl
theorem s_138_54_57 {E : yE} {n d : Nat} {mem : yMem} {Post : Option yV → yMem → Prop} {st : List yV} {r0 r1 r2 r3 r4 : Option yV} {x : Int} : zvc E (n + 1) [] d xm_138 54 [r0, r1, r2, r3, r4] ((0, x) :: (1, 57) :: st) mem Post = (zvc E n [] d xm_138 57 [r0, r1, r2, r3, r4] (st) (yset mem 57 8 x) Post) := zrf rfl
theorem s_138_54_64 {E : yE} {n d : Nat} {mem : yMem} {Post : Option yV → yMem → Prop} {st : List yV} {r0 r1 r2 r3 r4 : Option yV} {x : Int} : zvc E (n + 1) [] d xm_138 54 [r0, r1, r2, r3, r4] ((0, x) :: (1, 64) :: st) mem Post = (zvc E n [] d xm_138 57 [r0, r1, r2, r3, r4] (st) (yset mem 64 8 x) Post) := zrf rfl
theorem s_138_57 {E : yE} {n d : Nat} {mem : yMem} {Post : Option yV → yMem → Prop} {st : List yV} {r0 r1 r2 r3 : Option yV} {x : Int} : zvc E (n + 1) [] d xm_138 57 [r0, r1, r2, r3, some (0, x)] (st) mem Post = (zvc E n [] d xm_138 59 [r0, r1, r2, r3, some (0, x)] ((0, x) :: st) mem Post) := zrf rfl
theorem s_138_59 {E : yE} {n d : Nat} {mem : yMem} {Post : Option yV → yMem → Prop} {st : List yV} {r0 r1 r2 r3 r4 : Option yV} : zvc E (n + 1) [] d xm_138 59 [r0, r1, r2, r3, r4] (st) mem Post = (zvc E n [] d xm_138 60 [r0, r1, r2, r3, r4] ((0, (-1)) :: st) mem Post) := zrf rfl
theorem s_138_60 {E : yE} {n d : Nat} {mem : yMem} {Post : Option yV → yMem → Prop} {st : List yV} {r0 r1 r2 r3 r4 : Option yV} {x y : Int} : zvc E (n + 1) [] d xm_138 60 [r0, r1, r2, r3, r4] ((0, y) :: (0, x) :: st) mem Post = ((w32 x = w32 y → zvc E n [] d xm_138 74 [r0, r1, r2, r3, r4] (st) mem Post) ∧ (¬ (w32 x = w32 y) → zvc E n [] d xm_138 63 [r0, r1, r2, r3, r4] (st) mem Post)) := zrf rfl
theorem s_138_63 {E : yE} {n d : Nat} {mem : yMem} {Post : Option yV → yMem → Prop} {st : List yV} {r1 r2 r3 r4 : Option yV} {x : Int} : zvc E (n + 1) [] d xm_138 63 [some (1, x), r1, r2, r3, r4] (st) mem Post = (zvc E n [] d xm_138 64 [some (1, x), r1, r2, r3, r4] ((1, x) :: st) mem Post) := zrf rfl
theorem s_138_64_57 {E : yE} {n d : Nat} {mem : yMem} {Post : Option yV → yMem → Prop} {st : List yV} {r0 r1 r2 r3 r4 : Option yV} : zvc E (n + 1) [] d xm_138 64 [r0, r1, r2, r3, r4] ((1, 57) :: st) mem Post = (zvc E n [] d xm_138 67 [r0, r1, r2, r3, r4] ((1, 58) :: st) mem Post) := zrf rfl
theorem s_138_64_64 {E : yE} {n d : Nat} {mem : yMem} {Post : Option yV → yMem → Prop} {st : List yV} {r0 r1 r2 r3 r4 : Option yV} : zvc E (n + 1) [] d xm_138 64 [r0, r1, r2, r3, r4] ((1, 64) :: st) mem Post = (zvc E n [] d xm_138 67 [r0, r1, r2, r3, r4] ((1, 65) :: st) mem Post) := zrf rfl
theorem s_138_67 {E : yE} {n d : Nat} {mem : yMem} {Post : Option yV → yMem → Prop} {st : List yV} {r0 r1 r2 r3 : Option yV} {x : Int} : zvc E (n + 1) [] d xm_138 67 [r0, r1, r2, r3, some (0, x)] (st) mem Post = (zvc E n [] d xm_138 69 [r0, r1, r2, r3, some (0, x)] ((0, x) :: st) mem Post) := zrf rfl
theorem s_138_69 {E : yE} {n d : Nat} {mem : yMem} {Post : Option yV → yMem → Prop} {st : List yV} {r0 r1 r2 r3 r4 : Option yV} {x y : Int} : zvc E (n + 1) [] d xm_138 69 [r0, r1, r2, r3, r4] ((0, x) :: (1, y) :: st) mem Post = (zvc E n [] d xm_138 70 [r0, r1, r2, r3, r4] ((0, x) :: (1, y) :: (0, x) :: (1, y) :: st) mem Post) := zrf rfl
theorem s_138_70 {E : yE} {n d : Nat} {mem : yMem} {Post : Option yV → yMem → Prop} {st : List yV} {r0 r1 r2 r3 r4 : Option yV} {z j : Int} : zvc E (n + 1) [] d xm_138 70 [r0, r1, r2, r3, r4] ((0, j) :: (1, z) :: st) mem Post = ((0 ≤ w32 j ∧ w32 j < ((zar z 0 : Nat) : Int)) ∧ zvc E n [] d xm_138 71 [r0, r1, r2, r3, r4] ((0, mem z.toNat (w32 j).toNat) :: st) mem Post) := zrf rfl
theorem s_138_71 {E : yE} {n d : Nat} {mem : yMem} {Post : Option yV → yMem → Prop} {st : List yV} {r0 r1 r2 r4 : Option yV} {x : Int} : zvc E (n + 1) [] d xm_138 71 [r0, r1, r2, some (0, x), r4] (st) mem Post = (zvc E n [] d xm_138 72 [r0, r1, r2, some (0, x), r4] ((0, x) :: st) mem Post) := zrf rfl
theorem s_138_72 {E : yE} {n d : Nat} {mem : yMem} {Post : Option yV → yMem → Prop} {st : List yV} {r0 r1 r2 r3 r4 : Option yV} {x y : Int} : zvc E (n + 1) [] d xm_138 72 [r0, r1, r2, r3, r4] ((0, y) :: (0, x) :: st) mem Post = (zvc E n [] d xm_138 73 [r0, r1, r2, r3, r4] ((0, x + y) :: st) mem Post) := zrf rfl
theorem s_138_73 {E : yE} {n d : Nat} {mem : yMem} {Post : Option yV → yMem → Prop} {st : List yV} {r0 r1 r2 r3 r4 : Option yV} {x z j : Int} : zvc E (n + 1) [] d xm_138 73 [r0, r1, r2, r3, r4] ((0, x) :: (0, j) :: (1, z) :: st) mem Post = ((0 ≤ w32 j ∧ w32 j < ((zar z 0 : Nat) : Int)) ∧ zvc E n [] d xm_138 74 [r0, r1, r2, r3, r4] (st) (yset mem z.toNat (w32 j).toNat x) Post) := zrf rfl
theorem s_138_74 {E : yE} {n d : Nat} {mem : yMem} {Post : Option yV → yMem → Prop} {r0 r1 r2 r3 r4 : Option yV} : zvc E (n + 1) [] d xm_138 74 [r0, r1, r2, r3, r4] ([]) mem Post = (Post none mem) := zrf rfl
def zc_230 : List Nat := [4]
theorem s_230_0 {E : yE} {n d : Nat} {mem : yMem} {Post : Option yV → yMem → Prop} {st : List yV} {r0 r1 r2 r3 : Option yV} : zvc E (n + 1) zc_230 d xm_230 0 [r0, r1, r2, r3] (st) mem Post = (zvc E n zc_230 d xm_230 1 [r0, r1, r2, r3] ((0, 3) :: st) mem Post) := zrf rfl
theorem s_230_1 {E : yE} {n d : Nat} {mem : yMem} {Post : Option yV → yMem → Prop} {st : List yV} {r0 r2 r3 : Option yV} {x : Int} : zvc E (n + 1) zc_230 d xm_230 1 [r0, some (0, x), r2, r3] (st) mem Post = (zvc E n zc_230 d xm_230 2 [r0, some (0, x), r2, r3] ((0, x) :: st) mem Post) := zrf rfl
theorem s_230_2 {E : yE} {n d : Nat} {mem : yMem} {Post : Option yV → yMem → Prop} {st : List yV} {r0 r1 r2 r3 : Option yV} {x y : Int} : zvc E (n + 1) zc_230 d xm_230 2 [r0, r1, r2, r3] ((0, y) :: (0, x) :: st) mem Post = (zvc E n zc_230 d xm_230 3 [r0, r1, r2, r3] ((0, x * y) :: st) mem Post) := zrf rfl
theorem s_230_3n {E : yE} {n d : Nat} {mem : yMem} {Post : Option yV → yMem → Prop} {st : List yV} {r0 r1 r3 : Option yV} {x : Int} : zvc E (n + 1) zc_230 d xm_230 3 [r0, r1, none, r3] ((0, x) :: st) mem Post = (zvc E n zc_230 d xm_230 4 [r0, r1, none, some (0, x)] (st) mem Post) := zrf rfl
theorem s_230_3i {E : yE} {n d : Nat} {mem : yMem} {Post : Option yV → yMem → Prop} {st : List yV} {r0 r1 r3 : Option yV} {x w : Int} : zvc E (n + 1) zc_230 d xm_230 3 [r0, r1, some (0, w), r3] ((0, x) :: st) mem Post = (zvc E n zc_230 d xm_230 4 [r0, r1, some (0, w), some (0, x)] (st) mem Post) := zrf rfl
theorem s_230_3p {E : yE} {n d : Nat} {mem : yMem} {Post : Option yV → yMem → Prop} {st : List yV} {r0 r1 r3 : Option yV} {x w : Int} : zvc E (n + 1) zc_230 d xm_230 3 [r0, r1, some (1, w), r3] ((0, x) :: st) mem Post = (zvc E n zc_230 d xm_230 4 [r0, r1, some (1, w), some (0, x)] (st) mem Post) := zrf rfl
theorem g_230_4 {E : yE} {n d : Nat} {mem : yMem} {Post : Option yV → yMem → Prop} {st : List yV} {r0 r1 r2 : Option yV} {x : Int} : zgo E n zc_230 d xm_230 4 [r0, r1, r2, some (0, x)] (st) mem Post = (zvc E n zc_230 d xm_230 5 [r0, r1, r2, some (0, x)] ((0, x) :: st) mem Post) := zrf rfl
theorem k_230_4 {E : yE} {n d : Nat} {mem : yMem} {Post : Option yV → yMem → Prop} {st : List yV} {rg : zR} : zvc E (n + 1) zc_230 d xm_230 4 rg st mem Post = zG E d xm_230 4 rg st mem Post := zrf rfl
theorem s_230_5 {E : yE} {n d : Nat} {mem : yMem} {Post : Option yV → yMem → Prop} {st : List yV} {r0 r1 r2 r3 : Option yV} : zvc E (n + 1) zc_230 d xm_230 5 [r0, r1, r2, r3] (st) mem Post = (zvc E n zc_230 d xm_230 6 [r0, r1, r2, r3] ((0, 3) :: st) mem Post) := zrf rfl
theorem s_230_6 {E : yE} {n d : Nat} {mem : yMem} {Post : Option yV → yMem → Prop} {st : List yV} {r0 r2 r3 : Option yV} {x : Int} : zvc E (n + 1) zc_230 d xm_230 6 [r0, some (0, x), r2, r3] (st) mem Post = (zvc E n zc_230 d xm_230 7 [r0, some (0, x), r2, r3] ((0, x) :: st) mem Post) := zrf rfl
theorem s_230_7 {E : yE} {n d : Nat} {mem : yMem} {Post : Option yV → yMem → Prop} {st : List yV} {r0 r1 r2 r3 : Option yV} {x y : Int} : zvc E (n + 1) zc_230 d xm_230 7 [r0, r1, r2, r3] ((0, y) :: (0, x) :: st) mem Post = (zvc E n zc_230 d xm_230 8 [r0, r1, r2, r3] ((0, x * y) :: st) mem Post) := zrf rfl
theorem s_230_8 {E : yE} {n d : Nat} {mem : yMem} {Post : Option yV → yMem → Prop} {st : List yV} {r1 r2 r3 : Option yV} {x : Int} : zvc E (n + 1) zc_230 d xm_230 8 [some (1, x), r1, r2, r3] (st) mem Post = (zvc E n zc_230 d xm_230 9 [some (1, x), r1, r2, r3] ((1, x) :: st) mem Post) := zrf rfl
theorem s_230_9 {E : yE} {n d : Nat} {mem : yMem} {Post : Option yV → yMem → Prop} {st : List yV} {r0 r1 r2 r3 : Option yV} : zvc E (n + 1) zc_230 d xm_230 9 [r0, r1, r2, r3] ((1, 95) :: st) mem Post = (zvc E n zc_230 d xm_230 12 [r0, r1, r2, r3] ((1, 109) :: st) mem Post) := zrf rfl
theorem s_230_12 {E : yE} {n d : Nat} {mem : yMem} {Post : Option yV → yMem → Prop} {st : List yV} {r0 r2 r3 : Option yV} {x : Int} : zvc E (n + 1) zc_230 d xm_230 12 [r0, some (0, x), r2, r3] (st) mem Post = (zvc E n zc_230 d xm_230 13 [r0, some (0, x), r2, r3] ((0, x) :: st) mem Post) := zrf rfl
theorem s_230_13 {E : yE} {n d : Nat} {mem : yMem} {Post : Option yV → yMem → Prop} {st : List yV} {r0 r1 r2 r3 : Option yV} {z j : Int} : zvc E (n + 1) zc_230 d xm_230 13 [r0, r1, r2, r3] ((0, j) :: (1, z) :: st) mem Post = ((0 ≤ w32 j ∧ w32 j < ((zar z 0 : Nat) : Int)) ∧ zvc E n zc_230 d xm_230 14 [r0, r1, r2, r3] ((0, mem z.toNat (w32 j).toNat) :: st) mem Post) := zrf rfl
theorem s_230_14 {E : yE} {n d : Nat} {mem : yMem} {Post : Option yV → yMem → Prop} {st : List yV} {r0 r1 r2 r3 : Option yV} {x y : Int} : zvc E (n + 1) zc_230 d xm_230 14 [r0, r1, r2, r3] ((0, y) :: (0, x) :: st) mem Post = (zvc E n zc_230 d xm_230 15 [r0, r1, r2, r3] ((0, x + y) :: st) mem Post) := zrf rfl
theorem s_230_15 {E : yE} {n d : Nat} {mem : yMem} {Post : Option yV → yMem → Prop} {st : List yV} {r0 r1 r2 r3 : Option yV} {x y : Int} : zvc E (n + 1) zc_230 d xm_230 15 [r0, r1, r2, r3] ((0, y) :: (0, x) :: st) mem Post = ((w32 y ≤ w32 x → zvc E n zc_230 d xm_230 36 [r0, r1, r2, r3] (st) mem Post) ∧ (¬ (w32 y ≤ w32 x) → zvc E n zc_230 d xm_230 18 [r0, r1, r2, r3] (st) mem Post)) := zrf rfl
theorem s_230_18 {E : yE} {n d : Nat} {mem : yMem} {Post : Option yV → yMem → Prop} {st : List yV} {r1 r2 r3 : Option yV} {x : Int} : zvc E (n + 1) zc_230 d xm_230 18 [some (1, x), r1, r2, r3] (st) mem Post = (zvc E n zc_230 d xm_230 19 [some (1, x), r1, r2, r3] ((1, x) :: st) mem Post) := zrf rfl
theorem s_230_19 {E : yE} {n d : Nat} {mem : yMem} {Post : Option yV → yMem → Prop} {st : List yV} {r0 r1 r2 r3 : Option yV} : zvc E (n + 1) zc_230 d xm_230 19 [r0, r1, r2, r3] ((1, 95) :: st) mem Post = (zvc E n zc_230 d xm_230 22 [r0, r1, r2, r3] ((1, 126) :: st) mem Post) := zrf rfl
theorem s_230_22 {E : yE} {n d : Nat} {mem : yMem} {Post : Option yV → yMem → Prop} {st : List yV} {r0 r1 r2 : Option yV} {x : Int} : zvc E (n + 1) zc_230 d xm_230 22 [r0, r1, r2, some (0, x)] (st) mem Post = (zvc E n zc_230 d xm_230 23 [r0, r1, r2, some (0, x)] ((0, x) :: st) mem Post) := zrf rfl
theorem s_230_23 {E : yE} {n d : Nat} {mem : yMem} {Post : Option yV → yMem → Prop} {st : List yV} {r0 r1 r2 r3 : Option yV} {z j : Int} : zvc E (n + 1) zc_230 d xm_230 23 [r0, r1, r2, r3] ((0, j) :: (1, z) :: st) mem Post = ((0 ≤ w32 j ∧ w32 j < ((zar z 0 : Nat) : Int)) ∧ zvc E n zc_230 d xm_230 24 [r0, r1, r2, r3] ((0, mem z.toNat (w32 j).toNat) :: st) mem Post) := zrf rfl
theorem s_230_24 {E : yE} {n d : Nat} {mem : yMem} {Post : Option yV → yMem → Prop} {st : List yV} {r0 r1 r3 : Option yV} {x : Int} : zvc E (n + 1) zc_230 d xm_230 24 [r0, r1, some (0, x), r3] (st) mem Post = (zvc E n zc_230 d xm_230 25 [r0, r1, some (0, x), r3] ((0, x) :: st) mem Post) := zrf rfl
theorem s_230_25 {E : yE} {n d : Nat} {mem : yMem} {Post : Option yV → yMem → Prop} {st : List yV} {r0 r1 r2 r3 : Option yV} {x y : Int} : zvc E (n + 1) zc_230 d xm_230 25 [r0, r1, r2, r3] ((0, y) :: (0, x) :: st) mem Post = ((¬ w32 x = w32 y → zvc E n zc_230 d xm_230 30 [r0, r1, r2, r3] (st) mem Post) ∧ (¬ (¬ w32 x = w32 y) → zvc E n zc_230 d xm_230 28 [r0, r1, r2, r3] (st) mem Post)) := zrf rfl
theorem s_230_28 {E : yE} {n d : Nat} {mem : yMem} {Post : Option yV → yMem → Prop} {st : List yV} {r0 r1 r2 r3 : Option yV} : zvc E (n + 1) zc_230 d xm_230 28 [r0, r1, r2, r3] (st) mem Post = (zvc E n zc_230 d xm_230 29 [r0, r1, r2, r3] ((0, 1) :: st) mem Post) := zrf rfl
theorem s_230_29 {E : yE} {n d : Nat} {mem : yMem} {Post : Option yV → yMem → Prop} {r0 r1 r2 r3 : Option yV} {x : Int} : zvc E (n + 1) zc_230 d xm_230 29 [r0, r1, r2, r3] ([(0, x)]) mem Post = ((w32 x = 0 ∨ w32 x = 1) ∧ Post (some (0, x)) mem) := zrf rfl
theorem s_230_30n {E : yE} {n d : Nat} {mem : yMem} {Post : Option yV → yMem → Prop} {st : List yV} {r0 r1 : Option yV} {x : Int} : zvc E (n + 1) zc_230 d xm_230 30 [r0, r1, none, some (0, x)] (st) mem Post = (zvc E n zc_230 d xm_230 33 [r0, r1, none, some (0, x + 1)] (st) mem Post) := zrf rfl
theorem s_230_30i {E : yE} {n d : Nat} {mem : yMem} {Post : Option yV → yMem → Prop} {st : List yV} {r0 r1 : Option yV} {x w : Int} : zvc E (n + 1) zc_230 d xm_230 30 [r0, r1, some (0, w), some (0, x)] (st) mem Post = (zvc E n zc_230 d xm_230 33 [r0, r1, some (0, w), some (0, x + 1)] (st) mem Post) := zrf rfl
theorem s_230_30p {E : yE} {n d : Nat} {mem : yMem} {Post : Option yV → yMem → Prop} {st : List yV} {r0 r1 : Option yV} {x w : Int} : zvc E (n + 1) zc_230 d xm_230 30 [r0, r1, some (1, w), some (0, x)] (st) mem Post = (zvc E n zc_230 d xm_230 33 [r0, r1, some (1, w), some (0, x + 1)] (st) mem Post) := zrf rfl
theorem s_230_33 {E : yE} {n d : Nat} {mem : yMem} {Post : Option yV → yMem → Prop} {st : List yV} {r0 r1 r2 r3 : Option yV} : zvc E (n + 1) zc_230 d xm_230 33 [r0, r1, r2, r3] (st) mem Post = (zvc E n zc_230 d xm_230 4 [r0, r1, r2, r3] (st) mem Post) := zrf rfl
theorem s_230_36 {E : yE} {n d : Nat} {mem : yMem} {Post : Option yV → yMem → Prop} {st : List yV} {r0 r1 r2 r3 : Option yV} : zvc E (n + 1) zc_230 d xm_230 36 [r0, r1, r2, r3] (st) mem Post = (zvc E n zc_230 d xm_230 37 [r0, r1, r2, r3] ((0, 0) :: st) mem Post) := zrf rfl
theorem s_230_37 {E : yE} {n d : Nat} {mem : yMem} {Post : Option yV → yMem → Prop} {r0 r1 r2 r3 : Option yV} {x : Int} : zvc E (n + 1) zc_230 d xm_230 37 [r0, r1, r2, r3] ([(0, x)]) mem Post = ((w32 x = 0 ∨ w32 x = 1) ∧ Post (some (0, x)) mem) := zrf rfl
theorem e_27 {E : yE} {d : Nat} {mem : yMem} {Q : Option yV → yMem → Prop} {z a0 a1 a2 : Int} (h : zG E d xm_27 0 [some (1, z), some (0, a0), some (0, a1), some (0, a2), none, none] [] mem Q) : yCon E (d + 1) xm_27 [(1, z), (0, a0), (0, a1), (0, a2)] mem Q := zcon_of xmo_27 (Nat.le_of_ble_eq_true rfl) h
theorem e_33 {E : yE} {d : Nat} {mem : yMem} {Q : Option yV → yMem → Prop} {z a0 a1 : Int} (h : zG E d xm_33 0 [some (1, z), some (0, a0), some (0, a1), none] [] mem Q) : yCon E (d + 1) xm_33 [(1, z), (0, a0), (0, a1)] mem Q := zcon_of xmo_33 (Nat.le_of_ble_eq_true rfl) h
theorem e_138 {E : yE} {d : Nat} {mem : yMem} {Q : Option yV → yMem → Prop} {z a0 a1 a2 a3 : Int} (h : zG E d xm_138 0 [some (1, z), some (0, a0), some (0, a1), some (0, a2), some (0, a3)] [] mem Q) : yCon E (d + 1) xm_138 [(1, z), (0, a0), (0, a1), (0, a2), (0, a3)] mem Q := zcon_of xmo_138 (Nat.le_of_ble_eq_true rfl) h
theorem e_230 {E : yE} {d : Nat} {mem : yMem} {Q : Option yV → yMem → Prop} {z a0 a1 : Int} (h : zG E d xm_230 0 [some (1, z), some (0, a0), some (0, a1), none] [] mem Q) : yCon E (d + 1) xm_230 [(1, z), (0, a0), (0, a1)] mem Q := zcon_of xmo_230 (Nat.le_of_ble_eq_true rfl) h

/-! redeem, on both sides -/
/-- may VOICE V be redeemed for PART PA of VERSE VE -/
def sRc (D : dDc) (W : dU) (VE PA V : Int) : Prop := (0 ≤ VE ∧ VE < (D.2.2.1.length : Int)) ∧ (0 ≤ PA ∧ PA < (sPs D VE.toNat : Int)) ∧ (0 ≤ V ∧ V < (D.2.1.length : Int)) ∧ ¬ uCk (uX W) V.toNat ∧ uS W (3 * VE.toNat + PA.toNat) = -1 ∧ ∀ j, j < sPs D VE.toNat → ¬ uS W (3 * VE.toNat + j) = V
def sRed (D : dDc) (W : dU) (VE PA V r : Int) (W' : dU) : Prop := (sRc D W VE PA V → (uM W < sDu D (uX W) (uK W) (3 * VE.toNat + PA.toNat) V.toNat → r = -2 ∧ W' = W) ∧ (¬ uM W < sDu D (uX W) (uK W) (3 * VE.toNat + PA.toNat) V.toNat → r = sDu D (uX W) (uK W) (3 * VE.toNat + PA.toNat) V.toNat ∧ W' = uRd W (3 * VE.toNat + PA.toNat) V.toNat (sDu D (uX W) (uK W) (3 * VE.toNat + PA.toNat) V.toNat) (vHo D V.toNat))) ∧ (¬ sRc D W VE PA V → r = -1 ∧ W' = W)
theorem sRed_u {D : dDc} {W : dU} {VE PA V r r2 : Int} {W' W2 : dU} (h : sRed D W VE PA V r W') (h2 : sRed D W VE PA V r2 W2) : r = r2 ∧ W' = W2 := by
  by_cases c : sRc D W VE PA V
  · by_cases c2 : uM W < sDu D (uX W) (uK W) (3 * VE.toNat + PA.toNat) V.toNat
    · obtain ⟨a1, a2⟩ := (h.1 c).1 c2
      obtain ⟨b1, b2⟩ := (h2.1 c).1 c2
      rw [a1, a2, b1, b2]
      exact ⟨rfl, rfl⟩
    · obtain ⟨a1, a2⟩ := (h.1 c).2 c2
      obtain ⟨b1, b2⟩ := (h2.1 c).2 c2
      rw [a1, a2, b1, b2]
      exact ⟨rfl, rfl⟩
  · obtain ⟨a1, a2⟩ := h.2 c
    obtain ⟨b1, b2⟩ := h2.2 c
    rw [a1, a2, b1, b2]
    exact ⟨rfl, rfl⟩
theorem eWn_bd {fs : dFs} {f : Nat} {mo oth : Int} {nm : Nat → Int} (h : 0 ≤ mo) : eWn fs f mo oth nm = oth ∨ (0 ≤ eWn fs f mo oth nm ∧ eWn fs f mo oth nm ≤ mo) := by
  unfold eWn
  split
  · exact Or.inl rfl
  · split
    · exact Or.inl rfl
    · exact Or.inr (by omega)
theorem sDu_bd {D : dDc} {X wk : Int} {p v : Nat} (hk : dOk D) (hv : v < D.2.1.length) : 0 ≤ sDu D X wk p v ∧ sDu D X wk p v ≤ 999 := by
  unfold sDu
  split
  · omega
  · have h := (dOk_v hk hv).2.2
    have h1 : 0 ≤ vDe D v ∧ vDe D v ≤ 99 := h
    rcases eWn_bd (fs := dFsO D) (f := 0) (mo := 999) (oth := vDe D v) (nm := nm7 (vDe D v) (sRt D v) (sNo D X p v : Nat) (sRes D p : Nat) (sHig D p) wk (sPs D (p / 3) : Nat)) (by decide) with e | e
    · rw [e]; omega
    · exact e
theorem sRed_ok {D : dDc} {k l : Nat} {W W' : dU} {VE PA V r : Int} (hk : k + 6 ≤ l) (hl : l ≤ 100000) (hD : dOk D) (hn : ∀ e, e < D.2.2.1.length → sPs D e ≤ 3) (hn4 : D.2.2.1.length ≤ 4) (H : uOk D k W) (h : sRed D W VE PA V r W') : uOk D l W' := by
  by_cases c : sRc D W VE PA V
  · by_cases c2 : uM W < sDu D (uX W) (uK W) (3 * VE.toNat + PA.toNat) V.toNat
    · rw [((h.1 c).1 c2).2]
      exact uOk_le H (by omega)
    · rw [((h.1 c).2 c2).2]
      obtain ⟨⟨e0, e1⟩, ⟨q0, q1⟩, ⟨v0, v1⟩, -, hs, -⟩ := c
      have n3 := hn VE.toNat (by omega)
      exact uRd_ok hk hl H (by omega) hs (by omega) (uPv_of (by omega) (by omega) n3) (sDu_bd hD (by omega))
  · rw [(h.2 c).2]
    exact uOk_le H (by omega)
/-- a world with a VOICE more, as both write it -/
theorem cW_rd {b m : yMem} {W : dU} {p v R : Nat} {C h : Int} (H : cW b 57 W) (hR : uR W = (R : Int)) (hR2 : R ≤ 11) (hp : p < 12) (hC : w32 C = C) (hh : h = -1 ∨ (0 ≤ h ∧ h < 3)) (f : ∀ i j, 58 ≤ i → i ≤ 63 → ¬ (i = 61 ∧ j = p) → ¬ (i = 62 ∧ j = R) → ¬ (i = 63 ∧ j = R) → ¬ (i = 58 ∧ h ≠ -1 ∧ (j : Int) = h) → w32 (m i j) = w32 (b i j)) (f57 : ∀ j, j ≠ 6 → j ≠ 8 → w32 (m 57 j) = w32 (b 57 j)) (g1 : w32 (m 61 p) = (v : Int)) (g2 : w32 (m 62 R) = (p : Int)) (g3 : w32 (m 63 R) = C) (g4 : w32 (m 57 6) = (R : Int) + 1) (g5 : w32 (m 57 8) = w32 (uM W - C)) (g6 : h ≠ -1 → w32 (m 58 h.toNat) = w32 (uT W h.toNat + C)) : cW m 57 (uRd W p v C h) := by
  obtain ⟨a1, a2, a3, a4, a5, a6, a7, a8, a9, a10, a11, a12⟩ := H
  have tR : (uR W).toNat = R := by omega
  refine ⟨fun j hj => ?_, fun j hj => ?_, fun j hj => ?_, fun j hj => ?_, fun j hj => ?_, fun j hj => ?_, ?_, ?_, ?_, ?_, ?_, ?_⟩
  · show w32 (m 58 j) = (if h = -1 then uT W else uUp (uT W) h.toNat (w32 (uT W h.toNat + C))) j
    by_cases e : h = -1
    · rw [if_pos e, f 58 j (by decide) (by decide) (by omega) (by omega) (by omega) (by omega)]
      exact a1 j hj
    · rw [if_neg e]
      by_cases ej : j = h.toNat
      · rw [ej, uUp_s]
        exact g6 e
      · rw [uUp_d ej, f 58 j (by decide) (by decide) (by omega) (by omega) (by omega) (by omega)]
        exact a1 j hj
  · show w32 (m 59 j) = uC W j
    rw [f 59 j (by decide) (by decide) (by omega) (by omega) (by omega) (by omega)]
    exact a2 j hj
  · show w32 (m 60 j) = uB W j
    rw [f 60 j (by decide) (by decide) (by omega) (by omega) (by omega) (by omega)]
    exact a3 j hj
  · show w32 (m 61 j) = uUp (uS W) p (v : Int) j
    by_cases ej : j = p
    · rw [ej, uUp_s]
      exact g1
    · rw [uUp_d ej, f 61 j (by decide) (by decide) (by omega) (by omega) (by omega) (by omega)]
      exact a4 j hj
  · show w32 (m 62 j) = uUp (uL W) (uR W).toNat (p : Int) j
    rw [tR]
    by_cases ej : j = R
    · rw [ej, uUp_s]
      exact g2
    · rw [uUp_d ej, f 62 j (by decide) (by decide) (by omega) (by omega) (by omega) (by omega)]
      exact a5 j hj
  · show w32 (m 63 j) = uUp (uP W) (uR W).toNat C j
    rw [tR]
    by_cases ej : j = R
    · rw [ej, uUp_s]
      exact g3
    · rw [uUp_d ej, f 63 j (by decide) (by decide) (by omega) (by omega) (by omega) (by omega)]
      exact a6 j hj
  · show w32 (m 57 6) = uR W + 1
    rw [g4, hR]
  · show w32 (m 57 7) = uK W
    rw [f57 7 (by decide) (by decide)]
    exact a8
  · exact g5
  · show w32 (m 57 9) = uO W
    rw [f57 9 (by decide) (by decide)]
    exact a10
  · show w32 (m 57 10) = uX W
    rw [f57 10 (by decide) (by decide)]
    exact a11
  · show w32 (m 57 12) = uD W
    rw [f57 12 (by decide) (by decide)]
    exact a12
section RD
variable {E : yE} {mem : yMem} {Q : Option yV → yMem → Prop} {D : dDc} {W : dU} {k e q v p : Nat} {VE PA V S C H : Int}
theorem x_sin_l (hE : yEok E) {d : Nat} (hW : cW mem 57 W) (h : cDh mem D) (hVE : w32 VE = (e : Int)) (he : e < D.2.2.1.length) (hQ : ∀ r, ((∃ j, j < sPs D e ∧ uS W (3 * e + j) = w32 V) → w32 r = 1) → ((∀ j, j < sPs D e → ¬ uS W (3 * e + j) = w32 V) → w32 r = 0) → Q (some (0, r)) mem) : ∀ (c i : Nat) (I : Int), sPs D e - i = c → i ≤ sPs D e → w32 I = (i : Int) → (∀ j, j < i → ¬ uS W (3 * e + j) = w32 V) → zG E (d + 1) xm_33 2 [some (1, 0), some (0, VE), some (0, V), some (0, I)] [] mem Q := by
  obtain ⟨pe, pl⟩ := cTb_e h he
  obtain ⟨⟨n1, n1'⟩, ⟨n2, n2'⟩, ⟨n3, n3'⟩, n4, n4'⟩ := cTb_n h
  have Et := w32_t hVE
  intro c
  induction c with
  | zero =>
    intro i I hc hi hI hn
    refine zgo_ok (n := 60) hE xmo_33 (cs := zc_33) ?_
    simp only [ynok_30, ynok_31, w32c_0, w32c_1, w32c_2, w32c_3, w32c_4, w32c_5, w32c_6, w32c_7, w32c_8, w32c_9, w32c_10, w32c_11, w32c_12, w32c_13, w32c_14, w32c_m1, w32c_m2, w32c_118, Int.reduceAdd, Int.reduceSub, Int.reduceMul, yput_s, yput_n, znl_n, znl_0, znl_1, znl_4, ysum_n, ysum_0, ysum_1, ysum_4, true_and, and_true, Nat.reduceAdd, Nat.reduceLeDiff, true_implies, eq_self, true_or, or_true, or_false, false_or, not_true_eq_false, not_false_eq_true, false_implies, implies_true, yset_s, yset_o, yset_d, ne_eq, Nat.reduceEqDiff, Int.reduceToNat, Int.reduceEq, Int.reduceLE, Int.reduceLT, Classical.not_not, Nat.reduceLT, ↓zvk_s, ↓zvk_n, ↓s_33_0, ↓s_33_1n, ↓s_33_1i, ↓s_33_1p, ↓g_33_2, ↓k_33_2, ↓s_33_3, ↓s_33_4, ↓s_33_7_2, ↓s_33_7_28, ↓s_33_10, ↓s_33_11, ↓s_33_12, ↓s_33_15, ↓s_33_16, ↓s_33_19_57, ↓s_33_19_64, ↓s_33_22, ↓s_33_23, ↓s_33_24, ↓s_33_27, ↓s_33_28, ↓s_33_29, ↓s_33_32, ↓s_33_33, ↓s_33_34n, ↓s_33_34i, ↓s_33_34p, ↓s_33_37, ↓s_33_40, ↓s_33_41, ↓s_34_0, ↓s_34_1, ↓s_34_2, ↓s_34_3, ↓s_34_4, ↓s_34_5, zio_0, zio_64, zio_2, zar_68, zia_68, zln_68, zit_68, zar_44, zia_44, zln_44, zit_44, zar_18, zia_18, zln_18, zit_18, zio_57, zio_28, zar_61, zia_61, zln_61, zit_61, Et]
    refine ⟨⟨by omega, by omega⟩, fun _ => hQ 0 (fun ⟨j, j1, j2⟩ => absurd j2 (hn j (by omega))) (fun _ => w32c_0), fun hh => absurd (show w32 (mem 18 e) ≤ w32 I by omega) hh⟩
  | succ c ih =>
    intro i I hc hi hI hn
    have e1 := w32_s1 hI (by omega)
    have hS := ix3 hVE hI (show e < 4 by omega) (show i < 3 by omega)
    have St := w32_t hS
    have s4 := hW.2.2.2.1 (3 * e + i) (by omega)
    refine zgo_ok (n := 60) hE xmo_33 (cs := zc_33) ?_
    simp only [ynok_30, ynok_31, w32c_0, w32c_1, w32c_2, w32c_3, w32c_4, w32c_5, w32c_6, w32c_7, w32c_8, w32c_9, w32c_10, w32c_11, w32c_12, w32c_13, w32c_14, w32c_m1, w32c_m2, w32c_118, Int.reduceAdd, Int.reduceSub, Int.reduceMul, yput_s, yput_n, znl_n, znl_0, znl_1, znl_4, ysum_n, ysum_0, ysum_1, ysum_4, true_and, and_true, Nat.reduceAdd, Nat.reduceLeDiff, true_implies, eq_self, true_or, or_true, or_false, false_or, not_true_eq_false, not_false_eq_true, false_implies, implies_true, yset_s, yset_o, yset_d, ne_eq, Nat.reduceEqDiff, Int.reduceToNat, Int.reduceEq, Int.reduceLE, Int.reduceLT, Classical.not_not, Nat.reduceLT, ↓zvk_s, ↓zvk_n, ↓s_33_0, ↓s_33_1n, ↓s_33_1i, ↓s_33_1p, ↓g_33_2, ↓k_33_2, ↓s_33_3, ↓s_33_4, ↓s_33_7_2, ↓s_33_7_28, ↓s_33_10, ↓s_33_11, ↓s_33_12, ↓s_33_15, ↓s_33_16, ↓s_33_19_57, ↓s_33_19_64, ↓s_33_22, ↓s_33_23, ↓s_33_24, ↓s_33_27, ↓s_33_28, ↓s_33_29, ↓s_33_32, ↓s_33_33, ↓s_33_34n, ↓s_33_34i, ↓s_33_34p, ↓s_33_37, ↓s_33_40, ↓s_33_41, ↓s_34_0, ↓s_34_1, ↓s_34_2, ↓s_34_3, ↓s_34_4, ↓s_34_5, zio_0, zio_64, zio_2, zar_68, zia_68, zln_68, zit_68, zar_44, zia_44, zln_44, zit_44, zar_18, zia_18, zln_18, zit_18, zio_57, zio_28, zar_61, zia_61, zln_61, zit_61, Et, St]
    refine ⟨⟨by omega, by omega⟩, fun hh => absurd hh (by omega), fun _ => ⟨⟨by omega, by omega⟩, fun z => ih (i + 1) (I + 1) (by omega) (by omega) e1 (fun j hj => ?_), fun z => hQ 1 (fun _ => w32c_1) (fun a => absurd (s4.symm.trans z) (a i (by omega)))⟩⟩
    by_cases ej : j = i
    · rw [ej, ← s4]
      exact z
    · exact hn j (by omega)
theorem x_sin (hE : yEok E) {D0 : Nat} (hD : 2 ≤ D0) (hW : cW mem 57 W) (h : cDh mem D) (hVE : w32 VE = (e : Int)) (he : e < D.2.2.1.length) (hQ : ∀ r, ((∃ j, j < sPs D e ∧ uS W (3 * e + j) = w32 V) → w32 r = 1) → ((∀ j, j < sPs D e → ¬ uS W (3 * e + j) = w32 V) → w32 r = 0) → Q (some (0, r)) mem) : yCon E D0 xm_33 [(1, 0), (0, VE), (0, V)] mem Q := by
  obtain ⟨d, rfl⟩ := Nat.exists_eq_add_of_le' hD
  refine e_33 ?_
  refine zvc_ok hE 60 zc_33 _ _ _ _ _ _ _ xmo_33 ?_
  simp only [ynok_30, ynok_31, w32c_0, w32c_1, w32c_2, w32c_3, w32c_4, w32c_5, w32c_6, w32c_7, w32c_8, w32c_9, w32c_10, w32c_11, w32c_12, w32c_13, w32c_14, w32c_m1, w32c_m2, w32c_118, Int.reduceAdd, Int.reduceSub, Int.reduceMul, yput_s, yput_n, znl_n, znl_0, znl_1, znl_4, ysum_n, ysum_0, ysum_1, ysum_4, true_and, and_true, Nat.reduceAdd, Nat.reduceLeDiff, true_implies, eq_self, true_or, or_true, or_false, false_or, not_true_eq_false, not_false_eq_true, false_implies, implies_true, yset_s, yset_o, yset_d, ne_eq, Nat.reduceEqDiff, Int.reduceToNat, Int.reduceEq, Int.reduceLE, Int.reduceLT, Classical.not_not, Nat.reduceLT, ↓zvk_s, ↓zvk_n, ↓s_33_0, ↓s_33_1n, ↓s_33_1i, ↓s_33_1p, ↓g_33_2, ↓k_33_2, ↓s_33_3, ↓s_33_4, ↓s_33_7_2, ↓s_33_7_28, ↓s_33_10, ↓s_33_11, ↓s_33_12, ↓s_33_15, ↓s_33_16, ↓s_33_19_57, ↓s_33_19_64, ↓s_33_22, ↓s_33_23, ↓s_33_24, ↓s_33_27, ↓s_33_28, ↓s_33_29, ↓s_33_32, ↓s_33_33, ↓s_33_34n, ↓s_33_34i, ↓s_33_34p, ↓s_33_37, ↓s_33_40, ↓s_33_41, zio_0, zio_64, zio_2, zar_68, zia_68, zln_68, zit_68, zar_44, zia_44, zln_44, zit_44, zar_18, zia_18, zln_18, zit_18, zio_57, zio_28, zar_61, zia_61, zln_61, zit_61]
  exact x_sin_l hE hW h hVE he hQ _ 0 0 rfl (Nat.zero_le _) w32c_0 (fun j hj => absurd hj (Nat.not_lt_zero _))
theorem x_enl (hE : yEok E) {D0 R : Nat} (hD : 1 ≤ D0) (hW : cW mem 57 W) (hR : uR W = (R : Int)) (hR2 : R ≤ 11) (hS : w32 S = (p : Int)) (hp : p < 12) (hV : w32 V = (v : Int)) (hH : w32 H = -1 ∨ (0 ≤ w32 H ∧ w32 H < 3)) (hQ : ∀ m, (∀ i j, ¬ (57 ≤ i ∧ i ≤ 63) → m i j = mem i j) → cW m 57 (uRd W p v (w32 C) (w32 H)) → Q none m) : yCon E D0 xm_138 [(1, 57), (0, S), (0, V), (0, C), (0, H)] mem Q := by
  obtain ⟨d, rfl⟩ := Nat.exists_eq_add_of_le' hD
  have a7 := hW.2.2.2.2.2.2.1
  have a9 := hW.2.2.2.2.2.2.2.2.1
  have St := w32_t hS
  have r6 : w32 (mem 57 6) = (R : Int) := by rw [a7, hR]
  have Rt := w32_t r6
  refine e_138 ?_
  refine zvc_ok hE 90 [] _ _ _ _ _ _ _ xmo_138 ?_
  simp only [ynok_30, ynok_31, w32c_0, w32c_1, w32c_2, w32c_3, w32c_4, w32c_5, w32c_6, w32c_7, w32c_8, w32c_9, w32c_10, w32c_11, w32c_12, w32c_13, w32c_14, w32c_m1, w32c_m2, w32c_118, Int.reduceAdd, Int.reduceSub, Int.reduceMul, yput_s, yput_n, znl_n, znl_0, znl_1, znl_4, ysum_n, ysum_0, ysum_1, ysum_4, true_and, and_true, Nat.reduceAdd, Nat.reduceLeDiff, true_implies, eq_self, true_or, or_true, or_false, false_or, not_true_eq_false, not_false_eq_true, false_implies, implies_true, yset_s, yset_o, yset_d, ne_eq, Nat.reduceEqDiff, Int.reduceToNat, Int.reduceEq, Int.reduceLE, Int.reduceLT, Classical.not_not, Nat.reduceLT, ↓zvk_s, ↓zvk_n, ↓s_138_0, ↓s_138_1_57, ↓s_138_1_64, ↓s_138_4, ↓s_138_6, ↓s_138_9, ↓s_138_10, ↓s_138_11_57, ↓s_138_11_64, ↓s_138_14, ↓s_138_15, ↓s_138_16, ↓s_138_17, ↓s_138_18_57, ↓s_138_18_64, ↓s_138_21, ↓s_138_22_57, ↓s_138_22_64, ↓s_138_25, ↓s_138_26, ↓s_138_27, ↓s_138_28_57, ↓s_138_28_64, ↓s_138_31, ↓s_138_32_57, ↓s_138_32_64, ↓s_138_35, ↓s_138_36, ↓s_138_37, ↓s_138_38a, ↓s_138_38b, ↓s_138_39_57, ↓s_138_39_64, ↓s_138_42, ↓s_138_43, ↓s_138_44_57, ↓s_138_44_64, ↓s_138_47, ↓s_138_48a, ↓s_138_48b, ↓s_138_49_57, ↓s_138_49_64, ↓s_138_52, ↓s_138_53, ↓s_138_54_57, ↓s_138_54_64, ↓s_138_57, ↓s_138_59, ↓s_138_60, ↓s_138_63, ↓s_138_64_57, ↓s_138_64_64, ↓s_138_67, ↓s_138_69, ↓s_138_70, ↓s_138_71, ↓s_138_72, ↓s_138_73, ↓s_138_74, zio_64, zar_65, zia_65, zln_65, zit_65, zar_68, zia_68, zln_68, zit_68, zar_69, zia_69, zln_69, zit_69, zar_70, zia_70, zln_70, zit_70, zio_57, zar_58, zia_58, zln_58, zit_58, zar_61, zia_61, zln_61, zit_61, zar_62, zia_62, zln_62, zit_62, zar_63, zia_63, zln_63, zit_63, St, Rt]
  have eR1 : w32 (mem 57 6 + 1) = (R : Int) + 1 := by rw [w32_ad (by rw [w32c_1]; omega) (by rw [w32c_1]; omega), w32c_1, r6]
  have eM : w32 (mem 57 8 - C) = w32 (uM W - w32 C) := by rw [w32_sub, a9]
  have x1 : w32 (mem 57 6) < 12 := by omega
  have fB : ∀ i j, 58 ≤ i → i ≤ 63 → ¬ (i = 61 ∧ j = p) → ¬ (i = 62 ∧ j = R) → ¬ (i = 63 ∧ j = R) → yset (yset (yset (yset (yset mem 61 p V) 62 R S) 63 R C) 57 6 (mem 57 6 + 1)) 57 8 (mem 57 8 - C) i j = mem i j := fun i j i1 i2 i3 i4 i5 => by
    rw [yset_o (by omega), yset_o (by omega)]
    have q1 : yset (yset mem 61 p V) 62 R S i j = mem i j := by
      have q2 : yset mem 61 p V i j = mem i j := by
        rw [yset_a]
        split
        · next e => rw [if_neg (by omega)]
        · rfl
      rw [yset_a]
      split
      · next e => rw [if_neg (by omega)]; exact q2
      · exact q2
    rw [yset_a]
    split
    · next e => rw [if_neg (by omega)]; exact q1
    · exact q1
  refine ⟨fun _ => ⟨⟨by omega, by omega⟩, ⟨by omega, by omega⟩, ⟨by omega, by omega⟩, fun z => ?_, fun z => ⟨⟨by omega, by omega⟩, ⟨by omega, by omega⟩, ?_⟩⟩, fun z => absurd x1 z⟩
  · refine hQ _ (fun i j hij => ?_) (cW_rd hW hR hR2 hp (w32_w C) hH (fun i j i1 i2 i3 i4 i5 i6 => ?_) (fun j j1 j2 => ?_) ?_ ?_ ?_ ?_ ?_ (fun n => absurd z n))
    · rw [yset_o (by omega), yset_o (by omega), yset_o (by omega), yset_o (by omega), yset_o (by omega)]
    · rw [fB i j i1 i2 i3 i4 i5]
    · rw [yset_d j2, yset_d j1, yset_o (by decide), yset_o (by decide), yset_o (by decide)]
    · rw [yset_o (by decide), yset_o (by decide), yset_o (by decide), yset_o (by decide), yset_s]; exact hV
    · rw [yset_o (by decide), yset_o (by decide), yset_o (by decide), yset_s]; exact hS
    · rw [yset_o (by decide), yset_o (by decide), yset_s]
    · rw [yset_d (by decide), yset_s]; exact eR1
    · rw [yset_s]; exact eM
  · have hh := hH.resolve_left z
    have a1 := hW.1 (w32 H).toNat (by omega)
    refine hQ _ (fun i j hij => ?_) (cW_rd hW hR hR2 hp (w32_w C) hH (fun i j i1 i2 i3 i4 i5 i6 => ?_) (fun j j1 j2 => ?_) ?_ ?_ ?_ ?_ ?_ (fun n => ?_))
    · rw [yset_o (by omega), yset_o (by omega), yset_o (by omega), yset_o (by omega), yset_o (by omega), yset_o (by omega)]
    · by_cases e : i = 58
      · subst e
        rw [yset_d (by omega), fB 58 j i1 i2 i3 i4 i5]
      · rw [yset_o e, fB i j i1 i2 i3 i4 i5]
    · rw [yset_o (by decide), yset_d j2, yset_d j1, yset_o (by decide), yset_o (by decide), yset_o (by decide)]
    · rw [yset_o (by decide), yset_o (by decide), yset_o (by decide), yset_o (by decide), yset_o (by decide), yset_s]; exact hV
    · rw [yset_o (by decide), yset_o (by decide), yset_o (by decide), yset_o (by decide), yset_s]; exact hS
    · rw [yset_o (by decide), yset_o (by decide), yset_o (by decide), yset_s]
    · rw [yset_o (by decide), yset_d (by decide), yset_s]; exact eR1
    · rw [yset_o (by decide), yset_s]; exact eM
    · rw [yset_s, w32_add, a1]
theorem x_redeem (hE : yEok E) {D0 : Nat} (hD : 10 ≤ D0) (hW : cW mem 57 W) (h : cDh mem D) (hk : dOk D) (hu : uOk D k W) (hQ : ∀ r m W', (∀ i j, i < 57 ∨ (63 < i ∧ i < 73) ∨ 75 < i → m i j = mem i j) → sRed D W (w32 VE) (w32 PA) (w32 V) (w32 r) W' → cW m 57 W' → Q (some (0, r)) m) : yCon E D0 xm_27 [(1, 0), (0, VE), (0, PA), (0, V)] mem Q := by
  obtain ⟨d, rfl⟩ := Nat.exists_eq_add_of_le' hD
  obtain ⟨⟨n1, n1'⟩, ⟨n2, n2'⟩, ⟨n3, n3'⟩, n4, n4'⟩ := cTb_n h
  have bad : ¬ sRc D W (w32 VE) (w32 PA) (w32 V) → Q (some (0, -1)) mem := fun z => hQ _ mem W (fun _ _ _ => rfl) ⟨fun c => absurd c z, fun _ => ⟨w32c_m1, rfl⟩⟩ hW
  refine e_27 ?_
  refine zvc_ok hE 120 [] _ _ _ _ _ _ _ xmo_27 ?_
  simp only [ynok_30, ynok_31, w32c_0, w32c_1, w32c_2, w32c_3, w32c_4, w32c_5, w32c_6, w32c_7, w32c_8, w32c_9, w32c_10, w32c_11, w32c_12, w32c_13, w32c_14, w32c_m1, w32c_m2, w32c_118, Int.reduceAdd, Int.reduceSub, Int.reduceMul, yput_s, yput_n, znl_n, znl_0, znl_1, znl_4, ysum_n, ysum_0, ysum_1, ysum_4, true_and, and_true, Nat.reduceAdd, Nat.reduceLeDiff, true_implies, eq_self, true_or, or_true, or_false, false_or, not_true_eq_false, not_false_eq_true, false_implies, implies_true, yset_s, yset_o, yset_d, ne_eq, Nat.reduceEqDiff, Int.reduceToNat, Int.reduceEq, Int.reduceLE, Int.reduceLT, Classical.not_not, Nat.reduceLT, ↓zvk_s, ↓zvk_n, ↓s_27_0, ↓s_27_1, ↓s_27_4, ↓s_27_5, ↓s_27_6, ↓s_27_9, ↓s_27_12, ↓s_27_13, ↓s_27_16_2, ↓s_27_16_28, ↓s_27_19, ↓s_27_20, ↓s_27_23, ↓s_27_26, ↓s_27_27, ↓s_27_30, ↓s_27_31, ↓s_27_34, ↓s_27_37, ↓s_27_38, ↓s_27_39, ↓s_27_40, ↓s_27_41, ↓s_27_44n, ↓s_27_44i, ↓s_27_44p, ↓s_27_46, ↓s_27_47, ↓s_27_50_57, ↓s_27_50_64, ↓s_27_53, ↓s_27_55, ↓s_27_56, ↓s_27_57, ↓s_27_60, ↓s_27_61, ↓s_27_62, ↓s_27_63, ↓s_27_66, ↓s_27_69, ↓s_27_70, ↓s_27_71, ↓s_27_72, ↓s_27_75, ↓s_27_76, ↓s_27_77, ↓s_27_78, ↓s_27_81n, ↓s_27_81i, ↓s_27_81p, ↓s_27_83, ↓s_27_85, ↓s_27_86, ↓s_27_89_57, ↓s_27_89_64, ↓s_27_92, ↓s_27_95, ↓s_27_97, ↓s_27_98, ↓s_27_99, ↓s_27_102, ↓s_27_104, ↓s_27_105, ↓s_27_107, ↓s_27_108, ↓s_27_111_2, ↓s_27_111_28, ↓s_27_114, ↓s_27_115, ↓s_27_116, ↓s_27_119, ↓s_27_121, ↓s_78_0, ↓s_78_1_2, ↓s_78_1_28, ↓s_78_4, ↓s_78_5, ↓s_78_8, ↓s_78_11, ↓s_78_12, ↓s_78_15, ↓s_78_16, ↓s_78_17_2, ↓s_78_17_28, ↓s_78_20, ↓s_78_21, ↓s_78_22, ↓s_78_25, ↓s_78_26, ↓s_78_29, ↓s_78_30, ↓s_103_0, ↓s_103_1, ↓s_103_4, ↓s_103_5, ↓s_103_6_3, ↓s_103_6_5, ↓s_103_6_7, ↓s_103_6_9, ↓s_103_6_29, ↓s_103_6_31, ↓s_103_6_33, ↓s_103_6_35, ↓s_103_9, ↓s_103_12, ↓s_103_13, ↓s_103_16, ↓s_103_17, ↓s_139_0, ↓s_139_1_57, ↓s_139_1_64, ↓s_139_4, ↓s_139_5, ↓s_139_6, ↓s_139_7, ↓s_139_8, ↓s_139_11, ↓s_139_12, ↓s_139_15, ↓s_139_16, ↓s_34_0, ↓s_34_1, ↓s_34_2, ↓s_34_3, ↓s_34_4, ↓s_34_5, zio_0, zio_64, zio_2, zio_3, zar_68, zia_68, zln_68, zit_68, zio_5, zio_7, zio_9, zio_73, zar_15, zia_15, zln_15, zit_15, zar_18, zia_18, zln_18, zit_18, zio_28, zio_29, zio_31, zio_33, zio_35, zar_41, zia_41, zln_41, zit_41, zar_44, zia_44, zln_44, zit_44, zio_57, zar_61, zia_61, zln_61, zit_61]
  refine ⟨fun z => bad (fun c => by have := c.1; omega), fun z1 => ⟨fun z => bad (fun c => by have := c.1; omega), fun z2 => ⟨fun z => bad (fun c => by have := c.2.1; omega), fun z3 => ?_⟩⟩⟩
  have hVE : w32 VE = (((w32 VE).toNat : Nat) : Int) := by omega
  have he : (w32 VE).toNat < D.2.2.1.length := by omega
  obtain ⟨pe, pl⟩ := cTb_e h he
  refine ⟨⟨by omega, by omega⟩, fun z => bad (fun c => by have := c.2.1; omega), fun z4 => ⟨fun z => bad (fun c => by have := c.2.2.1; omega), fun z5 => ⟨fun z => bad (fun c => by have := c.2.2.1; omega), fun z6 => ?_⟩⟩⟩
  have hPA : w32 PA = (((w32 PA).toNat : Nat) : Int) := by omega
  have hV : w32 V = (((w32 V).toNat : Nat) : Int) := by omega
  have hq : (w32 PA).toNat < sPs D (w32 VE).toNat := by omega
  have hv : (w32 V).toNat < D.2.1.length := by omega
  have hS := ix3 hVE hPA (by omega) (by omega)
  have X := hu.2.2.2.2.2.2.2.2
  have hX := hW.2.2.2.2.2.2.2.2.2.2.1
  have t := uCk_t hX X.1 X.2.1 hV (show (w32 V).toNat < 6 by omega)
  have s4 := hW.2.2.2.1 (3 * (w32 VE).toNat + (w32 PA).toNat) (by omega)
  rw [t, w32_t hS]
  refine ⟨fun z7 => ⟨⟨by omega, by omega⟩, fun z => bad (fun c => z (s4.trans c.2.2.2.2.1)), fun z8 => x_sin hE (by omega) hW h hVE he (fun r1 g1 g2 => ?_)⟩, fun z => bad (fun c => c.2.2.2.1 (ck_n (Nat.mod_lt _ (by decide)) z))⟩
  refine zgk_s hE xmo_27 120 [] ?_
  simp only [ynok_30, ynok_31, w32c_0, w32c_1, w32c_2, w32c_3, w32c_4, w32c_5, w32c_6, w32c_7, w32c_8, w32c_9, w32c_10, w32c_11, w32c_12, w32c_13, w32c_14, w32c_m1, w32c_m2, w32c_118, Int.reduceAdd, Int.reduceSub, Int.reduceMul, yput_s, yput_n, znl_n, znl_0, znl_1, znl_4, ysum_n, ysum_0, ysum_1, ysum_4, true_and, and_true, Nat.reduceAdd, Nat.reduceLeDiff, true_implies, eq_self, true_or, or_true, or_false, false_or, not_true_eq_false, not_false_eq_true, false_implies, implies_true, yset_s, yset_o, yset_d, ne_eq, Nat.reduceEqDiff, Int.reduceToNat, Int.reduceEq, Int.reduceLE, Int.reduceLT, Classical.not_not, Nat.reduceLT, ↓zvk_s, ↓zvk_n, ↓s_27_0, ↓s_27_1, ↓s_27_4, ↓s_27_5, ↓s_27_6, ↓s_27_9, ↓s_27_12, ↓s_27_13, ↓s_27_16_2, ↓s_27_16_28, ↓s_27_19, ↓s_27_20, ↓s_27_23, ↓s_27_26, ↓s_27_27, ↓s_27_30, ↓s_27_31, ↓s_27_34, ↓s_27_37, ↓s_27_38, ↓s_27_39, ↓s_27_40, ↓s_27_41, ↓s_27_44n, ↓s_27_44i, ↓s_27_44p, ↓s_27_46, ↓s_27_47, ↓s_27_50_57, ↓s_27_50_64, ↓s_27_53, ↓s_27_55, ↓s_27_56, ↓s_27_57, ↓s_27_60, ↓s_27_61, ↓s_27_62, ↓s_27_63, ↓s_27_66, ↓s_27_69, ↓s_27_70, ↓s_27_71, ↓s_27_72, ↓s_27_75, ↓s_27_76, ↓s_27_77, ↓s_27_78, ↓s_27_81n, ↓s_27_81i, ↓s_27_81p, ↓s_27_83, ↓s_27_85, ↓s_27_86, ↓s_27_89_57, ↓s_27_89_64, ↓s_27_92, ↓s_27_95, ↓s_27_97, ↓s_27_98, ↓s_27_99, ↓s_27_102, ↓s_27_104, ↓s_27_105, ↓s_27_107, ↓s_27_108, ↓s_27_111_2, ↓s_27_111_28, ↓s_27_114, ↓s_27_115, ↓s_27_116, ↓s_27_119, ↓s_27_121, zio_0, zio_64, zio_2, zio_3, zar_68, zia_68, zln_68, zit_68, zio_5, zio_7, zio_9, zio_73, zar_15, zia_15, zln_15, zit_15, zio_28, zio_29, zio_31, zio_33, zio_35, zar_41, zia_41, zln_41, zit_41, zio_57, zar_61, zia_61, zln_61, zit_61]
  refine ⟨fun z9 => ?_, fun z => bad (fun c => z (g2 c.2.2.2.2.2))⟩
  have ok : sRc D W (w32 VE) (w32 PA) (w32 V) := ⟨⟨by omega, by omega⟩, ⟨by omega, by omega⟩, ⟨by omega, by omega⟩, fun c => absurd z7 (ck_z c), s4.symm.trans z8, fun j hj c => absurd (g1 ⟨j, hj, c⟩) (by omega)⟩
  refine x_due hE (by omega) hX X.1 X.2.1 hW.2.2.2.2.2.2.2.1 hVE hPA hV h hk he hq hv (fun r2 m2 F2 hr2 => ?_)
  have hW2 : cW m2 57 W := cW_f hW (fun i j i1 i2 => F2 i j (Or.inl (by omega))) (fun j _ _ _ => F2 57 j (Or.inl (by decide)))
  have a9 := hW2.2.2.2.2.2.2.2.2.1
  obtain ⟨v1, v2, v3, v4⟩ := cTb_v (evN_D F2 h) hv
  have kv : -1 ≤ vHo D (w32 V).toNat ∧ vHo D (w32 V).toNat < (D.1.length : Int) := (dOk_v hk hv).2.1
  have few := uFew hu (show 3 * (w32 VE).toNat + (w32 PA).toNat < 12 by omega) (s4.symm.trans z8)
  have r0 := hu.1.1
  refine zgk_s hE xmo_27 120 [] ?_
  simp only [ynok_30, ynok_31, w32c_0, w32c_1, w32c_2, w32c_3, w32c_4, w32c_5, w32c_6, w32c_7, w32c_8, w32c_9, w32c_10, w32c_11, w32c_12, w32c_13, w32c_14, w32c_m1, w32c_m2, w32c_118, Int.reduceAdd, Int.reduceSub, Int.reduceMul, yput_s, yput_n, znl_n, znl_0, znl_1, znl_4, ysum_n, ysum_0, ysum_1, ysum_4, true_and, and_true, Nat.reduceAdd, Nat.reduceLeDiff, true_implies, eq_self, true_or, or_true, or_false, false_or, not_true_eq_false, not_false_eq_true, false_implies, implies_true, yset_s, yset_o, yset_d, ne_eq, Nat.reduceEqDiff, Int.reduceToNat, Int.reduceEq, Int.reduceLE, Int.reduceLT, Classical.not_not, Nat.reduceLT, ↓zvk_s, ↓zvk_n, ↓s_27_0, ↓s_27_1, ↓s_27_4, ↓s_27_5, ↓s_27_6, ↓s_27_9, ↓s_27_12, ↓s_27_13, ↓s_27_16_2, ↓s_27_16_28, ↓s_27_19, ↓s_27_20, ↓s_27_23, ↓s_27_26, ↓s_27_27, ↓s_27_30, ↓s_27_31, ↓s_27_34, ↓s_27_37, ↓s_27_38, ↓s_27_39, ↓s_27_40, ↓s_27_41, ↓s_27_44n, ↓s_27_44i, ↓s_27_44p, ↓s_27_46, ↓s_27_47, ↓s_27_50_57, ↓s_27_50_64, ↓s_27_53, ↓s_27_55, ↓s_27_56, ↓s_27_57, ↓s_27_60, ↓s_27_61, ↓s_27_62, ↓s_27_63, ↓s_27_66, ↓s_27_69, ↓s_27_70, ↓s_27_71, ↓s_27_72, ↓s_27_75, ↓s_27_76, ↓s_27_77, ↓s_27_78, ↓s_27_81n, ↓s_27_81i, ↓s_27_81p, ↓s_27_83, ↓s_27_85, ↓s_27_86, ↓s_27_89_57, ↓s_27_89_64, ↓s_27_92, ↓s_27_95, ↓s_27_97, ↓s_27_98, ↓s_27_99, ↓s_27_102, ↓s_27_104, ↓s_27_105, ↓s_27_107, ↓s_27_108, ↓s_27_111_2, ↓s_27_111_28, ↓s_27_114, ↓s_27_115, ↓s_27_116, ↓s_27_119, ↓s_27_121, zio_0, zio_64, zio_2, zio_3, zar_68, zia_68, zln_68, zit_68, zio_5, zio_7, zio_9, zio_73, zar_15, zia_15, zln_15, zit_15, zio_28, zio_29, zio_31, zio_33, zio_35, zar_41, zia_41, zln_41, zit_41, zio_57, zar_61, zia_61, zln_61, zit_61]
  refine ⟨fun y => ⟨⟨by omega, by omega⟩, x_enl hE (by omega) hW2 (show uR W = (((uR W).toNat : Nat) : Int) by omega) (by omega) hS (by omega) hV (by omega) (fun m3 F3 W3 => ?_)⟩, fun y => hQ _ m2 W (fun i j hi => F2 i j (by omega)) ⟨fun _ => ⟨fun _ => ⟨w32c_m2, rfl⟩, fun c => absurd (show uM W < sDu D (uX W) (uK W) (3 * (w32 VE).toNat + (w32 PA).toNat) (w32 V).toNat by omega) c⟩, fun c => absurd ok c⟩ hW2⟩
  refine zgk_n hE xmo_27 120 [] ?_
  simp only [ynok_30, ynok_31, w32c_0, w32c_1, w32c_2, w32c_3, w32c_4, w32c_5, w32c_6, w32c_7, w32c_8, w32c_9, w32c_10, w32c_11, w32c_12, w32c_13, w32c_14, w32c_m1, w32c_m2, w32c_118, Int.reduceAdd, Int.reduceSub, Int.reduceMul, yput_s, yput_n, znl_n, znl_0, znl_1, znl_4, ysum_n, ysum_0, ysum_1, ysum_4, true_and, and_true, Nat.reduceAdd, Nat.reduceLeDiff, true_implies, eq_self, true_or, or_true, or_false, false_or, not_true_eq_false, not_false_eq_true, false_implies, implies_true, yset_s, yset_o, yset_d, ne_eq, Nat.reduceEqDiff, Int.reduceToNat, Int.reduceEq, Int.reduceLE, Int.reduceLT, Classical.not_not, Nat.reduceLT, ↓zvk_s, ↓zvk_n, ↓s_27_0, ↓s_27_1, ↓s_27_4, ↓s_27_5, ↓s_27_6, ↓s_27_9, ↓s_27_12, ↓s_27_13, ↓s_27_16_2, ↓s_27_16_28, ↓s_27_19, ↓s_27_20, ↓s_27_23, ↓s_27_26, ↓s_27_27, ↓s_27_30, ↓s_27_31, ↓s_27_34, ↓s_27_37, ↓s_27_38, ↓s_27_39, ↓s_27_40, ↓s_27_41, ↓s_27_44n, ↓s_27_44i, ↓s_27_44p, ↓s_27_46, ↓s_27_47, ↓s_27_50_57, ↓s_27_50_64, ↓s_27_53, ↓s_27_55, ↓s_27_56, ↓s_27_57, ↓s_27_60, ↓s_27_61, ↓s_27_62, ↓s_27_63, ↓s_27_66, ↓s_27_69, ↓s_27_70, ↓s_27_71, ↓s_27_72, ↓s_27_75, ↓s_27_76, ↓s_27_77, ↓s_27_78, ↓s_27_81n, ↓s_27_81i, ↓s_27_81p, ↓s_27_83, ↓s_27_85, ↓s_27_86, ↓s_27_89_57, ↓s_27_89_64, ↓s_27_92, ↓s_27_95, ↓s_27_97, ↓s_27_98, ↓s_27_99, ↓s_27_102, ↓s_27_104, ↓s_27_105, ↓s_27_107, ↓s_27_108, ↓s_27_111_2, ↓s_27_111_28, ↓s_27_114, ↓s_27_115, ↓s_27_116, ↓s_27_119, ↓s_27_121, zio_0, zio_64, zio_2, zio_3, zar_68, zia_68, zln_68, zit_68, zio_5, zio_7, zio_9, zio_73, zar_15, zia_15, zln_15, zit_15, zio_28, zio_29, zio_31, zio_33, zio_35, zar_41, zia_41, zln_41, zit_41, zio_57, zar_61, zia_61, zln_61, zit_61]
  refine hQ _ m3 _ (fun i j hi => by rw [F3 i j (by omega), F2 i j (by omega)]) ⟨fun _ => ⟨fun c => absurd c (by omega), fun _ => ⟨hr2, rfl⟩⟩, fun c => absurd ok c⟩ ?_
  rw [hr2, v3] at W3
  exact W3
end RD
end
section
/-! redeem, the reference's side -/
theorem ysn {m : yMem} {i n c j : Nat} {x : Int} (h : ¬ (c = i ∧ j = n)) : yset m i n x c j = m c j := by
  rw [yset_a]
  split
  · next e => rw [if_neg (fun e2 => h ⟨e, e2⟩)]
  · rfl
/-- the slots of the image -/
def rUp (i j : Nat) : Prop := (118 ≤ i ∧ i ≤ 122 ∧ j ≠ 0) ∨ (i = 123 ∧ 3 ≤ j) ∨ (i = 124 ∧ 3 ≤ j) ∨ (i = 125 ∧ 6 ≤ j) ∨ (i = 126 ∧ 12 ≤ j) ∨ (i = 127 ∧ j ≠ 0) ∨ (i = 128 ∧ 12 ≤ j) ∨ (i = 129 ∧ 12 ≤ j)
theorem rW1_f {b m : yMem} {V : dU} (H : rW b 1 V) (u : ∀ i j, rUp i j → m i j = b i j) : rW m 1 V := by
  obtain ⟨v1, v2, v3, v4, v5, v6, v7, v8, v9, v10, v11, v12⟩ := H
  refine ⟨fun j hj => ?_, fun j hj => ?_, fun j hj => ?_, fun j hj => ?_, fun j hj => ?_, fun j hj => ?_, ?_, ?_, ?_, ?_, ?_, ?_⟩
  · rw [u 123 _ (by unfold rUp; omega)]; exact v1 j hj
  · rw [u 125 _ (by unfold rUp; omega)]; exact v2 j hj
  · rw [u 124 _ (by unfold rUp; omega)]; exact v3 j hj
  · rw [u 126 _ (by unfold rUp; omega)]; exact v4 j hj
  · rw [u 128 _ (by unfold rUp; omega)]; exact v5 j hj
  · rw [u 129 _ (by unfold rUp; omega)]; exact v6 j hj
  · rw [u 127 1 (by unfold rUp; omega)]; exact v7
  · rw [u 118 1 (by unfold rUp; omega)]; exact v8
  · rw [u 119 1 (by unfold rUp; omega)]; exact v9
  · rw [u 121 1 (by unfold rUp; omega)]; exact v10
  · rw [u 122 1 (by unfold rUp; omega)]; exact v11
  · rw [u 120 1 (by unfold rUp; omega)]; exact v12
theorem rvN_W {b m : yMem} {h : Nat} {W : dU} (hh : h < 2) (F : rvN b m) (H : rW b h W) : rW m h W := rW_f hh H (fun i j i1 i2 => F i j (by omega) (by omega) (by omega))
theorem rW_rd {b m : yMem} {W : dU} {p v R : Nat} {C h : Int} (H : rW b 0 W) (hR : uR W = (R : Int)) (hh : h = -1 ∨ (0 ≤ h ∧ h < 3)) (f : ∀ i j, 118 ≤ i → i ≤ 129 → ¬ (i = 126 ∧ j = p) → ¬ (i = 128 ∧ j = R) → ¬ (i = 129 ∧ j = R) → ¬ (i = 123 ∧ h ≠ -1 ∧ (j : Int) = h) → ¬ (i = 127 ∧ j = 0) → ¬ (i = 119 ∧ j = 0) → m i j = b i j) (g1 : w32 (m 126 p) = (v : Int)) (g2 : w32 (m 128 R) = (p : Int)) (g3 : w32 (m 129 R) = C) (g4 : w32 (m 127 0) = (R : Int) + 1) (g5 : w32 (m 119 0) = w32 (uM W - C)) (g6 : h ≠ -1 → w32 (m 123 h.toNat) = w32 (uT W h.toNat + C)) : rW m 0 (uRd W p v C h) := by
  obtain ⟨a1, a2, a3, a4, a5, a6, a7, a8, a9, a10, a11, a12⟩ := rW0 H
  have tR : (uR W).toNat = R := by omega
  refine rW0_of ⟨fun j hj => ?_, fun j hj => ?_, fun j hj => ?_, fun j hj => ?_, fun j hj => ?_, fun j hj => ?_, ?_, ?_, ?_, ?_, ?_, ?_⟩
  · show w32 (m 123 j) = (if h = -1 then uT W else uUp (uT W) h.toNat (w32 (uT W h.toNat + C))) j
    by_cases e : h = -1
    · rw [if_pos e, f 123 j (by decide) (by decide) (by omega) (by omega) (by omega) (by omega) (by omega) (by omega)]
      exact a1 j hj
    · rw [if_neg e]
      by_cases ej : j = h.toNat
      · rw [ej, uUp_s]
        exact g6 e
      · rw [uUp_d ej, f 123 j (by decide) (by decide) (by omega) (by omega) (by omega) (by omega) (by omega) (by omega)]
        exact a1 j hj
  · show w32 (m 125 j) = uC W j
    rw [f 125 j (by decide) (by decide) (by omega) (by omega) (by omega) (by omega) (by omega) (by omega)]
    exact a2 j hj
  · show w32 (m 124 j) = uB W j
    rw [f 124 j (by decide) (by decide) (by omega) (by omega) (by omega) (by omega) (by omega) (by omega)]
    exact a3 j hj
  · show w32 (m 126 j) = uUp (uS W) p (v : Int) j
    by_cases ej : j = p
    · rw [ej, uUp_s]
      exact g1
    · rw [uUp_d ej, f 126 j (by decide) (by decide) (by omega) (by omega) (by omega) (by omega) (by omega) (by omega)]
      exact a4 j hj
  · show w32 (m 128 j) = uUp (uL W) (uR W).toNat (p : Int) j
    rw [tR]
    by_cases ej : j = R
    · rw [ej, uUp_s]
      exact g2
    · rw [uUp_d ej, f 128 j (by decide) (by decide) (by omega) (by omega) (by omega) (by omega) (by omega) (by omega)]
      exact a5 j hj
  · show w32 (m 129 j) = uUp (uP W) (uR W).toNat C j
    rw [tR]
    by_cases ej : j = R
    · rw [ej, uUp_s]
      exact g3
    · rw [uUp_d ej, f 129 j (by decide) (by decide) (by omega) (by omega) (by omega) (by omega) (by omega) (by omega)]
      exact a6 j hj
  · show w32 (m 127 0) = uR W + 1
    rw [g4, hR]
  · show w32 (m 118 0) = uK W
    rw [f 118 0 (by decide) (by decide) (by omega) (by omega) (by omega) (by omega) (by omega) (by omega)]
    exact a8
  · exact g5
  · show w32 (m 121 0) = uO W
    rw [f 121 0 (by decide) (by decide) (by omega) (by omega) (by omega) (by omega) (by omega) (by omega)]
    exact a10
  · show w32 (m 122 0) = uX W
    rw [f 122 0 (by decide) (by decide) (by omega) (by omega) (by omega) (by omega) (by omega) (by omega)]
    exact a11
  · show w32 (m 120 0) = uD W
    rw [f 120 0 (by decide) (by decide) (by omega) (by omega) (by omega) (by omega) (by omega) (by omega)]
    exact a12
section RR
variable {E : yE} {mem : yMem} {Q : Option yV → yMem → Prop} {D : dDc} {W : dU} {k e q v p : Nat} {VE PA V S C H : Int}
theorem ix3r {VE PA : Int} {e q : Nat} (hVE : w32 VE = (e : Int)) (hPA : w32 PA = (q : Int)) (he : e < 4) (hq : q < 3) : w32 (3 * VE + PA) = ((3 * e + q : Nat) : Int) := by
  rw [Int.mul_comm]
  exact ix3 hVE hPA he hq
theorem r_sin_l (hE : yEok E) {d : Nat} (hW : rW mem 0 W) (h : rDl mem D) (hVE : w32 VE = (e : Int)) (he : e < D.2.2.1.length) (hQ : ∀ r, ((∃ j, j < sPs D e ∧ uS W (3 * e + j) = w32 V) → w32 r = 1) → ((∀ j, j < sPs D e → ¬ uS W (3 * e + j) = w32 V) → w32 r = 0) → Q (some (0, r)) mem) : ∀ (c i : Nat) (I : Int), sPs D e - i = c → i ≤ sPs D e → w32 I = ((3 * e + i : Nat) : Int) → (∀ j, j < i → ¬ uS W (3 * e + j) = w32 V) → zG E d xm_230 4 [some (1, 95), some (0, VE), some (0, V), some (0, I)] [] mem Q := by
  obtain ⟨pe, pl⟩ := rTb_e h he
  obtain ⟨⟨n1, n1'⟩, ⟨n2, n2'⟩, ⟨n3, n3'⟩, n4, n4'⟩ := rTb_n h
  have Et := w32_t hVE
  have e3 : w32 (3 * VE) = 3 * (e : Int) := by rw [w32_k (by decide) (by omega) (by omega), hVE]
  have ee : w32 (3 * VE + mem 109 e) = 3 * (e : Int) + (sPs D e : Nat) := by rw [w32_ad (by omega) (by omega), e3, pe]
  intro c
  induction c with
  | zero =>
    intro i I hc hi hI hn
    refine zgo_ok (n := 60) hE xmo_230 (cs := zc_230) ?_
    simp only [ynok_30, ynok_31, w32c_0, w32c_1, w32c_2, w32c_3, w32c_4, w32c_5, w32c_6, w32c_7, w32c_8, w32c_9, w32c_10, w32c_11, w32c_12, w32c_13, w32c_14, w32c_m1, w32c_m2, w32c_118, Int.reduceAdd, Int.reduceSub, Int.reduceMul, yput_s, yput_n, znl_n, znl_0, znl_1, znl_4, ysum_n, ysum_0, ysum_1, ysum_4, true_and, and_true, Nat.reduceAdd, Nat.reduceLeDiff, true_implies, eq_self, true_or, or_true, or_false, false_or, not_true_eq_false, not_false_eq_true, false_implies, implies_true, yset_s, yset_o, yset_d, ne_eq, Nat.reduceEqDiff, Int.reduceToNat, Int.reduceEq, Int.reduceLE, Int.reduceLT, Classical.not_not, Nat.reduceLT, ↓zvk_s, ↓zvk_n, ↓s_230_0, ↓s_230_1, ↓s_230_2, ↓s_230_3n, ↓s_230_3i, ↓s_230_3p, ↓g_230_4, ↓k_230_4, ↓s_230_5, ↓s_230_6, ↓s_230_7, ↓s_230_8, ↓s_230_9, ↓s_230_12, ↓s_230_13, ↓s_230_14, ↓s_230_15, ↓s_230_18, ↓s_230_19, ↓s_230_22, ↓s_230_23, ↓s_230_24, ↓s_230_25, ↓s_230_28, ↓s_230_29, ↓s_230_30n, ↓s_230_30i, ↓s_230_30p, ↓s_230_33, ↓s_230_36, ↓s_230_37, zar_109, zia_109, zln_109, zit_109, zar_126, zia_126, zln_126, zit_126, zio_95, Et]
    refine ⟨⟨by omega, by omega⟩, fun _ => hQ 0 (fun ⟨j, j1, j2⟩ => absurd j2 (hn j (by omega))) (fun _ => w32c_0), fun hh => absurd (show w32 (3 * VE + mem 109 e) ≤ w32 I by omega) hh⟩
  | succ c ih =>
    intro i I hc hi hI hn
    have e1 := w32_s1 hI (by omega)
    have It := w32_t hI
    have s4 := (rW0 hW).2.2.2.1 (3 * e + i) (by omega)
    refine zgo_ok (n := 60) hE xmo_230 (cs := zc_230) ?_
    simp only [ynok_30, ynok_31, w32c_0, w32c_1, w32c_2, w32c_3, w32c_4, w32c_5, w32c_6, w32c_7, w32c_8, w32c_9, w32c_10, w32c_11, w32c_12, w32c_13, w32c_14, w32c_m1, w32c_m2, w32c_118, Int.reduceAdd, Int.reduceSub, Int.reduceMul, yput_s, yput_n, znl_n, znl_0, znl_1, znl_4, ysum_n, ysum_0, ysum_1, ysum_4, true_and, and_true, Nat.reduceAdd, Nat.reduceLeDiff, true_implies, eq_self, true_or, or_true, or_false, false_or, not_true_eq_false, not_false_eq_true, false_implies, implies_true, yset_s, yset_o, yset_d, ne_eq, Nat.reduceEqDiff, Int.reduceToNat, Int.reduceEq, Int.reduceLE, Int.reduceLT, Classical.not_not, Nat.reduceLT, ↓zvk_s, ↓zvk_n, ↓s_230_0, ↓s_230_1, ↓s_230_2, ↓s_230_3n, ↓s_230_3i, ↓s_230_3p, ↓g_230_4, ↓k_230_4, ↓s_230_5, ↓s_230_6, ↓s_230_7, ↓s_230_8, ↓s_230_9, ↓s_230_12, ↓s_230_13, ↓s_230_14, ↓s_230_15, ↓s_230_18, ↓s_230_19, ↓s_230_22, ↓s_230_23, ↓s_230_24, ↓s_230_25, ↓s_230_28, ↓s_230_29, ↓s_230_30n, ↓s_230_30i, ↓s_230_30p, ↓s_230_33, ↓s_230_36, ↓s_230_37, zar_109, zia_109, zln_109, zit_109, zar_126, zia_126, zln_126, zit_126, zio_95, Et, It]
    refine ⟨⟨by omega, by omega⟩, fun hh => absurd hh (by omega), fun _ => ⟨⟨by omega, by omega⟩, fun z => ih (i + 1) (I + 1) (by omega) (by omega) e1 (fun j hj => ?_), fun z => hQ 1 (fun _ => w32c_1) (fun a => absurd (s4.symm.trans z) (a i (by omega)))⟩⟩
    by_cases ej : j = i
    · rw [ej, ← s4]
      exact z
    · exact hn j (by omega)
theorem r_sin (hE : yEok E) {D0 : Nat} (hD : 1 ≤ D0) (hW : rW mem 0 W) (h : rDl mem D) (hVE : w32 VE = (e : Int)) (he : e < D.2.2.1.length) (hQ : ∀ r, ((∃ j, j < sPs D e ∧ uS W (3 * e + j) = w32 V) → w32 r = 1) → ((∀ j, j < sPs D e → ¬ uS W (3 * e + j) = w32 V) → w32 r = 0) → Q (some (0, r)) mem) : yCon E D0 xm_230 [(1, 95), (0, VE), (0, V)] mem Q := by
  obtain ⟨d, rfl⟩ := Nat.exists_eq_add_of_le' hD
  obtain ⟨⟨n1, n1'⟩, ⟨n2, n2'⟩, ⟨n3, n3'⟩, n4, n4'⟩ := rTb_n h
  have e3 : w32 (3 * VE) = ((3 * e + 0 : Nat) : Int) := by
    rw [w32_k (by decide) (by omega) (by omega), hVE]
    omega
  refine e_230 ?_
  refine zvc_ok hE 60 zc_230 _ _ _ _ _ _ _ xmo_230 ?_
  simp only [ynok_30, ynok_31, w32c_0, w32c_1, w32c_2, w32c_3, w32c_4, w32c_5, w32c_6, w32c_7, w32c_8, w32c_9, w32c_10, w32c_11, w32c_12, w32c_13, w32c_14, w32c_m1, w32c_m2, w32c_118, Int.reduceAdd, Int.reduceSub, Int.reduceMul, yput_s, yput_n, znl_n, znl_0, znl_1, znl_4, ysum_n, ysum_0, ysum_1, ysum_4, true_and, and_true, Nat.reduceAdd, Nat.reduceLeDiff, true_implies, eq_self, true_or, or_true, or_false, false_or, not_true_eq_false, not_false_eq_true, false_implies, implies_true, yset_s, yset_o, yset_d, ne_eq, Nat.reduceEqDiff, Int.reduceToNat, Int.reduceEq, Int.reduceLE, Int.reduceLT, Classical.not_not, Nat.reduceLT, ↓zvk_s, ↓zvk_n, ↓s_230_0, ↓s_230_1, ↓s_230_2, ↓s_230_3n, ↓s_230_3i, ↓s_230_3p, ↓g_230_4, ↓k_230_4, ↓s_230_5, ↓s_230_6, ↓s_230_7, ↓s_230_8, ↓s_230_9, ↓s_230_12, ↓s_230_13, ↓s_230_14, ↓s_230_15, ↓s_230_18, ↓s_230_19, ↓s_230_22, ↓s_230_23, ↓s_230_24, ↓s_230_25, ↓s_230_28, ↓s_230_29, ↓s_230_30n, ↓s_230_30i, ↓s_230_30p, ↓s_230_33, ↓s_230_36, ↓s_230_37, zar_109, zia_109, zln_109, zit_109, zar_126, zia_126, zln_126, zit_126, zio_95]
  exact r_sin_l hE hW h hVE he hQ _ 0 _ rfl (Nat.zero_le _) e3 (fun j hj => absurd hj (Nat.not_lt_zero _))
theorem r_redeem (hE : yEok E) {D0 : Nat} (hD : 10 ≤ D0) (hW : rW mem 0 W) (h : rDl mem D) (hk : dOk D) (hA : OmA mem) (hu : uOk D k W) (hQ : ∀ r m W', (∀ i j, i ≠ 130 → i ≠ 131 → ¬ (118 ≤ i ∧ i ≤ 129) → ¬ (i = 95 ∧ (j = 0 ∨ j = 52)) → m i j = mem i j) → (∀ i j, rUp i j → m i j = mem i j) → sRed D W (w32 VE) (w32 PA) (w32 V) (w32 r) W' → rW m 0 W' → Q (some (0, r)) m) : yCon E D0 xm_222 [(1, 95), (0, VE), (0, PA), (0, V)] mem Q := by
  obtain ⟨d, rfl⟩ := Nat.exists_eq_add_of_le' hD
  obtain ⟨⟨n1, n1'⟩, ⟨n2, n2'⟩, ⟨n3, n3'⟩, n4, n4'⟩ := rTb_n h
  have F0 : ∀ i j, ¬ (i = 95 ∧ j = 0) → yset mem 95 0 0 i j = mem i j := fun i j hi => by
    rw [yset_a]
    split
    · next e => rw [if_neg (fun e2 => hi ⟨e, e2⟩)]
    · rfl
  have W0 : rW (yset mem 95 0 0) 0 W := rW_f (by decide) hW (fun i j i1 i2 => F0 i j (by omega))
  have h0 : rDl (yset mem 95 0 0) D := rDl_w h (fun i j n _ i1 i2 _ => by rw [F0 i j (by omega)])
  have bad : ¬ sRc D W (w32 VE) (w32 PA) (w32 V) → Q (some (0, -1)) (yset mem 95 0 0) := fun z => hQ _ _ W (fun i j _ _ _ i4 => F0 i j (by omega)) (fun i j hi => F0 i j (by unfold rUp at hi; omega)) ⟨fun c => absurd c z, fun _ => ⟨w32c_m1, rfl⟩⟩ W0
  refine e_222 ?_
  refine zvc_ok hE 120 zc_222 _ _ _ _ _ _ _ xmo_222 ?_
  simp only [ynok_30, ynok_31, w32c_0, w32c_1, w32c_2, w32c_3, w32c_4, w32c_5, w32c_6, w32c_7, w32c_8, w32c_9, w32c_10, w32c_11, w32c_12, w32c_13, w32c_14, w32c_m1, w32c_m2, w32c_118, Int.reduceAdd, Int.reduceSub, Int.reduceMul, yput_s, yput_n, znl_n, znl_0, znl_1, znl_4, ysum_n, ysum_0, ysum_1, ysum_4, true_and, and_true, Nat.reduceAdd, Nat.reduceLeDiff, true_implies, eq_self, true_or, or_true, or_false, false_or, not_true_eq_false, not_false_eq_true, false_implies, implies_true, yset_s, yset_o, yset_d, ne_eq, Nat.reduceEqDiff, Int.reduceToNat, Int.reduceEq, Int.reduceLE, Int.reduceLT, Classical.not_not, Nat.reduceLT, ↓zvk_s, ↓zvk_n, ↓s_222_0, ↓s_222_1, ↓s_222_2, ↓s_222_5, ↓s_222_6, ↓s_222_7, ↓s_222_8, ↓s_222_11, ↓s_222_14, ↓s_222_15, ↓s_222_16, ↓s_222_19, ↓s_222_22, ↓s_222_23, ↓s_222_24, ↓s_222_27, ↓s_222_30, ↓s_222_31, ↓s_222_34, ↓s_222_35, ↓s_222_36, ↓s_222_37, ↓s_222_38, ↓s_222_39, ↓s_222_40, ↓s_222_41, ↓s_222_44, ↓s_222_45, ↓s_222_46, ↓s_222_47, ↓s_222_50, ↓g_222_53, ↓k_222_53, ↓s_222_54, ↓g_222_55, ↓k_222_55, ↓s_222_56, ↓s_222_57, ↓s_222_58, ↓s_222_59, ↓s_222_60n, ↓s_222_60i, ↓s_222_60p, ↓s_222_62, ↓s_222_63, ↓s_222_65, ↓s_222_66, ↓s_222_69n, ↓s_222_69i, ↓s_222_69p, ↓s_222_71, ↓s_222_73, ↓s_222_74, ↓s_222_77, ↓s_222_78, ↓s_222_79, ↓s_222_82, ↓s_222_84, ↓s_222_85, ↓s_222_86, ↓s_222_89, ↓s_222_90, ↓s_222_91, ↓s_222_92, ↓s_222_94, ↓s_222_95, ↓s_222_96, ↓s_222_97, ↓s_222_100, ↓s_222_101, ↓s_222_102, ↓s_222_103, ↓s_222_106, ↓s_222_107, ↓s_222_110, ↓s_222_111, ↓s_222_114, ↓s_222_115, ↓s_222_116, ↓s_222_117, ↓s_222_118, ↓s_222_120, ↓s_222_121, ↓g_222_122, ↓k_222_122, ↓s_222_123, ↓s_222_126, ↓s_222_128, ↓s_222_129, ↓s_222_130, ↓s_222_131, ↓s_222_134, ↓s_222_135, ↓s_222_138, ↓s_222_139, ↓s_222_140, ↓s_222_142, ↓s_222_143, ↓s_222_144, ↓s_222_147, ↓s_222_148, ↓s_222_151, ↓s_222_152, ↓s_222_153, ↓s_222_155, ↓s_222_156, ↓s_222_157, ↓s_222_160, ↓s_222_161, ↓s_222_162, ↓s_222_163, ↓s_222_164, ↓s_222_165, ↓s_222_166, ↓s_222_168, ↓s_189_0, ↓s_189_1, ↓s_189_2, ↓s_189_5, ↓s_189_8, ↓s_189_9, ↓s_189_12, ↓s_189_13, ↓s_189_14, ↓s_189_17, ↓s_189_18, ↓s_189_19, ↓s_189_22, ↓s_189_23, ↓s_189_26, ↓s_189_27, ↓s_196_0, ↓s_196_1, ↓s_196_4, ↓s_196_5, ↓s_196_6, ↓s_196_9, ↓s_196_10, ↓s_196_11, ↓s_196_14, ↓s_196_15, ↓s_196_18, ↓s_196_19, ↓s_197_0, ↓s_197_1, ↓s_197_4, ↓s_197_5, ↓s_197_6, ↓s_197_9, ↓s_197_10, ↓s_197_11, ↓s_197_14, ↓s_197_15, ↓s_197_18, ↓s_197_19, ↓s_183_0, ↓s_183_1, ↓s_183_4, ↓s_183_5, ↓s_183_6, ↓s_183_7, ↓s_183_8, ↓s_183_9, ↓s_183_10, ↓s_183_11, ↓s_183_14, ↓s_183_15, ↓s_183_18, ↓s_183_19, zar_128, zia_128, zln_128, zit_128, zar_129, zia_129, zln_129, zit_129, zar_97, zia_97, zln_97, zit_97, zar_105, zia_105, zln_105, zit_105, zar_109, zia_109, zln_109, zit_109, zio_95, zar_119, zia_119, zln_119, zit_119, zar_122, zia_122, zln_122, zit_122, zar_123, zia_123, zln_123, zit_123, zar_126, zia_126, zln_126, zit_126, zar_127, zia_127, zln_127, zit_127]
  have bad53 : ∀ (r4 r5 : Option yV), ¬ sRc D W (w32 VE) (w32 PA) (w32 V) → zG E (d + 8 + 1) xm_222 53 [some (1, 95), some (0, VE), some (0, PA), some (0, V), r4, r5] [] (yset mem 95 0 0) Q := fun r4 r5 z => re53 hE (bad z)
  refine ⟨fun z => bad53 _ _ (fun c => by have := c.1; omega), fun z1 => ⟨by decide, fun z => bad53 _ _ (fun c => by have := c.1; omega), fun z2 => ⟨fun z => bad53 _ _ (fun c => by have := c.2.1; omega), fun z3 => ?_⟩⟩⟩
  have hVE : w32 VE = (((w32 VE).toNat : Nat) : Int) := by omega
  have he : (w32 VE).toNat < D.2.2.1.length := by omega
  obtain ⟨pe, pl⟩ := rTb_e h he
  refine ⟨⟨by omega, by omega⟩, fun z => bad53 _ _ (fun c => by have := c.2.1; omega), fun z4 => ⟨fun z => bad53 _ _ (fun c => by have := c.2.2.1; omega), fun z5 => ⟨by decide, fun z => bad53 _ _ (fun c => by have := c.2.2.1; omega), fun z6 => ?_⟩⟩⟩
  have hPA : w32 PA = (((w32 PA).toNat : Nat) : Int) := by omega
  have hV : w32 V = (((w32 V).toNat : Nat) : Int) := by omega
  have hq : (w32 PA).toNat < sPs D (w32 VE).toNat := by omega
  have hv : (w32 V).toNat < D.2.1.length := by omega
  have hS := ix3r hVE hPA (by omega) (by omega)
  have X := hu.2.2.2.2.2.2.2.2
  obtain ⟨-, -, -, w4, -, -, w7, w8, w9, -, hX, -⟩ := rW0 hW
  have t := uCk_t hX X.1 X.2.1 hV (show (w32 V).toNat < 6 by omega)
  have s4 := w4 (3 * (w32 VE).toNat + (w32 PA).toNat) (by omega)
  have ck1 : ∀ n : Nat, ((n : Nat) : Int) = 1 ↔ n = 1 := fun n => by omega
  rw [t, w32_t hS]
  refine ⟨by decide, fun z7 => ⟨⟨by omega, by omega⟩, fun z => bad53 _ _ (fun c => z (s4.trans c.2.2.2.2.1)), fun z8 => r_sin hE (by omega) W0 h0 hVE he (fun r1 g1 g2 => ?_)⟩, fun z => bad53 _ _ (fun c => c.2.2.2.1 ((ck1 _).mp z))⟩
  refine zgk_s hE xmo_222 120 zc_222 ?_
  simp only [ynok_30, ynok_31, w32c_0, w32c_1, w32c_2, w32c_3, w32c_4, w32c_5, w32c_6, w32c_7, w32c_8, w32c_9, w32c_10, w32c_11, w32c_12, w32c_13, w32c_14, w32c_m1, w32c_m2, w32c_118, Int.reduceAdd, Int.reduceSub, Int.reduceMul, yput_s, yput_n, znl_n, znl_0, znl_1, znl_4, ysum_n, ysum_0, ysum_1, ysum_4, true_and, and_true, Nat.reduceAdd, Nat.reduceLeDiff, true_implies, eq_self, true_or, or_true, or_false, false_or, not_true_eq_false, not_false_eq_true, false_implies, implies_true, yset_s, yset_o, yset_d, ne_eq, Nat.reduceEqDiff, Int.reduceToNat, Int.reduceEq, Int.reduceLE, Int.reduceLT, Classical.not_not, Nat.reduceLT, ↓zvk_s, ↓zvk_n, ↓s_222_0, ↓s_222_1, ↓s_222_2, ↓s_222_5, ↓s_222_6, ↓s_222_7, ↓s_222_8, ↓s_222_11, ↓s_222_14, ↓s_222_15, ↓s_222_16, ↓s_222_19, ↓s_222_22, ↓s_222_23, ↓s_222_24, ↓s_222_27, ↓s_222_30, ↓s_222_31, ↓s_222_34, ↓s_222_35, ↓s_222_36, ↓s_222_37, ↓s_222_38, ↓s_222_39, ↓s_222_40, ↓s_222_41, ↓s_222_44, ↓s_222_45, ↓s_222_46, ↓s_222_47, ↓s_222_50, ↓g_222_53, ↓k_222_53, ↓s_222_54, ↓g_222_55, ↓k_222_55, ↓s_222_56, ↓s_222_57, ↓s_222_58, ↓s_222_59, ↓s_222_60n, ↓s_222_60i, ↓s_222_60p, ↓s_222_62, ↓s_222_63, ↓s_222_65, ↓s_222_66, ↓s_222_69n, ↓s_222_69i, ↓s_222_69p, ↓s_222_71, ↓s_222_73, ↓s_222_74, ↓s_222_77, ↓s_222_78, ↓s_222_79, ↓s_222_82, ↓s_222_84, ↓s_222_85, ↓s_222_86, ↓s_222_89, ↓s_222_90, ↓s_222_91, ↓s_222_92, ↓s_222_94, ↓s_222_95, ↓s_222_96, ↓s_222_97, ↓s_222_100, ↓s_222_101, ↓s_222_102, ↓s_222_103, ↓s_222_106, ↓s_222_107, ↓s_222_110, ↓s_222_111, ↓s_222_114, ↓s_222_115, ↓s_222_116, ↓s_222_117, ↓s_222_118, ↓s_222_120, ↓s_222_121, ↓g_222_122, ↓k_222_122, ↓s_222_123, ↓s_222_126, ↓s_222_128, ↓s_222_129, ↓s_222_130, ↓s_222_131, ↓s_222_134, ↓s_222_135, ↓s_222_138, ↓s_222_139, ↓s_222_140, ↓s_222_142, ↓s_222_143, ↓s_222_144, ↓s_222_147, ↓s_222_148, ↓s_222_151, ↓s_222_152, ↓s_222_153, ↓s_222_155, ↓s_222_156, ↓s_222_157, ↓s_222_160, ↓s_222_161, ↓s_222_162, ↓s_222_163, ↓s_222_164, ↓s_222_165, ↓s_222_166, ↓s_222_168, zar_128, zia_128, zln_128, zit_128, zar_129, zia_129, zln_129, zit_129, zar_105, zia_105, zln_105, zit_105, zio_95, zar_119, zia_119, zln_119, zit_119, zar_123, zia_123, zln_123, zit_123, zar_126, zia_126, zln_126, zit_126, zar_127, zia_127, zln_127, zit_127]
  refine ⟨fun z9 => ?_, fun z => bad53 _ _ (fun c => z (g2 c.2.2.2.2.2))⟩
  have ok : sRc D W (w32 VE) (w32 PA) (w32 V) := ⟨⟨by omega, by omega⟩, ⟨by omega, by omega⟩, ⟨by omega, by omega⟩, fun c => z7 ((ck1 _).mpr c), s4.symm.trans z8, fun j hj c => absurd (g1 ⟨j, hj, c⟩) (by omega)⟩
  have hp := uPv_of he hq pl
  refine zgo_ok (n := 60) hE xmo_222 (cs := zc_222) ?_
  simp only [ynok_30, ynok_31, w32c_0, w32c_1, w32c_2, w32c_3, w32c_4, w32c_5, w32c_6, w32c_7, w32c_8, w32c_9, w32c_10, w32c_11, w32c_12, w32c_13, w32c_14, w32c_m1, w32c_m2, w32c_118, Int.reduceAdd, Int.reduceSub, Int.reduceMul, yput_s, yput_n, znl_n, znl_0, znl_1, znl_4, ysum_n, ysum_0, ysum_1, ysum_4, true_and, and_true, Nat.reduceAdd, Nat.reduceLeDiff, true_implies, eq_self, true_or, or_true, or_false, false_or, not_true_eq_false, not_false_eq_true, false_implies, implies_true, yset_s, yset_o, yset_d, ne_eq, Nat.reduceEqDiff, Int.reduceToNat, Int.reduceEq, Int.reduceLE, Int.reduceLT, Classical.not_not, Nat.reduceLT, ↓zvk_s, ↓zvk_n, ↓s_222_0, ↓s_222_1, ↓s_222_2, ↓s_222_5, ↓s_222_6, ↓s_222_7, ↓s_222_8, ↓s_222_11, ↓s_222_14, ↓s_222_15, ↓s_222_16, ↓s_222_19, ↓s_222_22, ↓s_222_23, ↓s_222_24, ↓s_222_27, ↓s_222_30, ↓s_222_31, ↓s_222_34, ↓s_222_35, ↓s_222_36, ↓s_222_37, ↓s_222_38, ↓s_222_39, ↓s_222_40, ↓s_222_41, ↓s_222_44, ↓s_222_45, ↓s_222_46, ↓s_222_47, ↓s_222_50, ↓g_222_53, ↓k_222_53, ↓s_222_54, ↓g_222_55, ↓k_222_55, ↓s_222_56, ↓s_222_57, ↓s_222_58, ↓s_222_59, ↓s_222_60n, ↓s_222_60i, ↓s_222_60p, ↓s_222_62, ↓s_222_63, ↓s_222_65, ↓s_222_66, ↓s_222_69n, ↓s_222_69i, ↓s_222_69p, ↓s_222_71, ↓s_222_73, ↓s_222_74, ↓s_222_77, ↓s_222_78, ↓s_222_79, ↓s_222_82, ↓s_222_84, ↓s_222_85, ↓s_222_86, ↓s_222_89, ↓s_222_90, ↓s_222_91, ↓s_222_92, ↓s_222_94, ↓s_222_95, ↓s_222_96, ↓s_222_97, ↓s_222_100, ↓s_222_101, ↓s_222_102, ↓s_222_103, ↓s_222_106, ↓s_222_107, ↓s_222_110, ↓s_222_111, ↓s_222_114, ↓s_222_115, ↓s_222_116, ↓s_222_117, ↓s_222_118, ↓s_222_120, ↓s_222_121, ↓g_222_122, ↓k_222_122, ↓s_222_123, ↓s_222_126, ↓s_222_128, ↓s_222_129, ↓s_222_130, ↓s_222_131, ↓s_222_134, ↓s_222_135, ↓s_222_138, ↓s_222_139, ↓s_222_140, ↓s_222_142, ↓s_222_143, ↓s_222_144, ↓s_222_147, ↓s_222_148, ↓s_222_151, ↓s_222_152, ↓s_222_153, ↓s_222_155, ↓s_222_156, ↓s_222_157, ↓s_222_160, ↓s_222_161, ↓s_222_162, ↓s_222_163, ↓s_222_164, ↓s_222_165, ↓s_222_166, ↓s_222_168, zar_128, zia_128, zln_128, zit_128, zar_129, zia_129, zln_129, zit_129, zar_105, zia_105, zln_105, zit_105, zio_95, zar_119, zia_119, zln_119, zit_119, zar_123, zia_123, zln_123, zit_123, zar_126, zia_126, zln_126, zit_126, zar_127, zia_127, zln_127, zit_127]
  refine r_due hE (by omega) (by rw [F0 122 0 (by omega)]; exact hX) X.1 X.2.1 (by rw [F0 118 0 (by omega), w8]) hS hV h0 hk (OmA_f hA (fun i j i1 i2 => F0 i j (by omega))) hp hv (fun r2 m2 F2 hr2 => ?_)
  have hW2 : rW m2 0 W := rvN_W (by decide) F2 W0
  have fm : ∀ i j, i ≠ 130 → i ≠ 131 → ¬ (i = 95 ∧ (j = 0 ∨ j = 52)) → m2 i j = mem i j := fun i j i1 i2 i3 => by rw [F2 i j i1 i2 (by omega), F0 i j (by omega)]
  obtain ⟨b1, -, -, b4, -, -, b7, b8, b9, -, -, -⟩ := rW0 hW2
  obtain ⟨v1, v2, v3, v4, v5⟩ := rTb_v (rvN_D F2 h0) hv
  have kv : -1 ≤ vHo D (w32 V).toNat ∧ vHo D (w32 V).toNat < (D.1.length : Int) := (dOk_v hk hv).2.1
  have few := uFew hu (show 3 * (w32 VE).toNat + (w32 PA).toNat < 12 by omega) (s4.symm.trans z8)
  have r0 := hu.1.1
  refine zgk_s hE xmo_222 120 zc_222 ?_
  simp only [ynok_30, ynok_31, w32c_0, w32c_1, w32c_2, w32c_3, w32c_4, w32c_5, w32c_6, w32c_7, w32c_8, w32c_9, w32c_10, w32c_11, w32c_12, w32c_13, w32c_14, w32c_m1, w32c_m2, w32c_118, Int.reduceAdd, Int.reduceSub, Int.reduceMul, yput_s, yput_n, znl_n, znl_0, znl_1, znl_4, ysum_n, ysum_0, ysum_1, ysum_4, true_and, and_true, Nat.reduceAdd, Nat.reduceLeDiff, true_implies, eq_self, true_or, or_true, or_false, false_or, not_true_eq_false, not_false_eq_true, false_implies, implies_true, yset_s, yset_o, yset_d, ne_eq, Nat.reduceEqDiff, Int.reduceToNat, Int.reduceEq, Int.reduceLE, Int.reduceLT, Classical.not_not, Nat.reduceLT, ↓zvk_s, ↓zvk_n, ↓s_222_0, ↓s_222_1, ↓s_222_2, ↓s_222_5, ↓s_222_6, ↓s_222_7, ↓s_222_8, ↓s_222_11, ↓s_222_14, ↓s_222_15, ↓s_222_16, ↓s_222_19, ↓s_222_22, ↓s_222_23, ↓s_222_24, ↓s_222_27, ↓s_222_30, ↓s_222_31, ↓s_222_34, ↓s_222_35, ↓s_222_36, ↓s_222_37, ↓s_222_38, ↓s_222_39, ↓s_222_40, ↓s_222_41, ↓s_222_44, ↓s_222_45, ↓s_222_46, ↓s_222_47, ↓s_222_50, ↓g_222_53, ↓k_222_53, ↓s_222_54, ↓g_222_55, ↓k_222_55, ↓s_222_56, ↓s_222_57, ↓s_222_58, ↓s_222_59, ↓s_222_60n, ↓s_222_60i, ↓s_222_60p, ↓s_222_62, ↓s_222_63, ↓s_222_65, ↓s_222_66, ↓s_222_69n, ↓s_222_69i, ↓s_222_69p, ↓s_222_71, ↓s_222_73, ↓s_222_74, ↓s_222_77, ↓s_222_78, ↓s_222_79, ↓s_222_82, ↓s_222_84, ↓s_222_85, ↓s_222_86, ↓s_222_89, ↓s_222_90, ↓s_222_91, ↓s_222_92, ↓s_222_94, ↓s_222_95, ↓s_222_96, ↓s_222_97, ↓s_222_100, ↓s_222_101, ↓s_222_102, ↓s_222_103, ↓s_222_106, ↓s_222_107, ↓s_222_110, ↓s_222_111, ↓s_222_114, ↓s_222_115, ↓s_222_116, ↓s_222_117, ↓s_222_118, ↓s_222_120, ↓s_222_121, ↓g_222_122, ↓k_222_122, ↓s_222_123, ↓s_222_126, ↓s_222_128, ↓s_222_129, ↓s_222_130, ↓s_222_131, ↓s_222_134, ↓s_222_135, ↓s_222_138, ↓s_222_139, ↓s_222_140, ↓s_222_142, ↓s_222_143, ↓s_222_144, ↓s_222_147, ↓s_222_148, ↓s_222_151, ↓s_222_152, ↓s_222_153, ↓s_222_155, ↓s_222_156, ↓s_222_157, ↓s_222_160, ↓s_222_161, ↓s_222_162, ↓s_222_163, ↓s_222_164, ↓s_222_165, ↓s_222_166, ↓s_222_168, zar_128, zia_128, zln_128, zit_128, zar_129, zia_129, zln_129, zit_129, zar_105, zia_105, zln_105, zit_105, zio_95, zar_119, zia_119, zln_119, zit_119, zar_123, zia_123, zln_123, zit_123, zar_126, zia_126, zln_126, zit_126, zar_127, zia_127, zln_127, zit_127]
  have fin : ∀ M : yMem, (∀ i j : Nat, ¬ (i = 119 ∧ j = 0) → ¬ (i = 123 ∧ vHo D (w32 V).toNat ≠ -1 ∧ (j : Int) = vHo D (w32 V).toNat) → M i j = m2 i j) → w32 (M 119 0) = w32 (uM W - sDu D (uX W) (uK W) (3 * (w32 VE).toNat + (w32 PA).toNat) (w32 V).toNat) → (vHo D (w32 V).toNat ≠ -1 → w32 (M 123 (vHo D (w32 V).toNat).toNat) = w32 (uT W (vHo D (w32 V).toNat).toNat + sDu D (uX W) (uK W) (3 * (w32 VE).toNat + (w32 PA).toNat) (w32 V).toNat)) → (¬ uM W < sDu D (uX W) (uK W) (3 * (w32 VE).toNat + (w32 PA).toNat) (w32 V).toNat) → zG E (d + 8 + 1) xm_222 122 [some (1, 95), some (0, VE), some (0, PA), some (0, V), some (0, 3 * VE + PA), some (0, r2)] [] M Q := fun M fM m119 m123 nlt => by
    have e127 : M 127 0 = m2 127 0 := fM 127 0 (by omega) (by omega)
    have eT : (w32 (M 127 0)).toNat = (uR W).toNat := by rw [e127, b7]
    refine re122 hE (by omega) (by omega) (by rw [e127]; omega) (by rw [e127]; omega) ?_
    rw [w32_t hS, eT]
    refine hQ _ _ _ (fun i j i1 i2 i3 i4 => ?_) (fun i j hij => ?_) ⟨fun _ => ⟨fun c => absurd c nlt, fun _ => ⟨hr2, rfl⟩⟩, fun c => absurd ok c⟩ (rW_rd hW2 (R := (uR W).toNat) (by omega) (by omega) (fun i j i1 i2 i3 i4 i5 i6 i7 i8 => ?_) ?_ ?_ ?_ ?_ ?_ (fun n => ?_))
    · rw [ysn (by omega), ysn (by omega), ysn (by omega), ysn (by omega), fM i j (by omega) (by omega)]
      exact fm i j i1 i2 i4
    · unfold rUp at hij
      rw [ysn (by omega), ysn (by omega), ysn (by omega), ysn (by omega), fM i j (by omega) (by omega)]
      exact fm i j (by omega) (by omega) (by omega)
    · rw [ysn (by omega), ysn (by omega), ysn (by omega), ysn (by omega), fM i j (by omega) (by omega)]
    · rw [yset_o (by decide), yset_o (by decide), yset_o (by decide), yset_s]; exact hV
    · rw [yset_o (by decide), yset_o (by decide), yset_s]; exact hS
    · rw [yset_o (by decide), yset_s]; exact hr2
    · rw [yset_s, e127, w32_ad (by rw [w32c_1]; omega) (by rw [w32c_1]; omega), w32c_1]; omega
    · rw [yset_o (by decide), yset_o (by decide), yset_o (by decide), yset_o (by decide)]; exact m119
    · rw [yset_o (by decide), yset_o (by decide), yset_o (by decide), yset_o (by decide)]; exact m123 n
  have e119 : w32 (m2 119 0 - r2) = w32 (uM W - sDu D (uX W) (uK W) (3 * (w32 VE).toNat + (w32 PA).toNat) (w32 V).toNat) := by rw [w32_sub, b9, hr2]
  rw [v4]
  refine ⟨by decide, fun y => ⟨by decide, by decide, ⟨by omega, by omega⟩, fun z => fin _ (fun i j i1 _ => ysn i1) (by rw [yset_s]; exact e119) (fun n => absurd z n) (by omega), fun z => ⟨⟨by omega, by omega⟩, ⟨by omega, by omega⟩, ⟨by omega, by omega⟩, fin _ (fun i j i1 i2 => by rw [ysn (by omega), ysn i1]) (by rw [yset_o (by decide), yset_s]; exact e119) (fun _ => ?_) (by omega)⟩⟩, fun y => hQ _ m2 W (fun i j i1 i2 i3 i4 => fm i j i1 i2 i4) (fun i j hij => fm i j (by unfold rUp at hij; omega) (by unfold rUp at hij; omega) (by unfold rUp at hij; omega)) ⟨fun _ => ⟨fun _ => ⟨w32c_m2, rfl⟩, fun c => absurd (show uM W < sDu D (uX W) (uK W) (3 * (w32 VE).toNat + (w32 PA).toNat) (w32 V).toNat by omega) c⟩, fun c => absurd ok c⟩ hW2⟩
  rw [yset_s, w32_add, b1 _ (by omega), hr2]
end RR
end
section
/-! LX FROM SPECS: a call that changes the world now -/
/-- what a call of the class leaves -/
def CUQ (mem m : yMem) : Prop := aGok m ∧ Om m ∧ ∀ i j, tpP i j → ¬ (57 ≤ i ∧ i ≤ 63) → m i j = mem i j
def tpz (lo hi : Nat) (w : List (Nat × Nat)) : Bool := w.all (fun q => (Nat.ble lo q.1 && Nat.ble q.1 hi) || tpq q)
theorem tpz_ok {lo hi : Nat} {w : List (Nat × Nat)} (h : tpz lo hi w = true) {i j : Nat} (hp : tpP i j) (ho : ¬ (lo ≤ i ∧ i ≤ hi)) : amod w i j = false := by
  cases hm : amod w i j with
  | false => rfl
  | true =>
    obtain ⟨q, q1, q2, q3⟩ := amod_ex hm
    have h2 : ((Nat.ble lo q.1 && Nat.ble q.1 hi) || tpq q) = true := List.all_eq_true.mp h q q1
    simp only [Bool.or_eq_true, Bool.and_eq_true, Nat.ble_eq] at h2
    rcases h2 with h2 | h2
    · exact absurd (by omega) ho
    · have e := tp3_ok (w := [q]) (show (tpq q && true) = true by rw [h2]; rfl) hp
      unfold amod at e
      rcases q3 with q3 | q3 <;> simp [q2, q3] at e
def lokN : List aArg → Nat → Bool
  | [], 0 => true
  | a :: r, n + 1 => Nat.beq a.1 3 && (decide (a.2.2.1 = -2147483648) && (decide (a.2.2.2 = 2147483647) && lokN r n))
  | _, _ => false
def lokA (l : List aArg) (z n : Nat) : Bool := match l with
  | a :: r => Nat.beq a.1 1 && (Nat.beq a.2.1 z && lokN r n)
  | [] => false
theorem lokN_ok {X : Nat → Int} : ∀ (l : List aArg) (n k : Nat), lokN l n = true → aArgsOk l (lav X n k)
  | [], 0, _, _ => trivial
  | a :: r, n + 1, k, h => by
    simp only [lokN, Bool.and_eq_true, decide_eq_true_eq, Nat.beq_eq] at h
    obtain ⟨h1, h2, h3, h4⟩ := h
    refine ⟨?_, lokN_ok r n (k + 1) h4⟩
    unfold aArgOk
    rw [h1]
    refine ⟨rfl, ?_, ?_⟩
    · rw [h2]; exact w32_lo _
    · rw [h3]
      have := w32_hi (X k)
      dsimp only
      omega
  | [], n + 1, _, h => by cases h
  | a :: r, 0, _, h => by cases h
def lq (c : aCon) (mi z n : Nat) : Bool := Nat.beq (acM c) mi && (Nat.ble (acD c) 1000 && (decide (acP c = []) && (lokA (acA c) z n && (Nat.beq (acR c).1 0 || Nat.beq (acR c).1 3))))
theorem as_q {c : aCon} (hc : aSnd Om c) {E : yE} (hE : yEok E) {mi z n : Nat} (hk : lq c mi z n = true) {M' : xM} (hM : xmt[mi]? = some M') {X : Nat → Int} {mem : yMem} (hG : aGok mem) (hO : Om mem) : yCon E 1000 M' ((1, (z : Int)) :: lav X n 1) mem (fun r m => (∃ x, r = some (0, x)) ∧ aGok m ∧ Om m ∧ aFrm (acW c) mem m) := by
  simp only [lq, Bool.and_eq_true, Nat.beq_eq, decide_eq_true_eq, Bool.or_eq_true] at hk
  obtain ⟨k1, k2, k3, k4, k5⟩ := hk
  have hargs : aArgsOk (acA c) ((1, (z : Int)) :: lav X n 1) := by
    cases hA : acA c with
    | nil => rw [hA] at k4; cases k4
    | cons a r =>
      rw [hA] at k4
      simp only [lokA, Bool.and_eq_true, Nat.beq_eq] at k4
      refine ⟨?_, lokN_ok r n 1 k4.2.2⟩
      unfold aArgOk
      rw [k4.1, k4.2.1]
      exact (rfl : ((1, (z : Int)) : yV) = (1, (z : Int)))
  refine hc E hE 1000 (Nat.le_of_ble_eq_true k2) M' (by rw [k1]; exact hM) _ mem _ hargs hG hO (by rw [k3]; exact fun q hq => by cases hq) (fun r m he => ?_)
  refine ⟨?_, he.2.1, he.2.2.1, he.2.2.2.1⟩
  have hr := he.1
  cases r with
  | none =>
    have hr : (acR c).1 = 99 := hr
    omega
  | some y =>
    obtain ⟨ty, x⟩ := y
    have hr : aArgOk (acR c) (ty, x) := hr
    have ht : ty = 0 := by
      unfold aArgOk at hr
      rcases k5 with h | h <;> rw [h] at hr <;> exact hr.1
    subst ht
    exact ⟨x, rfl⟩
/-- the class's contract, as lx_up asks for it -/
def lqc (c : aCon) (mi n : Nat) : Bool := lq c mi 0 n && tpz 57 63 (acW c)
theorem as_cq {c : aCon} (hc : aSnd Om c) {E : yE} (hE : yEok E) {mi n : Nat} (hk : lqc c mi n = true) {M' : xM} (hM : xmt[mi]? = some M') (X : Nat → Int) (mem : yMem) (hG : aGok mem) (hO : Om mem) : yCon E 1000 M' ((1, ((0 : Nat) : Int)) :: lav X n 1) mem (fun r m => (∃ x, r = some (0, x)) ∧ CUQ mem m) := by
  simp only [lqc, Bool.and_eq_true] at hk
  refine yCon_mono (as_q hc hE hk.1 hM hG hO) (fun r m h => ?_)
  obtain ⟨h1, h2, h3, h4⟩ := h
  exact ⟨h1, h2, h3, fun i j hp ho => h4 i j (tpz_ok hk.2 hp ho)⟩
/-- the reference's -/
def lqr (c : aCon) (mi n : Nat) : Bool := lq c mi 95 n && (acW c).all (fun q => Nat.ble 95 q.1 && (!(Nat.ble 96 q.1 && Nat.ble q.1 117) && (!(Nat.beq q.1 95) || !(zis [0, 3, 34, 35] q.2))))
theorem as_rq {c : aCon} (hc : aSnd Om c) {E : yE} (hE : yEok E) {mi n : Nat} (hk : lqr c mi n = true) {M' : xM} (hM : xmt[mi]? = some M') (X : Nat → Int) (mem : yMem) (hG : aGok mem) (hO : Om mem) : yCon E 1000 M' ((1, ((95 : Nat) : Int)) :: lav X n 1) mem (fun r m => (∃ x, r = some (0, x)) ∧ RQ mem m) := by
  simp only [lqr, Bool.and_eq_true] at hk
  refine yCon_mono (as_q hc hE hk.1 hM hG hO) (fun r m h => ?_)
  obtain ⟨h1, h2, h3, h4⟩ := h
  have key : ∀ i j, (i < 95 ∨ (96 ≤ i ∧ i ≤ 117)) ∨ (i = 95 ∧ (j = 2 ∨ j = 33 ∨ j = 34)) → amod (acW c) i j = false := fun i j hij => by
    cases hm : amod (acW c) i j with
    | false => rfl
    | true =>
      obtain ⟨q, q1, q2, q3⟩ := amod_ex hm
      have h2 := List.all_eq_true.mp hk.2 q q1
      rw [q2] at h2
      simp only [Bool.and_eq_true] at h2
      obtain ⟨g1, g2, g3⟩ := h2
      have g1 := Nat.le_of_ble_eq_true g1
      rcases hij with (a | ⟨a, b⟩) | ⟨rfl, a⟩
      · omega
      · rw [Nat.ble_eq_true_of_le a, Nat.ble_eq_true_of_le b] at g2
        cases g2
      · have g3 : (!(zis [0, 3, 34, 35] q.2)) = true := g3
        rcases q3 with e | e <;> rcases a with rfl | rfl | rfl <;> rw [e] at g3 <;> cases g3
  exact ⟨h1, h2, h3, fun i j hij => h4 i j (key i j (Or.inl hij)), fun j hj => h4 95 j (key 95 j (Or.inr ⟨rfl, hj⟩))⟩
/-- the tables' lengths -/
def dLn (D : dDc) : Prop := D.1.length ≤ 3 ∧ D.2.1.length ≤ 6 ∧ D.2.2.1.length ≤ 4 ∧ D.2.2.2.1.length ≤ 3 ∧ (∀ e, e < D.2.2.1.length → sPs D e ≤ 3) ∧ (∀ p, uPv D p → (sBr D p).length ≤ 8) ∧ ∀ v, v < D.2.1.length → vBo D v = 0 ∨ vBo D v = 1
/-- a call whose answer and whose world behind are those of one table S -/
theorem lx_up {E : yE} {n : Nat} {M1 M2 : xM} {S : dDc → dU → (Nat → Int) → Int → dU → Prop}
    (C0 : ∀ X mem, aGok mem → Om mem → yCon E 1000 M1 ((1, ((0 : Nat) : Int)) :: lav X n 1) mem (fun r m => (∃ x, r = some (0, x)) ∧ CUQ mem m))
    (R0 : ∀ X mem, aGok mem → Om mem → yCon E 1000 M2 ((1, ((95 : Nat) : Int)) :: lav X n 1) mem (fun r m => (∃ x, r = some (0, x)) ∧ RQ mem m))
    (C : ∀ D W k X mem, cW mem 57 W → cDh mem D → dOk D → uOk D k W → k ≤ 3100 → aGok mem → yCon E 1000 M1 ((1, ((0 : Nat) : Int)) :: lav X n 1) mem (fun r m => ∃ x W', r = some (0, x) ∧ S D W X (w32 x) W' ∧ cW m 57 W'))
    (R : ∀ D W k X mem, rW mem 0 W → rDl mem D → dOk D → uOk D k W → k ≤ 3100 → aGok mem → OmA mem → dLn D → yCon E 1000 M2 ((1, ((95 : Nat) : Int)) :: lav X n 1) mem (fun r m => ∃ x W', r = some (0, x) ∧ S D W X (w32 x) W' ∧ rW m 0 W' ∧ (∀ V, rW mem 1 V → rW m 1 V) ∧ m 95 49 = mem 95 49 ∧ m 95 61 = mem 95 61))
    (u : ∀ D W X r r2 W' W2, S D W X r W' → S D W X r2 W2 → r = r2 ∧ W' = W2)
    (ok : ∀ D W k X r W', dOk D → dLn D → uOk D k W → k ≤ 3100 → S D W X r W' → uOk D (k + 6) W') : LX E n M1 M2 0 := fun X k mem hk hI => by
  obtain ⟨hG, hO, hT, hB, hW, ⟨hf1, hf2⟩, D, W, V, ⟨d1, d2, d3⟩, ⟨w1, w2, w3⟩, ⟨v1, v2, v3⟩, hkp, hhm⟩ := hI
  refine yCon_mono (yCon_and (C0 X mem hG hO) (C D W k X mem w1 d1 d3 w3 hk hG)) (fun r1 m1 hm1 => ?_)
  obtain ⟨⟨⟨y1, rfl⟩, G1, O1, F1⟩, r1', n1, ⟨y1', W1, rfl, S1, U1⟩, al1, er1⟩ := hm1
  have ey1 : w32 y1 = w32 y1' := ydv_0 er1
  refine ⟨y1, rfl, ?_⟩
  have fr1 : ∀ i j, 96 ≤ i → i ≤ 129 → m1 i j = mem i j := fun i j i1 i2 => F1 i j (by unfold tpP; omega) (by omega)
  have w2' : rW m1 0 W := rW_f (by decide) w2 (fun i j i1 i2 => fr1 i j (by omega) i2)
  have v2' : rW m1 1 V := rW_f (by decide) v2 (fun i j i1 i2 => fr1 i j (by omega) i2)
  have d2' : rDl m1 D := rDl_w d2 (fun i j n _ i1 i2 _ => by rw [fr1 i j (by omega) (by omega)])
  have hl : dLn D := ⟨(cTb_n d1).1.2, (cTb_n d1).2.1.2, (cTb_n d1).2.2.1.2, (cTb_n d1).2.2.2.2, fun e he => (cTb_e d1 he).2, fun p hp => (cTb_p d1 hp).1.2, fun v hv => by
    obtain ⟨K, -, -, -, k4⟩ := cTb_b d1 hv
    exact k4⟩
  refine yCon_mono (yCon_and (R0 X m1 G1 O1) (R D W k X m1 w2' d2' d3 w3 hk G1 O1.1 hl)) (fun r m2 hm2 => ?_)
  obtain ⟨⟨⟨y2, rfl⟩, G2, O2, F2, F2'⟩, r2', n2, ⟨y2', W2, rfl, S2, U2, UV, e49, e61⟩, al2, er2⟩ := hm2
  have ey2 : w32 y2 = w32 y2' := ydv_0 er2
  obtain ⟨u1, u2⟩ := u D W X _ _ _ _ S1 S2
  subst u2
  have cu : ∀ i j, tpP i j → i < 95 → ¬ (57 ≤ i ∧ i ≤ 63) → m2 i j = mem i j := fun i j hp hi ho => by rw [F2 i j (Or.inl hi), F1 i j hp ho]
  have h71 : w32 (m2 71 1) = w32 (m2 95 61) := by rw [cu 71 1 (by unfold tpP; omega) (by decide) (by decide), al2 95 61 rfl, e61, F1 95 61 (by unfold tpP; omega) (by decide)]; exact hhm
  have e14 : m2 0 14 = mem 0 14 := cu 0 14 (by unfold tpP; omega) (by decide) (by decide)
  have h49 : w32 (m2 0 14) = w32 (m2 95 49) := by rw [e14, al2 95 49 rfl, e49, F1 95 49 (by unfold tpP; omega) (by decide)]; exact hkp
  have c64 : cW m2 64 V := cW_f v1 (fun i j i1 i2 => cu i j (by unfold tpP; omega) (by omega) (by omega)) (fun j j1 j2 j3 => cu 64 j (by unfold tpP; omega) (by decide) (by decide))
  have c57 : cW m2 57 W1 := cW_f (cW_al U1 al1) (fun i j i1 i2 => F2 i j (Or.inl (by omega))) (fun j j1 j2 j3 => F2 57 j (Or.inl (by decide)))
  have ok2 : uOk D (k + 6) W1 := ok D W k X _ W1 d3 hl w3 hk S1
  have hD1 : cDh m2 D := cDh_w d1 (fun c j ht => by
    have := tkS_c ht
    rw [cu c j (by unfold tpP; omega) (by omega) (by omega)])
  have hD2 : rDl m2 D := rDl_w d2' (fun i j n _ i1 i2 _ => by rw [F2 i j (Or.inr ⟨by omega, by omega⟩)])
  refine ⟨y2, rfl, lx_e0 (by rw [ey1, ey2, u1]) ⟨G2, O2, ?_, fun j => ?_, fun i hi => ?_, ⟨?_, ?_⟩, D, W1, V, ⟨hD1, hD2, d3⟩, ⟨c57, rW_al (by decide) U2 al2, ok2⟩, ⟨c64, rW_al (by decide) (UV V v2') al2, fun z => uOk_le (v3 (by rw [← e14]; exact z)) (Nat.le_add_right k 6)⟩, h49, h71⟩⟩
  · rw [cu 0 11 (by unfold tpP; omega) (by decide) (by decide), F2' 2 (Or.inl rfl), F1 95 2 (by unfold tpP; omega) (by decide)]
    exact hT
  · rw [cu 1 j (Or.inl rfl) (by decide) (by decide), F2 96 j (Or.inr (by decide)), fr1 96 j (by decide) (by decide)]
    exact hB j
  · rw [cu 56 i (Or.inr (Or.inl rfl)) (by decide) (by decide)]
    exact hW i hi
  · rw [cu 0 12 (by unfold tpP; omega) (by decide) (by decide), F2' 33 (Or.inr (Or.inl rfl)), F1 95 33 (by unfold tpP; omega) (by decide)]
    exact hf1
  · rw [cu 0 13 (by unfold tpP; omega) (by decide) (by decide), F2' 34 (Or.inr (Or.inr rfl)), F1 95 34 (by unfold tpP; omega) (by decide)]
    exact hf2
theorem lx_redeem {E : yE} (hE : yEok E) (hm : yman Om) : LX E 3 xm_27 xm_222 0 := lx_up (S := fun D W X r W' => sRed D W (w32 (X 1)) (w32 (X 2)) (w32 (X 3)) r W') (as_cq (mi := 27) (as_66 yoc_Om hm) hE (by decide +kernel) rfl)
  (fun X mem hG hO => c_redeem hE hm (by decide) hG hO (fun r m h => ⟨⟨r, rfl⟩, h⟩))
  (fun D W k X mem hW h hd hu _ _ => x_redeem hE (by decide) hW h hd hu (fun r m W' _ s w => ⟨r, W', rfl, s, w⟩))
  (fun D W k X mem hW h hd hu _ _ hA _ => r_redeem hE (by decide) hW h hd hA hu (fun r m W' f fu s w => ⟨r, W', rfl, s, w, fun V hV => rW1_f hV fu, f 95 49 (by decide) (by decide) (by decide) (by decide), f 95 61 (by decide) (by decide) (by decide) (by decide)⟩))
  (fun D W X r r2 W' W2 => sRed_u) (fun D W k X r W' hd hl hu hk s => sRed_ok (Nat.le_refl _) (by omega) hd hl.2.2.2.2.1 hl.2.2.1 hu s)
end
section
theorem s_43_0 {E : yE} {n d : Nat} {mem : yMem} {Post : Option yV → yMem → Prop} {st : List yV} {r1 r2 : Option yV} {x : Int} : zvc E (n + 1) [] d xm_43 0 [some (1, x), r1, r2] (st) mem Post = (zvc E n [] d xm_43 1 [some (1, x), r1, r2] ((1, x) :: st) mem Post) := zrf rfl
theorem s_43_1 {E : yE} {n d : Nat} {mem : yMem} {Post : Option yV → yMem → Prop} {st : List yV} {r0 r1 r2 : Option yV} : zvc E (n + 1) [] d xm_43 1 [r0, r1, r2] ((1, 0) :: st) mem Post = (zvc E n [] d xm_43 4 [r0, r1, r2] ((1, 57) :: st) mem Post) := zrf rfl
theorem s_43_4_57 {E : yE} {n d : Nat} {mem : yMem} {Post : Option yV → yMem → Prop} {st : List yV} {r0 r1 r2 : Option yV} : zvc E (n + 1) [] d xm_43 4 [r0, r1, r2] ((1, 57) :: st) mem Post = (zvc E n [] d xm_43 7 [r0, r1, r2] ((0, mem 57 6) :: st) mem Post) := zrf rfl
theorem s_43_4_64 {E : yE} {n d : Nat} {mem : yMem} {Post : Option yV → yMem → Prop} {st : List yV} {r0 r1 r2 : Option yV} : zvc E (n + 1) [] d xm_43 4 [r0, r1, r2] ((1, 64) :: st) mem Post = (zvc E n [] d xm_43 7 [r0, r1, r2] ((0, mem 64 6) :: st) mem Post) := zrf rfl
theorem s_43_7 {E : yE} {n d : Nat} {mem : yMem} {Post : Option yV → yMem → Prop} {st : List yV} {r0 r1 r2 : Option yV} {x : Int} : zvc E (n + 1) [] d xm_43 7 [r0, r1, r2] ((0, x) :: st) mem Post = ((¬ w32 x = w32 0 → zvc E n [] d xm_43 12 [r0, r1, r2] (st) mem Post) ∧ (¬ (¬ w32 x = w32 0) → zvc E n [] d xm_43 10 [r0, r1, r2] (st) mem Post)) := zrf rfl
theorem s_43_10 {E : yE} {n d : Nat} {mem : yMem} {Post : Option yV → yMem → Prop} {st : List yV} {r0 r1 r2 : Option yV} : zvc E (n + 1) [] d xm_43 10 [r0, r1, r2] (st) mem Post = (zvc E n [] d xm_43 11 [r0, r1, r2] ((0, (-1)) :: st) mem Post) := zrf rfl
theorem s_43_11 {E : yE} {n d : Nat} {mem : yMem} {Post : Option yV → yMem → Prop} {r0 r1 r2 : Option yV} {x : Int} : zvc E (n + 1) [] d xm_43 11 [r0, r1, r2] ([(0, x)]) mem Post = (Post (some (0, x)) mem) := zrf rfl
theorem s_43_12 {E : yE} {n d : Nat} {mem : yMem} {Post : Option yV → yMem → Prop} {st : List yV} {r1 r2 : Option yV} {x : Int} : zvc E (n + 1) [] d xm_43 12 [some (1, x), r1, r2] (st) mem Post = (zvc E n [] d xm_43 13 [some (1, x), r1, r2] ((1, x) :: st) mem Post) := zrf rfl
theorem s_43_13 {E : yE} {n d : Nat} {mem : yMem} {Post : Option yV → yMem → Prop} {st : List yV} {r0 r1 r2 : Option yV} : zvc E (n + 1) [] d xm_43 13 [r0, r1, r2] ((1, 0) :: st) mem Post = (zvc E n [] d xm_43 16 [r0, r1, r2] ((1, 57) :: st) mem Post) := zrf rfl
theorem s_43_16_57 {E : yE} {n d : Nat} {mem : yMem} {Post : Option yV → yMem → Prop} {st : List yV} {r0 r1 r2 : Option yV} : zvc E (n + 1) [] d xm_43 16 [r0, r1, r2] ((1, 57) :: st) mem Post = (zvc E n [] d xm_43 19 [r0, r1, r2] ((1, 61) :: st) mem Post) := zrf rfl
theorem s_43_16_64 {E : yE} {n d : Nat} {mem : yMem} {Post : Option yV → yMem → Prop} {st : List yV} {r0 r1 r2 : Option yV} : zvc E (n + 1) [] d xm_43 16 [r0, r1, r2] ((1, 64) :: st) mem Post = (zvc E n [] d xm_43 19 [r0, r1, r2] ((1, 68) :: st) mem Post) := zrf rfl
theorem s_43_19 {E : yE} {n d : Nat} {mem : yMem} {Post : Option yV → yMem → Prop} {st : List yV} {r1 r2 : Option yV} {x : Int} : zvc E (n + 1) [] d xm_43 19 [some (1, x), r1, r2] (st) mem Post = (zvc E n [] d xm_43 20 [some (1, x), r1, r2] ((1, x) :: st) mem Post) := zrf rfl
theorem s_43_20 {E : yE} {n d : Nat} {mem : yMem} {Post : Option yV → yMem → Prop} {st : List yV} {r0 r1 r2 : Option yV} : zvc E (n + 1) [] d xm_43 20 [r0, r1, r2] ((1, 0) :: st) mem Post = (zvc E n [] d xm_43 23 [r0, r1, r2] ((1, 57) :: st) mem Post) := zrf rfl
theorem s_43_23_57 {E : yE} {n d : Nat} {mem : yMem} {Post : Option yV → yMem → Prop} {st : List yV} {r0 r1 r2 : Option yV} : zvc E (n + 1) [] d xm_43 23 [r0, r1, r2] ((1, 57) :: st) mem Post = (zvc E n [] d xm_43 26 [r0, r1, r2] ((1, 62) :: st) mem Post) := zrf rfl
theorem s_43_23_64 {E : yE} {n d : Nat} {mem : yMem} {Post : Option yV → yMem → Prop} {st : List yV} {r0 r1 r2 : Option yV} : zvc E (n + 1) [] d xm_43 23 [r0, r1, r2] ((1, 64) :: st) mem Post = (zvc E n [] d xm_43 26 [r0, r1, r2] ((1, 69) :: st) mem Post) := zrf rfl
theorem s_43_26 {E : yE} {n d : Nat} {mem : yMem} {Post : Option yV → yMem → Prop} {st : List yV} {r1 r2 : Option yV} {x : Int} : zvc E (n + 1) [] d xm_43 26 [some (1, x), r1, r2] (st) mem Post = (zvc E n [] d xm_43 27 [some (1, x), r1, r2] ((1, x) :: st) mem Post) := zrf rfl
theorem s_43_27 {E : yE} {n d : Nat} {mem : yMem} {Post : Option yV → yMem → Prop} {st : List yV} {r0 r1 r2 : Option yV} : zvc E (n + 1) [] d xm_43 27 [r0, r1, r2] ((1, 0) :: st) mem Post = (zvc E n [] d xm_43 30 [r0, r1, r2] ((1, 57) :: st) mem Post) := zrf rfl
theorem s_43_30_57 {E : yE} {n d : Nat} {mem : yMem} {Post : Option yV → yMem → Prop} {st : List yV} {r0 r1 r2 : Option yV} : zvc E (n + 1) [] d xm_43 30 [r0, r1, r2] ((1, 57) :: st) mem Post = (zvc E n [] d xm_43 33 [r0, r1, r2] ((0, mem 57 6) :: st) mem Post) := zrf rfl
theorem s_43_30_64 {E : yE} {n d : Nat} {mem : yMem} {Post : Option yV → yMem → Prop} {st : List yV} {r0 r1 r2 : Option yV} : zvc E (n + 1) [] d xm_43 30 [r0, r1, r2] ((1, 64) :: st) mem Post = (zvc E n [] d xm_43 33 [r0, r1, r2] ((0, mem 64 6) :: st) mem Post) := zrf rfl
theorem s_43_33 {E : yE} {n d : Nat} {mem : yMem} {Post : Option yV → yMem → Prop} {st : List yV} {r0 r1 r2 : Option yV} : zvc E (n + 1) [] d xm_43 33 [r0, r1, r2] (st) mem Post = (zvc E n [] d xm_43 34 [r0, r1, r2] ((0, 1) :: st) mem Post) := zrf rfl
theorem s_43_34 {E : yE} {n d : Nat} {mem : yMem} {Post : Option yV → yMem → Prop} {st : List yV} {r0 r1 r2 : Option yV} {x y : Int} : zvc E (n + 1) [] d xm_43 34 [r0, r1, r2] ((0, y) :: (0, x) :: st) mem Post = (zvc E n [] d xm_43 35 [r0, r1, r2] ((0, x - y) :: st) mem Post) := zrf rfl
theorem s_43_35 {E : yE} {n d : Nat} {mem : yMem} {Post : Option yV → yMem → Prop} {st : List yV} {r0 r1 r2 : Option yV} {z j : Int} : zvc E (n + 1) [] d xm_43 35 [r0, r1, r2] ((0, j) :: (1, z) :: st) mem Post = ((0 ≤ w32 j ∧ w32 j < ((zar z 0 : Nat) : Int)) ∧ zvc E n [] d xm_43 36 [r0, r1, r2] ((0, mem z.toNat (w32 j).toNat) :: st) mem Post) := zrf rfl
theorem s_43_36 {E : yE} {n d : Nat} {mem : yMem} {Post : Option yV → yMem → Prop} {st : List yV} {r0 r1 r2 : Option yV} {z j : Int} : zvc E (n + 1) [] d xm_43 36 [r0, r1, r2] ((0, j) :: (1, z) :: st) mem Post = ((0 ≤ w32 j ∧ w32 j < ((zar z 0 : Nat) : Int)) ∧ zvc E n [] d xm_43 37 [r0, r1, r2] ((0, mem z.toNat (w32 j).toNat) :: st) mem Post) := zrf rfl
theorem s_43_37n {E : yE} {n d : Nat} {mem : yMem} {Post : Option yV → yMem → Prop} {st : List yV} {r1 r2 : Option yV} {x : Int} : zvc E (n + 1) [] d xm_43 37 [none, r1, r2] ((0, x) :: st) mem Post = (zvc E n [] d xm_43 38 [none, some (0, x), r2] (st) mem Post) := zrf rfl
theorem s_43_37i {E : yE} {n d : Nat} {mem : yMem} {Post : Option yV → yMem → Prop} {st : List yV} {r1 r2 : Option yV} {x w : Int} : zvc E (n + 1) [] d xm_43 37 [some (0, w), r1, r2] ((0, x) :: st) mem Post = (zvc E n [] d xm_43 38 [some (0, w), some (0, x), r2] (st) mem Post) := zrf rfl
theorem s_43_37p {E : yE} {n d : Nat} {mem : yMem} {Post : Option yV → yMem → Prop} {st : List yV} {r1 r2 : Option yV} {x w : Int} : zvc E (n + 1) [] d xm_43 37 [some (1, w), r1, r2] ((0, x) :: st) mem Post = (zvc E n [] d xm_43 38 [some (1, w), some (0, x), r2] (st) mem Post) := zrf rfl
theorem s_43_38 {E : yE} {n d : Nat} {mem : yMem} {Post : Option yV → yMem → Prop} {st : List yV} {r0 r2 : Option yV} {x : Int} : zvc E (n + 1) [] d xm_43 38 [r0, some (0, x), r2] (st) mem Post = (zvc E n [] d xm_43 39 [r0, some (0, x), r2] ((0, x) :: st) mem Post) := zrf rfl
theorem s_43_39 {E : yE} {n d : Nat} {mem : yMem} {Post : Option yV → yMem → Prop} {st : List yV} {r0 r1 r2 : Option yV} : zvc E (n + 1) [] d xm_43 39 [r0, r1, r2] (st) mem Post = (zvc E n [] d xm_43 40 [r0, r1, r2] ((0, (-1)) :: st) mem Post) := zrf rfl
theorem s_43_40 {E : yE} {n d : Nat} {mem : yMem} {Post : Option yV → yMem → Prop} {st : List yV} {r0 r1 r2 : Option yV} {x y : Int} : zvc E (n + 1) [] d xm_43 40 [r0, r1, r2] ((0, y) :: (0, x) :: st) mem Post = ((¬ w32 x = w32 y → zvc E n [] d xm_43 47 [r0, r1, r2] (st) mem Post) ∧ (¬ (¬ w32 x = w32 y) → zvc E n [] d xm_43 43 [r0, r1, r2] (st) mem Post)) := zrf rfl
theorem s_43_43 {E : yE} {n d : Nat} {mem : yMem} {Post : Option yV → yMem → Prop} {st : List yV} {r0 r1 r2 : Option yV} : zvc E (n + 1) [] d xm_43 43 [r0, r1, r2] (st) mem Post = (zvc E n [] d xm_43 44 [r0, r1, r2] ((0, (-1)) :: st) mem Post) := zrf rfl
theorem s_43_44 {E : yE} {n d : Nat} {mem : yMem} {Post : Option yV → yMem → Prop} {st : List yV} {r0 r1 r2 : Option yV} : zvc E (n + 1) [] d xm_43 44 [r0, r1, r2] (st) mem Post = (zvc E n [] d xm_43 56 [r0, r1, r2] (st) mem Post) := zrf rfl
theorem s_43_47 {E : yE} {n d : Nat} {mem : yMem} {Post : Option yV → yMem → Prop} {st : List yV} {r1 r2 : Option yV} {x : Int} : zvc E (n + 1) [] d xm_43 47 [some (1, x), r1, r2] (st) mem Post = (zvc E n [] d xm_43 48 [some (1, x), r1, r2] ((1, x) :: st) mem Post) := zrf rfl
theorem s_43_48 {E : yE} {n d : Nat} {mem : yMem} {Post : Option yV → yMem → Prop} {st : List yV} {r0 r1 r2 : Option yV} : zvc E (n + 1) [] d xm_43 48 [r0, r1, r2] ((1, 0) :: st) mem Post = (zvc E n [] d xm_43 51 [r0, r1, r2] ((1, 2) :: st) mem Post) := zrf rfl
theorem s_43_51_2 {E : yE} {n d : Nat} {mem : yMem} {Post : Option yV → yMem → Prop} {st : List yV} {r0 r1 r2 : Option yV} : zvc E (n + 1) [] d xm_43 51 [r0, r1, r2] ((1, 2) :: st) mem Post = (zvc E n [] d xm_43 54 [r0, r1, r2] ((1, 15) :: st) mem Post) := zrf rfl
theorem s_43_51_28 {E : yE} {n d : Nat} {mem : yMem} {Post : Option yV → yMem → Prop} {st : List yV} {r0 r1 r2 : Option yV} : zvc E (n + 1) [] d xm_43 51 [r0, r1, r2] ((1, 28) :: st) mem Post = (zvc E n [] d xm_43 54 [r0, r1, r2] ((1, 41) :: st) mem Post) := zrf rfl
theorem s_43_54 {E : yE} {n d : Nat} {mem : yMem} {Post : Option yV → yMem → Prop} {st : List yV} {r0 r2 : Option yV} {x : Int} : zvc E (n + 1) [] d xm_43 54 [r0, some (0, x), r2] (st) mem Post = (zvc E n [] d xm_43 55 [r0, some (0, x), r2] ((0, x) :: st) mem Post) := zrf rfl
theorem s_43_55 {E : yE} {n d : Nat} {mem : yMem} {Post : Option yV → yMem → Prop} {st : List yV} {r0 r1 r2 : Option yV} {z j : Int} : zvc E (n + 1) [] d xm_43 55 [r0, r1, r2] ((0, j) :: (1, z) :: st) mem Post = ((0 ≤ w32 j ∧ w32 j < ((zar z 0 : Nat) : Int)) ∧ zvc E n [] d xm_43 56 [r0, r1, r2] ((0, mem z.toNat (w32 j).toNat) :: st) mem Post) := zrf rfl
theorem s_43_56n {E : yE} {n d : Nat} {mem : yMem} {Post : Option yV → yMem → Prop} {st : List yV} {r0 r2 : Option yV} {x : Int} : zvc E (n + 1) [] d xm_43 56 [r0, none, r2] ((0, x) :: st) mem Post = (zvc E n [] d xm_43 57 [r0, none, some (0, x)] (st) mem Post) := zrf rfl
theorem s_43_56i {E : yE} {n d : Nat} {mem : yMem} {Post : Option yV → yMem → Prop} {st : List yV} {r0 r2 : Option yV} {x w : Int} : zvc E (n + 1) [] d xm_43 56 [r0, some (0, w), r2] ((0, x) :: st) mem Post = (zvc E n [] d xm_43 57 [r0, some (0, w), some (0, x)] (st) mem Post) := zrf rfl
theorem s_43_56p {E : yE} {n d : Nat} {mem : yMem} {Post : Option yV → yMem → Prop} {st : List yV} {r0 r2 : Option yV} {x w : Int} : zvc E (n + 1) [] d xm_43 56 [r0, some (1, w), r2] ((0, x) :: st) mem Post = (zvc E n [] d xm_43 57 [r0, some (1, w), some (0, x)] (st) mem Post) := zrf rfl
theorem s_43_57 {E : yE} {n d : Nat} {mem : yMem} {Post : Option yV → yMem → Prop} {st : List yV} {r0 r1 : Option yV} {x : Int} : zvc E (n + 1) [] d xm_43 57 [r0, r1, some (0, x)] (st) mem Post = (zvc E n [] d xm_43 58 [r0, r1, some (0, x)] ((0, x) :: st) mem Post) := zrf rfl
theorem s_43_58 {E : yE} {n d : Nat} {mem : yMem} {Post : Option yV → yMem → Prop} {st : List yV} {r0 r1 r2 : Option yV} : zvc E (n + 1) [] d xm_43 58 [r0, r1, r2] (st) mem Post = (zvc E n [] d xm_43 59 [r0, r1, r2] ((0, (-1)) :: st) mem Post) := zrf rfl
theorem s_43_59 {E : yE} {n d : Nat} {mem : yMem} {Post : Option yV → yMem → Prop} {st : List yV} {r0 r1 r2 : Option yV} {x y : Int} : zvc E (n + 1) [] d xm_43 59 [r0, r1, r2] ((0, y) :: (0, x) :: st) mem Post = ((w32 x = w32 y → zvc E n [] d xm_43 94 [r0, r1, r2] (st) mem Post) ∧ (¬ (w32 x = w32 y) → zvc E n [] d xm_43 62 [r0, r1, r2] (st) mem Post)) := zrf rfl
theorem s_43_62 {E : yE} {n d : Nat} {mem : yMem} {Post : Option yV → yMem → Prop} {st : List yV} {r1 r2 : Option yV} {x : Int} : zvc E (n + 1) [] d xm_43 62 [some (1, x), r1, r2] (st) mem Post = (zvc E n [] d xm_43 63 [some (1, x), r1, r2] ((1, x) :: st) mem Post) := zrf rfl
theorem s_43_63 {E : yE} {n d : Nat} {mem : yMem} {Post : Option yV → yMem → Prop} {st : List yV} {r0 r1 r2 : Option yV} : zvc E (n + 1) [] d xm_43 63 [r0, r1, r2] ((1, 0) :: st) mem Post = (zvc E n [] d xm_43 66 [r0, r1, r2] ((1, 57) :: st) mem Post) := zrf rfl
theorem s_43_66_57 {E : yE} {n d : Nat} {mem : yMem} {Post : Option yV → yMem → Prop} {st : List yV} {r0 r1 r2 : Option yV} : zvc E (n + 1) [] d xm_43 66 [r0, r1, r2] ((1, 57) :: st) mem Post = (zvc E n [] d xm_43 69 [r0, r1, r2] ((1, 58) :: st) mem Post) := zrf rfl
theorem s_43_66_64 {E : yE} {n d : Nat} {mem : yMem} {Post : Option yV → yMem → Prop} {st : List yV} {r0 r1 r2 : Option yV} : zvc E (n + 1) [] d xm_43 66 [r0, r1, r2] ((1, 64) :: st) mem Post = (zvc E n [] d xm_43 69 [r0, r1, r2] ((1, 65) :: st) mem Post) := zrf rfl
theorem s_43_69 {E : yE} {n d : Nat} {mem : yMem} {Post : Option yV → yMem → Prop} {st : List yV} {r0 r1 : Option yV} {x : Int} : zvc E (n + 1) [] d xm_43 69 [r0, r1, some (0, x)] (st) mem Post = (zvc E n [] d xm_43 70 [r0, r1, some (0, x)] ((0, x) :: st) mem Post) := zrf rfl
theorem s_43_70 {E : yE} {n d : Nat} {mem : yMem} {Post : Option yV → yMem → Prop} {st : List yV} {r0 r1 r2 : Option yV} {z j : Int} : zvc E (n + 1) [] d xm_43 70 [r0, r1, r2] ((0, j) :: (1, z) :: st) mem Post = ((0 ≤ w32 j ∧ w32 j < ((zar z 0 : Nat) : Int)) ∧ zvc E n [] d xm_43 71 [r0, r1, r2] ((0, mem z.toNat (w32 j).toNat) :: st) mem Post) := zrf rfl
theorem s_43_71 {E : yE} {n d : Nat} {mem : yMem} {Post : Option yV → yMem → Prop} {st : List yV} {r1 r2 : Option yV} {x : Int} : zvc E (n + 1) [] d xm_43 71 [some (1, x), r1, r2] (st) mem Post = (zvc E n [] d xm_43 72 [some (1, x), r1, r2] ((1, x) :: st) mem Post) := zrf rfl
theorem s_43_72 {E : yE} {n d : Nat} {mem : yMem} {Post : Option yV → yMem → Prop} {st : List yV} {r0 r1 r2 : Option yV} : zvc E (n + 1) [] d xm_43 72 [r0, r1, r2] ((1, 0) :: st) mem Post = (zvc E n [] d xm_43 75 [r0, r1, r2] ((1, 57) :: st) mem Post) := zrf rfl
theorem s_43_75_57 {E : yE} {n d : Nat} {mem : yMem} {Post : Option yV → yMem → Prop} {st : List yV} {r0 r1 r2 : Option yV} : zvc E (n + 1) [] d xm_43 75 [r0, r1, r2] ((1, 57) :: st) mem Post = (zvc E n [] d xm_43 78 [r0, r1, r2] ((1, 63) :: st) mem Post) := zrf rfl
theorem s_43_75_64 {E : yE} {n d : Nat} {mem : yMem} {Post : Option yV → yMem → Prop} {st : List yV} {r0 r1 r2 : Option yV} : zvc E (n + 1) [] d xm_43 75 [r0, r1, r2] ((1, 64) :: st) mem Post = (zvc E n [] d xm_43 78 [r0, r1, r2] ((1, 70) :: st) mem Post) := zrf rfl
theorem s_43_78 {E : yE} {n d : Nat} {mem : yMem} {Post : Option yV → yMem → Prop} {st : List yV} {r1 r2 : Option yV} {x : Int} : zvc E (n + 1) [] d xm_43 78 [some (1, x), r1, r2] (st) mem Post = (zvc E n [] d xm_43 79 [some (1, x), r1, r2] ((1, x) :: st) mem Post) := zrf rfl
theorem s_43_79 {E : yE} {n d : Nat} {mem : yMem} {Post : Option yV → yMem → Prop} {st : List yV} {r0 r1 r2 : Option yV} : zvc E (n + 1) [] d xm_43 79 [r0, r1, r2] ((1, 0) :: st) mem Post = (zvc E n [] d xm_43 82 [r0, r1, r2] ((1, 57) :: st) mem Post) := zrf rfl
theorem s_43_82_57 {E : yE} {n d : Nat} {mem : yMem} {Post : Option yV → yMem → Prop} {st : List yV} {r0 r1 r2 : Option yV} : zvc E (n + 1) [] d xm_43 82 [r0, r1, r2] ((1, 57) :: st) mem Post = (zvc E n [] d xm_43 85 [r0, r1, r2] ((0, mem 57 6) :: st) mem Post) := zrf rfl
theorem s_43_82_64 {E : yE} {n d : Nat} {mem : yMem} {Post : Option yV → yMem → Prop} {st : List yV} {r0 r1 r2 : Option yV} : zvc E (n + 1) [] d xm_43 82 [r0, r1, r2] ((1, 64) :: st) mem Post = (zvc E n [] d xm_43 85 [r0, r1, r2] ((0, mem 64 6) :: st) mem Post) := zrf rfl
theorem s_43_85 {E : yE} {n d : Nat} {mem : yMem} {Post : Option yV → yMem → Prop} {st : List yV} {r0 r1 r2 : Option yV} : zvc E (n + 1) [] d xm_43 85 [r0, r1, r2] (st) mem Post = (zvc E n [] d xm_43 86 [r0, r1, r2] ((0, 1) :: st) mem Post) := zrf rfl
theorem s_43_86 {E : yE} {n d : Nat} {mem : yMem} {Post : Option yV → yMem → Prop} {st : List yV} {r0 r1 r2 : Option yV} {x y : Int} : zvc E (n + 1) [] d xm_43 86 [r0, r1, r2] ((0, y) :: (0, x) :: st) mem Post = (zvc E n [] d xm_43 87 [r0, r1, r2] ((0, x - y) :: st) mem Post) := zrf rfl
theorem s_43_87 {E : yE} {n d : Nat} {mem : yMem} {Post : Option yV → yMem → Prop} {st : List yV} {r0 r1 r2 : Option yV} {z j : Int} : zvc E (n + 1) [] d xm_43 87 [r0, r1, r2] ((0, j) :: (1, z) :: st) mem Post = ((0 ≤ w32 j ∧ w32 j < ((zar z 0 : Nat) : Int)) ∧ zvc E n [] d xm_43 88 [r0, r1, r2] ((0, mem z.toNat (w32 j).toNat) :: st) mem Post) := zrf rfl
theorem s_43_88 {E : yE} {n d : Nat} {mem : yMem} {Post : Option yV → yMem → Prop} {st : List yV} {r0 r1 r2 : Option yV} {x y : Int} : zvc E (n + 1) [] d xm_43 88 [r0, r1, r2] ((0, y) :: (0, x) :: st) mem Post = ((w32 y ≤ w32 x → zvc E n [] d xm_43 94 [r0, r1, r2] (st) mem Post) ∧ (¬ (w32 y ≤ w32 x) → zvc E n [] d xm_43 91 [r0, r1, r2] (st) mem Post)) := zrf rfl
theorem s_43_91 {E : yE} {n d : Nat} {mem : yMem} {Post : Option yV → yMem → Prop} {st : List yV} {r0 r1 r2 : Option yV} : zvc E (n + 1) [] d xm_43 91 [r0, r1, r2] (st) mem Post = (zvc E n [] d xm_43 93 [r0, r1, r2] ((0, (-2)) :: st) mem Post) := zrf rfl
theorem s_43_93 {E : yE} {n d : Nat} {mem : yMem} {Post : Option yV → yMem → Prop} {r0 r1 r2 : Option yV} {x : Int} : zvc E (n + 1) [] d xm_43 93 [r0, r1, r2] ([(0, x)]) mem Post = (Post (some (0, x)) mem) := zrf rfl
theorem s_43_94 {E : yE} {n d : Nat} {mem : yMem} {Post : Option yV → yMem → Prop} {st : List yV} {r1 r2 : Option yV} {x : Int} : zvc E (n + 1) [] d xm_43 94 [some (1, x), r1, r2] (st) mem Post = (zvc E n [] d xm_43 95 [some (1, x), r1, r2] ((1, x) :: st) mem Post) := zrf rfl
theorem s_43_95 {E : yE} {n d : Nat} {mem : yMem} {Post : Option yV → yMem → Prop} {st : List yV} {r0 r1 r2 : Option yV} : zvc E (n + 1) [] d xm_43 95 [r0, r1, r2] ((1, 0) :: st) mem Post = (zvc E n [] d xm_43 98 [r0, r1, r2] ((1, 57) :: st) mem Post) := zrf rfl
theorem s_43_98 {E : yE} {n d : Nat} {mem : yMem} {Post : Option yV → yMem → Prop} {st : List yV} {r0 r1 : Option yV} {x : Int} : zvc E (n + 1) [] d xm_43 98 [r0, r1, some (0, x)] (st) mem Post = (zvc E n [] d xm_43 99 [r0, r1, some (0, x)] ((0, x) :: st) mem Post) := zrf rfl
theorem s_43_99 {E : yE} {n d : Nat} {mem : yMem} {Post : Option yV → yMem → Prop} {st : List yV} {r0 r1 r2 : Option yV} {z a0 : Int} : zvc E (n + 1) [] d xm_43 99 [r0, r1, r2] ((0, a0) :: (1, z) :: st) mem Post = (zio z 10 = true ∧ ysum st ≤ 8 ∧ yCon E d xm_136 [(1, z), (0, a0)] mem (fun v mem' => zgk E d xm_43 102 [r0, r1, r2] st v mem' Post)) := zrf rfl
theorem s_43_102 {E : yE} {n d : Nat} {mem : yMem} {Post : Option yV → yMem → Prop} {st : List yV} {r1 r2 : Option yV} {x : Int} : zvc E (n + 1) [] d xm_43 102 [some (1, x), r1, r2] (st) mem Post = (zvc E n [] d xm_43 103 [some (1, x), r1, r2] ((1, x) :: st) mem Post) := zrf rfl
theorem s_43_103 {E : yE} {n d : Nat} {mem : yMem} {Post : Option yV → yMem → Prop} {st : List yV} {r0 r1 r2 : Option yV} : zvc E (n + 1) [] d xm_43 103 [r0, r1, r2] ((1, 0) :: st) mem Post = (zvc E n [] d xm_43 106 [r0, r1, r2] ((1, 57) :: st) mem Post) := zrf rfl
theorem s_43_106_57 {E : yE} {n d : Nat} {mem : yMem} {Post : Option yV → yMem → Prop} {st : List yV} {r0 r1 r2 : Option yV} : zvc E (n + 1) [] d xm_43 106 [r0, r1, r2] ((1, 57) :: st) mem Post = (zvc E n [] d xm_43 109 [r0, r1, r2] ((0, mem 57 6) :: st) mem Post) := zrf rfl
theorem s_43_106_64 {E : yE} {n d : Nat} {mem : yMem} {Post : Option yV → yMem → Prop} {st : List yV} {r0 r1 r2 : Option yV} : zvc E (n + 1) [] d xm_43 106 [r0, r1, r2] ((1, 64) :: st) mem Post = (zvc E n [] d xm_43 109 [r0, r1, r2] ((0, mem 64 6) :: st) mem Post) := zrf rfl
theorem s_43_109 {E : yE} {n d : Nat} {mem : yMem} {Post : Option yV → yMem → Prop} {r0 r1 r2 : Option yV} {x : Int} : zvc E (n + 1) [] d xm_43 109 [r0, r1, r2] ([(0, x)]) mem Post = (Post (some (0, x)) mem) := zrf rfl
theorem s_136_0 {E : yE} {n d : Nat} {mem : yMem} {Post : Option yV → yMem → Prop} {st : List yV} {r1 : Option yV} {x : Int} : zvc E (n + 1) [] d xm_136 0 [some (1, x), r1] (st) mem Post = (zvc E n [] d xm_136 1 [some (1, x), r1] ((1, x) :: st) mem Post) := zrf rfl
theorem s_136_1_57 {E : yE} {n d : Nat} {mem : yMem} {Post : Option yV → yMem → Prop} {st : List yV} {r0 r1 : Option yV} : zvc E (n + 1) [] d xm_136 1 [r0, r1] ((1, 57) :: st) mem Post = (zvc E n [] d xm_136 4 [r0, r1] ((0, mem 57 6) :: st) mem Post) := zrf rfl
theorem s_136_1_64 {E : yE} {n d : Nat} {mem : yMem} {Post : Option yV → yMem → Prop} {st : List yV} {r0 r1 : Option yV} : zvc E (n + 1) [] d xm_136 1 [r0, r1] ((1, 64) :: st) mem Post = (zvc E n [] d xm_136 4 [r0, r1] ((0, mem 64 6) :: st) mem Post) := zrf rfl
theorem s_136_4 {E : yE} {n d : Nat} {mem : yMem} {Post : Option yV → yMem → Prop} {st : List yV} {r0 r1 : Option yV} {x : Int} : zvc E (n + 1) [] d xm_136 4 [r0, r1] ((0, x) :: st) mem Post = ((¬ w32 x = w32 0 → zvc E n [] d xm_136 8 [r0, r1] (st) mem Post) ∧ (¬ (¬ w32 x = w32 0) → zvc E n [] d xm_136 7 [r0, r1] (st) mem Post)) := zrf rfl
theorem s_136_7 {E : yE} {n d : Nat} {mem : yMem} {Post : Option yV → yMem → Prop} {r0 r1 : Option yV} : zvc E (n + 1) [] d xm_136 7 [r0, r1] ([]) mem Post = (Post none mem) := zrf rfl
theorem s_136_8 {E : yE} {n d : Nat} {mem : yMem} {Post : Option yV → yMem → Prop} {st : List yV} {r1 : Option yV} {x : Int} : zvc E (n + 1) [] d xm_136 8 [some (1, x), r1] (st) mem Post = (zvc E n [] d xm_136 9 [some (1, x), r1] ((1, x) :: st) mem Post) := zrf rfl
theorem s_136_9a {E : yE} {n d : Nat} {mem : yMem} {Post : Option yV → yMem → Prop} {st : List yV} {r0 r1 : Option yV} {x : Int} : zvc E (n + 1) [] d xm_136 9 [r0, r1] ((0, x) :: st) mem Post = (zvc E n [] d xm_136 10 [r0, r1] ((0, x) :: (0, x) :: st) mem Post) := zrf rfl
theorem s_136_9b {E : yE} {n d : Nat} {mem : yMem} {Post : Option yV → yMem → Prop} {st : List yV} {r0 r1 : Option yV} {x : Int} : zvc E (n + 1) [] d xm_136 9 [r0, r1] ((1, x) :: st) mem Post = (zvc E n [] d xm_136 10 [r0, r1] ((1, x) :: (1, x) :: st) mem Post) := zrf rfl
theorem s_136_10_57 {E : yE} {n d : Nat} {mem : yMem} {Post : Option yV → yMem → Prop} {st : List yV} {r0 r1 : Option yV} : zvc E (n + 1) [] d xm_136 10 [r0, r1] ((1, 57) :: st) mem Post = (zvc E n [] d xm_136 13 [r0, r1] ((0, mem 57 6) :: st) mem Post) := zrf rfl
theorem s_136_10_64 {E : yE} {n d : Nat} {mem : yMem} {Post : Option yV → yMem → Prop} {st : List yV} {r0 r1 : Option yV} : zvc E (n + 1) [] d xm_136 10 [r0, r1] ((1, 64) :: st) mem Post = (zvc E n [] d xm_136 13 [r0, r1] ((0, mem 64 6) :: st) mem Post) := zrf rfl
theorem s_136_13 {E : yE} {n d : Nat} {mem : yMem} {Post : Option yV → yMem → Prop} {st : List yV} {r0 r1 : Option yV} : zvc E (n + 1) [] d xm_136 13 [r0, r1] (st) mem Post = (zvc E n [] d xm_136 14 [r0, r1] ((0, 1) :: st) mem Post) := zrf rfl
theorem s_136_14 {E : yE} {n d : Nat} {mem : yMem} {Post : Option yV → yMem → Prop} {st : List yV} {r0 r1 : Option yV} {x y : Int} : zvc E (n + 1) [] d xm_136 14 [r0, r1] ((0, y) :: (0, x) :: st) mem Post = (zvc E n [] d xm_136 15 [r0, r1] ((0, x - y) :: st) mem Post) := zrf rfl
theorem s_136_15_57 {E : yE} {n d : Nat} {mem : yMem} {Post : Option yV → yMem → Prop} {st : List yV} {r0 r1 : Option yV} {x : Int} : zvc E (n + 1) [] d xm_136 15 [r0, r1] ((0, x) :: (1, 57) :: st) mem Post = (zvc E n [] d xm_136 18 [r0, r1] (st) (yset mem 57 6 x) Post) := zrf rfl
theorem s_136_15_64 {E : yE} {n d : Nat} {mem : yMem} {Post : Option yV → yMem → Prop} {st : List yV} {r0 r1 : Option yV} {x : Int} : zvc E (n + 1) [] d xm_136 15 [r0, r1] ((0, x) :: (1, 64) :: st) mem Post = (zvc E n [] d xm_136 18 [r0, r1] (st) (yset mem 64 6 x) Post) := zrf rfl
theorem s_136_18 {E : yE} {n d : Nat} {mem : yMem} {Post : Option yV → yMem → Prop} {st : List yV} {r1 : Option yV} {x : Int} : zvc E (n + 1) [] d xm_136 18 [some (1, x), r1] (st) mem Post = (zvc E n [] d xm_136 19 [some (1, x), r1] ((1, x) :: st) mem Post) := zrf rfl
theorem s_136_19_57 {E : yE} {n d : Nat} {mem : yMem} {Post : Option yV → yMem → Prop} {st : List yV} {r0 r1 : Option yV} : zvc E (n + 1) [] d xm_136 19 [r0, r1] ((1, 57) :: st) mem Post = (zvc E n [] d xm_136 22 [r0, r1] ((1, 61) :: st) mem Post) := zrf rfl
theorem s_136_19_64 {E : yE} {n d : Nat} {mem : yMem} {Post : Option yV → yMem → Prop} {st : List yV} {r0 r1 : Option yV} : zvc E (n + 1) [] d xm_136 19 [r0, r1] ((1, 64) :: st) mem Post = (zvc E n [] d xm_136 22 [r0, r1] ((1, 68) :: st) mem Post) := zrf rfl
theorem s_136_22 {E : yE} {n d : Nat} {mem : yMem} {Post : Option yV → yMem → Prop} {st : List yV} {r1 : Option yV} {x : Int} : zvc E (n + 1) [] d xm_136 22 [some (1, x), r1] (st) mem Post = (zvc E n [] d xm_136 23 [some (1, x), r1] ((1, x) :: st) mem Post) := zrf rfl
theorem s_136_23_57 {E : yE} {n d : Nat} {mem : yMem} {Post : Option yV → yMem → Prop} {st : List yV} {r0 r1 : Option yV} : zvc E (n + 1) [] d xm_136 23 [r0, r1] ((1, 57) :: st) mem Post = (zvc E n [] d xm_136 26 [r0, r1] ((1, 62) :: st) mem Post) := zrf rfl
theorem s_136_23_64 {E : yE} {n d : Nat} {mem : yMem} {Post : Option yV → yMem → Prop} {st : List yV} {r0 r1 : Option yV} : zvc E (n + 1) [] d xm_136 23 [r0, r1] ((1, 64) :: st) mem Post = (zvc E n [] d xm_136 26 [r0, r1] ((1, 69) :: st) mem Post) := zrf rfl
theorem s_136_26 {E : yE} {n d : Nat} {mem : yMem} {Post : Option yV → yMem → Prop} {st : List yV} {r1 : Option yV} {x : Int} : zvc E (n + 1) [] d xm_136 26 [some (1, x), r1] (st) mem Post = (zvc E n [] d xm_136 27 [some (1, x), r1] ((1, x) :: st) mem Post) := zrf rfl
theorem s_136_27_57 {E : yE} {n d : Nat} {mem : yMem} {Post : Option yV → yMem → Prop} {st : List yV} {r0 r1 : Option yV} : zvc E (n + 1) [] d xm_136 27 [r0, r1] ((1, 57) :: st) mem Post = (zvc E n [] d xm_136 30 [r0, r1] ((0, mem 57 6) :: st) mem Post) := zrf rfl
theorem s_136_27_64 {E : yE} {n d : Nat} {mem : yMem} {Post : Option yV → yMem → Prop} {st : List yV} {r0 r1 : Option yV} : zvc E (n + 1) [] d xm_136 27 [r0, r1] ((1, 64) :: st) mem Post = (zvc E n [] d xm_136 30 [r0, r1] ((0, mem 64 6) :: st) mem Post) := zrf rfl
theorem s_136_30 {E : yE} {n d : Nat} {mem : yMem} {Post : Option yV → yMem → Prop} {st : List yV} {r0 r1 : Option yV} {z j : Int} : zvc E (n + 1) [] d xm_136 30 [r0, r1] ((0, j) :: (1, z) :: st) mem Post = ((0 ≤ w32 j ∧ w32 j < ((zar z 0 : Nat) : Int)) ∧ zvc E n [] d xm_136 31 [r0, r1] ((0, mem z.toNat (w32 j).toNat) :: st) mem Post) := zrf rfl
theorem s_136_31 {E : yE} {n d : Nat} {mem : yMem} {Post : Option yV → yMem → Prop} {st : List yV} {r0 r1 : Option yV} : zvc E (n + 1) [] d xm_136 31 [r0, r1] (st) mem Post = (zvc E n [] d xm_136 32 [r0, r1] ((0, (-1)) :: st) mem Post) := zrf rfl
theorem s_136_32 {E : yE} {n d : Nat} {mem : yMem} {Post : Option yV → yMem → Prop} {st : List yV} {r0 r1 : Option yV} {x z j : Int} : zvc E (n + 1) [] d xm_136 32 [r0, r1] ((0, x) :: (0, j) :: (1, z) :: st) mem Post = ((0 ≤ w32 j ∧ w32 j < ((zar z 0 : Nat) : Int)) ∧ zvc E n [] d xm_136 33 [r0, r1] (st) (yset mem z.toNat (w32 j).toNat x) Post) := zrf rfl
theorem s_136_33 {E : yE} {n d : Nat} {mem : yMem} {Post : Option yV → yMem → Prop} {st : List yV} {r1 : Option yV} {x : Int} : zvc E (n + 1) [] d xm_136 33 [some (1, x), r1] (st) mem Post = (zvc E n [] d xm_136 34 [some (1, x), r1] ((1, x) :: st) mem Post) := zrf rfl
theorem s_136_34a {E : yE} {n d : Nat} {mem : yMem} {Post : Option yV → yMem → Prop} {st : List yV} {r0 r1 : Option yV} {x : Int} : zvc E (n + 1) [] d xm_136 34 [r0, r1] ((0, x) :: st) mem Post = (zvc E n [] d xm_136 35 [r0, r1] ((0, x) :: (0, x) :: st) mem Post) := zrf rfl
theorem s_136_34b {E : yE} {n d : Nat} {mem : yMem} {Post : Option yV → yMem → Prop} {st : List yV} {r0 r1 : Option yV} {x : Int} : zvc E (n + 1) [] d xm_136 34 [r0, r1] ((1, x) :: st) mem Post = (zvc E n [] d xm_136 35 [r0, r1] ((1, x) :: (1, x) :: st) mem Post) := zrf rfl
theorem s_136_35_57 {E : yE} {n d : Nat} {mem : yMem} {Post : Option yV → yMem → Prop} {st : List yV} {r0 r1 : Option yV} : zvc E (n + 1) [] d xm_136 35 [r0, r1] ((1, 57) :: st) mem Post = (zvc E n [] d xm_136 38 [r0, r1] ((0, mem 57 8) :: st) mem Post) := zrf rfl
theorem s_136_35_64 {E : yE} {n d : Nat} {mem : yMem} {Post : Option yV → yMem → Prop} {st : List yV} {r0 r1 : Option yV} : zvc E (n + 1) [] d xm_136 35 [r0, r1] ((1, 64) :: st) mem Post = (zvc E n [] d xm_136 38 [r0, r1] ((0, mem 64 8) :: st) mem Post) := zrf rfl
theorem s_136_38 {E : yE} {n d : Nat} {mem : yMem} {Post : Option yV → yMem → Prop} {st : List yV} {r1 : Option yV} {x : Int} : zvc E (n + 1) [] d xm_136 38 [some (1, x), r1] (st) mem Post = (zvc E n [] d xm_136 39 [some (1, x), r1] ((1, x) :: st) mem Post) := zrf rfl
theorem s_136_39_57 {E : yE} {n d : Nat} {mem : yMem} {Post : Option yV → yMem → Prop} {st : List yV} {r0 r1 : Option yV} : zvc E (n + 1) [] d xm_136 39 [r0, r1] ((1, 57) :: st) mem Post = (zvc E n [] d xm_136 42 [r0, r1] ((1, 63) :: st) mem Post) := zrf rfl
theorem s_136_39_64 {E : yE} {n d : Nat} {mem : yMem} {Post : Option yV → yMem → Prop} {st : List yV} {r0 r1 : Option yV} : zvc E (n + 1) [] d xm_136 39 [r0, r1] ((1, 64) :: st) mem Post = (zvc E n [] d xm_136 42 [r0, r1] ((1, 70) :: st) mem Post) := zrf rfl
theorem s_136_42 {E : yE} {n d : Nat} {mem : yMem} {Post : Option yV → yMem → Prop} {st : List yV} {r1 : Option yV} {x : Int} : zvc E (n + 1) [] d xm_136 42 [some (1, x), r1] (st) mem Post = (zvc E n [] d xm_136 43 [some (1, x), r1] ((1, x) :: st) mem Post) := zrf rfl
theorem s_136_43_57 {E : yE} {n d : Nat} {mem : yMem} {Post : Option yV → yMem → Prop} {st : List yV} {r0 r1 : Option yV} : zvc E (n + 1) [] d xm_136 43 [r0, r1] ((1, 57) :: st) mem Post = (zvc E n [] d xm_136 46 [r0, r1] ((0, mem 57 6) :: st) mem Post) := zrf rfl
theorem s_136_43_64 {E : yE} {n d : Nat} {mem : yMem} {Post : Option yV → yMem → Prop} {st : List yV} {r0 r1 : Option yV} : zvc E (n + 1) [] d xm_136 43 [r0, r1] ((1, 64) :: st) mem Post = (zvc E n [] d xm_136 46 [r0, r1] ((0, mem 64 6) :: st) mem Post) := zrf rfl
theorem s_136_46 {E : yE} {n d : Nat} {mem : yMem} {Post : Option yV → yMem → Prop} {st : List yV} {r0 r1 : Option yV} {z j : Int} : zvc E (n + 1) [] d xm_136 46 [r0, r1] ((0, j) :: (1, z) :: st) mem Post = ((0 ≤ w32 j ∧ w32 j < ((zar z 0 : Nat) : Int)) ∧ zvc E n [] d xm_136 47 [r0, r1] ((0, mem z.toNat (w32 j).toNat) :: st) mem Post) := zrf rfl
theorem s_136_47 {E : yE} {n d : Nat} {mem : yMem} {Post : Option yV → yMem → Prop} {st : List yV} {r0 r1 : Option yV} {x y : Int} : zvc E (n + 1) [] d xm_136 47 [r0, r1] ((0, y) :: (0, x) :: st) mem Post = (zvc E n [] d xm_136 48 [r0, r1] ((0, x + y) :: st) mem Post) := zrf rfl
theorem s_136_48_57 {E : yE} {n d : Nat} {mem : yMem} {Post : Option yV → yMem → Prop} {st : List yV} {r0 r1 : Option yV} {x : Int} : zvc E (n + 1) [] d xm_136 48 [r0, r1] ((0, x) :: (1, 57) :: st) mem Post = (zvc E n [] d xm_136 51 [r0, r1] (st) (yset mem 57 8 x) Post) := zrf rfl
theorem s_136_48_64 {E : yE} {n d : Nat} {mem : yMem} {Post : Option yV → yMem → Prop} {st : List yV} {r0 r1 : Option yV} {x : Int} : zvc E (n + 1) [] d xm_136 48 [r0, r1] ((0, x) :: (1, 64) :: st) mem Post = (zvc E n [] d xm_136 51 [r0, r1] (st) (yset mem 64 8 x) Post) := zrf rfl
theorem s_136_51 {E : yE} {n d : Nat} {mem : yMem} {Post : Option yV → yMem → Prop} {st : List yV} {r0 : Option yV} {x : Int} : zvc E (n + 1) [] d xm_136 51 [r0, some (0, x)] (st) mem Post = (zvc E n [] d xm_136 52 [r0, some (0, x)] ((0, x) :: st) mem Post) := zrf rfl
theorem s_136_52 {E : yE} {n d : Nat} {mem : yMem} {Post : Option yV → yMem → Prop} {st : List yV} {r0 r1 : Option yV} : zvc E (n + 1) [] d xm_136 52 [r0, r1] (st) mem Post = (zvc E n [] d xm_136 53 [r0, r1] ((0, (-1)) :: st) mem Post) := zrf rfl
theorem s_136_53 {E : yE} {n d : Nat} {mem : yMem} {Post : Option yV → yMem → Prop} {st : List yV} {r0 r1 : Option yV} {x y : Int} : zvc E (n + 1) [] d xm_136 53 [r0, r1] ((0, y) :: (0, x) :: st) mem Post = ((w32 x = w32 y → zvc E n [] d xm_136 74 [r0, r1] (st) mem Post) ∧ (¬ (w32 x = w32 y) → zvc E n [] d xm_136 56 [r0, r1] (st) mem Post)) := zrf rfl
theorem s_136_56 {E : yE} {n d : Nat} {mem : yMem} {Post : Option yV → yMem → Prop} {st : List yV} {r1 : Option yV} {x : Int} : zvc E (n + 1) [] d xm_136 56 [some (1, x), r1] (st) mem Post = (zvc E n [] d xm_136 57 [some (1, x), r1] ((1, x) :: st) mem Post) := zrf rfl
theorem s_136_57_57 {E : yE} {n d : Nat} {mem : yMem} {Post : Option yV → yMem → Prop} {st : List yV} {r0 r1 : Option yV} : zvc E (n + 1) [] d xm_136 57 [r0, r1] ((1, 57) :: st) mem Post = (zvc E n [] d xm_136 60 [r0, r1] ((1, 58) :: st) mem Post) := zrf rfl
theorem s_136_57_64 {E : yE} {n d : Nat} {mem : yMem} {Post : Option yV → yMem → Prop} {st : List yV} {r0 r1 : Option yV} : zvc E (n + 1) [] d xm_136 57 [r0, r1] ((1, 64) :: st) mem Post = (zvc E n [] d xm_136 60 [r0, r1] ((1, 65) :: st) mem Post) := zrf rfl
theorem s_136_60 {E : yE} {n d : Nat} {mem : yMem} {Post : Option yV → yMem → Prop} {st : List yV} {r0 : Option yV} {x : Int} : zvc E (n + 1) [] d xm_136 60 [r0, some (0, x)] (st) mem Post = (zvc E n [] d xm_136 61 [r0, some (0, x)] ((0, x) :: st) mem Post) := zrf rfl
theorem s_136_61 {E : yE} {n d : Nat} {mem : yMem} {Post : Option yV → yMem → Prop} {st : List yV} {r0 r1 : Option yV} {x y : Int} : zvc E (n + 1) [] d xm_136 61 [r0, r1] ((0, x) :: (1, y) :: st) mem Post = (zvc E n [] d xm_136 62 [r0, r1] ((0, x) :: (1, y) :: (0, x) :: (1, y) :: st) mem Post) := zrf rfl
theorem s_136_62 {E : yE} {n d : Nat} {mem : yMem} {Post : Option yV → yMem → Prop} {st : List yV} {r0 r1 : Option yV} {z j : Int} : zvc E (n + 1) [] d xm_136 62 [r0, r1] ((0, j) :: (1, z) :: st) mem Post = ((0 ≤ w32 j ∧ w32 j < ((zar z 0 : Nat) : Int)) ∧ zvc E n [] d xm_136 63 [r0, r1] ((0, mem z.toNat (w32 j).toNat) :: st) mem Post) := zrf rfl
theorem s_136_63 {E : yE} {n d : Nat} {mem : yMem} {Post : Option yV → yMem → Prop} {st : List yV} {r1 : Option yV} {x : Int} : zvc E (n + 1) [] d xm_136 63 [some (1, x), r1] (st) mem Post = (zvc E n [] d xm_136 64 [some (1, x), r1] ((1, x) :: st) mem Post) := zrf rfl
theorem s_136_64_57 {E : yE} {n d : Nat} {mem : yMem} {Post : Option yV → yMem → Prop} {st : List yV} {r0 r1 : Option yV} : zvc E (n + 1) [] d xm_136 64 [r0, r1] ((1, 57) :: st) mem Post = (zvc E n [] d xm_136 67 [r0, r1] ((1, 63) :: st) mem Post) := zrf rfl
theorem s_136_64_64 {E : yE} {n d : Nat} {mem : yMem} {Post : Option yV → yMem → Prop} {st : List yV} {r0 r1 : Option yV} : zvc E (n + 1) [] d xm_136 64 [r0, r1] ((1, 64) :: st) mem Post = (zvc E n [] d xm_136 67 [r0, r1] ((1, 70) :: st) mem Post) := zrf rfl
theorem s_136_67 {E : yE} {n d : Nat} {mem : yMem} {Post : Option yV → yMem → Prop} {st : List yV} {r1 : Option yV} {x : Int} : zvc E (n + 1) [] d xm_136 67 [some (1, x), r1] (st) mem Post = (zvc E n [] d xm_136 68 [some (1, x), r1] ((1, x) :: st) mem Post) := zrf rfl
theorem s_136_68_57 {E : yE} {n d : Nat} {mem : yMem} {Post : Option yV → yMem → Prop} {st : List yV} {r0 r1 : Option yV} : zvc E (n + 1) [] d xm_136 68 [r0, r1] ((1, 57) :: st) mem Post = (zvc E n [] d xm_136 71 [r0, r1] ((0, mem 57 6) :: st) mem Post) := zrf rfl
theorem s_136_68_64 {E : yE} {n d : Nat} {mem : yMem} {Post : Option yV → yMem → Prop} {st : List yV} {r0 r1 : Option yV} : zvc E (n + 1) [] d xm_136 68 [r0, r1] ((1, 64) :: st) mem Post = (zvc E n [] d xm_136 71 [r0, r1] ((0, mem 64 6) :: st) mem Post) := zrf rfl
theorem s_136_71 {E : yE} {n d : Nat} {mem : yMem} {Post : Option yV → yMem → Prop} {st : List yV} {r0 r1 : Option yV} {z j : Int} : zvc E (n + 1) [] d xm_136 71 [r0, r1] ((0, j) :: (1, z) :: st) mem Post = ((0 ≤ w32 j ∧ w32 j < ((zar z 0 : Nat) : Int)) ∧ zvc E n [] d xm_136 72 [r0, r1] ((0, mem z.toNat (w32 j).toNat) :: st) mem Post) := zrf rfl
theorem s_136_72 {E : yE} {n d : Nat} {mem : yMem} {Post : Option yV → yMem → Prop} {st : List yV} {r0 r1 : Option yV} {x y : Int} : zvc E (n + 1) [] d xm_136 72 [r0, r1] ((0, y) :: (0, x) :: st) mem Post = (zvc E n [] d xm_136 73 [r0, r1] ((0, x - y) :: st) mem Post) := zrf rfl
theorem s_136_73 {E : yE} {n d : Nat} {mem : yMem} {Post : Option yV → yMem → Prop} {st : List yV} {r0 r1 : Option yV} {x z j : Int} : zvc E (n + 1) [] d xm_136 73 [r0, r1] ((0, x) :: (0, j) :: (1, z) :: st) mem Post = ((0 ≤ w32 j ∧ w32 j < ((zar z 0 : Nat) : Int)) ∧ zvc E n [] d xm_136 74 [r0, r1] (st) (yset mem z.toNat (w32 j).toNat x) Post) := zrf rfl
theorem s_136_74 {E : yE} {n d : Nat} {mem : yMem} {Post : Option yV → yMem → Prop} {r0 r1 : Option yV} : zvc E (n + 1) [] d xm_136 74 [r0, r1] ([]) mem Post = (Post none mem) := zrf rfl
theorem e_43 {E : yE} {d : Nat} {mem : yMem} {Q : Option yV → yMem → Prop} {z : Int} (h : zG E d xm_43 0 [some (1, z), none, none] [] mem Q) : yCon E (d + 1) xm_43 [(1, z)] mem Q := zcon_of xmo_43 (Nat.le_of_ble_eq_true rfl) h
theorem e_136 {E : yE} {d : Nat} {mem : yMem} {Q : Option yV → yMem → Prop} {z a0 : Int} (h : zG E d xm_136 0 [some (1, z), some (0, a0)] [] mem Q) : yCon E (d + 1) xm_136 [(1, z), (0, a0)] mem Q := zcon_of xmo_136 (Nat.le_of_ble_eq_true rfl) h

/-! undo, on both sides -/
/-- the latest one's tavern -/
def sUh (D : dDc) (W : dU) : Int := vHo D (uS W (uL W (uR W - 1).toNat).toNat).toNat
def sUc (D : dDc) (W : dU) : Prop := ¬ sUh D W = -1 ∧ uT W (sUh D W).toNat < uP W (uR W - 1).toNat
def sUnd (D : dDc) (W : dU) (r : Int) (W' : dU) : Prop := (uR W = 0 → r = -1 ∧ W' = W) ∧ (¬ uR W = 0 → (sUc D W → r = -2 ∧ W' = W) ∧ (¬ sUc D W → r = uR W - 1 ∧ W' = uUn W (sUh D W)))
theorem sUnd_u {D : dDc} {W : dU} {r r2 : Int} {W' W2 : dU} (h : sUnd D W r W') (h2 : sUnd D W r2 W2) : r = r2 ∧ W' = W2 := by
  have fin : ∀ {a : Int} {w : dU}, r = a ∧ W' = w → r2 = a ∧ W2 = w → r = r2 ∧ W' = W2 := fun e e2 => ⟨e.1.trans e2.1.symm, e.2.trans e2.2.symm⟩
  by_cases c : uR W = 0
  · exact fin (h.1 c) (h2.1 c)
  · by_cases c2 : sUc D W
    · exact fin ((h.2 c).1 c2) ((h2.2 c).1 c2)
    · exact fin ((h.2 c).2 c2) ((h2.2 c).2 c2)
/-- the latest one -/
theorem uLast {D : dDc} {k : Nat} {W : dU} (h : uOk D k W) (hr : ¬ uR W = 0) : ∃ i p v : Nat, (uR W = (i : Int) + 1 ∧ i ≤ 11 ∧ (uR W - 1).toNat = i) ∧ (uL W i = (p : Int) ∧ p < 12 ∧ (uL W i).toNat = p) ∧ uS W p = (v : Int) ∧ v < D.2.1.length ∧ sUh D W = vHo D v := by
  obtain ⟨a1, a2, a3, -⟩ := h
  have b := a3 (uR W - 1).toNat (by omega)
  have c := a2 (uL W (uR W - 1).toNat).toNat (by omega)
  refine ⟨(uR W - 1).toNat, (uL W (uR W - 1).toNat).toNat, (uS W (uL W (uR W - 1).toNat).toNat).toNat, ⟨by omega, by omega, rfl⟩, ⟨by omega, by omega, rfl⟩, by omega, by omega, rfl⟩
theorem sUnd_ok {D : dDc} {k l : Nat} {W W' : dU} {r : Int} (hk : k + 6 ≤ l) (hl : l ≤ 100000) (hD : dOk D) (hn : D.1.length ≤ 3) (H : uOk D k W) (h : sUnd D W r W') : uOk D l W' := by
  by_cases c : uR W = 0
  · rw [(h.1 c).2]
    exact uOk_le H (by omega)
  · by_cases c2 : sUc D W
    · rw [((h.2 c).1 c2).2]
      exact uOk_le H (by omega)
    · rw [((h.2 c).2 c2).2]
      obtain ⟨i, p, v, ⟨i1, i2, i3⟩, -, -, hv, hh⟩ := uLast H c
      have kv : -1 ≤ vHo D v ∧ vHo D v < (D.1.length : Int) := (dOk_v hD hv).2.1
      refine uUn_ok hk hl H (by omega) ?_
      unfold sUc at c2
      omega
/-- a world with a VOICE less, as both write it -/
theorem cW_un {b m : yMem} {W : dU} {p R : Nat} {h : Int} (H : cW b 57 W) (hR : (uR W - 1).toNat = R) (hR1 : uR W = (R : Int) + 1) (hp : (uL W R).toNat = p) (f : ∀ i j, 58 ≤ i → i ≤ 63 → ¬ (i = 61 ∧ j = p) → ¬ (i = 58 ∧ h ≠ -1 ∧ j = h.toNat) → w32 (m i j) = w32 (b i j)) (f57 : ∀ j, j ≠ 6 → j ≠ 8 → w32 (m 57 j) = w32 (b 57 j)) (g1 : w32 (m 61 p) = -1) (g4 : w32 (m 57 6) = (R : Int)) (g5 : w32 (m 57 8) = w32 (uM W + uP W R)) (g6 : h ≠ -1 → w32 (m 58 h.toNat) = w32 (uT W h.toNat - uP W R)) : cW m 57 (uUn W h) := by
  obtain ⟨a1, a2, a3, a4, a5, a6, a7, a8, a9, a10, a11, a12⟩ := H
  refine ⟨fun j hj => ?_, fun j hj => ?_, fun j hj => ?_, fun j hj => ?_, fun j hj => ?_, fun j hj => ?_, ?_, ?_, ?_, ?_, ?_, ?_⟩
  · show w32 (m 58 j) = (if h = -1 then uT W else uUp (uT W) h.toNat (w32 (uT W h.toNat - uP W (uR W - 1).toNat))) j
    rw [hR]
    by_cases e : h = -1
    · rw [if_pos e, f 58 j (by decide) (by decide) (by omega) (by omega)]
      exact a1 j hj
    · rw [if_neg e]
      by_cases ej : j = h.toNat
      · rw [ej, uUp_s]
        exact g6 e
      · rw [uUp_d ej, f 58 j (by decide) (by decide) (by omega) (by omega)]
        exact a1 j hj
  · show w32 (m 59 j) = uC W j
    rw [f 59 j (by decide) (by decide) (by omega) (by omega)]
    exact a2 j hj
  · show w32 (m 60 j) = uB W j
    rw [f 60 j (by decide) (by decide) (by omega) (by omega)]
    exact a3 j hj
  · show w32 (m 61 j) = uUp (uS W) (uL W (uR W - 1).toNat).toNat (-1) j
    rw [hR, hp]
    by_cases ej : j = p
    · rw [ej, uUp_s]
      exact g1
    · rw [uUp_d ej, f 61 j (by decide) (by decide) (by omega) (by omega)]
      exact a4 j hj
  · show w32 (m 62 j) = uL W j
    rw [f 62 j (by decide) (by decide) (by omega) (by omega)]
    exact a5 j hj
  · show w32 (m 63 j) = uP W j
    rw [f 63 j (by decide) (by decide) (by omega) (by omega)]
    exact a6 j hj
  · show w32 (m 57 6) = uR W - 1
    omega
  · show w32 (m 57 7) = uK W
    rw [f57 7 (by decide) (by decide)]
    exact a8
  · show w32 (m 57 8) = w32 (uM W + uP W (uR W - 1).toNat)
    rw [hR]
    exact g5
  · show w32 (m 57 9) = uO W
    rw [f57 9 (by decide) (by decide)]
    exact a10
  · show w32 (m 57 10) = uX W
    rw [f57 10 (by decide) (by decide)]
    exact a11
  · show w32 (m 57 12) = uD W
    rw [f57 12 (by decide) (by decide)]
    exact a12
theorem rW_un {b m : yMem} {W : dU} {p R : Nat} {h : Int} (H : rW b 0 W) (hR : (uR W - 1).toNat = R) (hR1 : uR W = (R : Int) + 1) (hp : (uL W R).toNat = p) (f : ∀ i j, 118 ≤ i → i ≤ 129 → ¬ (i = 126 ∧ j = p) → ¬ (i = 123 ∧ h ≠ -1 ∧ j = h.toNat) → ¬ (i = 127 ∧ j = 0) → ¬ (i = 119 ∧ j = 0) → m i j = b i j) (g1 : w32 (m 126 p) = -1) (g4 : w32 (m 127 0) = (R : Int)) (g5 : w32 (m 119 0) = w32 (uM W + uP W R)) (g6 : h ≠ -1 → w32 (m 123 h.toNat) = w32 (uT W h.toNat - uP W R)) : rW m 0 (uUn W h) := by
  obtain ⟨a1, a2, a3, a4, a5, a6, a7, a8, a9, a10, a11, a12⟩ := rW0 H
  refine rW0_of ⟨fun j hj => ?_, fun j hj => ?_, fun j hj => ?_, fun j hj => ?_, fun j hj => ?_, fun j hj => ?_, ?_, ?_, ?_, ?_, ?_, ?_⟩
  · show w32 (m 123 j) = (if h = -1 then uT W else uUp (uT W) h.toNat (w32 (uT W h.toNat - uP W (uR W - 1).toNat))) j
    rw [hR]
    by_cases e : h = -1
    · rw [if_pos e, f 123 j (by decide) (by decide) (by omega) (by omega) (by omega) (by omega)]
      exact a1 j hj
    · rw [if_neg e]
      by_cases ej : j = h.toNat
      · rw [ej, uUp_s]
        exact g6 e
      · rw [uUp_d ej, f 123 j (by decide) (by decide) (by omega) (by omega) (by omega) (by omega)]
        exact a1 j hj
  · show w32 (m 125 j) = uC W j
    rw [f 125 j (by decide) (by decide) (by omega) (by omega) (by omega) (by omega)]
    exact a2 j hj
  · show w32 (m 124 j) = uB W j
    rw [f 124 j (by decide) (by decide) (by omega) (by omega) (by omega) (by omega)]
    exact a3 j hj
  · show w32 (m 126 j) = uUp (uS W) (uL W (uR W - 1).toNat).toNat (-1) j
    rw [hR, hp]
    by_cases ej : j = p
    · rw [ej, uUp_s]
      exact g1
    · rw [uUp_d ej, f 126 j (by decide) (by decide) (by omega) (by omega) (by omega) (by omega)]
      exact a4 j hj
  · show w32 (m 128 j) = uL W j
    rw [f 128 j (by decide) (by decide) (by omega) (by omega) (by omega) (by omega)]
    exact a5 j hj
  · show w32 (m 129 j) = uP W j
    rw [f 129 j (by decide) (by decide) (by omega) (by omega) (by omega) (by omega)]
    exact a6 j hj
  · show w32 (m 127 0) = uR W - 1
    omega
  · show w32 (m 118 0) = uK W
    rw [f 118 0 (by decide) (by decide) (by omega) (by omega) (by omega) (by omega)]
    exact a8
  · show w32 (m 119 0) = w32 (uM W + uP W (uR W - 1).toNat)
    rw [hR]
    exact g5
  · show w32 (m 121 0) = uO W
    rw [f 121 0 (by decide) (by decide) (by omega) (by omega) (by omega) (by omega)]
    exact a10
  · show w32 (m 122 0) = uX W
    rw [f 122 0 (by decide) (by decide) (by omega) (by omega) (by omega) (by omega)]
    exact a11
  · show w32 (m 120 0) = uD W
    rw [f 120 0 (by decide) (by decide) (by omega) (by omega) (by omega) (by omega)]
    exact a12
section UN
variable {E : yE} {mem : yMem} {Q : Option yV → yMem → Prop} {D : dDc} {W : dU} {k p R : Nat} {H : Int}
theorem x_dis (hE : yEok E) {D0 : Nat} (hD : 1 ≤ D0) (hW : cW mem 57 W) (hR : (uR W - 1).toNat = R) (hR1 : uR W = (R : Int) + 1) (hR2 : R ≤ 11) (hL : uL W R = (p : Int)) (hp : p < 12) (hH : w32 H = -1 ∨ (0 ≤ w32 H ∧ w32 H < 3)) (hQ : ∀ m, (∀ i j, ¬ (57 ≤ i ∧ i ≤ 63) → m i j = mem i j) → cW m 57 (uUn W (w32 H)) → Q none m) : yCon E D0 xm_136 [(1, 57), (0, H)] mem Q := by
  obtain ⟨d, rfl⟩ := Nat.exists_eq_add_of_le' hD
  have a5 := hW.2.2.2.2.1 R (by omega)
  have a6 := hW.2.2.2.2.2.1 R (by omega)
  have a7 := hW.2.2.2.2.2.2.1
  have a9 := hW.2.2.2.2.2.2.2.2.1
  have r6 : w32 (mem 57 6 - 1) = (R : Int) := by rw [w32_sb (by rw [w32c_1]; omega) (by rw [w32c_1]; omega), w32c_1]; omega
  have Rt := w32_t r6
  have l5 : w32 (mem 62 R) = (p : Int) := a5.trans hL
  have a6 : w32 (mem 63 R) = uP W R := a6
  have Lt : (w32 (mem 62 R)).toNat = p := w32_t l5
  refine e_136 ?_
  refine zvc_ok hE 90 [] _ _ _ _ _ _ _ xmo_136 ?_
  simp only [ynok_30, ynok_31, w32c_0, w32c_1, w32c_2, w32c_3, w32c_4, w32c_5, w32c_6, w32c_7, w32c_8, w32c_9, w32c_10, w32c_11, w32c_12, w32c_13, w32c_14, w32c_m1, w32c_m2, w32c_118, Int.reduceAdd, Int.reduceSub, Int.reduceMul, yput_s, yput_n, znl_n, znl_0, znl_1, znl_4, ysum_n, ysum_0, ysum_1, ysum_4, true_and, and_true, Nat.reduceAdd, Nat.reduceLeDiff, true_implies, eq_self, true_or, or_true, or_false, false_or, not_true_eq_false, not_false_eq_true, false_implies, implies_true, yset_s, yset_o, yset_d, ne_eq, Nat.reduceEqDiff, Int.reduceToNat, Int.reduceEq, Int.reduceLE, Int.reduceLT, Classical.not_not, Nat.reduceLT, ↓zvk_s, ↓zvk_n, ↓s_136_0, ↓s_136_1_57, ↓s_136_1_64, ↓s_136_4, ↓s_136_7, ↓s_136_8, ↓s_136_9a, ↓s_136_9b, ↓s_136_10_57, ↓s_136_10_64, ↓s_136_13, ↓s_136_14, ↓s_136_15_57, ↓s_136_15_64, ↓s_136_18, ↓s_136_19_57, ↓s_136_19_64, ↓s_136_22, ↓s_136_23_57, ↓s_136_23_64, ↓s_136_26, ↓s_136_27_57, ↓s_136_27_64, ↓s_136_30, ↓s_136_31, ↓s_136_32, ↓s_136_33, ↓s_136_34a, ↓s_136_34b, ↓s_136_35_57, ↓s_136_35_64, ↓s_136_38, ↓s_136_39_57, ↓s_136_39_64, ↓s_136_42, ↓s_136_43_57, ↓s_136_43_64, ↓s_136_46, ↓s_136_47, ↓s_136_48_57, ↓s_136_48_64, ↓s_136_51, ↓s_136_52, ↓s_136_53, ↓s_136_56, ↓s_136_57_57, ↓s_136_57_64, ↓s_136_60, ↓s_136_61, ↓s_136_62, ↓s_136_63, ↓s_136_64_57, ↓s_136_64_64, ↓s_136_67, ↓s_136_68_57, ↓s_136_68_64, ↓s_136_71, ↓s_136_72, ↓s_136_73, ↓s_136_74, zio_64, zar_65, zia_65, zln_65, zit_65, zar_68, zia_68, zln_68, zit_68, zar_69, zia_69, zln_69, zit_69, zar_70, zia_70, zln_70, zit_70, zio_57, zar_58, zia_58, zln_58, zit_58, zar_61, zia_61, zln_61, zit_61, zar_62, zia_62, zln_62, zit_62, zar_63, zia_63, zln_63, zit_63, Rt, Lt]
  refine ⟨fun _ => ⟨⟨by omega, by omega⟩, ⟨by omega, by omega⟩, ⟨by omega, by omega⟩, fun z => ?_, fun z => ⟨⟨by omega, by omega⟩, ⟨by omega, by omega⟩, ⟨by omega, by omega⟩, ?_⟩⟩, fun z => absurd z (by omega)⟩
  · refine hQ _ (fun i j hij => ?_) (cW_un (p := p) hW hR hR1 (by rw [hL]; exact Int.toNat_natCast p) (fun i j i1 i2 i3 i4 => ?_) (fun j j1 j2 => ?_) ?_ ?_ ?_ (fun n => absurd z n))
    · rw [ysn (by omega), ysn (by omega), ysn (by omega)]
    · rw [ysn (by omega), ysn (by omega), ysn (by omega)]
    · rw [ysn (by omega), ysn (by omega), ysn (by omega)]
    · rw [yset_o (by decide), yset_s]; exact w32c_m1
    · rw [yset_d (by decide), yset_o (by decide), yset_s]; exact r6
    · rw [yset_s, w32_add, a9, a6]
  · have hh := hH.resolve_left z
    refine hQ _ (fun i j hij => ?_) (cW_un (p := p) hW hR hR1 (by rw [hL]; exact Int.toNat_natCast p) (fun i j i1 i2 i3 i4 => ?_) (fun j j1 j2 => ?_) ?_ ?_ ?_ (fun n => ?_))
    · rw [ysn (by omega), ysn (by omega), ysn (by omega), ysn (by omega)]
    · rw [ysn (by omega), ysn (by omega), ysn (by omega), ysn (by omega)]
    · rw [ysn (by omega), ysn (by omega), ysn (by omega), ysn (by omega)]
    · rw [yset_o (by decide), yset_o (by decide), yset_s]; exact w32c_m1
    · rw [yset_o (by decide), yset_d (by decide), yset_o (by decide), yset_s]; exact r6
    · rw [yset_o (by decide), yset_s, w32_add, a9, a6]
    · rw [yset_s, w32_sub, hW.1 _ (by omega), a6]
theorem x_undo (hE : yEok E) {D0 : Nat} (hD : 2 ≤ D0) (hW : cW mem 57 W) (h : cDh mem D) (hk : dOk D) (hu : uOk D k W) (hQ : ∀ r m W', (∀ i j, ¬ (57 ≤ i ∧ i ≤ 63) → m i j = mem i j) → sUnd D W (w32 r) W' → cW m 57 W' → Q (some (0, r)) m) : yCon E D0 xm_43 [(1, 0)] mem Q := by
  obtain ⟨d, rfl⟩ := Nat.exists_eq_add_of_le' hD
  obtain ⟨⟨n1, n1'⟩, ⟨n2, n2'⟩, -⟩ := cTb_n h
  have a7 := hW.2.2.2.2.2.2.1
  have bad : uR W = 0 → Q (some (0, -1)) mem := fun z => hQ _ mem W (fun _ _ _ => rfl) ⟨fun _ => ⟨w32c_m1, rfl⟩, fun c => absurd z c⟩ hW
  by_cases hz : uR W = 0
  · refine e_43 ?_
    refine zvc_ok hE 90 [] _ _ _ _ _ _ _ xmo_43 ?_
    simp only [ynok_30, ynok_31, w32c_0, w32c_1, w32c_2, w32c_3, w32c_4, w32c_5, w32c_6, w32c_7, w32c_8, w32c_9, w32c_10, w32c_11, w32c_12, w32c_13, w32c_14, w32c_m1, w32c_m2, w32c_118, Int.reduceAdd, Int.reduceSub, Int.reduceMul, yput_s, yput_n, znl_n, znl_0, znl_1, znl_4, ysum_n, ysum_0, ysum_1, ysum_4, true_and, and_true, Nat.reduceAdd, Nat.reduceLeDiff, true_implies, eq_self, true_or, or_true, or_false, false_or, not_true_eq_false, not_false_eq_true, false_implies, implies_true, yset_s, yset_o, yset_d, ne_eq, Nat.reduceEqDiff, Int.reduceToNat, Int.reduceEq, Int.reduceLE, Int.reduceLT, Classical.not_not, Nat.reduceLT, ↓zvk_s, ↓zvk_n, ↓s_43_0, ↓s_43_1, ↓s_43_4_57, ↓s_43_4_64, ↓s_43_7, ↓s_43_10, ↓s_43_11, ↓s_43_12, ↓s_43_13, ↓s_43_16_57, ↓s_43_16_64, ↓s_43_19, ↓s_43_20, ↓s_43_23_57, ↓s_43_23_64, ↓s_43_26, ↓s_43_27, ↓s_43_30_57, ↓s_43_30_64, ↓s_43_33, ↓s_43_34, ↓s_43_35, ↓s_43_36, ↓s_43_37n, ↓s_43_37i, ↓s_43_37p, ↓s_43_38, ↓s_43_39, ↓s_43_40, ↓s_43_43, ↓s_43_44, ↓s_43_47, ↓s_43_48, ↓s_43_51_2, ↓s_43_51_28, ↓s_43_54, ↓s_43_55, ↓s_43_56n, ↓s_43_56i, ↓s_43_56p, ↓s_43_57, ↓s_43_58, ↓s_43_59, ↓s_43_62, ↓s_43_63, ↓s_43_66_57, ↓s_43_66_64, ↓s_43_69, ↓s_43_70, ↓s_43_71, ↓s_43_72, ↓s_43_75_57, ↓s_43_75_64, ↓s_43_78, ↓s_43_79, ↓s_43_82_57, ↓s_43_82_64, ↓s_43_85, ↓s_43_86, ↓s_43_87, ↓s_43_88, ↓s_43_91, ↓s_43_93, ↓s_43_94, ↓s_43_95, ↓s_43_98, ↓s_43_99, ↓s_43_102, ↓s_43_103, ↓s_43_106_57, ↓s_43_106_64, ↓s_43_109, zio_0, zio_64, zio_2, zar_65, zia_65, zln_65, zit_65, zar_68, zia_68, zln_68, zit_68, zar_69, zia_69, zln_69, zit_69, zar_70, zia_70, zln_70, zit_70, zar_41, zia_41, zln_41, zit_41, zar_15, zia_15, zln_15, zit_15, zio_57, zar_58, zia_58, zln_58, zit_58, zio_28, zar_61, zia_61, zln_61, zit_61, zar_62, zia_62, zln_62, zit_62, zar_63, zia_63, zln_63, zit_63]
    exact ⟨fun z => absurd (a7.trans hz) z, fun _ => bad hz⟩
  obtain ⟨R, p, v, ⟨i1, i2, i3⟩, ⟨l1, l2, l3⟩, s1, hv, hh⟩ := uLast hu hz
  have a5 := hW.2.2.2.2.1 R (by omega)
  have a6 := hW.2.2.2.2.2.1 R (by omega)
  have a4 := hW.2.2.2.1 p (by omega)
  have r6 : w32 (mem 57 6 - 1) = (R : Int) := by rw [w32_sb (by rw [w32c_1]; omega) (by rw [w32c_1]; omega), w32c_1]; omega
  have Rt := w32_t r6
  have l5 : w32 (mem 62 R) = (p : Int) := a5.trans l1
  have l4 : w32 (mem 61 p) = (v : Int) := a4.trans s1
  have a6 : w32 (mem 63 R) = uP W R := a6
  have Lt : (w32 (mem 62 R)).toNat = p := w32_t l5
  have Vt : (w32 (mem 61 p)).toNat = v := w32_t l4
  have v3 := (cTb_v h hv).2.2.1
  have kv : -1 ≤ vHo D v ∧ vHo D v < (D.1.length : Int) := (dOk_v hk hv).2.1
  have fin : ¬ sUc D W → yCon E (d + 1) xm_136 [(1, 57), (0, mem 15 v)] mem (fun r m => zgk E (d + 1) xm_43 102 [some (1, 0), some (0, mem 61 p), some (0, mem 15 v)] [] r m Q) := fun nc => by
    refine x_dis hE (by omega) hW i3 i1 i2 l1 l2 (by omega) (fun m F c => ?_)
    refine zgk_n hE xmo_43 90 [] ?_
    simp only [ynok_30, ynok_31, w32c_0, w32c_1, w32c_2, w32c_3, w32c_4, w32c_5, w32c_6, w32c_7, w32c_8, w32c_9, w32c_10, w32c_11, w32c_12, w32c_13, w32c_14, w32c_m1, w32c_m2, w32c_118, Int.reduceAdd, Int.reduceSub, Int.reduceMul, yput_s, yput_n, znl_n, znl_0, znl_1, znl_4, ysum_n, ysum_0, ysum_1, ysum_4, true_and, and_true, Nat.reduceAdd, Nat.reduceLeDiff, true_implies, eq_self, true_or, or_true, or_false, false_or, not_true_eq_false, not_false_eq_true, false_implies, implies_true, yset_s, yset_o, yset_d, ne_eq, Nat.reduceEqDiff, Int.reduceToNat, Int.reduceEq, Int.reduceLE, Int.reduceLT, Classical.not_not, Nat.reduceLT, ↓zvk_s, ↓zvk_n, ↓s_43_0, ↓s_43_1, ↓s_43_4_57, ↓s_43_4_64, ↓s_43_7, ↓s_43_10, ↓s_43_11, ↓s_43_12, ↓s_43_13, ↓s_43_16_57, ↓s_43_16_64, ↓s_43_19, ↓s_43_20, ↓s_43_23_57, ↓s_43_23_64, ↓s_43_26, ↓s_43_27, ↓s_43_30_57, ↓s_43_30_64, ↓s_43_33, ↓s_43_34, ↓s_43_35, ↓s_43_36, ↓s_43_37n, ↓s_43_37i, ↓s_43_37p, ↓s_43_38, ↓s_43_39, ↓s_43_40, ↓s_43_43, ↓s_43_44, ↓s_43_47, ↓s_43_48, ↓s_43_51_2, ↓s_43_51_28, ↓s_43_54, ↓s_43_55, ↓s_43_56n, ↓s_43_56i, ↓s_43_56p, ↓s_43_57, ↓s_43_58, ↓s_43_59, ↓s_43_62, ↓s_43_63, ↓s_43_66_57, ↓s_43_66_64, ↓s_43_69, ↓s_43_70, ↓s_43_71, ↓s_43_72, ↓s_43_75_57, ↓s_43_75_64, ↓s_43_78, ↓s_43_79, ↓s_43_82_57, ↓s_43_82_64, ↓s_43_85, ↓s_43_86, ↓s_43_87, ↓s_43_88, ↓s_43_91, ↓s_43_93, ↓s_43_94, ↓s_43_95, ↓s_43_98, ↓s_43_99, ↓s_43_102, ↓s_43_103, ↓s_43_106_57, ↓s_43_106_64, ↓s_43_109, zio_0, zio_64, zio_2, zar_65, zia_65, zln_65, zit_65, zar_68, zia_68, zln_68, zit_68, zar_69, zia_69, zln_69, zit_69, zar_70, zia_70, zln_70, zit_70, zar_41, zia_41, zln_41, zit_41, zar_15, zia_15, zln_15, zit_15, zio_57, zar_58, zia_58, zln_58, zit_58, zio_28, zar_61, zia_61, zln_61, zit_61, zar_62, zia_62, zln_62, zit_62, zar_63, zia_63, zln_63, zit_63]
    refine hQ _ m _ F ⟨fun c => absurd c hz, fun _ => ⟨fun c => absurd c nc, fun _ => ⟨c.2.2.2.2.2.2.1, by rw [v3, hh]⟩⟩⟩ c
  refine e_43 ?_
  refine zvc_ok hE 90 [] _ _ _ _ _ _ _ xmo_43 ?_
  simp only [ynok_30, ynok_31, w32c_0, w32c_1, w32c_2, w32c_3, w32c_4, w32c_5, w32c_6, w32c_7, w32c_8, w32c_9, w32c_10, w32c_11, w32c_12, w32c_13, w32c_14, w32c_m1, w32c_m2, w32c_118, Int.reduceAdd, Int.reduceSub, Int.reduceMul, yput_s, yput_n, znl_n, znl_0, znl_1, znl_4, ysum_n, ysum_0, ysum_1, ysum_4, true_and, and_true, Nat.reduceAdd, Nat.reduceLeDiff, true_implies, eq_self, true_or, or_true, or_false, false_or, not_true_eq_false, not_false_eq_true, false_implies, implies_true, yset_s, yset_o, yset_d, ne_eq, Nat.reduceEqDiff, Int.reduceToNat, Int.reduceEq, Int.reduceLE, Int.reduceLT, Classical.not_not, Nat.reduceLT, ↓zvk_s, ↓zvk_n, ↓s_43_0, ↓s_43_1, ↓s_43_4_57, ↓s_43_4_64, ↓s_43_7, ↓s_43_10, ↓s_43_11, ↓s_43_12, ↓s_43_13, ↓s_43_16_57, ↓s_43_16_64, ↓s_43_19, ↓s_43_20, ↓s_43_23_57, ↓s_43_23_64, ↓s_43_26, ↓s_43_27, ↓s_43_30_57, ↓s_43_30_64, ↓s_43_33, ↓s_43_34, ↓s_43_35, ↓s_43_36, ↓s_43_37n, ↓s_43_37i, ↓s_43_37p, ↓s_43_38, ↓s_43_39, ↓s_43_40, ↓s_43_43, ↓s_43_44, ↓s_43_47, ↓s_43_48, ↓s_43_51_2, ↓s_43_51_28, ↓s_43_54, ↓s_43_55, ↓s_43_56n, ↓s_43_56i, ↓s_43_56p, ↓s_43_57, ↓s_43_58, ↓s_43_59, ↓s_43_62, ↓s_43_63, ↓s_43_66_57, ↓s_43_66_64, ↓s_43_69, ↓s_43_70, ↓s_43_71, ↓s_43_72, ↓s_43_75_57, ↓s_43_75_64, ↓s_43_78, ↓s_43_79, ↓s_43_82_57, ↓s_43_82_64, ↓s_43_85, ↓s_43_86, ↓s_43_87, ↓s_43_88, ↓s_43_91, ↓s_43_93, ↓s_43_94, ↓s_43_95, ↓s_43_98, ↓s_43_99, ↓s_43_102, ↓s_43_103, ↓s_43_106_57, ↓s_43_106_64, ↓s_43_109, zio_0, zio_64, zio_2, zar_65, zia_65, zln_65, zit_65, zar_68, zia_68, zln_68, zit_68, zar_69, zia_69, zln_69, zit_69, zar_70, zia_70, zln_70, zit_70, zar_41, zia_41, zln_41, zit_41, zar_15, zia_15, zln_15, zit_15, zio_57, zar_58, zia_58, zln_58, zit_58, zio_28, zar_61, zia_61, zln_61, zit_61, zar_62, zia_62, zln_62, zit_62, zar_63, zia_63, zln_63, zit_63, Rt, Lt, Vt]
  refine ⟨fun _ => ⟨⟨by omega, by omega⟩, ⟨by omega, by omega⟩, fun _ => ⟨⟨by omega, by omega⟩, fun z => ?_, fun z => ⟨⟨by omega, by omega⟩, ⟨by omega, by omega⟩, fun z2 => ?_, fun z2 => ?_⟩⟩, fun z => absurd z (by omega)⟩, fun z => absurd (a7.symm.trans z) hz⟩
  · exact fin (fun c => c.1 (by rw [hh, ← v3]; exact z))
  · refine fin (fun c => ?_)
    have c2 := c.2
    rw [hh, ← v3, i3, ← a6] at c2
    have c1 : w32 (mem 58 (w32 (mem 15 v)).toNat) = uT W (w32 (mem 15 v)).toNat := hW.1 _ (by omega)
    omega
  · have c1 : w32 (mem 58 (w32 (mem 15 v)).toNat) = uT W (w32 (mem 15 v)).toNat := hW.1 _ (by omega)
    refine hQ _ mem W (fun _ _ _ => rfl) ⟨fun c => absurd c hz, fun _ => ⟨fun _ => ⟨w32c_m2, rfl⟩, fun c => absurd ⟨by rw [hh, ← v3]; exact z, ?_⟩ c⟩⟩ hW
    rw [hh, ← v3, i3, ← a6]
    omega
end UN
end
