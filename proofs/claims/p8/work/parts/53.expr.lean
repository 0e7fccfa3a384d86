def zc_217 : List Nat := [162]
theorem s_217_0 {E : yE} {n d : Nat} {mem : yMem} {Post : Option yV → yMem → Prop} {st : List yV} {r1 : Option yV} {x : Int} : zvc E (n + 1) zc_217 d xm_217 0 [some (1, x), r1] (st) mem Post = (zvc E n zc_217 d xm_217 1 [some (1, x), r1] ((1, x) :: st) mem Post) := zrf rfl
theorem s_217_1 {E : yE} {n d : Nat} {mem : yMem} {Post : Option yV → yMem → Prop} {st : List yV} {r0 r1 : Option yV} : zvc E (n + 1) zc_217 d xm_217 1 [r0, r1] ((1, 95) :: st) mem Post = (zvc E n zc_217 d xm_217 4 [r0, r1] ((0, mem 95 31) :: st) mem Post) := zrf rfl
theorem s_217_4 {E : yE} {n d : Nat} {mem : yMem} {Post : Option yV → yMem → Prop} {st : List yV} {r0 r1 : Option yV} {x : Int} : zvc E (n + 1) zc_217 d xm_217 4 [r0, r1] ((0, x) :: st) mem Post = ((w32 x = w32 0 → zvc E n zc_217 d xm_217 8 [r0, r1] (st) mem Post) ∧ (¬ (w32 x = w32 0) → zvc E n zc_217 d xm_217 7 [r0, r1] (st) mem Post)) := zrf rfl
theorem s_217_7 {E : yE} {n d : Nat} {mem : yMem} {Post : Option yV → yMem → Prop} {r0 r1 : Option yV} : zvc E (n + 1) zc_217 d xm_217 7 [r0, r1] ([]) mem Post = (Post none mem) := zrf rfl
theorem s_217_8 {E : yE} {n d : Nat} {mem : yMem} {Post : Option yV → yMem → Prop} {st : List yV} {r1 : Option yV} {x : Int} : zvc E (n + 1) zc_217 d xm_217 8 [some (1, x), r1] (st) mem Post = (zvc E n zc_217 d xm_217 9 [some (1, x), r1] ((1, x) :: st) mem Post) := zrf rfl
theorem s_217_9 {E : yE} {n d : Nat} {mem : yMem} {Post : Option yV → yMem → Prop} {st : List yV} {r0 r1 : Option yV} : zvc E (n + 1) zc_217 d xm_217 9 [r0, r1] (st) mem Post = (zvc E n zc_217 d xm_217 11 [r0, r1] ((0, 40) :: st) mem Post) := zrf rfl
theorem s_217_11 {E : yE} {n d : Nat} {mem : yMem} {Post : Option yV → yMem → Prop} {st : List yV} {r0 r1 : Option yV} {z a0 : Int} : zvc E (n + 1) zc_217 (d + 1) xm_217 11 [r0, r1] ((0, a0) :: (1, z) :: st) mem Post = (zio z 12 = true ∧ ysum st ≤ 8 ∧ zvc E n [] d xm_191 0 [some (1, z), some (0, a0)] [] mem (fun v mem' => zvk E n zc_217 (d + 1) xm_217 14 [r0, r1] st v mem' Post)) := zrf rfl
theorem s_217_14 {E : yE} {n d : Nat} {mem : yMem} {Post : Option yV → yMem → Prop} {st : List yV} {r0 r1 : Option yV} {x : Int} : zvc E (n + 1) zc_217 d xm_217 14 [r0, r1] ((0, x) :: st) mem Post = ((w32 x = w32 0 → zvc E n zc_217 d xm_217 101 [r0, r1] (st) mem Post) ∧ (¬ (w32 x = w32 0) → zvc E n zc_217 d xm_217 17 [r0, r1] (st) mem Post)) := zrf rfl
theorem s_217_17 {E : yE} {n d : Nat} {mem : yMem} {Post : Option yV → yMem → Prop} {st : List yV} {r1 : Option yV} {x : Int} : zvc E (n + 1) zc_217 d xm_217 17 [some (1, x), r1] (st) mem Post = (zvc E n zc_217 d xm_217 18 [some (1, x), r1] ((1, x) :: st) mem Post) := zrf rfl
theorem s_217_18 {E : yE} {n d : Nat} {mem : yMem} {Post : Option yV → yMem → Prop} {st : List yV} {r0 r1 : Option yV} : zvc E (n + 1) zc_217 d xm_217 18 [r0, r1] ((1, 95) :: st) mem Post = (zvc E n zc_217 d xm_217 21 [r0, r1] ((0, mem 95 35) :: st) mem Post) := zrf rfl
theorem s_217_21 {E : yE} {n d : Nat} {mem : yMem} {Post : Option yV → yMem → Prop} {st : List yV} {r0 r1 : Option yV} : zvc E (n + 1) zc_217 d xm_217 21 [r0, r1] (st) mem Post = (zvc E n zc_217 d xm_217 23 [r0, r1] ((0, 8) :: st) mem Post) := zrf rfl
theorem s_217_23 {E : yE} {n d : Nat} {mem : yMem} {Post : Option yV → yMem → Prop} {st : List yV} {r0 r1 : Option yV} {x y : Int} : zvc E (n + 1) zc_217 d xm_217 23 [r0, r1] ((0, y) :: (0, x) :: st) mem Post = ((¬ w32 x = w32 y → zvc E n zc_217 d xm_217 31 [r0, r1] (st) mem Post) ∧ (¬ (¬ w32 x = w32 y) → zvc E n zc_217 d xm_217 26 [r0, r1] (st) mem Post)) := zrf rfl
theorem s_217_26 {E : yE} {n d : Nat} {mem : yMem} {Post : Option yV → yMem → Prop} {st : List yV} {r1 : Option yV} {x : Int} : zvc E (n + 1) zc_217 d xm_217 26 [some (1, x), r1] (st) mem Post = (zvc E n zc_217 d xm_217 27 [some (1, x), r1] ((1, x) :: st) mem Post) := zrf rfl
theorem s_217_27 {E : yE} {n d : Nat} {mem : yMem} {Post : Option yV → yMem → Prop} {st : List yV} {r0 r1 : Option yV} : zvc E (n + 1) zc_217 d xm_217 27 [r0, r1] (st) mem Post = (zvc E n zc_217 d xm_217 28 [r0, r1] ((0, 2) :: st) mem Post) := zrf rfl
theorem s_217_28 {E : yE} {n d : Nat} {mem : yMem} {Post : Option yV → yMem → Prop} {st : List yV} {r0 r1 : Option yV} {z a0 : Int} : zvc E (n + 1) zc_217 (d + 1) xm_217 28 [r0, r1] ((0, a0) :: (1, z) :: st) mem Post = (zio z 12 = true ∧ ysum st ≤ 8 ∧ zvc E n [] d xm_254 0 [some (1, z), some (0, a0)] [] mem (fun v mem' => zvk E n zc_217 (d + 1) xm_217 31 [r0, r1] st v mem' Post)) := zrf rfl
theorem s_217_31 {E : yE} {n d : Nat} {mem : yMem} {Post : Option yV → yMem → Prop} {st : List yV} {r1 : Option yV} {x : Int} : zvc E (n + 1) zc_217 d xm_217 31 [some (1, x), r1] (st) mem Post = (zvc E n zc_217 d xm_217 32 [some (1, x), r1] ((1, x) :: st) mem Post) := zrf rfl
theorem s_217_32 {E : yE} {n d : Nat} {mem : yMem} {Post : Option yV → yMem → Prop} {st : List yV} {r0 r1 : Option yV} : zvc E (n + 1) zc_217 d xm_217 32 [r0, r1] ((1, 95) :: st) mem Post = (zvc E n zc_217 d xm_217 35 [r0, r1] ((0, mem 95 31) :: st) mem Post) := zrf rfl
theorem s_217_35 {E : yE} {n d : Nat} {mem : yMem} {Post : Option yV → yMem → Prop} {st : List yV} {r0 r1 : Option yV} {x : Int} : zvc E (n + 1) zc_217 d xm_217 35 [r0, r1] ((0, x) :: st) mem Post = ((w32 x = w32 0 → zvc E n zc_217 d xm_217 39 [r0, r1] (st) mem Post) ∧ (¬ (w32 x = w32 0) → zvc E n zc_217 d xm_217 38 [r0, r1] (st) mem Post)) := zrf rfl
theorem s_217_38 {E : yE} {n d : Nat} {mem : yMem} {Post : Option yV → yMem → Prop} {r0 r1 : Option yV} : zvc E (n + 1) zc_217 d xm_217 38 [r0, r1] ([]) mem Post = (Post none mem) := zrf rfl
theorem s_217_39 {E : yE} {n d : Nat} {mem : yMem} {Post : Option yV → yMem → Prop} {st : List yV} {r1 : Option yV} {x : Int} : zvc E (n + 1) zc_217 d xm_217 39 [some (1, x), r1] (st) mem Post = (zvc E n zc_217 d xm_217 40 [some (1, x), r1] ((1, x) :: st) mem Post) := zrf rfl
theorem s_217_40a {E : yE} {n d : Nat} {mem : yMem} {Post : Option yV → yMem → Prop} {st : List yV} {r0 r1 : Option yV} {x : Int} : zvc E (n + 1) zc_217 d xm_217 40 [r0, r1] ((0, x) :: st) mem Post = (zvc E n zc_217 d xm_217 41 [r0, r1] ((0, x) :: (0, x) :: st) mem Post) := zrf rfl
theorem s_217_40b {E : yE} {n d : Nat} {mem : yMem} {Post : Option yV → yMem → Prop} {st : List yV} {r0 r1 : Option yV} {x : Int} : zvc E (n + 1) zc_217 d xm_217 40 [r0, r1] ((1, x) :: st) mem Post = (zvc E n zc_217 d xm_217 41 [r0, r1] ((1, x) :: (1, x) :: st) mem Post) := zrf rfl
theorem s_217_41 {E : yE} {n d : Nat} {mem : yMem} {Post : Option yV → yMem → Prop} {st : List yV} {r0 r1 : Option yV} : zvc E (n + 1) zc_217 d xm_217 41 [r0, r1] ((1, 95) :: st) mem Post = (zvc E n zc_217 d xm_217 44 [r0, r1] ((0, mem 95 35) :: st) mem Post) := zrf rfl
theorem s_217_44 {E : yE} {n d : Nat} {mem : yMem} {Post : Option yV → yMem → Prop} {st : List yV} {r0 r1 : Option yV} : zvc E (n + 1) zc_217 d xm_217 44 [r0, r1] (st) mem Post = (zvc E n zc_217 d xm_217 45 [r0, r1] ((0, 1) :: st) mem Post) := zrf rfl
theorem s_217_45 {E : yE} {n d : Nat} {mem : yMem} {Post : Option yV → yMem → Prop} {st : List yV} {r0 r1 : Option yV} {x y : Int} : zvc E (n + 1) zc_217 d xm_217 45 [r0, r1] ((0, y) :: (0, x) :: st) mem Post = (zvc E n zc_217 d xm_217 46 [r0, r1] ((0, x + y) :: st) mem Post) := zrf rfl
theorem s_217_46 {E : yE} {n d : Nat} {mem : yMem} {Post : Option yV → yMem → Prop} {st : List yV} {r0 r1 : Option yV} {x : Int} : zvc E (n + 1) zc_217 d xm_217 46 [r0, r1] ((0, x) :: (1, 95) :: st) mem Post = (zvc E n zc_217 d xm_217 49 [r0, r1] (st) (yset mem 95 35 x) Post) := zrf rfl
theorem s_217_49 {E : yE} {n d : Nat} {mem : yMem} {Post : Option yV → yMem → Prop} {st : List yV} {r1 : Option yV} {x : Int} : zvc E (n + 1) zc_217 d xm_217 49 [some (1, x), r1] (st) mem Post = (zvc E n zc_217 d xm_217 50 [some (1, x), r1] ((1, x) :: st) mem Post) := zrf rfl
theorem s_217_50 {E : yE} {n d : Nat} {mem : yMem} {Post : Option yV → yMem → Prop} {st : List yV} {r0 r1 : Option yV} {z : Int} : zvc E (n + 1) zc_217 d xm_217 50 [r0, r1] ((1, z) :: st) mem Post = (zio z 12 = true ∧ ysum st ≤ 8 ∧ yCon E d xm_244 [(1, z)] mem (fun v mem' => zgk E d xm_217 53 [r0, r1] st v mem' Post)) := zrf rfl
theorem s_217_53 {E : yE} {n d : Nat} {mem : yMem} {Post : Option yV → yMem → Prop} {st : List yV} {r1 : Option yV} {x : Int} : zvc E (n + 1) zc_217 d xm_217 53 [some (1, x), r1] (st) mem Post = (zvc E n zc_217 d xm_217 54 [some (1, x), r1] ((1, x) :: st) mem Post) := zrf rfl
theorem s_217_54 {E : yE} {n d : Nat} {mem : yMem} {Post : Option yV → yMem → Prop} {st : List yV} {r0 r1 : Option yV} {z : Int} : zvc E (n + 1) zc_217 d xm_217 54 [r0, r1] ((1, z) :: st) mem Post = (zio z 12 = true ∧ ysum st ≤ 8 ∧ yCon E d xm_165 [(1, z)] mem (fun v mem' => zgk E d xm_217 57 [r0, r1] st v mem' Post)) := zrf rfl
theorem s_217_57 {E : yE} {n d : Nat} {mem : yMem} {Post : Option yV → yMem → Prop} {st : List yV} {r1 : Option yV} {x : Int} : zvc E (n + 1) zc_217 d xm_217 57 [some (1, x), r1] (st) mem Post = (zvc E n zc_217 d xm_217 58 [some (1, x), r1] ((1, x) :: st) mem Post) := zrf rfl
theorem s_217_58 {E : yE} {n d : Nat} {mem : yMem} {Post : Option yV → yMem → Prop} {st : List yV} {r0 r1 : Option yV} : zvc E (n + 1) zc_217 d xm_217 58 [r0, r1] ((1, 95) :: st) mem Post = (zvc E n zc_217 d xm_217 61 [r0, r1] ((0, mem 95 31) :: st) mem Post) := zrf rfl
theorem s_217_61 {E : yE} {n d : Nat} {mem : yMem} {Post : Option yV → yMem → Prop} {st : List yV} {r0 r1 : Option yV} {x : Int} : zvc E (n + 1) zc_217 d xm_217 61 [r0, r1] ((0, x) :: st) mem Post = ((¬ w32 x = w32 0 → zvc E n zc_217 d xm_217 78 [r0, r1] (st) mem Post) ∧ (¬ (¬ w32 x = w32 0) → zvc E n zc_217 d xm_217 64 [r0, r1] (st) mem Post)) := zrf rfl
theorem s_217_64 {E : yE} {n d : Nat} {mem : yMem} {Post : Option yV → yMem → Prop} {st : List yV} {r1 : Option yV} {x : Int} : zvc E (n + 1) zc_217 d xm_217 64 [some (1, x), r1] (st) mem Post = (zvc E n zc_217 d xm_217 65 [some (1, x), r1] ((1, x) :: st) mem Post) := zrf rfl
theorem s_217_65 {E : yE} {n d : Nat} {mem : yMem} {Post : Option yV → yMem → Prop} {st : List yV} {r0 r1 : Option yV} : zvc E (n + 1) zc_217 d xm_217 65 [r0, r1] (st) mem Post = (zvc E n zc_217 d xm_217 67 [r0, r1] ((0, 41) :: st) mem Post) := zrf rfl
theorem s_217_67 {E : yE} {n d : Nat} {mem : yMem} {Post : Option yV → yMem → Prop} {st : List yV} {r0 r1 : Option yV} {z a0 : Int} : zvc E (n + 1) zc_217 (d + 1) xm_217 67 [r0, r1] ((0, a0) :: (1, z) :: st) mem Post = (zio z 12 = true ∧ ysum st ≤ 8 ∧ zvc E n [] d xm_191 0 [some (1, z), some (0, a0)] [] mem (fun v mem' => zvk E n zc_217 (d + 1) xm_217 70 [r0, r1] st v mem' Post)) := zrf rfl
theorem s_217_70 {E : yE} {n d : Nat} {mem : yMem} {Post : Option yV → yMem → Prop} {st : List yV} {r0 r1 : Option yV} {x : Int} : zvc E (n + 1) zc_217 d xm_217 70 [r0, r1] ((0, x) :: st) mem Post = ((¬ w32 x = w32 0 → zvc E n zc_217 d xm_217 78 [r0, r1] (st) mem Post) ∧ (¬ (¬ w32 x = w32 0) → zvc E n zc_217 d xm_217 73 [r0, r1] (st) mem Post)) := zrf rfl
theorem s_217_73 {E : yE} {n d : Nat} {mem : yMem} {Post : Option yV → yMem → Prop} {st : List yV} {r1 : Option yV} {x : Int} : zvc E (n + 1) zc_217 d xm_217 73 [some (1, x), r1] (st) mem Post = (zvc E n zc_217 d xm_217 74 [some (1, x), r1] ((1, x) :: st) mem Post) := zrf rfl
theorem s_217_74 {E : yE} {n d : Nat} {mem : yMem} {Post : Option yV → yMem → Prop} {st : List yV} {r0 r1 : Option yV} : zvc E (n + 1) zc_217 d xm_217 74 [r0, r1] (st) mem Post = (zvc E n zc_217 d xm_217 75 [r0, r1] ((0, 1) :: st) mem Post) := zrf rfl
theorem s_217_75 {E : yE} {n d : Nat} {mem : yMem} {Post : Option yV → yMem → Prop} {st : List yV} {r0 r1 : Option yV} {z a0 : Int} : zvc E (n + 1) zc_217 (d + 1) xm_217 75 [r0, r1] ((0, a0) :: (1, z) :: st) mem Post = (zio z 12 = true ∧ ysum st ≤ 8 ∧ zvc E n [] d xm_254 0 [some (1, z), some (0, a0)] [] mem (fun v mem' => zvk E n zc_217 (d + 1) xm_217 78 [r0, r1] st v mem' Post)) := zrf rfl
theorem s_217_78 {E : yE} {n d : Nat} {mem : yMem} {Post : Option yV → yMem → Prop} {st : List yV} {r1 : Option yV} {x : Int} : zvc E (n + 1) zc_217 d xm_217 78 [some (1, x), r1] (st) mem Post = (zvc E n zc_217 d xm_217 79 [some (1, x), r1] ((1, x) :: st) mem Post) := zrf rfl
theorem s_217_79 {E : yE} {n d : Nat} {mem : yMem} {Post : Option yV → yMem → Prop} {st : List yV} {r0 r1 : Option yV} : zvc E (n + 1) zc_217 d xm_217 79 [r0, r1] ((1, 95) :: st) mem Post = (zvc E n zc_217 d xm_217 82 [r0, r1] ((0, mem 95 31) :: st) mem Post) := zrf rfl
theorem s_217_82 {E : yE} {n d : Nat} {mem : yMem} {Post : Option yV → yMem → Prop} {st : List yV} {r0 r1 : Option yV} {x : Int} : zvc E (n + 1) zc_217 d xm_217 82 [r0, r1] ((0, x) :: st) mem Post = ((w32 x = w32 0 → zvc E n zc_217 d xm_217 86 [r0, r1] (st) mem Post) ∧ (¬ (w32 x = w32 0) → zvc E n zc_217 d xm_217 85 [r0, r1] (st) mem Post)) := zrf rfl
theorem s_217_85 {E : yE} {n d : Nat} {mem : yMem} {Post : Option yV → yMem → Prop} {r0 r1 : Option yV} : zvc E (n + 1) zc_217 d xm_217 85 [r0, r1] ([]) mem Post = (Post none mem) := zrf rfl
theorem s_217_86 {E : yE} {n d : Nat} {mem : yMem} {Post : Option yV → yMem → Prop} {st : List yV} {r1 : Option yV} {x : Int} : zvc E (n + 1) zc_217 d xm_217 86 [some (1, x), r1] (st) mem Post = (zvc E n zc_217 d xm_217 87 [some (1, x), r1] ((1, x) :: st) mem Post) := zrf rfl
theorem s_217_87a {E : yE} {n d : Nat} {mem : yMem} {Post : Option yV → yMem → Prop} {st : List yV} {r0 r1 : Option yV} {x : Int} : zvc E (n + 1) zc_217 d xm_217 87 [r0, r1] ((0, x) :: st) mem Post = (zvc E n zc_217 d xm_217 88 [r0, r1] ((0, x) :: (0, x) :: st) mem Post) := zrf rfl
theorem s_217_87b {E : yE} {n d : Nat} {mem : yMem} {Post : Option yV → yMem → Prop} {st : List yV} {r0 r1 : Option yV} {x : Int} : zvc E (n + 1) zc_217 d xm_217 87 [r0, r1] ((1, x) :: st) mem Post = (zvc E n zc_217 d xm_217 88 [r0, r1] ((1, x) :: (1, x) :: st) mem Post) := zrf rfl
theorem s_217_88 {E : yE} {n d : Nat} {mem : yMem} {Post : Option yV → yMem → Prop} {st : List yV} {r0 r1 : Option yV} : zvc E (n + 1) zc_217 d xm_217 88 [r0, r1] ((1, 95) :: st) mem Post = (zvc E n zc_217 d xm_217 91 [r0, r1] ((0, mem 95 35) :: st) mem Post) := zrf rfl
theorem s_217_91 {E : yE} {n d : Nat} {mem : yMem} {Post : Option yV → yMem → Prop} {st : List yV} {r0 r1 : Option yV} : zvc E (n + 1) zc_217 d xm_217 91 [r0, r1] (st) mem Post = (zvc E n zc_217 d xm_217 92 [r0, r1] ((0, 1) :: st) mem Post) := zrf rfl
theorem s_217_92 {E : yE} {n d : Nat} {mem : yMem} {Post : Option yV → yMem → Prop} {st : List yV} {r0 r1 : Option yV} {x y : Int} : zvc E (n + 1) zc_217 d xm_217 92 [r0, r1] ((0, y) :: (0, x) :: st) mem Post = (zvc E n zc_217 d xm_217 93 [r0, r1] ((0, x - y) :: st) mem Post) := zrf rfl
theorem s_217_93 {E : yE} {n d : Nat} {mem : yMem} {Post : Option yV → yMem → Prop} {st : List yV} {r0 r1 : Option yV} {x : Int} : zvc E (n + 1) zc_217 d xm_217 93 [r0, r1] ((0, x) :: (1, 95) :: st) mem Post = (zvc E n zc_217 d xm_217 96 [r0, r1] (st) (yset mem 95 35 x) Post) := zrf rfl
theorem s_217_96 {E : yE} {n d : Nat} {mem : yMem} {Post : Option yV → yMem → Prop} {st : List yV} {r1 : Option yV} {x : Int} : zvc E (n + 1) zc_217 d xm_217 96 [some (1, x), r1] (st) mem Post = (zvc E n zc_217 d xm_217 97 [some (1, x), r1] ((1, x) :: st) mem Post) := zrf rfl
theorem s_217_97 {E : yE} {n d : Nat} {mem : yMem} {Post : Option yV → yMem → Prop} {st : List yV} {r0 r1 : Option yV} {z : Int} : zvc E (n + 1) zc_217 d xm_217 97 [r0, r1] ((1, z) :: st) mem Post = (zio z 12 = true ∧ ysum st ≤ 8 ∧ yCon E d xm_244 [(1, z)] mem (fun v mem' => zgk E d xm_217 100 [r0, r1] st v mem' Post)) := zrf rfl
theorem s_217_100 {E : yE} {n d : Nat} {mem : yMem} {Post : Option yV → yMem → Prop} {r0 r1 : Option yV} : zvc E (n + 1) zc_217 d xm_217 100 [r0, r1] ([]) mem Post = (Post none mem) := zrf rfl
theorem s_217_101 {E : yE} {n d : Nat} {mem : yMem} {Post : Option yV → yMem → Prop} {st : List yV} {r1 : Option yV} {x : Int} : zvc E (n + 1) zc_217 d xm_217 101 [some (1, x), r1] (st) mem Post = (zvc E n zc_217 d xm_217 102 [some (1, x), r1] ((1, x) :: st) mem Post) := zrf rfl
theorem s_217_102 {E : yE} {n d : Nat} {mem : yMem} {Post : Option yV → yMem → Prop} {st : List yV} {r0 r1 : Option yV} : zvc E (n + 1) zc_217 d xm_217 102 [r0, r1] ((1, 95) :: st) mem Post = (zvc E n zc_217 d xm_217 105 [r0, r1] ((0, mem 95 29) :: st) mem Post) := zrf rfl
theorem s_217_105 {E : yE} {n d : Nat} {mem : yMem} {Post : Option yV → yMem → Prop} {st : List yV} {r0 r1 : Option yV} : zvc E (n + 1) zc_217 d xm_217 105 [r0, r1] (st) mem Post = (zvc E n zc_217 d xm_217 106 [r0, r1] ((0, 2) :: st) mem Post) := zrf rfl
theorem s_217_106 {E : yE} {n d : Nat} {mem : yMem} {Post : Option yV → yMem → Prop} {st : List yV} {r0 r1 : Option yV} {x y : Int} : zvc E (n + 1) zc_217 d xm_217 106 [r0, r1] ((0, y) :: (0, x) :: st) mem Post = ((¬ w32 x = w32 y → zvc E n zc_217 d xm_217 113 [r0, r1] (st) mem Post) ∧ (¬ (¬ w32 x = w32 y) → zvc E n zc_217 d xm_217 109 [r0, r1] (st) mem Post)) := zrf rfl
theorem s_217_109 {E : yE} {n d : Nat} {mem : yMem} {Post : Option yV → yMem → Prop} {st : List yV} {r0 r1 : Option yV} : zvc E (n + 1) zc_217 d xm_217 109 [r0, r1] (st) mem Post = (zvc E n zc_217 d xm_217 110 [r0, r1] ((0, 1) :: st) mem Post) := zrf rfl
theorem s_217_110 {E : yE} {n d : Nat} {mem : yMem} {Post : Option yV → yMem → Prop} {st : List yV} {r0 r1 : Option yV} : zvc E (n + 1) zc_217 d xm_217 110 [r0, r1] (st) mem Post = (zvc E n zc_217 d xm_217 114 [r0, r1] (st) mem Post) := zrf rfl
theorem s_217_113 {E : yE} {n d : Nat} {mem : yMem} {Post : Option yV → yMem → Prop} {st : List yV} {r0 r1 : Option yV} : zvc E (n + 1) zc_217 d xm_217 113 [r0, r1] (st) mem Post = (zvc E n zc_217 d xm_217 114 [r0, r1] ((0, 0) :: st) mem Post) := zrf rfl
theorem s_217_114n {E : yE} {n d : Nat} {mem : yMem} {Post : Option yV → yMem → Prop} {st : List yV} {r1 : Option yV} {x : Int} : zvc E (n + 1) zc_217 d xm_217 114 [none, r1] ((0, x) :: st) mem Post = (zvc E n zc_217 d xm_217 115 [none, some (0, x)] (st) mem Post) := zrf rfl
theorem s_217_114i {E : yE} {n d : Nat} {mem : yMem} {Post : Option yV → yMem → Prop} {st : List yV} {r1 : Option yV} {x w : Int} : zvc E (n + 1) zc_217 d xm_217 114 [some (0, w), r1] ((0, x) :: st) mem Post = (zvc E n zc_217 d xm_217 115 [some (0, w), some (0, x)] (st) mem Post) := zrf rfl
theorem s_217_114p {E : yE} {n d : Nat} {mem : yMem} {Post : Option yV → yMem → Prop} {st : List yV} {r1 : Option yV} {x w : Int} : zvc E (n + 1) zc_217 d xm_217 114 [some (1, w), r1] ((0, x) :: st) mem Post = (zvc E n zc_217 d xm_217 115 [some (1, w), some (0, x)] (st) mem Post) := zrf rfl
theorem s_217_114j {E : yE} {n d : Nat} {mem : yMem} {Post : Option yV → yMem → Prop} {st : List yV} {r0 r1 : Option yV} {x : Int} : zvc E (n + 1) zc_217 d xm_217 114 [r0, r1] ((0, x) :: st) mem Post = (zvc E n zc_217 d xm_217 115 [znl r0, some (0, x)] (st) mem Post) := zrf rfl
theorem s_217_115 {E : yE} {n d : Nat} {mem : yMem} {Post : Option yV → yMem → Prop} {st : List yV} {r0 : Option yV} {x : Int} : zvc E (n + 1) zc_217 d xm_217 115 [r0, some (0, x)] (st) mem Post = (zvc E n zc_217 d xm_217 116 [r0, some (0, x)] ((0, x) :: st) mem Post) := zrf rfl
theorem s_217_116 {E : yE} {n d : Nat} {mem : yMem} {Post : Option yV → yMem → Prop} {st : List yV} {r0 r1 : Option yV} {x : Int} : zvc E (n + 1) zc_217 d xm_217 116 [r0, r1] ((0, x) :: st) mem Post = ((w32 x = w32 0 → zvc E n zc_217 d xm_217 137 [r0, r1] (st) mem Post) ∧ (¬ (w32 x = w32 0) → zvc E n zc_217 d xm_217 119 [r0, r1] (st) mem Post)) := zrf rfl
theorem s_217_119 {E : yE} {n d : Nat} {mem : yMem} {Post : Option yV → yMem → Prop} {st : List yV} {r1 : Option yV} {x : Int} : zvc E (n + 1) zc_217 d xm_217 119 [some (1, x), r1] (st) mem Post = (zvc E n zc_217 d xm_217 120 [some (1, x), r1] ((1, x) :: st) mem Post) := zrf rfl
theorem s_217_120 {E : yE} {n d : Nat} {mem : yMem} {Post : Option yV → yMem → Prop} {st : List yV} {r0 r1 : Option yV} : zvc E (n + 1) zc_217 d xm_217 120 [r0, r1] ((1, 95) :: st) mem Post = (zvc E n zc_217 d xm_217 123 [r0, r1] ((0, mem 95 30) :: st) mem Post) := zrf rfl
theorem s_217_123 {E : yE} {n d : Nat} {mem : yMem} {Post : Option yV → yMem → Prop} {st : List yV} {r0 r1 : Option yV} : zvc E (n + 1) zc_217 d xm_217 123 [r0, r1] (st) mem Post = (zvc E n zc_217 d xm_217 126 [r0, r1] ((0, 9999) :: st) mem Post) := zrf rfl
theorem s_217_126 {E : yE} {n d : Nat} {mem : yMem} {Post : Option yV → yMem → Prop} {st : List yV} {r0 r1 : Option yV} {x y : Int} : zvc E (n + 1) zc_217 d xm_217 126 [r0, r1] ((0, y) :: (0, x) :: st) mem Post = ((w32 x ≤ w32 y → zvc E n zc_217 d xm_217 137 [r0, r1] (st) mem Post) ∧ (¬ (w32 x ≤ w32 y) → zvc E n zc_217 d xm_217 129 [r0, r1] (st) mem Post)) := zrf rfl
theorem s_217_129 {E : yE} {n d : Nat} {mem : yMem} {Post : Option yV → yMem → Prop} {st : List yV} {r1 : Option yV} {x : Int} : zvc E (n + 1) zc_217 d xm_217 129 [some (1, x), r1] (st) mem Post = (zvc E n zc_217 d xm_217 130 [some (1, x), r1] ((1, x) :: st) mem Post) := zrf rfl
theorem s_217_130 {E : yE} {n d : Nat} {mem : yMem} {Post : Option yV → yMem → Prop} {st : List yV} {r0 r1 : Option yV} : zvc E (n + 1) zc_217 d xm_217 130 [r0, r1] (st) mem Post = (zvc E n zc_217 d xm_217 131 [r0, r1] ((0, 2) :: st) mem Post) := zrf rfl
theorem s_217_131 {E : yE} {n d : Nat} {mem : yMem} {Post : Option yV → yMem → Prop} {st : List yV} {r0 r1 : Option yV} {z a0 : Int} : zvc E (n + 1) zc_217 (d + 1) xm_217 131 [r0, r1] ((0, a0) :: (1, z) :: st) mem Post = (zio z 12 = true ∧ ysum st ≤ 8 ∧ zvc E n [] d xm_254 0 [some (1, z), some (0, a0)] [] mem (fun v mem' => zvk E n zc_217 (d + 1) xm_217 134 [r0, r1] st v mem' Post)) := zrf rfl
theorem s_217_134 {E : yE} {n d : Nat} {mem : yMem} {Post : Option yV → yMem → Prop} {st : List yV} {r0 r1 : Option yV} : zvc E (n + 1) zc_217 d xm_217 134 [r0, r1] (st) mem Post = (zvc E n zc_217 d xm_217 162 [r0, r1] (st) mem Post) := zrf rfl
theorem s_217_137 {E : yE} {n d : Nat} {mem : yMem} {Post : Option yV → yMem → Prop} {st : List yV} {r0 : Option yV} {x : Int} : zvc E (n + 1) zc_217 d xm_217 137 [r0, some (0, x)] (st) mem Post = (zvc E n zc_217 d xm_217 138 [r0, some (0, x)] ((0, x) :: st) mem Post) := zrf rfl
theorem s_217_138 {E : yE} {n d : Nat} {mem : yMem} {Post : Option yV → yMem → Prop} {st : List yV} {r0 r1 : Option yV} {x : Int} : zvc E (n + 1) zc_217 d xm_217 138 [r0, r1] ((0, x) :: st) mem Post = ((¬ w32 x = w32 0 → zvc E n zc_217 d xm_217 162 [r0, r1] (st) mem Post) ∧ (¬ (¬ w32 x = w32 0) → zvc E n zc_217 d xm_217 141 [r0, r1] (st) mem Post)) := zrf rfl
theorem s_217_141 {E : yE} {n d : Nat} {mem : yMem} {Post : Option yV → yMem → Prop} {st : List yV} {r1 : Option yV} {x : Int} : zvc E (n + 1) zc_217 d xm_217 141 [some (1, x), r1] (st) mem Post = (zvc E n zc_217 d xm_217 142 [some (1, x), r1] ((1, x) :: st) mem Post) := zrf rfl
theorem s_217_142 {E : yE} {n d : Nat} {mem : yMem} {Post : Option yV → yMem → Prop} {st : List yV} {r0 r1 : Option yV} : zvc E (n + 1) zc_217 d xm_217 142 [r0, r1] ((1, 95) :: st) mem Post = (zvc E n zc_217 d xm_217 145 [r0, r1] ((0, mem 95 29) :: st) mem Post) := zrf rfl
theorem s_217_145 {E : yE} {n d : Nat} {mem : yMem} {Post : Option yV → yMem → Prop} {st : List yV} {r0 r1 : Option yV} {x : Int} : zvc E (n + 1) zc_217 d xm_217 145 [r0, r1] ((0, x) :: st) mem Post = ((¬ w32 x = w32 0 → zvc E n zc_217 d xm_217 157 [r0, r1] (st) mem Post) ∧ (¬ (¬ w32 x = w32 0) → zvc E n zc_217 d xm_217 148 [r0, r1] (st) mem Post)) := zrf rfl
theorem s_217_148 {E : yE} {n d : Nat} {mem : yMem} {Post : Option yV → yMem → Prop} {st : List yV} {r1 : Option yV} {x : Int} : zvc E (n + 1) zc_217 d xm_217 148 [some (1, x), r1] (st) mem Post = (zvc E n zc_217 d xm_217 149 [some (1, x), r1] ((1, x) :: st) mem Post) := zrf rfl
theorem s_217_149 {E : yE} {n d : Nat} {mem : yMem} {Post : Option yV → yMem → Prop} {st : List yV} {r0 r1 : Option yV} : zvc E (n + 1) zc_217 d xm_217 149 [r0, r1] ((1, 95) :: st) mem Post = (zvc E n zc_217 d xm_217 152 [r0, r1] ((0, mem 95 30) :: st) mem Post) := zrf rfl
theorem s_217_152 {E : yE} {n d : Nat} {mem : yMem} {Post : Option yV → yMem → Prop} {st : List yV} {r0 r1 : Option yV} : zvc E (n + 1) zc_217 d xm_217 152 [r0, r1] (st) mem Post = (zvc E n zc_217 d xm_217 154 [r0, r1] ((0, 16) :: st) mem Post) := zrf rfl
theorem s_217_154 {E : yE} {n d : Nat} {mem : yMem} {Post : Option yV → yMem → Prop} {st : List yV} {r0 r1 : Option yV} {x y : Int} : zvc E (n + 1) zc_217 d xm_217 154 [r0, r1] ((0, y) :: (0, x) :: st) mem Post = ((w32 y ≤ w32 x → zvc E n zc_217 d xm_217 162 [r0, r1] (st) mem Post) ∧ (¬ (w32 y ≤ w32 x) → zvc E n zc_217 d xm_217 157 [r0, r1] (st) mem Post)) := zrf rfl
theorem s_217_157 {E : yE} {n d : Nat} {mem : yMem} {Post : Option yV → yMem → Prop} {st : List yV} {r1 : Option yV} {x : Int} : zvc E (n + 1) zc_217 d xm_217 157 [some (1, x), r1] (st) mem Post = (zvc E n zc_217 d xm_217 158 [some (1, x), r1] ((1, x) :: st) mem Post) := zrf rfl
theorem s_217_158 {E : yE} {n d : Nat} {mem : yMem} {Post : Option yV → yMem → Prop} {st : List yV} {r0 r1 : Option yV} : zvc E (n + 1) zc_217 d xm_217 158 [r0, r1] (st) mem Post = (zvc E n zc_217 d xm_217 159 [r0, r1] ((0, 1) :: st) mem Post) := zrf rfl
theorem s_217_159 {E : yE} {n d : Nat} {mem : yMem} {Post : Option yV → yMem → Prop} {st : List yV} {r0 r1 : Option yV} {z a0 : Int} : zvc E (n + 1) zc_217 (d + 1) xm_217 159 [r0, r1] ((0, a0) :: (1, z) :: st) mem Post = (zio z 12 = true ∧ ysum st ≤ 8 ∧ zvc E n [] d xm_254 0 [some (1, z), some (0, a0)] [] mem (fun v mem' => zvk E n zc_217 (d + 1) xm_217 162 [r0, r1] st v mem' Post)) := zrf rfl
theorem g_217_162 {E : yE} {n d : Nat} {mem : yMem} {Post : Option yV → yMem → Prop} {st : List yV} {r1 : Option yV} {x : Int} : zgo E n zc_217 d xm_217 162 [some (1, x), r1] (st) mem Post = (zvc E n zc_217 d xm_217 163 [some (1, x), r1] ((1, x) :: st) mem Post) := zrf rfl
theorem k_217_162 {E : yE} {n d : Nat} {mem : yMem} {Post : Option yV → yMem → Prop} {st : List yV} {rg : zR} : zvc E (n + 1) zc_217 d xm_217 162 rg st mem Post = zG E d xm_217 162 rg st mem Post := zrf rfl
theorem s_217_163 {E : yE} {n d : Nat} {mem : yMem} {Post : Option yV → yMem → Prop} {st : List yV} {r0 r1 : Option yV} {z : Int} : zvc E (n + 1) zc_217 (d + 1) xm_217 163 [r0, r1] ((1, z) :: st) mem Post = (zio z 12 = true ∧ ysum st ≤ 8 ∧ zvc E n [] d xm_200 0 [some (1, z)] [] mem (fun v mem' => zvk E n zc_217 (d + 1) xm_217 166 [r0, r1] st v mem' Post)) := zrf rfl
theorem s_217_166 {E : yE} {n d : Nat} {mem : yMem} {Post : Option yV → yMem → Prop} {st : List yV} {r1 : Option yV} {x : Int} : zvc E (n + 1) zc_217 d xm_217 166 [some (1, x), r1] (st) mem Post = (zvc E n zc_217 d xm_217 167 [some (1, x), r1] ((1, x) :: st) mem Post) := zrf rfl
theorem s_217_167 {E : yE} {n d : Nat} {mem : yMem} {Post : Option yV → yMem → Prop} {st : List yV} {r0 : Option yV} {x : Int} : zvc E (n + 1) zc_217 d xm_217 167 [r0, some (0, x)] (st) mem Post = (zvc E n zc_217 d xm_217 168 [r0, some (0, x)] ((0, x) :: st) mem Post) := zrf rfl
theorem s_217_168 {E : yE} {n d : Nat} {mem : yMem} {Post : Option yV → yMem → Prop} {st : List yV} {r0 r1 : Option yV} {x : Int} : zvc E (n + 1) zc_217 d xm_217 168 [r0, r1] ((0, x) :: st) mem Post = ((w32 x = w32 0 → zvc E n zc_217 d xm_217 175 [r0, r1] (st) mem Post) ∧ (¬ (w32 x = w32 0) → zvc E n zc_217 d xm_217 171 [r0, r1] (st) mem Post)) := zrf rfl
theorem s_217_171 {E : yE} {n d : Nat} {mem : yMem} {Post : Option yV → yMem → Prop} {st : List yV} {r0 r1 : Option yV} : zvc E (n + 1) zc_217 d xm_217 171 [r0, r1] (st) mem Post = (zvc E n zc_217 d xm_217 172 [r0, r1] ((0, 0) :: st) mem Post) := zrf rfl
theorem s_217_172 {E : yE} {n d : Nat} {mem : yMem} {Post : Option yV → yMem → Prop} {st : List yV} {r0 r1 : Option yV} : zvc E (n + 1) zc_217 d xm_217 172 [r0, r1] (st) mem Post = (zvc E n zc_217 d xm_217 176 [r0, r1] (st) mem Post) := zrf rfl
theorem s_217_175 {E : yE} {n d : Nat} {mem : yMem} {Post : Option yV → yMem → Prop} {st : List yV} {r0 r1 : Option yV} : zvc E (n + 1) zc_217 d xm_217 175 [r0, r1] (st) mem Post = (zvc E n zc_217 d xm_217 176 [r0, r1] ((0, 1) :: st) mem Post) := zrf rfl
theorem s_217_176 {E : yE} {n d : Nat} {mem : yMem} {Post : Option yV → yMem → Prop} {st : List yV} {r0 : Option yV} {x : Int} : zvc E (n + 1) zc_217 d xm_217 176 [r0, some (0, x)] (st) mem Post = (zvc E n zc_217 d xm_217 177 [r0, some (0, x)] ((0, x) :: st) mem Post) := zrf rfl
theorem s_217_177 {E : yE} {n d : Nat} {mem : yMem} {Post : Option yV → yMem → Prop} {st : List yV} {r0 r1 : Option yV} {x : Int} : zvc E (n + 1) zc_217 d xm_217 177 [r0, r1] ((0, x) :: st) mem Post = ((w32 x = w32 0 → zvc E n zc_217 d xm_217 187 [r0, r1] (st) mem Post) ∧ (¬ (w32 x = w32 0) → zvc E n zc_217 d xm_217 180 [r0, r1] (st) mem Post)) := zrf rfl
theorem s_217_180 {E : yE} {n d : Nat} {mem : yMem} {Post : Option yV → yMem → Prop} {st : List yV} {r1 : Option yV} {x : Int} : zvc E (n + 1) zc_217 d xm_217 180 [some (1, x), r1] (st) mem Post = (zvc E n zc_217 d xm_217 181 [some (1, x), r1] ((1, x) :: st) mem Post) := zrf rfl
theorem s_217_181 {E : yE} {n d : Nat} {mem : yMem} {Post : Option yV → yMem → Prop} {st : List yV} {r0 r1 : Option yV} : zvc E (n + 1) zc_217 d xm_217 181 [r0, r1] ((1, 95) :: st) mem Post = (zvc E n zc_217 d xm_217 184 [r0, r1] ((0, mem 95 30) :: st) mem Post) := zrf rfl
theorem s_217_184 {E : yE} {n d : Nat} {mem : yMem} {Post : Option yV → yMem → Prop} {st : List yV} {r0 r1 : Option yV} : zvc E (n + 1) zc_217 d xm_217 184 [r0, r1] (st) mem Post = (zvc E n zc_217 d xm_217 194 [r0, r1] (st) mem Post) := zrf rfl
theorem s_217_187 {E : yE} {n d : Nat} {mem : yMem} {Post : Option yV → yMem → Prop} {st : List yV} {r1 : Option yV} {x : Int} : zvc E (n + 1) zc_217 d xm_217 187 [some (1, x), r1] (st) mem Post = (zvc E n zc_217 d xm_217 188 [some (1, x), r1] ((1, x) :: st) mem Post) := zrf rfl
theorem s_217_188 {E : yE} {n d : Nat} {mem : yMem} {Post : Option yV → yMem → Prop} {st : List yV} {r0 r1 : Option yV} : zvc E (n + 1) zc_217 d xm_217 188 [r0, r1] ((1, 95) :: st) mem Post = (zvc E n zc_217 d xm_217 191 [r0, r1] ((0, mem 95 30) :: st) mem Post) := zrf rfl
theorem s_217_191 {E : yE} {n d : Nat} {mem : yMem} {Post : Option yV → yMem → Prop} {st : List yV} {r0 r1 : Option yV} : zvc E (n + 1) zc_217 d xm_217 191 [r0, r1] (st) mem Post = (zvc E n zc_217 d xm_217 193 [r0, r1] ((0, 16) :: st) mem Post) := zrf rfl
theorem s_217_193 {E : yE} {n d : Nat} {mem : yMem} {Post : Option yV → yMem → Prop} {st : List yV} {r0 r1 : Option yV} {x y : Int} : zvc E (n + 1) zc_217 d xm_217 193 [r0, r1] ((0, y) :: (0, x) :: st) mem Post = (zvc E n zc_217 d xm_217 194 [r0, r1] ((0, x - y) :: st) mem Post) := zrf rfl
theorem s_217_194 {E : yE} {n d : Nat} {mem : yMem} {Post : Option yV → yMem → Prop} {st : List yV} {r0 r1 : Option yV} {z a0 a1 : Int} : zvc E (n + 1) zc_217 (d + 1) xm_217 194 [r0, r1] ((0, a1) :: (0, a0) :: (1, z) :: st) mem Post = (zio z 12 = true ∧ ysum st ≤ 8 ∧ zvc E n [] d xm_219 0 [some (1, z), some (0, a0), some (0, a1)] [] mem (fun v mem' => zvk E n zc_217 (d + 1) xm_217 197 [r0, r1] st v mem' Post)) := zrf rfl
theorem s_217_197 {E : yE} {n d : Nat} {mem : yMem} {Post : Option yV → yMem → Prop} {st : List yV} {r1 : Option yV} {x : Int} : zvc E (n + 1) zc_217 d xm_217 197 [some (1, x), r1] (st) mem Post = (zvc E n zc_217 d xm_217 198 [some (1, x), r1] ((1, x) :: st) mem Post) := zrf rfl
theorem s_217_198 {E : yE} {n d : Nat} {mem : yMem} {Post : Option yV → yMem → Prop} {st : List yV} {r0 r1 : Option yV} {z : Int} : zvc E (n + 1) zc_217 (d + 1) xm_217 198 [r0, r1] ((1, z) :: st) mem Post = (zio z 12 = true ∧ ysum st ≤ 8 ∧ zvc E n [] d xm_173 0 [some (1, z)] [] mem (fun v mem' => zvk E n zc_217 (d + 1) xm_217 201 [r0, r1] st v mem' Post)) := zrf rfl
theorem s_217_201 {E : yE} {n d : Nat} {mem : yMem} {Post : Option yV → yMem → Prop} {r0 r1 : Option yV} : zvc E (n + 1) zc_217 d xm_217 201 [r0, r1] ([]) mem Post = (Post none mem) := zrf rfl
def zc_218 : List Nat := [4, 22]
theorem s_218_0 {E : yE} {n d : Nat} {mem : yMem} {Post : Option yV → yMem → Prop} {st : List yV} {r1 : Option yV} {x : Int} : zvc E (n + 1) zc_218 d xm_218 0 [some (1, x), r1] (st) mem Post = (zvc E n zc_218 d xm_218 1 [some (1, x), r1] ((1, x) :: st) mem Post) := zrf rfl
theorem s_218_1 {E : yE} {n d : Nat} {mem : yMem} {Post : Option yV → yMem → Prop} {st : List yV} {r0 r1 : Option yV} {z : Int} : zvc E (n + 1) zc_218 d xm_218 1 [r0, r1] ((1, z) :: st) mem Post = (zio z 12 = true ∧ ysum st ≤ 8 ∧ yCon E d xm_217 [(1, z)] mem (fun v mem' => zgk E d xm_218 4 [r0, r1] st v mem' Post)) := zrf rfl
theorem g_218_4 {E : yE} {n d : Nat} {mem : yMem} {Post : Option yV → yMem → Prop} {st : List yV} {r1 : Option yV} {x : Int} : zgo E n zc_218 d xm_218 4 [some (1, x), r1] (st) mem Post = (zvc E n zc_218 d xm_218 5 [some (1, x), r1] ((1, x) :: st) mem Post) := zrf rfl
theorem k_218_4 {E : yE} {n d : Nat} {mem : yMem} {Post : Option yV → yMem → Prop} {st : List yV} {rg : zR} : zvc E (n + 1) zc_218 d xm_218 4 rg st mem Post = zG E d xm_218 4 rg st mem Post := zrf rfl
theorem s_218_5 {E : yE} {n d : Nat} {mem : yMem} {Post : Option yV → yMem → Prop} {st : List yV} {r0 r1 : Option yV} : zvc E (n + 1) zc_218 d xm_218 5 [r0, r1] (st) mem Post = (zvc E n zc_218 d xm_218 7 [r0, r1] ((0, 42) :: st) mem Post) := zrf rfl
theorem s_218_7 {E : yE} {n d : Nat} {mem : yMem} {Post : Option yV → yMem → Prop} {st : List yV} {r0 r1 : Option yV} {z a0 : Int} : zvc E (n + 1) zc_218 (d + 1) xm_218 7 [r0, r1] ((0, a0) :: (1, z) :: st) mem Post = (zio z 12 = true ∧ ysum st ≤ 8 ∧ zvc E n [] d xm_191 0 [some (1, z), some (0, a0)] [] mem (fun v mem' => zvk E n zc_218 (d + 1) xm_218 10 [r0, r1] st v mem' Post)) := zrf rfl
theorem s_218_10 {E : yE} {n d : Nat} {mem : yMem} {Post : Option yV → yMem → Prop} {st : List yV} {r0 r1 : Option yV} {x : Int} : zvc E (n + 1) zc_218 d xm_218 10 [r0, r1] ((0, x) :: st) mem Post = ((¬ w32 x = w32 0 → zvc E n zc_218 d xm_218 22 [r0, r1] (st) mem Post) ∧ (¬ (¬ w32 x = w32 0) → zvc E n zc_218 d xm_218 13 [r0, r1] (st) mem Post)) := zrf rfl
theorem s_218_13 {E : yE} {n d : Nat} {mem : yMem} {Post : Option yV → yMem → Prop} {st : List yV} {r1 : Option yV} {x : Int} : zvc E (n + 1) zc_218 d xm_218 13 [some (1, x), r1] (st) mem Post = (zvc E n zc_218 d xm_218 14 [some (1, x), r1] ((1, x) :: st) mem Post) := zrf rfl
theorem s_218_14 {E : yE} {n d : Nat} {mem : yMem} {Post : Option yV → yMem → Prop} {st : List yV} {r0 r1 : Option yV} : zvc E (n + 1) zc_218 d xm_218 14 [r0, r1] (st) mem Post = (zvc E n zc_218 d xm_218 16 [r0, r1] ((0, 47) :: st) mem Post) := zrf rfl
theorem s_218_16 {E : yE} {n d : Nat} {mem : yMem} {Post : Option yV → yMem → Prop} {st : List yV} {r0 r1 : Option yV} {z a0 : Int} : zvc E (n + 1) zc_218 (d + 1) xm_218 16 [r0, r1] ((0, a0) :: (1, z) :: st) mem Post = (zio z 12 = true ∧ ysum st ≤ 8 ∧ zvc E n [] d xm_191 0 [some (1, z), some (0, a0)] [] mem (fun v mem' => zvk E n zc_218 (d + 1) xm_218 19 [r0, r1] st v mem' Post)) := zrf rfl
theorem s_218_19 {E : yE} {n d : Nat} {mem : yMem} {Post : Option yV → yMem → Prop} {st : List yV} {r0 r1 : Option yV} {x : Int} : zvc E (n + 1) zc_218 d xm_218 19 [r0, r1] ((0, x) :: st) mem Post = ((w32 x = w32 0 → zvc E n zc_218 d xm_218 48 [r0, r1] (st) mem Post) ∧ (¬ (w32 x = w32 0) → zvc E n zc_218 d xm_218 22 [r0, r1] (st) mem Post)) := zrf rfl
theorem g_218_22 {E : yE} {n d : Nat} {mem : yMem} {Post : Option yV → yMem → Prop} {st : List yV} {r1 : Option yV} {x : Int} : zgo E n zc_218 d xm_218 22 [some (1, x), r1] (st) mem Post = (zvc E n zc_218 d xm_218 23 [some (1, x), r1] ((1, x) :: st) mem Post) := zrf rfl
theorem k_218_22 {E : yE} {n d : Nat} {mem : yMem} {Post : Option yV → yMem → Prop} {st : List yV} {rg : zR} : zvc E (n + 1) zc_218 d xm_218 22 rg st mem Post = zG E d xm_218 22 rg st mem Post := zrf rfl
theorem s_218_23 {E : yE} {n d : Nat} {mem : yMem} {Post : Option yV → yMem → Prop} {st : List yV} {r0 r1 : Option yV} : zvc E (n + 1) zc_218 d xm_218 23 [r0, r1] ((1, 95) :: st) mem Post = (zvc E n zc_218 d xm_218 26 [r0, r1] ((0, mem 95 30) :: st) mem Post) := zrf rfl
theorem s_218_26n {E : yE} {n d : Nat} {mem : yMem} {Post : Option yV → yMem → Prop} {st : List yV} {r1 : Option yV} {x : Int} : zvc E (n + 1) zc_218 d xm_218 26 [none, r1] ((0, x) :: st) mem Post = (zvc E n zc_218 d xm_218 27 [none, some (0, x)] (st) mem Post) := zrf rfl
theorem s_218_26i {E : yE} {n d : Nat} {mem : yMem} {Post : Option yV → yMem → Prop} {st : List yV} {r1 : Option yV} {x w : Int} : zvc E (n + 1) zc_218 d xm_218 26 [some (0, w), r1] ((0, x) :: st) mem Post = (zvc E n zc_218 d xm_218 27 [some (0, w), some (0, x)] (st) mem Post) := zrf rfl
theorem s_218_26p {E : yE} {n d : Nat} {mem : yMem} {Post : Option yV → yMem → Prop} {st : List yV} {r1 : Option yV} {x w : Int} : zvc E (n + 1) zc_218 d xm_218 26 [some (1, w), r1] ((0, x) :: st) mem Post = (zvc E n zc_218 d xm_218 27 [some (1, w), some (0, x)] (st) mem Post) := zrf rfl
theorem s_218_26j {E : yE} {n d : Nat} {mem : yMem} {Post : Option yV → yMem → Prop} {st : List yV} {r0 r1 : Option yV} {x : Int} : zvc E (n + 1) zc_218 d xm_218 26 [r0, r1] ((0, x) :: st) mem Post = (zvc E n zc_218 d xm_218 27 [znl r0, some (0, x)] (st) mem Post) := zrf rfl
theorem s_218_27 {E : yE} {n d : Nat} {mem : yMem} {Post : Option yV → yMem → Prop} {st : List yV} {r1 : Option yV} {x : Int} : zvc E (n + 1) zc_218 d xm_218 27 [some (1, x), r1] (st) mem Post = (zvc E n zc_218 d xm_218 28 [some (1, x), r1] ((1, x) :: st) mem Post) := zrf rfl
theorem s_218_28 {E : yE} {n d : Nat} {mem : yMem} {Post : Option yV → yMem → Prop} {st : List yV} {r0 r1 : Option yV} {z : Int} : zvc E (n + 1) zc_218 (d + 1) xm_218 28 [r0, r1] ((1, z) :: st) mem Post = (zio z 12 = true ∧ ysum st ≤ 8 ∧ zvc E n [] d xm_200 0 [some (1, z)] [] mem (fun v mem' => zvk E n zc_218 (d + 1) xm_218 31 [r0, r1] st v mem' Post)) := zrf rfl
theorem s_218_31 {E : yE} {n d : Nat} {mem : yMem} {Post : Option yV → yMem → Prop} {st : List yV} {r1 : Option yV} {x : Int} : zvc E (n + 1) zc_218 d xm_218 31 [some (1, x), r1] (st) mem Post = (zvc E n zc_218 d xm_218 32 [some (1, x), r1] ((1, x) :: st) mem Post) := zrf rfl
theorem s_218_32 {E : yE} {n d : Nat} {mem : yMem} {Post : Option yV → yMem → Prop} {st : List yV} {r0 r1 : Option yV} {z : Int} : zvc E (n + 1) zc_218 (d + 1) xm_218 32 [r0, r1] ((1, z) :: st) mem Post = (zio z 12 = true ∧ ysum st ≤ 8 ∧ zvc E n [] d xm_173 0 [some (1, z)] [] mem (fun v mem' => zvk E n zc_218 (d + 1) xm_218 35 [r0, r1] st v mem' Post)) := zrf rfl
theorem s_218_35 {E : yE} {n d : Nat} {mem : yMem} {Post : Option yV → yMem → Prop} {st : List yV} {r1 : Option yV} {x : Int} : zvc E (n + 1) zc_218 d xm_218 35 [some (1, x), r1] (st) mem Post = (zvc E n zc_218 d xm_218 36 [some (1, x), r1] ((1, x) :: st) mem Post) := zrf rfl
theorem s_218_36 {E : yE} {n d : Nat} {mem : yMem} {Post : Option yV → yMem → Prop} {st : List yV} {r0 r1 : Option yV} {z : Int} : zvc E (n + 1) zc_218 d xm_218 36 [r0, r1] ((1, z) :: st) mem Post = (zio z 12 = true ∧ ysum st ≤ 8 ∧ yCon E d xm_217 [(1, z)] mem (fun v mem' => zgk E d xm_218 39 [r0, r1] st v mem' Post)) := zrf rfl
theorem s_218_39 {E : yE} {n d : Nat} {mem : yMem} {Post : Option yV → yMem → Prop} {st : List yV} {r1 : Option yV} {x : Int} : zvc E (n + 1) zc_218 d xm_218 39 [some (1, x), r1] (st) mem Post = (zvc E n zc_218 d xm_218 40 [some (1, x), r1] ((1, x) :: st) mem Post) := zrf rfl
theorem s_218_40 {E : yE} {n d : Nat} {mem : yMem} {Post : Option yV → yMem → Prop} {st : List yV} {r0 r1 : Option yV} : zvc E (n + 1) zc_218 d xm_218 40 [r0, r1] (st) mem Post = (zvc E n zc_218 d xm_218 41 [r0, r1] ((0, 2) :: st) mem Post) := zrf rfl
theorem s_218_41 {E : yE} {n d : Nat} {mem : yMem} {Post : Option yV → yMem → Prop} {st : List yV} {r0 : Option yV} {x : Int} : zvc E (n + 1) zc_218 d xm_218 41 [r0, some (0, x)] (st) mem Post = (zvc E n zc_218 d xm_218 42 [r0, some (0, x)] ((0, x) :: st) mem Post) := zrf rfl
theorem s_218_42 {E : yE} {n d : Nat} {mem : yMem} {Post : Option yV → yMem → Prop} {st : List yV} {r0 r1 : Option yV} {z a0 a1 : Int} : zvc E (n + 1) zc_218 (d + 1) xm_218 42 [r0, r1] ((0, a1) :: (0, a0) :: (1, z) :: st) mem Post = (zio z 12 = true ∧ ysum st ≤ 8 ∧ zvc E n [] d xm_219 0 [some (1, z), some (0, a0), some (0, a1)] [] mem (fun v mem' => zvk E n zc_218 (d + 1) xm_218 45 [r0, r1] st v mem' Post)) := zrf rfl
theorem s_218_45 {E : yE} {n d : Nat} {mem : yMem} {Post : Option yV → yMem → Prop} {st : List yV} {r0 r1 : Option yV} : zvc E (n + 1) zc_218 d xm_218 45 [r0, r1] (st) mem Post = (zvc E n zc_218 d xm_218 4 [r0, r1] (st) mem Post) := zrf rfl
theorem s_218_48 {E : yE} {n d : Nat} {mem : yMem} {Post : Option yV → yMem → Prop} {r0 r1 : Option yV} : zvc E (n + 1) zc_218 d xm_218 48 [r0, r1] ([]) mem Post = (Post none mem) := zrf rfl
theorem s_191_0 {E : yE} {n d : Nat} {mem : yMem} {Post : Option yV → yMem → Prop} {st : List yV} {r1 : Option yV} {x : Int} : zvc E (n + 1) [] d xm_191 0 [some (1, x), r1] (st) mem Post = (zvc E n [] d xm_191 1 [some (1, x), r1] ((1, x) :: st) mem Post) := zrf rfl
theorem s_191_1 {E : yE} {n d : Nat} {mem : yMem} {Post : Option yV → yMem → Prop} {st : List yV} {r0 r1 : Option yV} : zvc E (n + 1) [] d xm_191 1 [r0, r1] ((1, 95) :: st) mem Post = (zvc E n [] d xm_191 4 [r0, r1] ((0, mem 95 31) :: st) mem Post) := zrf rfl
theorem s_191_4 {E : yE} {n d : Nat} {mem : yMem} {Post : Option yV → yMem → Prop} {st : List yV} {r0 r1 : Option yV} {x : Int} : zvc E (n + 1) [] d xm_191 4 [r0, r1] ((0, x) :: st) mem Post = ((¬ w32 x = w32 0 → zvc E n [] d xm_191 27 [r0, r1] (st) mem Post) ∧ (¬ (¬ w32 x = w32 0) → zvc E n [] d xm_191 7 [r0, r1] (st) mem Post)) := zrf rfl
theorem s_191_7 {E : yE} {n d : Nat} {mem : yMem} {Post : Option yV → yMem → Prop} {st : List yV} {r1 : Option yV} {x : Int} : zvc E (n + 1) [] d xm_191 7 [some (1, x), r1] (st) mem Post = (zvc E n [] d xm_191 8 [some (1, x), r1] ((1, x) :: st) mem Post) := zrf rfl
theorem s_191_8 {E : yE} {n d : Nat} {mem : yMem} {Post : Option yV → yMem → Prop} {st : List yV} {r0 r1 : Option yV} : zvc E (n + 1) [] d xm_191 8 [r0, r1] ((1, 95) :: st) mem Post = (zvc E n [] d xm_191 11 [r0, r1] ((0, mem 95 29) :: st) mem Post) := zrf rfl
theorem s_191_11 {E : yE} {n d : Nat} {mem : yMem} {Post : Option yV → yMem → Prop} {st : List yV} {r0 r1 : Option yV} : zvc E (n + 1) [] d xm_191 11 [r0, r1] (st) mem Post = (zvc E n [] d xm_191 12 [r0, r1] ((0, 3) :: st) mem Post) := zrf rfl
theorem s_191_12 {E : yE} {n d : Nat} {mem : yMem} {Post : Option yV → yMem → Prop} {st : List yV} {r0 r1 : Option yV} {x y : Int} : zvc E (n + 1) [] d xm_191 12 [r0, r1] ((0, y) :: (0, x) :: st) mem Post = ((¬ w32 x = w32 y → zvc E n [] d xm_191 27 [r0, r1] (st) mem Post) ∧ (¬ (¬ w32 x = w32 y) → zvc E n [] d xm_191 15 [r0, r1] (st) mem Post)) := zrf rfl
theorem s_191_15 {E : yE} {n d : Nat} {mem : yMem} {Post : Option yV → yMem → Prop} {st : List yV} {r1 : Option yV} {x : Int} : zvc E (n + 1) [] d xm_191 15 [some (1, x), r1] (st) mem Post = (zvc E n [] d xm_191 16 [some (1, x), r1] ((1, x) :: st) mem Post) := zrf rfl
theorem s_191_16 {E : yE} {n d : Nat} {mem : yMem} {Post : Option yV → yMem → Prop} {st : List yV} {r0 r1 : Option yV} : zvc E (n + 1) [] d xm_191 16 [r0, r1] ((1, 95) :: st) mem Post = (zvc E n [] d xm_191 19 [r0, r1] ((0, mem 95 30) :: st) mem Post) := zrf rfl
theorem s_191_19 {E : yE} {n d : Nat} {mem : yMem} {Post : Option yV → yMem → Prop} {st : List yV} {r0 : Option yV} {x : Int} : zvc E (n + 1) [] d xm_191 19 [r0, some (0, x)] (st) mem Post = (zvc E n [] d xm_191 20 [r0, some (0, x)] ((0, x) :: st) mem Post) := zrf rfl
theorem s_191_20 {E : yE} {n d : Nat} {mem : yMem} {Post : Option yV → yMem → Prop} {st : List yV} {r0 r1 : Option yV} {x y : Int} : zvc E (n + 1) [] d xm_191 20 [r0, r1] ((0, y) :: (0, x) :: st) mem Post = ((¬ w32 x = w32 y → zvc E n [] d xm_191 27 [r0, r1] (st) mem Post) ∧ (¬ (¬ w32 x = w32 y) → zvc E n [] d xm_191 23 [r0, r1] (st) mem Post)) := zrf rfl
theorem s_191_23 {E : yE} {n d : Nat} {mem : yMem} {Post : Option yV → yMem → Prop} {st : List yV} {r0 r1 : Option yV} : zvc E (n + 1) [] d xm_191 23 [r0, r1] (st) mem Post = (zvc E n [] d xm_191 24 [r0, r1] ((0, 1) :: st) mem Post) := zrf rfl
theorem s_191_24 {E : yE} {n d : Nat} {mem : yMem} {Post : Option yV → yMem → Prop} {st : List yV} {r0 r1 : Option yV} : zvc E (n + 1) [] d xm_191 24 [r0, r1] (st) mem Post = (zvc E n [] d xm_191 28 [r0, r1] (st) mem Post) := zrf rfl
theorem s_191_27 {E : yE} {n d : Nat} {mem : yMem} {Post : Option yV → yMem → Prop} {st : List yV} {r0 r1 : Option yV} : zvc E (n + 1) [] d xm_191 27 [r0, r1] (st) mem Post = (zvc E n [] d xm_191 28 [r0, r1] ((0, 0) :: st) mem Post) := zrf rfl
theorem s_191_28 {E : yE} {n d : Nat} {mem : yMem} {Post : Option yV → yMem → Prop} {r0 r1 : Option yV} {x : Int} : zvc E (n + 1) [] d xm_191 28 [r0, r1] ([(0, x)]) mem Post = ((w32 x = 0 ∨ w32 x = 1) ∧ Post (some (0, x)) mem) := zrf rfl
theorem s_198_0 {E : yE} {n d : Nat} {mem : yMem} {Post : Option yV → yMem → Prop} {st : List yV} {r1 : Option yV} {x : Int} : zvc E (n + 1) [] d xm_198 0 [some (1, x), r1] (st) mem Post = (zvc E n [] d xm_198 1 [some (1, x), r1] ((1, x) :: st) mem Post) := zrf rfl
theorem s_198_1 {E : yE} {n d : Nat} {mem : yMem} {Post : Option yV → yMem → Prop} {st : List yV} {r0 r1 : Option yV} : zvc E (n + 1) [] d xm_198 1 [r0, r1] ((1, 95) :: st) mem Post = (zvc E n [] d xm_198 4 [r0, r1] ((0, mem 95 31) :: st) mem Post) := zrf rfl
theorem s_198_4 {E : yE} {n d : Nat} {mem : yMem} {Post : Option yV → yMem → Prop} {st : List yV} {r0 r1 : Option yV} {x : Int} : zvc E (n + 1) [] d xm_198 4 [r0, r1] ((0, x) :: st) mem Post = ((¬ w32 x = w32 0 → zvc E n [] d xm_198 26 [r0, r1] (st) mem Post) ∧ (¬ (¬ w32 x = w32 0) → zvc E n [] d xm_198 7 [r0, r1] (st) mem Post)) := zrf rfl
theorem s_198_7 {E : yE} {n d : Nat} {mem : yMem} {Post : Option yV → yMem → Prop} {st : List yV} {r1 : Option yV} {x : Int} : zvc E (n + 1) [] d xm_198 7 [some (1, x), r1] (st) mem Post = (zvc E n [] d xm_198 8 [some (1, x), r1] ((1, x) :: st) mem Post) := zrf rfl
theorem s_198_8 {E : yE} {n d : Nat} {mem : yMem} {Post : Option yV → yMem → Prop} {st : List yV} {r0 r1 : Option yV} : zvc E (n + 1) [] d xm_198 8 [r0, r1] ((1, 95) :: st) mem Post = (zvc E n [] d xm_198 11 [r0, r1] ((0, mem 95 29) :: st) mem Post) := zrf rfl
theorem s_198_11 {E : yE} {n d : Nat} {mem : yMem} {Post : Option yV → yMem → Prop} {st : List yV} {r0 r1 : Option yV} {x : Int} : zvc E (n + 1) [] d xm_198 11 [r0, r1] ((0, x) :: st) mem Post = ((¬ w32 x = w32 0 → zvc E n [] d xm_198 26 [r0, r1] (st) mem Post) ∧ (¬ (¬ w32 x = w32 0) → zvc E n [] d xm_198 14 [r0, r1] (st) mem Post)) := zrf rfl
theorem s_198_14 {E : yE} {n d : Nat} {mem : yMem} {Post : Option yV → yMem → Prop} {st : List yV} {r1 : Option yV} {x : Int} : zvc E (n + 1) [] d xm_198 14 [some (1, x), r1] (st) mem Post = (zvc E n [] d xm_198 15 [some (1, x), r1] ((1, x) :: st) mem Post) := zrf rfl
theorem s_198_15 {E : yE} {n d : Nat} {mem : yMem} {Post : Option yV → yMem → Prop} {st : List yV} {r0 r1 : Option yV} : zvc E (n + 1) [] d xm_198 15 [r0, r1] ((1, 95) :: st) mem Post = (zvc E n [] d xm_198 18 [r0, r1] ((0, mem 95 30) :: st) mem Post) := zrf rfl
theorem s_198_18 {E : yE} {n d : Nat} {mem : yMem} {Post : Option yV → yMem → Prop} {st : List yV} {r0 : Option yV} {x : Int} : zvc E (n + 1) [] d xm_198 18 [r0, some (0, x)] (st) mem Post = (zvc E n [] d xm_198 19 [r0, some (0, x)] ((0, x) :: st) mem Post) := zrf rfl
theorem s_198_19 {E : yE} {n d : Nat} {mem : yMem} {Post : Option yV → yMem → Prop} {st : List yV} {r0 r1 : Option yV} {x y : Int} : zvc E (n + 1) [] d xm_198 19 [r0, r1] ((0, y) :: (0, x) :: st) mem Post = ((¬ w32 x = w32 y → zvc E n [] d xm_198 26 [r0, r1] (st) mem Post) ∧ (¬ (¬ w32 x = w32 y) → zvc E n [] d xm_198 22 [r0, r1] (st) mem Post)) := zrf rfl
theorem s_198_22 {E : yE} {n d : Nat} {mem : yMem} {Post : Option yV → yMem → Prop} {st : List yV} {r0 r1 : Option yV} : zvc E (n + 1) [] d xm_198 22 [r0, r1] (st) mem Post = (zvc E n [] d xm_198 23 [r0, r1] ((0, 1) :: st) mem Post) := zrf rfl
theorem s_198_23 {E : yE} {n d : Nat} {mem : yMem} {Post : Option yV → yMem → Prop} {st : List yV} {r0 r1 : Option yV} : zvc E (n + 1) [] d xm_198 23 [r0, r1] (st) mem Post = (zvc E n [] d xm_198 27 [r0, r1] (st) mem Post) := zrf rfl
theorem s_198_26 {E : yE} {n d : Nat} {mem : yMem} {Post : Option yV → yMem → Prop} {st : List yV} {r0 r1 : Option yV} : zvc E (n + 1) [] d xm_198 26 [r0, r1] (st) mem Post = (zvc E n [] d xm_198 27 [r0, r1] ((0, 0) :: st) mem Post) := zrf rfl
theorem s_198_27 {E : yE} {n d : Nat} {mem : yMem} {Post : Option yV → yMem → Prop} {r0 r1 : Option yV} {x : Int} : zvc E (n + 1) [] d xm_198 27 [r0, r1] ([(0, x)]) mem Post = ((w32 x = 0 ∨ w32 x = 1) ∧ Post (some (0, x)) mem) := zrf rfl
theorem s_200_0 {E : yE} {n d : Nat} {mem : yMem} {Post : Option yV → yMem → Prop} {st : List yV} {x : Int} : zvc E (n + 1) [] d xm_200 0 [some (1, x)] (st) mem Post = (zvc E n [] d xm_200 1 [some (1, x)] ((1, x) :: st) mem Post) := zrf rfl
theorem s_200_1 {E : yE} {n d : Nat} {mem : yMem} {Post : Option yV → yMem → Prop} {st : List yV} {r0 : Option yV} : zvc E (n + 1) [] d xm_200 1 [r0] ((1, 95) :: st) mem Post = (zvc E n [] d xm_200 4 [r0] ((0, mem 95 31) :: st) mem Post) := zrf rfl
theorem s_200_4 {E : yE} {n d : Nat} {mem : yMem} {Post : Option yV → yMem → Prop} {st : List yV} {r0 : Option yV} {x : Int} : zvc E (n + 1) [] d xm_200 4 [r0] ((0, x) :: st) mem Post = ((w32 x = w32 0 → zvc E n [] d xm_200 8 [r0] (st) mem Post) ∧ (¬ (w32 x = w32 0) → zvc E n [] d xm_200 7 [r0] (st) mem Post)) := zrf rfl
theorem s_200_7 {E : yE} {n d : Nat} {mem : yMem} {Post : Option yV → yMem → Prop} {r0 : Option yV} : zvc E (n + 1) [] d xm_200 7 [r0] ([]) mem Post = (Post none mem) := zrf rfl
theorem s_200_8 {E : yE} {n d : Nat} {mem : yMem} {Post : Option yV → yMem → Prop} {st : List yV} {x : Int} : zvc E (n + 1) [] d xm_200 8 [some (1, x)] (st) mem Post = (zvc E n [] d xm_200 9 [some (1, x)] ((1, x) :: st) mem Post) := zrf rfl
theorem s_200_9 {E : yE} {n d : Nat} {mem : yMem} {Post : Option yV → yMem → Prop} {st : List yV} {r0 : Option yV} : zvc E (n + 1) [] d xm_200 9 [r0] ((1, 95) :: st) mem Post = (zvc E n [] d xm_200 12 [r0] ((0, mem 95 36) :: st) mem Post) := zrf rfl
theorem s_200_12 {E : yE} {n d : Nat} {mem : yMem} {Post : Option yV → yMem → Prop} {st : List yV} {r0 : Option yV} : zvc E (n + 1) [] d xm_200 12 [r0] (st) mem Post = (zvc E n [] d xm_200 14 [r0] ((0, 64) :: st) mem Post) := zrf rfl
theorem s_200_14 {E : yE} {n d : Nat} {mem : yMem} {Post : Option yV → yMem → Prop} {st : List yV} {r0 : Option yV} {x y : Int} : zvc E (n + 1) [] d xm_200 14 [r0] ((0, y) :: (0, x) :: st) mem Post = ((¬ w32 x = w32 y → zvc E n [] d xm_200 25 [r0] (st) mem Post) ∧ (¬ (¬ w32 x = w32 y) → zvc E n [] d xm_200 17 [r0] (st) mem Post)) := zrf rfl
theorem s_200_17 {E : yE} {n d : Nat} {mem : yMem} {Post : Option yV → yMem → Prop} {st : List yV} {x : Int} : zvc E (n + 1) [] d xm_200 17 [some (1, x)] (st) mem Post = (zvc E n [] d xm_200 18 [some (1, x)] ((1, x) :: st) mem Post) := zrf rfl
theorem s_200_18 {E : yE} {n d : Nat} {mem : yMem} {Post : Option yV → yMem → Prop} {st : List yV} {r0 : Option yV} : zvc E (n + 1) [] d xm_200 18 [r0] (st) mem Post = (zvc E n [] d xm_200 19 [r0] ((0, 2) :: st) mem Post) := zrf rfl
theorem s_200_19 {E : yE} {n d : Nat} {mem : yMem} {Post : Option yV → yMem → Prop} {st : List yV} {r0 : Option yV} {z a0 : Int} : zvc E (n + 1) [] (d + 1) xm_200 19 [r0] ((0, a0) :: (1, z) :: st) mem Post = (zio z 12 = true ∧ ysum st ≤ 8 ∧ zvc E n [] d xm_254 0 [some (1, z), some (0, a0)] [] mem (fun v mem' => zvk E n [] (d + 1) xm_200 22 [r0] st v mem' Post)) := zrf rfl
theorem s_200_22 {E : yE} {n d : Nat} {mem : yMem} {Post : Option yV → yMem → Prop} {st : List yV} {r0 : Option yV} : zvc E (n + 1) [] d xm_200 22 [r0] (st) mem Post = (zvc E n [] d xm_200 35 [r0] (st) mem Post) := zrf rfl
theorem s_200_25 {E : yE} {n d : Nat} {mem : yMem} {Post : Option yV → yMem → Prop} {st : List yV} {x : Int} : zvc E (n + 1) [] d xm_200 25 [some (1, x)] (st) mem Post = (zvc E n [] d xm_200 26 [some (1, x)] ((1, x) :: st) mem Post) := zrf rfl
theorem s_200_26a {E : yE} {n d : Nat} {mem : yMem} {Post : Option yV → yMem → Prop} {st : List yV} {r0 : Option yV} {x : Int} : zvc E (n + 1) [] d xm_200 26 [r0] ((0, x) :: st) mem Post = (zvc E n [] d xm_200 27 [r0] ((0, x) :: (0, x) :: st) mem Post) := zrf rfl
theorem s_200_26b {E : yE} {n d : Nat} {mem : yMem} {Post : Option yV → yMem → Prop} {st : List yV} {r0 : Option yV} {x : Int} : zvc E (n + 1) [] d xm_200 26 [r0] ((1, x) :: st) mem Post = (zvc E n [] d xm_200 27 [r0] ((1, x) :: (1, x) :: st) mem Post) := zrf rfl
theorem s_200_27 {E : yE} {n d : Nat} {mem : yMem} {Post : Option yV → yMem → Prop} {st : List yV} {r0 : Option yV} : zvc E (n + 1) [] d xm_200 27 [r0] ((1, 95) :: st) mem Post = (zvc E n [] d xm_200 30 [r0] ((0, mem 95 36) :: st) mem Post) := zrf rfl
theorem s_200_30 {E : yE} {n d : Nat} {mem : yMem} {Post : Option yV → yMem → Prop} {st : List yV} {r0 : Option yV} : zvc E (n + 1) [] d xm_200 30 [r0] (st) mem Post = (zvc E n [] d xm_200 31 [r0] ((0, 1) :: st) mem Post) := zrf rfl
theorem s_200_31 {E : yE} {n d : Nat} {mem : yMem} {Post : Option yV → yMem → Prop} {st : List yV} {r0 : Option yV} {x y : Int} : zvc E (n + 1) [] d xm_200 31 [r0] ((0, y) :: (0, x) :: st) mem Post = (zvc E n [] d xm_200 32 [r0] ((0, x + y) :: st) mem Post) := zrf rfl
theorem s_200_32 {E : yE} {n d : Nat} {mem : yMem} {Post : Option yV → yMem → Prop} {st : List yV} {r0 : Option yV} {x : Int} : zvc E (n + 1) [] d xm_200 32 [r0] ((0, x) :: (1, 95) :: st) mem Post = (zvc E n [] d xm_200 35 [r0] (st) (yset mem 95 36 x) Post) := zrf rfl
theorem s_200_35 {E : yE} {n d : Nat} {mem : yMem} {Post : Option yV → yMem → Prop} {r0 : Option yV} : zvc E (n + 1) [] d xm_200 35 [r0] ([]) mem Post = (Post none mem) := zrf rfl
theorem s_219_0 {E : yE} {n d : Nat} {mem : yMem} {Post : Option yV → yMem → Prop} {st : List yV} {r1 r2 : Option yV} {x : Int} : zvc E (n + 1) [] d xm_219 0 [some (1, x), r1, r2] (st) mem Post = (zvc E n [] d xm_219 1 [some (1, x), r1, r2] ((1, x) :: st) mem Post) := zrf rfl
theorem s_219_1 {E : yE} {n d : Nat} {mem : yMem} {Post : Option yV → yMem → Prop} {st : List yV} {r0 r1 r2 : Option yV} : zvc E (n + 1) [] d xm_219 1 [r0, r1, r2] ((1, 95) :: st) mem Post = (zvc E n [] d xm_219 4 [r0, r1, r2] ((0, mem 95 31) :: st) mem Post) := zrf rfl
theorem s_219_4 {E : yE} {n d : Nat} {mem : yMem} {Post : Option yV → yMem → Prop} {st : List yV} {r0 r1 r2 : Option yV} {x : Int} : zvc E (n + 1) [] d xm_219 4 [r0, r1, r2] ((0, x) :: st) mem Post = ((w32 x = w32 0 → zvc E n [] d xm_219 8 [r0, r1, r2] (st) mem Post) ∧ (¬ (w32 x = w32 0) → zvc E n [] d xm_219 7 [r0, r1, r2] (st) mem Post)) := zrf rfl
theorem s_219_7 {E : yE} {n d : Nat} {mem : yMem} {Post : Option yV → yMem → Prop} {r0 r1 r2 : Option yV} : zvc E (n + 1) [] d xm_219 7 [r0, r1, r2] ([]) mem Post = (Post none mem) := zrf rfl
theorem s_219_8 {E : yE} {n d : Nat} {mem : yMem} {Post : Option yV → yMem → Prop} {st : List yV} {r1 r2 : Option yV} {x : Int} : zvc E (n + 1) [] d xm_219 8 [some (1, x), r1, r2] (st) mem Post = (zvc E n [] d xm_219 9 [some (1, x), r1, r2] ((1, x) :: st) mem Post) := zrf rfl
theorem s_219_9 {E : yE} {n d : Nat} {mem : yMem} {Post : Option yV → yMem → Prop} {st : List yV} {r0 r1 r2 : Option yV} : zvc E (n + 1) [] d xm_219 9 [r0, r1, r2] ((1, 95) :: st) mem Post = (zvc E n [] d xm_219 12 [r0, r1, r2] ((1, 116) :: st) mem Post) := zrf rfl
theorem s_219_12 {E : yE} {n d : Nat} {mem : yMem} {Post : Option yV → yMem → Prop} {st : List yV} {r0 r1 r2 : Option yV} : zvc E (n + 1) [] d xm_219 12 [r0, r1, r2] (st) mem Post = (zvc E n [] d xm_219 14 [r0, r1, r2] ((0, 64) :: st) mem Post) := zrf rfl
theorem s_219_14 {E : yE} {n d : Nat} {mem : yMem} {Post : Option yV → yMem → Prop} {st : List yV} {r1 r2 : Option yV} {x : Int} : zvc E (n + 1) [] d xm_219 14 [some (1, x), r1, r2] (st) mem Post = (zvc E n [] d xm_219 15 [some (1, x), r1, r2] ((1, x) :: st) mem Post) := zrf rfl
theorem s_219_15 {E : yE} {n d : Nat} {mem : yMem} {Post : Option yV → yMem → Prop} {st : List yV} {r0 r1 r2 : Option yV} : zvc E (n + 1) [] d xm_219 15 [r0, r1, r2] (st) mem Post = (zvc E n [] d xm_219 17 [r0, r1, r2] ((0, 6) :: st) mem Post) := zrf rfl
theorem s_219_17 {E : yE} {n d : Nat} {mem : yMem} {Post : Option yV → yMem → Prop} {st : List yV} {r0 r1 r2 : Option yV} {z a0 : Int} : zvc E (n + 1) [] (d + 1) xm_219 17 [r0, r1, r2] ((0, a0) :: (1, z) :: st) mem Post = (zio z 12 = true ∧ ysum st ≤ 8 ∧ zvc E n [] d xm_170 0 [some (1, z), some (0, a0)] [] mem (fun v mem' => zvk E n [] (d + 1) xm_219 20 [r0, r1, r2] st v mem' Post)) := zrf rfl
theorem s_219_20 {E : yE} {n d : Nat} {mem : yMem} {Post : Option yV → yMem → Prop} {st : List yV} {r0 r1 r2 : Option yV} {x y : Int} : zvc E (n + 1) [] d xm_219 20 [r0, r1, r2] ((0, y) :: (0, x) :: st) mem Post = (zvc E n [] d xm_219 21 [r0, r1, r2] ((0, x + y) :: st) mem Post) := zrf rfl
theorem s_219_21 {E : yE} {n d : Nat} {mem : yMem} {Post : Option yV → yMem → Prop} {st : List yV} {r0 r2 : Option yV} {x : Int} : zvc E (n + 1) [] d xm_219 21 [r0, some (0, x), r2] (st) mem Post = (zvc E n [] d xm_219 22 [r0, some (0, x), r2] ((0, x) :: st) mem Post) := zrf rfl
theorem s_219_22 {E : yE} {n d : Nat} {mem : yMem} {Post : Option yV → yMem → Prop} {st : List yV} {r0 r1 r2 : Option yV} {x z j : Int} : zvc E (n + 1) [] d xm_219 22 [r0, r1, r2] ((0, x) :: (0, j) :: (1, z) :: st) mem Post = ((0 ≤ w32 j ∧ w32 j < ((zar z 0 : Nat) : Int)) ∧ zvc E n [] d xm_219 23 [r0, r1, r2] (st) (yset mem z.toNat (w32 j).toNat x) Post) := zrf rfl
theorem s_219_23 {E : yE} {n d : Nat} {mem : yMem} {Post : Option yV → yMem → Prop} {st : List yV} {r1 r2 : Option yV} {x : Int} : zvc E (n + 1) [] d xm_219 23 [some (1, x), r1, r2] (st) mem Post = (zvc E n [] d xm_219 24 [some (1, x), r1, r2] ((1, x) :: st) mem Post) := zrf rfl
theorem s_219_24 {E : yE} {n d : Nat} {mem : yMem} {Post : Option yV → yMem → Prop} {st : List yV} {r0 r1 r2 : Option yV} : zvc E (n + 1) [] d xm_219 24 [r0, r1, r2] ((1, 95) :: st) mem Post = (zvc E n [] d xm_219 27 [r0, r1, r2] ((1, 117) :: st) mem Post) := zrf rfl
theorem s_219_27 {E : yE} {n d : Nat} {mem : yMem} {Post : Option yV → yMem → Prop} {st : List yV} {r0 r1 r2 : Option yV} : zvc E (n + 1) [] d xm_219 27 [r0, r1, r2] (st) mem Post = (zvc E n [] d xm_219 29 [r0, r1, r2] ((0, 64) :: st) mem Post) := zrf rfl
theorem s_219_29 {E : yE} {n d : Nat} {mem : yMem} {Post : Option yV → yMem → Prop} {st : List yV} {r1 r2 : Option yV} {x : Int} : zvc E (n + 1) [] d xm_219 29 [some (1, x), r1, r2] (st) mem Post = (zvc E n [] d xm_219 30 [some (1, x), r1, r2] ((1, x) :: st) mem Post) := zrf rfl
theorem s_219_30 {E : yE} {n d : Nat} {mem : yMem} {Post : Option yV → yMem → Prop} {st : List yV} {r0 r1 r2 : Option yV} : zvc E (n + 1) [] d xm_219 30 [r0, r1, r2] (st) mem Post = (zvc E n [] d xm_219 32 [r0, r1, r2] ((0, 6) :: st) mem Post) := zrf rfl
theorem s_219_32 {E : yE} {n d : Nat} {mem : yMem} {Post : Option yV → yMem → Prop} {st : List yV} {r0 r1 r2 : Option yV} {z a0 : Int} : zvc E (n + 1) [] (d + 1) xm_219 32 [r0, r1, r2] ((0, a0) :: (1, z) :: st) mem Post = (zio z 12 = true ∧ ysum st ≤ 8 ∧ zvc E n [] d xm_170 0 [some (1, z), some (0, a0)] [] mem (fun v mem' => zvk E n [] (d + 1) xm_219 35 [r0, r1, r2] st v mem' Post)) := zrf rfl
theorem s_219_35 {E : yE} {n d : Nat} {mem : yMem} {Post : Option yV → yMem → Prop} {st : List yV} {r0 r1 r2 : Option yV} {x y : Int} : zvc E (n + 1) [] d xm_219 35 [r0, r1, r2] ((0, y) :: (0, x) :: st) mem Post = (zvc E n [] d xm_219 36 [r0, r1, r2] ((0, x + y) :: st) mem Post) := zrf rfl
theorem s_219_36 {E : yE} {n d : Nat} {mem : yMem} {Post : Option yV → yMem → Prop} {st : List yV} {r0 r1 : Option yV} {x : Int} : zvc E (n + 1) [] d xm_219 36 [r0, r1, some (0, x)] (st) mem Post = (zvc E n [] d xm_219 37 [r0, r1, some (0, x)] ((0, x) :: st) mem Post) := zrf rfl
theorem s_219_37 {E : yE} {n d : Nat} {mem : yMem} {Post : Option yV → yMem → Prop} {st : List yV} {r0 r1 r2 : Option yV} {x z j : Int} : zvc E (n + 1) [] d xm_219 37 [r0, r1, r2] ((0, x) :: (0, j) :: (1, z) :: st) mem Post = ((0 ≤ w32 j ∧ w32 j < ((zar z 0 : Nat) : Int)) ∧ zvc E n [] d xm_219 38 [r0, r1, r2] (st) (yset mem z.toNat (w32 j).toNat x) Post) := zrf rfl
theorem s_219_38 {E : yE} {n d : Nat} {mem : yMem} {Post : Option yV → yMem → Prop} {st : List yV} {r1 r2 : Option yV} {x : Int} : zvc E (n + 1) [] d xm_219 38 [some (1, x), r1, r2] (st) mem Post = (zvc E n [] d xm_219 39 [some (1, x), r1, r2] ((1, x) :: st) mem Post) := zrf rfl
theorem s_219_39 {E : yE} {n d : Nat} {mem : yMem} {Post : Option yV → yMem → Prop} {st : List yV} {r0 r1 r2 : Option yV} : zvc E (n + 1) [] d xm_219 39 [r0, r1, r2] (st) mem Post = (zvc E n [] d xm_219 41 [r0, r1, r2] ((0, 6) :: st) mem Post) := zrf rfl
theorem s_219_41 {E : yE} {n d : Nat} {mem : yMem} {Post : Option yV → yMem → Prop} {st : List yV} {r1 r2 : Option yV} {x : Int} : zvc E (n + 1) [] d xm_219 41 [some (1, x), r1, r2] (st) mem Post = (zvc E n [] d xm_219 42 [some (1, x), r1, r2] ((1, x) :: st) mem Post) := zrf rfl
theorem s_219_42 {E : yE} {n d : Nat} {mem : yMem} {Post : Option yV → yMem → Prop} {st : List yV} {r0 r1 r2 : Option yV} : zvc E (n + 1) [] d xm_219 42 [r0, r1, r2] (st) mem Post = (zvc E n [] d xm_219 44 [r0, r1, r2] ((0, 6) :: st) mem Post) := zrf rfl
theorem s_219_44 {E : yE} {n d : Nat} {mem : yMem} {Post : Option yV → yMem → Prop} {st : List yV} {r0 r1 r2 : Option yV} {z a0 : Int} : zvc E (n + 1) [] (d + 1) xm_219 44 [r0, r1, r2] ((0, a0) :: (1, z) :: st) mem Post = (zio z 12 = true ∧ ysum st ≤ 8 ∧ zvc E n [] d xm_170 0 [some (1, z), some (0, a0)] [] mem (fun v mem' => zvk E n [] (d + 1) xm_219 47 [r0, r1, r2] st v mem' Post)) := zrf rfl
theorem s_219_47 {E : yE} {n d : Nat} {mem : yMem} {Post : Option yV → yMem → Prop} {st : List yV} {r0 r1 r2 : Option yV} : zvc E (n + 1) [] d xm_219 47 [r0, r1, r2] (st) mem Post = (zvc E n [] d xm_219 48 [r0, r1, r2] ((0, 1) :: st) mem Post) := zrf rfl
theorem s_219_48 {E : yE} {n d : Nat} {mem : yMem} {Post : Option yV → yMem → Prop} {st : List yV} {r0 r1 r2 : Option yV} {x y : Int} : zvc E (n + 1) [] d xm_219 48 [r0, r1, r2] ((0, y) :: (0, x) :: st) mem Post = (zvc E n [] d xm_219 49 [r0, r1, r2] ((0, x + y) :: st) mem Post) := zrf rfl
theorem s_219_49 {E : yE} {n d : Nat} {mem : yMem} {Post : Option yV → yMem → Prop} {st : List yV} {r0 r1 r2 : Option yV} {z a0 a1 : Int} : zvc E (n + 1) [] (d + 1) xm_219 49 [r0, r1, r2] ((0, a1) :: (0, a0) :: (1, z) :: st) mem Post = (zio z 12 = true ∧ ysum st ≤ 8 ∧ zvc E n [] d xm_221 0 [some (1, z), some (0, a0), some (0, a1)] [] mem (fun v mem' => zvk E n [] (d + 1) xm_219 52 [r0, r1, r2] st v mem' Post)) := zrf rfl
theorem s_219_52 {E : yE} {n d : Nat} {mem : yMem} {Post : Option yV → yMem → Prop} {r0 r1 r2 : Option yV} : zvc E (n + 1) [] d xm_219 52 [r0, r1, r2] ([]) mem Post = (Post none mem) := zrf rfl
theorem s_221_0 {E : yE} {n d : Nat} {mem : yMem} {Post : Option yV → yMem → Prop} {st : List yV} {r1 r2 : Option yV} {x : Int} : zvc E (n + 1) [] d xm_221 0 [some (1, x), r1, r2] (st) mem Post = (zvc E n [] d xm_221 1 [some (1, x), r1, r2] ((1, x) :: st) mem Post) := zrf rfl
theorem s_221_1 {E : yE} {n d : Nat} {mem : yMem} {Post : Option yV → yMem → Prop} {st : List yV} {r0 r1 r2 : Option yV} : zvc E (n + 1) [] d xm_221 1 [r0, r1, r2] ((1, 95) :: st) mem Post = (zvc E n [] d xm_221 4 [r0, r1, r2] ((1, 97) :: st) mem Post) := zrf rfl
theorem s_221_4 {E : yE} {n d : Nat} {mem : yMem} {Post : Option yV → yMem → Prop} {st : List yV} {r0 r1 r2 : Option yV} : zvc E (n + 1) [] d xm_221 4 [r0, r1, r2] (st) mem Post = (zvc E n [] d xm_221 6 [r0, r1, r2] ((0, 7) :: st) mem Post) := zrf rfl
theorem s_221_6 {E : yE} {n d : Nat} {mem : yMem} {Post : Option yV → yMem → Prop} {st : List yV} {r0 r2 : Option yV} {x : Int} : zvc E (n + 1) [] d xm_221 6 [r0, some (0, x), r2] (st) mem Post = (zvc E n [] d xm_221 7 [r0, some (0, x), r2] ((0, x) :: st) mem Post) := zrf rfl
theorem s_221_7 {E : yE} {n d : Nat} {mem : yMem} {Post : Option yV → yMem → Prop} {st : List yV} {r0 r1 r2 : Option yV} {x y : Int} : zvc E (n + 1) [] d xm_221 7 [r0, r1, r2] ((0, y) :: (0, x) :: st) mem Post = (zvc E n [] d xm_221 8 [r0, r1, r2] ((0, x + y) :: st) mem Post) := zrf rfl
theorem s_221_8 {E : yE} {n d : Nat} {mem : yMem} {Post : Option yV → yMem → Prop} {st : List yV} {r0 r1 : Option yV} {x : Int} : zvc E (n + 1) [] d xm_221 8 [r0, r1, some (0, x)] (st) mem Post = (zvc E n [] d xm_221 9 [r0, r1, some (0, x)] ((0, x) :: st) mem Post) := zrf rfl
theorem s_221_9 {E : yE} {n d : Nat} {mem : yMem} {Post : Option yV → yMem → Prop} {st : List yV} {r0 r1 r2 : Option yV} {x z j : Int} : zvc E (n + 1) [] d xm_221 9 [r0, r1, r2] ((0, x) :: (0, j) :: (1, z) :: st) mem Post = ((0 ≤ w32 j ∧ w32 j < ((zar z 0 : Nat) : Int)) ∧ zvc E n [] d xm_221 10 [r0, r1, r2] (st) (yset mem z.toNat (w32 j).toNat x) Post) := zrf rfl
theorem s_221_10 {E : yE} {n d : Nat} {mem : yMem} {Post : Option yV → yMem → Prop} {r0 r1 r2 : Option yV} : zvc E (n + 1) [] d xm_221 10 [r0, r1, r2] ([]) mem Post = (Post none mem) := zrf rfl
theorem e_217 {E : yE} {d : Nat} {mem : yMem} {Q : Option yV → yMem → Prop} {z : Int} (h : zG E d xm_217 0 [some (1, z), none] [] mem Q) : yCon E (d + 1) xm_217 [(1, z)] mem Q := zcon_of xmo_217 (Nat.le_of_ble_eq_true rfl) h
theorem e_218 {E : yE} {d : Nat} {mem : yMem} {Q : Option yV → yMem → Prop} {z : Int} (h : zG E d xm_218 0 [some (1, z), none] [] mem Q) : yCon E (d + 1) xm_218 [(1, z)] mem Q := zcon_of xmo_218 (Nat.le_of_ble_eq_true rfl) h
theorem e_191 {E : yE} {d : Nat} {mem : yMem} {Q : Option yV → yMem → Prop} {z a0 : Int} (h : zG E d xm_191 0 [some (1, z), some (0, a0)] [] mem Q) : yCon E (d + 1) xm_191 [(1, z), (0, a0)] mem Q := zcon_of xmo_191 (Nat.le_of_ble_eq_true rfl) h
theorem e_198 {E : yE} {d : Nat} {mem : yMem} {Q : Option yV → yMem → Prop} {z a0 : Int} (h : zG E d xm_198 0 [some (1, z), some (0, a0)] [] mem Q) : yCon E (d + 1) xm_198 [(1, z), (0, a0)] mem Q := zcon_of xmo_198 (Nat.le_of_ble_eq_true rfl) h
theorem e_200 {E : yE} {d : Nat} {mem : yMem} {Q : Option yV → yMem → Prop} {z : Int} (h : zG E d xm_200 0 [some (1, z)] [] mem Q) : yCon E (d + 1) xm_200 [(1, z)] mem Q := zcon_of xmo_200 (Nat.le_of_ble_eq_true rfl) h
theorem e_219 {E : yE} {d : Nat} {mem : yMem} {Q : Option yV → yMem → Prop} {z a0 a1 : Int} (h : zG E d xm_219 0 [some (1, z), some (0, a0), some (0, a1)] [] mem Q) : yCon E (d + 1) xm_219 [(1, z), (0, a0), (0, a1)] mem Q := zcon_of xmo_219 (Nat.le_of_ble_eq_true rfl) h
theorem e_221 {E : yE} {d : Nat} {mem : yMem} {Q : Option yV → yMem → Prop} {z a0 a1 : Int} (h : zG E d xm_221 0 [some (1, z), some (0, a0), some (0, a1)] [] mem Q) : yCon E (d + 1) xm_221 [(1, z), (0, a0), (0, a1)] mem Q := zcon_of xmo_221 (Nat.le_of_ble_eq_true rfl) h

/-! KNOTS: what reading an E lays down -/
theorem zpf_app {ks vs : Nat → Int} : ∀ (n m a : Nat) (d : Int), zpf ks vs (n + m) a d = (zpf ks vs n a d).bind (zpf ks vs m (a + n))
  | 0, m, a, d => by simp [zpf]
  | n + 1, m, a, d => by
    rw [show n + 1 + m = (n + m) + 1 by omega]
    simp only [zpf]
    split
    · next d' _ =>
      rw [zpf_app n m (a + 1) d', show a + 1 + n = a + (n + 1) by omega]
    · rfl
theorem zp1_up {s v d e c : Int} (hc : 0 ≤ c) (h : zp1 s v d = some e) : zp1 s v (d + c) = some (e + c) := by
  unfold zp1 at h ⊢
  split at h
  · next h2 =>
    rw [if_pos h2]
    split at h
    · next h3 =>
      rw [if_pos h3]
      split at h
      · cases h; rw [if_pos (by omega)]
      · cases h
    · next h3 =>
      rw [if_neg h3]
      split at h
      · cases h; rw [if_pos (by omega)]; congr 1; omega
      · cases h
  · next h2 =>
    rw [if_neg h2]
    split at h
    · next h3 => cases h; rw [if_pos h3]; congr 1; omega
    · cases h
theorem zpf_up {ks vs : Nat → Int} : ∀ (n a : Nat) (d e c : Int), 0 ≤ c → zpf ks vs n a d = some e → zpf ks vs n a (d + c) = some (e + c)
  | 0, a, d, e, c, hc, h => by
    simp only [zpf, Option.some.injEq] at h ⊢
    omega
  | n + 1, a, d, e, c, hc, h => by
    simp only [zpf] at h ⊢
    cases h1 : zp1 (w32 (ks a)) (w32 (vs a)) d with
    | none => rw [h1] at h; cases h
    | some d' =>
      rw [h1] at h
      rw [zp1_up hc h1]
      exact zpf_up n (a + 1) d' e c hc h
theorem zpf_ext {ks vs ks' vs' : Nat → Int} : ∀ (n a : Nat) (d : Int), (∀ j, a ≤ j → j < a + n → ks' j = ks j ∧ vs' j = vs j) → zpf ks' vs' n a d = zpf ks vs n a d
  | 0, a, d, _ => rfl
  | n + 1, a, d, h => by
    simp only [zpf]
    rw [(h a (Nat.le_refl _) (by omega)).1, (h a (Nat.le_refl _) (by omega)).2]
    split
    · exact zpf_ext n (a + 1) _ (fun j h1 h2 => h j (by omega) (by omega))
    · rfl
def zpW : List (Nat × Nat) := [(97, 14), (116, 65), (116, 66), (116, 67), (116, 68), (116, 69), (116, 70), (116, 71), (116, 72), (116, 73), (116, 74), (116, 75), (116, 76), (116, 77), (116, 78), (116, 79), (116, 80), (116, 81), (116, 82), (116, 83), (116, 84), (116, 85), (116, 86), (116, 87), (116, 88), (116, 89), (116, 90), (116, 91), (116, 92), (116, 93), (116, 94), (116, 95), (116, 96), (116, 97), (116, 98), (116, 99), (116, 100), (116, 101), (116, 102), (116, 103), (116, 104), (116, 105), (116, 106), (116, 107), (116, 108), (116, 109), (116, 110), (116, 111), (116, 112), (116, 113), (116, 114), (116, 115), (116, 116), (116, 117), (116, 118), (116, 119), (116, 120), (116, 121), (116, 122), (116, 123), (116, 124), (116, 125), (116, 126), (116, 127), (116, 128), (117, 65), (117, 66), (117, 67), (117, 68), (117, 69), (117, 70), (117, 71), (117, 72), (117, 73), (117, 74), (117, 75), (117, 76), (117, 77), (117, 78), (117, 79), (117, 80), (117, 81), (117, 82), (117, 83), (117, 84), (117, 85), (117, 86), (117, 87), (117, 88), (117, 89), (117, 90), (117, 91), (117, 92), (117, 93), (117, 94), (117, 95), (117, 96), (117, 97), (117, 98), (117, 99), (117, 100), (117, 101), (117, 102), (117, 103), (117, 104), (117, 105), (117, 106), (117, 107), (117, 108), (117, 109), (117, 110), (117, 111), (117, 112), (117, 113), (117, 114), (117, 115), (117, 116), (117, 117), (117, 118), (117, 119), (117, 120), (117, 121), (117, 122), (117, 123), (117, 124), (117, 125), (117, 126), (117, 127), (117, 128)]
def exW : List (Nat × Nat) := [(95, 28), (95, 29), (95, 30), (95, 31), (95, 32), (95, 33), (95, 36), (95, 37), (97, 14), (116, 65), (116, 66), (116, 67), (116, 68), (116, 69), (116, 70), (116, 71), (116, 72), (116, 73), (116, 74), (116, 75), (116, 76), (116, 77), (116, 78), (116, 79), (116, 80), (116, 81), (116, 82), (116, 83), (116, 84), (116, 85), (116, 86), (116, 87), (116, 88), (116, 89), (116, 90), (116, 91), (116, 92), (116, 93), (116, 94), (116, 95), (116, 96), (116, 97), (116, 98), (116, 99), (116, 100), (116, 101), (116, 102), (116, 103), (116, 104), (116, 105), (116, 106), (116, 107), (116, 108), (116, 109), (116, 110), (116, 111), (116, 112), (116, 113), (116, 114), (116, 115), (116, 116), (116, 117), (116, 118), (116, 119), (116, 120), (116, 121), (116, 122), (116, 123), (116, 124), (116, 125), (116, 126), (116, 127), (116, 128), (117, 65), (117, 66), (117, 67), (117, 68), (117, 69), (117, 70), (117, 71), (117, 72), (117, 73), (117, 74), (117, 75), (117, 76), (117, 77), (117, 78), (117, 79), (117, 80), (117, 81), (117, 82), (117, 83), (117, 84), (117, 85), (117, 86), (117, 87), (117, 88), (117, 89), (117, 90), (117, 91), (117, 92), (117, 93), (117, 94), (117, 95), (117, 96), (117, 97), (117, 98), (117, 99), (117, 100), (117, 101), (117, 102), (117, 103), (117, 104), (117, 105), (117, 106), (117, 107), (117, 108), (117, 109), (117, 110), (117, 111), (117, 112), (117, 113), (117, 114), (117, 115), (117, 116), (117, 117), (117, 118), (117, 119), (117, 120), (117, 121), (117, 122), (117, 123), (117, 124), (117, 125), (117, 126), (117, 127), (117, 128)]
theorem zpW_hi : ∀ j : Nat, j < 128 → 64 ≤ j → amod zpW 116 j = true ∧ amod zpW 117 j = true := by decide +kernel
theorem zpW_ex : amsub zpW exW = true := by decide +kernel
/-- how many KNOTS are counted and laid down -/
abbrev zK (mem : yMem) : Int := w32 (mem 97 13)
abbrev zC (mem : yMem) : Int := w32 (mem 95 36)
abbrev zF (mem : yMem) : Int := w32 (mem 95 31)
/-- what reading a piece of an E does: c more on the stack -/
def Ex (c : Int) (mem m : yMem) : Prop := PI m ∧ aFrm exW mem m ∧ w32 (mem 95 27) ≤ w32 (m 95 27) ∧ (¬ zF mem = 0 → m = mem) ∧ (zF m = 0 → w32 (m 95 35) = w32 (mem 95 35) ∧ zC m - zK m = zC mem - zK mem ∧ zK mem ≤ zK m ∧ zC mem ≤ zC m ∧ (∀ j : Nat, (j : Int) < 64 + zK mem → m 116 j = mem 116 j ∧ m 117 j = mem 117 j) ∧ ∃ e, c ≤ e ∧ zpf (m 116) (m 117) (zK m - zK mem).toNat (64 + zK mem).toNat 0 = some e)
theorem Ex_rf {c : Int} {mem : yMem} (hP : PI mem) (hf : ¬ zF mem = 0) : Ex c mem mem := ⟨hP, aFrm_rf, Int.le_refl _, fun _ => rfl, fun h => absurd h hf⟩
theorem PI_K {mem : yMem} (hP : PI mem) : 0 ≤ zK mem ∧ zK mem ≤ zC mem ∧ zC mem ≤ 64 := ⟨(ag hP.1 97 13 ag_97_13).1, hP.2.2.1, (ag hP.1 95 36 ag_95_36).2⟩
theorem PI_knot {mem : yMem} (hP : PI mem) (hC : zC mem < 64) : PI (yset mem 95 36 (mem 95 36 + 1)) ∧ zC (yset mem 95 36 (mem 95 36 + 1)) = zC mem + 1 := by
  obtain ⟨k1, k2, k3⟩ := PI_K hP
  have hCe : zC mem = w32 (mem 95 36) := rfl
  have e1 : w32 (mem 95 36 + 1) = w32 (mem 95 36) + 1 := by rw [w32_ad (by rw [w32c_1]; omega) (by rw [w32c_1]; omega), w32c_1]
  have eC : zC (yset mem 95 36 (mem 95 36 + 1)) = zC mem + 1 := by show w32 _ = _; rw [yset_s, e1]
  refine ⟨⟨aGok_set hP.1 (by rw [ag_95_36, e1]; exact ⟨by dsimp only; omega, by dsimp only; omega⟩), ?_, ?_, ?_⟩, eC⟩
  · rw [yset_d (by decide), yset_d (by decide)]; exact hP.2.1
  · rw [yset_o (by decide)]; show zK mem ≤ zC _; rw [eC]; omega
  · rw [yset_d (by decide), yset_d (by decide)]; exact hP.2.2.2
/-- one KNOT is laid down -/
def zput (mem : yMem) (k v : Int) : yMem := yset (yset (yset mem 116 (w32 (64 + mem 97 13)).toNat k) 117 (w32 (64 + mem 97 13)).toNat v) 97 13 (mem 97 13 + 1)
theorem zput_ok {mem : yMem} (hP : PI mem) (hK : zK mem < zC mem) (k v : Int) : PI (zput mem k v) ∧ zK (zput mem k v) = zK mem + 1 ∧ w32 (64 + mem 97 13) = 64 + zK mem ∧ aFrm zpW mem (zput mem k v) ∧ (∀ j : Nat, (j : Int) < 64 + zK mem → zput mem k v 116 j = mem 116 j ∧ zput mem k v 117 j = mem 117 j) ∧ zput mem k v 116 (64 + zK mem).toNat = k ∧ zput mem k v 117 (64 + zK mem).toNat = v := by
  obtain ⟨k1, k2, k3⟩ := PI_K hP
  have hKe : zK mem = w32 (mem 97 13) := rfl
  have e1 : w32 (mem 97 13 + 1) = w32 (mem 97 13) + 1 := by rw [w32_ad (by rw [w32c_1]; omega) (by rw [w32c_1]; omega), w32c_1]
  have e64 : w32 64 = 64 := by decide
  have e2 : w32 (64 + mem 97 13) = 64 + zK mem := by rw [w32_ad (by rw [e64]; omega) (by rw [e64]; omega), e64]
  have hh := zpW_hi (w32 (64 + mem 97 13)).toNat (by omega) (by omega)
  have hF : aFrm zpW mem (zput mem k v) := aFrm_set (aFrm_set (aFrm_set aFrm_rf hh.1) hh.2) rfl
  have eK : zK (zput mem k v) = zK mem + 1 := by show w32 (yset _ _ _ _ _ _) = _; rw [yset_s, e1]
  refine ⟨⟨aGok_set (aGok_set (aGok_set hP.1 (ag_32 (agam_A ae_116))) (ag_32 (agam_A ae_117))) (by rw [ag_97_13, e1]; exact ⟨by dsimp only; omega, by dsimp only; omega⟩), ?_, ?_, ?_⟩, eK, e2, hF, fun j hj => ?_, ?_, ?_⟩
  · rw [hF 95 27 rfl, hF 95 26 rfl]; exact hP.2.1
  · show zK _ ≤ w32 _; rw [eK, hF 95 36 rfl]; show zK mem + 1 ≤ zC mem; omega
  · rw [hF 95 29 rfl, hF 95 30 rfl]; exact hP.2.2.2
  · unfold zput
    rw [e2]
    exact ⟨by rw [yset_o (by decide), yset_o (by decide), yset_d (by omega)], by rw [yset_o (by decide), yset_d (by omega), yset_o (by decide)]⟩
  · unfold zput
    rw [e2, yset_o (by decide), yset_o (by decide), yset_s]
  · unfold zput
    rw [e2, yset_o (by decide), yset_s]
/-- pieces one behind the other -/
theorem zpf_two {ks vs ks' vs' : Nat → Int} {n m a : Nat} {e f : Int} (he : 0 ≤ e) (h1 : zpf ks vs n a 0 = some e) (hx : ∀ j, a ≤ j → j < a + n → ks' j = ks j ∧ vs' j = vs j) (h2 : zpf ks' vs' m (a + n) 0 = some f) : zpf ks' vs' (n + m) a 0 = some (f + e) := by
  rw [zpf_app, zpf_ext (ks := ks) (vs := vs) n a 0 hx, h1]
  have := zpf_up _ _ _ _ e he h2
  rwa [Int.zero_add] at this
/-- one more KNOT: a sign -/
theorem zpf_sign {ks vs : Nat → Int} {n a : Nat} {e : Int} (h : zpf ks vs n a 0 = some e) (he : 2 ≤ e) (hk : w32 (ks (a + n)) = 2) : ∃ f, 1 ≤ f ∧ zpf ks vs (n + 1) a 0 = some f := by
  rw [zpf_app, h]
  show ∃ f, 1 ≤ f ∧ zpf ks vs 1 (a + n) e = some f
  simp only [zpf, zp1]
  rw [if_pos hk]
  by_cases hv : w32 (vs (a + n)) = 260
  · rw [if_pos hv, if_pos (by omega)]
    exact ⟨e, by omega, rfl⟩
  · rw [if_neg hv, if_pos he]
    exact ⟨e - 1, by omega, rfl⟩
theorem zpf_not {ks vs : Nat → Int} {n a : Nat} {e : Int} (h : zpf ks vs n a 0 = some e) (he : 1 ≤ e) (hk : w32 (ks (a + n)) = 2) (hv : w32 (vs (a + n)) = 260) : zpf ks vs (n + 1) a 0 = some e := by
  rw [zpf_app, h]
  show zpf ks vs 1 (a + n) e = some e
  simp only [zpf, zp1]
  rw [if_pos hk, if_pos hv, if_pos he]
/-- a piece, a sign's KNOT counted, a TOKEN, another piece -/
theorem Ex_bin {a b b2 b3 : yMem} (hPa : PI a) (h : Ex 1 a b) (hb : zF b = 0) (hC : zC b < 64) (h2 : Rd (yset b 95 36 (b 95 36 + 1)) b2) (h3 : Ex 1 b2 b3) : (¬ zF b3 = 0 → Ex 1 a b3) ∧ (zF b3 = 0 → zK b3 < zC b3 ∧ ∀ s, Ex 1 a (zput b3 2 s)) := by
  obtain ⟨p1, p2, p3, p4, p5⟩ := h
  obtain ⟨a1, a2, a3, a4, a5, ea, a6, a7⟩ := p5 hb
  obtain ⟨hk1, hk2⟩ := PI_knot p1 hC
  obtain ⟨r1, r2, r3, r4⟩ := h2
  obtain ⟨q1, q2, q3, q4, q5⟩ := h3
  obtain ⟨ka1, ka2, ka3⟩ := PI_K hPa
  obtain ⟨kb1, kb2, kb3⟩ := PI_K p1
  have hFb : aFrm exW a b2 := aFrm_tr p2 (aFrm_tr (aFrm_set aFrm_rf rfl) (aFrm_w r2 rfl))
  have hat : w32 (a 95 27) ≤ w32 (b2 95 27) := by
    rw [yset_d (by decide)] at r3
    omega
  have hfa : zF a = 0 := by
    by_cases h : zF a = 0
    · exact h
    · rw [p4 h] at hb; exact hb
  have e2K : zK b2 = zK b := by show w32 _ = w32 _; rw [r2 97 13 rfl, yset_o (by decide)]
  have e2C : zC b2 = zC b + 1 := by show w32 _ = _; rw [r2 95 36 rfl]; exact hk2
  have e2o : b2 95 35 = b 95 35 := by rw [r2 95 35 rfl, yset_d (by decide)]
  have e2a : ∀ j, b2 116 j = b 116 j ∧ b2 117 j = b 117 j := fun j => ⟨by rw [r2 116 j rfl, yset_o (by decide)], by rw [r2 117 j rfl, yset_o (by decide)]⟩
  refine ⟨fun hf => ⟨q1, aFrm_tr hFb q2, by omega, fun h => absurd hfa h, fun h => absurd h hf⟩, fun hf => ?_⟩
  obtain ⟨b1, c2, c3, c4, c5, eb, c6, c7⟩ := q5 hf
  have hK : zK b3 < zC b3 := by omega
  refine ⟨hK, fun s => ?_⟩
  obtain ⟨z1, z2, z3, z4, z5, z6, z7⟩ := zput_ok q1 hK 2 s
  have zf : zF (zput b3 2 s) = zF b3 := by show w32 _ = w32 _; rw [z4 95 31 rfl]
  refine ⟨z1, aFrm_tr hFb (aFrm_tr q2 (aFrm_w z4 zpW_ex)), by rw [z4 95 27 rfl]; omega, fun h => absurd hfa h, fun _ => ⟨?_, ?_, ?_, ?_, fun j hj => ?_, ?_⟩⟩
  · rw [z4 95 35 rfl, b1, e2o, a1]
  · rw [z2]; show w32 _ - _ = _; rw [z4 95 36 rfl]; show zC b3 - (zK b3 + 1) = _; omega
  · omega
  · show _ ≤ w32 _; rw [z4 95 36 rfl]; show _ ≤ zC b3; omega
  · obtain ⟨u1, u2⟩ := z5 j (by omega)
    obtain ⟨v1, v2⟩ := c5 j (by omega)
    obtain ⟨w1, w2⟩ := e2a j
    obtain ⟨x1, x2⟩ := a5 j hj
    exact ⟨by rw [u1, v1, w1, x1], by rw [u2, v2, w2, x2]⟩
  · have s1 : zpf (zput b3 2 s 116) (zput b3 2 s 117) (zK b3 - zK b2).toNat (64 + zK b2).toNat 0 = some eb := by
      rw [zpf_ext (ks := b3 116) (vs := b3 117) _ _ 0 (fun j h1 h2 => z5 j (by omega))]
      exact c7
    have s2 := zpf_two (ks' := zput b3 2 s 116) (vs' := zput b3 2 s 117) (m := (zK b3 - zK b2).toNat) (f := eb) (by omega) a7 (fun j h1 h2 => by
      obtain ⟨u1, u2⟩ := z5 j (by omega)
      obtain ⟨v1, v2⟩ := c5 j (by omega)
      obtain ⟨w1, w2⟩ := e2a j
      exact ⟨by rw [u1, v1, w1], by rw [u2, v2, w2]⟩) (by rw [show (64 + zK a).toNat + (zK b - zK a).toNat = (64 + zK b2).toNat by omega]; exact s1)
    have ei : (64 + zK a).toNat + ((zK b - zK a).toNat + (zK b3 - zK b2).toNat) = (64 + zK b3).toNat := by omega
    have s3 := zpf_sign s2 (by omega) (by rw [ei, z6]; decide)
    rw [show (zK (zput b3 2 s) - zK a).toNat = (zK b - zK a).toNat + (zK b3 - zK b2).toNat + 1 by rw [z2]; omega]
    exact s3
