theorem s_238_0 {E : yE} {n d : Nat} {mem : yMem} {Post : Option yV → yMem → Prop} {st : List yV} {r1 : Option yV} {x : Int} : zvc E (n + 1) [] d xm_238 0 [some (1, x), r1] (st) mem Post = (zvc E n [] d xm_238 1 [some (1, x), r1] ((1, x) :: st) mem Post) := zrf rfl
theorem s_238_1 {E : yE} {n d : Nat} {mem : yMem} {Post : Option yV → yMem → Prop} {st : List yV} {r0 r1 : Option yV} : zvc E (n + 1) [] d xm_238 1 [r0, r1] ((1, 95) :: st) mem Post = (zvc E n [] d xm_238 4 [r0, r1] ((1, 114) :: st) mem Post) := zrf rfl
theorem s_238_4 {E : yE} {n d : Nat} {mem : yMem} {Post : Option yV → yMem → Prop} {st : List yV} {r0 : Option yV} {x : Int} : zvc E (n + 1) [] d xm_238 4 [r0, some (0, x)] (st) mem Post = (zvc E n [] d xm_238 5 [r0, some (0, x)] ((0, x) :: st) mem Post) := zrf rfl
theorem s_238_5 {E : yE} {n d : Nat} {mem : yMem} {Post : Option yV → yMem → Prop} {st : List yV} {r1 : Option yV} {x : Int} : zvc E (n + 1) [] d xm_238 5 [some (1, x), r1] (st) mem Post = (zvc E n [] d xm_238 6 [some (1, x), r1] ((1, x) :: st) mem Post) := zrf rfl
theorem s_238_6 {E : yE} {n d : Nat} {mem : yMem} {Post : Option yV → yMem → Prop} {st : List yV} {r0 r1 : Option yV} : zvc E (n + 1) [] d xm_238 6 [r0, r1] (st) mem Post = (zvc E n [] d xm_238 8 [r0, r1] ((0, 6) :: st) mem Post) := zrf rfl
theorem s_238_8 {E : yE} {n d : Nat} {mem : yMem} {Post : Option yV → yMem → Prop} {st : List yV} {r0 r1 : Option yV} {z a0 : Int} : zvc E (n + 1) [] (d + 1) xm_238 8 [r0, r1] ((0, a0) :: (1, z) :: st) mem Post = (zio z 12 = true ∧ ysum st ≤ 8 ∧ zvc E n [] d xm_170 0 [some (1, z), some (0, a0)] [] mem (fun v mem' => zvk E n [] (d + 1) xm_238 11 [r0, r1] st v mem' Post)) := zrf rfl
theorem s_238_11 {E : yE} {n d : Nat} {mem : yMem} {Post : Option yV → yMem → Prop} {st : List yV} {r0 r1 : Option yV} {x z j : Int} : zvc E (n + 1) [] d xm_238 11 [r0, r1] ((0, x) :: (0, j) :: (1, z) :: st) mem Post = ((0 ≤ w32 j ∧ w32 j < ((zar z 0 : Nat) : Int)) ∧ zvc E n [] d xm_238 12 [r0, r1] (st) (yset mem z.toNat (w32 j).toNat x) Post) := zrf rfl
theorem s_238_12 {E : yE} {n d : Nat} {mem : yMem} {Post : Option yV → yMem → Prop} {st : List yV} {r1 : Option yV} {x : Int} : zvc E (n + 1) [] d xm_238 12 [some (1, x), r1] (st) mem Post = (zvc E n [] d xm_238 13 [some (1, x), r1] ((1, x) :: st) mem Post) := zrf rfl
theorem s_238_13 {E : yE} {n d : Nat} {mem : yMem} {Post : Option yV → yMem → Prop} {st : List yV} {r0 r1 : Option yV} {z : Int} : zvc E (n + 1) [] d xm_238 13 [r0, r1] ((1, z) :: st) mem Post = (zio z 12 = true ∧ ysum st ≤ 8 ∧ yCon E d xm_165 [(1, z)] mem (fun v mem' => zgk E d xm_238 16 [r0, r1] st v mem' Post)) := zrf rfl
theorem s_238_16 {E : yE} {n d : Nat} {mem : yMem} {Post : Option yV → yMem → Prop} {st : List yV} {r1 : Option yV} {x : Int} : zvc E (n + 1) [] d xm_238 16 [some (1, x), r1] (st) mem Post = (zvc E n [] d xm_238 17 [some (1, x), r1] ((1, x) :: st) mem Post) := zrf rfl
theorem s_238_17 {E : yE} {n d : Nat} {mem : yMem} {Post : Option yV → yMem → Prop} {st : List yV} {r0 r1 : Option yV} : zvc E (n + 1) [] d xm_238 17 [r0, r1] ((1, 95) :: st) mem Post = (zvc E n [] d xm_238 20 [r0, r1] ((1, 115) :: st) mem Post) := zrf rfl
theorem s_238_20 {E : yE} {n d : Nat} {mem : yMem} {Post : Option yV → yMem → Prop} {st : List yV} {r0 : Option yV} {x : Int} : zvc E (n + 1) [] d xm_238 20 [r0, some (0, x)] (st) mem Post = (zvc E n [] d xm_238 21 [r0, some (0, x)] ((0, x) :: st) mem Post) := zrf rfl
theorem s_238_21 {E : yE} {n d : Nat} {mem : yMem} {Post : Option yV → yMem → Prop} {st : List yV} {r1 : Option yV} {x : Int} : zvc E (n + 1) [] d xm_238 21 [some (1, x), r1] (st) mem Post = (zvc E n [] d xm_238 22 [some (1, x), r1] ((1, x) :: st) mem Post) := zrf rfl
theorem s_238_22 {E : yE} {n d : Nat} {mem : yMem} {Post : Option yV → yMem → Prop} {st : List yV} {r0 r1 : Option yV} : zvc E (n + 1) [] d xm_238 22 [r0, r1] (st) mem Post = (zvc E n [] d xm_238 24 [r0, r1] ((0, 6) :: st) mem Post) := zrf rfl
theorem s_238_24 {E : yE} {n d : Nat} {mem : yMem} {Post : Option yV → yMem → Prop} {st : List yV} {r0 r1 : Option yV} {z a0 : Int} : zvc E (n + 1) [] (d + 1) xm_238 24 [r0, r1] ((0, a0) :: (1, z) :: st) mem Post = (zio z 12 = true ∧ ysum st ≤ 8 ∧ zvc E n [] d xm_170 0 [some (1, z), some (0, a0)] [] mem (fun v mem' => zvk E n [] (d + 1) xm_238 27 [r0, r1] st v mem' Post)) := zrf rfl
theorem s_238_27 {E : yE} {n d : Nat} {mem : yMem} {Post : Option yV → yMem → Prop} {st : List yV} {r0 r1 : Option yV} {x z j : Int} : zvc E (n + 1) [] d xm_238 27 [r0, r1] ((0, x) :: (0, j) :: (1, z) :: st) mem Post = ((0 ≤ w32 j ∧ w32 j < ((zar z 0 : Nat) : Int)) ∧ zvc E n [] d xm_238 28 [r0, r1] (st) (yset mem z.toNat (w32 j).toNat x) Post) := zrf rfl
theorem s_238_28 {E : yE} {n d : Nat} {mem : yMem} {Post : Option yV → yMem → Prop} {r0 r1 : Option yV} : zvc E (n + 1) [] d xm_238 28 [r0, r1] ([]) mem Post = (Post none mem) := zrf rfl
def zc_203 : List Nat := [30, 65]
theorem s_203_0 {E : yE} {n d : Nat} {mem : yMem} {Post : Option yV → yMem → Prop} {st : List yV} {r1 : Option yV} {x : Int} : zvc E (n + 1) zc_203 d xm_203 0 [some (1, x), r1] (st) mem Post = (zvc E n zc_203 d xm_203 1 [some (1, x), r1] ((1, x) :: st) mem Post) := zrf rfl
theorem s_203_1 {E : yE} {n d : Nat} {mem : yMem} {Post : Option yV → yMem → Prop} {st : List yV} {r0 r1 : Option yV} : zvc E (n + 1) zc_203 d xm_203 1 [r0, r1] ((1, 95) :: st) mem Post = (zvc E n zc_203 d xm_203 4 [r0, r1] ((0, mem 95 29) :: st) mem Post) := zrf rfl
theorem s_203_4 {E : yE} {n d : Nat} {mem : yMem} {Post : Option yV → yMem → Prop} {st : List yV} {r0 r1 : Option yV} {x : Int} : zvc E (n + 1) zc_203 d xm_203 4 [r0, r1] ((0, x) :: st) mem Post = ((¬ w32 x = w32 0 → zvc E n zc_203 d xm_203 25 [r0, r1] (st) mem Post) ∧ (¬ (¬ w32 x = w32 0) → zvc E n zc_203 d xm_203 7 [r0, r1] (st) mem Post)) := zrf rfl
theorem s_203_7 {E : yE} {n d : Nat} {mem : yMem} {Post : Option yV → yMem → Prop} {st : List yV} {r1 : Option yV} {x : Int} : zvc E (n + 1) zc_203 d xm_203 7 [some (1, x), r1] (st) mem Post = (zvc E n zc_203 d xm_203 8 [some (1, x), r1] ((1, x) :: st) mem Post) := zrf rfl
theorem s_203_8 {E : yE} {n d : Nat} {mem : yMem} {Post : Option yV → yMem → Prop} {st : List yV} {r0 r1 : Option yV} : zvc E (n + 1) zc_203 d xm_203 8 [r0, r1] ((1, 95) :: st) mem Post = (zvc E n zc_203 d xm_203 11 [r0, r1] ((0, mem 95 30) :: st) mem Post) := zrf rfl
theorem s_203_11 {E : yE} {n d : Nat} {mem : yMem} {Post : Option yV → yMem → Prop} {st : List yV} {r0 r1 : Option yV} : zvc E (n + 1) zc_203 d xm_203 11 [r0, r1] (st) mem Post = (zvc E n zc_203 d xm_203 13 [r0, r1] ((0, 11) :: st) mem Post) := zrf rfl
theorem s_203_13 {E : yE} {n d : Nat} {mem : yMem} {Post : Option yV → yMem → Prop} {st : List yV} {r0 r1 : Option yV} {x y : Int} : zvc E (n + 1) zc_203 d xm_203 13 [r0, r1] ((0, y) :: (0, x) :: st) mem Post = ((w32 x = w32 y → zvc E n zc_203 d xm_203 30 [r0, r1] (st) mem Post) ∧ (¬ (w32 x = w32 y) → zvc E n zc_203 d xm_203 16 [r0, r1] (st) mem Post)) := zrf rfl
theorem s_203_16 {E : yE} {n d : Nat} {mem : yMem} {Post : Option yV → yMem → Prop} {st : List yV} {r1 : Option yV} {x : Int} : zvc E (n + 1) zc_203 d xm_203 16 [some (1, x), r1] (st) mem Post = (zvc E n zc_203 d xm_203 17 [some (1, x), r1] ((1, x) :: st) mem Post) := zrf rfl
theorem s_203_17 {E : yE} {n d : Nat} {mem : yMem} {Post : Option yV → yMem → Prop} {st : List yV} {r0 r1 : Option yV} : zvc E (n + 1) zc_203 d xm_203 17 [r0, r1] ((1, 95) :: st) mem Post = (zvc E n zc_203 d xm_203 20 [r0, r1] ((0, mem 95 30) :: st) mem Post) := zrf rfl
theorem s_203_20 {E : yE} {n d : Nat} {mem : yMem} {Post : Option yV → yMem → Prop} {st : List yV} {r0 r1 : Option yV} : zvc E (n + 1) zc_203 d xm_203 20 [r0, r1] (st) mem Post = (zvc E n zc_203 d xm_203 22 [r0, r1] ((0, 12) :: st) mem Post) := zrf rfl
theorem s_203_22 {E : yE} {n d : Nat} {mem : yMem} {Post : Option yV → yMem → Prop} {st : List yV} {r0 r1 : Option yV} {x y : Int} : zvc E (n + 1) zc_203 d xm_203 22 [r0, r1] ((0, y) :: (0, x) :: st) mem Post = ((w32 x = w32 y → zvc E n zc_203 d xm_203 30 [r0, r1] (st) mem Post) ∧ (¬ (w32 x = w32 y) → zvc E n zc_203 d xm_203 25 [r0, r1] (st) mem Post)) := zrf rfl
theorem s_203_25 {E : yE} {n d : Nat} {mem : yMem} {Post : Option yV → yMem → Prop} {st : List yV} {r1 : Option yV} {x : Int} : zvc E (n + 1) zc_203 d xm_203 25 [some (1, x), r1] (st) mem Post = (zvc E n zc_203 d xm_203 26 [some (1, x), r1] ((1, x) :: st) mem Post) := zrf rfl
theorem s_203_26 {E : yE} {n d : Nat} {mem : yMem} {Post : Option yV → yMem → Prop} {st : List yV} {r0 r1 : Option yV} : zvc E (n + 1) zc_203 d xm_203 26 [r0, r1] (st) mem Post = (zvc E n zc_203 d xm_203 27 [r0, r1] ((0, 1) :: st) mem Post) := zrf rfl
theorem s_203_27 {E : yE} {n d : Nat} {mem : yMem} {Post : Option yV → yMem → Prop} {st : List yV} {r0 r1 : Option yV} {z a0 : Int} : zvc E (n + 1) zc_203 (d + 1) xm_203 27 [r0, r1] ((0, a0) :: (1, z) :: st) mem Post = (zio z 12 = true ∧ ysum st ≤ 8 ∧ zvc E n [] d xm_254 0 [some (1, z), some (0, a0)] [] mem (fun v mem' => zvk E n zc_203 (d + 1) xm_203 30 [r0, r1] st v mem' Post)) := zrf rfl
theorem g_203_30 {E : yE} {n d : Nat} {mem : yMem} {Post : Option yV → yMem → Prop} {st : List yV} {r1 : Option yV} {x : Int} : zgo E n zc_203 d xm_203 30 [some (1, x), r1] (st) mem Post = (zvc E n zc_203 d xm_203 31 [some (1, x), r1] ((1, x) :: st) mem Post) := zrf rfl
theorem k_203_30 {E : yE} {n d : Nat} {mem : yMem} {Post : Option yV → yMem → Prop} {st : List yV} {rg : zR} : zvc E (n + 1) zc_203 d xm_203 30 rg st mem Post = zG E d xm_203 30 rg st mem Post := zrf rfl
theorem s_203_31 {E : yE} {n d : Nat} {mem : yMem} {Post : Option yV → yMem → Prop} {st : List yV} {r0 r1 : Option yV} : zvc E (n + 1) zc_203 d xm_203 31 [r0, r1] ((1, 95) :: st) mem Post = (zvc E n zc_203 d xm_203 34 [r0, r1] ((0, mem 95 30) :: st) mem Post) := zrf rfl
theorem s_203_34 {E : yE} {n d : Nat} {mem : yMem} {Post : Option yV → yMem → Prop} {st : List yV} {r0 r1 : Option yV} : zvc E (n + 1) zc_203 d xm_203 34 [r0, r1] (st) mem Post = (zvc E n zc_203 d xm_203 36 [r0, r1] ((0, 11) :: st) mem Post) := zrf rfl
theorem s_203_36 {E : yE} {n d : Nat} {mem : yMem} {Post : Option yV → yMem → Prop} {st : List yV} {r0 r1 : Option yV} {x y : Int} : zvc E (n + 1) zc_203 d xm_203 36 [r0, r1] ((0, y) :: (0, x) :: st) mem Post = (zvc E n zc_203 d xm_203 37 [r0, r1] ((0, x - y) :: st) mem Post) := zrf rfl
theorem s_203_37n {E : yE} {n d : Nat} {mem : yMem} {Post : Option yV → yMem → Prop} {st : List yV} {r1 : Option yV} {x : Int} : zvc E (n + 1) zc_203 d xm_203 37 [none, r1] ((0, x) :: st) mem Post = (zvc E n zc_203 d xm_203 38 [none, some (0, x)] (st) mem Post) := zrf rfl
theorem s_203_37i {E : yE} {n d : Nat} {mem : yMem} {Post : Option yV → yMem → Prop} {st : List yV} {r1 : Option yV} {x w : Int} : zvc E (n + 1) zc_203 d xm_203 37 [some (0, w), r1] ((0, x) :: st) mem Post = (zvc E n zc_203 d xm_203 38 [some (0, w), some (0, x)] (st) mem Post) := zrf rfl
theorem s_203_37p {E : yE} {n d : Nat} {mem : yMem} {Post : Option yV → yMem → Prop} {st : List yV} {r1 : Option yV} {x w : Int} : zvc E (n + 1) zc_203 d xm_203 37 [some (1, w), r1] ((0, x) :: st) mem Post = (zvc E n zc_203 d xm_203 38 [some (1, w), some (0, x)] (st) mem Post) := zrf rfl
theorem s_203_37j {E : yE} {n d : Nat} {mem : yMem} {Post : Option yV → yMem → Prop} {st : List yV} {r0 r1 : Option yV} {x : Int} : zvc E (n + 1) zc_203 d xm_203 37 [r0, r1] ((0, x) :: st) mem Post = (zvc E n zc_203 d xm_203 38 [znl r0, some (0, x)] (st) mem Post) := zrf rfl
theorem s_203_38 {E : yE} {n d : Nat} {mem : yMem} {Post : Option yV → yMem → Prop} {st : List yV} {r1 : Option yV} {x : Int} : zvc E (n + 1) zc_203 d xm_203 38 [some (1, x), r1] (st) mem Post = (zvc E n zc_203 d xm_203 39 [some (1, x), r1] ((1, x) :: st) mem Post) := zrf rfl
theorem s_203_39 {E : yE} {n d : Nat} {mem : yMem} {Post : Option yV → yMem → Prop} {st : List yV} {r0 r1 : Option yV} : zvc E (n + 1) zc_203 d xm_203 39 [r0, r1] ((1, 95) :: st) mem Post = (zvc E n zc_203 d xm_203 42 [r0, r1] ((0, mem 95 31) :: st) mem Post) := zrf rfl
theorem s_203_42 {E : yE} {n d : Nat} {mem : yMem} {Post : Option yV → yMem → Prop} {st : List yV} {r0 r1 : Option yV} {x : Int} : zvc E (n + 1) zc_203 d xm_203 42 [r0, r1] ((0, x) :: st) mem Post = ((¬ w32 x = w32 0 → zvc E n zc_203 d xm_203 65 [r0, r1] (st) mem Post) ∧ (¬ (¬ w32 x = w32 0) → zvc E n zc_203 d xm_203 45 [r0, r1] (st) mem Post)) := zrf rfl
theorem s_203_45 {E : yE} {n d : Nat} {mem : yMem} {Post : Option yV → yMem → Prop} {st : List yV} {r1 : Option yV} {x : Int} : zvc E (n + 1) zc_203 d xm_203 45 [some (1, x), r1] (st) mem Post = (zvc E n zc_203 d xm_203 46 [some (1, x), r1] ((1, x) :: st) mem Post) := zrf rfl
theorem s_203_46 {E : yE} {n d : Nat} {mem : yMem} {Post : Option yV → yMem → Prop} {st : List yV} {r0 r1 : Option yV} : zvc E (n + 1) zc_203 d xm_203 46 [r0, r1] ((1, 95) :: st) mem Post = (zvc E n zc_203 d xm_203 49 [r0, r1] ((0, mem 95 24) :: st) mem Post) := zrf rfl
theorem s_203_49 {E : yE} {n d : Nat} {mem : yMem} {Post : Option yV → yMem → Prop} {st : List yV} {r0 r1 : Option yV} : zvc E (n + 1) zc_203 d xm_203 49 [r0, r1] (st) mem Post = (zvc E n zc_203 d xm_203 51 [r0, r1] ((0, 10) :: st) mem Post) := zrf rfl
theorem s_203_51 {E : yE} {n d : Nat} {mem : yMem} {Post : Option yV → yMem → Prop} {st : List yV} {r0 : Option yV} {x : Int} : zvc E (n + 1) zc_203 d xm_203 51 [r0, some (0, x)] (st) mem Post = (zvc E n zc_203 d xm_203 52 [r0, some (0, x)] ((0, x) :: st) mem Post) := zrf rfl
theorem s_203_52 {E : yE} {n d : Nat} {mem : yMem} {Post : Option yV → yMem → Prop} {st : List yV} {r0 r1 : Option yV} {x y : Int} : zvc E (n + 1) zc_203 d xm_203 52 [r0, r1] ((0, y) :: (0, x) :: st) mem Post = (zvc E n zc_203 d xm_203 53 [r0, r1] ((0, x + y) :: st) mem Post) := zrf rfl
theorem s_203_53 {E : yE} {n d : Nat} {mem : yMem} {Post : Option yV → yMem → Prop} {st : List yV} {r0 r1 : Option yV} {x y : Int} : zvc E (n + 1) zc_203 d xm_203 53 [r0, r1] ((0, y) :: (0, x) :: st) mem Post = (zvc E n zc_203 d xm_203 54 [r0, r1] ((0, ybin 7 x y) :: st) mem Post) := zrf rfl
theorem s_203_54 {E : yE} {n d : Nat} {mem : yMem} {Post : Option yV → yMem → Prop} {st : List yV} {r0 r1 : Option yV} : zvc E (n + 1) zc_203 d xm_203 54 [r0, r1] (st) mem Post = (zvc E n zc_203 d xm_203 55 [r0, r1] ((0, 1) :: st) mem Post) := zrf rfl
theorem s_203_55 {E : yE} {n d : Nat} {mem : yMem} {Post : Option yV → yMem → Prop} {st : List yV} {r0 r1 : Option yV} {x y : Int} : zvc E (n + 1) zc_203 d xm_203 55 [r0, r1] ((0, y) :: (0, x) :: st) mem Post = (zvc E n zc_203 d xm_203 56 [r0, r1] ((0, ybin 3 x y) :: st) mem Post) := zrf rfl
theorem s_203_56 {E : yE} {n d : Nat} {mem : yMem} {Post : Option yV → yMem → Prop} {st : List yV} {r0 r1 : Option yV} : zvc E (n + 1) zc_203 d xm_203 56 [r0, r1] (st) mem Post = (zvc E n zc_203 d xm_203 57 [r0, r1] ((0, 1) :: st) mem Post) := zrf rfl
theorem s_203_57 {E : yE} {n d : Nat} {mem : yMem} {Post : Option yV → yMem → Prop} {st : List yV} {r0 r1 : Option yV} {x y : Int} : zvc E (n + 1) zc_203 d xm_203 57 [r0, r1] ((0, y) :: (0, x) :: st) mem Post = ((¬ w32 x = w32 y → zvc E n zc_203 d xm_203 65 [r0, r1] (st) mem Post) ∧ (¬ (¬ w32 x = w32 y) → zvc E n zc_203 d xm_203 60 [r0, r1] (st) mem Post)) := zrf rfl
theorem s_203_60 {E : yE} {n d : Nat} {mem : yMem} {Post : Option yV → yMem → Prop} {st : List yV} {r1 : Option yV} {x : Int} : zvc E (n + 1) zc_203 d xm_203 60 [some (1, x), r1] (st) mem Post = (zvc E n zc_203 d xm_203 61 [some (1, x), r1] ((1, x) :: st) mem Post) := zrf rfl
theorem s_203_61 {E : yE} {n d : Nat} {mem : yMem} {Post : Option yV → yMem → Prop} {st : List yV} {r0 r1 : Option yV} : zvc E (n + 1) zc_203 d xm_203 61 [r0, r1] (st) mem Post = (zvc E n zc_203 d xm_203 62 [r0, r1] ((0, 3) :: st) mem Post) := zrf rfl
theorem s_203_62 {E : yE} {n d : Nat} {mem : yMem} {Post : Option yV → yMem → Prop} {st : List yV} {r0 r1 : Option yV} {z a0 : Int} : zvc E (n + 1) zc_203 (d + 1) xm_203 62 [r0, r1] ((0, a0) :: (1, z) :: st) mem Post = (zio z 12 = true ∧ ysum st ≤ 8 ∧ zvc E n [] d xm_254 0 [some (1, z), some (0, a0)] [] mem (fun v mem' => zvk E n zc_203 (d + 1) xm_203 65 [r0, r1] st v mem' Post)) := zrf rfl
theorem g_203_65 {E : yE} {n d : Nat} {mem : yMem} {Post : Option yV → yMem → Prop} {st : List yV} {r1 : Option yV} {x : Int} : zgo E n zc_203 d xm_203 65 [some (1, x), r1] (st) mem Post = (zvc E n zc_203 d xm_203 66 [some (1, x), r1] ((1, x) :: st) mem Post) := zrf rfl
theorem k_203_65 {E : yE} {n d : Nat} {mem : yMem} {Post : Option yV → yMem → Prop} {st : List yV} {rg : zR} : zvc E (n + 1) zc_203 d xm_203 65 rg st mem Post = zG E d xm_203 65 rg st mem Post := zrf rfl
theorem s_203_66 {E : yE} {n d : Nat} {mem : yMem} {Post : Option yV → yMem → Prop} {st : List yV} {r0 r1 : Option yV} : zvc E (n + 1) zc_203 d xm_203 66 [r0, r1] ((1, 95) :: st) mem Post = (zvc E n zc_203 d xm_203 69 [r0, r1] ((0, mem 95 31) :: st) mem Post) := zrf rfl
theorem s_203_69 {E : yE} {n d : Nat} {mem : yMem} {Post : Option yV → yMem → Prop} {st : List yV} {r0 r1 : Option yV} {x : Int} : zvc E (n + 1) zc_203 d xm_203 69 [r0, r1] ((0, x) :: st) mem Post = ((w32 x = w32 0 → zvc E n zc_203 d xm_203 73 [r0, r1] (st) mem Post) ∧ (¬ (w32 x = w32 0) → zvc E n zc_203 d xm_203 72 [r0, r1] (st) mem Post)) := zrf rfl
theorem s_203_72 {E : yE} {n d : Nat} {mem : yMem} {Post : Option yV → yMem → Prop} {r0 r1 : Option yV} : zvc E (n + 1) zc_203 d xm_203 72 [r0, r1] ([]) mem Post = (Post none mem) := zrf rfl
theorem s_203_73 {E : yE} {n d : Nat} {mem : yMem} {Post : Option yV → yMem → Prop} {st : List yV} {r1 : Option yV} {x : Int} : zvc E (n + 1) zc_203 d xm_203 73 [some (1, x), r1] (st) mem Post = (zvc E n zc_203 d xm_203 74 [some (1, x), r1] ((1, x) :: st) mem Post) := zrf rfl
theorem s_203_74a {E : yE} {n d : Nat} {mem : yMem} {Post : Option yV → yMem → Prop} {st : List yV} {r0 r1 : Option yV} {x : Int} : zvc E (n + 1) zc_203 d xm_203 74 [r0, r1] ((0, x) :: st) mem Post = (zvc E n zc_203 d xm_203 75 [r0, r1] ((0, x) :: (0, x) :: st) mem Post) := zrf rfl
theorem s_203_74b {E : yE} {n d : Nat} {mem : yMem} {Post : Option yV → yMem → Prop} {st : List yV} {r0 r1 : Option yV} {x : Int} : zvc E (n + 1) zc_203 d xm_203 74 [r0, r1] ((1, x) :: st) mem Post = (zvc E n zc_203 d xm_203 75 [r0, r1] ((1, x) :: (1, x) :: st) mem Post) := zrf rfl
theorem s_203_75 {E : yE} {n d : Nat} {mem : yMem} {Post : Option yV → yMem → Prop} {st : List yV} {r0 r1 : Option yV} : zvc E (n + 1) zc_203 d xm_203 75 [r0, r1] ((1, 95) :: st) mem Post = (zvc E n zc_203 d xm_203 78 [r0, r1] ((0, mem 95 24) :: st) mem Post) := zrf rfl
theorem s_203_78 {E : yE} {n d : Nat} {mem : yMem} {Post : Option yV → yMem → Prop} {st : List yV} {r0 r1 : Option yV} : zvc E (n + 1) zc_203 d xm_203 78 [r0, r1] (st) mem Post = (zvc E n zc_203 d xm_203 79 [r0, r1] ((0, 1) :: st) mem Post) := zrf rfl
theorem s_203_79 {E : yE} {n d : Nat} {mem : yMem} {Post : Option yV → yMem → Prop} {st : List yV} {r0 r1 : Option yV} : zvc E (n + 1) zc_203 d xm_203 79 [r0, r1] (st) mem Post = (zvc E n zc_203 d xm_203 81 [r0, r1] ((0, 10) :: st) mem Post) := zrf rfl
theorem s_203_81 {E : yE} {n d : Nat} {mem : yMem} {Post : Option yV → yMem → Prop} {st : List yV} {r0 : Option yV} {x : Int} : zvc E (n + 1) zc_203 d xm_203 81 [r0, some (0, x)] (st) mem Post = (zvc E n zc_203 d xm_203 82 [r0, some (0, x)] ((0, x) :: st) mem Post) := zrf rfl
theorem s_203_82 {E : yE} {n d : Nat} {mem : yMem} {Post : Option yV → yMem → Prop} {st : List yV} {r0 r1 : Option yV} {x y : Int} : zvc E (n + 1) zc_203 d xm_203 82 [r0, r1] ((0, y) :: (0, x) :: st) mem Post = (zvc E n zc_203 d xm_203 83 [r0, r1] ((0, x + y) :: st) mem Post) := zrf rfl
theorem s_203_83 {E : yE} {n d : Nat} {mem : yMem} {Post : Option yV → yMem → Prop} {st : List yV} {r0 r1 : Option yV} {x y : Int} : zvc E (n + 1) zc_203 d xm_203 83 [r0, r1] ((0, y) :: (0, x) :: st) mem Post = (zvc E n zc_203 d xm_203 84 [r0, r1] ((0, ybin 6 x y) :: st) mem Post) := zrf rfl
theorem s_203_84 {E : yE} {n d : Nat} {mem : yMem} {Post : Option yV → yMem → Prop} {st : List yV} {r0 r1 : Option yV} {x y : Int} : zvc E (n + 1) zc_203 d xm_203 84 [r0, r1] ((0, y) :: (0, x) :: st) mem Post = (zvc E n zc_203 d xm_203 85 [r0, r1] ((0, ybin 4 x y) :: st) mem Post) := zrf rfl
theorem s_203_85 {E : yE} {n d : Nat} {mem : yMem} {Post : Option yV → yMem → Prop} {st : List yV} {r0 r1 : Option yV} {x : Int} : zvc E (n + 1) zc_203 d xm_203 85 [r0, r1] ((0, x) :: (1, 95) :: st) mem Post = (zvc E n zc_203 d xm_203 88 [r0, r1] (st) (yset mem 95 24 x) Post) := zrf rfl
theorem s_203_88 {E : yE} {n d : Nat} {mem : yMem} {Post : Option yV → yMem → Prop} {st : List yV} {r1 : Option yV} {x : Int} : zvc E (n + 1) zc_203 d xm_203 88 [some (1, x), r1] (st) mem Post = (zvc E n zc_203 d xm_203 89 [some (1, x), r1] ((1, x) :: st) mem Post) := zrf rfl
theorem s_203_89 {E : yE} {n d : Nat} {mem : yMem} {Post : Option yV → yMem → Prop} {st : List yV} {r0 r1 : Option yV} {z : Int} : zvc E (n + 1) zc_203 d xm_203 89 [r0, r1] ((1, z) :: st) mem Post = (zio z 12 = true ∧ ysum st ≤ 8 ∧ yCon E d xm_244 [(1, z)] mem (fun v mem' => zgk E d xm_203 92 [r0, r1] st v mem' Post)) := zrf rfl
theorem s_203_92 {E : yE} {n d : Nat} {mem : yMem} {Post : Option yV → yMem → Prop} {st : List yV} {r1 : Option yV} {x : Int} : zvc E (n + 1) zc_203 d xm_203 92 [some (1, x), r1] (st) mem Post = (zvc E n zc_203 d xm_203 93 [some (1, x), r1] ((1, x) :: st) mem Post) := zrf rfl
theorem s_203_93 {E : yE} {n d : Nat} {mem : yMem} {Post : Option yV → yMem → Prop} {st : List yV} {r0 r1 : Option yV} : zvc E (n + 1) zc_203 d xm_203 93 [r0, r1] (st) mem Post = (zvc E n zc_203 d xm_203 94 [r0, r1] ((0, 5) :: st) mem Post) := zrf rfl
theorem s_203_94 {E : yE} {n d : Nat} {mem : yMem} {Post : Option yV → yMem → Prop} {st : List yV} {r0 : Option yV} {x : Int} : zvc E (n + 1) zc_203 d xm_203 94 [r0, some (0, x)] (st) mem Post = (zvc E n zc_203 d xm_203 95 [r0, some (0, x)] ((0, x) :: st) mem Post) := zrf rfl
theorem s_203_95 {E : yE} {n d : Nat} {mem : yMem} {Post : Option yV → yMem → Prop} {st : List yV} {r0 r1 : Option yV} {x y : Int} : zvc E (n + 1) zc_203 d xm_203 95 [r0, r1] ((0, y) :: (0, x) :: st) mem Post = (zvc E n zc_203 d xm_203 96 [r0, r1] ((0, x + y) :: st) mem Post) := zrf rfl
theorem s_203_96 {E : yE} {n d : Nat} {mem : yMem} {Post : Option yV → yMem → Prop} {st : List yV} {r0 r1 : Option yV} {z a0 : Int} : zvc E (n + 1) zc_203 d xm_203 96 [r0, r1] ((0, a0) :: (1, z) :: st) mem Post = (zio z 12 = true ∧ ysum st ≤ 8 ∧ yCon E d xm_238 [(1, z), (0, a0)] mem (fun v mem' => zgk E d xm_203 99 [r0, r1] st v mem' Post)) := zrf rfl
theorem s_203_99 {E : yE} {n d : Nat} {mem : yMem} {Post : Option yV → yMem → Prop} {r0 r1 : Option yV} : zvc E (n + 1) zc_203 d xm_203 99 [r0, r1] ([]) mem Post = (Post none mem) := zrf rfl
theorem e_238 {E : yE} {d : Nat} {mem : yMem} {Q : Option yV → yMem → Prop} {z a0 : Int} (h : zG E d xm_238 0 [some (1, z), some (0, a0)] [] mem Q) : yCon E (d + 1) xm_238 [(1, z), (0, a0)] mem Q := zcon_of xmo_238 (Nat.le_of_ble_eq_true rfl) h
theorem e_203 {E : yE} {d : Nat} {mem : yMem} {Q : Option yV → yMem → Prop} {z : Int} (h : zG E d xm_203 0 [some (1, z), none] [] mem Q) : yCon E (d + 1) xm_203 [(1, z)] mem Q := zcon_of xmo_203 (Nat.le_of_ble_eq_true rfl) h

theorem Ln_Ex {a b : yMem} (hP : PI a) (h : Ex 1 a b) : Ln a b := by
  obtain ⟨h1, h2, h3, h4, h5⟩ := h
  obtain ⟨k1, k2, k3⟩ := PI_K hP
  refine ⟨h1, zFrm_of h2 zFrm_ex, h3, fun h => by rw [h4 h]; exact h, fun hf => ⟨fun hs s s1 s2 => ?_, UI_of (fun j => h2 107 j rfl) (h2 97 8 rfl)⟩⟩
  obtain ⟨c1, c2, c3, c4, c5, e, c6, c7⟩ := h5 hf
  obtain ⟨g1, f, g2⟩ := hs s s1 s2
  have t1 := agA hP.1 114 s ae_114
  rw [h2 115 s rfl, h2 114 s rfl]
  refine ⟨Int.le_trans g1 c3, f, ?_⟩
  have hKe : zK a = w32 (a 97 13) := rfl
  rw [zpf_ext (ks := a 116) (vs := a 117) _ _ 0 (fun j j1 j2 => c5 j (by omega))]
  exact g2
theorem exW_mem : exW.all (fun q => (Nat.beq q.1 95 || (Nat.beq q.1 116 || Nat.beq q.1 117)) || (Nat.beq q.1 97 && Nat.beq q.2 14)) = true := by decide +kernel
theorem exW_i {i j : Nat} (h1 : i ≠ 95) (h2 : i ≠ 97) (h3 : i ≠ 116) (h4 : i ≠ 117) : amod exW i j = false := by
  cases hm : amod exW i j with
  | false => rfl
  | true =>
    obtain ⟨q, g1, g2, g3⟩ := amod_ex hm
    have := List.all_eq_true.mp exW_mem q g1
    simp only [Bool.or_eq_true, Bool.and_eq_true, Nat.beq_eq] at this
    omega
theorem exW_97 {j : Nat} (h : j ≠ 13) : amod exW 97 j = false := by
  cases hm : amod exW 97 j with
  | false => rfl
  | true =>
    obtain ⟨q, g1, g2, g3⟩ := amod_ex hm
    have := List.all_eq_true.mp exW_mem q g1
    simp only [Bool.or_eq_true, Bool.and_eq_true, Nat.beq_eq] at this
    omega
theorem c_sumOf {E : yE} (hE : yEok E) {D : Nat} (hD : 682 ≤ D) {a : yMem} {Q : Option yV → yMem → Prop} {s : Int} (hP : PI a) (hs : 5 ≤ w32 s) (hs2 : w32 s ≤ 9) (hQ : ∀ m, Ln a m → (∀ i j, i = 97 ∧ j ≠ 13 ∨ (98 ≤ i ∧ i ≤ 113) → m i j = a i j) → Q none m) : yCon E D xm_238 [(1, 95), (0, s)] a Q := by
  obtain ⟨d, rfl⟩ := Nat.exists_eq_add_of_le' (show 2 ≤ D by omega)
  refine e_238 ?_
  refine zvc_ok hE 60 [] _ _ _ _ _ _ _ xmo_238 ?_
  obtain ⟨k1, k2, k3⟩ := PI_K hP
  have hKe : zK a = w32 (a 97 13) := rfl
  simp only [ynok_30, ynok_31, w32c_0, w32c_1, w32c_2, w32c_3, w32c_4, w32c_5, w32c_6, w32c_7, w32c_8, w32c_9, w32c_10, w32c_11, w32c_12, w32c_13, w32c_14, w32c_m1, w32c_m2, w32c_118, Int.reduceAdd, Int.reduceSub, Int.reduceMul, yput_s, yput_n, znl_n, znl_0, znl_1, znl_4, ysum_n, ysum_0, ysum_1, ysum_4, true_and, and_true, Nat.reduceAdd, Nat.reduceLeDiff, true_implies, eq_self, true_or, or_true, or_false, false_or, not_true_eq_false, not_false_eq_true, false_implies, implies_true, yset_s, yset_o, yset_d, ne_eq, Nat.reduceEqDiff, Int.reduceToNat, Int.reduceEq, Int.reduceLE, Int.reduceLT, Classical.not_not, Nat.reduceLT, ↓zvk_s, ↓zvk_n, ↓s_238_0, ↓s_238_1, ↓s_238_4, ↓s_238_5, ↓s_238_6, ↓s_238_8, ↓s_238_11, ↓s_238_12, ↓s_238_13, ↓s_238_16, ↓s_238_17, ↓s_238_20, ↓s_238_21, ↓s_238_22, ↓s_238_24, ↓s_238_27, ↓s_238_28, ↓s_170_0, ↓s_170_1, ↓s_170_4, ↓s_170_6, ↓s_170_7, ↓s_170_8, ↓s_170_9, zar_97, zia_97, zln_97, zit_97, zar_114, zia_114, zln_114, zit_114, zar_115, zia_115, zln_115, zit_115, zio_95]
  have hP1 : PI (yset a 114 (w32 s).toNat (a 97 13)) := PI_tab hP (by decide) (Or.inl (by decide)) (by rw [agam_A ae_114]; exact ⟨by dsimp only; omega, by dsimp only; omega⟩)
  refine ⟨by omega, ⟨by omega, by omega⟩, ?_⟩
  refine c_expression hE (by omega) hP1 (fun b hb => ?_)
  refine zgk_n hE xmo_238 60 [] ?_
  simp only [ynok_30, ynok_31, w32c_0, w32c_1, w32c_2, w32c_3, w32c_4, w32c_5, w32c_6, w32c_7, w32c_8, w32c_9, w32c_10, w32c_11, w32c_12, w32c_13, w32c_14, w32c_m1, w32c_m2, w32c_118, Int.reduceAdd, Int.reduceSub, Int.reduceMul, yput_s, yput_n, znl_n, znl_0, znl_1, znl_4, ysum_n, ysum_0, ysum_1, ysum_4, true_and, and_true, Nat.reduceAdd, Nat.reduceLeDiff, true_implies, eq_self, true_or, or_true, or_false, false_or, not_true_eq_false, not_false_eq_true, false_implies, implies_true, yset_s, yset_o, yset_d, ne_eq, Nat.reduceEqDiff, Int.reduceToNat, Int.reduceEq, Int.reduceLE, Int.reduceLT, Classical.not_not, Nat.reduceLT, ↓zvk_s, ↓zvk_n, ↓s_238_0, ↓s_238_1, ↓s_238_4, ↓s_238_5, ↓s_238_6, ↓s_238_8, ↓s_238_11, ↓s_238_12, ↓s_238_13, ↓s_238_16, ↓s_238_17, ↓s_238_20, ↓s_238_21, ↓s_238_22, ↓s_238_24, ↓s_238_27, ↓s_238_28, ↓s_170_0, ↓s_170_1, ↓s_170_4, ↓s_170_6, ↓s_170_7, ↓s_170_8, ↓s_170_9, zar_97, zia_97, zln_97, zit_97, zar_114, zia_114, zln_114, zit_114, zar_115, zia_115, zln_115, zit_115, zio_95]
  obtain ⟨b1, b2, b3, b4, b5⟩ := hb
  have kb := PI_K b1
  have hKb : zK b = w32 (b 97 13) := rfl
  refine ⟨by omega, ⟨by omega, by omega⟩, hQ _ ⟨PI_tab b1 (by decide) (Or.inl (by decide)) (by rw [agam_A ae_115]; exact ⟨by dsimp only; omega, by dsimp only; omega⟩), zFrm_set (zFrm_tr (zFrm_set zFrm_rf (lnA_hi (by decide) (by decide) (show 5 ≤ _ by omega))) (zFrm_of b2 zFrm_ex)) (lnA_hi (by decide) (by decide) (show 5 ≤ _ by omega)), ?_, fun h => ?_, fun hf => ⟨fun hS t t1 t2 => ?_, ?_⟩⟩ (fun i j hij => ?_)⟩
  · rw [yset_o (by decide)]; rw [yset_o (by decide)] at b3; exact b3
  · show ¬ w32 _ = 0
    rw [yset_o (by decide)]
    have := b4 (show ¬ w32 _ = 0 by rw [yset_o (by decide)]; exact h)
    rw [this, yset_o (by decide)]
    exact h
  · have hfb : zF b = 0 := by
      have : zF (yset b 115 (w32 s).toNat (b 97 13)) = zF b := by show w32 _ = w32 _; rw [yset_o (by decide)]
      rw [← this]; exact hf
    obtain ⟨c1, c2, c3, c4, c5, e, c6, c7⟩ := b5 hfb
    have eK : zK (yset a 114 (w32 s).toNat (a 97 13)) = zK a := by show w32 _ = w32 _; rw [yset_o (by decide)]
    rw [eK] at c3 c5 c7
    have a114 : ∀ j, b 114 j = yset a 114 (w32 s).toNat (a 97 13) 114 j := fun j => b2 114 j rfl
    have a115 : ∀ j, b 115 j = a 115 j := fun j => by rw [b2 115 j rfl, yset_o (by decide)]
    have m116 : yset b 115 (w32 s).toNat (b 97 13) 116 = b 116 := funext fun j => yset_o (by decide)
    have m117 : yset b 115 (w32 s).toNat (b 97 13) 117 = b 117 := funext fun j => yset_o (by decide)
    have m114 : yset b 115 (w32 s).toNat (b 97 13) 114 t = b 114 t := yset_o (by decide)
    have m97 : yset b 115 (w32 s).toNat (b 97 13) 97 13 = b 97 13 := yset_o (by decide)
    rw [m116, m117, m114, m97, a114]
    by_cases ht : t = (w32 s).toNat
    · subst ht
      rw [yset_s, yset_s]
      refine ⟨Int.le_refl _, e, c7⟩
    · rw [yset_d ht, yset_d ht, a115]
      obtain ⟨g1, f, g2⟩ := hS t t1 t2
      have u1 := agA hP.1 114 t ae_114
      refine ⟨by omega, f, ?_⟩
      rw [zpf_ext (ks := a 116) (vs := a 117) _ _ 0 (fun j j1 j2 => ?_)]
      · exact g2
      · obtain ⟨v1, v2⟩ := c5 j (by omega)
        exact ⟨by rw [v1, yset_o (by decide)], by rw [v2, yset_o (by decide)]⟩
  · refine UI_of (fun j => ?_) ?_
    · rw [yset_o (by decide), b2 107 j rfl, yset_o (by decide)]
    · rw [yset_o (by decide), b2 97 8 rfl, yset_o (by decide)]
  · rcases hij with ⟨rfl, hj⟩ | ⟨h1, h2⟩
    · rw [yset_o (by decide), b2 97 j (exW_97 hj), yset_o (by decide)]
    · rw [yset_o (by omega), b2 i j (exW_i (by omega) (by omega) (by omega) (by omega)), yset_o (by omega)]
