section
def zc_205 : List Nat := [2, 26]
theorem s_205_0 {E : yE} {n d : Nat} {mem : yMem} {Post : Option yV → yMem → Prop} {st : List yV} {r0 r1 r2 : Option yV} : zvc E (n + 1) zc_205 d xm_205 0 [r0, r1, r2] (st) mem Post = (zvc E n zc_205 d xm_205 1 [r0, r1, r2] ((0, 0) :: st) mem Post) := zrf rfl
theorem s_205_1n {E : yE} {n d : Nat} {mem : yMem} {Post : Option yV → yMem → Prop} {st : List yV} {r1 r2 : Option yV} {x : Int} : zvc E (n + 1) zc_205 d xm_205 1 [none, r1, r2] ((0, x) :: st) mem Post = (zvc E n zc_205 d xm_205 2 [none, some (0, x), r2] (st) mem Post) := zrf rfl
theorem s_205_1i {E : yE} {n d : Nat} {mem : yMem} {Post : Option yV → yMem → Prop} {st : List yV} {r1 r2 : Option yV} {x w : Int} : zvc E (n + 1) zc_205 d xm_205 1 [some (0, w), r1, r2] ((0, x) :: st) mem Post = (zvc E n zc_205 d xm_205 2 [some (0, w), some (0, x), r2] (st) mem Post) := zrf rfl
theorem s_205_1p {E : yE} {n d : Nat} {mem : yMem} {Post : Option yV → yMem → Prop} {st : List yV} {r1 r2 : Option yV} {x w : Int} : zvc E (n + 1) zc_205 d xm_205 1 [some (1, w), r1, r2] ((0, x) :: st) mem Post = (zvc E n zc_205 d xm_205 2 [some (1, w), some (0, x), r2] (st) mem Post) := zrf rfl
theorem s_205_1j {E : yE} {n d : Nat} {mem : yMem} {Post : Option yV → yMem → Prop} {st : List yV} {r0 r1 r2 : Option yV} {x : Int} : zvc E (n + 1) zc_205 d xm_205 1 [r0, r1, r2] ((0, x) :: st) mem Post = (zvc E n zc_205 d xm_205 2 [znl r0, some (0, x), r2] (st) mem Post) := zrf rfl
theorem g_205_2 {E : yE} {n d : Nat} {mem : yMem} {Post : Option yV → yMem → Prop} {st : List yV} {r0 r2 : Option yV} {x : Int} : zgo E n zc_205 d xm_205 2 [r0, some (0, x), r2] (st) mem Post = (zvc E n zc_205 d xm_205 3 [r0, some (0, x), r2] ((0, x) :: st) mem Post) := zrf rfl
theorem k_205_2 {E : yE} {n d : Nat} {mem : yMem} {Post : Option yV → yMem → Prop} {st : List yV} {rg : zR} : zvc E (n + 1) zc_205 d xm_205 2 rg st mem Post = zG E d xm_205 2 rg st mem Post := zrf rfl
theorem s_205_3 {E : yE} {n d : Nat} {mem : yMem} {Post : Option yV → yMem → Prop} {st : List yV} {r0 r1 r2 : Option yV} : zvc E (n + 1) zc_205 d xm_205 3 [r0, r1, r2] (st) mem Post = (zvc E n zc_205 d xm_205 5 [r0, r1, r2] ((0, 12) :: st) mem Post) := zrf rfl
theorem s_205_5 {E : yE} {n d : Nat} {mem : yMem} {Post : Option yV → yMem → Prop} {st : List yV} {r0 r1 r2 : Option yV} {x y : Int} : zvc E (n + 1) zc_205 d xm_205 5 [r0, r1, r2] ((0, y) :: (0, x) :: st) mem Post = ((w32 y ≤ w32 x → zvc E n zc_205 d xm_205 82 [r0, r1, r2] (st) mem Post) ∧ (¬ (w32 y ≤ w32 x) → zvc E n zc_205 d xm_205 8 [r0, r1, r2] (st) mem Post)) := zrf rfl
theorem s_205_8 {E : yE} {n d : Nat} {mem : yMem} {Post : Option yV → yMem → Prop} {st : List yV} {r1 r2 : Option yV} {x : Int} : zvc E (n + 1) zc_205 d xm_205 8 [some (1, x), r1, r2] (st) mem Post = (zvc E n zc_205 d xm_205 9 [some (1, x), r1, r2] ((1, x) :: st) mem Post) := zrf rfl
theorem s_205_9 {E : yE} {n d : Nat} {mem : yMem} {Post : Option yV → yMem → Prop} {st : List yV} {r0 r2 : Option yV} {x : Int} : zvc E (n + 1) zc_205 d xm_205 9 [r0, some (0, x), r2] (st) mem Post = (zvc E n zc_205 d xm_205 10 [r0, some (0, x), r2] ((0, x) :: st) mem Post) := zrf rfl
theorem s_205_10 {E : yE} {n d : Nat} {mem : yMem} {Post : Option yV → yMem → Prop} {st : List yV} {r0 r1 r2 : Option yV} : zvc E (n + 1) zc_205 d xm_205 10 [r0, r1, r2] (st) mem Post = (zvc E n zc_205 d xm_205 11 [r0, r1, r2] ((0, 3) :: st) mem Post) := zrf rfl
theorem s_205_11 {E : yE} {n d : Nat} {mem : yMem} {Post : Option yV → yMem → Prop} {st : List yV} {r0 r1 r2 : Option yV} {x y : Int} : zvc E (n + 1) zc_205 d xm_205 11 [r0, r1, r2] ((0, y) :: (0, x) :: st) mem Post = (¬ w32 y = 0 ∧ zvc E n zc_205 d xm_205 12 [r0, r1, r2] ((0, ybin 9 x y) :: st) mem Post) := zrf rfl
theorem s_205_12 {E : yE} {n d : Nat} {mem : yMem} {Post : Option yV → yMem → Prop} {st : List yV} {r0 r2 : Option yV} {x : Int} : zvc E (n + 1) zc_205 d xm_205 12 [r0, some (0, x), r2] (st) mem Post = (zvc E n zc_205 d xm_205 13 [r0, some (0, x), r2] ((0, x) :: st) mem Post) := zrf rfl
theorem s_205_13 {E : yE} {n d : Nat} {mem : yMem} {Post : Option yV → yMem → Prop} {st : List yV} {r0 r1 r2 : Option yV} : zvc E (n + 1) zc_205 d xm_205 13 [r0, r1, r2] (st) mem Post = (zvc E n zc_205 d xm_205 14 [r0, r1, r2] ((0, 3) :: st) mem Post) := zrf rfl
theorem s_205_14 {E : yE} {n d : Nat} {mem : yMem} {Post : Option yV → yMem → Prop} {st : List yV} {r0 r1 r2 : Option yV} {x y : Int} : zvc E (n + 1) zc_205 d xm_205 14 [r0, r1, r2] ((0, y) :: (0, x) :: st) mem Post = (¬ w32 y = 0 ∧ zvc E n zc_205 d xm_205 15 [r0, r1, r2] ((0, ybin 10 x y) :: st) mem Post) := zrf rfl
theorem s_205_15 {E : yE} {n d : Nat} {mem : yMem} {Post : Option yV → yMem → Prop} {st : List yV} {r0 r1 r2 : Option yV} {z a0 a1 : Int} : zvc E (n + 1) zc_205 (d + 1) xm_205 15 [r0, r1, r2] ((0, a1) :: (0, a0) :: (1, z) :: st) mem Post = (zio z 12 = true ∧ ysum st ≤ 8 ∧ zvc E n [] d xm_189 0 [some (1, z), some (0, a0), some (0, a1)] [] mem (fun v mem' => zvk E n zc_205 (d + 1) xm_205 18 [r0, r1, r2] st v mem' Post)) := zrf rfl
theorem s_205_18 {E : yE} {n d : Nat} {mem : yMem} {Post : Option yV → yMem → Prop} {st : List yV} {r0 r1 r2 : Option yV} {x : Int} : zvc E (n + 1) zc_205 d xm_205 18 [r0, r1, r2] ((0, x) :: st) mem Post = ((¬ w32 x = w32 0 → zvc E n zc_205 d xm_205 24 [r0, r1, r2] (st) mem Post) ∧ (¬ (¬ w32 x = w32 0) → zvc E n zc_205 d xm_205 21 [r0, r1, r2] (st) mem Post)) := zrf rfl
theorem s_205_21 {E : yE} {n d : Nat} {mem : yMem} {Post : Option yV → yMem → Prop} {st : List yV} {r0 r1 r2 : Option yV} : zvc E (n + 1) zc_205 d xm_205 21 [r0, r1, r2] (st) mem Post = (zvc E n zc_205 d xm_205 76 [r0, r1, r2] (st) mem Post) := zrf rfl
theorem s_205_24 {E : yE} {n d : Nat} {mem : yMem} {Post : Option yV → yMem → Prop} {st : List yV} {r0 r1 r2 : Option yV} : zvc E (n + 1) zc_205 d xm_205 24 [r0, r1, r2] (st) mem Post = (zvc E n zc_205 d xm_205 25 [r0, r1, r2] ((0, 0) :: st) mem Post) := zrf rfl
theorem s_205_25n {E : yE} {n d : Nat} {mem : yMem} {Post : Option yV → yMem → Prop} {st : List yV} {r0 r2 : Option yV} {x : Int} : zvc E (n + 1) zc_205 d xm_205 25 [r0, none, r2] ((0, x) :: st) mem Post = (zvc E n zc_205 d xm_205 26 [r0, none, some (0, x)] (st) mem Post) := zrf rfl
theorem s_205_25i {E : yE} {n d : Nat} {mem : yMem} {Post : Option yV → yMem → Prop} {st : List yV} {r0 r2 : Option yV} {x w : Int} : zvc E (n + 1) zc_205 d xm_205 25 [r0, some (0, w), r2] ((0, x) :: st) mem Post = (zvc E n zc_205 d xm_205 26 [r0, some (0, w), some (0, x)] (st) mem Post) := zrf rfl
theorem s_205_25p {E : yE} {n d : Nat} {mem : yMem} {Post : Option yV → yMem → Prop} {st : List yV} {r0 r2 : Option yV} {x w : Int} : zvc E (n + 1) zc_205 d xm_205 25 [r0, some (1, w), r2] ((0, x) :: st) mem Post = (zvc E n zc_205 d xm_205 26 [r0, some (1, w), some (0, x)] (st) mem Post) := zrf rfl
theorem s_205_25j {E : yE} {n d : Nat} {mem : yMem} {Post : Option yV → yMem → Prop} {st : List yV} {r0 r1 r2 : Option yV} {x : Int} : zvc E (n + 1) zc_205 d xm_205 25 [r0, r1, r2] ((0, x) :: st) mem Post = (zvc E n zc_205 d xm_205 26 [r0, znl r1, some (0, x)] (st) mem Post) := zrf rfl
theorem g_205_26 {E : yE} {n d : Nat} {mem : yMem} {Post : Option yV → yMem → Prop} {st : List yV} {r0 r1 : Option yV} {x : Int} : zgo E n zc_205 d xm_205 26 [r0, r1, some (0, x)] (st) mem Post = (zvc E n zc_205 d xm_205 27 [r0, r1, some (0, x)] ((0, x) :: st) mem Post) := zrf rfl
theorem k_205_26 {E : yE} {n d : Nat} {mem : yMem} {Post : Option yV → yMem → Prop} {st : List yV} {rg : zR} : zvc E (n + 1) zc_205 d xm_205 26 rg st mem Post = zG E d xm_205 26 rg st mem Post := zrf rfl
theorem s_205_27 {E : yE} {n d : Nat} {mem : yMem} {Post : Option yV → yMem → Prop} {st : List yV} {r1 r2 : Option yV} {x : Int} : zvc E (n + 1) zc_205 d xm_205 27 [some (1, x), r1, r2] (st) mem Post = (zvc E n zc_205 d xm_205 28 [some (1, x), r1, r2] ((1, x) :: st) mem Post) := zrf rfl
theorem s_205_28 {E : yE} {n d : Nat} {mem : yMem} {Post : Option yV → yMem → Prop} {st : List yV} {r0 r1 r2 : Option yV} : zvc E (n + 1) zc_205 d xm_205 28 [r0, r1, r2] ((1, 95) :: st) mem Post = (zvc E n zc_205 d xm_205 31 [r0, r1, r2] ((1, 97) :: st) mem Post) := zrf rfl
theorem s_205_31 {E : yE} {n d : Nat} {mem : yMem} {Post : Option yV → yMem → Prop} {st : List yV} {r0 r1 r2 : Option yV} : zvc E (n + 1) zc_205 d xm_205 31 [r0, r1, r2] (st) mem Post = (zvc E n zc_205 d xm_205 32 [r0, r1, r2] ((0, 1) :: st) mem Post) := zrf rfl
theorem s_205_32 {E : yE} {n d : Nat} {mem : yMem} {Post : Option yV → yMem → Prop} {st : List yV} {r0 r1 r2 : Option yV} {z j : Int} : zvc E (n + 1) zc_205 d xm_205 32 [r0, r1, r2] ((0, j) :: (1, z) :: st) mem Post = ((0 ≤ w32 j ∧ w32 j < ((zar z 0 : Nat) : Int)) ∧ zvc E n zc_205 d xm_205 33 [r0, r1, r2] ((0, mem z.toNat (w32 j).toNat) :: st) mem Post) := zrf rfl
theorem s_205_33 {E : yE} {n d : Nat} {mem : yMem} {Post : Option yV → yMem → Prop} {st : List yV} {r0 r1 r2 : Option yV} {x y : Int} : zvc E (n + 1) zc_205 d xm_205 33 [r0, r1, r2] ((0, y) :: (0, x) :: st) mem Post = ((w32 y ≤ w32 x → zvc E n zc_205 d xm_205 76 [r0, r1, r2] (st) mem Post) ∧ (¬ (w32 y ≤ w32 x) → zvc E n zc_205 d xm_205 36 [r0, r1, r2] (st) mem Post)) := zrf rfl
theorem s_205_36 {E : yE} {n d : Nat} {mem : yMem} {Post : Option yV → yMem → Prop} {st : List yV} {r1 r2 : Option yV} {x : Int} : zvc E (n + 1) zc_205 d xm_205 36 [some (1, x), r1, r2] (st) mem Post = (zvc E n zc_205 d xm_205 37 [some (1, x), r1, r2] ((1, x) :: st) mem Post) := zrf rfl
theorem s_205_37 {E : yE} {n d : Nat} {mem : yMem} {Post : Option yV → yMem → Prop} {st : List yV} {r0 r1 r2 : Option yV} : zvc E (n + 1) zc_205 d xm_205 37 [r0, r1, r2] ((1, 95) :: st) mem Post = (zvc E n zc_205 d xm_205 40 [r0, r1, r2] ((1, 134) :: st) mem Post) := zrf rfl
theorem s_205_40 {E : yE} {n d : Nat} {mem : yMem} {Post : Option yV → yMem → Prop} {st : List yV} {r0 r1 r2 : Option yV} : zvc E (n + 1) zc_205 d xm_205 40 [r0, r1, r2] (st) mem Post = (zvc E n zc_205 d xm_205 42 [r0, r1, r2] ((0, 6) :: st) mem Post) := zrf rfl
theorem s_205_42 {E : yE} {n d : Nat} {mem : yMem} {Post : Option yV → yMem → Prop} {st : List yV} {r0 r2 : Option yV} {x : Int} : zvc E (n + 1) zc_205 d xm_205 42 [r0, some (0, x), r2] (st) mem Post = (zvc E n zc_205 d xm_205 43 [r0, some (0, x), r2] ((0, x) :: st) mem Post) := zrf rfl
theorem s_205_43 {E : yE} {n d : Nat} {mem : yMem} {Post : Option yV → yMem → Prop} {st : List yV} {r0 r1 r2 : Option yV} {x y : Int} : zvc E (n + 1) zc_205 d xm_205 43 [r0, r1, r2] ((0, y) :: (0, x) :: st) mem Post = (zvc E n zc_205 d xm_205 44 [r0, r1, r2] ((0, x * y) :: st) mem Post) := zrf rfl
theorem s_205_44 {E : yE} {n d : Nat} {mem : yMem} {Post : Option yV → yMem → Prop} {st : List yV} {r0 r1 : Option yV} {x : Int} : zvc E (n + 1) zc_205 d xm_205 44 [r0, r1, some (0, x)] (st) mem Post = (zvc E n zc_205 d xm_205 45 [r0, r1, some (0, x)] ((0, x) :: st) mem Post) := zrf rfl
theorem s_205_45 {E : yE} {n d : Nat} {mem : yMem} {Post : Option yV → yMem → Prop} {st : List yV} {r0 r1 r2 : Option yV} {x y : Int} : zvc E (n + 1) zc_205 d xm_205 45 [r0, r1, r2] ((0, y) :: (0, x) :: st) mem Post = (zvc E n zc_205 d xm_205 46 [r0, r1, r2] ((0, x + y) :: st) mem Post) := zrf rfl
theorem s_205_46 {E : yE} {n d : Nat} {mem : yMem} {Post : Option yV → yMem → Prop} {st : List yV} {r1 r2 : Option yV} {x : Int} : zvc E (n + 1) zc_205 d xm_205 46 [some (1, x), r1, r2] (st) mem Post = (zvc E n zc_205 d xm_205 47 [some (1, x), r1, r2] ((1, x) :: st) mem Post) := zrf rfl
theorem s_205_47 {E : yE} {n d : Nat} {mem : yMem} {Post : Option yV → yMem → Prop} {st : List yV} {r0 r2 : Option yV} {x : Int} : zvc E (n + 1) zc_205 d xm_205 47 [r0, some (0, x), r2] (st) mem Post = (zvc E n zc_205 d xm_205 48 [r0, some (0, x), r2] ((0, x) :: st) mem Post) := zrf rfl
theorem s_205_48 {E : yE} {n d : Nat} {mem : yMem} {Post : Option yV → yMem → Prop} {st : List yV} {r0 r1 : Option yV} {x : Int} : zvc E (n + 1) zc_205 d xm_205 48 [r0, r1, some (0, x)] (st) mem Post = (zvc E n zc_205 d xm_205 49 [r0, r1, some (0, x)] ((0, x) :: st) mem Post) := zrf rfl
theorem s_205_49 {E : yE} {n d : Nat} {mem : yMem} {Post : Option yV → yMem → Prop} {st : List yV} {r0 r1 r2 : Option yV} {z a0 a1 : Int} : zvc E (n + 1) zc_205 d xm_205 49 [r0, r1, r2] ((0, a1) :: (0, a0) :: (1, z) :: st) mem Post = (zio z 12 = true ∧ ysum st ≤ 8 ∧ yCon E d xm_162 [(1, z), (0, a0), (0, a1)] mem (fun v mem' => zgk E d xm_205 52 [r0, r1, r2] st v mem' Post)) := zrf rfl
theorem s_205_52 {E : yE} {n d : Nat} {mem : yMem} {Post : Option yV → yMem → Prop} {st : List yV} {r0 r1 r2 : Option yV} {x z j : Int} : zvc E (n + 1) zc_205 d xm_205 52 [r0, r1, r2] ((0, x) :: (0, j) :: (1, z) :: st) mem Post = ((0 ≤ w32 j ∧ w32 j < ((zar z 0 : Nat) : Int)) ∧ zvc E n zc_205 d xm_205 53 [r0, r1, r2] (st) (yset mem z.toNat (w32 j).toNat x) Post) := zrf rfl
theorem s_205_53 {E : yE} {n d : Nat} {mem : yMem} {Post : Option yV → yMem → Prop} {st : List yV} {r1 r2 : Option yV} {x : Int} : zvc E (n + 1) zc_205 d xm_205 53 [some (1, x), r1, r2] (st) mem Post = (zvc E n zc_205 d xm_205 54 [some (1, x), r1, r2] ((1, x) :: st) mem Post) := zrf rfl
theorem s_205_54 {E : yE} {n d : Nat} {mem : yMem} {Post : Option yV → yMem → Prop} {st : List yV} {r0 r1 r2 : Option yV} : zvc E (n + 1) zc_205 d xm_205 54 [r0, r1, r2] ((1, 95) :: st) mem Post = (zvc E n zc_205 d xm_205 57 [r0, r1, r2] ((1, 135) :: st) mem Post) := zrf rfl
theorem s_205_57 {E : yE} {n d : Nat} {mem : yMem} {Post : Option yV → yMem → Prop} {st : List yV} {r0 r1 r2 : Option yV} : zvc E (n + 1) zc_205 d xm_205 57 [r0, r1, r2] (st) mem Post = (zvc E n zc_205 d xm_205 59 [r0, r1, r2] ((0, 6) :: st) mem Post) := zrf rfl
theorem s_205_59 {E : yE} {n d : Nat} {mem : yMem} {Post : Option yV → yMem → Prop} {st : List yV} {r0 r2 : Option yV} {x : Int} : zvc E (n + 1) zc_205 d xm_205 59 [r0, some (0, x), r2] (st) mem Post = (zvc E n zc_205 d xm_205 60 [r0, some (0, x), r2] ((0, x) :: st) mem Post) := zrf rfl
theorem s_205_60 {E : yE} {n d : Nat} {mem : yMem} {Post : Option yV → yMem → Prop} {st : List yV} {r0 r1 r2 : Option yV} {x y : Int} : zvc E (n + 1) zc_205 d xm_205 60 [r0, r1, r2] ((0, y) :: (0, x) :: st) mem Post = (zvc E n zc_205 d xm_205 61 [r0, r1, r2] ((0, x * y) :: st) mem Post) := zrf rfl
theorem s_205_61 {E : yE} {n d : Nat} {mem : yMem} {Post : Option yV → yMem → Prop} {st : List yV} {r0 r1 : Option yV} {x : Int} : zvc E (n + 1) zc_205 d xm_205 61 [r0, r1, some (0, x)] (st) mem Post = (zvc E n zc_205 d xm_205 62 [r0, r1, some (0, x)] ((0, x) :: st) mem Post) := zrf rfl
theorem s_205_62 {E : yE} {n d : Nat} {mem : yMem} {Post : Option yV → yMem → Prop} {st : List yV} {r0 r1 r2 : Option yV} {x y : Int} : zvc E (n + 1) zc_205 d xm_205 62 [r0, r1, r2] ((0, y) :: (0, x) :: st) mem Post = (zvc E n zc_205 d xm_205 63 [r0, r1, r2] ((0, x + y) :: st) mem Post) := zrf rfl
theorem s_205_63 {E : yE} {n d : Nat} {mem : yMem} {Post : Option yV → yMem → Prop} {st : List yV} {r1 r2 : Option yV} {x : Int} : zvc E (n + 1) zc_205 d xm_205 63 [some (1, x), r1, r2] (st) mem Post = (zvc E n zc_205 d xm_205 64 [some (1, x), r1, r2] ((1, x) :: st) mem Post) := zrf rfl
theorem s_205_64 {E : yE} {n d : Nat} {mem : yMem} {Post : Option yV → yMem → Prop} {st : List yV} {r0 r2 : Option yV} {x : Int} : zvc E (n + 1) zc_205 d xm_205 64 [r0, some (0, x), r2] (st) mem Post = (zvc E n zc_205 d xm_205 65 [r0, some (0, x), r2] ((0, x) :: st) mem Post) := zrf rfl
theorem s_205_65 {E : yE} {n d : Nat} {mem : yMem} {Post : Option yV → yMem → Prop} {st : List yV} {r0 r1 : Option yV} {x : Int} : zvc E (n + 1) zc_205 d xm_205 65 [r0, r1, some (0, x)] (st) mem Post = (zvc E n zc_205 d xm_205 66 [r0, r1, some (0, x)] ((0, x) :: st) mem Post) := zrf rfl
theorem s_205_66 {E : yE} {n d : Nat} {mem : yMem} {Post : Option yV → yMem → Prop} {st : List yV} {r0 r1 r2 : Option yV} {z a0 a1 : Int} : zvc E (n + 1) zc_205 d xm_205 66 [r0, r1, r2] ((0, a1) :: (0, a0) :: (1, z) :: st) mem Post = (zio z 12 = true ∧ ysum st ≤ 8 ∧ yCon E d xm_233 [(1, z), (0, a0), (0, a1)] mem (fun v mem' => zgk E d xm_205 69 [r0, r1, r2] st v mem' Post)) := zrf rfl
theorem s_205_69 {E : yE} {n d : Nat} {mem : yMem} {Post : Option yV → yMem → Prop} {st : List yV} {r0 r1 r2 : Option yV} {x z j : Int} : zvc E (n + 1) zc_205 d xm_205 69 [r0, r1, r2] ((0, x) :: (0, j) :: (1, z) :: st) mem Post = ((0 ≤ w32 j ∧ w32 j < ((zar z 0 : Nat) : Int)) ∧ zvc E n zc_205 d xm_205 70 [r0, r1, r2] (st) (yset mem z.toNat (w32 j).toNat x) Post) := zrf rfl
theorem s_205_70n {E : yE} {n d : Nat} {mem : yMem} {Post : Option yV → yMem → Prop} {st : List yV} {r0 : Option yV} {x : Int} : zvc E (n + 1) zc_205 d xm_205 70 [r0, none, some (0, x)] (st) mem Post = (zvc E n zc_205 d xm_205 73 [r0, none, some (0, x + 1)] (st) mem Post) := zrf rfl
theorem s_205_70i {E : yE} {n d : Nat} {mem : yMem} {Post : Option yV → yMem → Prop} {st : List yV} {r0 : Option yV} {x w : Int} : zvc E (n + 1) zc_205 d xm_205 70 [r0, some (0, w), some (0, x)] (st) mem Post = (zvc E n zc_205 d xm_205 73 [r0, some (0, w), some (0, x + 1)] (st) mem Post) := zrf rfl
theorem s_205_70p {E : yE} {n d : Nat} {mem : yMem} {Post : Option yV → yMem → Prop} {st : List yV} {r0 : Option yV} {x w : Int} : zvc E (n + 1) zc_205 d xm_205 70 [r0, some (1, w), some (0, x)] (st) mem Post = (zvc E n zc_205 d xm_205 73 [r0, some (1, w), some (0, x + 1)] (st) mem Post) := zrf rfl
theorem s_205_70j {E : yE} {n d : Nat} {mem : yMem} {Post : Option yV → yMem → Prop} {st : List yV} {r0 r1 : Option yV} {x : Int} : zvc E (n + 1) zc_205 d xm_205 70 [r0, r1, some (0, x)] (st) mem Post = (zvc E n zc_205 d xm_205 73 [r0, znl r1, some (0, x + 1)] (st) mem Post) := zrf rfl
theorem s_205_73 {E : yE} {n d : Nat} {mem : yMem} {Post : Option yV → yMem → Prop} {st : List yV} {r0 r1 r2 : Option yV} : zvc E (n + 1) zc_205 d xm_205 73 [r0, r1, r2] (st) mem Post = (zvc E n zc_205 d xm_205 26 [r0, r1, r2] (st) mem Post) := zrf rfl
theorem s_205_76n {E : yE} {n d : Nat} {mem : yMem} {Post : Option yV → yMem → Prop} {st : List yV} {r2 : Option yV} {x : Int} : zvc E (n + 1) zc_205 d xm_205 76 [none, some (0, x), r2] (st) mem Post = (zvc E n zc_205 d xm_205 79 [none, some (0, x + 1), r2] (st) mem Post) := zrf rfl
theorem s_205_76i {E : yE} {n d : Nat} {mem : yMem} {Post : Option yV → yMem → Prop} {st : List yV} {r2 : Option yV} {x w : Int} : zvc E (n + 1) zc_205 d xm_205 76 [some (0, w), some (0, x), r2] (st) mem Post = (zvc E n zc_205 d xm_205 79 [some (0, w), some (0, x + 1), r2] (st) mem Post) := zrf rfl
theorem s_205_76p {E : yE} {n d : Nat} {mem : yMem} {Post : Option yV → yMem → Prop} {st : List yV} {r2 : Option yV} {x w : Int} : zvc E (n + 1) zc_205 d xm_205 76 [some (1, w), some (0, x), r2] (st) mem Post = (zvc E n zc_205 d xm_205 79 [some (1, w), some (0, x + 1), r2] (st) mem Post) := zrf rfl
theorem s_205_76j {E : yE} {n d : Nat} {mem : yMem} {Post : Option yV → yMem → Prop} {st : List yV} {r0 r2 : Option yV} {x : Int} : zvc E (n + 1) zc_205 d xm_205 76 [r0, some (0, x), r2] (st) mem Post = (zvc E n zc_205 d xm_205 79 [znl r0, some (0, x + 1), r2] (st) mem Post) := zrf rfl
theorem s_205_79 {E : yE} {n d : Nat} {mem : yMem} {Post : Option yV → yMem → Prop} {st : List yV} {r0 r1 r2 : Option yV} : zvc E (n + 1) zc_205 d xm_205 79 [r0, r1, r2] (st) mem Post = (zvc E n zc_205 d xm_205 2 [r0, r1, r2] (st) mem Post) := zrf rfl
theorem s_205_82 {E : yE} {n d : Nat} {mem : yMem} {Post : Option yV → yMem → Prop} {r0 r1 r2 : Option yV} : zvc E (n + 1) zc_205 d xm_205 82 [r0, r1, r2] ([]) mem Post = (Post none mem) := zrf rfl
theorem e_205 {E : yE} {d : Nat} {mem : yMem} {Q : Option yV → yMem → Prop} {z : Int} (h : zG E d xm_205 0 [some (1, z), none, none] [] mem Q) : yCon E (d + 1) xm_205 [(1, z)] mem Q := zcon_of xmo_205 (Nat.le_of_ble_eq_true rfl) h

/-! BEST, the reference's side: what all VOICES are due and sound -/
def rlF' (b m : yMem) : Prop := ∀ i j, i ≠ 130 → i ≠ 131 → i ≠ 134 → i ≠ 135 → ¬ (i = 95 ∧ j = 52) → m i j = b i j
theorem rlF'_D {b m : yMem} {D : dDc} (h : rlF' b m) (hD : rDl b D) : rDl m D := rDl_w hD (fun i j n _ i1 i2 _ => by rw [h i j (by omega) (by omega) (by omega) (by omega) (by omega)])
theorem rlF'_A {b m : yMem} (h : rlF' b m) (hA : OmA b) : OmA m := OmA_f hA (fun i j i1 i2 => h i j (by omega) (by omega) (by omega) (by omega) (by omega))
def rlH (m : yMem) (D : dDc) (X wk : Int) (p v : Nat) : Prop := w32 (m 134 (6 * p + v)) = sDu D X wk p v ∧ w32 (m 135 (6 * p + v)) = ((sNo D X p v : Nat) : Int)
section RL
variable {E : yE} {mem : yMem} {Q : Option yV → yMem → Prop} {D : dDc} {X wk : Int}
theorem ix6r {S I : Int} {p v : Nat} (hS : w32 S = (p : Int)) (hI : w32 I = (v : Int)) (hp : p < 12) (hv : v < 6) : w32 (6 * S + I) = ((6 * p + v : Nat) : Int) := by
  have e1 : w32 (6 * S) = ((6 * p : Nat) : Int) := by
    rw [w32_k (by decide) (by omega) (by omega), hS]
    omega
  rw [w32_ad (by omega) (by omega), e1, hI]
  omega
theorem r_lay_v (hE : yEok E) {d p : Nat} {P : Int} (hX : w32 (mem 122 0) = X) (h0 : 0 ≤ X) (h1 : X < 64) (hK : w32 (mem 118 0) = wk) (h : rDl mem D) (hk : dOk D) (hA : OmA mem) (hP : w32 P = (p : Int)) (hp : uPv D p) (hQ : ∀ m r2, rlF' mem m → (∀ p' v, p' ≤ p → uPv D p' → v < D.2.1.length → rlH m D X wk p' v) → zG E (d + 9) xm_205 2 [some (1, 95), some (0, P + 1), r2] [] m Q) : ∀ (c i : Nat) (I : Int) (m : yMem), D.2.1.length - i = c → i ≤ D.2.1.length → w32 I = (i : Int) → rlF' mem m → (∀ p' v, p' < p → uPv D p' → v < D.2.1.length → rlH m D X wk p' v) → (∀ v, v < i → rlH m D X wk p v) → zG E (d + 9) xm_205 26 [some (1, 95), some (0, P), some (0, I)] [] m Q := by
  obtain ⟨-, ⟨n2, n2'⟩, -⟩ := rTb_n h
  have hp12 := (uPv_ltr h hp).1
  intro c
  induction c with
  | zero =>
    intro i I m hc hi hI F g gp
    have e0 : i = D.2.1.length := by omega
    subst e0
    have e5 : m 97 1 = mem 97 1 := F 97 1 (by decide) (by decide) (by decide) (by decide) (by omega)
    refine zgo_ok (n := 90) hE xmo_205 (cs := zc_205) ?_
    simp only [ynok_30, ynok_31, w32c_0, w32c_1, w32c_2, w32c_3, w32c_4, w32c_5, w32c_6, w32c_7, w32c_8, w32c_9, w32c_10, w32c_11, w32c_12, w32c_13, w32c_14, w32c_m1, w32c_m2, w32c_118, Int.reduceAdd, Int.reduceSub, Int.reduceMul, yput_s, yput_n, znl_n, znl_0, znl_1, znl_4, ysum_n, ysum_0, ysum_1, ysum_4, true_and, and_true, Nat.reduceAdd, Nat.reduceLeDiff, true_implies, eq_self, true_or, or_true, or_false, false_or, not_true_eq_false, not_false_eq_true, false_implies, implies_true, yset_s, yset_o, yset_d, ne_eq, Nat.reduceEqDiff, Int.reduceToNat, Int.reduceEq, Int.reduceLE, Int.reduceLT, Classical.not_not, Nat.reduceLT, ↓zvk_s, ↓zvk_n, ↓s_205_0, ↓s_205_1n, ↓s_205_1i, ↓s_205_1p, ↓g_205_2, ↓k_205_2, ↓s_205_3, ↓s_205_5, ↓s_205_8, ↓s_205_9, ↓s_205_10, ↓s_205_11, ↓s_205_12, ↓s_205_13, ↓s_205_14, ↓s_205_15, ↓s_205_18, ↓s_205_21, ↓s_205_24, ↓s_205_25n, ↓s_205_25i, ↓s_205_25p, ↓g_205_26, ↓k_205_26, ↓s_205_27, ↓s_205_28, ↓s_205_31, ↓s_205_32, ↓s_205_33, ↓s_205_36, ↓s_205_37, ↓s_205_40, ↓s_205_42, ↓s_205_43, ↓s_205_44, ↓s_205_45, ↓s_205_46, ↓s_205_47, ↓s_205_48, ↓s_205_49, ↓s_205_52, ↓s_205_53, ↓s_205_54, ↓s_205_57, ↓s_205_59, ↓s_205_60, ↓s_205_61, ↓s_205_62, ↓s_205_63, ↓s_205_64, ↓s_205_65, ↓s_205_66, ↓s_205_69, ↓s_205_70n, ↓s_205_70i, ↓s_205_70p, ↓s_205_73, ↓s_205_76n, ↓s_205_76i, ↓s_205_76p, ↓s_205_79, ↓s_205_82, zar_97, zia_97, zln_97, zit_97, zar_134, zia_134, zln_134, zit_134, zar_135, zia_135, zln_135, zit_135, zio_95, e5]
    refine ⟨by decide, fun _ => hQ m _ F (fun p' v h1 h2 h3 => ?_), fun hh => absurd (show w32 (mem 97 1) ≤ w32 I by omega) hh⟩
    by_cases e : p' = p
    · rw [e]; exact gp v h3
    · exact g p' v (by omega) h2 h3
  | succ c ih =>
    intro i I m hc hi hI F g gp
    have e5 : m 97 1 = mem 97 1 := F 97 1 (by decide) (by decide) (by decide) (by decide) (by omega)
    have e1 := w32_s1 hI (by omega)
    have ix := ix6r hP hI hp12 (show i < 6 by omega)
    have ixt := w32_t ix
    refine zgo_ok (n := 90) hE xmo_205 (cs := zc_205) ?_
    simp only [ynok_30, ynok_31, w32c_0, w32c_1, w32c_2, w32c_3, w32c_4, w32c_5, w32c_6, w32c_7, w32c_8, w32c_9, w32c_10, w32c_11, w32c_12, w32c_13, w32c_14, w32c_m1, w32c_m2, w32c_118, Int.reduceAdd, Int.reduceSub, Int.reduceMul, yput_s, yput_n, znl_n, znl_0, znl_1, znl_4, ysum_n, ysum_0, ysum_1, ysum_4, true_and, and_true, Nat.reduceAdd, Nat.reduceLeDiff, true_implies, eq_self, true_or, or_true, or_false, false_or, not_true_eq_false, not_false_eq_true, false_implies, implies_true, yset_s, yset_o, yset_d, ne_eq, Nat.reduceEqDiff, Int.reduceToNat, Int.reduceEq, Int.reduceLE, Int.reduceLT, Classical.not_not, Nat.reduceLT, ↓zvk_s, ↓zvk_n, ↓s_205_0, ↓s_205_1n, ↓s_205_1i, ↓s_205_1p, ↓g_205_2, ↓k_205_2, ↓s_205_3, ↓s_205_5, ↓s_205_8, ↓s_205_9, ↓s_205_10, ↓s_205_11, ↓s_205_12, ↓s_205_13, ↓s_205_14, ↓s_205_15, ↓s_205_18, ↓s_205_21, ↓s_205_24, ↓s_205_25n, ↓s_205_25i, ↓s_205_25p, ↓g_205_26, ↓k_205_26, ↓s_205_27, ↓s_205_28, ↓s_205_31, ↓s_205_32, ↓s_205_33, ↓s_205_36, ↓s_205_37, ↓s_205_40, ↓s_205_42, ↓s_205_43, ↓s_205_44, ↓s_205_45, ↓s_205_46, ↓s_205_47, ↓s_205_48, ↓s_205_49, ↓s_205_52, ↓s_205_53, ↓s_205_54, ↓s_205_57, ↓s_205_59, ↓s_205_60, ↓s_205_61, ↓s_205_62, ↓s_205_63, ↓s_205_64, ↓s_205_65, ↓s_205_66, ↓s_205_69, ↓s_205_70n, ↓s_205_70i, ↓s_205_70p, ↓s_205_73, ↓s_205_76n, ↓s_205_76i, ↓s_205_76p, ↓s_205_79, ↓s_205_82, zar_97, zia_97, zln_97, zit_97, zar_134, zia_134, zln_134, zit_134, zar_135, zia_135, zln_135, zit_135, zio_95, e5]
    refine ⟨by decide, fun hh => absurd hh (by omega), fun _ => ?_⟩
    refine r_due hE (by omega) (X := X) (wk := wk) (by rw [F 122 0 (by decide) (by decide) (by decide) (by decide) (by omega)]; exact hX) h0 h1 (by rw [F 118 0 (by decide) (by decide) (by decide) (by decide) (by omega)]; exact hK) hP hI (rlF'_D F h) hk (rlF'_A F hA) hp (by omega) (fun r m2 F2 hr => ?_)
    refine zgk_s hE xmo_205 90 zc_205 ?_
    simp only [ynok_30, ynok_31, w32c_0, w32c_1, w32c_2, w32c_3, w32c_4, w32c_5, w32c_6, w32c_7, w32c_8, w32c_9, w32c_10, w32c_11, w32c_12, w32c_13, w32c_14, w32c_m1, w32c_m2, w32c_118, Int.reduceAdd, Int.reduceSub, Int.reduceMul, yput_s, yput_n, znl_n, znl_0, znl_1, znl_4, ysum_n, ysum_0, ysum_1, ysum_4, true_and, and_true, Nat.reduceAdd, Nat.reduceLeDiff, true_implies, eq_self, true_or, or_true, or_false, false_or, not_true_eq_false, not_false_eq_true, false_implies, implies_true, yset_s, yset_o, yset_d, ne_eq, Nat.reduceEqDiff, Int.reduceToNat, Int.reduceEq, Int.reduceLE, Int.reduceLT, Classical.not_not, Nat.reduceLT, ↓zvk_s, ↓zvk_n, ↓s_205_0, ↓s_205_1n, ↓s_205_1i, ↓s_205_1p, ↓g_205_2, ↓k_205_2, ↓s_205_3, ↓s_205_5, ↓s_205_8, ↓s_205_9, ↓s_205_10, ↓s_205_11, ↓s_205_12, ↓s_205_13, ↓s_205_14, ↓s_205_15, ↓s_205_18, ↓s_205_21, ↓s_205_24, ↓s_205_25n, ↓s_205_25i, ↓s_205_25p, ↓g_205_26, ↓k_205_26, ↓s_205_27, ↓s_205_28, ↓s_205_31, ↓s_205_32, ↓s_205_33, ↓s_205_36, ↓s_205_37, ↓s_205_40, ↓s_205_42, ↓s_205_43, ↓s_205_44, ↓s_205_45, ↓s_205_46, ↓s_205_47, ↓s_205_48, ↓s_205_49, ↓s_205_52, ↓s_205_53, ↓s_205_54, ↓s_205_57, ↓s_205_59, ↓s_205_60, ↓s_205_61, ↓s_205_62, ↓s_205_63, ↓s_205_64, ↓s_205_65, ↓s_205_66, ↓s_205_69, ↓s_205_70n, ↓s_205_70i, ↓s_205_70p, ↓s_205_73, ↓s_205_76n, ↓s_205_76i, ↓s_205_76p, ↓s_205_79, ↓s_205_82, zar_97, zia_97, zln_97, zit_97, zar_134, zia_134, zln_134, zit_134, zar_135, zia_135, zln_135, zit_135, zio_95, ixt]
    have F' : rlF' mem (yset m2 134 (6 * p + i) r) := fun a b i1 i2 i3 i4 i5 => by rw [yset_o i3, F2 a b i1 i2 i5]; exact F a b i1 i2 i3 i4 i5
    refine ⟨⟨by omega, by omega⟩, ?_⟩
    refine r_sounds hE (by omega) (X := X) (by rw [F' 122 0 (by decide) (by decide) (by decide) (by decide) (by omega)]; exact hX) h0 h1 hP hI (rlF'_D F' h) hk hp (by omega) (fun r2 hr2 => ?_)
    refine zgk_s hE xmo_205 90 zc_205 ?_
    simp only [ynok_30, ynok_31, w32c_0, w32c_1, w32c_2, w32c_3, w32c_4, w32c_5, w32c_6, w32c_7, w32c_8, w32c_9, w32c_10, w32c_11, w32c_12, w32c_13, w32c_14, w32c_m1, w32c_m2, w32c_118, Int.reduceAdd, Int.reduceSub, Int.reduceMul, yput_s, yput_n, znl_n, znl_0, znl_1, znl_4, ysum_n, ysum_0, ysum_1, ysum_4, true_and, and_true, Nat.reduceAdd, Nat.reduceLeDiff, true_implies, eq_self, true_or, or_true, or_false, false_or, not_true_eq_false, not_false_eq_true, false_implies, implies_true, yset_s, yset_o, yset_d, ne_eq, Nat.reduceEqDiff, Int.reduceToNat, Int.reduceEq, Int.reduceLE, Int.reduceLT, Classical.not_not, Nat.reduceLT, ↓zvk_s, ↓zvk_n, ↓s_205_0, ↓s_205_1n, ↓s_205_1i, ↓s_205_1p, ↓g_205_2, ↓k_205_2, ↓s_205_3, ↓s_205_5, ↓s_205_8, ↓s_205_9, ↓s_205_10, ↓s_205_11, ↓s_205_12, ↓s_205_13, ↓s_205_14, ↓s_205_15, ↓s_205_18, ↓s_205_21, ↓s_205_24, ↓s_205_25n, ↓s_205_25i, ↓s_205_25p, ↓g_205_26, ↓k_205_26, ↓s_205_27, ↓s_205_28, ↓s_205_31, ↓s_205_32, ↓s_205_33, ↓s_205_36, ↓s_205_37, ↓s_205_40, ↓s_205_42, ↓s_205_43, ↓s_205_44, ↓s_205_45, ↓s_205_46, ↓s_205_47, ↓s_205_48, ↓s_205_49, ↓s_205_52, ↓s_205_53, ↓s_205_54, ↓s_205_57, ↓s_205_59, ↓s_205_60, ↓s_205_61, ↓s_205_62, ↓s_205_63, ↓s_205_64, ↓s_205_65, ↓s_205_66, ↓s_205_69, ↓s_205_70n, ↓s_205_70i, ↓s_205_70p, ↓s_205_73, ↓s_205_76n, ↓s_205_76i, ↓s_205_76p, ↓s_205_79, ↓s_205_82, zar_97, zia_97, zln_97, zit_97, zar_134, zia_134, zln_134, zit_134, zar_135, zia_135, zln_135, zit_135, zio_95, ixt]
    have old : ∀ a b, a = 134 ∨ a = 135 → b ≠ 6 * p + i → yset (yset m2 134 (6 * p + i) r) 135 (6 * p + i) r2 a b = m a b := fun a b h1 h2 => by rw [ysn (by omega), ysn (by omega), F2 a b (by omega) (by omega) (by omega)]
    refine ⟨⟨by omega, by omega⟩, ih (i + 1) (I + 1) _ (by omega) (by omega) e1 (fun a b i1 i2 i3 i4 i5 => by rw [yset_o i4]; exact F' a b i1 i2 i3 i4 i5) (fun p' v h1 h2 h3 => ?_) (fun v hv => ?_)⟩
    · unfold rlH
      rw [old 134 _ (Or.inl rfl) (by omega), old 135 _ (Or.inr rfl) (by omega)]
      exact g p' v h1 h2 h3
    · by_cases ev : v = i
      · rw [ev]
        exact ⟨by rw [yset_o (by decide), yset_s]; exact hr, by rw [yset_s]; exact hr2⟩
      · unfold rlH
        rw [old 134 _ (Or.inl rfl) (by omega), old 135 _ (Or.inr rfl) (by omega)]
        exact gp v (by omega)
theorem r_lay (hE : yEok E) {D0 : Nat} (hD : 10 ≤ D0) (hX : w32 (mem 122 0) = X) (h0 : 0 ≤ X) (h1 : X < 64) (hK : w32 (mem 118 0) = wk) (h : rDl mem D) (hk : dOk D) (hA : OmA mem) (hQ : ∀ m, rlF' mem m → (∀ p v, uPv D p → v < D.2.1.length → rlH m D X wk p v) → Q none m) : yCon E D0 xm_205 [(1, 95)] mem Q := by
  obtain ⟨d, rfl⟩ := Nat.exists_eq_add_of_le' hD
  obtain ⟨-, ⟨n2, n2'⟩, ⟨n3, n3'⟩, -⟩ := rTb_n h
  have lp : ∀ (c p : Nat) (P : Int) (r2 : Option yV) (m : yMem), 12 - p = c → p ≤ 12 → w32 P = (p : Int) → rlF' mem m → (∀ p' v, p' < p → uPv D p' → v < D.2.1.length → rlH m D X wk p' v) → zG E (d + 9) xm_205 2 [some (1, 95), some (0, P), r2] [] m Q := by
    intro c
    induction c with
    | zero =>
      intro p P r2 m hc hp hP F g
      have e0 : p = 12 := by omega
      subst e0
      refine zgo_ok (n := 90) hE xmo_205 (cs := zc_205) ?_
      simp only [ynok_30, ynok_31, w32c_0, w32c_1, w32c_2, w32c_3, w32c_4, w32c_5, w32c_6, w32c_7, w32c_8, w32c_9, w32c_10, w32c_11, w32c_12, w32c_13, w32c_14, w32c_m1, w32c_m2, w32c_118, Int.reduceAdd, Int.reduceSub, Int.reduceMul, yput_s, yput_n, znl_n, znl_0, znl_1, znl_4, ysum_n, ysum_0, ysum_1, ysum_4, true_and, and_true, Nat.reduceAdd, Nat.reduceLeDiff, true_implies, eq_self, true_or, or_true, or_false, false_or, not_true_eq_false, not_false_eq_true, false_implies, implies_true, yset_s, yset_o, yset_d, ne_eq, Nat.reduceEqDiff, Int.reduceToNat, Int.reduceEq, Int.reduceLE, Int.reduceLT, Classical.not_not, Nat.reduceLT, ↓zvk_s, ↓zvk_n, ↓s_205_0, ↓s_205_1n, ↓s_205_1i, ↓s_205_1p, ↓s_205_1j, ↓g_205_2, ↓k_205_2, ↓s_205_3, ↓s_205_5, ↓s_205_8, ↓s_205_9, ↓s_205_10, ↓s_205_11, ↓s_205_12, ↓s_205_13, ↓s_205_14, ↓s_205_15, ↓s_205_18, ↓s_205_21, ↓s_205_24, ↓s_205_25n, ↓s_205_25i, ↓s_205_25p, ↓s_205_25j, ↓g_205_26, ↓k_205_26, ↓s_205_27, ↓s_205_28, ↓s_205_31, ↓s_205_32, ↓s_205_33, ↓s_205_36, ↓s_205_37, ↓s_205_40, ↓s_205_42, ↓s_205_43, ↓s_205_44, ↓s_205_45, ↓s_205_46, ↓s_205_47, ↓s_205_48, ↓s_205_49, ↓s_205_52, ↓s_205_53, ↓s_205_54, ↓s_205_57, ↓s_205_59, ↓s_205_60, ↓s_205_61, ↓s_205_62, ↓s_205_63, ↓s_205_64, ↓s_205_65, ↓s_205_66, ↓s_205_69, ↓s_205_70n, ↓s_205_70i, ↓s_205_70p, ↓s_205_70j, ↓s_205_73, ↓s_205_76n, ↓s_205_76i, ↓s_205_76p, ↓s_205_76j, ↓s_205_79, ↓s_205_82, zar_97, zia_97, zln_97, zit_97, zar_134, zia_134, zln_134, zit_134, zar_135, zia_135, zln_135, zit_135, zio_95]
      exact ⟨fun _ => hQ m F (fun p v hp hv => g p v (uPv_ltr h hp).1 hp hv), fun hh => absurd (show (12 : Int) ≤ w32 P by omega) hh⟩
    | succ c ih =>
      intro p P r2 m hc hp hP F g
      have e1 := w32_s1 hP (by omega)
      have eE : w32 (ybin 9 P 3) = ((p / 3 : Nat) : Int) := yb_div hP (show w32 3 = ((3 : Nat) : Int) by decide) (by decide) (by decide) (by omega)
      have eQ : w32 (ybin 10 P 3) = ((p % 3 : Nat) : Int) := yb_rem hP (show w32 3 = ((3 : Nat) : Int) by decide) (by decide) (by decide) (by omega)
      have e97 : m 97 2 = mem 97 2 := F 97 2 (by decide) (by decide) (by decide) (by decide) (by omega)
      have e109 : m 109 (p / 3) = mem 109 (p / 3) := F 109 _ (by decide) (by decide) (by decide) (by decide) (by omega)
      have skip : ¬ uPv D p → zG E (d + 9) xm_205 2 [some (1, 95), some (0, P + 1), r2] [] m Q := fun np => ih (p + 1) (P + 1) r2 m (by omega) (by omega) e1 F (fun p' v a1 a2 a3 => by
        by_cases e : p' = p
        · exact absurd (e ▸ a2) np
        · exact g p' v (by omega) a2 a3)
      have go : uPv D p → zG E (d + 9) xm_205 26 [some (1, 95), some (0, P), some (0, 0)] [] m Q := fun hp' => r_lay_v hE hX h0 h1 hK h hk hA hP hp' (fun m2 r2 F2 g2 => ih (p + 1) (P + 1) r2 m2 (by omega) (by omega) e1 F2 (fun p' v a1 a2 a3 => g2 p' v (by omega) a2 a3)) _ 0 0 m rfl (Nat.zero_le _) w32c_0 F g (fun v hv => absurd hv (Nat.not_lt_zero _))
      refine zgo_ok (n := 90) hE xmo_205 (cs := zc_205) ?_
      simp only [ynok_30, ynok_31, w32c_0, w32c_1, w32c_2, w32c_3, w32c_4, w32c_5, w32c_6, w32c_7, w32c_8, w32c_9, w32c_10, w32c_11, w32c_12, w32c_13, w32c_14, w32c_m1, w32c_m2, w32c_118, Int.reduceAdd, Int.reduceSub, Int.reduceMul, yput_s, yput_n, znl_n, znl_0, znl_1, znl_4, ysum_n, ysum_0, ysum_1, ysum_4, true_and, and_true, Nat.reduceAdd, Nat.reduceLeDiff, true_implies, eq_self, true_or, or_true, or_false, false_or, not_true_eq_false, not_false_eq_true, false_implies, implies_true, yset_s, yset_o, yset_d, ne_eq, Nat.reduceEqDiff, Int.reduceToNat, Int.reduceEq, Int.reduceLE, Int.reduceLT, Classical.not_not, Nat.reduceLT, ↓zvk_s, ↓zvk_n, ↓s_205_0, ↓s_205_1n, ↓s_205_1i, ↓s_205_1p, ↓s_205_1j, ↓g_205_2, ↓k_205_2, ↓s_205_3, ↓s_205_5, ↓s_205_8, ↓s_205_9, ↓s_205_10, ↓s_205_11, ↓s_205_12, ↓s_205_13, ↓s_205_14, ↓s_205_15, ↓s_205_18, ↓s_205_21, ↓s_205_24, ↓s_205_25n, ↓s_205_25i, ↓s_205_25p, ↓s_205_25j, ↓g_205_26, ↓k_205_26, ↓s_205_27, ↓s_205_28, ↓s_205_31, ↓s_205_32, ↓s_205_33, ↓s_205_36, ↓s_205_37, ↓s_205_40, ↓s_205_42, ↓s_205_43, ↓s_205_44, ↓s_205_45, ↓s_205_46, ↓s_205_47, ↓s_205_48, ↓s_205_49, ↓s_205_52, ↓s_205_53, ↓s_205_54, ↓s_205_57, ↓s_205_59, ↓s_205_60, ↓s_205_61, ↓s_205_62, ↓s_205_63, ↓s_205_64, ↓s_205_65, ↓s_205_66, ↓s_205_69, ↓s_205_70n, ↓s_205_70i, ↓s_205_70p, ↓s_205_70j, ↓s_205_73, ↓s_205_76n, ↓s_205_76i, ↓s_205_76p, ↓s_205_76j, ↓s_205_79, ↓s_205_82, ↓s_189_0, ↓s_189_1, ↓s_189_2, ↓s_189_5, ↓s_189_8, ↓s_189_9, ↓s_189_12, ↓s_189_13, ↓s_189_14, ↓s_189_17, ↓s_189_18, ↓s_189_19, ↓s_189_22, ↓s_189_23, ↓s_189_26, ↓s_189_27, ↓s_196_0, ↓s_196_1, ↓s_196_4, ↓s_196_5, ↓s_196_6, ↓s_196_9, ↓s_196_10, ↓s_196_11, ↓s_196_14, ↓s_196_15, ↓s_196_18, ↓s_196_19, zar_97, zia_97, zln_97, zit_97, zar_134, zia_134, zln_134, zit_134, zar_135, zia_135, zln_135, zit_135, zar_109, zia_109, zln_109, zit_109, zio_95, eE, eQ, e97, Int.toNat_natCast, e109]
      refine ⟨fun hh => absurd hh (by omega), fun _ => ⟨fun z => absurd z (by omega), fun _ => ⟨by decide, fun z => skip (fun y => ?_), fun z => ⟨fun z => absurd z (by omega), fun _ => ?_⟩⟩⟩⟩
      · have := y.1
        omega
      · obtain ⟨pe, pl⟩ := rTb_e h (show p / 3 < D.2.2.1.length by omega)
        refine ⟨⟨by omega, by omega⟩, fun z => skip (fun y => ?_), fun z => go ⟨by omega, ?_⟩⟩
        · have := y.2
          show False
          unfold sPs at pe
          omega
        · unfold sPs at pe
          omega
  refine e_205 ?_
  refine zvc_ok hE 90 zc_205 _ _ _ _ _ _ _ xmo_205 ?_
  simp only [ynok_30, ynok_31, w32c_0, w32c_1, w32c_2, w32c_3, w32c_4, w32c_5, w32c_6, w32c_7, w32c_8, w32c_9, w32c_10, w32c_11, w32c_12, w32c_13, w32c_14, w32c_m1, w32c_m2, w32c_118, Int.reduceAdd, Int.reduceSub, Int.reduceMul, yput_s, yput_n, znl_n, znl_0, znl_1, znl_4, ysum_n, ysum_0, ysum_1, ysum_4, true_and, and_true, Nat.reduceAdd, Nat.reduceLeDiff, true_implies, eq_self, true_or, or_true, or_false, false_or, not_true_eq_false, not_false_eq_true, false_implies, implies_true, yset_s, yset_o, yset_d, ne_eq, Nat.reduceEqDiff, Int.reduceToNat, Int.reduceEq, Int.reduceLE, Int.reduceLT, Classical.not_not, Nat.reduceLT, ↓zvk_s, ↓zvk_n, ↓s_205_0, ↓s_205_1n, ↓s_205_1i, ↓s_205_1p, ↓g_205_2, ↓k_205_2, ↓s_205_3, ↓s_205_5, ↓s_205_8, ↓s_205_9, ↓s_205_10, ↓s_205_11, ↓s_205_12, ↓s_205_13, ↓s_205_14, ↓s_205_15, ↓s_205_18, ↓s_205_21, ↓s_205_24, ↓s_205_25n, ↓s_205_25i, ↓s_205_25p, ↓g_205_26, ↓k_205_26, ↓s_205_27, ↓s_205_28, ↓s_205_31, ↓s_205_32, ↓s_205_33, ↓s_205_36, ↓s_205_37, ↓s_205_40, ↓s_205_42, ↓s_205_43, ↓s_205_44, ↓s_205_45, ↓s_205_46, ↓s_205_47, ↓s_205_48, ↓s_205_49, ↓s_205_52, ↓s_205_53, ↓s_205_54, ↓s_205_57, ↓s_205_59, ↓s_205_60, ↓s_205_61, ↓s_205_62, ↓s_205_63, ↓s_205_64, ↓s_205_65, ↓s_205_66, ↓s_205_69, ↓s_205_70n, ↓s_205_70i, ↓s_205_70p, ↓s_205_73, ↓s_205_76n, ↓s_205_76i, ↓s_205_76p, ↓s_205_79, ↓s_205_82, zar_97, zia_97, zln_97, zit_97, zar_134, zia_134, zln_134, zit_134, zar_135, zia_135, zln_135, zit_135, zio_95]
  exact lp _ 0 0 none mem rfl (Nat.zero_le _) w32c_0 (fun _ _ _ _ _ _ _ => rfl) (fun p' v a1 => absurd a1 (Nat.not_lt_zero _))
end RL
end
section
/-! BEST, the reference's side: all laid, and nothing better -/
theorem TrQ_of {a m : yMem} {v cr co ga : Int} (hv : 0 ≤ v) (T : TrX a v (cr + 1) co ga m) (hco : 0 ≤ co) : TrQ a v cr co ga m := by
  refine ⟨T.1, fun j => ?_, fun c h1 h2 => ?_⟩
  · by_cases h : (j : Int) < 1000 * v + co ∨ 1000 * v + (cr + 1) ≤ (j : Int)
    · exact Or.inl (T.2.1 j h)
    · obtain ⟨t1, t2⟩ := T.2.2 ((j : Int) - 1000 * v) (by omega) (by omega)
      rw [show (1000 * v + ((j : Int) - 1000 * v)).toNat = j by omega] at t1 t2
      by_cases z : zlx (ga + w32 (a 132 (1000 * (v + 1) + ((j : Int) - 1000 * v) - co).toNat)) (co + w32 (a 133 (1000 * (v + 1) + ((j : Int) - 1000 * v) - co).toNat)) (w32 (a 132 j)) (w32 (a 133 j))
      · exact Or.inr ⟨(j : Int) - 1000 * v, by omega, by omega, by omega, (t1 z).1, (t1 z).2⟩
      · exact Or.inl (t2 z)
  · obtain ⟨t1, t2⟩ := T.2.2 c h1 (by omega)
    by_cases z : zlx (ga + w32 (a 132 (1000 * (v + 1) + c - co).toNat)) (co + w32 (a 133 (1000 * (v + 1) + c - co).toNat)) (w32 (a 132 (1000 * v + c).toNat)) (w32 (a 133 (1000 * v + c).toNat))
    · rw [(t1 z).1]
      exact Int.le_refl _
    · rw [(t2 z).1]
      unfold zlx at z
      omega
/-- no row beats what stands -/
def zdo (b : yMem) (V : Int) (bn bc : Nat → Int) (c : Int) (g : Nat → Int) : Prop := zgan b V g + w32 (bn (1000 * (V + 1) + c - zcst b V g).toNat) < w32 (bn (1000 * V + c).toNat) ∨ (zgan b V g + w32 (bn (1000 * (V + 1) + c - zcst b V g).toNat) = w32 (bn (1000 * V + c).toNat) ∧ w32 (bc (1000 * V + c).toNat) ≤ zcst b V g + w32 (bc (1000 * (V + 1) + c - zcst b V g).toNat))
def zup (b : yMem) (cr V : Int) (m : yMem) : Prop := (∀ u, V < u → u < w32 (b 97 2) → ∀ c, 0 ≤ c → c ≤ cr → ∀ g, zrw b u g → zcst b u g ≤ c → zdo b u (m 132) (m 133) c g) ∧ ∀ c, 0 ≤ c → c ≤ cr → w32 (m 132 (1000 * w32 (b 97 2) + c).toNat) = 0 ∧ w32 (m 133 (1000 * w32 (b 97 2) + c).toNat) = 0
theorem zup_loc {b m m' : yMem} {cr V : Int} (hV : -1 ≤ V) (hV2 : V < w32 (b 97 2)) (h : zup b cr V m) (h2 : ∀ j : Nat, 1000 * (V + 1) ≤ (j : Int) → m' 132 j = m 132 j ∧ m' 133 j = m 133 j) : zup b cr V m' := by
  refine ⟨fun u h3 h4 c c0 c1 g hr hc => ?_, fun c c0 c1 => ?_⟩
  · have z := h.1 u h3 h4 c c0 c1 g hr hc
    unfold zdo at z ⊢
    rw [(h2 (1000 * (u + 1) + c - zcst b u g).toNat (by omega)).1, (h2 (1000 * (u + 1) + c - zcst b u g).toNat (by omega)).2, (h2 (1000 * u + c).toNat (by omega)).1, (h2 (1000 * u + c).toNat (by omega)).2]
    exact z
  · rw [(h2 (1000 * w32 (b 97 2) + c).toNat (by omega)).1, (h2 (1000 * w32 (b 97 2) + c).toNat (by omega)).2]
    exact h.2 c c0 c1
def LbXI (b : yMem) (cr V : Int) (m : yMem) : Prop := LbI b cr V m ∧ zup b cr V m
abbrev zPn (b : yMem) (V : Int) : Nat := (w32 (b 109 V.toNat)).toNat
abbrev zxi (b : yMem) (V : Int) (g : Nat → Int) : Int := zix g (w32 (b 97 1) + 1) (zPn b V)
def zlo (b : yMem) (cr V N : Int) (m : yMem) : Prop := ∀ c, 0 ≤ c → c ≤ cr → ∀ g, zrw b V g → zxi b V g < N → zcst b V g ≤ c → zdo b V (m 132) (m 133) c g
def LbXJ (b : yMem) (cr V : Int) (m : yMem) : Prop := LbJ b cr V m ∧ zup b cr V m ∧ zlo b cr V (zxi b V (m 136)) m
/-- rows of one number are alike -/
theorem zrw_eq {b : yMem} {V : Int} {f g : Nat → Int} (hn : 0 ≤ w32 (b 97 1)) (hP : zPn b V ≤ 3) (hf : ∀ j, j < 3 → 0 ≤ w32 (f j) ∧ w32 (f j) ≤ w32 (b 97 1)) (hg : ∀ j, j < 3 → 0 ≤ w32 (g j) ∧ w32 (g j) ≤ w32 (b 97 1)) (h : zxi b V f = zxi b V g) : ∀ j, j < zPn b V → w32 (f j) = w32 (g j) := zix_inj (b := w32 (b 97 1) + 1) (by omega) _ (fun j hj => by have := hf j (by omega); omega) (fun j hj => by have := hg j (by omega); omega) h
theorem zdo_loc {b : yMem} {V c : Int} {bn bc bn' bc' : Nat → Int} {g : Nat → Int} (h1 : bn' (1000 * V + c).toNat = bn (1000 * V + c).toNat) (h1' : bc' (1000 * V + c).toNat = bc (1000 * V + c).toNat) (h2 : ∀ j : Nat, 1000 * (V + 1) ≤ (j : Int) → bn' j = bn j ∧ bc' j = bc j) (hc : zcst b V g ≤ c) (h : zdo b V bn bc c g) : zdo b V bn' bc' c g := by
  unfold zdo at h ⊢
  have q := h2 (1000 * (V + 1) + c - zcst b V g).toNat (by omega)
  rw [h1, h1', q.1, q.2]
  exact h
theorem lbx120 {E : yE} (hE : yEok E) {d : Nat} (hd : 2 ≤ d) {b m : yMem} {Q : Option yV → yMem → Prop} {cr v : Int} {r3 : Option yV} (hv : 0 ≤ w32 v) (hv3 : w32 v ≤ 3) (hvn : w32 v < w32 (b 97 2)) (hn0 : 0 ≤ w32 (b 97 1)) (hP : zPn b (w32 v) ≤ 3) (hJ : LbJ b (w32 cr) (w32 v) m) (hU : zup b (w32 cr) (w32 v) m) (hL : zlo b (w32 cr) (w32 v) (zxi b (w32 v) (m 136) + 1) m) (hlast : (∀ j, j < (w32 (b 109 (w32 v).toNat)).toNat → w32 (m 136 j) = w32 (b 97 1)) → ∀ c, 0 ≤ c → c ≤ w32 cr → ¬ w32 (m 132 (1000 * w32 v + c).toNat) = -1) (again : ∀ m', LbXJ b (w32 cr) (w32 v) m' → zxi b (w32 v) (m' 136) = zxi b (w32 v) (m 136) + 1 → zG E d xm_204 96 [some (1, 95), some (0, cr), some (0, v), r3] [] m' Q) (next : ∀ m', LbXI b (w32 cr) (w32 v - 1) m' → zG E d xm_204 62 [some (1, 95), some (0, cr), some (0, v + -1), r3] [] m' Q) : zG E d xm_204 120 [some (1, 95), some (0, cr), some (0, v), r3] [] m Q := by
  obtain ⟨hI, hrow, hdig⟩ := hJ
  have e97 : m 97 = b 97 := funext fun j => hI.1 97 j (by decide) (by decide) (by decide)
  have e109 : m 109 = b 109 := funext fun j => hI.1 109 j (by decide) (by decide) (by decide)
  refine zgo_ok (n := 60) hE xmo_204 (cs := zc_204) ?_
  simp only [ynok_30, ynok_31, w32c_0, w32c_1, w32c_2, w32c_3, w32c_4, w32c_5, w32c_6, w32c_7, w32c_8, w32c_9, w32c_10, w32c_11, w32c_12, w32c_13, w32c_14, w32c_m1, w32c_m2, w32c_118, Int.reduceAdd, Int.reduceSub, Int.reduceMul, yput_s, yput_n, znl_n, znl_0, znl_1, znl_4, ysum_n, ysum_0, ysum_1, ysum_4, true_and, and_true, Nat.reduceAdd, Nat.reduceLeDiff, true_implies, eq_self, true_or, or_true, or_false, false_or, not_true_eq_false, not_false_eq_true, false_implies, implies_true, yset_s, yset_o, yset_d, ne_eq, Nat.reduceEqDiff, Int.reduceToNat, Int.reduceEq, Int.reduceLE, Int.reduceLT, Classical.not_not, Nat.reduceLT, ↓zvk_s, ↓zvk_n, ↓s_204_0, ↓s_204_1, ↓s_204_4, ↓s_204_5n, ↓s_204_5i, ↓s_204_5p, ↓g_204_6, ↓k_204_6, ↓s_204_7, ↓s_204_8, ↓s_204_11, ↓s_204_12, ↓s_204_15, ↓s_204_18, ↓s_204_19, ↓s_204_22, ↓s_204_23, ↓s_204_24, ↓s_204_25, ↓s_204_26, ↓s_204_27, ↓s_204_28, ↓s_204_29, ↓s_204_30, ↓s_204_33, ↓s_204_36, ↓s_204_37, ↓s_204_40, ↓s_204_41, ↓s_204_42, ↓s_204_43, ↓s_204_44, ↓s_204_45, ↓s_204_46, ↓s_204_47n, ↓s_204_47i, ↓s_204_47p, ↓s_204_50, ↓s_204_53, ↓s_204_54, ↓s_204_57, ↓s_204_58, ↓s_204_59, ↓s_204_60, ↓s_204_61n, ↓s_204_61i, ↓s_204_61p, ↓g_204_62, ↓k_204_62, ↓s_204_63, ↓s_204_66, ↓s_204_67n, ↓s_204_67i, ↓s_204_67p, ↓g_204_68, ↓k_204_68, ↓s_204_69, ↓s_204_70, ↓s_204_73, ↓s_204_74, ↓s_204_77, ↓s_204_80, ↓s_204_81, ↓s_204_82, ↓s_204_83, ↓s_204_84, ↓s_204_85, ↓s_204_86n, ↓s_204_86i, ↓s_204_86p, ↓s_204_89, ↓s_204_92, ↓s_204_93, ↓g_204_96, ↓k_204_96, ↓s_204_97, ↓s_204_98, ↓s_204_101, ↓s_204_104, ↓s_204_105, ↓s_204_106, ↓s_204_107, ↓s_204_108, ↓s_204_109, ↓s_204_112, ↓s_204_113, ↓s_204_114, ↓s_204_117, ↓g_204_120, ↓k_204_120, ↓s_204_121, ↓s_204_122, ↓s_204_125, ↓s_204_128n, ↓s_204_128i, ↓s_204_128p, ↓s_204_131, ↓s_204_134, w32c_1000, zar_97, zia_97, zln_97, zit_97, zar_132, zia_132, zln_132, zit_132, zar_133, zia_133, zln_133, zit_133, zio_95]
  refine c_goesNext hE (by omega) hI.2.1 hv hv3 (by rw [e97]; exact hdig) (fun x m' hq => ?_)
  obtain ⟨fr, hG', hd'⟩ := Gn_ok hI.2.1 hq
  have e132 : m' 132 = m 132 := funext fun j => fr 132 j (by decide)
  have e133 : m' 133 = m 133 := funext fun j => fr 133 j (by decide)
  have hI' : LbI b (w32 cr) (w32 v) m' := LbI_loc (by omega) hI (fun i j _ _ h => fr i j h) hG' (fun j _ => ⟨fr 132 j (by decide), fr 133 j (by decide)⟩)
  have hU' : zup b (w32 cr) (w32 v) m' := zup_loc (by omega) hvn hU (fun j _ => ⟨fr 132 j (by decide), fr 133 j (by decide)⟩)
  have hL' : zlo b (w32 cr) (w32 v) (zxi b (w32 v) (m 136) + 1) m' := fun c c0 c1 g g1 g2 g3 => by
    rw [e132, e133]
    exact hL c c0 c1 g g1 g2 g3
  have q3 := hq.2.2
  rw [e97, e109] at q3
  refine zgk_s hE xmo_204 60 zc_204 ?_
  simp only [ynok_30, ynok_31, w32c_0, w32c_1, w32c_2, w32c_3, w32c_4, w32c_5, w32c_6, w32c_7, w32c_8, w32c_9, w32c_10, w32c_11, w32c_12, w32c_13, w32c_14, w32c_m1, w32c_m2, w32c_118, Int.reduceAdd, Int.reduceSub, Int.reduceMul, yput_s, yput_n, znl_n, znl_0, znl_1, znl_4, ysum_n, ysum_0, ysum_1, ysum_4, true_and, and_true, Nat.reduceAdd, Nat.reduceLeDiff, true_implies, eq_self, true_or, or_true, or_false, false_or, not_true_eq_false, not_false_eq_true, false_implies, implies_true, yset_s, yset_o, yset_d, ne_eq, Nat.reduceEqDiff, Int.reduceToNat, Int.reduceEq, Int.reduceLE, Int.reduceLT, Classical.not_not, Nat.reduceLT, ↓zvk_s, ↓zvk_n, ↓s_204_0, ↓s_204_1, ↓s_204_4, ↓s_204_5n, ↓s_204_5i, ↓s_204_5p, ↓g_204_6, ↓k_204_6, ↓s_204_7, ↓s_204_8, ↓s_204_11, ↓s_204_12, ↓s_204_15, ↓s_204_18, ↓s_204_19, ↓s_204_22, ↓s_204_23, ↓s_204_24, ↓s_204_25, ↓s_204_26, ↓s_204_27, ↓s_204_28, ↓s_204_29, ↓s_204_30, ↓s_204_33, ↓s_204_36, ↓s_204_37, ↓s_204_40, ↓s_204_41, ↓s_204_42, ↓s_204_43, ↓s_204_44, ↓s_204_45, ↓s_204_46, ↓s_204_47n, ↓s_204_47i, ↓s_204_47p, ↓s_204_50, ↓s_204_53, ↓s_204_54, ↓s_204_57, ↓s_204_58, ↓s_204_59, ↓s_204_60, ↓s_204_61n, ↓s_204_61i, ↓s_204_61p, ↓g_204_62, ↓k_204_62, ↓s_204_63, ↓s_204_66, ↓s_204_67n, ↓s_204_67i, ↓s_204_67p, ↓g_204_68, ↓k_204_68, ↓s_204_69, ↓s_204_70, ↓s_204_73, ↓s_204_74, ↓s_204_77, ↓s_204_80, ↓s_204_81, ↓s_204_82, ↓s_204_83, ↓s_204_84, ↓s_204_85, ↓s_204_86n, ↓s_204_86i, ↓s_204_86p, ↓s_204_89, ↓s_204_92, ↓s_204_93, ↓g_204_96, ↓k_204_96, ↓s_204_97, ↓s_204_98, ↓s_204_101, ↓s_204_104, ↓s_204_105, ↓s_204_106, ↓s_204_107, ↓s_204_108, ↓s_204_109, ↓s_204_112, ↓s_204_113, ↓s_204_114, ↓s_204_117, ↓g_204_120, ↓k_204_120, ↓s_204_121, ↓s_204_122, ↓s_204_125, ↓s_204_128n, ↓s_204_128i, ↓s_204_128p, ↓s_204_131, ↓s_204_134, w32c_1000, zar_97, zia_97, zln_97, zit_97, zar_132, zia_132, zln_132, zit_132, zar_133, zia_133, zln_133, zit_133, zio_95]
  refine ⟨fun hx => ?_, fun hx => ?_⟩
  · rcases q3 with ⟨_, hz⟩ | ⟨h0, _⟩
    · refine again m' ⟨⟨hI', fun c c0 c1 => ?_, by rw [e97] at hd'; exact hd'⟩, hU', ?_⟩ hz
      · rw [e132, e133]
        exact hrow c c0 c1
      · rw [show zxi b (w32 v) (m' 136) = zxi b (w32 v) (m 136) + 1 from hz]
        exact hL'
    · subst h0
      exact absurd (show w32 0 = 0 by decide) hx
  · rcases q3 with ⟨h1, _⟩ | ⟨_, hz⟩
    · subst h1
      exact absurd hx (by decide)
    · have hl := hlast hz
      refine next m' ⟨⟨hI'.1, hI'.2.1, fun u h3 h4 c c0 c1 => ?_, fun u h3 h4 c c0 c1 => ?_⟩, fun u h3 h4 c c0 c1 g g1 g2 => ?_, hU'.2⟩
      · by_cases hu : u = w32 v
        · subst hu
          rw [e132, e133]
          rcases hrow c c0 c1 with h | h
          · exact absurd h (hl c c0 c1)
          · exact h.2
        · exact hI'.2.2.1 u (by omega) h4 c c0 c1
      · by_cases hu : u = w32 v
        · subst hu
          rw [e132, e133]
          rcases hrow c c0 c1 with h | h
          · exact absurd h (hl c c0 c1)
          · exact h.1
        · exact hI'.2.2.2 u (by omega) h4 c c0 c1
      · by_cases hu : u = w32 v
        · subst hu
          refine hL' c c0 c1 g g1 ?_ g2
          have : zxi b (w32 v) g ≤ zxi b (w32 v) (m 136) := zix_mono (f := g) (g := m 136) (b := w32 (b 97 1) + 1) (by omega) (zPn b (w32 v)) (fun j hj => by rw [hz j hj]; exact (g1.1 j (by omega)).2)
          show zxi b (w32 v) g < zxi b (w32 v) (m 136) + 1
          omega
        · exact hU'.1 u (by omega) h4 c c0 c1 g g1 g2
theorem lbx96 {E : yE} (hE : yEok E) {d : Nat} (hd : 2 ≤ d) {b : yMem} {Q : Option yV → yMem → Prop} {cr v B : Int} {r3 : Option yV} (hv : 0 ≤ w32 v) (hv3 : w32 v ≤ 3) (hvn : w32 v < w32 (b 97 2)) (hn0 : 0 ≤ w32 (b 97 1)) (hP : zPn b (w32 v) ≤ 3) (hcr : w32 cr ≤ 999) (hB : ∀ g : Nat → Int, (∀ j, j < 3 → 0 ≤ w32 (g j) ∧ w32 (g j) ≤ w32 (b 97 1)) → zxi b (w32 v) g < B) (next : ∀ m', LbXI b (w32 cr) (w32 v - 1) m' → zG E d xm_204 62 [some (1, 95), some (0, cr), some (0, v + -1), r3] [] m' Q) : ∀ (n : Nat) (m : yMem), (B - zxi b (w32 v) (m 136)).toNat = n → LbXJ b (w32 cr) (w32 v) m → zG E d xm_204 96 [some (1, 95), some (0, cr), some (0, v), r3] [] m Q := by
  intro n
  induction n with
  | zero =>
    intro m hn hJ
    have := hB (m 136) hJ.1.2.2
    omega
  | succ n ih =>
    intro m hn hJX
    have again : ∀ m1 : yMem, m1 136 = m 136 → ∀ m', LbXJ b (w32 cr) (w32 v) m' → zxi b (w32 v) (m' 136) = zxi b (w32 v) (m1 136) + 1 → zG E d xm_204 96 [some (1, 95), some (0, cr), some (0, v), r3] [] m' Q := fun m1 e1 m' hJ' hz => by
      rw [e1] at hz
      have := hB (m' 136) hJ'.1.2.2
      exact ih m' (by omega) hJ'
    obtain ⟨hJ, hU, hL⟩ := hJX
    have hJ0 := hJ
    obtain ⟨hI, hrow, hdig⟩ := hJ
    have hG := hI.2.1
    have e97 : m 97 = b 97 := funext fun j => hI.1 97 j (by decide) (by decide) (by decide)
    have e109 : m 109 = b 109 := funext fun j => hI.1 109 j (by decide) (by decide) (by decide)
    have e122 : m 122 = b 122 := funext fun j => hI.1 122 j (by decide) (by decide) (by decide)
    have e134 : m 134 = b 134 := funext fun j => hI.1 134 j (by decide) (by decide) (by decide)
    have e135 : m 135 = b 135 := funext fun j => hI.1 135 j (by decide) (by decide) (by decide)
    have hdm : ∀ j, j < 3 → 0 ≤ w32 (m 136 j) ∧ w32 (m 136 j) ≤ w32 (m 97 1) := by rw [e97]; exact hdig
    have g109 := agA hG 109 (w32 v).toNat ae_109
    rw [e109] at g109
    refine zgo_ok (n := 60) hE xmo_204 (cs := zc_204) ?_
    simp only [ynok_30, ynok_31, w32c_0, w32c_1, w32c_2, w32c_3, w32c_4, w32c_5, w32c_6, w32c_7, w32c_8, w32c_9, w32c_10, w32c_11, w32c_12, w32c_13, w32c_14, w32c_m1, w32c_m2, w32c_118, Int.reduceAdd, Int.reduceSub, Int.reduceMul, yput_s, yput_n, znl_n, znl_0, znl_1, znl_4, ysum_n, ysum_0, ysum_1, ysum_4, true_and, and_true, Nat.reduceAdd, Nat.reduceLeDiff, true_implies, eq_self, true_or, or_true, or_false, false_or, not_true_eq_false, not_false_eq_true, false_implies, implies_true, yset_s, yset_o, yset_d, ne_eq, Nat.reduceEqDiff, Int.reduceToNat, Int.reduceEq, Int.reduceLE, Int.reduceLT, Classical.not_not, Nat.reduceLT, ↓zvk_s, ↓zvk_n, ↓s_204_0, ↓s_204_1, ↓s_204_4, ↓s_204_5n, ↓s_204_5i, ↓s_204_5p, ↓g_204_6, ↓k_204_6, ↓s_204_7, ↓s_204_8, ↓s_204_11, ↓s_204_12, ↓s_204_15, ↓s_204_18, ↓s_204_19, ↓s_204_22, ↓s_204_23, ↓s_204_24, ↓s_204_25, ↓s_204_26, ↓s_204_27, ↓s_204_28, ↓s_204_29, ↓s_204_30, ↓s_204_33, ↓s_204_36, ↓s_204_37, ↓s_204_40, ↓s_204_41, ↓s_204_42, ↓s_204_43, ↓s_204_44, ↓s_204_45, ↓s_204_46, ↓s_204_47n, ↓s_204_47i, ↓s_204_47p, ↓s_204_50, ↓s_204_53, ↓s_204_54, ↓s_204_57, ↓s_204_58, ↓s_204_59, ↓s_204_60, ↓s_204_61n, ↓s_204_61i, ↓s_204_61p, ↓g_204_62, ↓k_204_62, ↓s_204_63, ↓s_204_66, ↓s_204_67n, ↓s_204_67i, ↓s_204_67p, ↓g_204_68, ↓k_204_68, ↓s_204_69, ↓s_204_70, ↓s_204_73, ↓s_204_74, ↓s_204_77, ↓s_204_80, ↓s_204_81, ↓s_204_82, ↓s_204_83, ↓s_204_84, ↓s_204_85, ↓s_204_86n, ↓s_204_86i, ↓s_204_86p, ↓s_204_89, ↓s_204_92, ↓s_204_93, ↓g_204_96, ↓k_204_96, ↓s_204_97, ↓s_204_98, ↓s_204_101, ↓s_204_104, ↓s_204_105, ↓s_204_106, ↓s_204_107, ↓s_204_108, ↓s_204_109, ↓s_204_112, ↓s_204_113, ↓s_204_114, ↓s_204_117, ↓g_204_120, ↓k_204_120, ↓s_204_121, ↓s_204_122, ↓s_204_125, ↓s_204_128n, ↓s_204_128i, ↓s_204_128p, ↓s_204_131, ↓s_204_134, w32c_1000, zar_97, zia_97, zln_97, zit_97, zar_132, zia_132, zln_132, zit_132, zar_133, zia_133, zln_133, zit_133, zio_95]
    refine c_mayBe hE hd hG hv hv3 (fun hno => ?_) (fun hyes => ?_)
    · refine zgk_s hE xmo_204 60 zc_204 ?_
      simp only [ynok_30, ynok_31, w32c_0, w32c_1, w32c_2, w32c_3, w32c_4, w32c_5, w32c_6, w32c_7, w32c_8, w32c_9, w32c_10, w32c_11, w32c_12, w32c_13, w32c_14, w32c_m1, w32c_m2, w32c_118, Int.reduceAdd, Int.reduceSub, Int.reduceMul, yput_s, yput_n, znl_n, znl_0, znl_1, znl_4, ysum_n, ysum_0, ysum_1, ysum_4, true_and, and_true, Nat.reduceAdd, Nat.reduceLeDiff, true_implies, eq_self, true_or, or_true, or_false, false_or, not_true_eq_false, not_false_eq_true, false_implies, implies_true, yset_s, yset_o, yset_d, ne_eq, Nat.reduceEqDiff, Int.reduceToNat, Int.reduceEq, Int.reduceLE, Int.reduceLT, Classical.not_not, Nat.reduceLT, ↓zvk_s, ↓zvk_n, ↓s_204_0, ↓s_204_1, ↓s_204_4, ↓s_204_5n, ↓s_204_5i, ↓s_204_5p, ↓g_204_6, ↓k_204_6, ↓s_204_7, ↓s_204_8, ↓s_204_11, ↓s_204_12, ↓s_204_15, ↓s_204_18, ↓s_204_19, ↓s_204_22, ↓s_204_23, ↓s_204_24, ↓s_204_25, ↓s_204_26, ↓s_204_27, ↓s_204_28, ↓s_204_29, ↓s_204_30, ↓s_204_33, ↓s_204_36, ↓s_204_37, ↓s_204_40, ↓s_204_41, ↓s_204_42, ↓s_204_43, ↓s_204_44, ↓s_204_45, ↓s_204_46, ↓s_204_47n, ↓s_204_47i, ↓s_204_47p, ↓s_204_50, ↓s_204_53, ↓s_204_54, ↓s_204_57, ↓s_204_58, ↓s_204_59, ↓s_204_60, ↓s_204_61n, ↓s_204_61i, ↓s_204_61p, ↓g_204_62, ↓k_204_62, ↓s_204_63, ↓s_204_66, ↓s_204_67n, ↓s_204_67i, ↓s_204_67p, ↓g_204_68, ↓k_204_68, ↓s_204_69, ↓s_204_70, ↓s_204_73, ↓s_204_74, ↓s_204_77, ↓s_204_80, ↓s_204_81, ↓s_204_82, ↓s_204_83, ↓s_204_84, ↓s_204_85, ↓s_204_86n, ↓s_204_86i, ↓s_204_86p, ↓s_204_89, ↓s_204_92, ↓s_204_93, ↓g_204_96, ↓k_204_96, ↓s_204_97, ↓s_204_98, ↓s_204_101, ↓s_204_104, ↓s_204_105, ↓s_204_106, ↓s_204_107, ↓s_204_108, ↓s_204_109, ↓s_204_112, ↓s_204_113, ↓s_204_114, ↓s_204_117, ↓g_204_120, ↓k_204_120, ↓s_204_121, ↓s_204_122, ↓s_204_125, ↓s_204_128n, ↓s_204_128i, ↓s_204_128p, ↓s_204_131, ↓s_204_134, w32c_1000, zar_97, zia_97, zln_97, zit_97, zar_132, zia_132, zln_132, zit_132, zar_133, zia_133, zln_133, zit_133, zio_95]
      refine lbx120 hE hd hv hv3 hvn hn0 hP hJ0 hU (fun c c0 c1 g g1 g2 g3 => ?_) (fun hall => absurd (fun k hk => Or.inl ?_) hno) (again m rfl) next
      · by_cases hz : zxi b (w32 v) g < zxi b (w32 v) (m 136)
        · exact hL c c0 c1 g g1 hz g3
        · have eq := zrw_eq hn0 hP g1.1 hdig (show zxi b (w32 v) g = zxi b (w32 v) (m 136) by omega)
          refine absurd (fun k hk => ?_) hno
          rw [e109] at hk
          have z := g1.2 k hk
          unfold zmkg at z
          unfold zmk
          rw [e97, e122, ← eq k hk, ← ybin7_ext (x := b 122 0) (eq k hk)]
          refine z.imp id (fun y => ⟨y.1, fun i hi => ?_⟩)
          rw [← eq i (Nat.lt_trans hi hk)]
          exact y.2 i hi
      · rw [e109] at hk
        rw [e97]
        exact hall k hk
    · refine zgk_s hE xmo_204 60 zc_204 ?_
      simp only [ynok_30, ynok_31, w32c_0, w32c_1, w32c_2, w32c_3, w32c_4, w32c_5, w32c_6, w32c_7, w32c_8, w32c_9, w32c_10, w32c_11, w32c_12, w32c_13, w32c_14, w32c_m1, w32c_m2, w32c_118, Int.reduceAdd, Int.reduceSub, Int.reduceMul, yput_s, yput_n, znl_n, znl_0, znl_1, znl_4, ysum_n, ysum_0, ysum_1, ysum_4, true_and, and_true, Nat.reduceAdd, Nat.reduceLeDiff, true_implies, eq_self, true_or, or_true, or_false, false_or, not_true_eq_false, not_false_eq_true, false_implies, implies_true, yset_s, yset_o, yset_d, ne_eq, Nat.reduceEqDiff, Int.reduceToNat, Int.reduceEq, Int.reduceLE, Int.reduceLT, Classical.not_not, Nat.reduceLT, ↓zvk_s, ↓zvk_n, ↓s_204_0, ↓s_204_1, ↓s_204_4, ↓s_204_5n, ↓s_204_5i, ↓s_204_5p, ↓g_204_6, ↓k_204_6, ↓s_204_7, ↓s_204_8, ↓s_204_11, ↓s_204_12, ↓s_204_15, ↓s_204_18, ↓s_204_19, ↓s_204_22, ↓s_204_23, ↓s_204_24, ↓s_204_25, ↓s_204_26, ↓s_204_27, ↓s_204_28, ↓s_204_29, ↓s_204_30, ↓s_204_33, ↓s_204_36, ↓s_204_37, ↓s_204_40, ↓s_204_41, ↓s_204_42, ↓s_204_43, ↓s_204_44, ↓s_204_45, ↓s_204_46, ↓s_204_47n, ↓s_204_47i, ↓s_204_47p, ↓s_204_50, ↓s_204_53, ↓s_204_54, ↓s_204_57, ↓s_204_58, ↓s_204_59, ↓s_204_60, ↓s_204_61n, ↓s_204_61i, ↓s_204_61p, ↓g_204_62, ↓k_204_62, ↓s_204_63, ↓s_204_66, ↓s_204_67n, ↓s_204_67i, ↓s_204_67p, ↓g_204_68, ↓k_204_68, ↓s_204_69, ↓s_204_70, ↓s_204_73, ↓s_204_74, ↓s_204_77, ↓s_204_80, ↓s_204_81, ↓s_204_82, ↓s_204_83, ↓s_204_84, ↓s_204_85, ↓s_204_86n, ↓s_204_86i, ↓s_204_86p, ↓s_204_89, ↓s_204_92, ↓s_204_93, ↓g_204_96, ↓k_204_96, ↓s_204_97, ↓s_204_98, ↓s_204_101, ↓s_204_104, ↓s_204_105, ↓s_204_106, ↓s_204_107, ↓s_204_108, ↓s_204_109, ↓s_204_112, ↓s_204_113, ↓s_204_114, ↓s_204_117, ↓g_204_120, ↓k_204_120, ↓s_204_121, ↓s_204_122, ↓s_204_125, ↓s_204_128n, ↓s_204_128i, ↓s_204_128p, ↓s_204_131, ↓s_204_134, w32c_1000, zar_97, zia_97, zln_97, zit_97, zar_132, zia_132, zln_132, zit_132, zar_133, zia_133, zln_133, zit_133, zio_95]
      refine c_costOf hE (by omega) hG hv hv3 hdm (fun co hco => ?_)
      refine zgk_s hE xmo_204 60 zc_204 ?_
      simp only [ynok_30, ynok_31, w32c_0, w32c_1, w32c_2, w32c_3, w32c_4, w32c_5, w32c_6, w32c_7, w32c_8, w32c_9, w32c_10, w32c_11, w32c_12, w32c_13, w32c_14, w32c_m1, w32c_m2, w32c_118, Int.reduceAdd, Int.reduceSub, Int.reduceMul, yput_s, yput_n, znl_n, znl_0, znl_1, znl_4, ysum_n, ysum_0, ysum_1, ysum_4, true_and, and_true, Nat.reduceAdd, Nat.reduceLeDiff, true_implies, eq_self, true_or, or_true, or_false, false_or, not_true_eq_false, not_false_eq_true, false_implies, implies_true, yset_s, yset_o, yset_d, ne_eq, Nat.reduceEqDiff, Int.reduceToNat, Int.reduceEq, Int.reduceLE, Int.reduceLT, Classical.not_not, Nat.reduceLT, ↓zvk_s, ↓zvk_n, ↓s_204_0, ↓s_204_1, ↓s_204_4, ↓s_204_5n, ↓s_204_5i, ↓s_204_5p, ↓g_204_6, ↓k_204_6, ↓s_204_7, ↓s_204_8, ↓s_204_11, ↓s_204_12, ↓s_204_15, ↓s_204_18, ↓s_204_19, ↓s_204_22, ↓s_204_23, ↓s_204_24, ↓s_204_25, ↓s_204_26, ↓s_204_27, ↓s_204_28, ↓s_204_29, ↓s_204_30, ↓s_204_33, ↓s_204_36, ↓s_204_37, ↓s_204_40, ↓s_204_41, ↓s_204_42, ↓s_204_43, ↓s_204_44, ↓s_204_45, ↓s_204_46, ↓s_204_47n, ↓s_204_47i, ↓s_204_47p, ↓s_204_50, ↓s_204_53, ↓s_204_54, ↓s_204_57, ↓s_204_58, ↓s_204_59, ↓s_204_60, ↓s_204_61n, ↓s_204_61i, ↓s_204_61p, ↓g_204_62, ↓k_204_62, ↓s_204_63, ↓s_204_66, ↓s_204_67n, ↓s_204_67i, ↓s_204_67p, ↓g_204_68, ↓k_204_68, ↓s_204_69, ↓s_204_70, ↓s_204_73, ↓s_204_74, ↓s_204_77, ↓s_204_80, ↓s_204_81, ↓s_204_82, ↓s_204_83, ↓s_204_84, ↓s_204_85, ↓s_204_86n, ↓s_204_86i, ↓s_204_86p, ↓s_204_89, ↓s_204_92, ↓s_204_93, ↓g_204_96, ↓k_204_96, ↓s_204_97, ↓s_204_98, ↓s_204_101, ↓s_204_104, ↓s_204_105, ↓s_204_106, ↓s_204_107, ↓s_204_108, ↓s_204_109, ↓s_204_112, ↓s_204_113, ↓s_204_114, ↓s_204_117, ↓g_204_120, ↓k_204_120, ↓s_204_121, ↓s_204_122, ↓s_204_125, ↓s_204_128n, ↓s_204_128i, ↓s_204_128p, ↓s_204_131, ↓s_204_134, w32c_1000, zar_97, zia_97, zln_97, zit_97, zar_132, zia_132, zln_132, zit_132, zar_133, zia_133, zln_133, zit_133, zio_95]
      refine c_gainOf hE (by omega) hG hv hv3 hdm (fun ga hga => ?_)
      refine zgk_s hE xmo_204 60 zc_204 ?_
      simp only [ynok_30, ynok_31, w32c_0, w32c_1, w32c_2, w32c_3, w32c_4, w32c_5, w32c_6, w32c_7, w32c_8, w32c_9, w32c_10, w32c_11, w32c_12, w32c_13, w32c_14, w32c_m1, w32c_m2, w32c_118, Int.reduceAdd, Int.reduceSub, Int.reduceMul, yput_s, yput_n, znl_n, znl_0, znl_1, znl_4, ysum_n, ysum_0, ysum_1, ysum_4, true_and, and_true, Nat.reduceAdd, Nat.reduceLeDiff, true_implies, eq_self, true_or, or_true, or_false, false_or, not_true_eq_false, not_false_eq_true, false_implies, implies_true, yset_s, yset_o, yset_d, ne_eq, Nat.reduceEqDiff, Int.reduceToNat, Int.reduceEq, Int.reduceLE, Int.reduceLT, Classical.not_not, Nat.reduceLT, ↓zvk_s, ↓zvk_n, ↓s_204_0, ↓s_204_1, ↓s_204_4, ↓s_204_5n, ↓s_204_5i, ↓s_204_5p, ↓g_204_6, ↓k_204_6, ↓s_204_7, ↓s_204_8, ↓s_204_11, ↓s_204_12, ↓s_204_15, ↓s_204_18, ↓s_204_19, ↓s_204_22, ↓s_204_23, ↓s_204_24, ↓s_204_25, ↓s_204_26, ↓s_204_27, ↓s_204_28, ↓s_204_29, ↓s_204_30, ↓s_204_33, ↓s_204_36, ↓s_204_37, ↓s_204_40, ↓s_204_41, ↓s_204_42, ↓s_204_43, ↓s_204_44, ↓s_204_45, ↓s_204_46, ↓s_204_47n, ↓s_204_47i, ↓s_204_47p, ↓s_204_50, ↓s_204_53, ↓s_204_54, ↓s_204_57, ↓s_204_58, ↓s_204_59, ↓s_204_60, ↓s_204_61n, ↓s_204_61i, ↓s_204_61p, ↓g_204_62, ↓k_204_62, ↓s_204_63, ↓s_204_66, ↓s_204_67n, ↓s_204_67i, ↓s_204_67p, ↓g_204_68, ↓k_204_68, ↓s_204_69, ↓s_204_70, ↓s_204_73, ↓s_204_74, ↓s_204_77, ↓s_204_80, ↓s_204_81, ↓s_204_82, ↓s_204_83, ↓s_204_84, ↓s_204_85, ↓s_204_86n, ↓s_204_86i, ↓s_204_86p, ↓s_204_89, ↓s_204_92, ↓s_204_93, ↓g_204_96, ↓k_204_96, ↓s_204_97, ↓s_204_98, ↓s_204_101, ↓s_204_104, ↓s_204_105, ↓s_204_106, ↓s_204_107, ↓s_204_108, ↓s_204_109, ↓s_204_112, ↓s_204_113, ↓s_204_114, ↓s_204_117, ↓g_204_120, ↓k_204_120, ↓s_204_121, ↓s_204_122, ↓s_204_125, ↓s_204_128n, ↓s_204_128i, ↓s_204_128p, ↓s_204_131, ↓s_204_134, w32c_1000, zar_97, zia_97, zln_97, zit_97, zar_132, zia_132, zln_132, zit_132, zar_133, zia_133, zln_133, zit_133, zio_95]
      have bco := zco_b (f := m 134) (g := m 136) (nv := w32 (m 97 1)) (v := (w32 v).toNat) (show (0 : Int) ≤ 999 by decide) (fun j => agA hG 134 j ae_134) (w32 (m 109 (w32 v).toNat)).toNat
      have bga := zco_b (f := m 135) (g := m 136) (nv := w32 (m 97 1)) (v := (w32 v).toNat) (show (0 : Int) ≤ 8 by decide) (fun j => agA hG 135 j ae_135) (w32 (m 109 (w32 v).toNat)).toNat
      rw [← hco] at bco
      rw [← hga] at bga
      rw [e109] at bco bga
      have hco' : w32 co = zcst b (w32 v) (m 136) := by rw [hco, e134, e97, e109]; rfl
      have hga' : w32 ga = zgan b (w32 v) (m 136) := by rw [hga, e135, e97, e109]; rfl
      have hup : ∀ c, 0 ≤ c → c ≤ w32 cr → zbd (w32 v + 1) (m 132) (m 133) c := fun c c0 c1 => hI.2.2.1 (w32 v + 1) (by omega) (by omega) c c0 c1
      refine x_tries hE (by omega) hv hv3 hcr (by omega) (by omega) (by omega) (by omega) (fun j j1 j2 => ?_) (fun m' TX => ?_)
      · have hz := hup ((j : Int) - 1000 * (w32 v + 1)) (by omega) (by omega)
        unfold zbd at hz
        rw [show (1000 * (w32 v + 1) + ((j : Int) - 1000 * (w32 v + 1))).toNat = j by omega] at hz
        omega
      have T := TrQ_of hv TX (by omega)
      have rest : ∀ j : Nat, 1000 * (w32 v + 1) ≤ (j : Int) → m' 132 j = m 132 j ∧ m' 133 j = m 133 j := fun j hj => TX.2.1 j (Or.inr (by omega))
      have hG' : aGok m' := fun i j => by
        by_cases h1 : i = 132
        · subst h1; exact ag_32 (agam_A ae_132)
        · by_cases h2 : i = 133
          · subst h2; exact ag_32 (agam_A ae_133)
          · rw [T.1 i j h1 h2]; exact hG i j
      have hI' : LbI b (w32 cr) (w32 v) m' := LbI_loc (by omega) hI (fun i j h1 h2 _ => T.1 i j h1 h2) hG' rest
      have hU' : zup b (w32 cr) (w32 v) m' := zup_loc (by omega) hvn hU rest
      have e136 : m' 136 = m 136 := funext fun j => T.1 136 j (by decide) (by decide)
      have hlow : ∀ c, w32 co ≤ c → c ≤ w32 cr → (0 ≤ w32 (m 132 (1000 * (w32 v + 1) + c - w32 co).toNat) ∧ w32 (m 132 (1000 * (w32 v + 1) + c - w32 co).toNat) ≤ 24 * (4 - (w32 v + 1))) ∧ 0 ≤ w32 (m 133 (1000 * (w32 v + 1) + c - w32 co).toNat) ∧ w32 (m 133 (1000 * (w32 v + 1) + c - w32 co).toNat) ≤ 3000 * (4 - (w32 v + 1)) := fun c c0 c1 => by
        have hz := hup (c - w32 co) (by omega) (by omega)
        unfold zbd at hz
        rw [← Int.add_sub_assoc] at hz
        exact hz
      have hL' : zlo b (w32 cr) (w32 v) (zxi b (w32 v) (m 136) + 1) m' := fun c c0 c1 g g1 g2 g3 => by
        by_cases hcc : w32 co ≤ c
        · obtain ⟨t1, t2⟩ := TX.2.2 c hcc (by omega)
          by_cases zl : zlx (w32 ga + w32 (m 132 (1000 * (w32 v + 1) + c - w32 co).toNat)) (w32 co + w32 (m 133 (1000 * (w32 v + 1) + c - w32 co).toNat)) (w32 (m 132 (1000 * w32 v + c).toNat)) (w32 (m 133 (1000 * w32 v + c).toNat))
          · obtain ⟨n1, n2⟩ := t1 zl
            by_cases hz : zxi b (w32 v) g < zxi b (w32 v) (m 136)
            · have old := hL c c0 c1 g g1 hz g3
              unfold zdo at old ⊢
              unfold zlx at zl
              have q := rest (1000 * (w32 v + 1) + c - zcst b (w32 v) g).toNat (by omega)
              rw [q.1, q.2, n1, n2]
              omega
            · have eq := zrw_eq hn0 hP g1.1 hdig (show zxi b (w32 v) g = zxi b (w32 v) (m 136) by omega)
              have ec : zcst b (w32 v) g = w32 co := by rw [hco']; exact zco_ext _ eq
              have eg : zgan b (w32 v) g = w32 ga := by rw [hga']; exact zco_ext _ eq
              unfold zdo
              have q := rest (1000 * (w32 v + 1) + c - w32 co).toNat (by omega)
              rw [ec, eg, q.1, q.2, n1, n2]
              exact Or.inr ⟨rfl, Int.le_refl _⟩
          · obtain ⟨n1, n2⟩ := t2 zl
            by_cases hz : zxi b (w32 v) g < zxi b (w32 v) (m 136)
            · exact zdo_loc n1 n2 rest g3 (hL c c0 c1 g g1 hz g3)
            · have eq := zrw_eq hn0 hP g1.1 hdig (show zxi b (w32 v) g = zxi b (w32 v) (m 136) by omega)
              have ec : zcst b (w32 v) g = w32 co := by rw [hco']; exact zco_ext _ eq
              have eg : zgan b (w32 v) g = w32 ga := by rw [hga']; exact zco_ext _ eq
              unfold zdo
              unfold zlx at zl
              have q := rest (1000 * (w32 v + 1) + c - w32 co).toNat (by omega)
              rw [ec, eg, q.1, q.2, n1, n2]
              omega
        · have t := TX.2.1 (1000 * w32 v + c).toNat (Or.inl (by omega))
          by_cases hz : zxi b (w32 v) g < zxi b (w32 v) (m 136)
          · exact zdo_loc t.1 t.2 rest g3 (hL c c0 c1 g g1 hz g3)
          · have eq := zrw_eq hn0 hP g1.1 hdig (show zxi b (w32 v) g = zxi b (w32 v) (m 136) by omega)
            have ec : zcst b (w32 v) g = w32 co := by rw [hco']; exact zco_ext _ eq
            omega
      refine zgk_n hE xmo_204 60 zc_204 ?_
      simp only [ynok_30, ynok_31, w32c_0, w32c_1, w32c_2, w32c_3, w32c_4, w32c_5, w32c_6, w32c_7, w32c_8, w32c_9, w32c_10, w32c_11, w32c_12, w32c_13, w32c_14, w32c_m1, w32c_m2, w32c_118, Int.reduceAdd, Int.reduceSub, Int.reduceMul, yput_s, yput_n, znl_n, znl_0, znl_1, znl_4, ysum_n, ysum_0, ysum_1, ysum_4, true_and, and_true, Nat.reduceAdd, Nat.reduceLeDiff, true_implies, eq_self, true_or, or_true, or_false, false_or, not_true_eq_false, not_false_eq_true, false_implies, implies_true, yset_s, yset_o, yset_d, ne_eq, Nat.reduceEqDiff, Int.reduceToNat, Int.reduceEq, Int.reduceLE, Int.reduceLT, Classical.not_not, Nat.reduceLT, ↓zvk_s, ↓zvk_n, ↓s_204_0, ↓s_204_1, ↓s_204_4, ↓s_204_5n, ↓s_204_5i, ↓s_204_5p, ↓g_204_6, ↓k_204_6, ↓s_204_7, ↓s_204_8, ↓s_204_11, ↓s_204_12, ↓s_204_15, ↓s_204_18, ↓s_204_19, ↓s_204_22, ↓s_204_23, ↓s_204_24, ↓s_204_25, ↓s_204_26, ↓s_204_27, ↓s_204_28, ↓s_204_29, ↓s_204_30, ↓s_204_33, ↓s_204_36, ↓s_204_37, ↓s_204_40, ↓s_204_41, ↓s_204_42, ↓s_204_43, ↓s_204_44, ↓s_204_45, ↓s_204_46, ↓s_204_47n, ↓s_204_47i, ↓s_204_47p, ↓s_204_50, ↓s_204_53, ↓s_204_54, ↓s_204_57, ↓s_204_58, ↓s_204_59, ↓s_204_60, ↓s_204_61n, ↓s_204_61i, ↓s_204_61p, ↓g_204_62, ↓k_204_62, ↓s_204_63, ↓s_204_66, ↓s_204_67n, ↓s_204_67i, ↓s_204_67p, ↓g_204_68, ↓k_204_68, ↓s_204_69, ↓s_204_70, ↓s_204_73, ↓s_204_74, ↓s_204_77, ↓s_204_80, ↓s_204_81, ↓s_204_82, ↓s_204_83, ↓s_204_84, ↓s_204_85, ↓s_204_86n, ↓s_204_86i, ↓s_204_86p, ↓s_204_89, ↓s_204_92, ↓s_204_93, ↓g_204_96, ↓k_204_96, ↓s_204_97, ↓s_204_98, ↓s_204_101, ↓s_204_104, ↓s_204_105, ↓s_204_106, ↓s_204_107, ↓s_204_108, ↓s_204_109, ↓s_204_112, ↓s_204_113, ↓s_204_114, ↓s_204_117, ↓g_204_120, ↓k_204_120, ↓s_204_121, ↓s_204_122, ↓s_204_125, ↓s_204_128n, ↓s_204_128i, ↓s_204_128p, ↓s_204_131, ↓s_204_134, w32c_1000, zar_97, zia_97, zln_97, zit_97, zar_132, zia_132, zln_132, zit_132, zar_133, zia_133, zln_133, zit_133, zio_95]
      refine lbx120 hE hd hv hv3 hvn hn0 hP ⟨hI', fun c c0 c1 => ?_, by rw [e136]; exact hdig⟩ hU' (by rw [e136]; exact hL') (fun hall c c0 c1 => ?_) (again m' e136) next
      · rcases T.2.1 (1000 * w32 v + c).toNat with h | ⟨c', k1, k2, k3, k4, k5⟩
        · rcases hrow c c0 c1 with hz | hz
          · exact Or.inl (by rw [h.1]; exact hz)
          · refine Or.inr ⟨zat_loc hv h.1 h.2 rest hz.1, ?_⟩
            have hz2 := hz.2
            unfold zbd at hz2 ⊢
            rw [h.1, h.2]
            exact hz2
        · have hcc : c' = c := by omega
          subst hcc
          have hl := hlow c' k1 k2
          refine Or.inr ⟨⟨m 136, ⟨hdig, fun k hk => ?_⟩, by rw [← hco']; exact k1, ?_, ?_⟩, ?_⟩
          · have := hyes k (by rw [e109]; exact hk)
            unfold zmk at this
            rw [e97, e122] at this
            exact this
          · rw [← hco', ← hga', (rest (1000 * (w32 v + 1) + c' - w32 co).toNat (by omega)).1]
            exact k4
          · rw [← hco', (rest (1000 * (w32 v + 1) + c' - w32 co).toNat (by omega)).2]
            exact k5
          · unfold zbd
            rw [k4, k5]
            omega
      · rw [e136] at hall
        have z1 : w32 co = 0 := by rw [hco']; exact zco_0 _ hall
        have z2 : w32 ga = 0 := by rw [hga']; exact zco_0 _ hall
        have h3 := T.2.2 c (by omega) c1
        have hl := hlow c (by omega) c1
        omega
theorem lbx62 {E : yE} (hE : yEok E) {d : Nat} (hd : 2 ≤ d) {b : yMem} {Q : Option yV → yMem → Prop} {cr : Int} (hbG : aGok b) (hcr0 : 0 ≤ w32 cr) (hcr : w32 cr ≤ 999) (hQ : ∀ m, LbXI b (w32 cr) (-1) m → Q none m) : ∀ (n : Nat) (v : Int) (r3 : Option yV) (m : yMem), (w32 v + 1).toNat = n → -1 ≤ w32 v → w32 v < w32 (b 97 2) → LbXI b (w32 cr) (w32 v) m → zG E d xm_204 62 [some (1, 95), some (0, cr), some (0, v), r3] [] m Q := by
  have g2 := ag hbG 97 2 ag_97_2
  have g1 := ag hbG 97 1 ag_97_1
  intro n
  induction n with
  | zero =>
    intro v r3 m hn h0 h1 hI
    refine zgo_ok (n := 60) hE xmo_204 (cs := zc_204) ?_
    simp only [ynok_30, ynok_31, w32c_0, w32c_1, w32c_2, w32c_3, w32c_4, w32c_5, w32c_6, w32c_7, w32c_8, w32c_9, w32c_10, w32c_11, w32c_12, w32c_13, w32c_14, w32c_m1, w32c_m2, w32c_118, Int.reduceAdd, Int.reduceSub, Int.reduceMul, yput_s, yput_n, znl_n, znl_0, znl_1, znl_4, ysum_n, ysum_0, ysum_1, ysum_4, true_and, and_true, Nat.reduceAdd, Nat.reduceLeDiff, true_implies, eq_self, true_or, or_true, or_false, false_or, not_true_eq_false, not_false_eq_true, false_implies, implies_true, yset_s, yset_o, yset_d, ne_eq, Nat.reduceEqDiff, Int.reduceToNat, Int.reduceEq, Int.reduceLE, Int.reduceLT, Classical.not_not, Nat.reduceLT, ↓zvk_s, ↓zvk_n, ↓s_204_0, ↓s_204_1, ↓s_204_4, ↓s_204_5n, ↓s_204_5i, ↓s_204_5p, ↓g_204_6, ↓k_204_6, ↓s_204_7, ↓s_204_8, ↓s_204_11, ↓s_204_12, ↓s_204_15, ↓s_204_18, ↓s_204_19, ↓s_204_22, ↓s_204_23, ↓s_204_24, ↓s_204_25, ↓s_204_26, ↓s_204_27, ↓s_204_28, ↓s_204_29, ↓s_204_30, ↓s_204_33, ↓s_204_36, ↓s_204_37, ↓s_204_40, ↓s_204_41, ↓s_204_42, ↓s_204_43, ↓s_204_44, ↓s_204_45, ↓s_204_46, ↓s_204_47n, ↓s_204_47i, ↓s_204_47p, ↓s_204_50, ↓s_204_53, ↓s_204_54, ↓s_204_57, ↓s_204_58, ↓s_204_59, ↓s_204_60, ↓s_204_61n, ↓s_204_61i, ↓s_204_61p, ↓g_204_62, ↓k_204_62, ↓s_204_63, ↓s_204_66, ↓s_204_67n, ↓s_204_67i, ↓s_204_67p, ↓g_204_68, ↓k_204_68, ↓s_204_69, ↓s_204_70, ↓s_204_73, ↓s_204_74, ↓s_204_77, ↓s_204_80, ↓s_204_81, ↓s_204_82, ↓s_204_83, ↓s_204_84, ↓s_204_85, ↓s_204_86n, ↓s_204_86i, ↓s_204_86p, ↓s_204_89, ↓s_204_92, ↓s_204_93, ↓g_204_96, ↓k_204_96, ↓s_204_97, ↓s_204_98, ↓s_204_101, ↓s_204_104, ↓s_204_105, ↓s_204_106, ↓s_204_107, ↓s_204_108, ↓s_204_109, ↓s_204_112, ↓s_204_113, ↓s_204_114, ↓s_204_117, ↓g_204_120, ↓k_204_120, ↓s_204_121, ↓s_204_122, ↓s_204_125, ↓s_204_128n, ↓s_204_128i, ↓s_204_128p, ↓s_204_131, ↓s_204_134, w32c_1000, zar_97, zia_97, zln_97, zit_97, zar_132, zia_132, zln_132, zit_132, zar_133, zia_133, zln_133, zit_133, zio_95]
    rw [show w32 v = -1 by omega] at hI
    exact ⟨fun _ => hQ m hI, fun h => absurd (show w32 v < 0 by omega) h⟩
  | succ n ih =>
    intro v r3 m hn h0 h1 hIX
    obtain ⟨hI, hU⟩ := hIX
    have e1 : w32 (v + -1) = w32 v - 1 := by rw [w32_ad (by rw [w32c_m1]; omega) (by rw [w32c_m1]; omega), w32c_m1]; omega
    have g109 := agA hbG 109 (w32 v).toNat ae_109
    refine zgo_ok (n := 60) hE xmo_204 (cs := zc_204) ?_
    simp only [ynok_30, ynok_31, w32c_0, w32c_1, w32c_2, w32c_3, w32c_4, w32c_5, w32c_6, w32c_7, w32c_8, w32c_9, w32c_10, w32c_11, w32c_12, w32c_13, w32c_14, w32c_m1, w32c_m2, w32c_118, Int.reduceAdd, Int.reduceSub, Int.reduceMul, yput_s, yput_n, znl_n, znl_0, znl_1, znl_4, ysum_n, ysum_0, ysum_1, ysum_4, true_and, and_true, Nat.reduceAdd, Nat.reduceLeDiff, true_implies, eq_self, true_or, or_true, or_false, false_or, not_true_eq_false, not_false_eq_true, false_implies, implies_true, yset_s, yset_o, yset_d, ne_eq, Nat.reduceEqDiff, Int.reduceToNat, Int.reduceEq, Int.reduceLE, Int.reduceLT, Classical.not_not, Nat.reduceLT, ↓zvk_s, ↓zvk_n, ↓s_204_0, ↓s_204_1, ↓s_204_4, ↓s_204_5n, ↓s_204_5i, ↓s_204_5p, ↓g_204_6, ↓k_204_6, ↓s_204_7, ↓s_204_8, ↓s_204_11, ↓s_204_12, ↓s_204_15, ↓s_204_18, ↓s_204_19, ↓s_204_22, ↓s_204_23, ↓s_204_24, ↓s_204_25, ↓s_204_26, ↓s_204_27, ↓s_204_28, ↓s_204_29, ↓s_204_30, ↓s_204_33, ↓s_204_36, ↓s_204_37, ↓s_204_40, ↓s_204_41, ↓s_204_42, ↓s_204_43, ↓s_204_44, ↓s_204_45, ↓s_204_46, ↓s_204_47n, ↓s_204_47i, ↓s_204_47p, ↓s_204_50, ↓s_204_53, ↓s_204_54, ↓s_204_57, ↓s_204_58, ↓s_204_59, ↓s_204_60, ↓s_204_61n, ↓s_204_61i, ↓s_204_61p, ↓g_204_62, ↓k_204_62, ↓s_204_63, ↓s_204_66, ↓s_204_67n, ↓s_204_67i, ↓s_204_67p, ↓g_204_68, ↓k_204_68, ↓s_204_69, ↓s_204_70, ↓s_204_73, ↓s_204_74, ↓s_204_77, ↓s_204_80, ↓s_204_81, ↓s_204_82, ↓s_204_83, ↓s_204_84, ↓s_204_85, ↓s_204_86n, ↓s_204_86i, ↓s_204_86p, ↓s_204_89, ↓s_204_92, ↓s_204_93, ↓g_204_96, ↓k_204_96, ↓s_204_97, ↓s_204_98, ↓s_204_101, ↓s_204_104, ↓s_204_105, ↓s_204_106, ↓s_204_107, ↓s_204_108, ↓s_204_109, ↓s_204_112, ↓s_204_113, ↓s_204_114, ↓s_204_117, ↓g_204_120, ↓k_204_120, ↓s_204_121, ↓s_204_122, ↓s_204_125, ↓s_204_128n, ↓s_204_128i, ↓s_204_128p, ↓s_204_131, ↓s_204_134, w32c_1000, zar_97, zia_97, zln_97, zit_97, zar_132, zia_132, zln_132, zit_132, zar_133, zia_133, zln_133, zit_133, zio_95]
    refine ⟨fun h => absurd h (by omega), fun _ => lb68 hE (by omega) (m1 := m) (by omega) (by omega) hcr0 hcr (fun m' c hF h136 h132 => ?_) _ _ m rfl (by decide) (by rw [w32c_0]; omega) (fun _ _ _ => rfl) (fun j => by rw [w32c_0, if_neg (by omega)])⟩
    have hG := hI.2.1
    have hG' : aGok m' := fun i j => by
      by_cases h1 : i = 132
      · subst h1; exact ag_32 (agam_A ae_132)
      · by_cases h2 : i = 136
        · subst h2
          rw [h136]
          split
          · rw [agam_A ae_136]; decide
          · exact hG 136 j
        · rw [hF i j h1 h2]; exact hG i j
    have hi : ∀ j : Nat, 1000 * (w32 v + 1) ≤ (j : Int) → m' 132 j = m 132 j ∧ m' 133 j = m 133 j := fun j hj => ⟨by rw [h132, if_neg (by omega)], hF 133 j (by decide) (by decide)⟩
    have zz : zxi b (w32 v) (m' 136) = 0 := by
      have : ∀ k : Nat, k ≤ 3 → zix (m' 136) (w32 (b 97 1) + 1) k = 0 := by
        intro k hk
        induction k with
        | zero => rfl
        | succ k ihk =>
          show zix (m' 136) (w32 (b 97 1) + 1) k * (w32 (b 97 1) + 1) + w32 (m' 136 k) = 0
          rw [ihk (by omega), h136, if_pos (by omega), w32c_0]
          omega
      exact this _ (by show (w32 (b 109 (w32 v).toNat)).toNat ≤ 3; omega)
    have hP3 : zPn b (w32 v) ≤ 3 := by
      show (w32 (b 109 (w32 v).toNat)).toNat ≤ 3
      omega
    refine lbx96 hE hd (by omega) (by omega) h1 (by omega) hP3 hcr (fun g hg => (zix_lt (b := w32 (b 97 1) + 1) (by omega) _ (fun j hj => ⟨(hg j (by omega)).1, by have := (hg j (by omega)).2; omega⟩)).2) (fun m2 hI2 => ih (v + -1) _ m2 (by omega) (by omega) (by omega) (by rw [e1]; exact hI2)) _ m' rfl ⟨⟨LbI_loc h0 hI (fun i j a1 _ a3 => hF i j a1 a3) hG' hi, fun c c0 c1 => Or.inl ?_, fun j hj => ?_⟩, zup_loc (by omega) h1 hU hi, fun c c0 c1 g g1 g2 => ?_⟩
    · rw [h132, if_pos (by omega)]
      decide
    · rw [h136, if_pos hj, w32c_0]
      omega
    · rw [zz] at g2
      have : 0 ≤ zxi b (w32 v) g := (zix_lt (f := g) (b := w32 (b 97 1) + 1) (by omega) (zPn b (w32 v)) (fun j hj => by have := g1.1 j (Nat.lt_of_lt_of_le hj hP3); omega)).1
      exact absurd g2 (by omega)
theorem lbx6 {E : yE} (hE : yEok E) {d : Nat} (hd : 2 ≤ d) {b : yMem} {Q : Option yV → yMem → Prop} {cr : Int} (hbG : aGok b) (hcr0 : 0 ≤ w32 cr) (hcr : w32 cr ≤ 999) (hQ : ∀ m, LbXI b (w32 cr) (-1) m → Q none m) {r3 : Option yV} : ∀ (n : Nat) (c : Int) (m : yMem), (w32 cr + 1 - w32 c).toNat = n → 0 ≤ w32 c → w32 c ≤ w32 cr + 1 → (∀ i j, i ≠ 132 → i ≠ 133 → m i j = b i j) → (∀ j : Nat, 1000 * w32 (b 97 2) ≤ (j : Int) → (j : Int) < 1000 * w32 (b 97 2) + w32 c → w32 (m 132 j) = 0 ∧ w32 (m 133 j) = 0) → zG E d xm_204 6 [some (1, 95), some (0, cr), some (0, c), r3] [] m Q := by
  have g2 := ag hbG 97 2 ag_97_2
  intro n
  induction n with
  | zero =>
    intro c m hn h0 h1 hF hM
    have e97 : m 97 2 = b 97 2 := hF 97 2 (by decide) (by decide)
    have es : w32 (b 97 2 - 1) = w32 (b 97 2) - 1 := by rw [w32_sb (by rw [w32c_1]; omega) (by rw [w32c_1]; omega), w32c_1]
    refine zgo_ok (n := 60) hE xmo_204 (cs := zc_204) ?_
    simp only [ynok_30, ynok_31, w32c_0, w32c_1, w32c_2, w32c_3, w32c_4, w32c_5, w32c_6, w32c_7, w32c_8, w32c_9, w32c_10, w32c_11, w32c_12, w32c_13, w32c_14, w32c_m1, w32c_m2, w32c_118, Int.reduceAdd, Int.reduceSub, Int.reduceMul, yput_s, yput_n, znl_n, znl_0, znl_1, znl_4, ysum_n, ysum_0, ysum_1, ysum_4, true_and, and_true, Nat.reduceAdd, Nat.reduceLeDiff, true_implies, eq_self, true_or, or_true, or_false, false_or, not_true_eq_false, not_false_eq_true, false_implies, implies_true, yset_s, yset_o, yset_d, ne_eq, Nat.reduceEqDiff, Int.reduceToNat, Int.reduceEq, Int.reduceLE, Int.reduceLT, Classical.not_not, Nat.reduceLT, ↓zvk_s, ↓zvk_n, ↓s_204_0, ↓s_204_1, ↓s_204_4, ↓s_204_5n, ↓s_204_5i, ↓s_204_5p, ↓g_204_6, ↓k_204_6, ↓s_204_7, ↓s_204_8, ↓s_204_11, ↓s_204_12, ↓s_204_15, ↓s_204_18, ↓s_204_19, ↓s_204_22, ↓s_204_23, ↓s_204_24, ↓s_204_25, ↓s_204_26, ↓s_204_27, ↓s_204_28, ↓s_204_29, ↓s_204_30, ↓s_204_33, ↓s_204_36, ↓s_204_37, ↓s_204_40, ↓s_204_41, ↓s_204_42, ↓s_204_43, ↓s_204_44, ↓s_204_45, ↓s_204_46, ↓s_204_47n, ↓s_204_47i, ↓s_204_47p, ↓s_204_50, ↓s_204_53, ↓s_204_54, ↓s_204_57, ↓s_204_58, ↓s_204_59, ↓s_204_60, ↓s_204_61n, ↓s_204_61i, ↓s_204_61p, ↓g_204_62, ↓k_204_62, ↓s_204_63, ↓s_204_66, ↓s_204_67n, ↓s_204_67i, ↓s_204_67p, ↓g_204_68, ↓k_204_68, ↓s_204_69, ↓s_204_70, ↓s_204_73, ↓s_204_74, ↓s_204_77, ↓s_204_80, ↓s_204_81, ↓s_204_82, ↓s_204_83, ↓s_204_84, ↓s_204_85, ↓s_204_86n, ↓s_204_86i, ↓s_204_86p, ↓s_204_89, ↓s_204_92, ↓s_204_93, ↓g_204_96, ↓k_204_96, ↓s_204_97, ↓s_204_98, ↓s_204_101, ↓s_204_104, ↓s_204_105, ↓s_204_106, ↓s_204_107, ↓s_204_108, ↓s_204_109, ↓s_204_112, ↓s_204_113, ↓s_204_114, ↓s_204_117, ↓g_204_120, ↓k_204_120, ↓s_204_121, ↓s_204_122, ↓s_204_125, ↓s_204_128n, ↓s_204_128i, ↓s_204_128p, ↓s_204_131, ↓s_204_134, w32c_1000, zar_97, zia_97, zln_97, zit_97, zar_132, zia_132, zln_132, zit_132, zar_133, zia_133, zln_133, zit_133, zio_95]
    rw [e97]
    refine ⟨fun _ => ⟨by omega, lbx62 hE hd hbG hcr0 hcr hQ _ _ _ m rfl (by omega) (by omega) ⟨⟨fun i j a1 a2 _ => hF i j a1 a2, fun i j => ?_, fun u h3 h4 c' c0 c1 => ?_, fun u h3 h4 c' c0 c1 => ?_⟩, fun u h3 h4 => ?_, fun c' c0 c1 => ?_⟩⟩, fun h => absurd (show w32 cr < w32 c by omega) h⟩
    · by_cases h1 : i = 132
      · subst h1; exact ag_32 (agam_A ae_132)
      · by_cases h2 : i = 133
        · subst h2; exact ag_32 (agam_A ae_133)
        · rw [hF i j h1 h2]; exact hbG i j
    · have hu : u = w32 (b 97 2) := by omega
      subst hu
      have := hM (1000 * w32 (b 97 2) + c').toNat (by omega) (by omega)
      unfold zbd
      omega
    · omega
    · omega
    · exact hM (1000 * w32 (b 97 2) + c').toNat (by omega) (by omega)
  | succ n ih =>
    intro c m hn h0 h1 hF hM
    have e97 : m 97 2 = b 97 2 := hF 97 2 (by decide) (by decide)
    have ev : w32 (1000 * b 97 2) = 1000 * w32 (b 97 2) := w32_k (by decide) (by omega) (by omega)
    have e1 : w32 (c + 1) = w32 c + 1 := by rw [w32_ad (by rw [w32c_1]; omega) (by rw [w32c_1]; omega), w32c_1]
    have ej : w32 (1000 * b 97 2 + c) = 1000 * w32 (b 97 2) + w32 c := by rw [w32_ad (by rw [ev]; omega) (by rw [ev]; omega), ev]
    refine zgo_ok (n := 60) hE xmo_204 (cs := zc_204) ?_
    simp only [ynok_30, ynok_31, w32c_0, w32c_1, w32c_2, w32c_3, w32c_4, w32c_5, w32c_6, w32c_7, w32c_8, w32c_9, w32c_10, w32c_11, w32c_12, w32c_13, w32c_14, w32c_m1, w32c_m2, w32c_118, Int.reduceAdd, Int.reduceSub, Int.reduceMul, yput_s, yput_n, znl_n, znl_0, znl_1, znl_4, ysum_n, ysum_0, ysum_1, ysum_4, true_and, and_true, Nat.reduceAdd, Nat.reduceLeDiff, true_implies, eq_self, true_or, or_true, or_false, false_or, not_true_eq_false, not_false_eq_true, false_implies, implies_true, yset_s, yset_o, yset_d, ne_eq, Nat.reduceEqDiff, Int.reduceToNat, Int.reduceEq, Int.reduceLE, Int.reduceLT, Classical.not_not, Nat.reduceLT, ↓zvk_s, ↓zvk_n, ↓s_204_0, ↓s_204_1, ↓s_204_4, ↓s_204_5n, ↓s_204_5i, ↓s_204_5p, ↓g_204_6, ↓k_204_6, ↓s_204_7, ↓s_204_8, ↓s_204_11, ↓s_204_12, ↓s_204_15, ↓s_204_18, ↓s_204_19, ↓s_204_22, ↓s_204_23, ↓s_204_24, ↓s_204_25, ↓s_204_26, ↓s_204_27, ↓s_204_28, ↓s_204_29, ↓s_204_30, ↓s_204_33, ↓s_204_36, ↓s_204_37, ↓s_204_40, ↓s_204_41, ↓s_204_42, ↓s_204_43, ↓s_204_44, ↓s_204_45, ↓s_204_46, ↓s_204_47n, ↓s_204_47i, ↓s_204_47p, ↓s_204_50, ↓s_204_53, ↓s_204_54, ↓s_204_57, ↓s_204_58, ↓s_204_59, ↓s_204_60, ↓s_204_61n, ↓s_204_61i, ↓s_204_61p, ↓g_204_62, ↓k_204_62, ↓s_204_63, ↓s_204_66, ↓s_204_67n, ↓s_204_67i, ↓s_204_67p, ↓g_204_68, ↓k_204_68, ↓s_204_69, ↓s_204_70, ↓s_204_73, ↓s_204_74, ↓s_204_77, ↓s_204_80, ↓s_204_81, ↓s_204_82, ↓s_204_83, ↓s_204_84, ↓s_204_85, ↓s_204_86n, ↓s_204_86i, ↓s_204_86p, ↓s_204_89, ↓s_204_92, ↓s_204_93, ↓g_204_96, ↓k_204_96, ↓s_204_97, ↓s_204_98, ↓s_204_101, ↓s_204_104, ↓s_204_105, ↓s_204_106, ↓s_204_107, ↓s_204_108, ↓s_204_109, ↓s_204_112, ↓s_204_113, ↓s_204_114, ↓s_204_117, ↓g_204_120, ↓k_204_120, ↓s_204_121, ↓s_204_122, ↓s_204_125, ↓s_204_128n, ↓s_204_128i, ↓s_204_128p, ↓s_204_131, ↓s_204_134, w32c_1000, zar_97, zia_97, zln_97, zit_97, zar_132, zia_132, zln_132, zit_132, zar_133, zia_133, zln_133, zit_133, zio_95]
    rw [e97]
    refine ⟨fun h => absurd h (by omega), fun _ => ⟨by omega, ⟨by omega, by omega⟩, by omega, ⟨by omega, by omega⟩, ih (c + 1) _ (by omega) (by omega) (by omega) (fun i j a1 a2 => by rw [yset_o a2, yset_o a1]; exact hF i j a1 a2) (fun j j1 j2 => ?_)⟩⟩
    by_cases hj : j = (w32 (1000 * b 97 2 + c)).toNat
    · rw [yset_o (by decide), hj, yset_s, yset_s]
      exact ⟨by decide, by decide⟩
    · rw [yset_o (by decide), yset_d hj, yset_d hj, yset_o (by decide)]
      exact hM j j1 (by omega)
end
section
/-! BEST, the reference's side: what layBest lays is the best -/
theorem zix_dg {f : Nat → Int} {nb : Nat} (hb : 0 < nb) : ∀ P, (∀ j, j < P → 0 ≤ w32 (f j) ∧ w32 (f j) < (nb : Int)) → ∃ w : Nat, zix f (nb : Int) P = (w : Int) ∧ w < nb ^ P ∧ ∀ q, q < P → bDg nb P w q = (w32 (f q)).toNat
  | 0, _ => ⟨0, rfl, by rw [Nat.pow_zero]; exact Nat.one_pos, fun q hq => absurd hq (Nat.not_lt_zero _)⟩
  | P + 1, h => by
    obtain ⟨w, h1, h2, h3⟩ := zix_dg hb P (fun j hj => h j (by omega))
    obtain ⟨d0, d1⟩ := h P (Nat.lt_succ_self P)
    refine ⟨w * nb + (w32 (f P)).toNat, ?_, ?_, fun q hq => ?_⟩
    · show zix f (nb : Int) P * (nb : Int) + w32 (f P) = _
      rw [h1, Int.natCast_add, Int.natCast_mul]
      omega
    · have : (w + 1) * nb ≤ nb ^ P * nb := Nat.mul_le_mul_right nb h2
      rw [Nat.add_mul, Nat.one_mul] at this
      rw [Nat.pow_succ]
      omega
    · unfold bDg
      by_cases e : q = P
      · subst e
        rw [show q + 1 - 1 - q = 0 by omega, Nat.pow_zero, Nat.div_one, Nat.add_comm, Nat.add_mul_mod_self_right, Nat.mod_eq_of_lt (by omega)]
      · have := h3 q (by omega)
        unfold bDg at this
        rw [show P + 1 - 1 - q = (P - 1 - q) + 1 by omega, Nat.pow_succ, Nat.mul_comm (nb ^ (P - 1 - q)) nb, ← Nat.div_div_eq_div_mul, Nat.add_comm (w * nb), Nat.add_mul_div_right _ _ hb, Nat.div_eq_of_lt (show (w32 (f P)).toNat < nb by omega), Nat.zero_add]
        exact this
/-- a row as a number says the same -/
def rwE (D : dDc) (e w : Nat) (g : Nat → Int) : Prop := ∀ q, q < sPs D e → w32 (g q) = ((bDg (bNb D) (sPs D e) w q : Nat) : Int)
section RB
variable {D : dDc} {X wk : Int} {m b mem : yMem} {e w : Nat} {g : Nat → Int}
theorem rwE_ok (hX : w32 (b 122 0) = X) (h0 : 0 ≤ X) (h1 : X < 64) (hn : w32 (b 97 1) = (D.2.1.length : Int)) (hn6 : D.2.1.length ≤ 6) (hg : rwE D e w g) : (∀ k, k < sPs D e → zmkg (b 122 0) (b 97 1) g k) ↔ bOk D X e w := by
  have c1 : ∀ q : Nat, ((q : Nat) : Int) = 1 ↔ q = 1 := fun q => by omega
  have key : ∀ k, k < sPs D e → (zmkg (b 122 0) (b 97 1) g k ↔ (bDg (bNb D) (sPs D e) w k < D.2.1.length → ¬ uCk X (bDg (bNb D) (sPs D e) w k) ∧ ∀ r, r < k → ¬ bDg (bNb D) (sPs D e) w r = bDg (bNb D) (sPs D e) w k)) := fun k hk => by
    have gk := hg k hk
    have lk : bDg (bNb D) (sPs D e) w k < D.2.1.length + 1 := bDg_lt (Nat.succ_pos _)
    unfold zmkg
    constructor
    · intro h z
      rcases h with h | ⟨h, h'⟩
      · omega
      · have t := uCk_t hX h0 h1 gk (show bDg (bNb D) (sPs D e) w k < 6 by omega)
        rw [t] at h
        exact ⟨fun c => h ((c1 _).mpr c), fun r hr y => h' r hr (by rw [hg r (Nat.lt_trans hr hk), gk, y])⟩
    · intro h
      by_cases z : bDg (bNb D) (sPs D e) w k < D.2.1.length
      · obtain ⟨a1, a2⟩ := h z
        have t := uCk_t hX h0 h1 gk (show bDg (bNb D) (sPs D e) w k < 6 by omega)
        rw [t]
        refine Or.inr ⟨fun y => a1 ((c1 _).mp y), fun i hi y => a2 i hi ?_⟩
        rw [hg i (Nat.lt_trans hi hk), gk] at y
        omega
      · exact Or.inl (by omega)
  exact ⟨fun h q hq => (key q hq).mp (h q hq), fun h k hk => (key k hk).mpr (h k hk)⟩
theorem rwE_sm {f : Nat → Int} {F : Nat → Nat → Int} (hn : w32 (b 97 1) = (D.2.1.length : Int)) (hg : rwE D e w g) (hf : ∀ q v, q < sPs D e → v < D.2.1.length → w32 (f (6 * (3 * e + q) + v)) = F q v) : ∀ k, k ≤ sPs D e → zco f g (w32 (b 97 1)) e k = nSm (fun q => if bDg (bNb D) (sPs D e) w q < D.2.1.length then F q (bDg (bNb D) (sPs D e) w q) else 0) k
  | 0, _ => rfl
  | k + 1, h => by
    have gk := hg k (by omega)
    have lk : bDg (bNb D) (sPs D e) w k < D.2.1.length + 1 := bDg_lt (Nat.succ_pos _)
    simp only [zco, nSm]
    rw [rwE_sm hn hg hf k (by omega)]
    by_cases z : bDg (bNb D) (sPs D e) w k < D.2.1.length
    · rw [if_neg (show ¬ w32 (g k) = w32 (b 97 1) by omega), if_pos z, gk, Int.toNat_natCast, hf k _ (by omega) z]
    · rw [if_pos (show w32 (g k) = w32 (b 97 1) by omega), if_neg z]
theorem rw_co (hn : w32 (b 97 1) = (D.2.1.length : Int)) (hP : w32 (b 109 e) = (sPs D e : Int)) (hg : rwE D e w g) (hL : ∀ q v, q < sPs D e → v < D.2.1.length → rlH b D X wk (3 * e + q) v) : zcst b (e : Int) g = bCo D X wk e w ∧ zgan b (e : Int) g = bGa D X e w := by
  unfold zcst zgan bCo bGa
  rw [Int.toNat_natCast, hP, Int.toNat_natCast]
  exact ⟨rwE_sm (F := fun q v => sDu D X wk (3 * e + q) v) hn hg (fun q v h1 h2 => (hL q v h1 h2).1) _ (Nat.le_refl _), rwE_sm (F := fun q v => ((sNo D X (3 * e + q) v : Nat) : Int)) hn hg (fun q v h1 h2 => (hL q v h1 h2).2) _ (Nat.le_refl _)⟩
theorem rw_pv (h : rDl b D) (he : e < D.2.2.1.length) {q : Nat} (hq : q < sPs D e) : uPv D (3 * e + q) := by
  have pl := (rTb_e h he).2
  have a1 : (3 * e + q) / 3 = e := by omega
  have a2 : (3 * e + q) % 3 = q := by omega
  unfold uPv
  rw [a1, a2]
  exact ⟨he, hq⟩
/-- a row that may be laid, as a number -/
theorem rw_of (hX : w32 (b 122 0) = X) (h0 : 0 ≤ X) (h1 : X < 64) (hD : rDl b D) (he : e < D.2.2.1.length) (hr : zrw b (e : Int) g) : ∃ w, w < bNb D ^ sPs D e ∧ rwE D e w g ∧ bOk D X e w := by
  obtain ⟨-, ⟨n2, n2'⟩, -⟩ := rTb_n hD
  obtain ⟨pe, pl⟩ := rTb_e hD he
  obtain ⟨w, w1, w2, w3⟩ := zix_dg (f := g) (nb := bNb D) (Nat.succ_pos _) (sPs D e) (fun q hq => by
    have := hr.1 q (by omega)
    rw [n2] at this
    unfold bNb
    omega)
  have hg : rwE D e w g := fun q hq => by
    have := hr.1 q (by omega)
    rw [w3 q hq]
    omega
  have hr2 := hr.2
  rw [Int.toNat_natCast, pe, Int.toNat_natCast] at hr2
  exact ⟨w, w2, hg, (rwE_ok hX h0 h1 n2 n2' hg).mp hr2⟩
/-- a number, as a row -/
theorem rw_to (hX : w32 (b 122 0) = X) (h0 : 0 ≤ X) (h1 : X < 64) (hD : rDl b D) (he : e < D.2.2.1.length) (hw : bOk D X e w) : rwE D e w (fun q => ((bDg (bNb D) (sPs D e) w q : Nat) : Int)) ∧ zrw b (e : Int) (fun q => ((bDg (bNb D) (sPs D e) w q : Nat) : Int)) := by
  obtain ⟨-, ⟨n2, n2'⟩, -⟩ := rTb_n hD
  obtain ⟨pe, pl⟩ := rTb_e hD he
  have lt : ∀ q, bDg (bNb D) (sPs D e) w q < D.2.1.length + 1 := fun q => bDg_lt (Nat.succ_pos _)
  have hw' : ∀ q, w32 ((bDg (bNb D) (sPs D e) w q : Nat) : Int) = ((bDg (bNb D) (sPs D e) w q : Nat) : Int) := fun q => w32_of (by omega) (by have := lt q; omega)
  have hg : rwE D e w (fun q => ((bDg (bNb D) (sPs D e) w q : Nat) : Int)) := fun q _ => hw' q
  refine ⟨hg, fun q _ => ?_, ?_⟩
  · show 0 ≤ w32 ((bDg (bNb D) (sPs D e) w q : Nat) : Int) ∧ w32 ((bDg (bNb D) (sPs D e) w q : Nat) : Int) ≤ w32 (b 97 1)
    rw [hw' q, n2]
    have := lt q
    omega
  · rw [Int.toNat_natCast, pe, Int.toNat_natCast]
    exact (rwE_ok hX h0 h1 n2 n2' hg).mpr hw
theorem rbB (hk : dOk D) (hD : rDl b D) (hX : w32 (b 122 0) = X) (h0 : 0 ≤ X) (h1 : X < 64) (hL : ∀ p v, uPv D p → v < D.2.1.length → rlH b D X wk p v) {cr : Int} (hI : LbXI b cr (-1) m) : ∀ j, j ≤ D.2.2.1.length → ∀ c, 0 ≤ c → c ≤ cr → bB D X wk j c (w32 (m 132 (1000 * ((D.2.2.1.length - j : Nat) : Int) + c).toNat)) (w32 (m 133 (1000 * ((D.2.2.1.length - j : Nat) : Int) + c).toNat)) := by
  obtain ⟨-, ⟨n2, n2'⟩, ⟨n3, n3'⟩, -⟩ := rTb_n hD
  intro j
  induction j with
  | zero =>
    intro _ c c0 c1
    have z := hI.2.2 c c0 c1
    rw [n3] at z
    rw [Nat.sub_zero, z.1, z.2]
    exact ⟨⟨rfl, rfl⟩, c0, fun n' c' h _ => by
      have h : n' = 0 ∧ c' = 0 := h
      omega⟩
  | succ j ih =>
    intro hj c c0 c1
    have he : D.2.2.1.length - (j + 1) < D.2.2.1.length := by omega
    have ej : ((D.2.2.1.length - j : Nat) : Int) = ((D.2.2.1.length - (j + 1) : Nat) : Int) + 1 := by omega
    have IH := ih (by omega)
    rw [ej] at IH
    generalize hE : D.2.2.1.length - (j + 1) = e at he IH ⊢
    obtain ⟨pe, pl⟩ := rTb_e hD he
    refine bB_st hk hE.symm ?_ (fun w n0 c0' w1 w2 w3 w4 => ?_) (fun b' b0 b1 => ⟨_, _, IH b' b0 (by omega)⟩)
    · obtain ⟨g, hr, hc, k1, k2⟩ := hI.1.2.2.2 (e : Int) (by omega) (by rw [n3]; omega) c c0 c1
      obtain ⟨w, w1, hg, w2⟩ := rw_of hX h0 h1 hD he hr
      obtain ⟨q1, q2⟩ := rw_co (X := X) (wk := wk) n2 pe hg (fun q v a1 a2 => hL _ v (rw_pv hD he a1) a2)
      rw [q1] at hc k1 k2
      rw [q2] at k1
      have nn := bCo_nn (X := X) (wk := wk) (e := e) (w := w) hk
      have B := IH (c - bCo D X wk e w) (by omega) (by omega)
      rw [← Int.add_sub_assoc] at B
      exact ⟨w, _, _, w1, w2, hc, B, k1, k2⟩
    · obtain ⟨hg, hr⟩ := rw_to hX h0 h1 hD he w2
      obtain ⟨q1, q2⟩ := rw_co (X := X) (wk := wk) n2 pe hg (fun q v a1 a2 => hL _ v (rw_pv hD he a1) a2)
      have z := hI.2.1 (e : Int) (by omega) (by rw [n3]; omega) c c0 c1 _ hr (by rw [q1]; exact w3)
      unfold zdo at z
      rw [q1, q2] at z
      have nn := bCo_nn (X := X) (wk := wk) (e := e) (w := w) hk
      have B := IH (c - bCo D X wk e w) (by omega) (by omega)
      rw [← Int.add_sub_assoc] at B
      obtain ⟨u1, u2⟩ := bB_u w4 B
      rw [u1, u2]
      exact z
end RB
theorem yRl_lay : (List.range 72).all (fun j => yRl 134 j && yRl 135 j) = true := by decide +kernel
/-- behind layBest, exactly -/
def rbP (mem b m : yMem) (D : dDc) (X wk cr : Int) : Prop := aGok b ∧ Om b ∧ (∀ i j, i < 95 ∨ (96 ≤ i ∧ i ≤ 129) → b i j = mem i j) ∧ (∀ j, j = 2 ∨ j = 33 ∨ j = 34 ∨ j = 49 ∨ j = 61 → b 95 j = mem 95 j) ∧ (∀ p v, uPv D p → v < D.2.1.length → rlH b D X wk p v) ∧ LbXI b cr (-1) m
theorem r_layBest {E : yE} (hE : yEok E) (hm : yman Om) {D0 : Nat} (hD : 12 ≤ D0) {mem : yMem} {D : dDc} {X wk : Int} {Q : Option yV → yMem → Prop} {cr : Int} (hG : aGok mem) (hO : Om mem) (hcr0 : 0 ≤ w32 cr) (hcr : w32 cr ≤ 999) (hX : w32 (mem 122 0) = X) (h0 : 0 ≤ X) (h1 : X < 64) (hK : w32 (mem 118 0) = wk) (h : rDl mem D) (hk : dOk D) (hQ : ∀ b m, rbP mem b m D X wk (w32 cr) → Q none m) : yCon E D0 xm_204 [(1, 95), (0, cr)] mem Q := by
  obtain ⟨d, rfl⟩ := Nat.exists_eq_add_of_le' hD
  obtain ⟨-, ⟨n2, n2'⟩, -⟩ := rTb_n h
  refine e_204 ?_
  refine zvc_ok hE 60 zc_204 _ _ _ _ _ _ _ xmo_204 ?_
  simp only [ynok_30, ynok_31, w32c_0, w32c_1, w32c_2, w32c_3, w32c_4, w32c_5, w32c_6, w32c_7, w32c_8, w32c_9, w32c_10, w32c_11, w32c_12, w32c_13, w32c_14, w32c_m1, w32c_m2, w32c_118, Int.reduceAdd, Int.reduceSub, Int.reduceMul, yput_s, yput_n, znl_n, znl_0, znl_1, znl_4, ysum_n, ysum_0, ysum_1, ysum_4, true_and, and_true, Nat.reduceAdd, Nat.reduceLeDiff, true_implies, eq_self, true_or, or_true, or_false, false_or, not_true_eq_false, not_false_eq_true, false_implies, implies_true, yset_s, yset_o, yset_d, ne_eq, Nat.reduceEqDiff, Int.reduceToNat, Int.reduceEq, Int.reduceLE, Int.reduceLT, Classical.not_not, Nat.reduceLT, ↓zvk_s, ↓zvk_n, ↓s_204_0, ↓s_204_1, ↓s_204_4, ↓s_204_5n, ↓s_204_5i, ↓s_204_5p, ↓g_204_6, ↓k_204_6, ↓s_204_7, ↓s_204_8, ↓s_204_11, ↓s_204_12, ↓s_204_15, ↓s_204_18, ↓s_204_19, ↓s_204_22, ↓s_204_23, ↓s_204_24, ↓s_204_25, ↓s_204_26, ↓s_204_27, ↓s_204_28, ↓s_204_29, ↓s_204_30, ↓s_204_33, ↓s_204_36, ↓s_204_37, ↓s_204_40, ↓s_204_41, ↓s_204_42, ↓s_204_43, ↓s_204_44, ↓s_204_45, ↓s_204_46, ↓s_204_47n, ↓s_204_47i, ↓s_204_47p, ↓s_204_50, ↓s_204_53, ↓s_204_54, ↓s_204_57, ↓s_204_58, ↓s_204_59, ↓s_204_60, ↓s_204_61n, ↓s_204_61i, ↓s_204_61p, ↓g_204_62, ↓k_204_62, ↓s_204_63, ↓s_204_66, ↓s_204_67n, ↓s_204_67i, ↓s_204_67p, ↓g_204_68, ↓k_204_68, ↓s_204_69, ↓s_204_70, ↓s_204_73, ↓s_204_74, ↓s_204_77, ↓s_204_80, ↓s_204_81, ↓s_204_82, ↓s_204_83, ↓s_204_84, ↓s_204_85, ↓s_204_86n, ↓s_204_86i, ↓s_204_86p, ↓s_204_89, ↓s_204_92, ↓s_204_93, ↓g_204_96, ↓k_204_96, ↓s_204_97, ↓s_204_98, ↓s_204_101, ↓s_204_104, ↓s_204_105, ↓s_204_106, ↓s_204_107, ↓s_204_108, ↓s_204_109, ↓s_204_112, ↓s_204_113, ↓s_204_114, ↓s_204_117, ↓g_204_120, ↓k_204_120, ↓s_204_121, ↓s_204_122, ↓s_204_125, ↓s_204_128n, ↓s_204_128i, ↓s_204_128p, ↓s_204_131, ↓s_204_134, w32c_1000, zar_97, zia_97, zln_97, zit_97, zar_132, zia_132, zln_132, zit_132, zar_133, zia_133, zln_133, zit_133, zio_95]
  refine yCon_mono (yCon_and (P1 := fun r b => r = none ∧ aGok b ∧ Om b ∧ (∀ i j, i < 95 ∨ (96 ≤ i ∧ i ≤ 129) → b i j = mem i j) ∧ (∀ j, j = 2 ∨ j = 33 ∨ j = 34 ∨ j = 49 ∨ j = 61 → b 95 j = mem 95 j)) (P2 := fun _ b => ∀ p v, uPv D p → v < D.2.1.length → rlH b D X wk p v) ?_ ?_) (fun r b hh => ?_)
  · refine abs_layDues yoc_Om hm E hE _ (show 7 ≤ _ by omega) _ rfl _ _ _ ⟨rfl, trivial⟩ hG hO (fun q hq => by cases hq) (fun r b he => ?_)
    obtain ⟨k1, k2, k3, k4, -⟩ := he
    refine ⟨?_, k2, k3, fun i j a1 => k4 i j ?_, fun j hj => k4 95 j (by rcases hj with rfl | rfl | rfl | rfl | rfl <;> rfl)⟩
    · match r, k1 with
      | some y, k1 => exact absurd k1 (fun h => by cases h)
      | none, _ => rfl
    · cases hm : amod (acW abc_layDues) i j with
      | false => rfl
      | true =>
        obtain ⟨q, q1, q2, q3⟩ := amod_ex hm
        rcases a1 with a1 | a1
        · have hall : (acW abc_layDues).all (fun q => Nat.ble 95 q.1) = true := by decide +kernel
          have := List.all_eq_true.mp hall q q1
          rw [q2] at this
          have := Nat.le_of_ble_eq_true this
          omega
        · have hall : (acW abc_layDues).all (fun q => Nat.beq q.1 95 || Nat.ble 130 q.1) = true := by decide +kernel
          have := List.all_eq_true.mp hall q q1
          rw [q2] at this
          simp only [Bool.or_eq_true, Nat.beq_eq, Nat.ble_eq] at this
          omega
  · exact r_lay hE (by omega) hX h0 h1 hK h hk hO.1 (fun m _ g => g)
  obtain ⟨⟨rfl, g1, g2, g3, g4⟩, r2, b2, L2, al, -⟩ := hh
  have L : ∀ p v, uPv D p → v < D.2.1.length → rlH b D X wk p v := fun p v hp hv => by
    have p12 := (uPv_ltr h hp).1
    have y := List.all_eq_true.mp yRl_lay (6 * p + v) (List.mem_range.mpr (by omega))
    simp only [Bool.and_eq_true] at y
    obtain ⟨l1, l2⟩ := L2 p v hp hv
    exact ⟨by rw [al 134 _ y.1]; exact l1, by rw [al 135 _ y.2]; exact l2⟩
  refine zgk_n hE xmo_204 60 zc_204 ?_
  simp only [ynok_30, ynok_31, w32c_0, w32c_1, w32c_2, w32c_3, w32c_4, w32c_5, w32c_6, w32c_7, w32c_8, w32c_9, w32c_10, w32c_11, w32c_12, w32c_13, w32c_14, w32c_m1, w32c_m2, w32c_118, Int.reduceAdd, Int.reduceSub, Int.reduceMul, yput_s, yput_n, znl_n, znl_0, znl_1, znl_4, ysum_n, ysum_0, ysum_1, ysum_4, true_and, and_true, Nat.reduceAdd, Nat.reduceLeDiff, true_implies, eq_self, true_or, or_true, or_false, false_or, not_true_eq_false, not_false_eq_true, false_implies, implies_true, yset_s, yset_o, yset_d, ne_eq, Nat.reduceEqDiff, Int.reduceToNat, Int.reduceEq, Int.reduceLE, Int.reduceLT, Classical.not_not, Nat.reduceLT, ↓zvk_s, ↓zvk_n, ↓s_204_0, ↓s_204_1, ↓s_204_4, ↓s_204_5n, ↓s_204_5i, ↓s_204_5p, ↓g_204_6, ↓k_204_6, ↓s_204_7, ↓s_204_8, ↓s_204_11, ↓s_204_12, ↓s_204_15, ↓s_204_18, ↓s_204_19, ↓s_204_22, ↓s_204_23, ↓s_204_24, ↓s_204_25, ↓s_204_26, ↓s_204_27, ↓s_204_28, ↓s_204_29, ↓s_204_30, ↓s_204_33, ↓s_204_36, ↓s_204_37, ↓s_204_40, ↓s_204_41, ↓s_204_42, ↓s_204_43, ↓s_204_44, ↓s_204_45, ↓s_204_46, ↓s_204_47n, ↓s_204_47i, ↓s_204_47p, ↓s_204_50, ↓s_204_53, ↓s_204_54, ↓s_204_57, ↓s_204_58, ↓s_204_59, ↓s_204_60, ↓s_204_61n, ↓s_204_61i, ↓s_204_61p, ↓g_204_62, ↓k_204_62, ↓s_204_63, ↓s_204_66, ↓s_204_67n, ↓s_204_67i, ↓s_204_67p, ↓g_204_68, ↓k_204_68, ↓s_204_69, ↓s_204_70, ↓s_204_73, ↓s_204_74, ↓s_204_77, ↓s_204_80, ↓s_204_81, ↓s_204_82, ↓s_204_83, ↓s_204_84, ↓s_204_85, ↓s_204_86n, ↓s_204_86i, ↓s_204_86p, ↓s_204_89, ↓s_204_92, ↓s_204_93, ↓g_204_96, ↓k_204_96, ↓s_204_97, ↓s_204_98, ↓s_204_101, ↓s_204_104, ↓s_204_105, ↓s_204_106, ↓s_204_107, ↓s_204_108, ↓s_204_109, ↓s_204_112, ↓s_204_113, ↓s_204_114, ↓s_204_117, ↓g_204_120, ↓k_204_120, ↓s_204_121, ↓s_204_122, ↓s_204_125, ↓s_204_128n, ↓s_204_128i, ↓s_204_128p, ↓s_204_131, ↓s_204_134, w32c_1000, zar_97, zia_97, zln_97, zit_97, zar_132, zia_132, zln_132, zit_132, zar_133, zia_133, zln_133, zit_133, zio_95]
  refine lbx6 hE (by omega) g1 hcr0 hcr (fun m hI => hQ b m ⟨g1, g2, g3, g4, L, hI⟩) _ _ b rfl (by decide) (by rw [w32c_0]; omega) (fun _ _ _ _ => rfl) (fun j j1 j2 => ?_)
  rw [w32c_0] at j2
  omega
end
section
/-! BEST and CHOSEN, pure: what tables of one side say of the other's, row by row -/
theorem top_ex {R : Nat → Int} {b : Int} : ∀ k : Nat, ∃ t, t ≤ k ∧ (t = 0 ∨ R t ≤ b) ∧ ∀ u, t < u → u ≤ k → ¬ R u ≤ b
  | 0 => ⟨0, Nat.le_refl _, Or.inl rfl, fun u h1 h2 => absurd h1 (by omega)⟩
  | k + 1 => by
    by_cases h : R (k + 1) ≤ b
    · exact ⟨k + 1, Nat.le_refl _, Or.inr h, fun u h1 h2 => absurd h1 (by omega)⟩
    · obtain ⟨t, h1, h2, h3⟩ := top_ex (R := R) (b := b) k
      refine ⟨t, by omega, h2, fun u h4 h5 => ?_⟩
      by_cases e : u = k + 1
      · rw [e]; exact h
      · exact h3 u h4 (by omega)
theorem nSm_zz {f : Nat → Int} : ∀ m, (∀ q, q < m → f q = 0) → nSm f m = 0
  | 0, _ => rfl
  | m + 1, h => by
    have ih := nSm_zz (f := f) m (fun q hq => h q (by omega))
    have h0 := h m (Nat.lt_succ_self m)
    simp only [nSm]
    omega
section BQ
variable {D : dDc} {X wk : Int} {j e w v : Nat} {b n c n' c' x : Int}
/-- a row with nobody in it -/
theorem bNo (hn : D.2.1.length ≤ 6) : ∃ w, w < bNb D ^ sPs D e ∧ bOk D X e w ∧ bGa D X e w = 0 ∧ bCo D X wk e w = 0 := by
  have hw : w32 (D.2.1.length : Int) = (D.2.1.length : Int) := w32_of (by omega) (by omega)
  obtain ⟨w, w1, w2, w3⟩ := zix_dg (f := fun _ => (D.2.1.length : Int)) (nb := bNb D) (Nat.succ_pos _) (sPs D e) (fun q hq => by
    show 0 ≤ w32 (D.2.1.length : Int) ∧ w32 (D.2.1.length : Int) < ((bNb D : Nat) : Int)
    rw [hw]
    unfold bNb
    omega)
  have dg : ∀ q, q < sPs D e → ¬ bDg (bNb D) (sPs D e) w q < D.2.1.length := fun q hq => by
    have h2 : bDg (bNb D) (sPs D e) w q = (w32 (D.2.1.length : Int)).toNat := w3 q hq
    rw [h2, hw]
    omega
  have ga : ∀ q, q < sPs D e → bGf D X e w q = 0 := fun q hq => if_neg (dg q hq)
  have co : ∀ q, q < sPs D e → bCf D X wk e w q = 0 := fun q hq => if_neg (dg q hq)
  exact ⟨w, w2, fun q hq hl => absurd hl (dg q hq), nSm_zz (f := bGf D X e w) _ ga, nSm_zz (f := bCf D X wk e w) _ co⟩
theorem bAc_hi {mem : yMem} (h : cDh mem D) (hk : dOk D) : ∀ j n c, j ≤ D.2.2.1.length → bAc D X wk j n c → n ≤ 24 * (j : Int)
  | 0, n, c, _, h0 => by
    have h0 : n = 0 ∧ c = 0 := h0
    omega
  | j + 1, n, c, hj, h0 => by
    obtain ⟨w, _, _, h3⟩ := h0
    have ih := bAc_hi h hk j _ _ (by omega) h3
    have g := bGa_bd (X := X) (w := w) h (show D.2.2.1.length - (j + 1) < D.2.2.1.length by omega)
    omega
theorem bAc_00 (hn : D.2.1.length ≤ 6) : ∀ j, j ≤ D.2.2.1.length → bAc D X wk j 0 0
  | 0, _ => ⟨rfl, rfl⟩
  | j + 1, hj => by
    obtain ⟨w, w1, w2, w3, w4⟩ := bNo (D := D) (X := X) (wk := wk) (e := D.2.2.1.length - (j + 1)) hn
    refine ⟨w, w1, w2, ?_⟩
    rw [w3, w4, Int.sub_self]
    exact bAc_00 hn j (by omega)
/-- the class's table has what is best -/
theorem bB_of (hk : dOk D) (h0 : 0 ≤ b) (hb : b < 1000000) {R : Nat → Int} (hR : ∀ t : Nat, t ≤ 96 → bF D X wk j (t : Int) (R t)) (hhi : ∀ n c, bAc D X wk j n c → n ≤ 96) (h00 : bAc D X wk j 0 0) {t : Nat} (ht : t ≤ 96) (h1 : t = 0 ∨ R t ≤ b) (h2 : ∀ u, t < u → u ≤ 96 → ¬ R u ≤ b) : bB D X wk j b (t : Int) (R t) := by
  have Rt : R t ≤ b := by
    rcases h1 with h1 | h1
    · subst h1
      rcases hR 0 (by omega) with ⟨_, g⟩ | ⟨_, g⟩
      · exact absurd h00 (g 0)
      · have := g 0 h00
        omega
    · exact h1
  have ha : bAc D X wk j (t : Int) (R t) := by
    rcases hR t ht with ⟨g, _⟩ | ⟨g, _⟩
    · omega
    · exact g
  refine ⟨ha, Rt, fun n' c' a' hc' => ?_⟩
  have nn := bAc_nn hk j _ _ a'
  have hi := hhi _ _ a'
  have en : ((n'.toNat : Nat) : Int) = n' := by omega
  have F := hR n'.toNat (by omega)
  rw [en] at F
  have le : R n'.toNat ≤ c' := by
    rcases F with ⟨_, g⟩ | ⟨_, g⟩
    · exact absurd a' (g c')
    · exact g c' a'
  by_cases hlt : t < n'.toNat
  · exact absurd (show R n'.toNat ≤ b by omega) (h2 _ hlt (by omega))
  · by_cases e : n'.toNat = t
    · refine Or.inr ⟨by omega, ?_⟩
      rw [← e]
      exact le
    · exact Or.inl (by omega)
theorem bB_ex (hk : dOk D) (h0 : 0 ≤ b) (hb : b < 1000000) {R : Nat → Int} (hR : ∀ t : Nat, t ≤ 96 → bF D X wk j (t : Int) (R t)) (hhi : ∀ n c, bAc D X wk j n c → n ≤ 96) (h00 : bAc D X wk j 0 0) : ∃ n c, bB D X wk j b n c := by
  obtain ⟨t, h1, h2, h3⟩ := top_ex (R := R) (b := b) 96
  exact ⟨_, _, bB_of hk h0 hb hR hhi h00 h1 h2 h3⟩
/-- a row that comes to what is best, with so many crowns left -/
def bCr (D : dDc) (X wk : Int) (e : Nat) (b : Int) (w : Nat) : Prop := bOk D X e w ∧ bCo D X wk e w ≤ b ∧ ∃ n c n' c', bB D X wk (D.2.2.1.length - e) b n c ∧ bB D X wk (D.2.2.1.length - (e + 1)) (b - bCo D X wk e w) n' c' ∧ bGa D X e w + n' = n ∧ bCo D X wk e w + c' = c
/-- the first of them -/
def bFr (D : dDc) (X wk : Int) (e : Nat) (b : Int) (w : Nat) : Prop := w < bNb D ^ sPs D e ∧ bCr D X wk e b w ∧ ∀ v, v < w → ¬ bCr D X wk e b v
theorem bFr_u (h : bFr D X wk e b w) (h2 : bFr D X wk e b v) : w = v := by
  rcases Nat.lt_trichotomy w v with l | l | l
  · exact absurd h.2.1 (h2.2.2 w l)
  · exact l
  · exact absurd h2.2.1 (h.2.2 v l)
/-- crowns left ahead of a VERSE, of so many -/
def bLe (D : dDc) (X wk : Int) : Nat → Int → Int → Prop
  | 0, b, l => l = b
  | e + 1, b, l => ∃ b' w, bLe D X wk e b b' ∧ bFr D X wk e b' w ∧ l = b' - bCo D X wk e w
theorem bLe_u : ∀ (e : Nat) {l l' : Int}, bLe D X wk e b l → bLe D X wk e b l' → l = l'
  | 0, l, l', h, h2 => by
    have h : l = b := h
    have h2 : l' = b := h2
    omega
  | e + 1, l, l', h, h2 => by
    obtain ⟨b1, w1, a1, a2, a3⟩ := h
    obtain ⟨b2, w2, c1, c2, c3⟩ := h2
    have eb := bLe_u e a1 c1
    subst eb
    have ew := bFr_u a2 c2
    subst ew
    omega
/-- the class's way to say so: crowns for what is left of the notes -/
def bKr (D : dDc) (X wk : Int) (e : Nat) (n c : Int) (R : Nat → Int) (w : Nat) : Prop := bOk D X e w ∧ bGa D X e w ≤ n ∧ bCo D X wk e w + R (n - bGa D X e w).toNat = c
theorem bKr_iff (hk : dOk D) (he : e < D.2.2.1.length) (h0 : 0 ≤ b) (hb : b < 1000000) (hB : bB D X wk (D.2.2.1.length - e) b n c) (hn : n ≤ 96) {R : Nat → Int} (hR : ∀ t : Nat, t ≤ 96 → bF D X wk (D.2.2.1.length - (e + 1)) (t : Int) (R t)) (hhi : ∀ n c, bAc D X wk (D.2.2.1.length - (e + 1)) n c → n ≤ 96) (h00 : bAc D X wk (D.2.2.1.length - (e + 1)) 0 0) (hw : w < bNb D ^ sPs D e) : bCr D X wk e b w ↔ bKr D X wk e n c R w := by
  have ej : D.2.2.1.length - (e + 1) + 1 = D.2.2.1.length - e := by omega
  have ee : e = D.2.2.1.length - (D.2.2.1.length - (e + 1) + 1) := by omega
  have nn := bCo_nn (D := D) (X := X) (wk := wk) (e := e) (w := w) hk
  have gn := bGa_nn (D := D) (X := X) (e := e) (w := w)
  have hB' : bB D X wk (D.2.2.1.length - (e + 1) + 1) b n c := by rw [ej]; exact hB
  have F : bGa D X e w ≤ n → bF D X wk (D.2.2.1.length - (e + 1)) (n - bGa D X e w) (R (n - bGa D X e w).toNat) := fun hg => by
    have := hR (n - bGa D X e w).toNat (by omega)
    rw [show (((n - bGa D X e w).toNat : Nat) : Int) = n - bGa D X e w by omega] at this
    exact this
  constructor
  · rintro ⟨ho, hc, n1, c1, n2, c2, B1, B2, g1, g2⟩
    obtain ⟨e1, e2⟩ := bB_u hB B1
    subst e1
    subst e2
    have := (bCh (x := R (n - bGa D X e w).toNat) hk ee hb hw ho hB' (fun _ => B2) F).mp ⟨hc, g1, g2⟩
    exact ⟨ho, this⟩
  · rintro ⟨ho, hg, hc⟩
    by_cases hcb : bCo D X wk e w ≤ b
    · obtain ⟨n2, c2, B2⟩ := bB_ex (b := b - bCo D X wk e w) hk (by omega) (by omega) hR hhi h00
      obtain ⟨q1, q2, q3⟩ := (bCh (x := R (n - bGa D X e w).toNat) hk ee hb hw ho hB' (fun _ => B2) F).mpr ⟨hg, hc⟩
      exact ⟨ho, q1, n, c, n2, c2, hB, B2, q2, q3⟩
    · obtain ⟨q1, -⟩ := (bCh (n' := 0) (c' := 0) (x := R (n - bGa D X e w).toNat) hk ee hb hw ho hB' (fun z => absurd z hcb) F).mpr ⟨hg, hc⟩
      exact absurd q1 hcb
/-- there is one -/
theorem bKr_ex (hk : dOk D) (he : e < D.2.2.1.length) (hB : bB D X wk (D.2.2.1.length - e) b n c) (hn : n ≤ 96) {R : Nat → Int} (hR : ∀ t : Nat, t ≤ 96 → bF D X wk (D.2.2.1.length - (e + 1)) (t : Int) (R t)) : ∃ w, w < bNb D ^ sPs D e ∧ bKr D X wk e n c R w := by
  have ej : D.2.2.1.length - e = D.2.2.1.length - (e + 1) + 1 := by omega
  have ee : D.2.2.1.length - (D.2.2.1.length - (e + 1) + 1) = e := by omega
  rw [ej] at hB
  obtain ⟨w, w1, w2, w3⟩ := hB.1
  rw [ee] at w1 w2 w3
  have nn := bAc_nn hk _ _ _ w3
  have cn := bCo_nn (D := D) (X := X) (wk := wk) (e := e) (w := w) hk
  have gn := bGa_nn (D := D) (X := X) (e := e) (w := w)
  have F := hR (n - bGa D X e w).toNat (by omega)
  rw [show (((n - bGa D X e w).toNat : Nat) : Int) = n - bGa D X e w by omega] at F
  refine ⟨w, w1, w2, by omega, ?_⟩
  rcases F with ⟨_, g⟩ | ⟨g, g'⟩
  · exact absurd w3 (g _)
  · have le := g' _ w3
    have up : bAc D X wk (D.2.2.1.length - (e + 1) + 1) n (bCo D X wk e w + R (n - bGa D X e w).toNat) := by
      refine ⟨w, by rw [ee]; exact w1, by rw [ee]; exact w2, ?_⟩
      rw [ee, acl]
      exact g
    have cb := hB.2.1
    have := hB.2.2 _ _ up (by omega)
    omega
/-- what BEST and CHOSEN answer -/
def sBst (D : dDc) (X wk c w r : Int) : Prop := if (0 ≤ c ∧ c ≤ 999) ∧ 0 ≤ w ∧ w ≤ 1 then ∃ n p, bB D X wk D.2.2.1.length c n p ∧ r = (if w = 0 then n else p) else r = -1
theorem sBst_u {w r r' : Int} (h : sBst D X wk c w r) (h2 : sBst D X wk c w r') : r = r' := by
  unfold sBst at h h2
  split at h
  · next z =>
    rw [if_pos z] at h2
    obtain ⟨n1, p1, B1, rfl⟩ := h
    obtain ⟨n2, p2, B2, rfl⟩ := h2
    obtain ⟨e1, e2⟩ := bB_u B1 B2
    rw [e1, e2]
  · next z =>
    rw [if_neg z] at h2
    rw [h, h2]
def sChc (D : dDc) (c v p : Int) : Prop := (0 ≤ c ∧ c ≤ 999) ∧ (0 ≤ v ∧ v < (D.2.2.1.length : Int)) ∧ 0 ≤ p ∧ p < (sPs D v.toNat : Int)
def sChs (D : dDc) (X wk c v p r : Int) : Prop := (sChc D c v p → ∃ b w, bLe D X wk v.toNat c b ∧ bFr D X wk v.toNat b w ∧ r = if bDg (bNb D) (sPs D v.toNat) w p.toNat < D.2.1.length then ((bDg (bNb D) (sPs D v.toNat) w p.toNat : Nat) : Int) else -2) ∧ (¬ sChc D c v p → r = -1)
theorem sChs_u {p r r' vv : Int} (h : sChs D X wk c vv p r) (h2 : sChs D X wk c vv p r') : r = r' := by
  by_cases z : sChc D c vv p
  · obtain ⟨b1, w1, a1, a2, rfl⟩ := h.1 z
    obtain ⟨b2, w2, c1, c2, rfl⟩ := h2.1 z
    have eb := bLe_u _ a1 c1
    subst eb
    rw [bFr_u a2 c2]
  · rw [h.2 z, h2.2 z]
end BQ
end
section
def zc_50 : List Nat := [8, 35]
theorem s_50_0 {E : yE} {n d : Nat} {mem : yMem} {Post : Option yV → yMem → Prop} {st : List yV} {r1 r2 r3 r4 r5 r6 : Option yV} {x : Int} : zvc E (n + 1) zc_50 d xm_50 0 [some (1, x), r1, r2, r3, r4, r5, r6] (st) mem Post = (zvc E n zc_50 d xm_50 1 [some (1, x), r1, r2, r3, r4, r5, r6] ((1, x) :: st) mem Post) := zrf rfl
theorem s_50_1 {E : yE} {n d : Nat} {mem : yMem} {Post : Option yV → yMem → Prop} {st : List yV} {r0 r2 r3 r4 r5 r6 : Option yV} {x : Int} : zvc E (n + 1) zc_50 d xm_50 1 [r0, some (0, x), r2, r3, r4, r5, r6] (st) mem Post = (zvc E n zc_50 d xm_50 2 [r0, some (0, x), r2, r3, r4, r5, r6] ((0, x) :: st) mem Post) := zrf rfl
theorem s_50_2 {E : yE} {n d : Nat} {mem : yMem} {Post : Option yV → yMem → Prop} {st : List yV} {r0 r1 r2 r3 r4 r5 r6 : Option yV} {z a0 : Int} : zvc E (n + 1) zc_50 d xm_50 2 [r0, r1, r2, r3, r4, r5, r6] ((0, a0) :: (1, z) :: st) mem Post = (zio z 1 = true ∧ ysum st ≤ 8 ∧ yCon E d xm_55 [(1, z), (0, a0)] mem (fun v mem' => zgk E d xm_50 5 [r0, r1, r2, r3, r4, r5, r6] st v mem' Post)) := zrf rfl
theorem s_50_5n {E : yE} {n d : Nat} {mem : yMem} {Post : Option yV → yMem → Prop} {st : List yV} {r0 r2 r3 r4 r5 r6 : Option yV} {x : Int} : zvc E (n + 1) zc_50 d xm_50 5 [r0, none, r2, r3, r4, r5, r6] ((0, x) :: st) mem Post = (zvc E n zc_50 d xm_50 6 [r0, none, some (0, x), r3, r4, r5, r6] (st) mem Post) := zrf rfl
theorem s_50_5i {E : yE} {n d : Nat} {mem : yMem} {Post : Option yV → yMem → Prop} {st : List yV} {r0 r2 r3 r4 r5 r6 : Option yV} {x w : Int} : zvc E (n + 1) zc_50 d xm_50 5 [r0, some (0, w), r2, r3, r4, r5, r6] ((0, x) :: st) mem Post = (zvc E n zc_50 d xm_50 6 [r0, some (0, w), some (0, x), r3, r4, r5, r6] (st) mem Post) := zrf rfl
theorem s_50_5p {E : yE} {n d : Nat} {mem : yMem} {Post : Option yV → yMem → Prop} {st : List yV} {r0 r2 r3 r4 r5 r6 : Option yV} {x w : Int} : zvc E (n + 1) zc_50 d xm_50 5 [r0, some (1, w), r2, r3, r4, r5, r6] ((0, x) :: st) mem Post = (zvc E n zc_50 d xm_50 6 [r0, some (1, w), some (0, x), r3, r4, r5, r6] (st) mem Post) := zrf rfl
theorem s_50_5j {E : yE} {n d : Nat} {mem : yMem} {Post : Option yV → yMem → Prop} {st : List yV} {r0 r1 r2 r3 r4 r5 r6 : Option yV} {x : Int} : zvc E (n + 1) zc_50 d xm_50 5 [r0, r1, r2, r3, r4, r5, r6] ((0, x) :: st) mem Post = (zvc E n zc_50 d xm_50 6 [r0, znl r1, some (0, x), r3, r4, r5, r6] (st) mem Post) := zrf rfl
theorem s_50_6 {E : yE} {n d : Nat} {mem : yMem} {Post : Option yV → yMem → Prop} {st : List yV} {r0 r1 r2 r3 r4 r5 r6 : Option yV} : zvc E (n + 1) zc_50 d xm_50 6 [r0, r1, r2, r3, r4, r5, r6] (st) mem Post = (zvc E n zc_50 d xm_50 7 [r0, r1, r2, r3, r4, r5, r6] ((0, 0) :: st) mem Post) := zrf rfl
theorem s_50_7n {E : yE} {n d : Nat} {mem : yMem} {Post : Option yV → yMem → Prop} {st : List yV} {r0 r1 r3 r4 r5 r6 : Option yV} {x : Int} : zvc E (n + 1) zc_50 d xm_50 7 [r0, r1, none, r3, r4, r5, r6] ((0, x) :: st) mem Post = (zvc E n zc_50 d xm_50 8 [r0, r1, none, some (0, x), r4, r5, r6] (st) mem Post) := zrf rfl
theorem s_50_7i {E : yE} {n d : Nat} {mem : yMem} {Post : Option yV → yMem → Prop} {st : List yV} {r0 r1 r3 r4 r5 r6 : Option yV} {x w : Int} : zvc E (n + 1) zc_50 d xm_50 7 [r0, r1, some (0, w), r3, r4, r5, r6] ((0, x) :: st) mem Post = (zvc E n zc_50 d xm_50 8 [r0, r1, some (0, w), some (0, x), r4, r5, r6] (st) mem Post) := zrf rfl
theorem s_50_7p {E : yE} {n d : Nat} {mem : yMem} {Post : Option yV → yMem → Prop} {st : List yV} {r0 r1 r3 r4 r5 r6 : Option yV} {x w : Int} : zvc E (n + 1) zc_50 d xm_50 7 [r0, r1, some (1, w), r3, r4, r5, r6] ((0, x) :: st) mem Post = (zvc E n zc_50 d xm_50 8 [r0, r1, some (1, w), some (0, x), r4, r5, r6] (st) mem Post) := zrf rfl
theorem s_50_7j {E : yE} {n d : Nat} {mem : yMem} {Post : Option yV → yMem → Prop} {st : List yV} {r0 r1 r2 r3 r4 r5 r6 : Option yV} {x : Int} : zvc E (n + 1) zc_50 d xm_50 7 [r0, r1, r2, r3, r4, r5, r6] ((0, x) :: st) mem Post = (zvc E n zc_50 d xm_50 8 [r0, r1, znl r2, some (0, x), r4, r5, r6] (st) mem Post) := zrf rfl
theorem g_50_8 {E : yE} {n d : Nat} {mem : yMem} {Post : Option yV → yMem → Prop} {st : List yV} {r0 r1 r2 r4 r5 r6 : Option yV} {x : Int} : zgo E n zc_50 d xm_50 8 [r0, r1, r2, some (0, x), r4, r5, r6] (st) mem Post = (zvc E n zc_50 d xm_50 9 [r0, r1, r2, some (0, x), r4, r5, r6] ((0, x) :: st) mem Post) := zrf rfl
theorem k_50_8 {E : yE} {n d : Nat} {mem : yMem} {Post : Option yV → yMem → Prop} {st : List yV} {rg : zR} : zvc E (n + 1) zc_50 d xm_50 8 rg st mem Post = zG E d xm_50 8 rg st mem Post := zrf rfl
theorem s_50_9 {E : yE} {n d : Nat} {mem : yMem} {Post : Option yV → yMem → Prop} {st : List yV} {r1 r2 r3 r4 r5 r6 : Option yV} {x : Int} : zvc E (n + 1) zc_50 d xm_50 9 [some (1, x), r1, r2, r3, r4, r5, r6] (st) mem Post = (zvc E n zc_50 d xm_50 10 [some (1, x), r1, r2, r3, r4, r5, r6] ((1, x) :: st) mem Post) := zrf rfl
theorem s_50_10 {E : yE} {n d : Nat} {mem : yMem} {Post : Option yV → yMem → Prop} {st : List yV} {r0 r1 r2 r3 r4 r5 r6 : Option yV} : zvc E (n + 1) zc_50 d xm_50 10 [r0, r1, r2, r3, r4, r5, r6] ((1, 76) :: st) mem Post = (zvc E n zc_50 d xm_50 13 [r0, r1, r2, r3, r4, r5, r6] ((1, 2) :: st) mem Post) := zrf rfl
theorem s_50_13_2 {E : yE} {n d : Nat} {mem : yMem} {Post : Option yV → yMem → Prop} {st : List yV} {r0 r1 r2 r3 r4 r5 r6 : Option yV} : zvc E (n + 1) zc_50 d xm_50 13 [r0, r1, r2, r3, r4, r5, r6] ((1, 2) :: st) mem Post = (zvc E n zc_50 d xm_50 16 [r0, r1, r2, r3, r4, r5, r6] ((1, 7) :: st) mem Post) := zrf rfl
theorem s_50_13_28 {E : yE} {n d : Nat} {mem : yMem} {Post : Option yV → yMem → Prop} {st : List yV} {r0 r1 r2 r3 r4 r5 r6 : Option yV} : zvc E (n + 1) zc_50 d xm_50 13 [r0, r1, r2, r3, r4, r5, r6] ((1, 28) :: st) mem Post = (zvc E n zc_50 d xm_50 16 [r0, r1, r2, r3, r4, r5, r6] ((1, 33) :: st) mem Post) := zrf rfl
theorem s_50_16_3 {E : yE} {n d : Nat} {mem : yMem} {Post : Option yV → yMem → Prop} {st : List yV} {r0 r1 r2 r3 r4 r5 r6 : Option yV} : zvc E (n + 1) zc_50 d xm_50 16 [r0, r1, r2, r3, r4, r5, r6] ((1, 3) :: st) mem Post = (zvc E n zc_50 d xm_50 19 [r0, r1, r2, r3, r4, r5, r6] ((0, mem 3 1) :: st) mem Post) := zrf rfl
theorem s_50_16_5 {E : yE} {n d : Nat} {mem : yMem} {Post : Option yV → yMem → Prop} {st : List yV} {r0 r1 r2 r3 r4 r5 r6 : Option yV} : zvc E (n + 1) zc_50 d xm_50 16 [r0, r1, r2, r3, r4, r5, r6] ((1, 5) :: st) mem Post = (zvc E n zc_50 d xm_50 19 [r0, r1, r2, r3, r4, r5, r6] ((0, mem 5 1) :: st) mem Post) := zrf rfl
theorem s_50_16_7 {E : yE} {n d : Nat} {mem : yMem} {Post : Option yV → yMem → Prop} {st : List yV} {r0 r1 r2 r3 r4 r5 r6 : Option yV} : zvc E (n + 1) zc_50 d xm_50 16 [r0, r1, r2, r3, r4, r5, r6] ((1, 7) :: st) mem Post = (zvc E n zc_50 d xm_50 19 [r0, r1, r2, r3, r4, r5, r6] ((0, mem 7 1) :: st) mem Post) := zrf rfl
theorem s_50_16_9 {E : yE} {n d : Nat} {mem : yMem} {Post : Option yV → yMem → Prop} {st : List yV} {r0 r1 r2 r3 r4 r5 r6 : Option yV} : zvc E (n + 1) zc_50 d xm_50 16 [r0, r1, r2, r3, r4, r5, r6] ((1, 9) :: st) mem Post = (zvc E n zc_50 d xm_50 19 [r0, r1, r2, r3, r4, r5, r6] ((0, mem 9 1) :: st) mem Post) := zrf rfl
theorem s_50_16_29 {E : yE} {n d : Nat} {mem : yMem} {Post : Option yV → yMem → Prop} {st : List yV} {r0 r1 r2 r3 r4 r5 r6 : Option yV} : zvc E (n + 1) zc_50 d xm_50 16 [r0, r1, r2, r3, r4, r5, r6] ((1, 29) :: st) mem Post = (zvc E n zc_50 d xm_50 19 [r0, r1, r2, r3, r4, r5, r6] ((0, mem 29 1) :: st) mem Post) := zrf rfl
theorem s_50_16_31 {E : yE} {n d : Nat} {mem : yMem} {Post : Option yV → yMem → Prop} {st : List yV} {r0 r1 r2 r3 r4 r5 r6 : Option yV} : zvc E (n + 1) zc_50 d xm_50 16 [r0, r1, r2, r3, r4, r5, r6] ((1, 31) :: st) mem Post = (zvc E n zc_50 d xm_50 19 [r0, r1, r2, r3, r4, r5, r6] ((0, mem 31 1) :: st) mem Post) := zrf rfl
theorem s_50_16_33 {E : yE} {n d : Nat} {mem : yMem} {Post : Option yV → yMem → Prop} {st : List yV} {r0 r1 r2 r3 r4 r5 r6 : Option yV} : zvc E (n + 1) zc_50 d xm_50 16 [r0, r1, r2, r3, r4, r5, r6] ((1, 33) :: st) mem Post = (zvc E n zc_50 d xm_50 19 [r0, r1, r2, r3, r4, r5, r6] ((0, mem 33 1) :: st) mem Post) := zrf rfl
theorem s_50_16_35 {E : yE} {n d : Nat} {mem : yMem} {Post : Option yV → yMem → Prop} {st : List yV} {r0 r1 r2 r3 r4 r5 r6 : Option yV} : zvc E (n + 1) zc_50 d xm_50 16 [r0, r1, r2, r3, r4, r5, r6] ((1, 35) :: st) mem Post = (zvc E n zc_50 d xm_50 19 [r0, r1, r2, r3, r4, r5, r6] ((0, mem 35 1) :: st) mem Post) := zrf rfl
theorem s_50_19 {E : yE} {n d : Nat} {mem : yMem} {Post : Option yV → yMem → Prop} {st : List yV} {r0 r1 r2 r3 r4 r5 r6 : Option yV} {x y : Int} : zvc E (n + 1) zc_50 d xm_50 19 [r0, r1, r2, r3, r4, r5, r6] ((0, y) :: (0, x) :: st) mem Post = ((w32 y ≤ w32 x → zvc E n zc_50 d xm_50 92 [r0, r1, r2, r3, r4, r5, r6] (st) mem Post) ∧ (¬ (w32 y ≤ w32 x) → zvc E n zc_50 d xm_50 22 [r0, r1, r2, r3, r4, r5, r6] (st) mem Post)) := zrf rfl
theorem s_50_22 {E : yE} {n d : Nat} {mem : yMem} {Post : Option yV → yMem → Prop} {st : List yV} {r1 r2 r3 r4 r5 r6 : Option yV} {x : Int} : zvc E (n + 1) zc_50 d xm_50 22 [some (1, x), r1, r2, r3, r4, r5, r6] (st) mem Post = (zvc E n zc_50 d xm_50 23 [some (1, x), r1, r2, r3, r4, r5, r6] ((1, x) :: st) mem Post) := zrf rfl
theorem s_50_23 {E : yE} {n d : Nat} {mem : yMem} {Post : Option yV → yMem → Prop} {st : List yV} {r0 r1 r2 r4 r5 r6 : Option yV} {x : Int} : zvc E (n + 1) zc_50 d xm_50 23 [r0, r1, r2, some (0, x), r4, r5, r6] (st) mem Post = (zvc E n zc_50 d xm_50 24 [r0, r1, r2, some (0, x), r4, r5, r6] ((0, x) :: st) mem Post) := zrf rfl
theorem s_50_24 {E : yE} {n d : Nat} {mem : yMem} {Post : Option yV → yMem → Prop} {st : List yV} {r0 r1 r2 r3 r4 r5 r6 : Option yV} {z a0 : Int} : zvc E (n + 1) zc_50 d xm_50 24 [r0, r1, r2, r3, r4, r5, r6] ((0, a0) :: (1, z) :: st) mem Post = (zio z 1 = true ∧ ysum st ≤ 8 ∧ yCon E d xm_56 [(1, z), (0, a0)] mem (fun v mem' => zgk E d xm_50 27 [r0, r1, r2, r3, r4, r5, r6] st v mem' Post)) := zrf rfl
theorem s_50_27n {E : yE} {n d : Nat} {mem : yMem} {Post : Option yV → yMem → Prop} {st : List yV} {r0 r1 r2 r4 r5 r6 : Option yV} {x : Int} : zvc E (n + 1) zc_50 d xm_50 27 [r0, r1, r2, none, r4, r5, r6] ((0, x) :: st) mem Post = (zvc E n zc_50 d xm_50 29 [r0, r1, r2, none, some (0, x), r5, r6] (st) mem Post) := zrf rfl
theorem s_50_27i {E : yE} {n d : Nat} {mem : yMem} {Post : Option yV → yMem → Prop} {st : List yV} {r0 r1 r2 r4 r5 r6 : Option yV} {x w : Int} : zvc E (n + 1) zc_50 d xm_50 27 [r0, r1, r2, some (0, w), r4, r5, r6] ((0, x) :: st) mem Post = (zvc E n zc_50 d xm_50 29 [r0, r1, r2, some (0, w), some (0, x), r5, r6] (st) mem Post) := zrf rfl
theorem s_50_27p {E : yE} {n d : Nat} {mem : yMem} {Post : Option yV → yMem → Prop} {st : List yV} {r0 r1 r2 r4 r5 r6 : Option yV} {x w : Int} : zvc E (n + 1) zc_50 d xm_50 27 [r0, r1, r2, some (1, w), r4, r5, r6] ((0, x) :: st) mem Post = (zvc E n zc_50 d xm_50 29 [r0, r1, r2, some (1, w), some (0, x), r5, r6] (st) mem Post) := zrf rfl
theorem s_50_27j {E : yE} {n d : Nat} {mem : yMem} {Post : Option yV → yMem → Prop} {st : List yV} {r0 r1 r2 r3 r4 r5 r6 : Option yV} {x : Int} : zvc E (n + 1) zc_50 d xm_50 27 [r0, r1, r2, r3, r4, r5, r6] ((0, x) :: st) mem Post = (zvc E n zc_50 d xm_50 29 [r0, r1, r2, znl r3, some (0, x), r5, r6] (st) mem Post) := zrf rfl
theorem s_50_29 {E : yE} {n d : Nat} {mem : yMem} {Post : Option yV → yMem → Prop} {st : List yV} {r0 r1 r2 r3 r4 r5 r6 : Option yV} : zvc E (n + 1) zc_50 d xm_50 29 [r0, r1, r2, r3, r4, r5, r6] (st) mem Post = (zvc E n zc_50 d xm_50 30 [r0, r1, r2, r3, r4, r5, r6] ((0, 0) :: st) mem Post) := zrf rfl
theorem s_50_30n {E : yE} {n d : Nat} {mem : yMem} {Post : Option yV → yMem → Prop} {st : List yV} {r0 r1 r2 r3 r5 r6 : Option yV} {x : Int} : zvc E (n + 1) zc_50 d xm_50 30 [r0, r1, r2, r3, none, r5, r6] ((0, x) :: st) mem Post = (zvc E n zc_50 d xm_50 32 [r0, r1, r2, r3, none, some (0, x), r6] (st) mem Post) := zrf rfl
theorem s_50_30i {E : yE} {n d : Nat} {mem : yMem} {Post : Option yV → yMem → Prop} {st : List yV} {r0 r1 r2 r3 r5 r6 : Option yV} {x w : Int} : zvc E (n + 1) zc_50 d xm_50 30 [r0, r1, r2, r3, some (0, w), r5, r6] ((0, x) :: st) mem Post = (zvc E n zc_50 d xm_50 32 [r0, r1, r2, r3, some (0, w), some (0, x), r6] (st) mem Post) := zrf rfl
theorem s_50_30p {E : yE} {n d : Nat} {mem : yMem} {Post : Option yV → yMem → Prop} {st : List yV} {r0 r1 r2 r3 r5 r6 : Option yV} {x w : Int} : zvc E (n + 1) zc_50 d xm_50 30 [r0, r1, r2, r3, some (1, w), r5, r6] ((0, x) :: st) mem Post = (zvc E n zc_50 d xm_50 32 [r0, r1, r2, r3, some (1, w), some (0, x), r6] (st) mem Post) := zrf rfl
theorem s_50_30j {E : yE} {n d : Nat} {mem : yMem} {Post : Option yV → yMem → Prop} {st : List yV} {r0 r1 r2 r3 r4 r5 r6 : Option yV} {x : Int} : zvc E (n + 1) zc_50 d xm_50 30 [r0, r1, r2, r3, r4, r5, r6] ((0, x) :: st) mem Post = (zvc E n zc_50 d xm_50 32 [r0, r1, r2, r3, znl r4, some (0, x), r6] (st) mem Post) := zrf rfl
theorem s_50_32 {E : yE} {n d : Nat} {mem : yMem} {Post : Option yV → yMem → Prop} {st : List yV} {r0 r1 r2 r3 r4 r5 r6 : Option yV} : zvc E (n + 1) zc_50 d xm_50 32 [r0, r1, r2, r3, r4, r5, r6] (st) mem Post = (zvc E n zc_50 d xm_50 33 [r0, r1, r2, r3, r4, r5, r6] ((0, 0) :: st) mem Post) := zrf rfl
theorem s_50_33n {E : yE} {n d : Nat} {mem : yMem} {Post : Option yV → yMem → Prop} {st : List yV} {r0 r1 r2 r3 r4 r6 : Option yV} {x : Int} : zvc E (n + 1) zc_50 d xm_50 33 [r0, r1, r2, r3, r4, none, r6] ((0, x) :: st) mem Post = (zvc E n zc_50 d xm_50 35 [r0, r1, r2, r3, r4, none, some (0, x)] (st) mem Post) := zrf rfl
theorem s_50_33i {E : yE} {n d : Nat} {mem : yMem} {Post : Option yV → yMem → Prop} {st : List yV} {r0 r1 r2 r3 r4 r6 : Option yV} {x w : Int} : zvc E (n + 1) zc_50 d xm_50 33 [r0, r1, r2, r3, r4, some (0, w), r6] ((0, x) :: st) mem Post = (zvc E n zc_50 d xm_50 35 [r0, r1, r2, r3, r4, some (0, w), some (0, x)] (st) mem Post) := zrf rfl
theorem s_50_33p {E : yE} {n d : Nat} {mem : yMem} {Post : Option yV → yMem → Prop} {st : List yV} {r0 r1 r2 r3 r4 r6 : Option yV} {x w : Int} : zvc E (n + 1) zc_50 d xm_50 33 [r0, r1, r2, r3, r4, some (1, w), r6] ((0, x) :: st) mem Post = (zvc E n zc_50 d xm_50 35 [r0, r1, r2, r3, r4, some (1, w), some (0, x)] (st) mem Post) := zrf rfl
theorem s_50_33j {E : yE} {n d : Nat} {mem : yMem} {Post : Option yV → yMem → Prop} {st : List yV} {r0 r1 r2 r3 r4 r5 r6 : Option yV} {x : Int} : zvc E (n + 1) zc_50 d xm_50 33 [r0, r1, r2, r3, r4, r5, r6] ((0, x) :: st) mem Post = (zvc E n zc_50 d xm_50 35 [r0, r1, r2, r3, r4, znl r5, some (0, x)] (st) mem Post) := zrf rfl
theorem g_50_35 {E : yE} {n d : Nat} {mem : yMem} {Post : Option yV → yMem → Prop} {st : List yV} {r0 r1 r2 r3 r4 r5 : Option yV} {x : Int} : zgo E n zc_50 d xm_50 35 [r0, r1, r2, r3, r4, r5, some (0, x)] (st) mem Post = (zvc E n zc_50 d xm_50 37 [r0, r1, r2, r3, r4, r5, some (0, x)] ((0, x) :: st) mem Post) := zrf rfl
theorem k_50_35 {E : yE} {n d : Nat} {mem : yMem} {Post : Option yV → yMem → Prop} {st : List yV} {rg : zR} : zvc E (n + 1) zc_50 d xm_50 35 rg st mem Post = zG E d xm_50 35 rg st mem Post := zrf rfl
theorem s_50_37 {E : yE} {n d : Nat} {mem : yMem} {Post : Option yV → yMem → Prop} {st : List yV} {r0 r1 r2 r3 r5 r6 : Option yV} {x : Int} : zvc E (n + 1) zc_50 d xm_50 37 [r0, r1, r2, r3, some (0, x), r5, r6] (st) mem Post = (zvc E n zc_50 d xm_50 39 [r0, r1, r2, r3, some (0, x), r5, r6] ((0, x) :: st) mem Post) := zrf rfl
theorem s_50_39 {E : yE} {n d : Nat} {mem : yMem} {Post : Option yV → yMem → Prop} {st : List yV} {r0 r1 r2 r3 r4 r5 r6 : Option yV} {x y : Int} : zvc E (n + 1) zc_50 d xm_50 39 [r0, r1, r2, r3, r4, r5, r6] ((0, y) :: (0, x) :: st) mem Post = ((w32 y ≤ w32 x → zvc E n zc_50 d xm_50 79 [r0, r1, r2, r3, r4, r5, r6] (st) mem Post) ∧ (¬ (w32 y ≤ w32 x) → zvc E n zc_50 d xm_50 42 [r0, r1, r2, r3, r4, r5, r6] (st) mem Post)) := zrf rfl
theorem s_50_42 {E : yE} {n d : Nat} {mem : yMem} {Post : Option yV → yMem → Prop} {st : List yV} {r0 r1 r2 r3 r4 r6 : Option yV} {x : Int} : zvc E (n + 1) zc_50 d xm_50 42 [r0, r1, r2, r3, r4, some (0, x), r6] (st) mem Post = (zvc E n zc_50 d xm_50 44 [r0, r1, r2, r3, r4, some (0, x), r6] ((0, x) :: st) mem Post) := zrf rfl
theorem s_50_44 {E : yE} {n d : Nat} {mem : yMem} {Post : Option yV → yMem → Prop} {st : List yV} {r0 r1 r2 r3 r4 r5 r6 : Option yV} {x : Int} : zvc E (n + 1) zc_50 d xm_50 44 [r0, r1, r2, r3, r4, r5, r6] ((0, x) :: st) mem Post = ((¬ w32 x = w32 0 → zvc E n zc_50 d xm_50 79 [r0, r1, r2, r3, r4, r5, r6] (st) mem Post) ∧ (¬ (¬ w32 x = w32 0) → zvc E n zc_50 d xm_50 47 [r0, r1, r2, r3, r4, r5, r6] (st) mem Post)) := zrf rfl
theorem s_50_47 {E : yE} {n d : Nat} {mem : yMem} {Post : Option yV → yMem → Prop} {st : List yV} {r1 r2 r3 r4 r5 r6 : Option yV} {x : Int} : zvc E (n + 1) zc_50 d xm_50 47 [some (1, x), r1, r2, r3, r4, r5, r6] (st) mem Post = (zvc E n zc_50 d xm_50 48 [some (1, x), r1, r2, r3, r4, r5, r6] ((1, x) :: st) mem Post) := zrf rfl
theorem s_50_48 {E : yE} {n d : Nat} {mem : yMem} {Post : Option yV → yMem → Prop} {st : List yV} {r0 r1 r2 r4 r5 r6 : Option yV} {x : Int} : zvc E (n + 1) zc_50 d xm_50 48 [r0, r1, r2, some (0, x), r4, r5, r6] (st) mem Post = (zvc E n zc_50 d xm_50 49 [r0, r1, r2, some (0, x), r4, r5, r6] ((0, x) :: st) mem Post) := zrf rfl
theorem s_50_49 {E : yE} {n d : Nat} {mem : yMem} {Post : Option yV → yMem → Prop} {st : List yV} {r0 r1 r2 r3 r4 r5 : Option yV} {x : Int} : zvc E (n + 1) zc_50 d xm_50 49 [r0, r1, r2, r3, r4, r5, some (0, x)] (st) mem Post = (zvc E n zc_50 d xm_50 51 [r0, r1, r2, r3, r4, r5, some (0, x)] ((0, x) :: st) mem Post) := zrf rfl
theorem s_50_51 {E : yE} {n d : Nat} {mem : yMem} {Post : Option yV → yMem → Prop} {st : List yV} {r0 r1 r2 r3 r4 r5 r6 : Option yV} {z a0 a1 : Int} : zvc E (n + 1) zc_50 d xm_50 51 [r0, r1, r2, r3, r4, r5, r6] ((0, a1) :: (0, a0) :: (1, z) :: st) mem Post = (zio z 1 = true ∧ ysum st ≤ 8 ∧ yCon E d xm_52 [(1, z), (0, a0), (0, a1)] mem (fun v mem' => zgk E d xm_50 54 [r0, r1, r2, r3, r4, r5, r6] st v mem' Post)) := zrf rfl
theorem s_50_54 {E : yE} {n d : Nat} {mem : yMem} {Post : Option yV → yMem → Prop} {st : List yV} {r0 r1 r2 r3 r4 r5 r6 : Option yV} {x : Int} : zvc E (n + 1) zc_50 d xm_50 54 [r0, r1, r2, r3, r4, r5, r6] ((0, x) :: st) mem Post = ((w32 x = w32 0 → zvc E n zc_50 d xm_50 70 [r0, r1, r2, r3, r4, r5, r6] (st) mem Post) ∧ (¬ (w32 x = w32 0) → zvc E n zc_50 d xm_50 57 [r0, r1, r2, r3, r4, r5, r6] (st) mem Post)) := zrf rfl
theorem s_50_57 {E : yE} {n d : Nat} {mem : yMem} {Post : Option yV → yMem → Prop} {st : List yV} {r1 r2 r3 r4 r5 r6 : Option yV} {x : Int} : zvc E (n + 1) zc_50 d xm_50 57 [some (1, x), r1, r2, r3, r4, r5, r6] (st) mem Post = (zvc E n zc_50 d xm_50 58 [some (1, x), r1, r2, r3, r4, r5, r6] ((1, x) :: st) mem Post) := zrf rfl
theorem s_50_58 {E : yE} {n d : Nat} {mem : yMem} {Post : Option yV → yMem → Prop} {st : List yV} {r0 r1 r2 r4 r5 r6 : Option yV} {x : Int} : zvc E (n + 1) zc_50 d xm_50 58 [r0, r1, r2, some (0, x), r4, r5, r6] (st) mem Post = (zvc E n zc_50 d xm_50 59 [r0, r1, r2, some (0, x), r4, r5, r6] ((0, x) :: st) mem Post) := zrf rfl
theorem s_50_59 {E : yE} {n d : Nat} {mem : yMem} {Post : Option yV → yMem → Prop} {st : List yV} {r0 r1 r3 r4 r5 r6 : Option yV} {x : Int} : zvc E (n + 1) zc_50 d xm_50 59 [r0, r1, some (0, x), r3, r4, r5, r6] (st) mem Post = (zvc E n zc_50 d xm_50 60 [r0, r1, some (0, x), r3, r4, r5, r6] ((0, x) :: st) mem Post) := zrf rfl
theorem s_50_60 {E : yE} {n d : Nat} {mem : yMem} {Post : Option yV → yMem → Prop} {st : List yV} {r0 r1 r2 r3 r4 r5 r6 : Option yV} {z a0 a1 : Int} : zvc E (n + 1) zc_50 d xm_50 60 [r0, r1, r2, r3, r4, r5, r6] ((0, a1) :: (0, a0) :: (1, z) :: st) mem Post = (zio z 1 = true ∧ ysum st ≤ 8 ∧ yCon E d xm_53 [(1, z), (0, a0), (0, a1)] mem (fun v mem' => zgk E d xm_50 63 [r0, r1, r2, r3, r4, r5, r6] st v mem' Post)) := zrf rfl
theorem s_50_63 {E : yE} {n d : Nat} {mem : yMem} {Post : Option yV → yMem → Prop} {st : List yV} {r0 r1 r2 r3 r4 r5 r6 : Option yV} {x : Int} : zvc E (n + 1) zc_50 d xm_50 63 [r0, r1, r2, r3, r4, r5, r6] ((0, x) :: st) mem Post = ((w32 x = w32 0 → zvc E n zc_50 d xm_50 70 [r0, r1, r2, r3, r4, r5, r6] (st) mem Post) ∧ (¬ (w32 x = w32 0) → zvc E n zc_50 d xm_50 66 [r0, r1, r2, r3, r4, r5, r6] (st) mem Post)) := zrf rfl
theorem s_50_66 {E : yE} {n d : Nat} {mem : yMem} {Post : Option yV → yMem → Prop} {st : List yV} {r0 r1 r2 r3 r4 r5 r6 : Option yV} : zvc E (n + 1) zc_50 d xm_50 66 [r0, r1, r2, r3, r4, r5, r6] (st) mem Post = (zvc E n zc_50 d xm_50 67 [r0, r1, r2, r3, r4, r5, r6] ((0, 1) :: st) mem Post) := zrf rfl
theorem s_50_67 {E : yE} {n d : Nat} {mem : yMem} {Post : Option yV → yMem → Prop} {st : List yV} {r0 r1 r2 r3 r4 r5 r6 : Option yV} : zvc E (n + 1) zc_50 d xm_50 67 [r0, r1, r2, r3, r4, r5, r6] (st) mem Post = (zvc E n zc_50 d xm_50 71 [r0, r1, r2, r3, r4, r5, r6] (st) mem Post) := zrf rfl
theorem s_50_70 {E : yE} {n d : Nat} {mem : yMem} {Post : Option yV → yMem → Prop} {st : List yV} {r0 r1 r2 r3 r4 r5 r6 : Option yV} : zvc E (n + 1) zc_50 d xm_50 70 [r0, r1, r2, r3, r4, r5, r6] (st) mem Post = (zvc E n zc_50 d xm_50 71 [r0, r1, r2, r3, r4, r5, r6] ((0, 0) :: st) mem Post) := zrf rfl
theorem s_50_71n {E : yE} {n d : Nat} {mem : yMem} {Post : Option yV → yMem → Prop} {st : List yV} {r0 r1 r2 r3 r5 r6 : Option yV} {x : Int} : zvc E (n + 1) zc_50 d xm_50 71 [r0, r1, r2, r3, none, r5, r6] ((0, x) :: st) mem Post = (zvc E n zc_50 d xm_50 73 [r0, r1, r2, r3, none, some (0, x), r6] (st) mem Post) := zrf rfl
theorem s_50_71i {E : yE} {n d : Nat} {mem : yMem} {Post : Option yV → yMem → Prop} {st : List yV} {r0 r1 r2 r3 r5 r6 : Option yV} {x w : Int} : zvc E (n + 1) zc_50 d xm_50 71 [r0, r1, r2, r3, some (0, w), r5, r6] ((0, x) :: st) mem Post = (zvc E n zc_50 d xm_50 73 [r0, r1, r2, r3, some (0, w), some (0, x), r6] (st) mem Post) := zrf rfl
theorem s_50_71p {E : yE} {n d : Nat} {mem : yMem} {Post : Option yV → yMem → Prop} {st : List yV} {r0 r1 r2 r3 r5 r6 : Option yV} {x w : Int} : zvc E (n + 1) zc_50 d xm_50 71 [r0, r1, r2, r3, some (1, w), r5, r6] ((0, x) :: st) mem Post = (zvc E n zc_50 d xm_50 73 [r0, r1, r2, r3, some (1, w), some (0, x), r6] (st) mem Post) := zrf rfl
theorem s_50_71j {E : yE} {n d : Nat} {mem : yMem} {Post : Option yV → yMem → Prop} {st : List yV} {r0 r1 r2 r3 r4 r5 r6 : Option yV} {x : Int} : zvc E (n + 1) zc_50 d xm_50 71 [r0, r1, r2, r3, r4, r5, r6] ((0, x) :: st) mem Post = (zvc E n zc_50 d xm_50 73 [r0, r1, r2, r3, znl r4, some (0, x), r6] (st) mem Post) := zrf rfl
theorem s_50_73n {E : yE} {n d : Nat} {mem : yMem} {Post : Option yV → yMem → Prop} {st : List yV} {r0 r1 r2 r3 r4 : Option yV} {x : Int} : zvc E (n + 1) zc_50 d xm_50 73 [r0, r1, r2, r3, r4, none, some (0, x)] (st) mem Post = (zvc E n zc_50 d xm_50 76 [r0, r1, r2, r3, r4, none, some (0, x + 1)] (st) mem Post) := zrf rfl
theorem s_50_73i {E : yE} {n d : Nat} {mem : yMem} {Post : Option yV → yMem → Prop} {st : List yV} {r0 r1 r2 r3 r4 : Option yV} {x w : Int} : zvc E (n + 1) zc_50 d xm_50 73 [r0, r1, r2, r3, r4, some (0, w), some (0, x)] (st) mem Post = (zvc E n zc_50 d xm_50 76 [r0, r1, r2, r3, r4, some (0, w), some (0, x + 1)] (st) mem Post) := zrf rfl
theorem s_50_73p {E : yE} {n d : Nat} {mem : yMem} {Post : Option yV → yMem → Prop} {st : List yV} {r0 r1 r2 r3 r4 : Option yV} {x w : Int} : zvc E (n + 1) zc_50 d xm_50 73 [r0, r1, r2, r3, r4, some (1, w), some (0, x)] (st) mem Post = (zvc E n zc_50 d xm_50 76 [r0, r1, r2, r3, r4, some (1, w), some (0, x + 1)] (st) mem Post) := zrf rfl
theorem s_50_73j {E : yE} {n d : Nat} {mem : yMem} {Post : Option yV → yMem → Prop} {st : List yV} {r0 r1 r2 r3 r4 r5 : Option yV} {x : Int} : zvc E (n + 1) zc_50 d xm_50 73 [r0, r1, r2, r3, r4, r5, some (0, x)] (st) mem Post = (zvc E n zc_50 d xm_50 76 [r0, r1, r2, r3, r4, znl r5, some (0, x + 1)] (st) mem Post) := zrf rfl
theorem s_50_76 {E : yE} {n d : Nat} {mem : yMem} {Post : Option yV → yMem → Prop} {st : List yV} {r0 r1 r2 r3 r4 r5 r6 : Option yV} : zvc E (n + 1) zc_50 d xm_50 76 [r0, r1, r2, r3, r4, r5, r6] (st) mem Post = (zvc E n zc_50 d xm_50 35 [r0, r1, r2, r3, r4, r5, r6] (st) mem Post) := zrf rfl
theorem s_50_79 {E : yE} {n d : Nat} {mem : yMem} {Post : Option yV → yMem → Prop} {st : List yV} {r0 r1 r3 r4 r5 r6 : Option yV} {x : Int} : zvc E (n + 1) zc_50 d xm_50 79 [r0, r1, some (0, x), r3, r4, r5, r6] (st) mem Post = (zvc E n zc_50 d xm_50 80 [r0, r1, some (0, x), r3, r4, r5, r6] ((0, x) :: st) mem Post) := zrf rfl
theorem s_50_80 {E : yE} {n d : Nat} {mem : yMem} {Post : Option yV → yMem → Prop} {st : List yV} {r1 r2 r3 r4 r5 r6 : Option yV} {x : Int} : zvc E (n + 1) zc_50 d xm_50 80 [some (1, x), r1, r2, r3, r4, r5, r6] (st) mem Post = (zvc E n zc_50 d xm_50 81 [some (1, x), r1, r2, r3, r4, r5, r6] ((1, x) :: st) mem Post) := zrf rfl
theorem s_50_81 {E : yE} {n d : Nat} {mem : yMem} {Post : Option yV → yMem → Prop} {st : List yV} {r0 r1 r2 r3 r4 r5 r6 : Option yV} : zvc E (n + 1) zc_50 d xm_50 81 [r0, r1, r2, r3, r4, r5, r6] ((1, 76) :: st) mem Post = (zvc E n zc_50 d xm_50 84 [r0, r1, r2, r3, r4, r5, r6] ((0, mem 76 8) :: st) mem Post) := zrf rfl
theorem s_50_84 {E : yE} {n d : Nat} {mem : yMem} {Post : Option yV → yMem → Prop} {st : List yV} {r0 r1 r2 r3 r4 r5 r6 : Option yV} {x y : Int} : zvc E (n + 1) zc_50 d xm_50 84 [r0, r1, r2, r3, r4, r5, r6] ((0, y) :: (0, x) :: st) mem Post = (zvc E n zc_50 d xm_50 85 [r0, r1, r2, r3, r4, r5, r6] ((0, x - y) :: st) mem Post) := zrf rfl
theorem s_50_85n {E : yE} {n d : Nat} {mem : yMem} {Post : Option yV → yMem → Prop} {st : List yV} {r0 r2 r3 r4 r5 r6 : Option yV} {x : Int} : zvc E (n + 1) zc_50 d xm_50 85 [r0, none, r2, r3, r4, r5, r6] ((0, x) :: st) mem Post = (zvc E n zc_50 d xm_50 86 [r0, none, some (0, x), r3, r4, r5, r6] (st) mem Post) := zrf rfl
theorem s_50_85i {E : yE} {n d : Nat} {mem : yMem} {Post : Option yV → yMem → Prop} {st : List yV} {r0 r2 r3 r4 r5 r6 : Option yV} {x w : Int} : zvc E (n + 1) zc_50 d xm_50 85 [r0, some (0, w), r2, r3, r4, r5, r6] ((0, x) :: st) mem Post = (zvc E n zc_50 d xm_50 86 [r0, some (0, w), some (0, x), r3, r4, r5, r6] (st) mem Post) := zrf rfl
theorem s_50_85p {E : yE} {n d : Nat} {mem : yMem} {Post : Option yV → yMem → Prop} {st : List yV} {r0 r2 r3 r4 r5 r6 : Option yV} {x w : Int} : zvc E (n + 1) zc_50 d xm_50 85 [r0, some (1, w), r2, r3, r4, r5, r6] ((0, x) :: st) mem Post = (zvc E n zc_50 d xm_50 86 [r0, some (1, w), some (0, x), r3, r4, r5, r6] (st) mem Post) := zrf rfl
theorem s_50_85j {E : yE} {n d : Nat} {mem : yMem} {Post : Option yV → yMem → Prop} {st : List yV} {r0 r1 r2 r3 r4 r5 r6 : Option yV} {x : Int} : zvc E (n + 1) zc_50 d xm_50 85 [r0, r1, r2, r3, r4, r5, r6] ((0, x) :: st) mem Post = (zvc E n zc_50 d xm_50 86 [r0, znl r1, some (0, x), r3, r4, r5, r6] (st) mem Post) := zrf rfl
theorem s_50_86n {E : yE} {n d : Nat} {mem : yMem} {Post : Option yV → yMem → Prop} {st : List yV} {r0 r1 r4 r5 r6 : Option yV} {x : Int} : zvc E (n + 1) zc_50 d xm_50 86 [r0, r1, none, some (0, x), r4, r5, r6] (st) mem Post = (zvc E n zc_50 d xm_50 89 [r0, r1, none, some (0, x + 1), r4, r5, r6] (st) mem Post) := zrf rfl
theorem s_50_86i {E : yE} {n d : Nat} {mem : yMem} {Post : Option yV → yMem → Prop} {st : List yV} {r0 r1 r4 r5 r6 : Option yV} {x w : Int} : zvc E (n + 1) zc_50 d xm_50 86 [r0, r1, some (0, w), some (0, x), r4, r5, r6] (st) mem Post = (zvc E n zc_50 d xm_50 89 [r0, r1, some (0, w), some (0, x + 1), r4, r5, r6] (st) mem Post) := zrf rfl
theorem s_50_86p {E : yE} {n d : Nat} {mem : yMem} {Post : Option yV → yMem → Prop} {st : List yV} {r0 r1 r4 r5 r6 : Option yV} {x w : Int} : zvc E (n + 1) zc_50 d xm_50 86 [r0, r1, some (1, w), some (0, x), r4, r5, r6] (st) mem Post = (zvc E n zc_50 d xm_50 89 [r0, r1, some (1, w), some (0, x + 1), r4, r5, r6] (st) mem Post) := zrf rfl
theorem s_50_86j {E : yE} {n d : Nat} {mem : yMem} {Post : Option yV → yMem → Prop} {st : List yV} {r0 r1 r2 r4 r5 r6 : Option yV} {x : Int} : zvc E (n + 1) zc_50 d xm_50 86 [r0, r1, r2, some (0, x), r4, r5, r6] (st) mem Post = (zvc E n zc_50 d xm_50 89 [r0, r1, znl r2, some (0, x + 1), r4, r5, r6] (st) mem Post) := zrf rfl
theorem s_50_89 {E : yE} {n d : Nat} {mem : yMem} {Post : Option yV → yMem → Prop} {st : List yV} {r0 r1 r2 r3 r4 r5 r6 : Option yV} : zvc E (n + 1) zc_50 d xm_50 89 [r0, r1, r2, r3, r4, r5, r6] (st) mem Post = (zvc E n zc_50 d xm_50 8 [r0, r1, r2, r3, r4, r5, r6] (st) mem Post) := zrf rfl
theorem s_50_92 {E : yE} {n d : Nat} {mem : yMem} {Post : Option yV → yMem → Prop} {r0 r1 r2 r3 r4 r5 r6 : Option yV} : zvc E (n + 1) zc_50 d xm_50 92 [r0, r1, r2, r3, r4, r5, r6] ([]) mem Post = (Post none mem) := zrf rfl
theorem s_3_0 {E : yE} {n d : Nat} {mem : yMem} {Post : Option yV → yMem → Prop} {st : List yV} {r0 r2 r3 : Option yV} {x : Int} : zvc E (n + 1) [] d xm_3 0 [r0, some (0, x), r2, r3] (st) mem Post = (zvc E n [] d xm_3 1 [r0, some (0, x), r2, r3] ((0, x) :: st) mem Post) := zrf rfl
theorem s_3_1 {E : yE} {n d : Nat} {mem : yMem} {Post : Option yV → yMem → Prop} {st : List yV} {r0 r1 r2 r3 : Option yV} {x : Int} : zvc E (n + 1) [] d xm_3 1 [r0, r1, r2, r3] ((0, x) :: st) mem Post = ((w32 x < w32 0 → zvc E n [] d xm_3 20 [r0, r1, r2, r3] (st) mem Post) ∧ (¬ (w32 x < w32 0) → zvc E n [] d xm_3 4 [r0, r1, r2, r3] (st) mem Post)) := zrf rfl
theorem s_3_4 {E : yE} {n d : Nat} {mem : yMem} {Post : Option yV → yMem → Prop} {st : List yV} {r0 r2 r3 : Option yV} {x : Int} : zvc E (n + 1) [] d xm_3 4 [r0, some (0, x), r2, r3] (st) mem Post = (zvc E n [] d xm_3 5 [r0, some (0, x), r2, r3] ((0, x) :: st) mem Post) := zrf rfl
theorem s_3_5 {E : yE} {n d : Nat} {mem : yMem} {Post : Option yV → yMem → Prop} {st : List yV} {r0 r1 r2 r3 : Option yV} : zvc E (n + 1) [] d xm_3 5 [r0, r1, r2, r3] (st) mem Post = (zvc E n [] d xm_3 8 [r0, r1, r2, r3] ((0, 999) :: st) mem Post) := zrf rfl
theorem s_3_8 {E : yE} {n d : Nat} {mem : yMem} {Post : Option yV → yMem → Prop} {st : List yV} {r0 r1 r2 r3 : Option yV} {x y : Int} : zvc E (n + 1) [] d xm_3 8 [r0, r1, r2, r3] ((0, y) :: (0, x) :: st) mem Post = ((w32 y < w32 x → zvc E n [] d xm_3 20 [r0, r1, r2, r3] (st) mem Post) ∧ (¬ (w32 y < w32 x) → zvc E n [] d xm_3 11 [r0, r1, r2, r3] (st) mem Post)) := zrf rfl
theorem s_3_11 {E : yE} {n d : Nat} {mem : yMem} {Post : Option yV → yMem → Prop} {st : List yV} {r0 r1 r3 : Option yV} {x : Int} : zvc E (n + 1) [] d xm_3 11 [r0, r1, some (0, x), r3] (st) mem Post = (zvc E n [] d xm_3 12 [r0, r1, some (0, x), r3] ((0, x) :: st) mem Post) := zrf rfl
theorem s_3_12 {E : yE} {n d : Nat} {mem : yMem} {Post : Option yV → yMem → Prop} {st : List yV} {r0 r1 r2 r3 : Option yV} {x : Int} : zvc E (n + 1) [] d xm_3 12 [r0, r1, r2, r3] ((0, x) :: st) mem Post = ((w32 x < w32 0 → zvc E n [] d xm_3 20 [r0, r1, r2, r3] (st) mem Post) ∧ (¬ (w32 x < w32 0) → zvc E n [] d xm_3 15 [r0, r1, r2, r3] (st) mem Post)) := zrf rfl
theorem s_3_15 {E : yE} {n d : Nat} {mem : yMem} {Post : Option yV → yMem → Prop} {st : List yV} {r0 r1 r3 : Option yV} {x : Int} : zvc E (n + 1) [] d xm_3 15 [r0, r1, some (0, x), r3] (st) mem Post = (zvc E n [] d xm_3 16 [r0, r1, some (0, x), r3] ((0, x) :: st) mem Post) := zrf rfl
theorem s_3_16 {E : yE} {n d : Nat} {mem : yMem} {Post : Option yV → yMem → Prop} {st : List yV} {r0 r1 r2 r3 : Option yV} : zvc E (n + 1) [] d xm_3 16 [r0, r1, r2, r3] (st) mem Post = (zvc E n [] d xm_3 17 [r0, r1, r2, r3] ((0, 1) :: st) mem Post) := zrf rfl
theorem s_3_17 {E : yE} {n d : Nat} {mem : yMem} {Post : Option yV → yMem → Prop} {st : List yV} {r0 r1 r2 r3 : Option yV} {x y : Int} : zvc E (n + 1) [] d xm_3 17 [r0, r1, r2, r3] ((0, y) :: (0, x) :: st) mem Post = ((w32 x ≤ w32 y → zvc E n [] d xm_3 22 [r0, r1, r2, r3] (st) mem Post) ∧ (¬ (w32 x ≤ w32 y) → zvc E n [] d xm_3 20 [r0, r1, r2, r3] (st) mem Post)) := zrf rfl
theorem s_3_20 {E : yE} {n d : Nat} {mem : yMem} {Post : Option yV → yMem → Prop} {st : List yV} {r0 r1 r2 r3 : Option yV} : zvc E (n + 1) [] d xm_3 20 [r0, r1, r2, r3] (st) mem Post = (zvc E n [] d xm_3 21 [r0, r1, r2, r3] ((0, (-1)) :: st) mem Post) := zrf rfl
theorem s_3_21 {E : yE} {n d : Nat} {mem : yMem} {Post : Option yV → yMem → Prop} {r0 r1 r2 r3 : Option yV} {x : Int} : zvc E (n + 1) [] d xm_3 21 [r0, r1, r2, r3] ([(0, x)]) mem Post = (Post (some (0, x)) mem) := zrf rfl
theorem s_3_22 {E : yE} {n d : Nat} {mem : yMem} {Post : Option yV → yMem → Prop} {st : List yV} {r1 r2 r3 : Option yV} {x : Int} : zvc E (n + 1) [] d xm_3 22 [some (1, x), r1, r2, r3] (st) mem Post = (zvc E n [] d xm_3 23 [some (1, x), r1, r2, r3] ((1, x) :: st) mem Post) := zrf rfl
theorem s_3_23 {E : yE} {n d : Nat} {mem : yMem} {Post : Option yV → yMem → Prop} {st : List yV} {r0 r1 r2 r3 : Option yV} : zvc E (n + 1) [] d xm_3 23 [r0, r1, r2, r3] ((1, 0) :: st) mem Post = (zvc E n [] d xm_3 26 [r0, r1, r2, r3] ((1, 76) :: st) mem Post) := zrf rfl
theorem s_3_26 {E : yE} {n d : Nat} {mem : yMem} {Post : Option yV → yMem → Prop} {st : List yV} {r0 r1 r2 r3 : Option yV} {z : Int} : zvc E (n + 1) [] d xm_3 26 [r0, r1, r2, r3] ((1, z) :: st) mem Post = (zio z 1 = true ∧ ysum st ≤ 8 ∧ yCon E d xm_57 [(1, z)] mem (fun v mem' => zgk E d xm_3 29 [r0, r1, r2, r3] st v mem' Post)) := zrf rfl
theorem s_3_29 {E : yE} {n d : Nat} {mem : yMem} {Post : Option yV → yMem → Prop} {st : List yV} {r1 r2 r3 : Option yV} {x : Int} : zvc E (n + 1) [] d xm_3 29 [some (1, x), r1, r2, r3] (st) mem Post = (zvc E n [] d xm_3 30 [some (1, x), r1, r2, r3] ((1, x) :: st) mem Post) := zrf rfl
theorem s_3_30 {E : yE} {n d : Nat} {mem : yMem} {Post : Option yV → yMem → Prop} {st : List yV} {r0 r1 r2 r3 : Option yV} : zvc E (n + 1) [] d xm_3 30 [r0, r1, r2, r3] ((1, 0) :: st) mem Post = (zvc E n [] d xm_3 33 [r0, r1, r2, r3] ((1, 76) :: st) mem Post) := zrf rfl
theorem s_3_33 {E : yE} {n d : Nat} {mem : yMem} {Post : Option yV → yMem → Prop} {st : List yV} {r0 r2 r3 : Option yV} {x : Int} : zvc E (n + 1) [] d xm_3 33 [r0, some (0, x), r2, r3] (st) mem Post = (zvc E n [] d xm_3 34 [r0, some (0, x), r2, r3] ((0, x) :: st) mem Post) := zrf rfl
theorem s_3_34 {E : yE} {n d : Nat} {mem : yMem} {Post : Option yV → yMem → Prop} {st : List yV} {r0 r1 r2 r3 : Option yV} {z a0 : Int} : zvc E (n + 1) [] d xm_3 34 [r0, r1, r2, r3] ((0, a0) :: (1, z) :: st) mem Post = (zio z 1 = true ∧ ysum st ≤ 8 ∧ yCon E d xm_55 [(1, z), (0, a0)] mem (fun v mem' => zgk E d xm_3 37 [r0, r1, r2, r3] st v mem' Post)) := zrf rfl
theorem s_3_37n {E : yE} {n d : Nat} {mem : yMem} {Post : Option yV → yMem → Prop} {st : List yV} {r0 r1 r3 : Option yV} {x : Int} : zvc E (n + 1) [] d xm_3 37 [r0, r1, none, r3] ((0, x) :: st) mem Post = (zvc E n [] d xm_3 38 [r0, r1, none, some (0, x)] (st) mem Post) := zrf rfl
theorem s_3_37i {E : yE} {n d : Nat} {mem : yMem} {Post : Option yV → yMem → Prop} {st : List yV} {r0 r1 r3 : Option yV} {x w : Int} : zvc E (n + 1) [] d xm_3 37 [r0, r1, some (0, w), r3] ((0, x) :: st) mem Post = (zvc E n [] d xm_3 38 [r0, r1, some (0, w), some (0, x)] (st) mem Post) := zrf rfl
theorem s_3_37p {E : yE} {n d : Nat} {mem : yMem} {Post : Option yV → yMem → Prop} {st : List yV} {r0 r1 r3 : Option yV} {x w : Int} : zvc E (n + 1) [] d xm_3 37 [r0, r1, some (1, w), r3] ((0, x) :: st) mem Post = (zvc E n [] d xm_3 38 [r0, r1, some (1, w), some (0, x)] (st) mem Post) := zrf rfl
theorem s_3_37j {E : yE} {n d : Nat} {mem : yMem} {Post : Option yV → yMem → Prop} {st : List yV} {r0 r1 r2 r3 : Option yV} {x : Int} : zvc E (n + 1) [] d xm_3 37 [r0, r1, r2, r3] ((0, x) :: st) mem Post = (zvc E n [] d xm_3 38 [r0, r1, znl r2, some (0, x)] (st) mem Post) := zrf rfl
theorem s_3_38 {E : yE} {n d : Nat} {mem : yMem} {Post : Option yV → yMem → Prop} {st : List yV} {r0 r1 r3 : Option yV} {x : Int} : zvc E (n + 1) [] d xm_3 38 [r0, r1, some (0, x), r3] (st) mem Post = (zvc E n [] d xm_3 39 [r0, r1, some (0, x), r3] ((0, x) :: st) mem Post) := zrf rfl
theorem s_3_39 {E : yE} {n d : Nat} {mem : yMem} {Post : Option yV → yMem → Prop} {st : List yV} {r0 r1 r2 r3 : Option yV} {x : Int} : zvc E (n + 1) [] d xm_3 39 [r0, r1, r2, r3] ((0, x) :: st) mem Post = ((¬ w32 x = w32 0 → zvc E n [] d xm_3 46 [r0, r1, r2, r3] (st) mem Post) ∧ (¬ (¬ w32 x = w32 0) → zvc E n [] d xm_3 42 [r0, r1, r2, r3] (st) mem Post)) := zrf rfl
theorem s_3_42 {E : yE} {n d : Nat} {mem : yMem} {Post : Option yV → yMem → Prop} {st : List yV} {r0 r1 r2 : Option yV} {x : Int} : zvc E (n + 1) [] d xm_3 42 [r0, r1, r2, some (0, x)] (st) mem Post = (zvc E n [] d xm_3 43 [r0, r1, r2, some (0, x)] ((0, x) :: st) mem Post) := zrf rfl
theorem s_3_43 {E : yE} {n d : Nat} {mem : yMem} {Post : Option yV → yMem → Prop} {st : List yV} {r0 r1 r2 r3 : Option yV} : zvc E (n + 1) [] d xm_3 43 [r0, r1, r2, r3] (st) mem Post = (zvc E n [] d xm_3 54 [r0, r1, r2, r3] (st) mem Post) := zrf rfl
theorem s_3_46 {E : yE} {n d : Nat} {mem : yMem} {Post : Option yV → yMem → Prop} {st : List yV} {r1 r2 r3 : Option yV} {x : Int} : zvc E (n + 1) [] d xm_3 46 [some (1, x), r1, r2, r3] (st) mem Post = (zvc E n [] d xm_3 47 [some (1, x), r1, r2, r3] ((1, x) :: st) mem Post) := zrf rfl
theorem s_3_47 {E : yE} {n d : Nat} {mem : yMem} {Post : Option yV → yMem → Prop} {st : List yV} {r0 r1 r2 r3 : Option yV} : zvc E (n + 1) [] d xm_3 47 [r0, r1, r2, r3] ((1, 0) :: st) mem Post = (zvc E n [] d xm_3 50 [r0, r1, r2, r3] ((1, 76) :: st) mem Post) := zrf rfl
theorem s_3_50 {E : yE} {n d : Nat} {mem : yMem} {Post : Option yV → yMem → Prop} {st : List yV} {r0 r1 r2 : Option yV} {x : Int} : zvc E (n + 1) [] d xm_3 50 [r0, r1, r2, some (0, x)] (st) mem Post = (zvc E n [] d xm_3 51 [r0, r1, r2, some (0, x)] ((0, x) :: st) mem Post) := zrf rfl
theorem s_3_51 {E : yE} {n d : Nat} {mem : yMem} {Post : Option yV → yMem → Prop} {st : List yV} {r0 r1 r2 r3 : Option yV} {z a0 : Int} : zvc E (n + 1) [] d xm_3 51 [r0, r1, r2, r3] ((0, a0) :: (1, z) :: st) mem Post = (zio z 1 = true ∧ ysum st ≤ 8 ∧ yCon E d xm_51 [(1, z), (0, a0)] mem (fun v mem' => zgk E d xm_3 54 [r0, r1, r2, r3] st v mem' Post)) := zrf rfl
theorem s_3_54 {E : yE} {n d : Nat} {mem : yMem} {Post : Option yV → yMem → Prop} {r0 r1 r2 r3 : Option yV} {x : Int} : zvc E (n + 1) [] d xm_3 54 [r0, r1, r2, r3] ([(0, x)]) mem Post = (Post (some (0, x)) mem) := zrf rfl
theorem s_5_0 {E : yE} {n d : Nat} {mem : yMem} {Post : Option yV → yMem → Prop} {st : List yV} {r0 r2 r3 r4 : Option yV} {x : Int} : zvc E (n + 1) [] d xm_5 0 [r0, some (0, x), r2, r3, r4] (st) mem Post = (zvc E n [] d xm_5 1 [r0, some (0, x), r2, r3, r4] ((0, x) :: st) mem Post) := zrf rfl
theorem s_5_1 {E : yE} {n d : Nat} {mem : yMem} {Post : Option yV → yMem → Prop} {st : List yV} {r0 r1 r2 r3 r4 : Option yV} {x : Int} : zvc E (n + 1) [] d xm_5 1 [r0, r1, r2, r3, r4] ((0, x) :: st) mem Post = ((w32 x < w32 0 → zvc E n [] d xm_5 23 [r0, r1, r2, r3, r4] (st) mem Post) ∧ (¬ (w32 x < w32 0) → zvc E n [] d xm_5 4 [r0, r1, r2, r3, r4] (st) mem Post)) := zrf rfl
theorem s_5_4 {E : yE} {n d : Nat} {mem : yMem} {Post : Option yV → yMem → Prop} {st : List yV} {r0 r2 r3 r4 : Option yV} {x : Int} : zvc E (n + 1) [] d xm_5 4 [r0, some (0, x), r2, r3, r4] (st) mem Post = (zvc E n [] d xm_5 5 [r0, some (0, x), r2, r3, r4] ((0, x) :: st) mem Post) := zrf rfl
theorem s_5_5 {E : yE} {n d : Nat} {mem : yMem} {Post : Option yV → yMem → Prop} {st : List yV} {r0 r1 r2 r3 r4 : Option yV} : zvc E (n + 1) [] d xm_5 5 [r0, r1, r2, r3, r4] (st) mem Post = (zvc E n [] d xm_5 8 [r0, r1, r2, r3, r4] ((0, 999) :: st) mem Post) := zrf rfl
theorem s_5_8 {E : yE} {n d : Nat} {mem : yMem} {Post : Option yV → yMem → Prop} {st : List yV} {r0 r1 r2 r3 r4 : Option yV} {x y : Int} : zvc E (n + 1) [] d xm_5 8 [r0, r1, r2, r3, r4] ((0, y) :: (0, x) :: st) mem Post = ((w32 y < w32 x → zvc E n [] d xm_5 23 [r0, r1, r2, r3, r4] (st) mem Post) ∧ (¬ (w32 y < w32 x) → zvc E n [] d xm_5 11 [r0, r1, r2, r3, r4] (st) mem Post)) := zrf rfl
theorem s_5_11 {E : yE} {n d : Nat} {mem : yMem} {Post : Option yV → yMem → Prop} {st : List yV} {r1 r2 r3 r4 : Option yV} {x : Int} : zvc E (n + 1) [] d xm_5 11 [some (1, x), r1, r2, r3, r4] (st) mem Post = (zvc E n [] d xm_5 12 [some (1, x), r1, r2, r3, r4] ((1, x) :: st) mem Post) := zrf rfl
theorem s_5_12 {E : yE} {n d : Nat} {mem : yMem} {Post : Option yV → yMem → Prop} {st : List yV} {r0 r1 r2 r3 r4 : Option yV} : zvc E (n + 1) [] d xm_5 12 [r0, r1, r2, r3, r4] ((1, 0) :: st) mem Post = (zvc E n [] d xm_5 15 [r0, r1, r2, r3, r4] ((1, 2) :: st) mem Post) := zrf rfl
theorem s_5_15 {E : yE} {n d : Nat} {mem : yMem} {Post : Option yV → yMem → Prop} {st : List yV} {r0 r1 r3 r4 : Option yV} {x : Int} : zvc E (n + 1) [] d xm_5 15 [r0, r1, some (0, x), r3, r4] (st) mem Post = (zvc E n [] d xm_5 16 [r0, r1, some (0, x), r3, r4] ((0, x) :: st) mem Post) := zrf rfl
theorem s_5_16 {E : yE} {n d : Nat} {mem : yMem} {Post : Option yV → yMem → Prop} {st : List yV} {r0 r1 r2 r4 : Option yV} {x : Int} : zvc E (n + 1) [] d xm_5 16 [r0, r1, r2, some (0, x), r4] (st) mem Post = (zvc E n [] d xm_5 17 [r0, r1, r2, some (0, x), r4] ((0, x) :: st) mem Post) := zrf rfl
theorem s_5_17 {E : yE} {n d : Nat} {mem : yMem} {Post : Option yV → yMem → Prop} {st : List yV} {r0 r1 r2 r3 r4 : Option yV} {z a0 a1 : Int} : zvc E (n + 1) [] (d + 1) xm_5 17 [r0, r1, r2, r3, r4] ((0, a1) :: (0, a0) :: (1, z) :: st) mem Post = (zio z 4 = true ∧ ysum st ≤ 8 ∧ zvc E n [] d xm_78 0 [some (1, z), some (0, a0), some (0, a1)] [] mem (fun v mem' => zvk E n [] (d + 1) xm_5 20 [r0, r1, r2, r3, r4] st v mem' Post)) := zrf rfl
theorem s_5_20 {E : yE} {n d : Nat} {mem : yMem} {Post : Option yV → yMem → Prop} {st : List yV} {r0 r1 r2 r3 r4 : Option yV} {x : Int} : zvc E (n + 1) [] d xm_5 20 [r0, r1, r2, r3, r4] ((0, x) :: st) mem Post = ((¬ w32 x = w32 0 → zvc E n [] d xm_5 25 [r0, r1, r2, r3, r4] (st) mem Post) ∧ (¬ (¬ w32 x = w32 0) → zvc E n [] d xm_5 23 [r0, r1, r2, r3, r4] (st) mem Post)) := zrf rfl
theorem s_5_23 {E : yE} {n d : Nat} {mem : yMem} {Post : Option yV → yMem → Prop} {st : List yV} {r0 r1 r2 r3 r4 : Option yV} : zvc E (n + 1) [] d xm_5 23 [r0, r1, r2, r3, r4] (st) mem Post = (zvc E n [] d xm_5 24 [r0, r1, r2, r3, r4] ((0, (-1)) :: st) mem Post) := zrf rfl
theorem s_5_24 {E : yE} {n d : Nat} {mem : yMem} {Post : Option yV → yMem → Prop} {r0 r1 r2 r3 r4 : Option yV} {x : Int} : zvc E (n + 1) [] d xm_5 24 [r0, r1, r2, r3, r4] ([(0, x)]) mem Post = (Post (some (0, x)) mem) := zrf rfl
theorem s_5_25 {E : yE} {n d : Nat} {mem : yMem} {Post : Option yV → yMem → Prop} {st : List yV} {r1 r2 r3 r4 : Option yV} {x : Int} : zvc E (n + 1) [] d xm_5 25 [some (1, x), r1, r2, r3, r4] (st) mem Post = (zvc E n [] d xm_5 26 [some (1, x), r1, r2, r3, r4] ((1, x) :: st) mem Post) := zrf rfl
theorem s_5_26 {E : yE} {n d : Nat} {mem : yMem} {Post : Option yV → yMem → Prop} {st : List yV} {r0 r1 r2 r3 r4 : Option yV} : zvc E (n + 1) [] d xm_5 26 [r0, r1, r2, r3, r4] ((1, 0) :: st) mem Post = (zvc E n [] d xm_5 29 [r0, r1, r2, r3, r4] ((1, 76) :: st) mem Post) := zrf rfl
theorem s_5_29 {E : yE} {n d : Nat} {mem : yMem} {Post : Option yV → yMem → Prop} {st : List yV} {r0 r1 r2 r3 r4 : Option yV} {z : Int} : zvc E (n + 1) [] d xm_5 29 [r0, r1, r2, r3, r4] ((1, z) :: st) mem Post = (zio z 1 = true ∧ ysum st ≤ 8 ∧ yCon E d xm_57 [(1, z)] mem (fun v mem' => zgk E d xm_5 32 [r0, r1, r2, r3, r4] st v mem' Post)) := zrf rfl
theorem s_5_32 {E : yE} {n d : Nat} {mem : yMem} {Post : Option yV → yMem → Prop} {st : List yV} {r1 r2 r3 r4 : Option yV} {x : Int} : zvc E (n + 1) [] d xm_5 32 [some (1, x), r1, r2, r3, r4] (st) mem Post = (zvc E n [] d xm_5 33 [some (1, x), r1, r2, r3, r4] ((1, x) :: st) mem Post) := zrf rfl
theorem s_5_33 {E : yE} {n d : Nat} {mem : yMem} {Post : Option yV → yMem → Prop} {st : List yV} {r0 r1 r2 r3 r4 : Option yV} : zvc E (n + 1) [] d xm_5 33 [r0, r1, r2, r3, r4] ((1, 0) :: st) mem Post = (zvc E n [] d xm_5 36 [r0, r1, r2, r3, r4] ((1, 76) :: st) mem Post) := zrf rfl
theorem s_5_36 {E : yE} {n d : Nat} {mem : yMem} {Post : Option yV → yMem → Prop} {st : List yV} {r0 r2 r3 r4 : Option yV} {x : Int} : zvc E (n + 1) [] d xm_5 36 [r0, some (0, x), r2, r3, r4] (st) mem Post = (zvc E n [] d xm_5 37 [r0, some (0, x), r2, r3, r4] ((0, x) :: st) mem Post) := zrf rfl
theorem s_5_37 {E : yE} {n d : Nat} {mem : yMem} {Post : Option yV → yMem → Prop} {st : List yV} {r0 r1 r2 r3 r4 : Option yV} {z a0 : Int} : zvc E (n + 1) [] d xm_5 37 [r0, r1, r2, r3, r4] ((0, a0) :: (1, z) :: st) mem Post = (zio z 1 = true ∧ ysum st ≤ 8 ∧ yCon E d xm_50 [(1, z), (0, a0)] mem (fun v mem' => zgk E d xm_5 40 [r0, r1, r2, r3, r4] st v mem' Post)) := zrf rfl
theorem s_5_40 {E : yE} {n d : Nat} {mem : yMem} {Post : Option yV → yMem → Prop} {st : List yV} {r1 r2 r3 r4 : Option yV} {x : Int} : zvc E (n + 1) [] d xm_5 40 [some (1, x), r1, r2, r3, r4] (st) mem Post = (zvc E n [] d xm_5 41 [some (1, x), r1, r2, r3, r4] ((1, x) :: st) mem Post) := zrf rfl
theorem s_5_41 {E : yE} {n d : Nat} {mem : yMem} {Post : Option yV → yMem → Prop} {st : List yV} {r0 r1 r2 r3 r4 : Option yV} : zvc E (n + 1) [] d xm_5 41 [r0, r1, r2, r3, r4] ((1, 0) :: st) mem Post = (zvc E n [] d xm_5 44 [r0, r1, r2, r3, r4] ((1, 76) :: st) mem Post) := zrf rfl
theorem s_5_44 {E : yE} {n d : Nat} {mem : yMem} {Post : Option yV → yMem → Prop} {st : List yV} {r0 r1 r2 r3 r4 : Option yV} : zvc E (n + 1) [] d xm_5 44 [r0, r1, r2, r3, r4] ((1, 76) :: st) mem Post = (zvc E n [] d xm_5 47 [r0, r1, r2, r3, r4] ((1, 86) :: st) mem Post) := zrf rfl
theorem s_5_47 {E : yE} {n d : Nat} {mem : yMem} {Post : Option yV → yMem → Prop} {st : List yV} {r0 r1 r3 r4 : Option yV} {x : Int} : zvc E (n + 1) [] d xm_5 47 [r0, r1, some (0, x), r3, r4] (st) mem Post = (zvc E n [] d xm_5 48 [r0, r1, some (0, x), r3, r4] ((0, x) :: st) mem Post) := zrf rfl
theorem s_5_48 {E : yE} {n d : Nat} {mem : yMem} {Post : Option yV → yMem → Prop} {st : List yV} {r0 r1 r2 r4 : Option yV} {x : Int} : zvc E (n + 1) [] d xm_5 48 [r0, r1, r2, some (0, x), r4] (st) mem Post = (zvc E n [] d xm_5 49 [r0, r1, r2, some (0, x), r4] ((0, x) :: st) mem Post) := zrf rfl
theorem s_5_49 {E : yE} {n d : Nat} {mem : yMem} {Post : Option yV → yMem → Prop} {st : List yV} {r0 r1 r2 r3 r4 : Option yV} {a0 a1 : Int} : zvc E (n + 1) [] (d + 1) xm_5 49 [r0, r1, r2, r3, r4] ((0, a1) :: (0, a0) :: st) mem Post = (True ∧ ysum st ≤ 8 ∧ zvc E n [] d xm_34 0 [some (0, a0), some (0, a1)] [] mem (fun v mem' => zvk E n [] (d + 1) xm_5 52 [r0, r1, r2, r3, r4] st v mem' Post)) := zrf rfl
theorem s_5_52 {E : yE} {n d : Nat} {mem : yMem} {Post : Option yV → yMem → Prop} {st : List yV} {r0 r1 r2 r3 r4 : Option yV} {z j : Int} : zvc E (n + 1) [] d xm_5 52 [r0, r1, r2, r3, r4] ((0, j) :: (1, z) :: st) mem Post = ((0 ≤ w32 j ∧ w32 j < ((zar z 0 : Nat) : Int)) ∧ zvc E n [] d xm_5 53 [r0, r1, r2, r3, r4] ((0, mem z.toNat (w32 j).toNat) :: st) mem Post) := zrf rfl
theorem s_5_53n {E : yE} {n d : Nat} {mem : yMem} {Post : Option yV → yMem → Prop} {st : List yV} {r0 r1 r2 r4 : Option yV} {x : Int} : zvc E (n + 1) [] d xm_5 53 [r0, r1, r2, none, r4] ((0, x) :: st) mem Post = (zvc E n [] d xm_5 55 [r0, r1, r2, none, some (0, x)] (st) mem Post) := zrf rfl
theorem s_5_53i {E : yE} {n d : Nat} {mem : yMem} {Post : Option yV → yMem → Prop} {st : List yV} {r0 r1 r2 r4 : Option yV} {x w : Int} : zvc E (n + 1) [] d xm_5 53 [r0, r1, r2, some (0, w), r4] ((0, x) :: st) mem Post = (zvc E n [] d xm_5 55 [r0, r1, r2, some (0, w), some (0, x)] (st) mem Post) := zrf rfl
theorem s_5_53p {E : yE} {n d : Nat} {mem : yMem} {Post : Option yV → yMem → Prop} {st : List yV} {r0 r1 r2 r4 : Option yV} {x w : Int} : zvc E (n + 1) [] d xm_5 53 [r0, r1, r2, some (1, w), r4] ((0, x) :: st) mem Post = (zvc E n [] d xm_5 55 [r0, r1, r2, some (1, w), some (0, x)] (st) mem Post) := zrf rfl
theorem s_5_53j {E : yE} {n d : Nat} {mem : yMem} {Post : Option yV → yMem → Prop} {st : List yV} {r0 r1 r2 r3 r4 : Option yV} {x : Int} : zvc E (n + 1) [] d xm_5 53 [r0, r1, r2, r3, r4] ((0, x) :: st) mem Post = (zvc E n [] d xm_5 55 [r0, r1, r2, znl r3, some (0, x)] (st) mem Post) := zrf rfl
theorem s_5_55 {E : yE} {n d : Nat} {mem : yMem} {Post : Option yV → yMem → Prop} {st : List yV} {r0 r1 r2 r3 : Option yV} {x : Int} : zvc E (n + 1) [] d xm_5 55 [r0, r1, r2, r3, some (0, x)] (st) mem Post = (zvc E n [] d xm_5 57 [r0, r1, r2, r3, some (0, x)] ((0, x) :: st) mem Post) := zrf rfl
theorem s_5_57 {E : yE} {n d : Nat} {mem : yMem} {Post : Option yV → yMem → Prop} {st : List yV} {r0 r1 r2 r3 r4 : Option yV} : zvc E (n + 1) [] d xm_5 57 [r0, r1, r2, r3, r4] (st) mem Post = (zvc E n [] d xm_5 58 [r0, r1, r2, r3, r4] ((0, (-1)) :: st) mem Post) := zrf rfl
theorem s_5_58 {E : yE} {n d : Nat} {mem : yMem} {Post : Option yV → yMem → Prop} {st : List yV} {r0 r1 r2 r3 r4 : Option yV} {x y : Int} : zvc E (n + 1) [] d xm_5 58 [r0, r1, r2, r3, r4] ((0, y) :: (0, x) :: st) mem Post = ((¬ w32 x = w32 y → zvc E n [] d xm_5 66 [r0, r1, r2, r3, r4] (st) mem Post) ∧ (¬ (¬ w32 x = w32 y) → zvc E n [] d xm_5 61 [r0, r1, r2, r3, r4] (st) mem Post)) := zrf rfl
theorem s_5_61 {E : yE} {n d : Nat} {mem : yMem} {Post : Option yV → yMem → Prop} {st : List yV} {r0 r1 r2 r3 r4 : Option yV} : zvc E (n + 1) [] d xm_5 61 [r0, r1, r2, r3, r4] (st) mem Post = (zvc E n [] d xm_5 63 [r0, r1, r2, r3, r4] ((0, (-2)) :: st) mem Post) := zrf rfl
theorem s_5_63 {E : yE} {n d : Nat} {mem : yMem} {Post : Option yV → yMem → Prop} {st : List yV} {r0 r1 r2 r3 r4 : Option yV} : zvc E (n + 1) [] d xm_5 63 [r0, r1, r2, r3, r4] (st) mem Post = (zvc E n [] d xm_5 68 [r0, r1, r2, r3, r4] (st) mem Post) := zrf rfl
theorem s_5_66 {E : yE} {n d : Nat} {mem : yMem} {Post : Option yV → yMem → Prop} {st : List yV} {r0 r1 r2 r3 : Option yV} {x : Int} : zvc E (n + 1) [] d xm_5 66 [r0, r1, r2, r3, some (0, x)] (st) mem Post = (zvc E n [] d xm_5 68 [r0, r1, r2, r3, some (0, x)] ((0, x) :: st) mem Post) := zrf rfl
theorem s_5_68 {E : yE} {n d : Nat} {mem : yMem} {Post : Option yV → yMem → Prop} {r0 r1 r2 r3 r4 : Option yV} {x : Int} : zvc E (n + 1) [] d xm_5 68 [r0, r1, r2, r3, r4] ([(0, x)]) mem Post = (Post (some (0, x)) mem) := zrf rfl
theorem e_50 {E : yE} {d : Nat} {mem : yMem} {Q : Option yV → yMem → Prop} {z a0 : Int} (h : zG E d xm_50 0 [some (1, z), some (0, a0), none, none, none, none, none] [] mem Q) : yCon E (d + 1) xm_50 [(1, z), (0, a0)] mem Q := zcon_of xmo_50 (Nat.le_of_ble_eq_true rfl) h
theorem e_3 {E : yE} {d : Nat} {mem : yMem} {Q : Option yV → yMem → Prop} {z a0 a1 : Int} (h : zG E d xm_3 0 [some (1, z), some (0, a0), some (0, a1), none] [] mem Q) : yCon E (d + 1) xm_3 [(1, z), (0, a0), (0, a1)] mem Q := zcon_of xmo_3 (Nat.le_of_ble_eq_true rfl) h
theorem e_5 {E : yE} {d : Nat} {mem : yMem} {Q : Option yV → yMem → Prop} {z a0 a1 a2 : Int} (h : zG E d xm_5 0 [some (1, z), some (0, a0), some (0, a1), some (0, a2), none] [] mem Q) : yCon E (d + 1) xm_5 [(1, z), (0, a0), (0, a1), (0, a2)] mem Q := zcon_of xmo_5 (Nat.le_of_ble_eq_true rfl) h

/-! BEST and CHOSEN, the class's side -/
section KB
variable {E : yE} {mem : yMem} {Q : Option yV → yMem → Prop} {D : dDc} {W : dU} {X wk : Int} {e k : Nat} {VE : Int}
theorem z5 : ∀ j : Nat, j < 5 → ([81, 82, 83, 84, 85] : List Nat)[j]? = some (81 + j) ∧ zar ((81 + j : Nat) : Int) 0 = 97 := by
  intro j hj
  rcases (by omega : j = 0 ∨ j = 1 ∨ j = 2 ∨ j = 3 ∨ j = 4) with rfl | rfl | rfl | rfl | rfl <;> exact ⟨rfl, rfl⟩
theorem x_most (hE : yEok E) {D0 : Nat} (hD : 1 ≤ D0) {mo : Int} (hQ : ∀ r (t : Nat), w32 r = (t : Int) → t ≤ 96 → (t = 0 ∨ w32 (mem 81 t) ≤ w32 mo) → (∀ u, t < u → u ≤ 96 → ¬ w32 (mem 81 u) ≤ w32 mo) → Q (some (0, r)) mem) : yCon E D0 xm_55 [(1, 76), (0, mo)] mem Q := by
  obtain ⟨d, rfl⟩ := Nat.exists_eq_add_of_le' hD
  have lp : ∀ (t : Nat) (T : Int), t ≤ 96 → w32 T = (t : Int) → (∀ u, t < u → u ≤ 96 → ¬ w32 (mem 81 u) ≤ w32 mo) → zG E d xm_55 3 [some (1, 76), some (0, mo), some (0, T)] [] mem Q := by
    intro t
    induction t with
    | zero =>
      intro T ht hT hu
      refine zgo_ok (n := 90) hE xmo_55 (cs := zc_55) ?_
      simp only [ynok_30, ynok_31, w32c_0, w32c_1, w32c_2, w32c_3, w32c_4, w32c_5, w32c_6, w32c_7, w32c_8, w32c_9, w32c_10, w32c_11, w32c_12, w32c_13, w32c_14, w32c_m1, w32c_m2, w32c_118, Int.reduceAdd, Int.reduceSub, Int.reduceMul, yput_s, yput_n, znl_n, znl_0, znl_1, znl_4, ysum_n, ysum_0, ysum_1, ysum_4, true_and, and_true, Nat.reduceAdd, Nat.reduceLeDiff, true_implies, eq_self, true_or, or_true, or_false, false_or, not_true_eq_false, not_false_eq_true, false_implies, implies_true, yset_s, yset_o, yset_d, ne_eq, Nat.reduceEqDiff, Int.reduceToNat, Int.reduceEq, Int.reduceLE, Int.reduceLT, Classical.not_not, Nat.reduceLT, ↓zvk_s, ↓zvk_n, ↓s_55_0, ↓s_55_2n, ↓s_55_2i, ↓s_55_2p, ↓g_55_3, ↓k_55_3, ↓s_55_4, ↓s_55_7, ↓s_55_8, ↓s_55_11, ↓s_55_12, ↓s_55_13, ↓s_55_14, ↓s_55_15, ↓s_55_16, ↓s_55_19, ↓s_55_20, ↓s_55_21n, ↓s_55_21i, ↓s_55_21p, ↓s_55_24, ↓s_55_27, ↓s_55_28, w32c_96, zar_80, zia_80, zln_80, zit_80, zio_76]
      exact ⟨fun _ => hQ 0 0 w32c_0 (Nat.zero_le _) (Or.inl rfl) hu, fun hh => absurd (show w32 T ≤ 0 by omega) hh⟩
    | succ t ih =>
      intro T ht hT hu
      have hT1 : w32 (T + -1) = (t : Int) := by
        rw [w32_ad (by rw [w32c_m1]; omega) (by rw [w32c_m1]; omega), w32c_m1]
        omega
      have Tt := w32_t hT
      have z1 : zar ((81 : Nat) : Int) 0 = 97 := rfl
      have z2 : zar 81 0 = 97 := rfl
      have G1 : w32 mo < w32 (mem 81 (w32 T).toNat) → zG E d xm_55 3 [some (1, 76), some (0, mo), some (0, T + -1)] [] mem Q := fun z => ih _ (by omega) hT1 (fun u h1 h2 => by
        by_cases eu : u = t + 1
        · rw [eu, ← Tt]
          omega
        · exact hu u (by omega) h2)
      have G2 : ¬ w32 mo < w32 (mem 81 (w32 T).toNat) → Q (some (0, T)) mem := fun z => hQ T (t + 1) hT ht (Or.inr (by rw [← Tt]; omega)) hu
      refine zgo_ok (n := 90) hE xmo_55 (cs := zc_55) ?_
      simp only [ynok_30, ynok_31, w32c_0, w32c_1, w32c_2, w32c_3, w32c_4, w32c_5, w32c_6, w32c_7, w32c_8, w32c_9, w32c_10, w32c_11, w32c_12, w32c_13, w32c_14, w32c_m1, w32c_m2, w32c_118, Int.reduceAdd, Int.reduceSub, Int.reduceMul, yput_s, yput_n, znl_n, znl_0, znl_1, znl_4, ysum_n, ysum_0, ysum_1, ysum_4, true_and, and_true, Nat.reduceAdd, Nat.reduceLeDiff, true_implies, eq_self, true_or, or_true, or_false, false_or, not_true_eq_false, not_false_eq_true, false_implies, implies_true, yset_s, yset_o, yset_d, ne_eq, Nat.reduceEqDiff, Int.reduceToNat, Int.reduceEq, Int.reduceLE, Int.reduceLT, Classical.not_not, Nat.reduceLT, ↓zvk_s, ↓zvk_n, ↓s_55_0, ↓s_55_2n, ↓s_55_2i, ↓s_55_2p, ↓g_55_3, ↓k_55_3, ↓s_55_4, ↓s_55_7, ↓s_55_8, ↓s_55_11, ↓s_55_12, ↓s_55_13, ↓s_55_14, ↓s_55_15, ↓s_55_16, ↓s_55_19, ↓s_55_20, ↓s_55_21n, ↓s_55_21i, ↓s_55_21p, ↓s_55_24, ↓s_55_27, ↓s_55_28, w32c_96, zar_80, zia_80, zln_80, zit_80, zio_76]
      refine ⟨fun hh => absurd hh (by omega), fun _ => ⟨5, [81, 82, 83, 84, 85], 81, rfl, ?_⟩⟩
      repeat' first
        | exact G1
        | exact G2
        | rfl
        | decide
        | omega
        | refine And.intro ?_ ?_
  refine e_55 ?_
  refine zvc_ok hE 90 zc_55 _ _ _ _ _ _ _ xmo_55 ?_
  simp only [ynok_30, ynok_31, w32c_0, w32c_1, w32c_2, w32c_3, w32c_4, w32c_5, w32c_6, w32c_7, w32c_8, w32c_9, w32c_10, w32c_11, w32c_12, w32c_13, w32c_14, w32c_m1, w32c_m2, w32c_118, Int.reduceAdd, Int.reduceSub, Int.reduceMul, yput_s, yput_n, znl_n, znl_0, znl_1, znl_4, ysum_n, ysum_0, ysum_1, ysum_4, true_and, and_true, Nat.reduceAdd, Nat.reduceLeDiff, true_implies, eq_self, true_or, or_true, or_false, false_or, not_true_eq_false, not_false_eq_true, false_implies, implies_true, yset_s, yset_o, yset_d, ne_eq, Nat.reduceEqDiff, Int.reduceToNat, Int.reduceEq, Int.reduceLE, Int.reduceLT, Classical.not_not, Nat.reduceLT, ↓zvk_s, ↓zvk_n, ↓s_55_0, ↓s_55_2n, ↓s_55_2i, ↓s_55_2p, ↓g_55_3, ↓k_55_3, ↓s_55_4, ↓s_55_7, ↓s_55_8, ↓s_55_11, ↓s_55_12, ↓s_55_13, ↓s_55_14, ↓s_55_15, ↓s_55_16, ↓s_55_19, ↓s_55_20, ↓s_55_21n, ↓s_55_21i, ↓s_55_21p, ↓s_55_24, ↓s_55_27, ↓s_55_28, w32c_96, zar_80, zia_80, zln_80, zit_80, zio_76]
  exact lp 96 96 (Nat.le_refl _) (by decide) (fun u h1 h2 => absurd h1 (by omega))
theorem x_crowns (hE : yEok E) {D0 : Nat} (hD : 1 ≤ D0) {n : Int} {t : Nat} (hn : w32 n = (t : Int)) (ht : t ≤ 96) (hQ : Q (some (0, mem 81 t)) mem) : yCon E D0 xm_51 [(1, 76), (0, n)] mem Q := by
  obtain ⟨d, rfl⟩ := Nat.exists_eq_add_of_le' hD
  have Tt := w32_t hn
  have z1 : zar ((81 : Nat) : Int) 0 = 97 := rfl
  have z2 : zar 81 0 = 97 := rfl
  refine e_51 ?_
  refine zvc_ok hE 60 [] _ _ _ _ _ _ _ xmo_51 ?_
  have G : Q (some (0, mem 81 (w32 n).toNat)) mem := by
    rw [Tt]
    exact hQ
  simp only [ynok_30, ynok_31, w32c_0, w32c_1, w32c_2, w32c_3, w32c_4, w32c_5, w32c_6, w32c_7, w32c_8, w32c_9, w32c_10, w32c_11, w32c_12, w32c_13, w32c_14, w32c_m1, w32c_m2, w32c_118, Int.reduceAdd, Int.reduceSub, Int.reduceMul, yput_s, yput_n, znl_n, znl_0, znl_1, znl_4, ysum_n, ysum_0, ysum_1, ysum_4, true_and, and_true, Nat.reduceAdd, Nat.reduceLeDiff, true_implies, eq_self, true_or, or_true, or_false, false_or, not_true_eq_false, not_false_eq_true, false_implies, implies_true, yset_s, yset_o, yset_d, ne_eq, Nat.reduceEqDiff, Int.reduceToNat, Int.reduceEq, Int.reduceLE, Int.reduceLT, Classical.not_not, Nat.reduceLT, ↓zvk_s, ↓zvk_n, ↓s_51_0, ↓s_51_1, ↓s_51_4, ↓s_51_5, ↓s_51_6, ↓s_51_7, ↓s_51_8, zar_80, zia_80, zln_80, zit_80, zio_76]
  refine ⟨5, [81, 82, 83, 84, 85], 81, rfl, ?_⟩
  repeat' first
    | exact G
    | rfl
    | decide
    | omega
    | refine And.intro ?_ ?_
theorem x_isbest (hE : yEok E) {D0 : Nat} (hD : 1 ≤ D0) {l : Int} {n : Nat} (hVE : w32 VE = (e : Int)) (he : e ≤ 3) (hl : w32 l = (n : Int)) (hn : n ≤ 96) (hg : 0 ≤ w32 (mem 76 8) ∧ w32 (mem 76 8) ≤ 24) (hc : 0 ≤ w32 (mem 76 9) ∧ w32 (mem 76 9) ≤ 2997) (hr : ∀ t, t ≤ 96 → 0 ≤ w32 (mem (82 + e) t) ∧ w32 (mem (82 + e) t) ≤ 1000000) (yes : w32 (mem 76 8) ≤ (n : Int) → w32 (mem 76 9) + w32 (mem (82 + e) ((n : Int) - w32 (mem 76 8)).toNat) = w32 (mem (81 + e) n) → Q (some (0, 1)) mem) (no : ¬ (w32 (mem 76 8) ≤ (n : Int) ∧ w32 (mem 76 9) + w32 (mem (82 + e) ((n : Int) - w32 (mem 76 8)).toNat) = w32 (mem (81 + e) n)) → Q (some (0, 0)) mem) : yCon E D0 xm_53 [(1, 76), (0, VE), (0, l)] mem Q := by
  obtain ⟨d, rfl⟩ := Nat.exists_eq_add_of_le' hD
  have e1 : w32 (VE + 1) = ((e + 1 : Nat) : Int) := w32_s1 hVE (by omega)
  have e1t := w32_t e1
  have Et := w32_t hVE
  have lt := w32_t hl
  have e2 : w32 (l - mem 76 8) = (n : Int) - w32 (mem 76 8) := by rw [w32_sb (by omega) (by omega), hl]
  obtain ⟨g1, g2⟩ := z5 (e + 1) (by omega)
  obtain ⟨g3, g4⟩ := z5 e (by omega)
  refine e_53 ?_
  refine zvc_ok hE 60 [] _ _ _ _ _ _ _ xmo_53 ?_
  simp only [ynok_30, ynok_31, w32c_0, w32c_1, w32c_2, w32c_3, w32c_4, w32c_5, w32c_6, w32c_7, w32c_8, w32c_9, w32c_10, w32c_11, w32c_12, w32c_13, w32c_14, w32c_m1, w32c_m2, w32c_118, Int.reduceAdd, Int.reduceSub, Int.reduceMul, yput_s, yput_n, znl_n, znl_0, znl_1, znl_4, ysum_n, ysum_0, ysum_1, ysum_4, true_and, and_true, Nat.reduceAdd, Nat.reduceLeDiff, true_implies, eq_self, true_or, or_true, or_false, false_or, not_true_eq_false, not_false_eq_true, false_implies, implies_true, yset_s, yset_o, yset_d, ne_eq, Nat.reduceEqDiff, Int.reduceToNat, Int.reduceEq, Int.reduceLE, Int.reduceLT, Classical.not_not, Nat.reduceLT, ↓zvk_s, ↓zvk_n, ↓s_53_0, ↓s_53_1, ↓s_53_4, ↓s_53_5, ↓s_53_8, ↓s_53_9, ↓s_53_12, ↓s_53_13, ↓s_53_16, ↓s_53_17, ↓s_53_18, ↓s_53_19, ↓s_53_20, ↓s_53_21, ↓s_53_22, ↓s_53_25, ↓s_53_26, ↓s_53_27, ↓s_53_28, ↓s_53_29, ↓s_53_32, ↓s_53_33, ↓s_53_34, ↓s_53_35, ↓s_53_36, ↓s_53_39, ↓s_53_40, ↓s_53_43, ↓s_53_44, zar_80, zia_80, zln_80, zit_80, zio_76]
  refine ⟨fun z => no (fun c => by omega), fun h => ?_⟩
  refine ⟨5, [81, 82, 83, 84, 85], 81 + (e + 1), rfl, by omega, by omega, by rw [e1t]; exact g1, ?_⟩
  rw [g2]
  refine ⟨⟨by omega, by omega⟩, ?_⟩
  refine ⟨5, [81, 82, 83, 84, 85], 81 + e, rfl, by omega, by omega, by rw [Et]; exact g3, ?_⟩
  rw [g4, Int.toNat_natCast, Int.toNat_natCast, e2, lt, show 81 + (e + 1) = 82 + e by omega]
  have b1 := hr ((n : Int) - w32 (mem 76 8)).toNat (by omega)
  have es : w32 (mem 76 9 + mem (82 + e) ((n : Int) - w32 (mem 76 8)).toNat) = w32 (mem 76 9) + w32 (mem (82 + e) ((n : Int) - w32 (mem 76 8)).toNat) := w32_ad (by omega) (by omega)
  rw [es]
  exact ⟨⟨by omega, by omega⟩, fun z => no (fun c => z c.2), fun z => yes (by omega) z⟩
/-- where weighed, the tables are those of the document and of the world now -/
def wgI (m : yMem) (D : dDc) (W : dU) : Prop := ¬ w32 (m 76 10) = 0 → wgH m D (uX W) (uK W) 0
theorem wgH_f {b m : yMem} (hl : ∀ e, e < D.2.2.1.length → sPs D e ≤ 3) (h4 : D.2.2.1.length ≤ 4) (h6 : D.2.1.length ≤ 6) (h : wgH b D X wk k) (f : ∀ i j, ((i = 77 ∨ i = 78) ∧ j < 72) ∨ (81 ≤ i ∧ i ≤ 85 ∧ j < 97) → w32 (m i j) = w32 (b i j)) : wgH m D X wk k := by
  refine ⟨fun e' h1 h2 t ht => ?_, fun e' q h1 h2 h3 v hv => ?_⟩
  · rw [f (81 + e') t (by omega)]
    exact h.1 e' h1 h2 t ht
  · have := hl e' h2
    rw [f 77 _ (by omega), f 78 _ (by omega)]
    exact h.2 e' q h1 h2 h3 v hv
/-- what the class's best leaves -/
def cbQ (mem m : yMem) (D : dDc) (W : dU) : Prop := wgF mem m ∧ wgI m D W
theorem x_best (hE : yEok E) {D0 : Nat} (hD : 12 ≤ D0) {cr wh : Int} (hW : cW mem 57 W) (h : cDh mem D) (hk : dOk D) (XX : 0 ≤ uX W ∧ uX W < 64) (hI : wgI mem D W) (hQ : ∀ r m, cbQ mem m D W → sBst D (uX W) (uK W) (w32 cr) (w32 wh) (w32 r) → Q (some (0, r)) m) : yCon E D0 xm_3 [(1, 0), (0, cr), (0, wh)] mem Q := by
  obtain ⟨d, rfl⟩ := Nat.exists_eq_add_of_le' hD
  obtain ⟨-, ⟨n2, n2'⟩, ⟨n3, n3'⟩, -⟩ := cTb_n h
  have hX := hW.2.2.2.2.2.2.2.2.2.2.1
  have hK := hW.2.2.2.2.2.2.2.1
  have q0 : ¬ ((0 ≤ w32 cr ∧ w32 cr ≤ 999) ∧ 0 ≤ w32 wh ∧ w32 wh ≤ 1) → Q (some (0, -1)) mem := fun z => hQ _ mem ⟨fun _ _ _ => rfl, hI⟩ (by
    unfold sBst
    rw [if_neg z]
    exact w32c_m1)
  refine e_3 ?_
  refine zvc_ok hE 90 [] _ _ _ _ _ _ _ xmo_3 ?_
  simp only [ynok_30, ynok_31, w32c_0, w32c_1, w32c_2, w32c_3, w32c_4, w32c_5, w32c_6, w32c_7, w32c_8, w32c_9, w32c_10, w32c_11, w32c_12, w32c_13, w32c_14, w32c_m1, w32c_m2, w32c_118, Int.reduceAdd, Int.reduceSub, Int.reduceMul, yput_s, yput_n, znl_n, znl_0, znl_1, znl_4, ysum_n, ysum_0, ysum_1, ysum_4, true_and, and_true, Nat.reduceAdd, Nat.reduceLeDiff, true_implies, eq_self, true_or, or_true, or_false, false_or, not_true_eq_false, not_false_eq_true, false_implies, implies_true, yset_s, yset_o, yset_d, ne_eq, Nat.reduceEqDiff, Int.reduceToNat, Int.reduceEq, Int.reduceLE, Int.reduceLT, Classical.not_not, Nat.reduceLT, ↓zvk_s, ↓zvk_n, ↓s_3_0, ↓s_3_1, ↓s_3_4, ↓s_3_5, ↓s_3_8, ↓s_3_11, ↓s_3_12, ↓s_3_15, ↓s_3_16, ↓s_3_17, ↓s_3_20, ↓s_3_21, ↓s_3_22, ↓s_3_23, ↓s_3_26, ↓s_3_29, ↓s_3_30, ↓s_3_33, ↓s_3_34, ↓s_3_37n, ↓s_3_37i, ↓s_3_37p, ↓s_3_38, ↓s_3_39, ↓s_3_42, ↓s_3_43, ↓s_3_46, ↓s_3_47, ↓s_3_50, ↓s_3_51, ↓s_3_54, w32c_999, zio_0, zio_76]
  refine ⟨fun z => q0 (fun c => by omega), fun z1 => ⟨fun z => q0 (fun c => by omega), fun z2 => ⟨fun z => q0 (fun c => by omega), fun z3 => ⟨fun z4 => ?_, fun z => q0 (fun c => by omega)⟩⟩⟩⟩
  have z : (0 ≤ w32 cr ∧ w32 cr ≤ 999) ∧ 0 ≤ w32 wh ∧ w32 wh ≤ 1 := ⟨⟨by omega, by omega⟩, by omega, by omega⟩
  refine x_weigh hE (by omega) hX XX.1 XX.2 hK h hk hI (fun m F f g => ?_)
  refine zgk_n hE xmo_3 90 [] ?_
  simp only [ynok_30, ynok_31, w32c_0, w32c_1, w32c_2, w32c_3, w32c_4, w32c_5, w32c_6, w32c_7, w32c_8, w32c_9, w32c_10, w32c_11, w32c_12, w32c_13, w32c_14, w32c_m1, w32c_m2, w32c_118, Int.reduceAdd, Int.reduceSub, Int.reduceMul, yput_s, yput_n, znl_n, znl_0, znl_1, znl_4, ysum_n, ysum_0, ysum_1, ysum_4, true_and, and_true, Nat.reduceAdd, Nat.reduceLeDiff, true_implies, eq_self, true_or, or_true, or_false, false_or, not_true_eq_false, not_false_eq_true, false_implies, implies_true, yset_s, yset_o, yset_d, ne_eq, Nat.reduceEqDiff, Int.reduceToNat, Int.reduceEq, Int.reduceLE, Int.reduceLT, Classical.not_not, Nat.reduceLT, ↓zvk_s, ↓zvk_n, ↓s_3_0, ↓s_3_1, ↓s_3_4, ↓s_3_5, ↓s_3_8, ↓s_3_11, ↓s_3_12, ↓s_3_15, ↓s_3_16, ↓s_3_17, ↓s_3_20, ↓s_3_21, ↓s_3_22, ↓s_3_23, ↓s_3_26, ↓s_3_29, ↓s_3_30, ↓s_3_33, ↓s_3_34, ↓s_3_37n, ↓s_3_37i, ↓s_3_37p, ↓s_3_38, ↓s_3_39, ↓s_3_42, ↓s_3_43, ↓s_3_46, ↓s_3_47, ↓s_3_50, ↓s_3_51, ↓s_3_54, w32c_999, zio_0, zio_76]
  refine x_most hE (by omega) (fun r t hr ht h1 h2 => ?_)
  have R : ∀ t : Nat, t ≤ 96 → bF D (uX W) (uK W) D.2.2.1.length (t : Int) (w32 (m 81 t)) := fun t ht => by
    have := g.1 0 (Nat.le_refl _) (Nat.zero_le _) t ht
    rw [Nat.sub_zero] at this
    exact this
  have hi : ∀ n c, bAc D (uX W) (uK W) D.2.2.1.length n c → n ≤ 96 := fun n c a => by
    have := bAc_hi h hk _ n c (Nat.le_refl _) a
    omega
  have B := bB_of (b := w32 cr) hk z.1.1 (by omega) (R := fun t => w32 (m 81 t)) R hi (bAc_00 n2' _ (Nat.le_refl _)) ht h1 h2
  refine zgk_s hE xmo_3 90 [] ?_
  simp only [ynok_30, ynok_31, w32c_0, w32c_1, w32c_2, w32c_3, w32c_4, w32c_5, w32c_6, w32c_7, w32c_8, w32c_9, w32c_10, w32c_11, w32c_12, w32c_13, w32c_14, w32c_m1, w32c_m2, w32c_118, Int.reduceAdd, Int.reduceSub, Int.reduceMul, yput_s, yput_n, znl_n, znl_0, znl_1, znl_4, ysum_n, ysum_0, ysum_1, ysum_4, true_and, and_true, Nat.reduceAdd, Nat.reduceLeDiff, true_implies, eq_self, true_or, or_true, or_false, false_or, not_true_eq_false, not_false_eq_true, false_implies, implies_true, yset_s, yset_o, yset_d, ne_eq, Nat.reduceEqDiff, Int.reduceToNat, Int.reduceEq, Int.reduceLE, Int.reduceLT, Classical.not_not, Nat.reduceLT, ↓zvk_s, ↓zvk_n, ↓s_3_0, ↓s_3_1, ↓s_3_4, ↓s_3_5, ↓s_3_8, ↓s_3_11, ↓s_3_12, ↓s_3_15, ↓s_3_16, ↓s_3_17, ↓s_3_20, ↓s_3_21, ↓s_3_22, ↓s_3_23, ↓s_3_26, ↓s_3_29, ↓s_3_30, ↓s_3_33, ↓s_3_34, ↓s_3_37n, ↓s_3_37i, ↓s_3_37p, ↓s_3_38, ↓s_3_39, ↓s_3_42, ↓s_3_43, ↓s_3_46, ↓s_3_47, ↓s_3_50, ↓s_3_51, ↓s_3_54, w32c_999, zio_0, zio_76]
  refine ⟨fun w0 => ?_, fun w0 => ?_⟩
  · refine x_crowns hE (by omega) hr ht ?_
    refine zgk_s hE xmo_3 90 [] ?_
    simp only [ynok_30, ynok_31, w32c_0, w32c_1, w32c_2, w32c_3, w32c_4, w32c_5, w32c_6, w32c_7, w32c_8, w32c_9, w32c_10, w32c_11, w32c_12, w32c_13, w32c_14, w32c_m1, w32c_m2, w32c_118, Int.reduceAdd, Int.reduceSub, Int.reduceMul, yput_s, yput_n, znl_n, znl_0, znl_1, znl_4, ysum_n, ysum_0, ysum_1, ysum_4, true_and, and_true, Nat.reduceAdd, Nat.reduceLeDiff, true_implies, eq_self, true_or, or_true, or_false, false_or, not_true_eq_false, not_false_eq_true, false_implies, implies_true, yset_s, yset_o, yset_d, ne_eq, Nat.reduceEqDiff, Int.reduceToNat, Int.reduceEq, Int.reduceLE, Int.reduceLT, Classical.not_not, Nat.reduceLT, ↓zvk_s, ↓zvk_n, ↓s_3_0, ↓s_3_1, ↓s_3_4, ↓s_3_5, ↓s_3_8, ↓s_3_11, ↓s_3_12, ↓s_3_15, ↓s_3_16, ↓s_3_17, ↓s_3_20, ↓s_3_21, ↓s_3_22, ↓s_3_23, ↓s_3_26, ↓s_3_29, ↓s_3_30, ↓s_3_33, ↓s_3_34, ↓s_3_37n, ↓s_3_37i, ↓s_3_37p, ↓s_3_38, ↓s_3_39, ↓s_3_42, ↓s_3_43, ↓s_3_46, ↓s_3_47, ↓s_3_50, ↓s_3_51, ↓s_3_54, w32c_999, zio_0, zio_76]
    refine hQ _ m ⟨F, fun _ => g⟩ ?_
    unfold sBst
    rw [if_pos z]
    exact ⟨_, _, B, by rw [if_neg w0]⟩
  · refine hQ _ m ⟨F, fun _ => g⟩ ?_
    unfold sBst
    rw [if_pos z]
    exact ⟨_, _, B, by rw [if_pos w0, hr]⟩
def hoF (b m : yMem) : Prop := ∀ i j, i ≠ 86 → ¬ (i = 76 ∧ (j = 8 ∨ j = 9)) → m i j = b i j
theorem hoF_D {b m : yMem} (h : hoF b m) (hD : cDh b D) : cDh m D := cDh_w hD (fun c j ht => by
  have := tkS_c ht
  rw [h c j (by omega) (by omega)])
theorem hoF_H {b m m0 : yMem} (hD : cDh m0 D) (h : hoF b m) (g : wgH b D X wk k) : wgH m D X wk k := wgH_f (fun e he => (cTb_e hD he).2) (cTb_n hD).2.2.1.2 (cTb_n hD).2.1.2 g (fun i j hij => by rw [h i j (by omega) (by omega)])
/-- the row that is chosen for a VERSE stands -/
def hoS (m : yMem) (D : dDc) (X wk mo : Int) (e : Nat) : Prop := ∃ b w, bLe D X wk e mo b ∧ bFr D X wk e b w ∧ ∀ q, q < sPs D e → fiS m D e w q
theorem x_ch_in (hE : yEok E) {d : Nat} {mo L b c : Int} {n : Nat} (hX : w32 (mem 57 10) = X) (h0 : 0 ≤ X) (h1 : X < 64) (h : cDh mem D) (hk : dOk D) (he : e < D.2.2.1.length) (hVE : w32 VE = (e : Int)) (hL : w32 L = (n : Int)) (hn : n ≤ 96) (g : wgH mem D X wk 0) (hB : bB D X wk (D.2.2.1.length - e) b (n : Int) c) (hQ : ∀ m w r4 r5 r6, fiF e mem m → w < bNb D ^ sPs D e → bKr D X wk e (n : Int) c (fun t => w32 (mem (82 + e) t)) w → (∀ v, v < w → ¬ bKr D X wk e (n : Int) c (fun t => w32 (mem (82 + e) t)) v) → (∀ q, q < sPs D e → fiS m D e w q) → w32 (m 76 8) = bGa D X e w → zG E (d + 2) xm_50 8 [some (1, 76), some (0, mo), some (0, L - m 76 8), some (0, VE + 1), r4, r5, r6] [] m Q) : ∀ (c' i : Nat) (R I : Int) (m : yMem), bNb D ^ sPs D e - i = c' → i ≤ bNb D ^ sPs D e → w32 R = ((bNb D ^ sPs D e : Nat) : Int) → w32 I = (i : Int) → fiF e mem m → (∀ v, v < i → ¬ bKr D X wk e (n : Int) c (fun t => w32 (mem (82 + e) t)) v) → zG E (d + 2) xm_50 35 [some (1, 76), some (0, mo), some (0, L), some (0, VE), some (0, R), some (0, 0), some (0, I)] [] m Q := by
  obtain ⟨-, ⟨n2, n2'⟩, ⟨n3, n3'⟩, -⟩ := cTb_n h
  obtain ⟨pe, pl⟩ := cTb_e h he
  have w343 := (bNb_p n2' (sPs D e) (by omega)).1
  have hl : ∀ e, e < D.2.2.1.length → sPs D e ≤ 3 := fun e he => (cTb_e h he).2
  have hR : ∀ t : Nat, t ≤ 96 → bF D X wk (D.2.2.1.length - (e + 1)) (t : Int) (w32 (mem (82 + e) t)) := fun t ht => by
    have := g.1 (e + 1) (Nat.zero_le _) (by omega) t ht
    rw [show 81 + (e + 1) = 82 + e by omega] at this
    exact this
  have vc : w32 (mem (81 + e) n) = c := bB_F hB (g.1 e (Nat.zero_le _) (by omega) n hn)
  obtain ⟨w0, w01, w02⟩ := bKr_ex hk he hB (by omega) (R := fun t => w32 (mem (82 + e) t)) hR
  intro c'
  induction c' with
  | zero =>
    intro i R I m hc hi hR' hI F no
    exact absurd w02 (no w0 (by omega))
  | succ c' ih =>
    intro i R I m hc hi hR' hI F no
    have e1 := w32_s1 hI (by omega)
    refine zgo_ok (n := 90) hE xmo_50 (cs := zc_50) ?_
    simp only [ynok_30, ynok_31, w32c_0, w32c_1, w32c_2, w32c_3, w32c_4, w32c_5, w32c_6, w32c_7, w32c_8, w32c_9, w32c_10, w32c_11, w32c_12, w32c_13, w32c_14, w32c_m1, w32c_m2, w32c_118, Int.reduceAdd, Int.reduceSub, Int.reduceMul, yput_s, yput_n, znl_n, znl_0, znl_1, znl_4, ysum_n, ysum_0, ysum_1, ysum_4, true_and, and_true, Nat.reduceAdd, Nat.reduceLeDiff, true_implies, eq_self, true_or, or_true, or_false, false_or, not_true_eq_false, not_false_eq_true, false_implies, implies_true, yset_s, yset_o, yset_d, ne_eq, Nat.reduceEqDiff, Int.reduceToNat, Int.reduceEq, Int.reduceLE, Int.reduceLT, Classical.not_not, Nat.reduceLT, ↓zvk_s, ↓zvk_n, ↓s_50_0, ↓s_50_1, ↓s_50_2, ↓s_50_5n, ↓s_50_5i, ↓s_50_5p, ↓s_50_6, ↓s_50_7n, ↓s_50_7i, ↓s_50_7p, ↓g_50_8, ↓k_50_8, ↓s_50_9, ↓s_50_10, ↓s_50_13_2, ↓s_50_13_28, ↓s_50_16_3, ↓s_50_16_5, ↓s_50_16_7, ↓s_50_16_9, ↓s_50_16_29, ↓s_50_16_31, ↓s_50_16_33, ↓s_50_16_35, ↓s_50_19, ↓s_50_22, ↓s_50_23, ↓s_50_24, ↓s_50_27n, ↓s_50_27i, ↓s_50_27p, ↓s_50_29, ↓s_50_30n, ↓s_50_30i, ↓s_50_30p, ↓s_50_32, ↓s_50_33n, ↓s_50_33i, ↓s_50_33p, ↓g_50_35, ↓k_50_35, ↓s_50_37, ↓s_50_39, ↓s_50_42, ↓s_50_44, ↓s_50_47, ↓s_50_48, ↓s_50_49, ↓s_50_51, ↓s_50_54, ↓s_50_57, ↓s_50_58, ↓s_50_59, ↓s_50_60, ↓s_50_63, ↓s_50_66, ↓s_50_67, ↓s_50_70, ↓s_50_71n, ↓s_50_71i, ↓s_50_71p, ↓s_50_73n, ↓s_50_73i, ↓s_50_73p, ↓s_50_76, ↓s_50_79, ↓s_50_80, ↓s_50_81, ↓s_50_84, ↓s_50_85n, ↓s_50_85i, ↓s_50_85p, ↓s_50_86n, ↓s_50_86i, ↓s_50_86p, ↓s_50_89, ↓s_50_92, zio_33, zio_2, zio_3, zio_35, zio_5, zio_7, zio_9, zio_76, zio_28, zio_29, zio_31]
    refine ⟨fun hh => absurd hh (by omega), fun _ => ?_⟩
    refine x_fits hE (by omega) (X := X) (wk := wk) (w := i) (by rw [F 57 10 (by omega) (by omega)]; exact hX) (fiF_D F h) hk he hVE hI (by omega) h0 h1 (fun q hq => wpH_w (g.2 e q (Nat.zero_le _) he hq) (fun v hv => ⟨F 77 _ (by omega) (by omega), F 78 _ (by omega) (by omega)⟩)) (fun r m2 F2 y nn => ?_)
    have F' : fiF e mem m2 := fun a b i1 i2 => by rw [F2 a b i1 i2, F a b i1 i2]
    have e82 : ∀ t, m2 (82 + e) t = mem (82 + e) t := fun t => F' _ _ (by omega) (by omega)
    have e81 : ∀ t, m2 (81 + e) t = mem (81 + e) t := fun t => F' _ _ (by omega) (by omega)
    refine zgk_s hE xmo_50 90 zc_50 ?_
    simp only [ynok_30, ynok_31, w32c_0, w32c_1, w32c_2, w32c_3, w32c_4, w32c_5, w32c_6, w32c_7, w32c_8, w32c_9, w32c_10, w32c_11, w32c_12, w32c_13, w32c_14, w32c_m1, w32c_m2, w32c_118, Int.reduceAdd, Int.reduceSub, Int.reduceMul, yput_s, yput_n, znl_n, znl_0, znl_1, znl_4, ysum_n, ysum_0, ysum_1, ysum_4, true_and, and_true, Nat.reduceAdd, Nat.reduceLeDiff, true_implies, eq_self, true_or, or_true, or_false, false_or, not_true_eq_false, not_false_eq_true, false_implies, implies_true, yset_s, yset_o, yset_d, ne_eq, Nat.reduceEqDiff, Int.reduceToNat, Int.reduceEq, Int.reduceLE, Int.reduceLT, Classical.not_not, Nat.reduceLT, ↓zvk_s, ↓zvk_n, ↓s_50_0, ↓s_50_1, ↓s_50_2, ↓s_50_5n, ↓s_50_5i, ↓s_50_5p, ↓s_50_6, ↓s_50_7n, ↓s_50_7i, ↓s_50_7p, ↓g_50_8, ↓k_50_8, ↓s_50_9, ↓s_50_10, ↓s_50_13_2, ↓s_50_13_28, ↓s_50_16_3, ↓s_50_16_5, ↓s_50_16_7, ↓s_50_16_9, ↓s_50_16_29, ↓s_50_16_31, ↓s_50_16_33, ↓s_50_16_35, ↓s_50_19, ↓s_50_22, ↓s_50_23, ↓s_50_24, ↓s_50_27n, ↓s_50_27i, ↓s_50_27p, ↓s_50_29, ↓s_50_30n, ↓s_50_30i, ↓s_50_30p, ↓s_50_32, ↓s_50_33n, ↓s_50_33i, ↓s_50_33p, ↓g_50_35, ↓k_50_35, ↓s_50_37, ↓s_50_39, ↓s_50_42, ↓s_50_44, ↓s_50_47, ↓s_50_48, ↓s_50_49, ↓s_50_51, ↓s_50_54, ↓s_50_57, ↓s_50_58, ↓s_50_59, ↓s_50_60, ↓s_50_63, ↓s_50_66, ↓s_50_67, ↓s_50_70, ↓s_50_71n, ↓s_50_71i, ↓s_50_71p, ↓s_50_73n, ↓s_50_73i, ↓s_50_73p, ↓s_50_76, ↓s_50_79, ↓s_50_80, ↓s_50_81, ↓s_50_84, ↓s_50_85n, ↓s_50_85i, ↓s_50_85p, ↓s_50_86n, ↓s_50_86i, ↓s_50_86p, ↓s_50_89, ↓s_50_92, zio_33, zio_2, zio_3, zio_35, zio_5, zio_7, zio_9, zio_76, zio_28, zio_29, zio_31]
    by_cases ok : bOk D X e i
    · obtain ⟨y1, y2, y3, y4⟩ := y ok
      have gb := bGa_bd (X := X) (w := i) h he
      have cb := bCo_bd (X := X) (wk := wk) (e := e) (w := i) hk pl
      have key : bKr D X wk e (n : Int) c (fun t => w32 (mem (82 + e) t)) i ↔ (w32 (m2 76 8) ≤ (n : Int) ∧ w32 (m2 76 9) + w32 (m2 (82 + e) ((n : Int) - w32 (m2 76 8)).toNat) = w32 (m2 (81 + e) n)) := by
        rw [y2, y3, e82, e81, vc]
        exact ⟨fun K => ⟨K.2.1, K.2.2⟩, fun K => ⟨ok, K.1, K.2⟩⟩
      refine ⟨fun z => absurd y1 (by omega), fun _ => ?_⟩
      refine x_isbest hE (by omega) hVE (by omega) hL hn (by rw [y2]; exact gb) (by rw [y3]; exact cb) (fun t ht => by rw [e82]; exact bF_rg hk hl (by omega) n3' (hR t ht)) (fun yg ye => ?_) (fun ny => ?_)
      · have fin := fun r4 r5 r6 => hQ m2 i r4 r5 r6 F' (by omega) (key.mpr ⟨yg, ye⟩) no y4 y2
        refine zgk_s hE xmo_50 90 zc_50 ?_
        simp only [ynok_30, ynok_31, w32c_0, w32c_1, w32c_2, w32c_3, w32c_4, w32c_5, w32c_6, w32c_7, w32c_8, w32c_9, w32c_10, w32c_11, w32c_12, w32c_13, w32c_14, w32c_m1, w32c_m2, w32c_118, Int.reduceAdd, Int.reduceSub, Int.reduceMul, yput_s, yput_n, znl_n, znl_0, znl_1, znl_4, ysum_n, ysum_0, ysum_1, ysum_4, true_and, and_true, Nat.reduceAdd, Nat.reduceLeDiff, true_implies, eq_self, true_or, or_true, or_false, false_or, not_true_eq_false, not_false_eq_true, false_implies, implies_true, yset_s, yset_o, yset_d, ne_eq, Nat.reduceEqDiff, Int.reduceToNat, Int.reduceEq, Int.reduceLE, Int.reduceLT, Classical.not_not, Nat.reduceLT, ↓zvk_s, ↓zvk_n, ↓s_50_0, ↓s_50_1, ↓s_50_2, ↓s_50_5n, ↓s_50_5i, ↓s_50_5p, ↓s_50_6, ↓s_50_7n, ↓s_50_7i, ↓s_50_7p, ↓g_50_8, ↓k_50_8, ↓s_50_9, ↓s_50_10, ↓s_50_13_2, ↓s_50_13_28, ↓s_50_16_3, ↓s_50_16_5, ↓s_50_16_7, ↓s_50_16_9, ↓s_50_16_29, ↓s_50_16_31, ↓s_50_16_33, ↓s_50_16_35, ↓s_50_19, ↓s_50_22, ↓s_50_23, ↓s_50_24, ↓s_50_27n, ↓s_50_27i, ↓s_50_27p, ↓s_50_29, ↓s_50_30n, ↓s_50_30i, ↓s_50_30p, ↓s_50_32, ↓s_50_33n, ↓s_50_33i, ↓s_50_33p, ↓g_50_35, ↓k_50_35, ↓s_50_37, ↓s_50_39, ↓s_50_42, ↓s_50_44, ↓s_50_47, ↓s_50_48, ↓s_50_49, ↓s_50_51, ↓s_50_54, ↓s_50_57, ↓s_50_58, ↓s_50_59, ↓s_50_60, ↓s_50_63, ↓s_50_66, ↓s_50_67, ↓s_50_70, ↓s_50_71n, ↓s_50_71i, ↓s_50_71p, ↓s_50_73n, ↓s_50_73i, ↓s_50_73p, ↓s_50_76, ↓s_50_79, ↓s_50_80, ↓s_50_81, ↓s_50_84, ↓s_50_85n, ↓s_50_85i, ↓s_50_85p, ↓s_50_86n, ↓s_50_86i, ↓s_50_86p, ↓s_50_89, ↓s_50_92, zio_33, zio_2, zio_3, zio_35, zio_5, zio_7, zio_9, zio_76, zio_28, zio_29, zio_31]
        refine zgo_ok (n := 90) hE xmo_50 (cs := zc_50) ?_
        simp only [ynok_30, ynok_31, w32c_0, w32c_1, w32c_2, w32c_3, w32c_4, w32c_5, w32c_6, w32c_7, w32c_8, w32c_9, w32c_10, w32c_11, w32c_12, w32c_13, w32c_14, w32c_m1, w32c_m2, w32c_118, Int.reduceAdd, Int.reduceSub, Int.reduceMul, yput_s, yput_n, znl_n, znl_0, znl_1, znl_4, ysum_n, ysum_0, ysum_1, ysum_4, true_and, and_true, Nat.reduceAdd, Nat.reduceLeDiff, true_implies, eq_self, true_or, or_true, or_false, false_or, not_true_eq_false, not_false_eq_true, false_implies, implies_true, yset_s, yset_o, yset_d, ne_eq, Nat.reduceEqDiff, Int.reduceToNat, Int.reduceEq, Int.reduceLE, Int.reduceLT, Classical.not_not, Nat.reduceLT, ↓zvk_s, ↓zvk_n, ↓s_50_0, ↓s_50_1, ↓s_50_2, ↓s_50_5n, ↓s_50_5i, ↓s_50_5p, ↓s_50_6, ↓s_50_7n, ↓s_50_7i, ↓s_50_7p, ↓g_50_8, ↓k_50_8, ↓s_50_9, ↓s_50_10, ↓s_50_13_2, ↓s_50_13_28, ↓s_50_16_3, ↓s_50_16_5, ↓s_50_16_7, ↓s_50_16_9, ↓s_50_16_29, ↓s_50_16_31, ↓s_50_16_33, ↓s_50_16_35, ↓s_50_19, ↓s_50_22, ↓s_50_23, ↓s_50_24, ↓s_50_27n, ↓s_50_27i, ↓s_50_27p, ↓s_50_29, ↓s_50_30n, ↓s_50_30i, ↓s_50_30p, ↓s_50_32, ↓s_50_33n, ↓s_50_33i, ↓s_50_33p, ↓g_50_35, ↓k_50_35, ↓s_50_37, ↓s_50_39, ↓s_50_42, ↓s_50_44, ↓s_50_47, ↓s_50_48, ↓s_50_49, ↓s_50_51, ↓s_50_54, ↓s_50_57, ↓s_50_58, ↓s_50_59, ↓s_50_60, ↓s_50_63, ↓s_50_66, ↓s_50_67, ↓s_50_70, ↓s_50_71n, ↓s_50_71i, ↓s_50_71p, ↓s_50_73n, ↓s_50_73i, ↓s_50_73p, ↓s_50_76, ↓s_50_79, ↓s_50_80, ↓s_50_81, ↓s_50_84, ↓s_50_85n, ↓s_50_85i, ↓s_50_85p, ↓s_50_86n, ↓s_50_86i, ↓s_50_86p, ↓s_50_89, ↓s_50_92, zio_33, zio_2, zio_3, zio_35, zio_5, zio_7, zio_9, zio_76, zio_28, zio_29, zio_31]
        exact ⟨fun _ => fin _ _ _, fun _ => fin _ _ _⟩
      · refine zgk_s hE xmo_50 90 zc_50 ?_
        simp only [ynok_30, ynok_31, w32c_0, w32c_1, w32c_2, w32c_3, w32c_4, w32c_5, w32c_6, w32c_7, w32c_8, w32c_9, w32c_10, w32c_11, w32c_12, w32c_13, w32c_14, w32c_m1, w32c_m2, w32c_118, Int.reduceAdd, Int.reduceSub, Int.reduceMul, yput_s, yput_n, znl_n, znl_0, znl_1, znl_4, ysum_n, ysum_0, ysum_1, ysum_4, true_and, and_true, Nat.reduceAdd, Nat.reduceLeDiff, true_implies, eq_self, true_or, or_true, or_false, false_or, not_true_eq_false, not_false_eq_true, false_implies, implies_true, yset_s, yset_o, yset_d, ne_eq, Nat.reduceEqDiff, Int.reduceToNat, Int.reduceEq, Int.reduceLE, Int.reduceLT, Classical.not_not, Nat.reduceLT, ↓zvk_s, ↓zvk_n, ↓s_50_0, ↓s_50_1, ↓s_50_2, ↓s_50_5n, ↓s_50_5i, ↓s_50_5p, ↓s_50_6, ↓s_50_7n, ↓s_50_7i, ↓s_50_7p, ↓g_50_8, ↓k_50_8, ↓s_50_9, ↓s_50_10, ↓s_50_13_2, ↓s_50_13_28, ↓s_50_16_3, ↓s_50_16_5, ↓s_50_16_7, ↓s_50_16_9, ↓s_50_16_29, ↓s_50_16_31, ↓s_50_16_33, ↓s_50_16_35, ↓s_50_19, ↓s_50_22, ↓s_50_23, ↓s_50_24, ↓s_50_27n, ↓s_50_27i, ↓s_50_27p, ↓s_50_29, ↓s_50_30n, ↓s_50_30i, ↓s_50_30p, ↓s_50_32, ↓s_50_33n, ↓s_50_33i, ↓s_50_33p, ↓g_50_35, ↓k_50_35, ↓s_50_37, ↓s_50_39, ↓s_50_42, ↓s_50_44, ↓s_50_47, ↓s_50_48, ↓s_50_49, ↓s_50_51, ↓s_50_54, ↓s_50_57, ↓s_50_58, ↓s_50_59, ↓s_50_60, ↓s_50_63, ↓s_50_66, ↓s_50_67, ↓s_50_70, ↓s_50_71n, ↓s_50_71i, ↓s_50_71p, ↓s_50_73n, ↓s_50_73i, ↓s_50_73p, ↓s_50_76, ↓s_50_79, ↓s_50_80, ↓s_50_81, ↓s_50_84, ↓s_50_85n, ↓s_50_85i, ↓s_50_85p, ↓s_50_86n, ↓s_50_86i, ↓s_50_86p, ↓s_50_89, ↓s_50_92, zio_33, zio_2, zio_3, zio_35, zio_5, zio_7, zio_9, zio_76, zio_28, zio_29, zio_31]
        refine ih (i + 1) R (I + 1) m2 (by omega) (by omega) hR' e1 F' (fun v hv => ?_)
        by_cases ev : v = i
        · rw [ev]
          exact fun K => ny (key.mp K)
        · exact no v (by omega)
    · have r0 := nn ok
      refine ⟨fun _ => ih (i + 1) R (I + 1) m2 (by omega) (by omega) hR' e1 F' (fun v hv => ?_), fun z => absurd r0 z⟩
      by_cases ev : v = i
      · rw [ev]
        exact fun K => ok K.1
      · exact no v (by omega)
theorem x_choose (hE : yEok E) {D0 : Nat} (hD : 3 ≤ D0) {mo : Int} (hX : w32 (mem 57 10) = X) (h0 : 0 ≤ X) (h1 : X < 64) (h : cDh mem D) (hk : dOk D) (g : wgH mem D X wk 0) (hm0 : 0 ≤ w32 mo) (hm1 : w32 mo ≤ 999) (hQ : ∀ m, hoF mem m → (∀ e, e < D.2.2.1.length → hoS m D X wk (w32 mo) e) → Q none m) : yCon E D0 xm_50 [(1, 76), (0, mo)] mem Q := by
  obtain ⟨d, rfl⟩ := Nat.exists_eq_add_of_le' hD
  obtain ⟨-, ⟨n2, n2'⟩, ⟨n3, n3'⟩, -⟩ := cTb_n h
  have hl : ∀ e, e < D.2.2.1.length → sPs D e ≤ 3 := fun e he => (cTb_e h he).2
  have hi : ∀ j, j ≤ D.2.2.1.length → ∀ n c, bAc D X wk j n c → n ≤ 96 := fun j hj n c a => by
    have := bAc_hi h hk _ n c hj a
    omega
  have lp : ∀ (c e : Nat) (VE L : Int) (r4 r5 r6 : Option yV) (m : yMem) (n : Nat) (b cc : Int), D.2.2.1.length - e = c → e ≤ D.2.2.1.length → w32 VE = (e : Int) → w32 L = (n : Int) → n ≤ 96 → hoF mem m → 0 ≤ b → b ≤ 999 → bLe D X wk e (w32 mo) b → bB D X wk (D.2.2.1.length - e) b (n : Int) cc → (∀ e', e' < e → hoS m D X wk (w32 mo) e') → zG E (d + 2) xm_50 8 [some (1, 76), some (0, mo), some (0, L), some (0, VE), r4, r5, r6] [] m Q := by
    intro c
    induction c with
    | zero =>
      intro e VE L r4 r5 r6 m n b cc hc he hVE hL hn F b0 b1 hb hB hS
      have e0 : e = D.2.2.1.length := by omega
      have e7 : m 7 1 = mem 7 1 := F 7 1 (by decide) (by omega)
      refine zgo_ok (n := 90) hE xmo_50 (cs := zc_50) ?_
      simp only [ynok_30, ynok_31, w32c_0, w32c_1, w32c_2, w32c_3, w32c_4, w32c_5, w32c_6, w32c_7, w32c_8, w32c_9, w32c_10, w32c_11, w32c_12, w32c_13, w32c_14, w32c_m1, w32c_m2, w32c_118, Int.reduceAdd, Int.reduceSub, Int.reduceMul, yput_s, yput_n, znl_n, znl_0, znl_1, znl_4, ysum_n, ysum_0, ysum_1, ysum_4, true_and, and_true, Nat.reduceAdd, Nat.reduceLeDiff, true_implies, eq_self, true_or, or_true, or_false, false_or, not_true_eq_false, not_false_eq_true, false_implies, implies_true, yset_s, yset_o, yset_d, ne_eq, Nat.reduceEqDiff, Int.reduceToNat, Int.reduceEq, Int.reduceLE, Int.reduceLT, Classical.not_not, Nat.reduceLT, ↓zvk_s, ↓zvk_n, ↓s_50_0, ↓s_50_1, ↓s_50_2, ↓s_50_5n, ↓s_50_5i, ↓s_50_5p, ↓s_50_5j, ↓s_50_6, ↓s_50_7n, ↓s_50_7i, ↓s_50_7p, ↓s_50_7j, ↓g_50_8, ↓k_50_8, ↓s_50_9, ↓s_50_10, ↓s_50_13_2, ↓s_50_13_28, ↓s_50_16_3, ↓s_50_16_5, ↓s_50_16_7, ↓s_50_16_9, ↓s_50_16_29, ↓s_50_16_31, ↓s_50_16_33, ↓s_50_16_35, ↓s_50_19, ↓s_50_22, ↓s_50_23, ↓s_50_24, ↓s_50_27n, ↓s_50_27i, ↓s_50_27p, ↓s_50_27j, ↓s_50_29, ↓s_50_30n, ↓s_50_30i, ↓s_50_30p, ↓s_50_30j, ↓s_50_32, ↓s_50_33n, ↓s_50_33i, ↓s_50_33p, ↓s_50_33j, ↓g_50_35, ↓k_50_35, ↓s_50_37, ↓s_50_39, ↓s_50_42, ↓s_50_44, ↓s_50_47, ↓s_50_48, ↓s_50_49, ↓s_50_51, ↓s_50_54, ↓s_50_57, ↓s_50_58, ↓s_50_59, ↓s_50_60, ↓s_50_63, ↓s_50_66, ↓s_50_67, ↓s_50_70, ↓s_50_71n, ↓s_50_71i, ↓s_50_71p, ↓s_50_71j, ↓s_50_73n, ↓s_50_73i, ↓s_50_73p, ↓s_50_73j, ↓s_50_76, ↓s_50_79, ↓s_50_80, ↓s_50_81, ↓s_50_84, ↓s_50_85n, ↓s_50_85i, ↓s_50_85p, ↓s_50_85j, ↓s_50_86n, ↓s_50_86i, ↓s_50_86p, ↓s_50_86j, ↓s_50_89, ↓s_50_92, zio_33, zio_2, zio_3, zio_35, zio_5, zio_7, zio_9, zio_76, zio_28, zio_29, zio_31, e7]
      exact ⟨fun _ => hQ m F (e0 ▸ hS), fun hh => absurd (show w32 (mem 7 1) ≤ w32 VE by omega) hh⟩
    | succ c ih =>
      intro e VE L r4 r5 r6 m n b cc hc he hVE hL hn F b0 b1 hb hB hS
      have he' : e < D.2.2.1.length := by omega
      have e7 : m 7 1 = mem 7 1 := F 7 1 (by decide) (by omega)
      have e1 := w32_s1 hVE (by omega)
      have gm : wgH m D X wk 0 := hoF_H h F g
      refine zgo_ok (n := 90) hE xmo_50 (cs := zc_50) ?_
      simp only [ynok_30, ynok_31, w32c_0, w32c_1, w32c_2, w32c_3, w32c_4, w32c_5, w32c_6, w32c_7, w32c_8, w32c_9, w32c_10, w32c_11, w32c_12, w32c_13, w32c_14, w32c_m1, w32c_m2, w32c_118, Int.reduceAdd, Int.reduceSub, Int.reduceMul, yput_s, yput_n, znl_n, znl_0, znl_1, znl_4, ysum_n, ysum_0, ysum_1, ysum_4, true_and, and_true, Nat.reduceAdd, Nat.reduceLeDiff, true_implies, eq_self, true_or, or_true, or_false, false_or, not_true_eq_false, not_false_eq_true, false_implies, implies_true, yset_s, yset_o, yset_d, ne_eq, Nat.reduceEqDiff, Int.reduceToNat, Int.reduceEq, Int.reduceLE, Int.reduceLT, Classical.not_not, Nat.reduceLT, ↓zvk_s, ↓zvk_n, ↓s_50_0, ↓s_50_1, ↓s_50_2, ↓s_50_5n, ↓s_50_5i, ↓s_50_5p, ↓s_50_5j, ↓s_50_6, ↓s_50_7n, ↓s_50_7i, ↓s_50_7p, ↓s_50_7j, ↓g_50_8, ↓k_50_8, ↓s_50_9, ↓s_50_10, ↓s_50_13_2, ↓s_50_13_28, ↓s_50_16_3, ↓s_50_16_5, ↓s_50_16_7, ↓s_50_16_9, ↓s_50_16_29, ↓s_50_16_31, ↓s_50_16_33, ↓s_50_16_35, ↓s_50_19, ↓s_50_22, ↓s_50_23, ↓s_50_24, ↓s_50_27n, ↓s_50_27i, ↓s_50_27p, ↓s_50_27j, ↓s_50_29, ↓s_50_30n, ↓s_50_30i, ↓s_50_30p, ↓s_50_30j, ↓s_50_32, ↓s_50_33n, ↓s_50_33i, ↓s_50_33p, ↓s_50_33j, ↓g_50_35, ↓k_50_35, ↓s_50_37, ↓s_50_39, ↓s_50_42, ↓s_50_44, ↓s_50_47, ↓s_50_48, ↓s_50_49, ↓s_50_51, ↓s_50_54, ↓s_50_57, ↓s_50_58, ↓s_50_59, ↓s_50_60, ↓s_50_63, ↓s_50_66, ↓s_50_67, ↓s_50_70, ↓s_50_71n, ↓s_50_71i, ↓s_50_71p, ↓s_50_71j, ↓s_50_73n, ↓s_50_73i, ↓s_50_73p, ↓s_50_73j, ↓s_50_76, ↓s_50_79, ↓s_50_80, ↓s_50_81, ↓s_50_84, ↓s_50_85n, ↓s_50_85i, ↓s_50_85p, ↓s_50_85j, ↓s_50_86n, ↓s_50_86i, ↓s_50_86p, ↓s_50_86j, ↓s_50_89, ↓s_50_92, zio_33, zio_2, zio_3, zio_35, zio_5, zio_7, zio_9, zio_76, zio_28, zio_29, zio_31, e7]
      refine ⟨fun hh => absurd hh (by omega), fun _ => ?_⟩
      refine x_rowsOf hE (by omega) hVE (hoF_D F h) he' (fun r hr => ?_)
      refine zgk_s hE xmo_50 90 zc_50 ?_
      simp only [ynok_30, ynok_31, w32c_0, w32c_1, w32c_2, w32c_3, w32c_4, w32c_5, w32c_6, w32c_7, w32c_8, w32c_9, w32c_10, w32c_11, w32c_12, w32c_13, w32c_14, w32c_m1, w32c_m2, w32c_118, Int.reduceAdd, Int.reduceSub, Int.reduceMul, yput_s, yput_n, znl_n, znl_0, znl_1, znl_4, ysum_n, ysum_0, ysum_1, ysum_4, true_and, and_true, Nat.reduceAdd, Nat.reduceLeDiff, true_implies, eq_self, true_or, or_true, or_false, false_or, not_true_eq_false, not_false_eq_true, false_implies, implies_true, yset_s, yset_o, yset_d, ne_eq, Nat.reduceEqDiff, Int.reduceToNat, Int.reduceEq, Int.reduceLE, Int.reduceLT, Classical.not_not, Nat.reduceLT, ↓zvk_s, ↓zvk_n, ↓s_50_0, ↓s_50_1, ↓s_50_2, ↓s_50_5n, ↓s_50_5i, ↓s_50_5p, ↓s_50_6, ↓s_50_7n, ↓s_50_7i, ↓s_50_7p, ↓g_50_8, ↓k_50_8, ↓s_50_9, ↓s_50_10, ↓s_50_13_2, ↓s_50_13_28, ↓s_50_16_3, ↓s_50_16_5, ↓s_50_16_7, ↓s_50_16_9, ↓s_50_16_29, ↓s_50_16_31, ↓s_50_16_33, ↓s_50_16_35, ↓s_50_19, ↓s_50_22, ↓s_50_23, ↓s_50_24, ↓s_50_27n, ↓s_50_27i, ↓s_50_27p, ↓s_50_29, ↓s_50_30n, ↓s_50_30i, ↓s_50_30p, ↓s_50_32, ↓s_50_33n, ↓s_50_33i, ↓s_50_33p, ↓g_50_35, ↓k_50_35, ↓s_50_37, ↓s_50_39, ↓s_50_42, ↓s_50_44, ↓s_50_47, ↓s_50_48, ↓s_50_49, ↓s_50_51, ↓s_50_54, ↓s_50_57, ↓s_50_58, ↓s_50_59, ↓s_50_60, ↓s_50_63, ↓s_50_66, ↓s_50_67, ↓s_50_70, ↓s_50_71n, ↓s_50_71i, ↓s_50_71p, ↓s_50_73n, ↓s_50_73i, ↓s_50_73p, ↓s_50_76, ↓s_50_79, ↓s_50_80, ↓s_50_81, ↓s_50_84, ↓s_50_85n, ↓s_50_85i, ↓s_50_85p, ↓s_50_86n, ↓s_50_86i, ↓s_50_86p, ↓s_50_89, ↓s_50_92, zio_33, zio_2, zio_3, zio_35, zio_5, zio_7, zio_9, zio_76, zio_28, zio_29, zio_31]
      have hR : ∀ t : Nat, t ≤ 96 → bF D X wk (D.2.2.1.length - (e + 1)) (t : Int) (w32 (m (82 + e) t)) := fun t ht => by
        have := gm.1 (e + 1) (Nat.zero_le _) (by omega) t ht
        rw [show 81 + (e + 1) = 82 + e by omega] at this
        exact this
      refine x_ch_in hE (X := X) (wk := wk) (e := e) (n := n) (b := b) (c := cc) (by rw [F 57 10 (by decide) (by omega)]; exact hX) h0 h1 (hoF_D F h) hk he' hVE hL hn gm hB (fun m2 w r4 r5 r6 F2 w1 K first S2 g2 => ?_) _ 0 r 0 m rfl (Nat.zero_le _) hr w32c_0 (fun _ _ _ _ => rfl) (fun v hv => absurd hv (Nat.not_lt_zero _))
      have iff := fun v (hv : v < bNb D ^ sPs D e) => bKr_iff (w := v) hk he' b0 (by omega) hB (by omega) (R := fun t => w32 (m (82 + e) t)) hR (hi _ (by omega)) (bAc_00 n2' _ (by omega)) hv
      have C := (iff w w1).mpr K
      have fr : bFr D X wk e b w := ⟨w1, C, fun v hv c => first v hv ((iff v (by omega)).mp c)⟩
      obtain ⟨ho, hc', n1, c1, n2', c2, B1, B2, q1, q2⟩ := C
      obtain ⟨u1, u2⟩ := bB_u hB B1
      have nn := bAc_nn hk _ _ _ B2.1
      have cn := bCo_nn (D := D) (X := X) (wk := wk) (e := e) (w := w) hk
      have gn := bGa_nn (D := D) (X := X) (e := e) (w := w)
      have en : ((n2'.toNat : Nat) : Int) = n2' := by omega
      have F3 : hoF mem m2 := fun i j i1 i2 => by rw [F2 i j (by omega) i2]; exact F i j i1 i2
      refine ih (e + 1) (VE + 1) (L - m2 76 8) r4 r5 r6 m2 n2'.toNat (b - bCo D X wk e w) c2 (by omega) (by omega) e1 (by rw [w32_sb (by omega) (by omega), hL, g2, en]; omega) (by omega) F3 (by omega) (by omega) ⟨b, w, hb, fr, rfl⟩ (by rw [en]; exact B2) (fun e' he'' => ?_)
      by_cases ee : e' = e
      · subst ee
        exact ⟨b, w, hb, fr, S2⟩
      · obtain ⟨b', w', s1, s2, s3⟩ := hS e' (by omega)
        refine ⟨b', w', s1, s2, fun q hq => ?_⟩
        have := s3 q hq
        have hq3 := hl e' (by omega)
        unfold fiS at this ⊢
        rw [F2 86 _ (by omega) (by omega)]
        exact this
  refine e_50 ?_
  refine zvc_ok hE 90 zc_50 _ _ _ _ _ _ _ xmo_50 ?_
  simp only [ynok_30, ynok_31, w32c_0, w32c_1, w32c_2, w32c_3, w32c_4, w32c_5, w32c_6, w32c_7, w32c_8, w32c_9, w32c_10, w32c_11, w32c_12, w32c_13, w32c_14, w32c_m1, w32c_m2, w32c_118, Int.reduceAdd, Int.reduceSub, Int.reduceMul, yput_s, yput_n, znl_n, znl_0, znl_1, znl_4, ysum_n, ysum_0, ysum_1, ysum_4, true_and, and_true, Nat.reduceAdd, Nat.reduceLeDiff, true_implies, eq_self, true_or, or_true, or_false, false_or, not_true_eq_false, not_false_eq_true, false_implies, implies_true, yset_s, yset_o, yset_d, ne_eq, Nat.reduceEqDiff, Int.reduceToNat, Int.reduceEq, Int.reduceLE, Int.reduceLT, Classical.not_not, Nat.reduceLT, ↓zvk_s, ↓zvk_n, ↓s_50_0, ↓s_50_1, ↓s_50_2, ↓s_50_5n, ↓s_50_5i, ↓s_50_5p, ↓s_50_6, ↓s_50_7n, ↓s_50_7i, ↓s_50_7p, ↓g_50_8, ↓k_50_8, ↓s_50_9, ↓s_50_10, ↓s_50_13_2, ↓s_50_13_28, ↓s_50_16_3, ↓s_50_16_5, ↓s_50_16_7, ↓s_50_16_9, ↓s_50_16_29, ↓s_50_16_31, ↓s_50_16_33, ↓s_50_16_35, ↓s_50_19, ↓s_50_22, ↓s_50_23, ↓s_50_24, ↓s_50_27n, ↓s_50_27i, ↓s_50_27p, ↓s_50_29, ↓s_50_30n, ↓s_50_30i, ↓s_50_30p, ↓s_50_32, ↓s_50_33n, ↓s_50_33i, ↓s_50_33p, ↓g_50_35, ↓k_50_35, ↓s_50_37, ↓s_50_39, ↓s_50_42, ↓s_50_44, ↓s_50_47, ↓s_50_48, ↓s_50_49, ↓s_50_51, ↓s_50_54, ↓s_50_57, ↓s_50_58, ↓s_50_59, ↓s_50_60, ↓s_50_63, ↓s_50_66, ↓s_50_67, ↓s_50_70, ↓s_50_71n, ↓s_50_71i, ↓s_50_71p, ↓s_50_73n, ↓s_50_73i, ↓s_50_73p, ↓s_50_76, ↓s_50_79, ↓s_50_80, ↓s_50_81, ↓s_50_84, ↓s_50_85n, ↓s_50_85i, ↓s_50_85p, ↓s_50_86n, ↓s_50_86i, ↓s_50_86p, ↓s_50_89, ↓s_50_92, zio_33, zio_2, zio_3, zio_35, zio_5, zio_7, zio_9, zio_76, zio_28, zio_29, zio_31]
  refine x_most hE (by omega) (fun r t hr ht h1 h2 => ?_)
  refine zgk_s hE xmo_50 90 zc_50 ?_
  simp only [ynok_30, ynok_31, w32c_0, w32c_1, w32c_2, w32c_3, w32c_4, w32c_5, w32c_6, w32c_7, w32c_8, w32c_9, w32c_10, w32c_11, w32c_12, w32c_13, w32c_14, w32c_m1, w32c_m2, w32c_118, Int.reduceAdd, Int.reduceSub, Int.reduceMul, yput_s, yput_n, znl_n, znl_0, znl_1, znl_4, ysum_n, ysum_0, ysum_1, ysum_4, true_and, and_true, Nat.reduceAdd, Nat.reduceLeDiff, true_implies, eq_self, true_or, or_true, or_false, false_or, not_true_eq_false, not_false_eq_true, false_implies, implies_true, yset_s, yset_o, yset_d, ne_eq, Nat.reduceEqDiff, Int.reduceToNat, Int.reduceEq, Int.reduceLE, Int.reduceLT, Classical.not_not, Nat.reduceLT, ↓zvk_s, ↓zvk_n, ↓s_50_0, ↓s_50_1, ↓s_50_2, ↓s_50_5n, ↓s_50_5i, ↓s_50_5p, ↓s_50_6, ↓s_50_7n, ↓s_50_7i, ↓s_50_7p, ↓g_50_8, ↓k_50_8, ↓s_50_9, ↓s_50_10, ↓s_50_13_2, ↓s_50_13_28, ↓s_50_16_3, ↓s_50_16_5, ↓s_50_16_7, ↓s_50_16_9, ↓s_50_16_29, ↓s_50_16_31, ↓s_50_16_33, ↓s_50_16_35, ↓s_50_19, ↓s_50_22, ↓s_50_23, ↓s_50_24, ↓s_50_27n, ↓s_50_27i, ↓s_50_27p, ↓s_50_29, ↓s_50_30n, ↓s_50_30i, ↓s_50_30p, ↓s_50_32, ↓s_50_33n, ↓s_50_33i, ↓s_50_33p, ↓g_50_35, ↓k_50_35, ↓s_50_37, ↓s_50_39, ↓s_50_42, ↓s_50_44, ↓s_50_47, ↓s_50_48, ↓s_50_49, ↓s_50_51, ↓s_50_54, ↓s_50_57, ↓s_50_58, ↓s_50_59, ↓s_50_60, ↓s_50_63, ↓s_50_66, ↓s_50_67, ↓s_50_70, ↓s_50_71n, ↓s_50_71i, ↓s_50_71p, ↓s_50_73n, ↓s_50_73i, ↓s_50_73p, ↓s_50_76, ↓s_50_79, ↓s_50_80, ↓s_50_81, ↓s_50_84, ↓s_50_85n, ↓s_50_85i, ↓s_50_85p, ↓s_50_86n, ↓s_50_86i, ↓s_50_86p, ↓s_50_89, ↓s_50_92, zio_33, zio_2, zio_3, zio_35, zio_5, zio_7, zio_9, zio_76, zio_28, zio_29, zio_31]
  have R : ∀ t : Nat, t ≤ 96 → bF D X wk D.2.2.1.length (t : Int) (w32 (mem 81 t)) := fun t ht => by
    have := g.1 0 (Nat.le_refl _) (Nat.zero_le _) t ht
    rw [Nat.sub_zero] at this
    exact this
  have B := bB_of (b := w32 mo) hk hm0 (by omega) (R := fun t => w32 (mem 81 t)) R (hi _ (Nat.le_refl _)) (bAc_00 n2' _ (Nat.le_refl _)) ht h1 h2
  exact lp _ 0 0 r _ _ _ mem t (w32 mo) _ rfl (Nat.zero_le _) w32c_0 hr ht (fun _ _ _ _ => rfl) hm0 hm1 rfl (by rw [Nat.sub_zero]; exact B) (fun e' he' => absurd he' (Nat.not_lt_zero _))
theorem x_chosen (hE : yEok E) {D0 : Nat} (hD : 12 ≤ D0) {cr ve pa : Int} (hW : cW mem 57 W) (h : cDh mem D) (hk : dOk D) (XX : 0 ≤ uX W ∧ uX W < 64) (hI : wgI mem D W) (hQ : ∀ r m, cbQ mem m D W → sChs D (uX W) (uK W) (w32 cr) (w32 ve) (w32 pa) (w32 r) → Q (some (0, r)) m) : yCon E D0 xm_5 [(1, 0), (0, cr), (0, ve), (0, pa)] mem Q := by
  obtain ⟨d, rfl⟩ := Nat.exists_eq_add_of_le' hD
  obtain ⟨-, ⟨n2, n2'⟩, ⟨n3, n3'⟩, -⟩ := cTb_n h
  have hX := hW.2.2.2.2.2.2.2.2.2.2.1
  have hK := hW.2.2.2.2.2.2.2.1
  have q0 : ¬ sChc D (w32 cr) (w32 ve) (w32 pa) → Q (some (0, -1)) mem := fun z => hQ _ mem ⟨fun _ _ _ => rfl, hI⟩ ⟨fun c => absurd c z, fun _ => w32c_m1⟩
  refine e_5 ?_
  refine zvc_ok hE 90 [] _ _ _ _ _ _ _ xmo_5 ?_
  simp only [ynok_30, ynok_31, w32c_0, w32c_1, w32c_2, w32c_3, w32c_4, w32c_5, w32c_6, w32c_7, w32c_8, w32c_9, w32c_10, w32c_11, w32c_12, w32c_13, w32c_14, w32c_m1, w32c_m2, w32c_118, Int.reduceAdd, Int.reduceSub, Int.reduceMul, yput_s, yput_n, znl_n, znl_0, znl_1, znl_4, ysum_n, ysum_0, ysum_1, ysum_4, true_and, and_true, Nat.reduceAdd, Nat.reduceLeDiff, true_implies, eq_self, true_or, or_true, or_false, false_or, not_true_eq_false, not_false_eq_true, false_implies, implies_true, yset_s, yset_o, yset_d, ne_eq, Nat.reduceEqDiff, Int.reduceToNat, Int.reduceEq, Int.reduceLE, Int.reduceLT, Classical.not_not, Nat.reduceLT, ↓zvk_s, ↓zvk_n, ↓s_5_0, ↓s_5_1, ↓s_5_4, ↓s_5_5, ↓s_5_8, ↓s_5_11, ↓s_5_12, ↓s_5_15, ↓s_5_16, ↓s_5_17, ↓s_5_20, ↓s_5_23, ↓s_5_24, ↓s_5_25, ↓s_5_26, ↓s_5_29, ↓s_5_32, ↓s_5_33, ↓s_5_36, ↓s_5_37, ↓s_5_40, ↓s_5_41, ↓s_5_44, ↓s_5_47, ↓s_5_48, ↓s_5_49, ↓s_5_52, ↓s_5_53n, ↓s_5_53i, ↓s_5_53p, ↓s_5_55, ↓s_5_57, ↓s_5_58, ↓s_5_61, ↓s_5_63, ↓s_5_66, ↓s_5_68, w32c_999, ↓s_78_0, ↓s_78_1_2, ↓s_78_1_28, ↓s_78_4, ↓s_78_5, ↓s_78_8, ↓s_78_11, ↓s_78_12, ↓s_78_15, ↓s_78_16, ↓s_78_17_2, ↓s_78_17_28, ↓s_78_20, ↓s_78_21, ↓s_78_22, ↓s_78_25, ↓s_78_26, ↓s_78_29, ↓s_78_30, ↓s_103_0, ↓s_103_1, ↓s_103_4, ↓s_103_5, ↓s_103_6_3, ↓s_103_6_5, ↓s_103_6_7, ↓s_103_6_9, ↓s_103_6_29, ↓s_103_6_31, ↓s_103_6_33, ↓s_103_6_35, ↓s_103_9, ↓s_103_12, ↓s_103_13, ↓s_103_16, ↓s_103_17, zio_0, zio_2, zio_3, zio_5, zio_7, zio_9, zio_76, zar_18, zia_18, zln_18, zit_18, zar_86, zia_86, zln_86, zit_86, zio_28, zio_29, zio_31, zio_33, zio_35, zar_44, zia_44, zln_44, zit_44]
  refine ⟨fun z => q0 (fun c => by have := c.1; omega), fun z1 => ⟨fun z => q0 (fun c => by have := c.1; omega), fun z2 => ⟨fun z => q0 (fun c => by have := c.2.1; omega), fun z3 => ⟨fun z => q0 (fun c => by have := c.2.1; omega), fun z4 => ⟨fun z => q0 (fun c => by have := c.2.2; omega), fun z5 => ?_⟩⟩⟩⟩⟩
  have hVE : w32 ve = (((w32 ve).toNat : Nat) : Int) := by omega
  have he : (w32 ve).toNat < D.2.2.1.length := by omega
  obtain ⟨pe, pl⟩ := cTb_e h he
  refine ⟨⟨by omega, by omega⟩, fun z => q0 (fun c => by have := c.2.2; omega), fun z6 => ?_⟩
  have hPA : w32 pa = (((w32 pa).toNat : Nat) : Int) := by omega
  have hq : (w32 pa).toNat < sPs D (w32 ve).toNat := by omega
  have ok : sChc D (w32 cr) (w32 ve) (w32 pa) := ⟨⟨by omega, by omega⟩, ⟨by omega, by omega⟩, by omega, by omega⟩
  have hS := ix3 hVE hPA (by omega) (by omega)
  have St := w32_t hS
  refine x_weigh hE (by omega) hX XX.1 XX.2 hK h hk hI (fun m F f g => ?_)
  refine zgk_n hE xmo_5 90 [] ?_
  simp only [ynok_30, ynok_31, w32c_0, w32c_1, w32c_2, w32c_3, w32c_4, w32c_5, w32c_6, w32c_7, w32c_8, w32c_9, w32c_10, w32c_11, w32c_12, w32c_13, w32c_14, w32c_m1, w32c_m2, w32c_118, Int.reduceAdd, Int.reduceSub, Int.reduceMul, yput_s, yput_n, znl_n, znl_0, znl_1, znl_4, ysum_n, ysum_0, ysum_1, ysum_4, true_and, and_true, Nat.reduceAdd, Nat.reduceLeDiff, true_implies, eq_self, true_or, or_true, or_false, false_or, not_true_eq_false, not_false_eq_true, false_implies, implies_true, yset_s, yset_o, yset_d, ne_eq, Nat.reduceEqDiff, Int.reduceToNat, Int.reduceEq, Int.reduceLE, Int.reduceLT, Classical.not_not, Nat.reduceLT, ↓zvk_s, ↓zvk_n, ↓s_5_0, ↓s_5_1, ↓s_5_4, ↓s_5_5, ↓s_5_8, ↓s_5_11, ↓s_5_12, ↓s_5_15, ↓s_5_16, ↓s_5_17, ↓s_5_20, ↓s_5_23, ↓s_5_24, ↓s_5_25, ↓s_5_26, ↓s_5_29, ↓s_5_32, ↓s_5_33, ↓s_5_36, ↓s_5_37, ↓s_5_40, ↓s_5_41, ↓s_5_44, ↓s_5_47, ↓s_5_48, ↓s_5_49, ↓s_5_52, ↓s_5_53n, ↓s_5_53i, ↓s_5_53p, ↓s_5_55, ↓s_5_57, ↓s_5_58, ↓s_5_61, ↓s_5_63, ↓s_5_66, ↓s_5_68, w32c_999, zio_0, zio_2, zar_86, zia_86, zln_86, zit_86, zio_28, zio_76]
  refine x_choose hE (by omega) (X := uX W) (wk := uK W) (by rw [F 57 10 (Or.inl (by decide))]; exact hX) XX.1 XX.2 (wgF_D F h) hk g (by omega) (by omega) (fun m2 F2 S2 => ?_)
  obtain ⟨b, w, s1, s2, s3⟩ := S2 _ he
  have s4 := s3 _ hq
  unfold fiS at s4
  have Q2 : cbQ mem m2 D W := ⟨fun i j hij => by rw [F2 i j (by omega) (by omega)]; exact F i j hij, fun _ => hoF_H h F2 g⟩
  refine zgk_n hE xmo_5 90 [] ?_
  simp only [ynok_30, ynok_31, w32c_0, w32c_1, w32c_2, w32c_3, w32c_4, w32c_5, w32c_6, w32c_7, w32c_8, w32c_9, w32c_10, w32c_11, w32c_12, w32c_13, w32c_14, w32c_m1, w32c_m2, w32c_118, Int.reduceAdd, Int.reduceSub, Int.reduceMul, yput_s, yput_n, znl_n, znl_0, znl_1, znl_4, ysum_n, ysum_0, ysum_1, ysum_4, true_and, and_true, Nat.reduceAdd, Nat.reduceLeDiff, true_implies, eq_self, true_or, or_true, or_false, false_or, not_true_eq_false, not_false_eq_true, false_implies, implies_true, yset_s, yset_o, yset_d, ne_eq, Nat.reduceEqDiff, Int.reduceToNat, Int.reduceEq, Int.reduceLE, Int.reduceLT, Classical.not_not, Nat.reduceLT, ↓zvk_s, ↓zvk_n, ↓s_5_0, ↓s_5_1, ↓s_5_4, ↓s_5_5, ↓s_5_8, ↓s_5_11, ↓s_5_12, ↓s_5_15, ↓s_5_16, ↓s_5_17, ↓s_5_20, ↓s_5_23, ↓s_5_24, ↓s_5_25, ↓s_5_26, ↓s_5_29, ↓s_5_32, ↓s_5_33, ↓s_5_36, ↓s_5_37, ↓s_5_40, ↓s_5_41, ↓s_5_44, ↓s_5_47, ↓s_5_48, ↓s_5_49, ↓s_5_52, ↓s_5_53n, ↓s_5_53i, ↓s_5_53p, ↓s_5_55, ↓s_5_57, ↓s_5_58, ↓s_5_61, ↓s_5_63, ↓s_5_66, ↓s_5_68, w32c_999, ↓s_34_0, ↓s_34_1, ↓s_34_2, ↓s_34_3, ↓s_34_4, ↓s_34_5, zio_0, zio_2, zar_86, zia_86, zln_86, zit_86, zio_28, zio_76, St]
  by_cases lt : bDg (bNb D) (sPs D (w32 ve).toNat) w (w32 pa).toNat < D.2.1.length
  · rw [if_pos lt] at s4
    refine ⟨⟨by omega, by omega⟩, fun z => hQ _ m2 Q2 ⟨fun _ => ⟨b, w, s1, s2, ?_⟩, fun c => absurd ok c⟩, fun z => absurd z (by omega)⟩
    rw [if_pos lt]
    exact s4
  · rw [if_neg lt] at s4
    refine ⟨⟨by omega, by omega⟩, fun z => absurd s4 z, fun z => hQ _ m2 Q2 ⟨fun _ => ⟨b, w, s1, s2, ?_⟩, fun c => absurd ok c⟩⟩
    rw [if_neg lt]
    exact w32c_m2
end KB
end
