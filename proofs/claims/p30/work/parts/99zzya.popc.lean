section
def zc_256 : List Nat := [10, 24, 34, 41, 48, 55]
theorem s_256_0 {E : yE} {n d : Nat} {mem : yMem} {Post : Option yV → yMem → Prop} {st : List yV} {r1 : Option yV} {x : Int} : zvc E (n + 1) zc_256 d xm_256 0 [some (4, x), r1] (st) mem Post = (zvc E n zc_256 d xm_256 1 [some (4, x), r1] ((4, x) :: st) mem Post) := zrf rfl
theorem s_256_1 {E : yE} {n d : Nat} {mem : yMem} {Post : Option yV → yMem → Prop} {st : List yV} {r1 : Option yV} {x : Int} : zvc E (n + 1) zc_256 d xm_256 1 [some (4, x), r1] (st) mem Post = (zvc E n zc_256 d xm_256 2 [some (4, x), r1] ((4, x) :: st) mem Post) := zrf rfl
theorem s_256_2 {E : yE} {n d : Nat} {mem : yMem} {Post : Option yV → yMem → Prop} {st : List yV} {r0 r1 : Option yV} : zvc E (n + 1) zc_256 d xm_256 2 [r0, r1] (st) mem Post = (zvc E n zc_256 d xm_256 3 [r0, r1] ((0, 1) :: st) mem Post) := zrf rfl
theorem s_256_3 {E : yE} {n d : Nat} {mem : yMem} {Post : Option yV → yMem → Prop} {st : List yV} {r0 r1 : Option yV} {x y : Int} : zvc E (n + 1) zc_256 d xm_256 3 [r0, r1] ((0, y) :: (4, x) :: st) mem Post = (zvc E n zc_256 d xm_256 4 [r0, r1] ((4, ((lI x).toUInt64 >>> ((iI y).toInt64.toUInt64 &&& Int64.toUInt64 63)).toInt64.toInt) :: st) mem Post) := zrf rfl
theorem s_256_4 {E : yE} {n d : Nat} {mem : yMem} {Post : Option yV → yMem → Prop} {st : List yV} {r0 r1 : Option yV} : zvc E (n + 1) zc_256 d xm_256 4 [r0, r1] (st) mem Post = (zvc E n zc_256 d xm_256 7 [r0, r1] ((4, 6148914691236517205) :: st) mem Post) := zrf rfl
theorem s_256_7 {E : yE} {n d : Nat} {mem : yMem} {Post : Option yV → yMem → Prop} {st : List yV} {r0 r1 : Option yV} {x y : Int} : zvc E (n + 1) zc_256 d xm_256 7 [r0, r1] ((4, y) :: (4, x) :: st) mem Post = (zvc E n zc_256 d xm_256 8 [r0, r1] ((4, ylbin 3 x y) :: st) mem Post) := zrf rfl
theorem s_256_8 {E : yE} {n d : Nat} {mem : yMem} {Post : Option yV → yMem → Prop} {st : List yV} {r0 r1 : Option yV} {x y : Int} : zvc E (n + 1) zc_256 d xm_256 8 [r0, r1] ((4, y) :: (4, x) :: st) mem Post = (zvc E n zc_256 d xm_256 9 [r0, r1] ((4, x - y) :: st) mem Post) := zrf rfl
theorem s_256_9 {E : yE} {n d : Nat} {mem : yMem} {Post : Option yV → yMem → Prop} {st : List yV} {r0 r1 : Option yV} {x : Int} : zvc E (n + 1) zc_256 d xm_256 9 [r0, r1] ((4, x) :: st) mem Post = (zvc E n zc_256 d xm_256 10 [some (4, x), none] (st) mem Post) := zrf rfl
theorem g_256_10 {E : yE} {n d : Nat} {mem : yMem} {Post : Option yV → yMem → Prop} {st : List yV} {r1 : Option yV} {x : Int} : zgo E n zc_256 d xm_256 10 [some (4, x), r1] (st) mem Post = (zvc E n zc_256 d xm_256 11 [some (4, x), r1] ((4, x) :: st) mem Post) := zrf rfl
theorem k_256_10 {E : yE} {n d : Nat} {mem : yMem} {Post : Option yV → yMem → Prop} {st : List yV} {rg : zR} : zvc E (n + 1) zc_256 d xm_256 10 rg st mem Post = zG E d xm_256 10 rg st mem Post := zrf rfl
theorem s_256_11 {E : yE} {n d : Nat} {mem : yMem} {Post : Option yV → yMem → Prop} {st : List yV} {r0 r1 : Option yV} : zvc E (n + 1) zc_256 d xm_256 11 [r0, r1] (st) mem Post = (zvc E n zc_256 d xm_256 14 [r0, r1] ((4, 3689348814741910323) :: st) mem Post) := zrf rfl
theorem s_256_14 {E : yE} {n d : Nat} {mem : yMem} {Post : Option yV → yMem → Prop} {st : List yV} {r0 r1 : Option yV} {x y : Int} : zvc E (n + 1) zc_256 d xm_256 14 [r0, r1] ((4, y) :: (4, x) :: st) mem Post = (zvc E n zc_256 d xm_256 15 [r0, r1] ((4, ylbin 3 x y) :: st) mem Post) := zrf rfl
theorem s_256_15 {E : yE} {n d : Nat} {mem : yMem} {Post : Option yV → yMem → Prop} {st : List yV} {r1 : Option yV} {x : Int} : zvc E (n + 1) zc_256 d xm_256 15 [some (4, x), r1] (st) mem Post = (zvc E n zc_256 d xm_256 16 [some (4, x), r1] ((4, x) :: st) mem Post) := zrf rfl
theorem s_256_16 {E : yE} {n d : Nat} {mem : yMem} {Post : Option yV → yMem → Prop} {st : List yV} {r0 r1 : Option yV} : zvc E (n + 1) zc_256 d xm_256 16 [r0, r1] (st) mem Post = (zvc E n zc_256 d xm_256 17 [r0, r1] ((0, 2) :: st) mem Post) := zrf rfl
theorem s_256_17 {E : yE} {n d : Nat} {mem : yMem} {Post : Option yV → yMem → Prop} {st : List yV} {r0 r1 : Option yV} {x y : Int} : zvc E (n + 1) zc_256 d xm_256 17 [r0, r1] ((0, y) :: (4, x) :: st) mem Post = (zvc E n zc_256 d xm_256 18 [r0, r1] ((4, ((lI x).toUInt64 >>> ((iI y).toInt64.toUInt64 &&& Int64.toUInt64 63)).toInt64.toInt) :: st) mem Post) := zrf rfl
theorem s_256_18 {E : yE} {n d : Nat} {mem : yMem} {Post : Option yV → yMem → Prop} {st : List yV} {r0 r1 : Option yV} : zvc E (n + 1) zc_256 d xm_256 18 [r0, r1] (st) mem Post = (zvc E n zc_256 d xm_256 21 [r0, r1] ((4, 3689348814741910323) :: st) mem Post) := zrf rfl
theorem s_256_21 {E : yE} {n d : Nat} {mem : yMem} {Post : Option yV → yMem → Prop} {st : List yV} {r0 r1 : Option yV} {x y : Int} : zvc E (n + 1) zc_256 d xm_256 21 [r0, r1] ((4, y) :: (4, x) :: st) mem Post = (zvc E n zc_256 d xm_256 22 [r0, r1] ((4, ylbin 3 x y) :: st) mem Post) := zrf rfl
theorem s_256_22 {E : yE} {n d : Nat} {mem : yMem} {Post : Option yV → yMem → Prop} {st : List yV} {r0 r1 : Option yV} {x y : Int} : zvc E (n + 1) zc_256 d xm_256 22 [r0, r1] ((4, y) :: (4, x) :: st) mem Post = (zvc E n zc_256 d xm_256 23 [r0, r1] ((4, x + y) :: st) mem Post) := zrf rfl
theorem s_256_23 {E : yE} {n d : Nat} {mem : yMem} {Post : Option yV → yMem → Prop} {st : List yV} {r0 r1 : Option yV} {x : Int} : zvc E (n + 1) zc_256 d xm_256 23 [r0, r1] ((4, x) :: st) mem Post = (zvc E n zc_256 d xm_256 24 [some (4, x), none] (st) mem Post) := zrf rfl
theorem g_256_24 {E : yE} {n d : Nat} {mem : yMem} {Post : Option yV → yMem → Prop} {st : List yV} {r1 : Option yV} {x : Int} : zgo E n zc_256 d xm_256 24 [some (4, x), r1] (st) mem Post = (zvc E n zc_256 d xm_256 25 [some (4, x), r1] ((4, x) :: st) mem Post) := zrf rfl
theorem k_256_24 {E : yE} {n d : Nat} {mem : yMem} {Post : Option yV → yMem → Prop} {st : List yV} {rg : zR} : zvc E (n + 1) zc_256 d xm_256 24 rg st mem Post = zG E d xm_256 24 rg st mem Post := zrf rfl
theorem s_256_25 {E : yE} {n d : Nat} {mem : yMem} {Post : Option yV → yMem → Prop} {st : List yV} {r1 : Option yV} {x : Int} : zvc E (n + 1) zc_256 d xm_256 25 [some (4, x), r1] (st) mem Post = (zvc E n zc_256 d xm_256 26 [some (4, x), r1] ((4, x) :: st) mem Post) := zrf rfl
theorem s_256_26 {E : yE} {n d : Nat} {mem : yMem} {Post : Option yV → yMem → Prop} {st : List yV} {r0 r1 : Option yV} : zvc E (n + 1) zc_256 d xm_256 26 [r0, r1] (st) mem Post = (zvc E n zc_256 d xm_256 27 [r0, r1] ((0, 4) :: st) mem Post) := zrf rfl
theorem s_256_27 {E : yE} {n d : Nat} {mem : yMem} {Post : Option yV → yMem → Prop} {st : List yV} {r0 r1 : Option yV} {x y : Int} : zvc E (n + 1) zc_256 d xm_256 27 [r0, r1] ((0, y) :: (4, x) :: st) mem Post = (zvc E n zc_256 d xm_256 28 [r0, r1] ((4, ((lI x).toUInt64 >>> ((iI y).toInt64.toUInt64 &&& Int64.toUInt64 63)).toInt64.toInt) :: st) mem Post) := zrf rfl
theorem s_256_28 {E : yE} {n d : Nat} {mem : yMem} {Post : Option yV → yMem → Prop} {st : List yV} {r0 r1 : Option yV} {x y : Int} : zvc E (n + 1) zc_256 d xm_256 28 [r0, r1] ((4, y) :: (4, x) :: st) mem Post = (zvc E n zc_256 d xm_256 29 [r0, r1] ((4, x + y) :: st) mem Post) := zrf rfl
theorem s_256_29 {E : yE} {n d : Nat} {mem : yMem} {Post : Option yV → yMem → Prop} {st : List yV} {r0 r1 : Option yV} : zvc E (n + 1) zc_256 d xm_256 29 [r0, r1] (st) mem Post = (zvc E n zc_256 d xm_256 32 [r0, r1] ((4, 1085102592571150095) :: st) mem Post) := zrf rfl
theorem s_256_32 {E : yE} {n d : Nat} {mem : yMem} {Post : Option yV → yMem → Prop} {st : List yV} {r0 r1 : Option yV} {x y : Int} : zvc E (n + 1) zc_256 d xm_256 32 [r0, r1] ((4, y) :: (4, x) :: st) mem Post = (zvc E n zc_256 d xm_256 33 [r0, r1] ((4, ylbin 3 x y) :: st) mem Post) := zrf rfl
theorem s_256_33 {E : yE} {n d : Nat} {mem : yMem} {Post : Option yV → yMem → Prop} {st : List yV} {r0 r1 : Option yV} {x : Int} : zvc E (n + 1) zc_256 d xm_256 33 [r0, r1] ((4, x) :: st) mem Post = (zvc E n zc_256 d xm_256 34 [some (4, x), none] (st) mem Post) := zrf rfl
theorem g_256_34 {E : yE} {n d : Nat} {mem : yMem} {Post : Option yV → yMem → Prop} {st : List yV} {r1 : Option yV} {x : Int} : zgo E n zc_256 d xm_256 34 [some (4, x), r1] (st) mem Post = (zvc E n zc_256 d xm_256 35 [some (4, x), r1] ((4, x) :: st) mem Post) := zrf rfl
theorem k_256_34 {E : yE} {n d : Nat} {mem : yMem} {Post : Option yV → yMem → Prop} {st : List yV} {rg : zR} : zvc E (n + 1) zc_256 d xm_256 34 rg st mem Post = zG E d xm_256 34 rg st mem Post := zrf rfl
theorem s_256_35 {E : yE} {n d : Nat} {mem : yMem} {Post : Option yV → yMem → Prop} {st : List yV} {r1 : Option yV} {x : Int} : zvc E (n + 1) zc_256 d xm_256 35 [some (4, x), r1] (st) mem Post = (zvc E n zc_256 d xm_256 36 [some (4, x), r1] ((4, x) :: st) mem Post) := zrf rfl
theorem s_256_36 {E : yE} {n d : Nat} {mem : yMem} {Post : Option yV → yMem → Prop} {st : List yV} {r0 r1 : Option yV} : zvc E (n + 1) zc_256 d xm_256 36 [r0, r1] (st) mem Post = (zvc E n zc_256 d xm_256 38 [r0, r1] ((0, 8) :: st) mem Post) := zrf rfl
theorem s_256_38 {E : yE} {n d : Nat} {mem : yMem} {Post : Option yV → yMem → Prop} {st : List yV} {r0 r1 : Option yV} {x y : Int} : zvc E (n + 1) zc_256 d xm_256 38 [r0, r1] ((0, y) :: (4, x) :: st) mem Post = (zvc E n zc_256 d xm_256 39 [r0, r1] ((4, ((lI x).toUInt64 >>> ((iI y).toInt64.toUInt64 &&& Int64.toUInt64 63)).toInt64.toInt) :: st) mem Post) := zrf rfl
theorem s_256_39 {E : yE} {n d : Nat} {mem : yMem} {Post : Option yV → yMem → Prop} {st : List yV} {r0 r1 : Option yV} {x y : Int} : zvc E (n + 1) zc_256 d xm_256 39 [r0, r1] ((4, y) :: (4, x) :: st) mem Post = (zvc E n zc_256 d xm_256 40 [r0, r1] ((4, x + y) :: st) mem Post) := zrf rfl
theorem s_256_40 {E : yE} {n d : Nat} {mem : yMem} {Post : Option yV → yMem → Prop} {st : List yV} {r0 r1 : Option yV} {x : Int} : zvc E (n + 1) zc_256 d xm_256 40 [r0, r1] ((4, x) :: st) mem Post = (zvc E n zc_256 d xm_256 41 [some (4, x), none] (st) mem Post) := zrf rfl
theorem g_256_41 {E : yE} {n d : Nat} {mem : yMem} {Post : Option yV → yMem → Prop} {st : List yV} {r1 : Option yV} {x : Int} : zgo E n zc_256 d xm_256 41 [some (4, x), r1] (st) mem Post = (zvc E n zc_256 d xm_256 42 [some (4, x), r1] ((4, x) :: st) mem Post) := zrf rfl
theorem k_256_41 {E : yE} {n d : Nat} {mem : yMem} {Post : Option yV → yMem → Prop} {st : List yV} {rg : zR} : zvc E (n + 1) zc_256 d xm_256 41 rg st mem Post = zG E d xm_256 41 rg st mem Post := zrf rfl
theorem s_256_42 {E : yE} {n d : Nat} {mem : yMem} {Post : Option yV → yMem → Prop} {st : List yV} {r1 : Option yV} {x : Int} : zvc E (n + 1) zc_256 d xm_256 42 [some (4, x), r1] (st) mem Post = (zvc E n zc_256 d xm_256 43 [some (4, x), r1] ((4, x) :: st) mem Post) := zrf rfl
theorem s_256_43 {E : yE} {n d : Nat} {mem : yMem} {Post : Option yV → yMem → Prop} {st : List yV} {r0 r1 : Option yV} : zvc E (n + 1) zc_256 d xm_256 43 [r0, r1] (st) mem Post = (zvc E n zc_256 d xm_256 45 [r0, r1] ((0, 16) :: st) mem Post) := zrf rfl
theorem s_256_45 {E : yE} {n d : Nat} {mem : yMem} {Post : Option yV → yMem → Prop} {st : List yV} {r0 r1 : Option yV} {x y : Int} : zvc E (n + 1) zc_256 d xm_256 45 [r0, r1] ((0, y) :: (4, x) :: st) mem Post = (zvc E n zc_256 d xm_256 46 [r0, r1] ((4, ((lI x).toUInt64 >>> ((iI y).toInt64.toUInt64 &&& Int64.toUInt64 63)).toInt64.toInt) :: st) mem Post) := zrf rfl
theorem s_256_46 {E : yE} {n d : Nat} {mem : yMem} {Post : Option yV → yMem → Prop} {st : List yV} {r0 r1 : Option yV} {x y : Int} : zvc E (n + 1) zc_256 d xm_256 46 [r0, r1] ((4, y) :: (4, x) :: st) mem Post = (zvc E n zc_256 d xm_256 47 [r0, r1] ((4, x + y) :: st) mem Post) := zrf rfl
theorem s_256_47 {E : yE} {n d : Nat} {mem : yMem} {Post : Option yV → yMem → Prop} {st : List yV} {r0 r1 : Option yV} {x : Int} : zvc E (n + 1) zc_256 d xm_256 47 [r0, r1] ((4, x) :: st) mem Post = (zvc E n zc_256 d xm_256 48 [some (4, x), none] (st) mem Post) := zrf rfl
theorem g_256_48 {E : yE} {n d : Nat} {mem : yMem} {Post : Option yV → yMem → Prop} {st : List yV} {r1 : Option yV} {x : Int} : zgo E n zc_256 d xm_256 48 [some (4, x), r1] (st) mem Post = (zvc E n zc_256 d xm_256 49 [some (4, x), r1] ((4, x) :: st) mem Post) := zrf rfl
theorem k_256_48 {E : yE} {n d : Nat} {mem : yMem} {Post : Option yV → yMem → Prop} {st : List yV} {rg : zR} : zvc E (n + 1) zc_256 d xm_256 48 rg st mem Post = zG E d xm_256 48 rg st mem Post := zrf rfl
theorem s_256_49 {E : yE} {n d : Nat} {mem : yMem} {Post : Option yV → yMem → Prop} {st : List yV} {r1 : Option yV} {x : Int} : zvc E (n + 1) zc_256 d xm_256 49 [some (4, x), r1] (st) mem Post = (zvc E n zc_256 d xm_256 50 [some (4, x), r1] ((4, x) :: st) mem Post) := zrf rfl
theorem s_256_50 {E : yE} {n d : Nat} {mem : yMem} {Post : Option yV → yMem → Prop} {st : List yV} {r0 r1 : Option yV} : zvc E (n + 1) zc_256 d xm_256 50 [r0, r1] (st) mem Post = (zvc E n zc_256 d xm_256 52 [r0, r1] ((0, 32) :: st) mem Post) := zrf rfl
theorem s_256_52 {E : yE} {n d : Nat} {mem : yMem} {Post : Option yV → yMem → Prop} {st : List yV} {r0 r1 : Option yV} {x y : Int} : zvc E (n + 1) zc_256 d xm_256 52 [r0, r1] ((0, y) :: (4, x) :: st) mem Post = (zvc E n zc_256 d xm_256 53 [r0, r1] ((4, ((lI x).toUInt64 >>> ((iI y).toInt64.toUInt64 &&& Int64.toUInt64 63)).toInt64.toInt) :: st) mem Post) := zrf rfl
theorem s_256_53 {E : yE} {n d : Nat} {mem : yMem} {Post : Option yV → yMem → Prop} {st : List yV} {r0 r1 : Option yV} {x y : Int} : zvc E (n + 1) zc_256 d xm_256 53 [r0, r1] ((4, y) :: (4, x) :: st) mem Post = (zvc E n zc_256 d xm_256 54 [r0, r1] ((4, x + y) :: st) mem Post) := zrf rfl
theorem s_256_54 {E : yE} {n d : Nat} {mem : yMem} {Post : Option yV → yMem → Prop} {st : List yV} {r0 r1 : Option yV} {x : Int} : zvc E (n + 1) zc_256 d xm_256 54 [r0, r1] ((4, x) :: st) mem Post = (zvc E n zc_256 d xm_256 55 [some (4, x), none] (st) mem Post) := zrf rfl
theorem g_256_55 {E : yE} {n d : Nat} {mem : yMem} {Post : Option yV → yMem → Prop} {st : List yV} {r1 : Option yV} {x : Int} : zgo E n zc_256 d xm_256 55 [some (4, x), r1] (st) mem Post = (zvc E n zc_256 d xm_256 56 [some (4, x), r1] ((4, x) :: st) mem Post) := zrf rfl
theorem k_256_55 {E : yE} {n d : Nat} {mem : yMem} {Post : Option yV → yMem → Prop} {st : List yV} {rg : zR} : zvc E (n + 1) zc_256 d xm_256 55 rg st mem Post = zG E d xm_256 55 rg st mem Post := zrf rfl
theorem s_256_56 {E : yE} {n d : Nat} {mem : yMem} {Post : Option yV → yMem → Prop} {st : List yV} {r0 r1 : Option yV} {x : Int} : zvc E (n + 1) zc_256 d xm_256 56 [r0, r1] ((4, x) :: st) mem Post = (zvc E n zc_256 d xm_256 57 [r0, r1] ((0, x) :: st) mem Post) := zrf rfl
theorem s_256_57 {E : yE} {n d : Nat} {mem : yMem} {Post : Option yV → yMem → Prop} {st : List yV} {r0 r1 : Option yV} : zvc E (n + 1) zc_256 d xm_256 57 [r0, r1] (st) mem Post = (zvc E n zc_256 d xm_256 59 [r0, r1] ((0, 127) :: st) mem Post) := zrf rfl
theorem s_256_59 {E : yE} {n d : Nat} {mem : yMem} {Post : Option yV → yMem → Prop} {st : List yV} {r0 r1 : Option yV} {x y : Int} : zvc E (n + 1) zc_256 d xm_256 59 [r0, r1] ((0, y) :: (0, x) :: st) mem Post = (zvc E n zc_256 d xm_256 60 [r0, r1] ((0, ybin 3 x y) :: st) mem Post) := zrf rfl
theorem s_256_60 {E : yE} {n d : Nat} {mem : yMem} {Post : Option yV → yMem → Prop} {r0 r1 : Option yV} {x : Int} : zvc E (n + 1) zc_256 d xm_256 60 [r0, r1] ([(0, x)]) mem Post = (Post (some (0, x)) mem) := zrf rfl
theorem e_256 {E : yE} {d : Nat} {mem : yMem} {Q : Option yV → yMem → Prop} {a0 : Int} (h : zG E d xm_256 0 [some (4, a0), none] [] mem Q) : yCon E (d + 1) xm_256 [(4, a0)] mem Q := zcon_of xmo_256 (Nat.le_of_ble_eq_true rfl) h

/-! how many bits of a long are set: what Long.bitCount answers below 2 to the 32 -/
theorem zpc_split : ∀ (k m a b : Nat), a < 2 ^ k → zpc (k + m) (a + 2 ^ k * b) = zpc k a + zpc m b
  | 0, m, a, b, h => by
    rw [Nat.pow_zero] at h
    have e : a = 0 := by omega
    subst e
    rw [Nat.pow_zero, Nat.one_mul, Nat.zero_add, Nat.zero_add]
    show zpc m b = 0 + zpc m b
    rw [Nat.zero_add]
  | k + 1, m, a, b, h => by
    have e1 : (a + 2 ^ (k + 1) * b) % 2 = a % 2 := by
      rw [Nat.pow_succ, Nat.mul_comm (2 ^ k) 2, Nat.mul_assoc]
      generalize 2 ^ k * b = z
      omega
    have e2 : (a + 2 ^ (k + 1) * b) / 2 = a / 2 + 2 ^ k * b := by
      rw [Nat.pow_succ, Nat.mul_comm (2 ^ k) 2, Nat.mul_assoc]
      generalize 2 ^ k * b = z
      omega
    have e3 : a / 2 < 2 ^ k := by
      rw [Nat.pow_succ] at h
      revert h
      generalize 2 ^ k = z
      omega
    rw [show k + 1 + m = (k + m) + 1 by omega]
    show (a + 2 ^ (k + 1) * b) % 2 + zpc (k + m) ((a + 2 ^ (k + 1) * b) / 2) = a % 2 + zpc k (a / 2) + zpc m b
    rw [e1, e2, zpc_split k m (a / 2) b e3]
    omega
def zq1 (M n : Nat) : Nat := n - (n / 2 &&& M)
def zq2 (M n : Nat) : Nat := (n &&& M) + (n / 4 &&& M)
def zq3 (M n : Nat) : Nat := (n + n / 16) &&& M
theorem and8 (x M c : Nat) (hc : c < 256) : (x &&& (c + 256 * M)) = (x % 256 &&& c) + 256 * (x / 256 &&& M) := by
  have h1 : (x &&& (c + 256 * M)) % 2 ^ 8 = x % 2 ^ 8 &&& (c + 256 * M) % 2 ^ 8 := Nat.and_mod_two_pow
  have h2 : (x &&& (c + 256 * M)) / 2 ^ 8 = x / 2 ^ 8 &&& (c + 256 * M) / 2 ^ 8 := Nat.and_div_two_pow
  rw [show (2 : Nat) ^ 8 = 256 from rfl, show (c + 256 * M) % 256 = c by omega] at h1
  rw [show (2 : Nat) ^ 8 = 256 from rfl, show (c + 256 * M) / 256 = M by omega] at h2
  omega
theorem k55 : ∀ a : Nat, a < 256 → ∀ j : Nat, j < 2 → ((a / 2 + 128 * j) &&& 85) = (a / 2 &&& 85) := by decide +kernel
theorem k33 : ∀ a : Nat, a < 256 → ∀ j : Nat, j < 4 → ((a / 4 + 64 * j) &&& 51) = (a / 4 &&& 51) := by decide +kernel
theorem k0f : ∀ a : Nat, a < 69 → ∀ j : Nat, j < 5 → ((a + a / 16 + 16 * j) &&& 15) = ((a + a / 16) &&& 15) := by decide +kernel
theorem zq1_s {a m M : Nat} (h : a < 256) : zq1 (85 + 256 * M) (a + 256 * m) = zq1 85 a + 256 * zq1 M m := by
  unfold zq1
  rw [and8 _ M 85 (by decide), show (a + 256 * m) / 2 % 256 = a / 2 + 128 * (m % 2) by omega, show (a + 256 * m) / 2 / 256 = m / 2 by omega, k55 a h (m % 2) (by omega)]
  have h1 : (a / 2 &&& 85) ≤ a / 2 := Nat.and_le_left
  have h2 : (m / 2 &&& M) ≤ m / 2 := Nat.and_le_left
  omega
theorem zq2_s {a m M : Nat} (h : a < 256) : zq2 (51 + 256 * M) (a + 256 * m) = zq2 51 a + 256 * zq2 M m := by
  unfold zq2
  rw [and8 (a + 256 * m) M 51 (by decide), and8 ((a + 256 * m) / 4) M 51 (by decide), show (a + 256 * m) % 256 = a by omega, show (a + 256 * m) / 256 = m by omega, show (a + 256 * m) / 4 % 256 = a / 4 + 64 * (m % 4) by omega, show (a + 256 * m) / 4 / 256 = m / 4 by omega, k33 a h (m % 4) (by omega)]
  omega
theorem zq3_s {a m M : Nat} (h : a < 69) (hm : m % 16 < 5) : zq3 (15 + 256 * M) (a + 256 * m) = zq3 15 a + 256 * zq3 M m := by
  unfold zq3
  rw [and8 _ M 15 (by decide), show (a + 256 * m + (a + 256 * m) / 16) % 256 = a + a / 16 + 16 * (m % 16) by omega, show (a + 256 * m + (a + 256 * m) / 16) / 256 = m + m / 16 by omega, k0f a h (m % 16) (by omega)]
theorem qb : ∀ a : Nat, a < 256 → zq1 85 a < 256 ∧ zq2 51 (zq1 85 a) < 69 ∧ zq2 51 (zq1 85 a) % 16 < 5 ∧ zq3 15 (zq2 51 (zq1 85 a)) = zpc 8 a ∧ zpc 8 a ≤ 8 := by decide +kernel
theorem zq_0 (M : Nat) : zq1 M 0 = 0 ∧ zq2 M 0 = 0 ∧ zq3 M 0 = 0 := by
  unfold zq1 zq2 zq3
  refine ⟨?_, ?_, ?_⟩ <;> simp
theorem popc {n : Nat} (h : n < 4294967296) : ∃ p0 p1 p2 p3 : Nat, (p0 ≤ 8 ∧ p1 ≤ 8 ∧ p2 ≤ 8 ∧ p3 ≤ 8) ∧ zq3 1085102592571150095 (zq2 3689348814741910323 (zq1 6148914691236517205 n)) = p0 + 256 * (p1 + 256 * (p2 + 256 * p3)) ∧ zpc 32 n = p0 + p1 + p2 + p3 := by
  obtain ⟨a1, a2, a3, a4, a5⟩ := qb (n % 256) (by omega)
  obtain ⟨b1, b2, b3, b4, b5⟩ := qb (n / 256 % 256) (by omega)
  obtain ⟨c1, c2, c3, c4, c5⟩ := qb (n / 65536 % 256) (by omega)
  obtain ⟨d1, d2, d3, d4, d5⟩ := qb (n / 16777216) (by omega)
  refine ⟨zpc 8 (n % 256), zpc 8 (n / 256 % 256), zpc 8 (n / 65536 % 256), zpc 8 (n / 16777216), ⟨a5, b5, c5, d5⟩, ?_, ?_⟩
  · have en : n = n % 256 + 256 * (n / 256 % 256 + 256 * (n / 65536 % 256 + 256 * (n / 16777216 + 256 * 0))) := by omega
    have m1 : 6148914691236517205 = 85 + 256 * (85 + 256 * (85 + 256 * (85 + 256 * 1431655765))) := by decide
    have m2 : 3689348814741910323 = 51 + 256 * (51 + 256 * (51 + 256 * (51 + 256 * 858993459))) := by decide
    have m3 : 1085102592571150095 = 15 + 256 * (15 + 256 * (15 + 256 * (15 + 256 * 252645135))) := by decide
    have e1 : zq1 6148914691236517205 n = zq1 85 (n % 256) + 256 * (zq1 85 (n / 256 % 256) + 256 * (zq1 85 (n / 65536 % 256) + 256 * (zq1 85 (n / 16777216) + 256 * 0))) := by
      rw [m1]
      have := zq1_s (a := n % 256) (m := n / 256 % 256 + 256 * (n / 65536 % 256 + 256 * (n / 16777216 + 256 * 0))) (M := 85 + 256 * (85 + 256 * (85 + 256 * 1431655765))) (by omega)
      rw [← en] at this
      rw [this, zq1_s (by omega), zq1_s (by omega), zq1_s (by omega), (zq_0 _).1]
    have e2 : zq2 3689348814741910323 (zq1 6148914691236517205 n) = zq2 51 (zq1 85 (n % 256)) + 256 * (zq2 51 (zq1 85 (n / 256 % 256)) + 256 * (zq2 51 (zq1 85 (n / 65536 % 256)) + 256 * (zq2 51 (zq1 85 (n / 16777216)) + 256 * 0))) := by
      rw [m2, e1, zq2_s a1, zq2_s b1, zq2_s c1, zq2_s d1, (zq_0 _).2.1]
    rw [m3, e2, zq3_s a2 (by omega), zq3_s b2 (by omega), zq3_s c2 (by omega), zq3_s d2 (by decide), (zq_0 _).2.2, a4, b4, c4, d4, Nat.mul_zero, Nat.add_zero]
  · have en : n = n % 256 + 2 ^ 8 * (n / 256 % 256 + 2 ^ 8 * (n / 65536 % 256 + 2 ^ 8 * (n / 16777216))) := by omega
    have := zpc_split 8 24 (n % 256) (n / 256 % 256 + 2 ^ 8 * (n / 65536 % 256 + 2 ^ 8 * (n / 16777216))) (by omega)
    rw [← en] at this
    rw [show (32 : Nat) = 8 + 24 from rfl, this, show (24 : Nat) = 8 + 16 from rfl, zpc_split 8 16 _ _ (by omega), show (16 : Nat) = 8 + 8 from rfl, zpc_split 8 8 _ _ (by omega)]
    omega
/-! longs that are numbers -/
theorem tL {p : Nat} (hp : p < 18446744073709551616) : (lI (p : Int)).toBitVec.toNat = p := by
  show (BitVec.ofInt 64 (p : Int)).toNat = p
  rw [BitVec.toNat_ofInt, Int.emod_eq_of_lt (by omega) (by omega), Int.toNat_natCast]
theorem lI_nt {p : Nat} (hp : p < 9223372036854775808) : (lI (p : Int)).toInt = (p : Int) := w64_of (by omega) (by omega)
theorem lI_and {p q : Nat} (hp : p < 18446744073709551616) (hq : q < 18446744073709551616) : lI (p : Int) &&& lI (q : Int) = lI ((p &&& q : Nat) : Int) := by
  apply Int64.toBitVec_inj.mp
  apply BitVec.eq_of_toNat_eq
  rw [Int64.toBitVec_and, BitVec.toNat_and, tL hp, tL hq, tL (Nat.lt_of_le_of_lt Nat.and_le_left hp)]
theorem lI_or {p q : Nat} (hp : p < 18446744073709551616) (hq : q < 18446744073709551616) : lI (p : Int) ||| lI (q : Int) = lI ((p ||| q : Nat) : Int) := by
  apply Int64.toBitVec_inj.mp
  apply BitVec.eq_of_toNat_eq
  rw [Int64.toBitVec_or, BitVec.toNat_or, tL hp, tL hq, tL (Nat.or_lt_two_pow (n := 64) hp hq)]
theorem yl_and {p q : Nat} (hp : p < 9223372036854775808) (hq : q < 9223372036854775808) : ylbin 3 (p : Int) (q : Int) = ((p &&& q : Nat) : Int) := by
  show (lI (p : Int) &&& lI (q : Int)).toInt = _
  rw [lI_and (by omega) (by omega), lI_nt (Nat.lt_of_le_of_lt Nat.and_le_left hp)]
theorem yl_shr {p : Nat} (hp : p < 9223372036854775808) {s : Nat} {c : Int} (hs : ((iI c).toInt64.toUInt64 &&& Int64.toUInt64 63).toNat % 64 = s) : ((lI (p : Int)).toUInt64 >>> ((iI c).toInt64.toUInt64 &&& Int64.toUInt64 63)).toInt64.toInt = ((p / 2 ^ s : Nat) : Int) := by
  have hd : p / 2 ^ s < 9223372036854775808 := Nat.lt_of_le_of_lt (Nat.div_le_self _ _) hp
  have e : ((lI (p : Int)).toUInt64 >>> ((iI c).toInt64.toUInt64 &&& Int64.toUInt64 63)).toInt64 = lI ((p / 2 ^ s : Nat) : Int) := by
    apply Int64.toBitVec_inj.mp
    apply BitVec.eq_of_toNat_eq
    rw [tL (by omega)]
    show ((lI (p : Int)).toUInt64 >>> ((iI c).toInt64.toUInt64 &&& Int64.toUInt64 63)).toNat = _
    rw [UInt64.toNat_shiftRight, hs, Nat.shiftRight_eq_div_pow]
    show (lI (p : Int)).toBitVec.toNat / 2 ^ s = _
    rw [tL (by omega)]
  rw [e, lI_nt hd]
theorem yb_and127 {x : Int} {a : Nat} (hx : w32 x = (a : Int)) (h : a < 2147483648) : w32 (ybin 3 x 127) = ((a % 128 : Nat) : Int) := by
  show w32 (fbin 3 (iI x) (iI 127)).toInt = _
  rw [iI_natE hx, iI_natE (a := 127) (by decide)]
  have e : fbin 3 (nI a) (nI 127) = nI (Nat.land a 127) := xbin_ok (o := 3) rfl
  rw [e, show Nat.land a 127 = a % 128 from Nat.and_two_pow_sub_one_eq_mod a 7, w32_nI (by omega)]
theorem pend {y z t u p0 p1 p2 p3 : Nat} (h0 : p0 ≤ 8) (h1 : p1 ≤ 8) (h2 : p2 ≤ 8) (h3 : p3 ≤ 8) (hy : y = p0 + 256 * (p1 + 256 * (p2 + 256 * p3))) (hz : z = y + y / 2 ^ 8) (ht : t = z + z / 2 ^ 16) (hu : u = t + t / 2 ^ 32) : w32 (ybin 3 (u : Int) 127) = ((p0 + p1 + p2 + p3 : Nat) : Int) := by
  have a1 : y / 2 ^ 8 = p1 + 256 * p2 + 65536 * p3 := by omega
  rw [a1, hy] at hz
  have a2 : z = (p0 + p1) + 256 * (p1 + p2) + 65536 * (p2 + p3) + 16777216 * p3 := by omega
  have a3 : z / 2 ^ 16 = p2 + p3 + 256 * p3 := by omega
  rw [a3, a2] at ht
  have a4 : t = (p0 + p1 + p2 + p3) + 256 * (p1 + p2 + p3) + 65536 * (p2 + p3) + 16777216 * p3 := by omega
  have a5 : t / 2 ^ 32 = 0 := by omega
  rw [a5, a4] at hu
  have a6 : u < 2147483648 := by omega
  have a7 : u % 128 = p0 + p1 + p2 + p3 := by omega
  rw [yb_and127 (w32_of (by omega) (by omega)) a6, a7]
section PO
variable {E : yE} {mem : yMem} {Q : Option yV → yMem → Prop}
theorem c_popc (hE : yEok E) {D0 : Nat} (hD : 1 ≤ D0) {n : Nat} (hn : n < 4294967296) (hQ : ∀ r, w32 r = ((zpc 32 n : Nat) : Int) → Q (some (0, r)) mem) : yCon E D0 xm_256 [(4, (n : Int))] mem Q := by
  obtain ⟨d, rfl⟩ := Nat.exists_eq_add_of_le' hD
  obtain ⟨p0, p1, p2, p3, ⟨h0, h1, h2, h3⟩, e3, ez⟩ := popc hn
  have u1 : zq1 6148914691236517205 n ≤ n := by
    unfold zq1
    omega
  have u2 : zq2 3689348814741910323 (zq1 6148914691236517205 n) ≤ 2 * n := by
    unfold zq2
    have a1 : (zq1 6148914691236517205 n &&& 3689348814741910323) ≤ zq1 6148914691236517205 n := Nat.and_le_left
    have a2 : (zq1 6148914691236517205 n / 4 &&& 3689348814741910323) ≤ zq1 6148914691236517205 n / 4 := Nat.and_le_left
    omega
  refine e_256 ?_
  refine zvc_ok hE 60 zc_256 _ _ _ _ _ _ _ xmo_256 ?_
  simp only [ynok_30, ynok_31, w32c_0, w32c_1, w32c_2, w32c_3, w32c_4, w32c_5, w32c_6, w32c_7, w32c_8, w32c_9, w32c_10, w32c_11, w32c_12, w32c_13, w32c_14, w32c_m1, w32c_m2, w32c_118, Int.reduceAdd, Int.reduceSub, Int.reduceMul, yput_s, yput_n, znl_n, znl_0, znl_1, znl_4, ysum_n, ysum_0, ysum_1, ysum_4, true_and, and_true, Nat.reduceAdd, Nat.reduceLeDiff, true_implies, eq_self, true_or, or_true, or_false, false_or, not_true_eq_false, not_false_eq_true, false_implies, implies_true, yset_s, yset_o, yset_d, ne_eq, Nat.reduceEqDiff, Int.reduceToNat, Int.reduceEq, Int.reduceLE, Int.reduceLT, Classical.not_not, Nat.reduceLT, ↓zvk_s, ↓zvk_n, ↓s_256_0, ↓s_256_1, ↓s_256_2, ↓s_256_3, ↓s_256_4, ↓s_256_7, ↓s_256_8, ↓s_256_9, ↓g_256_10, ↓k_256_10, ↓s_256_11, ↓s_256_14, ↓s_256_15, ↓s_256_16, ↓s_256_17, ↓s_256_18, ↓s_256_21, ↓s_256_22, ↓s_256_23, ↓g_256_24, ↓k_256_24, ↓s_256_25, ↓s_256_26, ↓s_256_27, ↓s_256_28, ↓s_256_29, ↓s_256_32, ↓s_256_33, ↓g_256_34, ↓k_256_34, ↓s_256_35, ↓s_256_36, ↓s_256_38, ↓s_256_39, ↓s_256_40, ↓g_256_41, ↓k_256_41, ↓s_256_42, ↓s_256_43, ↓s_256_45, ↓s_256_46, ↓s_256_47, ↓g_256_48, ↓k_256_48, ↓s_256_49, ↓s_256_50, ↓s_256_52, ↓s_256_53, ↓s_256_54, ↓g_256_55, ↓k_256_55, ↓s_256_56, ↓s_256_57, ↓s_256_59, ↓s_256_60, w32c_16, w32c_32, w32c_127]
  have s1 : (n : Int) - ylbin 3 (((lI (n : Int)).toUInt64 >>> ((iI 1).toInt64.toUInt64 &&& Int64.toUInt64 63)).toInt64.toInt) 6148914691236517205 = ((zq1 6148914691236517205 n : Nat) : Int) := by
    rw [yl_shr (s := 1) (by omega) (by decide +kernel), show (6148914691236517205 : Int) = ((6148914691236517205 : Nat) : Int) from rfl, yl_and (by omega) (by decide), Nat.pow_one]
    unfold zq1
    have : (n / 2 &&& 6148914691236517205) ≤ n / 2 := Nat.and_le_left
    omega
  rw [s1]
  refine zgo_ok (n := 40) hE xmo_256 (cs := zc_256) ?_
  simp only [ynok_30, ynok_31, w32c_0, w32c_1, w32c_2, w32c_3, w32c_4, w32c_5, w32c_6, w32c_7, w32c_8, w32c_9, w32c_10, w32c_11, w32c_12, w32c_13, w32c_14, w32c_m1, w32c_m2, w32c_118, Int.reduceAdd, Int.reduceSub, Int.reduceMul, yput_s, yput_n, znl_n, znl_0, znl_1, znl_4, ysum_n, ysum_0, ysum_1, ysum_4, true_and, and_true, Nat.reduceAdd, Nat.reduceLeDiff, true_implies, eq_self, true_or, or_true, or_false, false_or, not_true_eq_false, not_false_eq_true, false_implies, implies_true, yset_s, yset_o, yset_d, ne_eq, Nat.reduceEqDiff, Int.reduceToNat, Int.reduceEq, Int.reduceLE, Int.reduceLT, Classical.not_not, Nat.reduceLT, ↓zvk_s, ↓zvk_n, ↓s_256_0, ↓s_256_1, ↓s_256_2, ↓s_256_3, ↓s_256_4, ↓s_256_7, ↓s_256_8, ↓s_256_9, ↓g_256_10, ↓k_256_10, ↓s_256_11, ↓s_256_14, ↓s_256_15, ↓s_256_16, ↓s_256_17, ↓s_256_18, ↓s_256_21, ↓s_256_22, ↓s_256_23, ↓g_256_24, ↓k_256_24, ↓s_256_25, ↓s_256_26, ↓s_256_27, ↓s_256_28, ↓s_256_29, ↓s_256_32, ↓s_256_33, ↓g_256_34, ↓k_256_34, ↓s_256_35, ↓s_256_36, ↓s_256_38, ↓s_256_39, ↓s_256_40, ↓g_256_41, ↓k_256_41, ↓s_256_42, ↓s_256_43, ↓s_256_45, ↓s_256_46, ↓s_256_47, ↓g_256_48, ↓k_256_48, ↓s_256_49, ↓s_256_50, ↓s_256_52, ↓s_256_53, ↓s_256_54, ↓g_256_55, ↓k_256_55, ↓s_256_56, ↓s_256_57, ↓s_256_59, ↓s_256_60, w32c_16, w32c_32, w32c_127]
  revert u1 u2 e3
  generalize zq1 6148914691236517205 n = x1
  intro e3 u1 u2
  have s2 : ylbin 3 (x1 : Int) 3689348814741910323 + ylbin 3 (((lI (x1 : Int)).toUInt64 >>> ((iI 2).toInt64.toUInt64 &&& Int64.toUInt64 63)).toInt64.toInt) 3689348814741910323 = ((zq2 3689348814741910323 x1 : Nat) : Int) := by
    rw [yl_shr (s := 2) (by omega) (by decide +kernel), show (3689348814741910323 : Int) = ((3689348814741910323 : Nat) : Int) from rfl, yl_and (by omega) (by decide), yl_and (by omega) (by decide)]
    rfl
  rw [s2]
  refine zgo_ok (n := 40) hE xmo_256 (cs := zc_256) ?_
  simp only [ynok_30, ynok_31, w32c_0, w32c_1, w32c_2, w32c_3, w32c_4, w32c_5, w32c_6, w32c_7, w32c_8, w32c_9, w32c_10, w32c_11, w32c_12, w32c_13, w32c_14, w32c_m1, w32c_m2, w32c_118, Int.reduceAdd, Int.reduceSub, Int.reduceMul, yput_s, yput_n, znl_n, znl_0, znl_1, znl_4, ysum_n, ysum_0, ysum_1, ysum_4, true_and, and_true, Nat.reduceAdd, Nat.reduceLeDiff, true_implies, eq_self, true_or, or_true, or_false, false_or, not_true_eq_false, not_false_eq_true, false_implies, implies_true, yset_s, yset_o, yset_d, ne_eq, Nat.reduceEqDiff, Int.reduceToNat, Int.reduceEq, Int.reduceLE, Int.reduceLT, Classical.not_not, Nat.reduceLT, ↓zvk_s, ↓zvk_n, ↓s_256_0, ↓s_256_1, ↓s_256_2, ↓s_256_3, ↓s_256_4, ↓s_256_7, ↓s_256_8, ↓s_256_9, ↓g_256_10, ↓k_256_10, ↓s_256_11, ↓s_256_14, ↓s_256_15, ↓s_256_16, ↓s_256_17, ↓s_256_18, ↓s_256_21, ↓s_256_22, ↓s_256_23, ↓g_256_24, ↓k_256_24, ↓s_256_25, ↓s_256_26, ↓s_256_27, ↓s_256_28, ↓s_256_29, ↓s_256_32, ↓s_256_33, ↓g_256_34, ↓k_256_34, ↓s_256_35, ↓s_256_36, ↓s_256_38, ↓s_256_39, ↓s_256_40, ↓g_256_41, ↓k_256_41, ↓s_256_42, ↓s_256_43, ↓s_256_45, ↓s_256_46, ↓s_256_47, ↓g_256_48, ↓k_256_48, ↓s_256_49, ↓s_256_50, ↓s_256_52, ↓s_256_53, ↓s_256_54, ↓g_256_55, ↓k_256_55, ↓s_256_56, ↓s_256_57, ↓s_256_59, ↓s_256_60, w32c_16, w32c_32, w32c_127]
  revert u2 e3
  generalize zq2 3689348814741910323 x1 = x2
  intro e3 u2
  have s3 : ylbin 3 ((x2 : Int) + ((lI (x2 : Int)).toUInt64 >>> ((iI 4).toInt64.toUInt64 &&& Int64.toUInt64 63)).toInt64.toInt) 1085102592571150095 = ((zq3 1085102592571150095 x2 : Nat) : Int) := by
    rw [yl_shr (s := 4) (by omega) (by decide +kernel), show (1085102592571150095 : Int) = ((1085102592571150095 : Nat) : Int) from rfl, ← Int.natCast_add, yl_and (by omega) (by decide)]
    rfl
  rw [s3, e3]
  refine zgo_ok (n := 40) hE xmo_256 (cs := zc_256) ?_
  simp only [ynok_30, ynok_31, w32c_0, w32c_1, w32c_2, w32c_3, w32c_4, w32c_5, w32c_6, w32c_7, w32c_8, w32c_9, w32c_10, w32c_11, w32c_12, w32c_13, w32c_14, w32c_m1, w32c_m2, w32c_118, Int.reduceAdd, Int.reduceSub, Int.reduceMul, yput_s, yput_n, znl_n, znl_0, znl_1, znl_4, ysum_n, ysum_0, ysum_1, ysum_4, true_and, and_true, Nat.reduceAdd, Nat.reduceLeDiff, true_implies, eq_self, true_or, or_true, or_false, false_or, not_true_eq_false, not_false_eq_true, false_implies, implies_true, yset_s, yset_o, yset_d, ne_eq, Nat.reduceEqDiff, Int.reduceToNat, Int.reduceEq, Int.reduceLE, Int.reduceLT, Classical.not_not, Nat.reduceLT, ↓zvk_s, ↓zvk_n, ↓s_256_0, ↓s_256_1, ↓s_256_2, ↓s_256_3, ↓s_256_4, ↓s_256_7, ↓s_256_8, ↓s_256_9, ↓g_256_10, ↓k_256_10, ↓s_256_11, ↓s_256_14, ↓s_256_15, ↓s_256_16, ↓s_256_17, ↓s_256_18, ↓s_256_21, ↓s_256_22, ↓s_256_23, ↓g_256_24, ↓k_256_24, ↓s_256_25, ↓s_256_26, ↓s_256_27, ↓s_256_28, ↓s_256_29, ↓s_256_32, ↓s_256_33, ↓g_256_34, ↓k_256_34, ↓s_256_35, ↓s_256_36, ↓s_256_38, ↓s_256_39, ↓s_256_40, ↓g_256_41, ↓k_256_41, ↓s_256_42, ↓s_256_43, ↓s_256_45, ↓s_256_46, ↓s_256_47, ↓g_256_48, ↓k_256_48, ↓s_256_49, ↓s_256_50, ↓s_256_52, ↓s_256_53, ↓s_256_54, ↓g_256_55, ↓k_256_55, ↓s_256_56, ↓s_256_57, ↓s_256_59, ↓s_256_60, w32c_16, w32c_32, w32c_127]
  rw [yl_shr (s := 8) (by omega) (by decide +kernel), ← Int.natCast_add]
  refine zgo_ok (n := 40) hE xmo_256 (cs := zc_256) ?_
  simp only [ynok_30, ynok_31, w32c_0, w32c_1, w32c_2, w32c_3, w32c_4, w32c_5, w32c_6, w32c_7, w32c_8, w32c_9, w32c_10, w32c_11, w32c_12, w32c_13, w32c_14, w32c_m1, w32c_m2, w32c_118, Int.reduceAdd, Int.reduceSub, Int.reduceMul, yput_s, yput_n, znl_n, znl_0, znl_1, znl_4, ysum_n, ysum_0, ysum_1, ysum_4, true_and, and_true, Nat.reduceAdd, Nat.reduceLeDiff, true_implies, eq_self, true_or, or_true, or_false, false_or, not_true_eq_false, not_false_eq_true, false_implies, implies_true, yset_s, yset_o, yset_d, ne_eq, Nat.reduceEqDiff, Int.reduceToNat, Int.reduceEq, Int.reduceLE, Int.reduceLT, Classical.not_not, Nat.reduceLT, ↓zvk_s, ↓zvk_n, ↓s_256_0, ↓s_256_1, ↓s_256_2, ↓s_256_3, ↓s_256_4, ↓s_256_7, ↓s_256_8, ↓s_256_9, ↓g_256_10, ↓k_256_10, ↓s_256_11, ↓s_256_14, ↓s_256_15, ↓s_256_16, ↓s_256_17, ↓s_256_18, ↓s_256_21, ↓s_256_22, ↓s_256_23, ↓g_256_24, ↓k_256_24, ↓s_256_25, ↓s_256_26, ↓s_256_27, ↓s_256_28, ↓s_256_29, ↓s_256_32, ↓s_256_33, ↓g_256_34, ↓k_256_34, ↓s_256_35, ↓s_256_36, ↓s_256_38, ↓s_256_39, ↓s_256_40, ↓g_256_41, ↓k_256_41, ↓s_256_42, ↓s_256_43, ↓s_256_45, ↓s_256_46, ↓s_256_47, ↓g_256_48, ↓k_256_48, ↓s_256_49, ↓s_256_50, ↓s_256_52, ↓s_256_53, ↓s_256_54, ↓g_256_55, ↓k_256_55, ↓s_256_56, ↓s_256_57, ↓s_256_59, ↓s_256_60, w32c_16, w32c_32, w32c_127]
  rw [yl_shr (s := 16) (by omega) (by decide +kernel), ← Int.natCast_add]
  refine zgo_ok (n := 40) hE xmo_256 (cs := zc_256) ?_
  simp only [ynok_30, ynok_31, w32c_0, w32c_1, w32c_2, w32c_3, w32c_4, w32c_5, w32c_6, w32c_7, w32c_8, w32c_9, w32c_10, w32c_11, w32c_12, w32c_13, w32c_14, w32c_m1, w32c_m2, w32c_118, Int.reduceAdd, Int.reduceSub, Int.reduceMul, yput_s, yput_n, znl_n, znl_0, znl_1, znl_4, ysum_n, ysum_0, ysum_1, ysum_4, true_and, and_true, Nat.reduceAdd, Nat.reduceLeDiff, true_implies, eq_self, true_or, or_true, or_false, false_or, not_true_eq_false, not_false_eq_true, false_implies, implies_true, yset_s, yset_o, yset_d, ne_eq, Nat.reduceEqDiff, Int.reduceToNat, Int.reduceEq, Int.reduceLE, Int.reduceLT, Classical.not_not, Nat.reduceLT, ↓zvk_s, ↓zvk_n, ↓s_256_0, ↓s_256_1, ↓s_256_2, ↓s_256_3, ↓s_256_4, ↓s_256_7, ↓s_256_8, ↓s_256_9, ↓g_256_10, ↓k_256_10, ↓s_256_11, ↓s_256_14, ↓s_256_15, ↓s_256_16, ↓s_256_17, ↓s_256_18, ↓s_256_21, ↓s_256_22, ↓s_256_23, ↓g_256_24, ↓k_256_24, ↓s_256_25, ↓s_256_26, ↓s_256_27, ↓s_256_28, ↓s_256_29, ↓s_256_32, ↓s_256_33, ↓g_256_34, ↓k_256_34, ↓s_256_35, ↓s_256_36, ↓s_256_38, ↓s_256_39, ↓s_256_40, ↓g_256_41, ↓k_256_41, ↓s_256_42, ↓s_256_43, ↓s_256_45, ↓s_256_46, ↓s_256_47, ↓g_256_48, ↓k_256_48, ↓s_256_49, ↓s_256_50, ↓s_256_52, ↓s_256_53, ↓s_256_54, ↓g_256_55, ↓k_256_55, ↓s_256_56, ↓s_256_57, ↓s_256_59, ↓s_256_60, w32c_16, w32c_32, w32c_127]
  rw [yl_shr (s := 32) (by omega) (by decide +kernel), ← Int.natCast_add]
  refine zgo_ok (n := 40) hE xmo_256 (cs := zc_256) ?_
  simp only [ynok_30, ynok_31, w32c_0, w32c_1, w32c_2, w32c_3, w32c_4, w32c_5, w32c_6, w32c_7, w32c_8, w32c_9, w32c_10, w32c_11, w32c_12, w32c_13, w32c_14, w32c_m1, w32c_m2, w32c_118, Int.reduceAdd, Int.reduceSub, Int.reduceMul, yput_s, yput_n, znl_n, znl_0, znl_1, znl_4, ysum_n, ysum_0, ysum_1, ysum_4, true_and, and_true, Nat.reduceAdd, Nat.reduceLeDiff, true_implies, eq_self, true_or, or_true, or_false, false_or, not_true_eq_false, not_false_eq_true, false_implies, implies_true, yset_s, yset_o, yset_d, ne_eq, Nat.reduceEqDiff, Int.reduceToNat, Int.reduceEq, Int.reduceLE, Int.reduceLT, Classical.not_not, Nat.reduceLT, ↓zvk_s, ↓zvk_n, ↓s_256_0, ↓s_256_1, ↓s_256_2, ↓s_256_3, ↓s_256_4, ↓s_256_7, ↓s_256_8, ↓s_256_9, ↓g_256_10, ↓k_256_10, ↓s_256_11, ↓s_256_14, ↓s_256_15, ↓s_256_16, ↓s_256_17, ↓s_256_18, ↓s_256_21, ↓s_256_22, ↓s_256_23, ↓g_256_24, ↓k_256_24, ↓s_256_25, ↓s_256_26, ↓s_256_27, ↓s_256_28, ↓s_256_29, ↓s_256_32, ↓s_256_33, ↓g_256_34, ↓k_256_34, ↓s_256_35, ↓s_256_36, ↓s_256_38, ↓s_256_39, ↓s_256_40, ↓g_256_41, ↓k_256_41, ↓s_256_42, ↓s_256_43, ↓s_256_45, ↓s_256_46, ↓s_256_47, ↓g_256_48, ↓k_256_48, ↓s_256_49, ↓s_256_50, ↓s_256_52, ↓s_256_53, ↓s_256_54, ↓g_256_55, ↓k_256_55, ↓s_256_56, ↓s_256_57, ↓s_256_59, ↓s_256_60, w32c_16, w32c_32, w32c_127]
  refine hQ _ ?_
  rw [ez]
  exact pend h0 h1 h2 h3 rfl rfl rfl rfl
end PO
end
section
/-! ROUNDS, pure: rows of VOICES one behind another, the fewest GAPS -/
def hrd (D : dDc) (X : Int) (p v b : Nat) : Bool := decide (¬ uCk X v) && (decide (b < (sBr D p).length) && sSo D p v b)
def cvB (D : dDc) (X : Int) (p d : Nat) (r : Nat → Nat) : Nat → Nat → Bool
  | 0, _ => false
  | k + 1, b => cvB D X p d r k b || (decide (k * d ≤ b) && hrd D X p (r k) (b - k * d))
abbrev rLn (D : dDc) (p d n : Nat) : Nat := (sBr D p).length + (n - 1) * d
def rGp (D : dDc) (X : Int) (p d n : Nat) (r : Nat → Nat) : Int := ((rLn D p d n : Nat) : Int) - ((nCt (cvB D X p d r n) (rLn D p d n) : Nat) : Int)
abbrev dSt : Type := Int × (Nat → Nat)
def rwU (r : Nat → Nat) (k v : Nat) : Nat → Nat := fun i => if i = k then v else r i
def sFo (g : Nat → dSt → dSt) : Nat → dSt → dSt
  | 0, s => s
  | v + 1, s => g v (sFo g v s)
/-- the rows that begin with r, the VOICES U used, j more to come -/
def sDf (D : dDc) (X : Int) (p d n : Nat) : Nat → Nat → (Nat → Nat) → dSt → dSt
  | 0, _, r, s => if s.1 = -1 ∨ rGp D X p d n r < s.1 then (rGp D X p d n r, r) else s
  | j + 1, U, r, s => sFo (fun v s => if U / 2 ^ v % 2 = 1 ∨ uCk X v then s else sDf D X p d n j (U + 2 ^ v) (rwU r (n - (j + 1)) v) s) D.2.1.length s
def sRok (s : dSt) : Prop := s.1 = -1 ∨ (0 ≤ s.1 ∧ s.1 ≤ 32)
section RN
variable {D : dDc} {X : Int} {p d n : Nat}
theorem cvB_ext {r r' : Nat → Nat} {b : Nat} : ∀ k, (∀ i, i < k → r i = r' i) → cvB D X p d r k b = cvB D X p d r' k b
  | 0, _ => rfl
  | k + 1, h => by
    simp only [cvB]
    rw [cvB_ext k (fun i hi => h i (by omega)), h k (Nat.lt_succ_self k)]
theorem cvB_hi {r : Nat → Nat} {b : Nat} : ∀ k, (sBr D p).length + (k - 1) * d ≤ b → cvB D X p d r k b = false
  | 0, _ => rfl
  | k + 1, h => by
    rw [show k + 1 - 1 = k by omega] at h
    have h2 : (k - 1) * d ≤ k * d := Nat.mul_le_mul_right d (by omega)
    simp only [cvB]
    rw [cvB_hi k (by omega)]
    by_cases c : k * d ≤ b
    · have : ¬ b - k * d < (sBr D p).length := by omega
      unfold hrd
      rw [decide_eq_false this, Bool.false_and, Bool.and_false, Bool.and_false]
      rfl
    · rw [decide_eq_false c]
      rfl
theorem nCt_cut {f : Nat → Bool} {L : Nat} : ∀ m, (∀ b, L ≤ b → f b = false) → L ≤ m → nCt f m = nCt f L
  | 0, _, h => by
    have e : L = 0 := by omega
    rw [e]
  | m + 1, hf, h => by
    by_cases e : L = m + 1
    · rw [e]
    · simp only [nCt]
      rw [nCt_cut m hf (by omega), hf m (by omega), if_neg (by decide), Nat.add_zero]
theorem nBt_ff {f : Nat → Bool} : ∀ m, (∀ b, f b = false) → nBt f m = 0
  | 0, _ => rfl
  | m + 1, h => by
    simp only [nBt]
    rw [nBt_ff m h, h m, if_neg (by decide)]
theorem nCt_not {f : Nat → Bool} : ∀ m, nCt (fun b => !f b) m + nCt f m = m
  | 0 => rfl
  | m + 1 => by
    have ih := nCt_not (f := f) m
    simp only [nCt]
    by_cases hb : f m = true
    · rw [if_neg (show ¬ (!f m) = true by rw [hb]; decide), if_pos hb]
      omega
    · rw [if_neg hb, if_pos (show (!f m) = true by rw [Bool.not_eq_true] at hb; rw [hb]; rfl)]
      omega
theorem rGp_not {r : Nat → Nat} : rGp D X p d n r = ((nCt (fun b => !cvB D X p d r n b) (rLn D p d n) : Nat) : Int) := by
  have := nCt_not (f := cvB D X p d r n) (rLn D p d n)
  unfold rGp
  omega
theorem rGp_ext {r r' : Nat → Nat} (h : ∀ i, i < n → r i = r' i) : rGp D X p d n r = rGp D X p d n r' := by
  unfold rGp
  rw [nCt_ext _ (fun b _ => cvB_ext n h)]
theorem rLn_le (h8 : (sBr D p).length ≤ 8) (hn : n ≤ 4) (hd : d ≤ 8) : rLn D p d n ≤ 32 := by
  have : (n - 1) * d ≤ 3 * 8 := Nat.mul_le_mul (by omega) hd
  unfold rLn
  omega
theorem rGp_bd {r : Nat → Nat} (h : rLn D p d n ≤ 32) : 0 ≤ rGp D X p d n r ∧ rGp D X p d n r ≤ 32 := by
  have := nCt_le (cvB D X p d r n) (rLn D p d n)
  unfold rGp
  omega
theorem sFo_in {P : dSt → Prop} {g : Nat → dSt → dSt} {m : Nat} {s : dSt} (h0 : P s) (hg : ∀ v s, v < m → P s → P (g v s)) : ∀ v, v ≤ m → P (sFo g v s)
  | 0, _ => h0
  | v + 1, hv => hg v _ (by omega) (sFo_in h0 hg v (by omega))
theorem sDf_ok (h : rLn D p d n ≤ 32) : ∀ j U r s, sRok s → sRok (sDf D X p d n j U r s)
  | 0, U, r, s, hs => by
    simp only [sDf]
    split
    · exact Or.inr (rGp_bd h)
    · exact hs
  | j + 1, U, r, s, hs => by
    simp only [sDf]
    refine sFo_in (P := sRok) (m := D.2.1.length) hs (fun v s' _ hs' => ?_) _ (Nat.le_refl _)
    show sRok (if U / 2 ^ v % 2 = 1 ∨ uCk X v then s' else _)
    split
    · exact hs'
    · exact sDf_ok h j _ _ s' hs'
/-- bits, one after another -/
theorem nBt_tb {f : Nat → Bool} (n b : Nat) : (nBt f n).testBit b = (decide (b < n) && f b) := by
  rw [Nat.testBit_eq_decide_div_mod_eq, nBt_b]
  by_cases h : b < n
  · cases hf : f b with
    | true => rw [if_pos ⟨h, rfl⟩, decide_eq_true h]; rfl
    | false => rw [if_neg (fun z => absurd z.2 (by decide)), decide_eq_true h]; rfl
  · rw [if_neg (fun z => h z.1), decide_eq_false h]; rfl
theorem cvB_or {r : Nat → Nat} {k v : Nat} (hc : ¬ uCk X v) (hk : (sBr D p).length + k * d ≤ 32) : nBt (cvB D X p d r k) 32 ||| (sBits D p v * 2 ^ (k * d)) = nBt (cvB D X p d (rwU r k v) (k + 1)) 32 := by
  apply Nat.eq_of_testBit_eq
  intro b
  rw [Nat.testBit_or, Nat.testBit_mul_two_pow, nBt_tb, nBt_tb]
  unfold sBits
  rw [nBt_tb]
  simp only [cvB]
  rw [cvB_ext (r := rwU r k v) (r' := r) k (fun i hi => if_neg (by omega))]
  have ev : rwU r k v k = v := if_pos rfl
  rw [ev]
  unfold hrd
  rw [decide_eq_true hc, Bool.true_and]
  by_cases h : b < 32
  · rw [decide_eq_true h, Bool.true_and, Bool.true_and]
  · rw [decide_eq_false h, Bool.false_and, Bool.false_and, Bool.false_or]
    by_cases c : k * d ≤ b
    · rw [decide_eq_false (show ¬ b - k * d < (sBr D p).length by omega), Bool.false_and, Bool.and_false]
    · rw [decide_eq_false c, Bool.false_and]
theorem ck_or3 : ∀ a : Nat, a < 64 → ∀ v : Nat, v < 6 → (a / 2 ^ v % 2 = 1 ∨ (a + 2 ^ v) / 2 ^ v % 2 = 1) := by decide +kernel
theorem used_up {U v : Nat} (hU : U < 64) (hv : v < 6) (h : ¬ U / 2 ^ v % 2 = 1) : U + 2 ^ v < 64 ∧ ∀ u, u < 6 → ((U + 2 ^ v) / 2 ^ u % 2 = 1 ↔ (U / 2 ^ u % 2 = 1 ∨ u = v)) := by
  obtain ⟨-, o2, o3⟩ := ck_or U hU v hv h
  refine ⟨o2, fun u hu => ?_⟩
  by_cases e : u = v
  · subst e
    exact ⟨fun _ => Or.inr rfl, fun _ => (ck_or3 U hU u hu).resolve_left h⟩
  · rw [o3 u hu e]
    exact ⟨Or.inl, fun z => z.resolve_right e⟩
/-- how many VOICES are left -/
def fLe (X : Int) (U nv : Nat) : Nat := nCt (fun v => decide (¬ (U / 2 ^ v % 2 = 1 ∨ uCk X v))) nv
theorem nCt_1 {f g : Nat → Bool} {v : Nat} (h1 : f v = true) (h2 : g v = false) (h3 : ∀ u, u ≠ v → f u = g u) : ∀ m, nCt f m = nCt g m + (if v < m then 1 else 0)
  | 0 => by rw [if_neg (Nat.not_lt_zero _)]; rfl
  | m + 1 => by
    have ih := nCt_1 h1 h2 h3 m
    simp only [nCt]
    rw [ih]
    by_cases e : m = v
    · subst e
      rw [h1, h2, if_neg (Nat.lt_irrefl _), if_pos rfl, if_neg (by decide), if_pos (Nat.lt_succ_self _)]
    · rw [h3 m e]
      by_cases l : v < m
      · rw [if_pos l, if_pos (show v < m + 1 by omega)]; omega
      · rw [if_neg l, if_neg (show ¬ v < m + 1 by omega)]; omega
theorem fLe_up {U v nv : Nat} (hU : U < 64) (hn : nv ≤ 6) (hv : v < nv) (h : ¬ (U / 2 ^ v % 2 = 1 ∨ uCk X v)) : fLe X U nv = fLe X (U + 2 ^ v) nv + 1 := by
  obtain ⟨-, u2⟩ := used_up hU (show v < 6 by omega) (fun z => h (Or.inl z))
  have e : fLe X (U + 2 ^ v) nv = nCt (fun u => decide (¬ (U / 2 ^ u % 2 = 1 ∨ uCk X u)) && decide (¬ u = v)) nv := by
    unfold fLe
    refine nCt_ext _ (fun u hu => ?_)
    have a := u2 u (by omega)
    by_cases e : u = v
    · subst e
      rw [decide_eq_false (fun z => z (Or.inl (a.mpr (Or.inr rfl)))), decide_eq_false (fun z : ¬ u = u => z rfl), Bool.and_false]
    · rw [decide_eq_true e, Bool.and_true]
      by_cases q : U / 2 ^ u % 2 = 1 ∨ uCk X u
      · rw [decide_eq_false (fun z => z (q.elim (fun y => Or.inl (a.mpr (Or.inl y))) Or.inr)), decide_eq_false (fun z => z q)]
      · rw [decide_eq_true (show ¬ ((U + 2 ^ v) / 2 ^ u % 2 = 1 ∨ uCk X u) from fun y => q (y.elim (fun y => (a.mp y).elim Or.inl (fun y => absurd y e)) Or.inr)), decide_eq_true q]
  rw [e]
  unfold fLe
  rw [nCt_1 (v := v) (f := fun u => decide (¬ (U / 2 ^ u % 2 = 1 ∨ uCk X u))) (g := fun u => decide (¬ (U / 2 ^ u % 2 = 1 ∨ uCk X u)) && decide (¬ u = v)) (decide_eq_true h) (by show (_ && decide (¬ v = v)) = false; rw [decide_eq_false (fun z : ¬ v = v => z rfl), Bool.and_false]) (fun u hu => by show _ = (_ && decide (¬ u = v)); rw [decide_eq_true hu, Bool.and_true]) nv, if_pos hv]
theorem fLe_z {U nv v : Nat} (h : fLe X U nv = 0) (hv : v < nv) : U / 2 ^ v % 2 = 1 ∨ uCk X v := by
  by_cases q : U / 2 ^ v % 2 = 1 ∨ uCk X v
  · exact q
  · exfalso
    have := nCt_1 (v := v) (f := fun u => decide (¬ (U / 2 ^ u % 2 = 1 ∨ uCk X u))) (g := fun u => decide (¬ (U / 2 ^ u % 2 = 1 ∨ uCk X u)) && decide (¬ u = v)) (decide_eq_true q) (by show (_ && decide (¬ v = v)) = false; rw [decide_eq_false (fun z : ¬ v = v => z rfl), Bool.and_false]) (fun u hu => by show _ = (_ && decide (¬ u = v)); rw [decide_eq_true hu, Bool.and_true]) nv
    rw [if_pos hv] at this
    unfold fLe at h
    omega
/-- too few VOICES: no row -/
theorem sDf_no (hn : D.2.1.length ≤ 6) : ∀ j U r s, U < 64 → fLe X U D.2.1.length < j → sDf D X p d n j U r s = s
  | 0, U, r, s, _, h => absurd h (Nat.not_lt_zero _)
  | j + 1, U, r, s, hU, h => by
    simp only [sDf]
    refine sFo_in (P := fun t => t = s) (m := D.2.1.length) rfl (fun v s' hv hs' => ?_) _ (Nat.le_refl _)
    show (if U / 2 ^ v % 2 = 1 ∨ uCk X v then s' else _) = s
    by_cases q : U / 2 ^ v % 2 = 1 ∨ uCk X v
    · rw [if_pos q]; exact hs'
    · rw [if_neg q]
      have e := fLe_up hU hn hv q
      rw [sDf_no hn j _ _ s' (used_up hU (by omega) (fun z => q (Or.inl z))).1 (by omega)]
      exact hs'
theorem sDf_st (h : rLn D p d n ≤ 32) : ∀ j U r s, ¬ s.1 = -1 → ¬ (sDf D X p d n j U r s).1 = -1
  | 0, U, r, s, hs => by
    simp only [sDf]
    split
    · have := rGp_bd (X := X) (r := r) h
      show ¬ rGp D X p d n r = -1
      omega
    · exact hs
  | j + 1, U, r, s, hs => by
    simp only [sDf]
    refine sFo_in (P := fun t => ¬ t.1 = -1) (m := D.2.1.length) hs (fun v s' _ hs' => ?_) _ (Nat.le_refl _)
    show ¬ (if U / 2 ^ v % 2 = 1 ∨ uCk X v then s' else _).1 = -1
    split
    · exact hs'
    · exact sDf_st h j _ _ s' hs'
theorem sFo_ex {P : dSt → Prop} {g : Nat → dSt → dSt} {s : dSt} {v0 : Nat} (hg : ∀ v s, P s → P (g v s)) (h0 : ∀ s, P (g v0 s)) : ∀ v, v0 < v → P (sFo g v s)
  | 0, h => absurd h (Nat.not_lt_zero _)
  | v + 1, h => by
    by_cases e : v0 = v
    · subst e
      exact h0 _
    · exact hg v _ (sFo_ex hg h0 v (by omega))
/-- enough VOICES: a row -/
theorem sDf_yes (h : rLn D p d n ≤ 32) (hn : D.2.1.length ≤ 6) : ∀ j U r s, U < 64 → j ≤ fLe X U D.2.1.length → ¬ (sDf D X p d n j U r s).1 = -1
  | 0, U, r, s, _, _ => by
    simp only [sDf]
    split
    · have := rGp_bd (X := X) (r := r) h
      show ¬ rGp D X p d n r = -1
      omega
    · next c => exact fun z => c (Or.inl z)
  | j + 1, U, r, s, hU, hj => by
    have : ∃ v, v < D.2.1.length ∧ ¬ (U / 2 ^ v % 2 = 1 ∨ uCk X v) := by
      by_cases q : ∃ v, v < D.2.1.length ∧ ¬ (U / 2 ^ v % 2 = 1 ∨ uCk X v)
      · exact q
      · exfalso
        have e : fLe X U D.2.1.length = nCt (fun _ => false) D.2.1.length := by
          unfold fLe
          refine nCt_ext _ (fun v hv => decide_eq_false (fun z => q ⟨v, hv, z⟩))
        have e2 := nCt_cut (f := fun _ => false) (L := 0) D.2.1.length (fun _ _ => rfl) (Nat.zero_le _)
        rw [e, e2] at hj
        exact absurd hj (Nat.not_succ_le_zero _)
    obtain ⟨v0, hv0, q0⟩ := this
    simp only [sDf]
    refine sFo_ex (P := fun t => ¬ t.1 = -1) (v0 := v0) (fun v s' hs' => ?_) (fun s' => ?_) _ hv0
    · show ¬ (if U / 2 ^ v % 2 = 1 ∨ uCk X v then s' else _).1 = -1
      split
      · exact hs'
      · exact sDf_st h j _ _ s' hs'
    · show ¬ (if U / 2 ^ v0 % 2 = 1 ∨ uCk X v0 then s' else _).1 = -1
      rw [if_neg q0]
      have e := fLe_up hU hn hv0 q0
      exact sDf_yes h hn j _ _ s' (used_up hU (by omega) (fun z => q0 (Or.inl z))).1 (by omega)
end RN
/-- what ROUND is -/
def sRo (D : dDc) (W : dU) (p d n : Nat) : dSt := sDf D (uX W) p d n n 0 (fun _ => 0) (-1, fun _ => 0)
theorem fLe_0 {D : dDc} {X : Int} {nv : Nat} (h0 : 0 ≤ X) (h1 : X < ((2 ^ nv : Nat) : Int)) (hn : nv ≤ 6) : fLe X 0 nv + zpc 8 X.toNat = nv := by
  have e1 : fLe X 0 nv = nCt (fun v => !X.toNat.testBit v) nv := by
    unfold fLe
    refine nCt_ext _ (fun v _ => ?_)
    rw [Nat.testBit_eq_decide_div_mod_eq, ← decide_not]
    congr 1
    rw [Nat.zero_div]
    refine propext ⟨fun z y => z (Or.inr y), fun z y => y.elim (fun y => absurd y (by decide)) z⟩
  have e2 : X.toNat = nBt (fun v => X.toNat.testBit v) 8 := by
    apply Nat.eq_of_testBit_eq
    intro b
    rw [nBt_tb]
    by_cases h : b < 8
    · rw [decide_eq_true h, Bool.true_and]
    · rw [decide_eq_false h, Bool.false_and]
      refine Nat.testBit_lt_two_pow (Nat.lt_of_lt_of_le (show X.toNat < 2 ^ nv by revert h1; generalize 2 ^ nv = z; intro h1; omega) (Nat.pow_le_pow_right (by decide) (by omega)))
  have e3 : zpc 8 X.toNat = nCt (fun v => X.toNat.testBit v) 8 := by
    have := zpc_bt (f := fun v => X.toNat.testBit v) (Nat.le_refl 8)
    rw [← e2] at this
    exact this
  have e4 : nCt (fun v => X.toNat.testBit v) 8 = nCt (fun v => X.toNat.testBit v) nv := by
    refine nCt_cut 8 (fun b hb => ?_) (by omega)
    refine Nat.testBit_lt_two_pow (Nat.lt_of_lt_of_le (show X.toNat < 2 ^ nv by revert h1; generalize 2 ^ nv = z; intro h1; omega) (Nat.pow_le_pow_right (by decide) hb))
  rw [e1, e3, e4]
  exact nCt_not nv
end
