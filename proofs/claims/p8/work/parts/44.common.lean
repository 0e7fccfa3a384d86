def zc_153 : List Nat := [6]
theorem s_153_0 {E : yE} {n d : Nat} {mem : yMem} {Post : Option yV → yMem → Prop} {st : List yV} {r1 r2 r3 r4 r5 r6 r7 r8 r9 : Option yV} {x : Int} : zvc E (n + 1) zc_153 d xm_153 0 [some (4, x), r1, r2, r3, r4, r5, r6, r7, r8, r9] (st) mem Post = (zvc E n zc_153 d xm_153 1 [some (4, x), r1, r2, r3, r4, r5, r6, r7, r8, r9] ((4, x) :: st) mem Post) := zrf rfl
theorem s_153_1n {E : yE} {n d : Nat} {mem : yMem} {Post : Option yV → yMem → Prop} {st : List yV} {r0 r1 r2 r4 r5 r6 r7 r8 r9 : Option yV} {x : Int} : zvc E (n + 1) zc_153 d xm_153 1 [r0, r1, r2, none, r4, r5, r6, r7, r8, r9] ((4, x) :: st) mem Post = (zvc E n zc_153 d xm_153 3 [r0, r1, r2, none, some (4, x), none, r6, r7, r8, r9] (st) mem Post) := zrf rfl
theorem s_153_1i {E : yE} {n d : Nat} {mem : yMem} {Post : Option yV → yMem → Prop} {st : List yV} {r0 r1 r2 r4 r5 r6 r7 r8 r9 : Option yV} {x w : Int} : zvc E (n + 1) zc_153 d xm_153 1 [r0, r1, r2, some (0, w), r4, r5, r6, r7, r8, r9] ((4, x) :: st) mem Post = (zvc E n zc_153 d xm_153 3 [r0, r1, r2, some (0, w), some (4, x), none, r6, r7, r8, r9] (st) mem Post) := zrf rfl
theorem s_153_1p {E : yE} {n d : Nat} {mem : yMem} {Post : Option yV → yMem → Prop} {st : List yV} {r0 r1 r2 r4 r5 r6 r7 r8 r9 : Option yV} {x w : Int} : zvc E (n + 1) zc_153 d xm_153 1 [r0, r1, r2, some (1, w), r4, r5, r6, r7, r8, r9] ((4, x) :: st) mem Post = (zvc E n zc_153 d xm_153 3 [r0, r1, r2, some (1, w), some (4, x), none, r6, r7, r8, r9] (st) mem Post) := zrf rfl
theorem s_153_1l {E : yE} {n d : Nat} {mem : yMem} {Post : Option yV → yMem → Prop} {st : List yV} {r0 r1 r2 r4 r5 r6 r7 r8 r9 : Option yV} {x w : Int} : zvc E (n + 1) zc_153 d xm_153 1 [r0, r1, r2, some (4, w), r4, r5, r6, r7, r8, r9] ((4, x) :: st) mem Post = (zvc E n zc_153 d xm_153 3 [r0, r1, r2, none, some (4, x), none, r6, r7, r8, r9] (st) mem Post) := zrf rfl
theorem s_153_1j {E : yE} {n d : Nat} {mem : yMem} {Post : Option yV → yMem → Prop} {st : List yV} {r0 r1 r2 r3 r4 r5 r6 r7 r8 r9 : Option yV} {x : Int} : zvc E (n + 1) zc_153 d xm_153 1 [r0, r1, r2, r3, r4, r5, r6, r7, r8, r9] ((4, x) :: st) mem Post = (zvc E n zc_153 d xm_153 3 [r0, r1, r2, znl r3, some (4, x), none, r6, r7, r8, r9] (st) mem Post) := zrf rfl
theorem s_153_3 {E : yE} {n d : Nat} {mem : yMem} {Post : Option yV → yMem → Prop} {st : List yV} {r0 r1 r3 r4 r5 r6 r7 r8 r9 : Option yV} {x : Int} : zvc E (n + 1) zc_153 d xm_153 3 [r0, r1, some (4, x), r3, r4, r5, r6, r7, r8, r9] (st) mem Post = (zvc E n zc_153 d xm_153 4 [r0, r1, some (4, x), r3, r4, r5, r6, r7, r8, r9] ((4, x) :: st) mem Post) := zrf rfl
theorem s_153_4n {E : yE} {n d : Nat} {mem : yMem} {Post : Option yV → yMem → Prop} {st : List yV} {r0 r1 r2 r3 r4 r6 r7 r8 r9 : Option yV} {x : Int} : zvc E (n + 1) zc_153 d xm_153 4 [r0, r1, r2, r3, r4, none, r6, r7, r8, r9] ((4, x) :: st) mem Post = (zvc E n zc_153 d xm_153 6 [r0, r1, r2, r3, r4, none, some (4, x), none, r8, r9] (st) mem Post) := zrf rfl
theorem s_153_4i {E : yE} {n d : Nat} {mem : yMem} {Post : Option yV → yMem → Prop} {st : List yV} {r0 r1 r2 r3 r4 r6 r7 r8 r9 : Option yV} {x w : Int} : zvc E (n + 1) zc_153 d xm_153 4 [r0, r1, r2, r3, r4, some (0, w), r6, r7, r8, r9] ((4, x) :: st) mem Post = (zvc E n zc_153 d xm_153 6 [r0, r1, r2, r3, r4, some (0, w), some (4, x), none, r8, r9] (st) mem Post) := zrf rfl
theorem s_153_4p {E : yE} {n d : Nat} {mem : yMem} {Post : Option yV → yMem → Prop} {st : List yV} {r0 r1 r2 r3 r4 r6 r7 r8 r9 : Option yV} {x w : Int} : zvc E (n + 1) zc_153 d xm_153 4 [r0, r1, r2, r3, r4, some (1, w), r6, r7, r8, r9] ((4, x) :: st) mem Post = (zvc E n zc_153 d xm_153 6 [r0, r1, r2, r3, r4, some (1, w), some (4, x), none, r8, r9] (st) mem Post) := zrf rfl
theorem s_153_4l {E : yE} {n d : Nat} {mem : yMem} {Post : Option yV → yMem → Prop} {st : List yV} {r0 r1 r2 r3 r4 r6 r7 r8 r9 : Option yV} {x w : Int} : zvc E (n + 1) zc_153 d xm_153 4 [r0, r1, r2, r3, r4, some (4, w), r6, r7, r8, r9] ((4, x) :: st) mem Post = (zvc E n zc_153 d xm_153 6 [r0, r1, r2, r3, r4, none, some (4, x), none, r8, r9] (st) mem Post) := zrf rfl
theorem s_153_4j {E : yE} {n d : Nat} {mem : yMem} {Post : Option yV → yMem → Prop} {st : List yV} {r0 r1 r2 r3 r4 r5 r6 r7 r8 r9 : Option yV} {x : Int} : zvc E (n + 1) zc_153 d xm_153 4 [r0, r1, r2, r3, r4, r5, r6, r7, r8, r9] ((4, x) :: st) mem Post = (zvc E n zc_153 d xm_153 6 [r0, r1, r2, r3, r4, znl r5, some (4, x), none, r8, r9] (st) mem Post) := zrf rfl
theorem g_153_6 {E : yE} {n d : Nat} {mem : yMem} {Post : Option yV → yMem → Prop} {st : List yV} {r0 r1 r2 r3 r4 r5 r7 r8 r9 : Option yV} {x : Int} : zgo E n zc_153 d xm_153 6 [r0, r1, r2, r3, r4, r5, some (4, x), r7, r8, r9] (st) mem Post = (zvc E n zc_153 d xm_153 8 [r0, r1, r2, r3, r4, r5, some (4, x), r7, r8, r9] ((4, x) :: st) mem Post) := zrf rfl
theorem k_153_6 {E : yE} {n d : Nat} {mem : yMem} {Post : Option yV → yMem → Prop} {st : List yV} {rg : zR} : zvc E (n + 1) zc_153 d xm_153 6 rg st mem Post = zG E d xm_153 6 rg st mem Post := zrf rfl
theorem s_153_8 {E : yE} {n d : Nat} {mem : yMem} {Post : Option yV → yMem → Prop} {st : List yV} {r0 r1 r2 r3 r4 r5 r6 r7 r8 r9 : Option yV} : zvc E (n + 1) zc_153 d xm_153 8 [r0, r1, r2, r3, r4, r5, r6, r7, r8, r9] (st) mem Post = (zvc E n zc_153 d xm_153 9 [r0, r1, r2, r3, r4, r5, r6, r7, r8, r9] ((4, 0) :: st) mem Post) := zrf rfl
theorem s_153_9 {E : yE} {n d : Nat} {mem : yMem} {Post : Option yV → yMem → Prop} {st : List yV} {r0 r1 r2 r3 r4 r5 r6 r7 r8 r9 : Option yV} {x y : Int} : zvc E (n + 1) zc_153 d xm_153 9 [r0, r1, r2, r3, r4, r5, r6, r7, r8, r9] ((4, y) :: (4, x) :: st) mem Post = (zvc E n zc_153 d xm_153 10 [r0, r1, r2, r3, r4, r5, r6, r7, r8, r9] ((0, ycmp x y) :: st) mem Post) := zrf rfl
theorem s_153_10 {E : yE} {n d : Nat} {mem : yMem} {Post : Option yV → yMem → Prop} {st : List yV} {r0 r1 r2 r3 r4 r5 r6 r7 r8 r9 : Option yV} {x : Int} : zvc E (n + 1) zc_153 d xm_153 10 [r0, r1, r2, r3, r4, r5, r6, r7, r8, r9] ((0, x) :: st) mem Post = ((w32 x = w32 0 → zvc E n zc_153 d xm_153 31 [r0, r1, r2, r3, r4, r5, r6, r7, r8, r9] (st) mem Post) ∧ (¬ (w32 x = w32 0) → zvc E n zc_153 d xm_153 13 [r0, r1, r2, r3, r4, r5, r6, r7, r8, r9] (st) mem Post)) := zrf rfl
theorem s_153_13 {E : yE} {n d : Nat} {mem : yMem} {Post : Option yV → yMem → Prop} {st : List yV} {r0 r1 r2 r3 r5 r6 r7 r8 r9 : Option yV} {x : Int} : zvc E (n + 1) zc_153 d xm_153 13 [r0, r1, r2, r3, some (4, x), r5, r6, r7, r8, r9] (st) mem Post = (zvc E n zc_153 d xm_153 15 [r0, r1, r2, r3, some (4, x), r5, r6, r7, r8, r9] ((4, x) :: st) mem Post) := zrf rfl
theorem s_153_15 {E : yE} {n d : Nat} {mem : yMem} {Post : Option yV → yMem → Prop} {st : List yV} {r0 r1 r2 r3 r4 r5 r7 r8 r9 : Option yV} {x : Int} : zvc E (n + 1) zc_153 d xm_153 15 [r0, r1, r2, r3, r4, r5, some (4, x), r7, r8, r9] (st) mem Post = (zvc E n zc_153 d xm_153 17 [r0, r1, r2, r3, r4, r5, some (4, x), r7, r8, r9] ((4, x) :: st) mem Post) := zrf rfl
theorem s_153_17 {E : yE} {n d : Nat} {mem : yMem} {Post : Option yV → yMem → Prop} {st : List yV} {r0 r1 r2 r3 r4 r5 r6 r7 r8 r9 : Option yV} {x y : Int} : zvc E (n + 1) zc_153 d xm_153 17 [r0, r1, r2, r3, r4, r5, r6, r7, r8, r9] ((4, y) :: (4, x) :: st) mem Post = (¬ w64 y = 0 ∧ zvc E n zc_153 d xm_153 18 [r0, r1, r2, r3, r4, r5, r6, r7, r8, r9] ((4, ylbin 10 x y) :: st) mem Post) := zrf rfl
theorem s_153_18n {E : yE} {n d : Nat} {mem : yMem} {Post : Option yV → yMem → Prop} {st : List yV} {r0 r1 r2 r3 r4 r5 r6 r8 r9 : Option yV} {x : Int} : zvc E (n + 1) zc_153 d xm_153 18 [r0, r1, r2, r3, r4, r5, r6, none, r8, r9] ((4, x) :: st) mem Post = (zvc E n zc_153 d xm_153 20 [r0, r1, r2, r3, r4, r5, r6, none, some (4, x), none] (st) mem Post) := zrf rfl
theorem s_153_18i {E : yE} {n d : Nat} {mem : yMem} {Post : Option yV → yMem → Prop} {st : List yV} {r0 r1 r2 r3 r4 r5 r6 r8 r9 : Option yV} {x w : Int} : zvc E (n + 1) zc_153 d xm_153 18 [r0, r1, r2, r3, r4, r5, r6, some (0, w), r8, r9] ((4, x) :: st) mem Post = (zvc E n zc_153 d xm_153 20 [r0, r1, r2, r3, r4, r5, r6, some (0, w), some (4, x), none] (st) mem Post) := zrf rfl
theorem s_153_18p {E : yE} {n d : Nat} {mem : yMem} {Post : Option yV → yMem → Prop} {st : List yV} {r0 r1 r2 r3 r4 r5 r6 r8 r9 : Option yV} {x w : Int} : zvc E (n + 1) zc_153 d xm_153 18 [r0, r1, r2, r3, r4, r5, r6, some (1, w), r8, r9] ((4, x) :: st) mem Post = (zvc E n zc_153 d xm_153 20 [r0, r1, r2, r3, r4, r5, r6, some (1, w), some (4, x), none] (st) mem Post) := zrf rfl
theorem s_153_18l {E : yE} {n d : Nat} {mem : yMem} {Post : Option yV → yMem → Prop} {st : List yV} {r0 r1 r2 r3 r4 r5 r6 r8 r9 : Option yV} {x w : Int} : zvc E (n + 1) zc_153 d xm_153 18 [r0, r1, r2, r3, r4, r5, r6, some (4, w), r8, r9] ((4, x) :: st) mem Post = (zvc E n zc_153 d xm_153 20 [r0, r1, r2, r3, r4, r5, r6, none, some (4, x), none] (st) mem Post) := zrf rfl
theorem s_153_18j {E : yE} {n d : Nat} {mem : yMem} {Post : Option yV → yMem → Prop} {st : List yV} {r0 r1 r2 r3 r4 r5 r6 r7 r8 r9 : Option yV} {x : Int} : zvc E (n + 1) zc_153 d xm_153 18 [r0, r1, r2, r3, r4, r5, r6, r7, r8, r9] ((4, x) :: st) mem Post = (zvc E n zc_153 d xm_153 20 [r0, r1, r2, r3, r4, r5, r6, znl r7, some (4, x), none] (st) mem Post) := zrf rfl
theorem s_153_20 {E : yE} {n d : Nat} {mem : yMem} {Post : Option yV → yMem → Prop} {st : List yV} {r0 r1 r2 r3 r4 r5 r7 r8 r9 : Option yV} {x : Int} : zvc E (n + 1) zc_153 d xm_153 20 [r0, r1, r2, r3, r4, r5, some (4, x), r7, r8, r9] (st) mem Post = (zvc E n zc_153 d xm_153 22 [r0, r1, r2, r3, r4, r5, some (4, x), r7, r8, r9] ((4, x) :: st) mem Post) := zrf rfl
theorem s_153_22n {E : yE} {n d : Nat} {mem : yMem} {Post : Option yV → yMem → Prop} {st : List yV} {r0 r1 r2 r4 r5 r6 r7 r8 r9 : Option yV} {x : Int} : zvc E (n + 1) zc_153 d xm_153 22 [r0, r1, r2, none, r4, r5, r6, r7, r8, r9] ((4, x) :: st) mem Post = (zvc E n zc_153 d xm_153 24 [r0, r1, r2, none, some (4, x), none, r6, r7, r8, r9] (st) mem Post) := zrf rfl
theorem s_153_22i {E : yE} {n d : Nat} {mem : yMem} {Post : Option yV → yMem → Prop} {st : List yV} {r0 r1 r2 r4 r5 r6 r7 r8 r9 : Option yV} {x w : Int} : zvc E (n + 1) zc_153 d xm_153 22 [r0, r1, r2, some (0, w), r4, r5, r6, r7, r8, r9] ((4, x) :: st) mem Post = (zvc E n zc_153 d xm_153 24 [r0, r1, r2, some (0, w), some (4, x), none, r6, r7, r8, r9] (st) mem Post) := zrf rfl
theorem s_153_22p {E : yE} {n d : Nat} {mem : yMem} {Post : Option yV → yMem → Prop} {st : List yV} {r0 r1 r2 r4 r5 r6 r7 r8 r9 : Option yV} {x w : Int} : zvc E (n + 1) zc_153 d xm_153 22 [r0, r1, r2, some (1, w), r4, r5, r6, r7, r8, r9] ((4, x) :: st) mem Post = (zvc E n zc_153 d xm_153 24 [r0, r1, r2, some (1, w), some (4, x), none, r6, r7, r8, r9] (st) mem Post) := zrf rfl
theorem s_153_22l {E : yE} {n d : Nat} {mem : yMem} {Post : Option yV → yMem → Prop} {st : List yV} {r0 r1 r2 r4 r5 r6 r7 r8 r9 : Option yV} {x w : Int} : zvc E (n + 1) zc_153 d xm_153 22 [r0, r1, r2, some (4, w), r4, r5, r6, r7, r8, r9] ((4, x) :: st) mem Post = (zvc E n zc_153 d xm_153 24 [r0, r1, r2, none, some (4, x), none, r6, r7, r8, r9] (st) mem Post) := zrf rfl
theorem s_153_22j {E : yE} {n d : Nat} {mem : yMem} {Post : Option yV → yMem → Prop} {st : List yV} {r0 r1 r2 r3 r4 r5 r6 r7 r8 r9 : Option yV} {x : Int} : zvc E (n + 1) zc_153 d xm_153 22 [r0, r1, r2, r3, r4, r5, r6, r7, r8, r9] ((4, x) :: st) mem Post = (zvc E n zc_153 d xm_153 24 [r0, r1, r2, znl r3, some (4, x), none, r6, r7, r8, r9] (st) mem Post) := zrf rfl
theorem s_153_24 {E : yE} {n d : Nat} {mem : yMem} {Post : Option yV → yMem → Prop} {st : List yV} {r0 r1 r2 r3 r4 r5 r6 r7 r9 : Option yV} {x : Int} : zvc E (n + 1) zc_153 d xm_153 24 [r0, r1, r2, r3, r4, r5, r6, r7, some (4, x), r9] (st) mem Post = (zvc E n zc_153 d xm_153 26 [r0, r1, r2, r3, r4, r5, r6, r7, some (4, x), r9] ((4, x) :: st) mem Post) := zrf rfl
theorem s_153_26n {E : yE} {n d : Nat} {mem : yMem} {Post : Option yV → yMem → Prop} {st : List yV} {r0 r1 r2 r3 r4 r6 r7 r8 r9 : Option yV} {x : Int} : zvc E (n + 1) zc_153 d xm_153 26 [r0, r1, r2, r3, r4, none, r6, r7, r8, r9] ((4, x) :: st) mem Post = (zvc E n zc_153 d xm_153 28 [r0, r1, r2, r3, r4, none, some (4, x), none, r8, r9] (st) mem Post) := zrf rfl
theorem s_153_26i {E : yE} {n d : Nat} {mem : yMem} {Post : Option yV → yMem → Prop} {st : List yV} {r0 r1 r2 r3 r4 r6 r7 r8 r9 : Option yV} {x w : Int} : zvc E (n + 1) zc_153 d xm_153 26 [r0, r1, r2, r3, r4, some (0, w), r6, r7, r8, r9] ((4, x) :: st) mem Post = (zvc E n zc_153 d xm_153 28 [r0, r1, r2, r3, r4, some (0, w), some (4, x), none, r8, r9] (st) mem Post) := zrf rfl
theorem s_153_26p {E : yE} {n d : Nat} {mem : yMem} {Post : Option yV → yMem → Prop} {st : List yV} {r0 r1 r2 r3 r4 r6 r7 r8 r9 : Option yV} {x w : Int} : zvc E (n + 1) zc_153 d xm_153 26 [r0, r1, r2, r3, r4, some (1, w), r6, r7, r8, r9] ((4, x) :: st) mem Post = (zvc E n zc_153 d xm_153 28 [r0, r1, r2, r3, r4, some (1, w), some (4, x), none, r8, r9] (st) mem Post) := zrf rfl
theorem s_153_26l {E : yE} {n d : Nat} {mem : yMem} {Post : Option yV → yMem → Prop} {st : List yV} {r0 r1 r2 r3 r4 r6 r7 r8 r9 : Option yV} {x w : Int} : zvc E (n + 1) zc_153 d xm_153 26 [r0, r1, r2, r3, r4, some (4, w), r6, r7, r8, r9] ((4, x) :: st) mem Post = (zvc E n zc_153 d xm_153 28 [r0, r1, r2, r3, r4, none, some (4, x), none, r8, r9] (st) mem Post) := zrf rfl
theorem s_153_26j {E : yE} {n d : Nat} {mem : yMem} {Post : Option yV → yMem → Prop} {st : List yV} {r0 r1 r2 r3 r4 r5 r6 r7 r8 r9 : Option yV} {x : Int} : zvc E (n + 1) zc_153 d xm_153 26 [r0, r1, r2, r3, r4, r5, r6, r7, r8, r9] ((4, x) :: st) mem Post = (zvc E n zc_153 d xm_153 28 [r0, r1, r2, r3, r4, znl r5, some (4, x), none, r8, r9] (st) mem Post) := zrf rfl
theorem s_153_28 {E : yE} {n d : Nat} {mem : yMem} {Post : Option yV → yMem → Prop} {st : List yV} {r0 r1 r2 r3 r4 r5 r6 r7 r8 r9 : Option yV} : zvc E (n + 1) zc_153 d xm_153 28 [r0, r1, r2, r3, r4, r5, r6, r7, r8, r9] (st) mem Post = (zvc E n zc_153 d xm_153 6 [r0, r1, r2, r3, r4, r5, r6, r7, r8, r9] (st) mem Post) := zrf rfl
theorem s_153_31 {E : yE} {n d : Nat} {mem : yMem} {Post : Option yV → yMem → Prop} {st : List yV} {r0 r1 r2 r3 r5 r6 r7 r8 r9 : Option yV} {x : Int} : zvc E (n + 1) zc_153 d xm_153 31 [r0, r1, r2, r3, some (4, x), r5, r6, r7, r8, r9] (st) mem Post = (zvc E n zc_153 d xm_153 33 [r0, r1, r2, r3, some (4, x), r5, r6, r7, r8, r9] ((4, x) :: st) mem Post) := zrf rfl
theorem s_153_33 {E : yE} {n d : Nat} {mem : yMem} {Post : Option yV → yMem → Prop} {r0 r1 r2 r3 r4 r5 r6 r7 r8 r9 : Option yV} {x : Int} : zvc E (n + 1) zc_153 d xm_153 33 [r0, r1, r2, r3, r4, r5, r6, r7, r8, r9] ([(4, x)]) mem Post = (Post (some (4, x)) mem) := zrf rfl
theorem e_153 {E : yE} {d : Nat} {mem : yMem} {Q : Option yV → yMem → Prop} {a0 a1 : Int} (h : zG E d xm_153 0 [some (4, a0), none, some (4, a1), none, none, none, none, none, none, none] [] mem Q) : yCon E (d + 1) xm_153 [(4, a0), (4, a1)] mem Q := zcon_of xmo_153 (Nat.le_of_ble_eq_true rfl) h

theorem lI_div {x y : Int} (hx : 0 ≤ x) (hx2 : x < 9223372036854775808) (hy : 0 < y) (hy2 : y < 9223372036854775808) : lI x / lI y = lI (x / y) := by
  have e1 : (lI x).toInt = x := w64_of (by omega) hx2
  have e2 : (lI y).toInt = y := w64_of (by omega) hy2
  have h1 : 0 ≤ x / y := Int.ediv_nonneg hx (by omega)
  have h2 : x / y ≤ x := Int.ediv_le_self _ hx
  apply Int64.toInt_inj.mp
  rw [Int64.toInt_div, e1, e2, Int.tdiv_eq_ediv_of_nonneg hx]
  have e3 : (lI (x / y)).toInt = x / y := w64_of (by omega) (by omega)
  rw [e3]
  exact Int.bmod_eq_of_le (by omega) (by omega)
theorem ylb10 {x y : Int} (hx : 0 ≤ x) (hx2 : x < 9223372036854775808) (hy : 0 < y) (hy2 : y < 9223372036854775808) : ylbin 10 x y = x % y := by
  have h1 := Int.emod_nonneg x (show y ≠ 0 by omega)
  have h2 := Int.emod_lt_of_pos x hy
  show (lI x - lI x / lI y * lI y).toInt = x % y
  rw [lI_div hx hx2 hy hy2, show lI (x / y) * lI y = lI (x / y * y) from (Int64.ofInt_mul _ _).symm, show lI x - lI (x / y * y) = lI (x - x / y * y) from (Int64.ofInt_sub _ _).symm]
  have e : x - x / y * y = x % y := by rw [Int.emod_def, Int.mul_comm]
  rw [e]
  exact w64_of (by omega) (by omega)
theorem ylb9 {x y : Int} (hx : 0 ≤ x) (hx2 : x < 9223372036854775808) (hy : 0 < y) (hy2 : y < 9223372036854775808) : ylbin 9 x y = x / y := by
  have h1 : 0 ≤ x / y := Int.ediv_nonneg hx (by omega)
  have h2 : x / y ≤ x := Int.ediv_le_self _ hx
  show (lI x / lI y).toInt = x / y
  rw [lI_div hx hx2 hy hy2]
  exact w64_of (by omega) (by omega)
theorem ycmp_0 {y : Int} (h0 : 0 ≤ y) (h1 : y < 9223372036854775808) : w32 (ycmp y 0) = 0 ↔ y = 0 := by
  have e1 : w64 y = y := w64_of (by omega) h1
  have e2 : w64 0 = 0 := by decide
  unfold ycmp
  rw [e1, e2]
  by_cases h : 0 < y
  · rw [if_pos h, show w32 1 = 1 by decide]; omega
  · rw [if_neg h, if_pos (by omega), show w32 0 = 0 by decide]; omega
theorem gcd_em {x y : Int} (hx : 0 ≤ x) (hy : 0 ≤ y) : Int.gcd (x % y) y = Int.gcd x y := by
  obtain ⟨a, rfl⟩ := Int.eq_ofNat_of_zero_le hx
  obtain ⟨b, rfl⟩ := Int.eq_ofNat_of_zero_le hy
  show Nat.gcd (((a : Int) % (b : Int)).natAbs) b = Nat.gcd a b
  rw [← Int.natCast_emod, Int.natAbs_natCast, Nat.gcd_comm a b, Nat.gcd_rec b a]
/-- Euclid's loop -/
theorem common_loop {E : yE} (hE : yEok E) {d : Nat} {mem : yMem} {Q : Option yV → yMem → Prop} {g : Nat} (hQ : Q (some (4, (g : Int))) mem) : ∀ (m : Nat) (x y : Int) (r0 r1 r2 r3 r5 r7 r8 r9 : Option yV), y.toNat ≤ m → 0 ≤ x → x < 9223372036854775808 → 0 ≤ y → y < 9223372036854775808 → Int.gcd x y = g → zG E d xm_153 6 [r0, r1, r2, r3, some (4, x), r5, some (4, y), r7, r8, r9] [] mem Q := by
  intro m
  induction m with
  | zero =>
    intro x y r0 r1 r2 r3 r5 r7 r8 r9 hm hx hx2 hy hy2 hg
    have hy0 : y = 0 := by omega
    subst hy0
    refine zgo_ok (n := 40) hE xmo_153 (cs := zc_153) ?_
    simp only [ynok_30, ynok_31, w32c_0, w32c_1, w32c_2, w32c_3, w32c_4, w32c_5, w32c_6, w32c_7, w32c_8, w32c_9, w32c_10, w32c_11, w32c_12, w32c_13, w32c_14, w32c_m1, w32c_m2, w32c_118, Int.reduceAdd, Int.reduceSub, Int.reduceMul, yput_s, yput_n, znl_n, znl_0, znl_1, znl_4, ysum_n, ysum_0, ysum_1, ysum_4, true_and, and_true, Nat.reduceAdd, Nat.reduceLeDiff, true_implies, eq_self, true_or, or_true, or_false, false_or, not_true_eq_false, not_false_eq_true, false_implies, implies_true, yset_s, yset_o, yset_d, ne_eq, Nat.reduceEqDiff, Int.reduceToNat, Int.reduceEq, Int.reduceLE, Int.reduceLT, Classical.not_not, Nat.reduceLT, ↓zvk_s, ↓zvk_n, ↓s_153_0, ↓s_153_1n, ↓s_153_1i, ↓s_153_1p, ↓s_153_1l, ↓s_153_1j, ↓s_153_3, ↓s_153_4n, ↓s_153_4i, ↓s_153_4p, ↓s_153_4l, ↓s_153_4j, ↓g_153_6, ↓k_153_6, ↓s_153_8, ↓s_153_9, ↓s_153_10, ↓s_153_13, ↓s_153_15, ↓s_153_17, ↓s_153_18n, ↓s_153_18i, ↓s_153_18p, ↓s_153_18l, ↓s_153_18j, ↓s_153_20, ↓s_153_22n, ↓s_153_22i, ↓s_153_22p, ↓s_153_22l, ↓s_153_22j, ↓s_153_24, ↓s_153_26n, ↓s_153_26i, ↓s_153_26p, ↓s_153_26l, ↓s_153_26j, ↓s_153_28, ↓s_153_31, ↓s_153_33]
    refine ⟨fun _ => ?_, fun h => absurd ((ycmp_0 (by omega) (by omega)).mpr rfl) h⟩
    rw [Int.gcd_zero_right] at hg
    rw [show x = (g : Int) by omega]
    exact hQ
  | succ m ih =>
    intro x y r0 r1 r2 r3 r5 r7 r8 r9 hm hx hx2 hy hy2 hg
    refine zgo_ok (n := 40) hE xmo_153 (cs := zc_153) ?_
    simp only [ynok_30, ynok_31, w32c_0, w32c_1, w32c_2, w32c_3, w32c_4, w32c_5, w32c_6, w32c_7, w32c_8, w32c_9, w32c_10, w32c_11, w32c_12, w32c_13, w32c_14, w32c_m1, w32c_m2, w32c_118, Int.reduceAdd, Int.reduceSub, Int.reduceMul, yput_s, yput_n, znl_n, znl_0, znl_1, znl_4, ysum_n, ysum_0, ysum_1, ysum_4, true_and, and_true, Nat.reduceAdd, Nat.reduceLeDiff, true_implies, eq_self, true_or, or_true, or_false, false_or, not_true_eq_false, not_false_eq_true, false_implies, implies_true, yset_s, yset_o, yset_d, ne_eq, Nat.reduceEqDiff, Int.reduceToNat, Int.reduceEq, Int.reduceLE, Int.reduceLT, Classical.not_not, Nat.reduceLT, ↓zvk_s, ↓zvk_n, ↓s_153_0, ↓s_153_1n, ↓s_153_1i, ↓s_153_1p, ↓s_153_1l, ↓s_153_1j, ↓s_153_3, ↓s_153_4n, ↓s_153_4i, ↓s_153_4p, ↓s_153_4l, ↓s_153_4j, ↓g_153_6, ↓k_153_6, ↓s_153_8, ↓s_153_9, ↓s_153_10, ↓s_153_13, ↓s_153_15, ↓s_153_17, ↓s_153_18n, ↓s_153_18i, ↓s_153_18p, ↓s_153_18l, ↓s_153_18j, ↓s_153_20, ↓s_153_22n, ↓s_153_22i, ↓s_153_22p, ↓s_153_22l, ↓s_153_22j, ↓s_153_24, ↓s_153_26n, ↓s_153_26i, ↓s_153_26p, ↓s_153_26l, ↓s_153_26j, ↓s_153_28, ↓s_153_31, ↓s_153_33]
    refine ⟨fun h => ?_, fun h => ⟨?_, ?_⟩⟩
    · have hy0 := (ycmp_0 hy hy2).mp h
      subst hy0
      rw [Int.gcd_zero_right] at hg
      rw [show x = (g : Int) by omega]
      exact hQ
    · have hy0 : y ≠ 0 := fun e => h ((ycmp_0 hy hy2).mpr e)
      rw [w64_of (by omega) hy2]
      exact hy0
    · have hy0 : y ≠ 0 := fun e => h ((ycmp_0 hy hy2).mpr e)
      rw [ylb10 hx hx2 (by omega) hy2]
      have h1 := Int.emod_nonneg x hy0
      have h2 := Int.emod_lt_of_pos x (show 0 < y by omega)
      exact ih y (x % y) _ _ _ _ _ _ _ _ (by omega) hy hy2 h1 (by omega) (by rw [← hg, Int.gcd_comm, gcd_em hx hy])
theorem c_common {E : yE} (hE : yEok E) {D : Nat} (hD : 1 ≤ D) {mem : yMem} {Q : Option yV → yMem → Prop} {x y : Int} (hx : 0 ≤ x) (hx2 : x < 9223372036854775808) (hy : 0 ≤ y) (hy2 : y < 9223372036854775808) (hQ : Q (some (4, ((Int.gcd x y : Nat) : Int))) mem) : yCon E D xm_153 [(4, x), (4, y)] mem Q := by
  obtain ⟨d, rfl⟩ := Nat.exists_eq_add_of_le' hD
  refine e_153 ?_
  refine zvc_ok hE 40 zc_153 _ _ _ _ _ _ _ xmo_153 ?_
  simp only [ynok_30, ynok_31, w32c_0, w32c_1, w32c_2, w32c_3, w32c_4, w32c_5, w32c_6, w32c_7, w32c_8, w32c_9, w32c_10, w32c_11, w32c_12, w32c_13, w32c_14, w32c_m1, w32c_m2, w32c_118, Int.reduceAdd, Int.reduceSub, Int.reduceMul, yput_s, yput_n, znl_n, znl_0, znl_1, znl_4, ysum_n, ysum_0, ysum_1, ysum_4, true_and, and_true, Nat.reduceAdd, Nat.reduceLeDiff, true_implies, eq_self, true_or, or_true, or_false, false_or, not_true_eq_false, not_false_eq_true, false_implies, implies_true, yset_s, yset_o, yset_d, ne_eq, Nat.reduceEqDiff, Int.reduceToNat, Int.reduceEq, Int.reduceLE, Int.reduceLT, Classical.not_not, Nat.reduceLT, ↓zvk_s, ↓zvk_n, ↓s_153_0, ↓s_153_1n, ↓s_153_1i, ↓s_153_1p, ↓s_153_1l, ↓s_153_1j, ↓s_153_3, ↓s_153_4n, ↓s_153_4i, ↓s_153_4p, ↓s_153_4l, ↓s_153_4j, ↓g_153_6, ↓k_153_6, ↓s_153_8, ↓s_153_9, ↓s_153_10, ↓s_153_13, ↓s_153_15, ↓s_153_17, ↓s_153_18n, ↓s_153_18i, ↓s_153_18p, ↓s_153_18l, ↓s_153_18j, ↓s_153_20, ↓s_153_22n, ↓s_153_22i, ↓s_153_22p, ↓s_153_22l, ↓s_153_22j, ↓s_153_24, ↓s_153_26n, ↓s_153_26i, ↓s_153_26p, ↓s_153_26l, ↓s_153_26j, ↓s_153_28, ↓s_153_31, ↓s_153_33]
  exact common_loop hE hQ _ _ _ _ _ _ _ _ _ _ _ (Nat.le_refl _) hx hx2 hy hy2 rfl
