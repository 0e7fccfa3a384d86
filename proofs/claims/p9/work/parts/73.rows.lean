def zc_234 : List Nat := [2]
theorem s_234_0 {E : yE} {n d : Nat} {mem : yMem} {Post : Option yV → yMem → Prop} {st : List yV} {r0 r1 : Option yV} : zvc E (n + 1) zc_234 d xm_234 0 [r0, r1] (st) mem Post = (zvc E n zc_234 d xm_234 1 [r0, r1] ((0, 0) :: st) mem Post) := zrf rfl
theorem s_234_1n {E : yE} {n d : Nat} {mem : yMem} {Post : Option yV → yMem → Prop} {st : List yV} {r1 : Option yV} {x : Int} : zvc E (n + 1) zc_234 d xm_234 1 [none, r1] ((0, x) :: st) mem Post = (zvc E n zc_234 d xm_234 2 [none, some (0, x)] (st) mem Post) := zrf rfl
theorem s_234_1i {E : yE} {n d : Nat} {mem : yMem} {Post : Option yV → yMem → Prop} {st : List yV} {r1 : Option yV} {x w : Int} : zvc E (n + 1) zc_234 d xm_234 1 [some (0, w), r1] ((0, x) :: st) mem Post = (zvc E n zc_234 d xm_234 2 [some (0, w), some (0, x)] (st) mem Post) := zrf rfl
theorem s_234_1p {E : yE} {n d : Nat} {mem : yMem} {Post : Option yV → yMem → Prop} {st : List yV} {r1 : Option yV} {x w : Int} : zvc E (n + 1) zc_234 d xm_234 1 [some (1, w), r1] ((0, x) :: st) mem Post = (zvc E n zc_234 d xm_234 2 [some (1, w), some (0, x)] (st) mem Post) := zrf rfl
theorem s_234_1j {E : yE} {n d : Nat} {mem : yMem} {Post : Option yV → yMem → Prop} {st : List yV} {r0 r1 : Option yV} {x : Int} : zvc E (n + 1) zc_234 d xm_234 1 [r0, r1] ((0, x) :: st) mem Post = (zvc E n zc_234 d xm_234 2 [znl r0, some (0, x)] (st) mem Post) := zrf rfl
theorem g_234_2 {E : yE} {n d : Nat} {mem : yMem} {Post : Option yV → yMem → Prop} {st : List yV} {r0 : Option yV} {x : Int} : zgo E n zc_234 d xm_234 2 [r0, some (0, x)] (st) mem Post = (zvc E n zc_234 d xm_234 3 [r0, some (0, x)] ((0, x) :: st) mem Post) := zrf rfl
theorem k_234_2 {E : yE} {n d : Nat} {mem : yMem} {Post : Option yV → yMem → Prop} {st : List yV} {rg : zR} : zvc E (n + 1) zc_234 d xm_234 2 rg st mem Post = zG E d xm_234 2 rg st mem Post := zrf rfl
theorem s_234_3 {E : yE} {n d : Nat} {mem : yMem} {Post : Option yV → yMem → Prop} {st : List yV} {r0 r1 : Option yV} : zvc E (n + 1) zc_234 d xm_234 3 [r0, r1] (st) mem Post = (zvc E n zc_234 d xm_234 4 [r0, r1] ((0, 3) :: st) mem Post) := zrf rfl
theorem s_234_4 {E : yE} {n d : Nat} {mem : yMem} {Post : Option yV → yMem → Prop} {st : List yV} {r0 r1 : Option yV} {x y : Int} : zvc E (n + 1) zc_234 d xm_234 4 [r0, r1] ((0, y) :: (0, x) :: st) mem Post = ((w32 y ≤ w32 x → zvc E n zc_234 d xm_234 20 [r0, r1] (st) mem Post) ∧ (¬ (w32 y ≤ w32 x) → zvc E n zc_234 d xm_234 7 [r0, r1] (st) mem Post)) := zrf rfl
theorem s_234_7 {E : yE} {n d : Nat} {mem : yMem} {Post : Option yV → yMem → Prop} {st : List yV} {r1 : Option yV} {x : Int} : zvc E (n + 1) zc_234 d xm_234 7 [some (1, x), r1] (st) mem Post = (zvc E n zc_234 d xm_234 8 [some (1, x), r1] ((1, x) :: st) mem Post) := zrf rfl
theorem s_234_8 {E : yE} {n d : Nat} {mem : yMem} {Post : Option yV → yMem → Prop} {st : List yV} {r0 r1 : Option yV} : zvc E (n + 1) zc_234 d xm_234 8 [r0, r1] ((1, 95) :: st) mem Post = (zvc E n zc_234 d xm_234 11 [r0, r1] ((1, 136) :: st) mem Post) := zrf rfl
theorem s_234_11 {E : yE} {n d : Nat} {mem : yMem} {Post : Option yV → yMem → Prop} {st : List yV} {r0 : Option yV} {x : Int} : zvc E (n + 1) zc_234 d xm_234 11 [r0, some (0, x)] (st) mem Post = (zvc E n zc_234 d xm_234 12 [r0, some (0, x)] ((0, x) :: st) mem Post) := zrf rfl
theorem s_234_12 {E : yE} {n d : Nat} {mem : yMem} {Post : Option yV → yMem → Prop} {st : List yV} {r0 r1 : Option yV} : zvc E (n + 1) zc_234 d xm_234 12 [r0, r1] (st) mem Post = (zvc E n zc_234 d xm_234 13 [r0, r1] ((0, 0) :: st) mem Post) := zrf rfl
theorem s_234_13 {E : yE} {n d : Nat} {mem : yMem} {Post : Option yV → yMem → Prop} {st : List yV} {r0 r1 : Option yV} {x z j : Int} : zvc E (n + 1) zc_234 d xm_234 13 [r0, r1] ((0, x) :: (0, j) :: (1, z) :: st) mem Post = ((0 ≤ w32 j ∧ w32 j < ((zar z 0 : Nat) : Int)) ∧ zvc E n zc_234 d xm_234 14 [r0, r1] (st) (yset mem z.toNat (w32 j).toNat x) Post) := zrf rfl
theorem s_234_14n {E : yE} {n d : Nat} {mem : yMem} {Post : Option yV → yMem → Prop} {st : List yV} {x : Int} : zvc E (n + 1) zc_234 d xm_234 14 [none, some (0, x)] (st) mem Post = (zvc E n zc_234 d xm_234 17 [none, some (0, x + 1)] (st) mem Post) := zrf rfl
theorem s_234_14i {E : yE} {n d : Nat} {mem : yMem} {Post : Option yV → yMem → Prop} {st : List yV} {x w : Int} : zvc E (n + 1) zc_234 d xm_234 14 [some (0, w), some (0, x)] (st) mem Post = (zvc E n zc_234 d xm_234 17 [some (0, w), some (0, x + 1)] (st) mem Post) := zrf rfl
theorem s_234_14p {E : yE} {n d : Nat} {mem : yMem} {Post : Option yV → yMem → Prop} {st : List yV} {x w : Int} : zvc E (n + 1) zc_234 d xm_234 14 [some (1, w), some (0, x)] (st) mem Post = (zvc E n zc_234 d xm_234 17 [some (1, w), some (0, x + 1)] (st) mem Post) := zrf rfl
theorem s_234_14j {E : yE} {n d : Nat} {mem : yMem} {Post : Option yV → yMem → Prop} {st : List yV} {r0 : Option yV} {x : Int} : zvc E (n + 1) zc_234 d xm_234 14 [r0, some (0, x)] (st) mem Post = (zvc E n zc_234 d xm_234 17 [znl r0, some (0, x + 1)] (st) mem Post) := zrf rfl
theorem s_234_17 {E : yE} {n d : Nat} {mem : yMem} {Post : Option yV → yMem → Prop} {st : List yV} {r0 r1 : Option yV} : zvc E (n + 1) zc_234 d xm_234 17 [r0, r1] (st) mem Post = (zvc E n zc_234 d xm_234 2 [r0, r1] (st) mem Post) := zrf rfl
theorem s_234_20 {E : yE} {n d : Nat} {mem : yMem} {Post : Option yV → yMem → Prop} {r0 r1 : Option yV} : zvc E (n + 1) zc_234 d xm_234 20 [r0, r1] ([]) mem Post = (Post none mem) := zrf rfl
def zc_175 : List Nat := [9]
theorem s_175_0 {E : yE} {n d : Nat} {mem : yMem} {Post : Option yV → yMem → Prop} {st : List yV} {r1 r2 : Option yV} {x : Int} : zvc E (n + 1) zc_175 d xm_175 0 [some (1, x), r1, r2] (st) mem Post = (zvc E n zc_175 d xm_175 1 [some (1, x), r1, r2] ((1, x) :: st) mem Post) := zrf rfl
theorem s_175_1 {E : yE} {n d : Nat} {mem : yMem} {Post : Option yV → yMem → Prop} {st : List yV} {r0 r1 r2 : Option yV} : zvc E (n + 1) zc_175 d xm_175 1 [r0, r1, r2] ((1, 95) :: st) mem Post = (zvc E n zc_175 d xm_175 4 [r0, r1, r2] ((1, 109) :: st) mem Post) := zrf rfl
theorem s_175_4 {E : yE} {n d : Nat} {mem : yMem} {Post : Option yV → yMem → Prop} {st : List yV} {r0 r2 : Option yV} {x : Int} : zvc E (n + 1) zc_175 d xm_175 4 [r0, some (0, x), r2] (st) mem Post = (zvc E n zc_175 d xm_175 5 [r0, some (0, x), r2] ((0, x) :: st) mem Post) := zrf rfl
theorem s_175_5 {E : yE} {n d : Nat} {mem : yMem} {Post : Option yV → yMem → Prop} {st : List yV} {r0 r1 r2 : Option yV} {z j : Int} : zvc E (n + 1) zc_175 d xm_175 5 [r0, r1, r2] ((0, j) :: (1, z) :: st) mem Post = ((0 ≤ w32 j ∧ w32 j < ((zar z 0 : Nat) : Int)) ∧ zvc E n zc_175 d xm_175 6 [r0, r1, r2] ((0, mem z.toNat (w32 j).toNat) :: st) mem Post) := zrf rfl
theorem s_175_6 {E : yE} {n d : Nat} {mem : yMem} {Post : Option yV → yMem → Prop} {st : List yV} {r0 r1 r2 : Option yV} : zvc E (n + 1) zc_175 d xm_175 6 [r0, r1, r2] (st) mem Post = (zvc E n zc_175 d xm_175 7 [r0, r1, r2] ((0, 1) :: st) mem Post) := zrf rfl
theorem s_175_7 {E : yE} {n d : Nat} {mem : yMem} {Post : Option yV → yMem → Prop} {st : List yV} {r0 r1 r2 : Option yV} {x y : Int} : zvc E (n + 1) zc_175 d xm_175 7 [r0, r1, r2] ((0, y) :: (0, x) :: st) mem Post = (zvc E n zc_175 d xm_175 8 [r0, r1, r2] ((0, x - y) :: st) mem Post) := zrf rfl
theorem s_175_8n {E : yE} {n d : Nat} {mem : yMem} {Post : Option yV → yMem → Prop} {st : List yV} {r0 r2 : Option yV} {x : Int} : zvc E (n + 1) zc_175 d xm_175 8 [r0, none, r2] ((0, x) :: st) mem Post = (zvc E n zc_175 d xm_175 9 [r0, none, some (0, x)] (st) mem Post) := zrf rfl
theorem s_175_8i {E : yE} {n d : Nat} {mem : yMem} {Post : Option yV → yMem → Prop} {st : List yV} {r0 r2 : Option yV} {x w : Int} : zvc E (n + 1) zc_175 d xm_175 8 [r0, some (0, w), r2] ((0, x) :: st) mem Post = (zvc E n zc_175 d xm_175 9 [r0, some (0, w), some (0, x)] (st) mem Post) := zrf rfl
theorem s_175_8p {E : yE} {n d : Nat} {mem : yMem} {Post : Option yV → yMem → Prop} {st : List yV} {r0 r2 : Option yV} {x w : Int} : zvc E (n + 1) zc_175 d xm_175 8 [r0, some (1, w), r2] ((0, x) :: st) mem Post = (zvc E n zc_175 d xm_175 9 [r0, some (1, w), some (0, x)] (st) mem Post) := zrf rfl
theorem s_175_8j {E : yE} {n d : Nat} {mem : yMem} {Post : Option yV → yMem → Prop} {st : List yV} {r0 r1 r2 : Option yV} {x : Int} : zvc E (n + 1) zc_175 d xm_175 8 [r0, r1, r2] ((0, x) :: st) mem Post = (zvc E n zc_175 d xm_175 9 [r0, znl r1, some (0, x)] (st) mem Post) := zrf rfl
theorem g_175_9 {E : yE} {n d : Nat} {mem : yMem} {Post : Option yV → yMem → Prop} {st : List yV} {r0 r1 : Option yV} {x : Int} : zgo E n zc_175 d xm_175 9 [r0, r1, some (0, x)] (st) mem Post = (zvc E n zc_175 d xm_175 10 [r0, r1, some (0, x)] ((0, x) :: st) mem Post) := zrf rfl
theorem k_175_9 {E : yE} {n d : Nat} {mem : yMem} {Post : Option yV → yMem → Prop} {st : List yV} {rg : zR} : zvc E (n + 1) zc_175 d xm_175 9 rg st mem Post = zG E d xm_175 9 rg st mem Post := zrf rfl
theorem s_175_10 {E : yE} {n d : Nat} {mem : yMem} {Post : Option yV → yMem → Prop} {st : List yV} {r0 r1 r2 : Option yV} {x : Int} : zvc E (n + 1) zc_175 d xm_175 10 [r0, r1, r2] ((0, x) :: st) mem Post = ((w32 x < w32 0 → zvc E n zc_175 d xm_175 53 [r0, r1, r2] (st) mem Post) ∧ (¬ (w32 x < w32 0) → zvc E n zc_175 d xm_175 13 [r0, r1, r2] (st) mem Post)) := zrf rfl
theorem s_175_13 {E : yE} {n d : Nat} {mem : yMem} {Post : Option yV → yMem → Prop} {st : List yV} {r1 r2 : Option yV} {x : Int} : zvc E (n + 1) zc_175 d xm_175 13 [some (1, x), r1, r2] (st) mem Post = (zvc E n zc_175 d xm_175 14 [some (1, x), r1, r2] ((1, x) :: st) mem Post) := zrf rfl
theorem s_175_14 {E : yE} {n d : Nat} {mem : yMem} {Post : Option yV → yMem → Prop} {st : List yV} {r0 r1 r2 : Option yV} : zvc E (n + 1) zc_175 d xm_175 14 [r0, r1, r2] ((1, 95) :: st) mem Post = (zvc E n zc_175 d xm_175 17 [r0, r1, r2] ((1, 136) :: st) mem Post) := zrf rfl
theorem s_175_17 {E : yE} {n d : Nat} {mem : yMem} {Post : Option yV → yMem → Prop} {st : List yV} {r0 r1 : Option yV} {x : Int} : zvc E (n + 1) zc_175 d xm_175 17 [r0, r1, some (0, x)] (st) mem Post = (zvc E n zc_175 d xm_175 18 [r0, r1, some (0, x)] ((0, x) :: st) mem Post) := zrf rfl
theorem s_175_18 {E : yE} {n d : Nat} {mem : yMem} {Post : Option yV → yMem → Prop} {st : List yV} {r0 r1 r2 : Option yV} {z j : Int} : zvc E (n + 1) zc_175 d xm_175 18 [r0, r1, r2] ((0, j) :: (1, z) :: st) mem Post = ((0 ≤ w32 j ∧ w32 j < ((zar z 0 : Nat) : Int)) ∧ zvc E n zc_175 d xm_175 19 [r0, r1, r2] ((0, mem z.toNat (w32 j).toNat) :: st) mem Post) := zrf rfl
theorem s_175_19 {E : yE} {n d : Nat} {mem : yMem} {Post : Option yV → yMem → Prop} {st : List yV} {r1 r2 : Option yV} {x : Int} : zvc E (n + 1) zc_175 d xm_175 19 [some (1, x), r1, r2] (st) mem Post = (zvc E n zc_175 d xm_175 20 [some (1, x), r1, r2] ((1, x) :: st) mem Post) := zrf rfl
theorem s_175_20 {E : yE} {n d : Nat} {mem : yMem} {Post : Option yV → yMem → Prop} {st : List yV} {r0 r1 r2 : Option yV} : zvc E (n + 1) zc_175 d xm_175 20 [r0, r1, r2] ((1, 95) :: st) mem Post = (zvc E n zc_175 d xm_175 23 [r0, r1, r2] ((1, 97) :: st) mem Post) := zrf rfl
theorem s_175_23 {E : yE} {n d : Nat} {mem : yMem} {Post : Option yV → yMem → Prop} {st : List yV} {r0 r1 r2 : Option yV} : zvc E (n + 1) zc_175 d xm_175 23 [r0, r1, r2] (st) mem Post = (zvc E n zc_175 d xm_175 24 [r0, r1, r2] ((0, 1) :: st) mem Post) := zrf rfl
theorem s_175_24 {E : yE} {n d : Nat} {mem : yMem} {Post : Option yV → yMem → Prop} {st : List yV} {r0 r1 r2 : Option yV} {z j : Int} : zvc E (n + 1) zc_175 d xm_175 24 [r0, r1, r2] ((0, j) :: (1, z) :: st) mem Post = ((0 ≤ w32 j ∧ w32 j < ((zar z 0 : Nat) : Int)) ∧ zvc E n zc_175 d xm_175 25 [r0, r1, r2] ((0, mem z.toNat (w32 j).toNat) :: st) mem Post) := zrf rfl
theorem s_175_25 {E : yE} {n d : Nat} {mem : yMem} {Post : Option yV → yMem → Prop} {st : List yV} {r0 r1 r2 : Option yV} {x y : Int} : zvc E (n + 1) zc_175 d xm_175 25 [r0, r1, r2] ((0, y) :: (0, x) :: st) mem Post = ((w32 y ≤ w32 x → zvc E n zc_175 d xm_175 40 [r0, r1, r2] (st) mem Post) ∧ (¬ (w32 y ≤ w32 x) → zvc E n zc_175 d xm_175 28 [r0, r1, r2] (st) mem Post)) := zrf rfl
theorem s_175_28 {E : yE} {n d : Nat} {mem : yMem} {Post : Option yV → yMem → Prop} {st : List yV} {r1 r2 : Option yV} {x : Int} : zvc E (n + 1) zc_175 d xm_175 28 [some (1, x), r1, r2] (st) mem Post = (zvc E n zc_175 d xm_175 29 [some (1, x), r1, r2] ((1, x) :: st) mem Post) := zrf rfl
theorem s_175_29 {E : yE} {n d : Nat} {mem : yMem} {Post : Option yV → yMem → Prop} {st : List yV} {r0 r1 r2 : Option yV} : zvc E (n + 1) zc_175 d xm_175 29 [r0, r1, r2] ((1, 95) :: st) mem Post = (zvc E n zc_175 d xm_175 32 [r0, r1, r2] ((1, 136) :: st) mem Post) := zrf rfl
theorem s_175_32 {E : yE} {n d : Nat} {mem : yMem} {Post : Option yV → yMem → Prop} {st : List yV} {r0 r1 : Option yV} {x : Int} : zvc E (n + 1) zc_175 d xm_175 32 [r0, r1, some (0, x)] (st) mem Post = (zvc E n zc_175 d xm_175 33 [r0, r1, some (0, x)] ((0, x) :: st) mem Post) := zrf rfl
theorem s_175_33 {E : yE} {n d : Nat} {mem : yMem} {Post : Option yV → yMem → Prop} {st : List yV} {r0 r1 r2 : Option yV} {x y : Int} : zvc E (n + 1) zc_175 d xm_175 33 [r0, r1, r2] ((0, x) :: (1, y) :: st) mem Post = (zvc E n zc_175 d xm_175 34 [r0, r1, r2] ((0, x) :: (1, y) :: (0, x) :: (1, y) :: st) mem Post) := zrf rfl
theorem s_175_34 {E : yE} {n d : Nat} {mem : yMem} {Post : Option yV → yMem → Prop} {st : List yV} {r0 r1 r2 : Option yV} {z j : Int} : zvc E (n + 1) zc_175 d xm_175 34 [r0, r1, r2] ((0, j) :: (1, z) :: st) mem Post = ((0 ≤ w32 j ∧ w32 j < ((zar z 0 : Nat) : Int)) ∧ zvc E n zc_175 d xm_175 35 [r0, r1, r2] ((0, mem z.toNat (w32 j).toNat) :: st) mem Post) := zrf rfl
theorem s_175_35 {E : yE} {n d : Nat} {mem : yMem} {Post : Option yV → yMem → Prop} {st : List yV} {r0 r1 r2 : Option yV} : zvc E (n + 1) zc_175 d xm_175 35 [r0, r1, r2] (st) mem Post = (zvc E n zc_175 d xm_175 36 [r0, r1, r2] ((0, 1) :: st) mem Post) := zrf rfl
theorem s_175_36 {E : yE} {n d : Nat} {mem : yMem} {Post : Option yV → yMem → Prop} {st : List yV} {r0 r1 r2 : Option yV} {x y : Int} : zvc E (n + 1) zc_175 d xm_175 36 [r0, r1, r2] ((0, y) :: (0, x) :: st) mem Post = (zvc E n zc_175 d xm_175 37 [r0, r1, r2] ((0, x + y) :: st) mem Post) := zrf rfl
theorem s_175_37 {E : yE} {n d : Nat} {mem : yMem} {Post : Option yV → yMem → Prop} {st : List yV} {r0 r1 r2 : Option yV} {x z j : Int} : zvc E (n + 1) zc_175 d xm_175 37 [r0, r1, r2] ((0, x) :: (0, j) :: (1, z) :: st) mem Post = ((0 ≤ w32 j ∧ w32 j < ((zar z 0 : Nat) : Int)) ∧ zvc E n zc_175 d xm_175 38 [r0, r1, r2] (st) (yset mem z.toNat (w32 j).toNat x) Post) := zrf rfl
theorem s_175_38 {E : yE} {n d : Nat} {mem : yMem} {Post : Option yV → yMem → Prop} {st : List yV} {r0 r1 r2 : Option yV} : zvc E (n + 1) zc_175 d xm_175 38 [r0, r1, r2] (st) mem Post = (zvc E n zc_175 d xm_175 39 [r0, r1, r2] ((0, 1) :: st) mem Post) := zrf rfl
theorem s_175_39 {E : yE} {n d : Nat} {mem : yMem} {Post : Option yV → yMem → Prop} {r0 r1 r2 : Option yV} {x : Int} : zvc E (n + 1) zc_175 d xm_175 39 [r0, r1, r2] ([(0, x)]) mem Post = ((w32 x = 0 ∨ w32 x = 1) ∧ Post (some (0, x)) mem) := zrf rfl
theorem s_175_40 {E : yE} {n d : Nat} {mem : yMem} {Post : Option yV → yMem → Prop} {st : List yV} {r1 r2 : Option yV} {x : Int} : zvc E (n + 1) zc_175 d xm_175 40 [some (1, x), r1, r2] (st) mem Post = (zvc E n zc_175 d xm_175 41 [some (1, x), r1, r2] ((1, x) :: st) mem Post) := zrf rfl
theorem s_175_41 {E : yE} {n d : Nat} {mem : yMem} {Post : Option yV → yMem → Prop} {st : List yV} {r0 r1 r2 : Option yV} : zvc E (n + 1) zc_175 d xm_175 41 [r0, r1, r2] ((1, 95) :: st) mem Post = (zvc E n zc_175 d xm_175 44 [r0, r1, r2] ((1, 136) :: st) mem Post) := zrf rfl
theorem s_175_44 {E : yE} {n d : Nat} {mem : yMem} {Post : Option yV → yMem → Prop} {st : List yV} {r0 r1 : Option yV} {x : Int} : zvc E (n + 1) zc_175 d xm_175 44 [r0, r1, some (0, x)] (st) mem Post = (zvc E n zc_175 d xm_175 45 [r0, r1, some (0, x)] ((0, x) :: st) mem Post) := zrf rfl
theorem s_175_45 {E : yE} {n d : Nat} {mem : yMem} {Post : Option yV → yMem → Prop} {st : List yV} {r0 r1 r2 : Option yV} : zvc E (n + 1) zc_175 d xm_175 45 [r0, r1, r2] (st) mem Post = (zvc E n zc_175 d xm_175 46 [r0, r1, r2] ((0, 0) :: st) mem Post) := zrf rfl
theorem s_175_46 {E : yE} {n d : Nat} {mem : yMem} {Post : Option yV → yMem → Prop} {st : List yV} {r0 r1 r2 : Option yV} {x z j : Int} : zvc E (n + 1) zc_175 d xm_175 46 [r0, r1, r2] ((0, x) :: (0, j) :: (1, z) :: st) mem Post = ((0 ≤ w32 j ∧ w32 j < ((zar z 0 : Nat) : Int)) ∧ zvc E n zc_175 d xm_175 47 [r0, r1, r2] (st) (yset mem z.toNat (w32 j).toNat x) Post) := zrf rfl
theorem s_175_47n {E : yE} {n d : Nat} {mem : yMem} {Post : Option yV → yMem → Prop} {st : List yV} {r0 : Option yV} {x : Int} : zvc E (n + 1) zc_175 d xm_175 47 [r0, none, some (0, x)] (st) mem Post = (zvc E n zc_175 d xm_175 50 [r0, none, some (0, x + (-1))] (st) mem Post) := zrf rfl
theorem s_175_47i {E : yE} {n d : Nat} {mem : yMem} {Post : Option yV → yMem → Prop} {st : List yV} {r0 : Option yV} {x w : Int} : zvc E (n + 1) zc_175 d xm_175 47 [r0, some (0, w), some (0, x)] (st) mem Post = (zvc E n zc_175 d xm_175 50 [r0, some (0, w), some (0, x + (-1))] (st) mem Post) := zrf rfl
theorem s_175_47p {E : yE} {n d : Nat} {mem : yMem} {Post : Option yV → yMem → Prop} {st : List yV} {r0 : Option yV} {x w : Int} : zvc E (n + 1) zc_175 d xm_175 47 [r0, some (1, w), some (0, x)] (st) mem Post = (zvc E n zc_175 d xm_175 50 [r0, some (1, w), some (0, x + (-1))] (st) mem Post) := zrf rfl
theorem s_175_47j {E : yE} {n d : Nat} {mem : yMem} {Post : Option yV → yMem → Prop} {st : List yV} {r0 r1 : Option yV} {x : Int} : zvc E (n + 1) zc_175 d xm_175 47 [r0, r1, some (0, x)] (st) mem Post = (zvc E n zc_175 d xm_175 50 [r0, znl r1, some (0, x + (-1))] (st) mem Post) := zrf rfl
theorem s_175_50 {E : yE} {n d : Nat} {mem : yMem} {Post : Option yV → yMem → Prop} {st : List yV} {r0 r1 r2 : Option yV} : zvc E (n + 1) zc_175 d xm_175 50 [r0, r1, r2] (st) mem Post = (zvc E n zc_175 d xm_175 9 [r0, r1, r2] (st) mem Post) := zrf rfl
theorem s_175_53 {E : yE} {n d : Nat} {mem : yMem} {Post : Option yV → yMem → Prop} {st : List yV} {r0 r1 r2 : Option yV} : zvc E (n + 1) zc_175 d xm_175 53 [r0, r1, r2] (st) mem Post = (zvc E n zc_175 d xm_175 54 [r0, r1, r2] ((0, 0) :: st) mem Post) := zrf rfl
theorem s_175_54 {E : yE} {n d : Nat} {mem : yMem} {Post : Option yV → yMem → Prop} {r0 r1 r2 : Option yV} {x : Int} : zvc E (n + 1) zc_175 d xm_175 54 [r0, r1, r2] ([(0, x)]) mem Post = ((w32 x = 0 ∨ w32 x = 1) ∧ Post (some (0, x)) mem) := zrf rfl
theorem e_234 {E : yE} {d : Nat} {mem : yMem} {Q : Option yV → yMem → Prop} {z : Int} (h : zG E d xm_234 0 [some (1, z), none] [] mem Q) : yCon E (d + 1) xm_234 [(1, z)] mem Q := zcon_of xmo_234 (Nat.le_of_ble_eq_true rfl) h
theorem e_175 {E : yE} {d : Nat} {mem : yMem} {Q : Option yV → yMem → Prop} {z a0 : Int} (h : zG E d xm_175 0 [some (1, z), some (0, a0), none] [] mem Q) : yCon E (d + 1) xm_175 [(1, z), (0, a0)] mem Q := zcon_of xmo_175 (Nat.le_of_ble_eq_true rfl) h

theorem c_starts {E : yE} (hE : yEok E) {D : Nat} (hD : 1 ≤ D) {mem : yMem} {Q : Option yV → yMem → Prop} (hQ : Q none (yset (yset (yset mem 136 0 0) 136 1 0) 136 2 0)) : yCon E D xm_234 [(1, 95)] mem Q := by
  obtain ⟨d, rfl⟩ := Nat.exists_eq_add_of_le' hD
  refine e_234 ?_
  refine zvc_ok hE 60 zc_234 _ _ _ _ _ _ _ xmo_234 ?_
  simp only [ynok_30, ynok_31, w32c_0, w32c_1, w32c_2, w32c_3, w32c_4, w32c_5, w32c_6, w32c_7, w32c_8, w32c_9, w32c_10, w32c_11, w32c_12, w32c_13, w32c_14, w32c_m1, w32c_m2, w32c_118, Int.reduceAdd, Int.reduceSub, Int.reduceMul, yput_s, yput_n, znl_n, znl_0, znl_1, znl_4, ysum_n, ysum_0, ysum_1, ysum_4, true_and, and_true, Nat.reduceAdd, Nat.reduceLeDiff, true_implies, eq_self, true_or, or_true, or_false, false_or, not_true_eq_false, not_false_eq_true, false_implies, implies_true, yset_s, yset_o, yset_d, ne_eq, Nat.reduceEqDiff, Int.reduceToNat, Int.reduceEq, Int.reduceLE, Int.reduceLT, Classical.not_not, Nat.reduceLT, ↓zvk_s, ↓zvk_n, ↓s_234_0, ↓s_234_1n, ↓s_234_1i, ↓s_234_1p, ↓g_234_2, ↓k_234_2, ↓s_234_3, ↓s_234_4, ↓s_234_7, ↓s_234_8, ↓s_234_11, ↓s_234_12, ↓s_234_13, ↓s_234_14n, ↓s_234_14i, ↓s_234_14p, ↓s_234_17, ↓s_234_20, zar_136, zia_136, zln_136, zit_136, zio_95]
  refine zgo_ok (n := 60) hE xmo_234 (cs := zc_234) ?_
  simp only [ynok_30, ynok_31, w32c_0, w32c_1, w32c_2, w32c_3, w32c_4, w32c_5, w32c_6, w32c_7, w32c_8, w32c_9, w32c_10, w32c_11, w32c_12, w32c_13, w32c_14, w32c_m1, w32c_m2, w32c_118, Int.reduceAdd, Int.reduceSub, Int.reduceMul, yput_s, yput_n, znl_n, znl_0, znl_1, znl_4, ysum_n, ysum_0, ysum_1, ysum_4, true_and, and_true, Nat.reduceAdd, Nat.reduceLeDiff, true_implies, eq_self, true_or, or_true, or_false, false_or, not_true_eq_false, not_false_eq_true, false_implies, implies_true, yset_s, yset_o, yset_d, ne_eq, Nat.reduceEqDiff, Int.reduceToNat, Int.reduceEq, Int.reduceLE, Int.reduceLT, Classical.not_not, Nat.reduceLT, ↓zvk_s, ↓zvk_n, ↓s_234_0, ↓s_234_1n, ↓s_234_1i, ↓s_234_1p, ↓g_234_2, ↓k_234_2, ↓s_234_3, ↓s_234_4, ↓s_234_7, ↓s_234_8, ↓s_234_11, ↓s_234_12, ↓s_234_13, ↓s_234_14n, ↓s_234_14i, ↓s_234_14p, ↓s_234_17, ↓s_234_20, zar_136, zia_136, zln_136, zit_136, zio_95]
  refine ⟨by omega, ?_⟩
  refine zgo_ok (n := 60) hE xmo_234 (cs := zc_234) ?_
  simp only [ynok_30, ynok_31, w32c_0, w32c_1, w32c_2, w32c_3, w32c_4, w32c_5, w32c_6, w32c_7, w32c_8, w32c_9, w32c_10, w32c_11, w32c_12, w32c_13, w32c_14, w32c_m1, w32c_m2, w32c_118, Int.reduceAdd, Int.reduceSub, Int.reduceMul, yput_s, yput_n, znl_n, znl_0, znl_1, znl_4, ysum_n, ysum_0, ysum_1, ysum_4, true_and, and_true, Nat.reduceAdd, Nat.reduceLeDiff, true_implies, eq_self, true_or, or_true, or_false, false_or, not_true_eq_false, not_false_eq_true, false_implies, implies_true, yset_s, yset_o, yset_d, ne_eq, Nat.reduceEqDiff, Int.reduceToNat, Int.reduceEq, Int.reduceLE, Int.reduceLT, Classical.not_not, Nat.reduceLT, ↓zvk_s, ↓zvk_n, ↓s_234_0, ↓s_234_1n, ↓s_234_1i, ↓s_234_1p, ↓g_234_2, ↓k_234_2, ↓s_234_3, ↓s_234_4, ↓s_234_7, ↓s_234_8, ↓s_234_11, ↓s_234_12, ↓s_234_13, ↓s_234_14n, ↓s_234_14i, ↓s_234_14p, ↓s_234_17, ↓s_234_20, zar_136, zia_136, zln_136, zit_136, zio_95]
  refine ⟨by omega, ?_⟩
  refine zgo_ok (n := 60) hE xmo_234 (cs := zc_234) ?_
  simp only [ynok_30, ynok_31, w32c_0, w32c_1, w32c_2, w32c_3, w32c_4, w32c_5, w32c_6, w32c_7, w32c_8, w32c_9, w32c_10, w32c_11, w32c_12, w32c_13, w32c_14, w32c_m1, w32c_m2, w32c_118, Int.reduceAdd, Int.reduceSub, Int.reduceMul, yput_s, yput_n, znl_n, znl_0, znl_1, znl_4, ysum_n, ysum_0, ysum_1, ysum_4, true_and, and_true, Nat.reduceAdd, Nat.reduceLeDiff, true_implies, eq_self, true_or, or_true, or_false, false_or, not_true_eq_false, not_false_eq_true, false_implies, implies_true, yset_s, yset_o, yset_d, ne_eq, Nat.reduceEqDiff, Int.reduceToNat, Int.reduceEq, Int.reduceLE, Int.reduceLT, Classical.not_not, Nat.reduceLT, ↓zvk_s, ↓zvk_n, ↓s_234_0, ↓s_234_1n, ↓s_234_1i, ↓s_234_1p, ↓g_234_2, ↓k_234_2, ↓s_234_3, ↓s_234_4, ↓s_234_7, ↓s_234_8, ↓s_234_11, ↓s_234_12, ↓s_234_13, ↓s_234_14n, ↓s_234_14i, ↓s_234_14p, ↓s_234_17, ↓s_234_20, zar_136, zia_136, zln_136, zit_136, zio_95]
  refine ⟨by omega, ?_⟩
  refine zgo_ok (n := 60) hE xmo_234 (cs := zc_234) ?_
  simp only [ynok_30, ynok_31, w32c_0, w32c_1, w32c_2, w32c_3, w32c_4, w32c_5, w32c_6, w32c_7, w32c_8, w32c_9, w32c_10, w32c_11, w32c_12, w32c_13, w32c_14, w32c_m1, w32c_m2, w32c_118, Int.reduceAdd, Int.reduceSub, Int.reduceMul, yput_s, yput_n, znl_n, znl_0, znl_1, znl_4, ysum_n, ysum_0, ysum_1, ysum_4, true_and, and_true, Nat.reduceAdd, Nat.reduceLeDiff, true_implies, eq_self, true_or, or_true, or_false, false_or, not_true_eq_false, not_false_eq_true, false_implies, implies_true, yset_s, yset_o, yset_d, ne_eq, Nat.reduceEqDiff, Int.reduceToNat, Int.reduceEq, Int.reduceLE, Int.reduceLT, Classical.not_not, Nat.reduceLT, ↓zvk_s, ↓zvk_n, ↓s_234_0, ↓s_234_1n, ↓s_234_1i, ↓s_234_1p, ↓g_234_2, ↓k_234_2, ↓s_234_3, ↓s_234_4, ↓s_234_7, ↓s_234_8, ↓s_234_11, ↓s_234_12, ↓s_234_13, ↓s_234_14n, ↓s_234_14i, ↓s_234_14p, ↓s_234_17, ↓s_234_20, zar_136, zia_136, zln_136, zit_136, zio_95]
  exact hQ
/-- a row of VOICES as a number: the first PART's VOICE is the first digit -/
def zix (f : Nat → Int) (b : Int) : Nat → Int
  | 0 => 0
  | n + 1 => zix f b n * b + w32 (f n)
theorem zix_ext {f g : Nat → Int} {b : Int} : ∀ n, (∀ j, j < n → f j = g j) → zix f b n = zix g b n
  | 0, _ => rfl
  | n + 1, h => by
    simp only [zix]
    rw [zix_ext n (fun j hj => h j (by omega)), h n (by omega)]
theorem zix_up {f g : Nat → Int} {b : Int} {n : Nat} (h : zix g b n = zix f b n + 1) (hf : w32 (f n) = b - 1) (hg : w32 (g n) = 0) : zix g b (n + 1) = zix f b (n + 1) + 1 := by
  simp only [zix]
  rw [h, hf, hg, Int.add_mul]
  omega
theorem zix_ups {f g : Nat → Int} {b : Int} : ∀ (c n : Nat), zix g b n = zix f b n + 1 → (∀ j, n ≤ j → j < n + c → w32 (f j) = b - 1 ∧ w32 (g j) = 0) → zix g b (n + c) = zix f b (n + c) + 1
  | 0, n, h, _ => h
  | c + 1, n, h, hj => by
    have h1 := zix_up h (hj n (Nat.le_refl _) (by omega)).1 (hj n (Nat.le_refl _) (by omega)).2
    have := zix_ups c (n + 1) h1 (fun j j1 j2 => hj j (by omega) (by omega))
    rwa [show n + 1 + c = n + (c + 1) by omega] at this
/-- the next row: its number is one more, or all begin anew -/
def GnQ (mem : yMem) (P : Nat) (x : Int) (m : yMem) : Prop := aFrm [(136, 0)] mem m ∧ (∀ j, 0 ≤ w32 (m 136 j) ∧ w32 (m 136 j) ≤ w32 (mem 97 1) ∨ (¬ j < 3 ∧ m 136 j = mem 136 j)) ∧ ((x = 1 ∧ zix (m 136) (w32 (mem 97 1) + 1) P = zix (mem 136) (w32 (mem 97 1) + 1) P + 1) ∨ (x = 0 ∧ ∀ j, j < P → w32 (mem 136 j) = w32 (mem 97 1)))
theorem gn_loop {E : yE} (hE : yEok E) {d : Nat} {mem : yMem} {Q : Option yV → yMem → Prop} {v : Int} {P : Nat} (hP : P ≤ 3) (hn : 0 ≤ w32 (mem 97 1)) (hn6 : w32 (mem 97 1) ≤ 6) (hr : ∀ j, j < 3 → 0 ≤ w32 (mem 136 j) ∧ w32 (mem 136 j) ≤ w32 (mem 97 1)) (hQ : ∀ x m, GnQ mem P x m → Q (some (0, x)) m) : ∀ (c : Nat) (k : Int) (m : yMem), (w32 k + 1).toNat = c → -1 ≤ w32 k → w32 k < (P : Int) → (∀ i j, i ≠ 136 → m i j = mem i j) → (∀ j, m 136 j = if w32 k < (j : Int) ∧ j < P then 0 else mem 136 j) → (∀ j : Nat, w32 k < (j : Int) → j < P → w32 (mem 136 j) = w32 (mem 97 1)) → zG E d xm_175 9 [some (1, 95), some (0, v), some (0, k)] [] m Q := by
  intro c
  induction c with
  | zero =>
    intro k m hc h0 h1 hF hM hA
    refine zgo_ok (n := 60) hE xmo_175 (cs := zc_175) ?_
    simp only [ynok_30, ynok_31, w32c_0, w32c_1, w32c_2, w32c_3, w32c_4, w32c_5, w32c_6, w32c_7, w32c_8, w32c_9, w32c_10, w32c_11, w32c_12, w32c_13, w32c_14, w32c_m1, w32c_m2, w32c_118, Int.reduceAdd, Int.reduceSub, Int.reduceMul, yput_s, yput_n, znl_n, znl_0, znl_1, znl_4, ysum_n, ysum_0, ysum_1, ysum_4, true_and, and_true, Nat.reduceAdd, Nat.reduceLeDiff, true_implies, eq_self, true_or, or_true, or_false, false_or, not_true_eq_false, not_false_eq_true, false_implies, implies_true, yset_s, yset_o, yset_d, ne_eq, Nat.reduceEqDiff, Int.reduceToNat, Int.reduceEq, Int.reduceLE, Int.reduceLT, Classical.not_not, Nat.reduceLT, ↓zvk_s, ↓zvk_n, ↓s_175_0, ↓s_175_1, ↓s_175_4, ↓s_175_5, ↓s_175_6, ↓s_175_7, ↓s_175_8n, ↓s_175_8i, ↓s_175_8p, ↓g_175_9, ↓k_175_9, ↓s_175_10, ↓s_175_13, ↓s_175_14, ↓s_175_17, ↓s_175_18, ↓s_175_19, ↓s_175_20, ↓s_175_23, ↓s_175_24, ↓s_175_25, ↓s_175_28, ↓s_175_29, ↓s_175_32, ↓s_175_33, ↓s_175_34, ↓s_175_35, ↓s_175_36, ↓s_175_37, ↓s_175_38, ↓s_175_39, ↓s_175_40, ↓s_175_41, ↓s_175_44, ↓s_175_45, ↓s_175_46, ↓s_175_47n, ↓s_175_47i, ↓s_175_47p, ↓s_175_50, ↓s_175_53, ↓s_175_54, zar_97, zia_97, zln_97, zit_97, zar_136, zia_136, zln_136, zit_136, zar_109, zia_109, zln_109, zit_109, zio_95]
    refine ⟨fun _ => hQ 0 m ⟨fun i j hij => ?_, fun j => ?_, Or.inr ⟨rfl, fun j hj => hA j (by omega) hj⟩⟩, fun h => absurd (show w32 k < 0 by omega) h⟩
    · refine hF i j (fun e => ?_)
      subst e
      cases hij
    · by_cases hj : j < 3
      · refine Or.inl ?_
        rw [hM]
        split
        · rw [w32c_0]; omega
        · exact hr j hj
      · exact Or.inr ⟨hj, by rw [hM, if_neg (by omega)]⟩
  | succ c ih =>
    intro k m hc h0 h1 hF hM hA
    have hrk := hr (w32 k).toNat (by omega)
    have mk : m 136 (w32 k).toNat = mem 136 (w32 k).toNat := by rw [hM, if_neg (by omega)]
    have e1 : w32 (k + -1) = w32 k - 1 := by rw [w32_ad (by rw [w32c_m1]; omega) (by rw [w32c_m1]; omega), w32c_m1]; omega
    have ei : w32 (mem 136 (w32 k).toNat + 1) = w32 (mem 136 (w32 k).toNat) + 1 := by rw [w32_ad (by rw [w32c_1]; omega) (by rw [w32c_1]; omega), w32c_1]
    refine zgo_ok (n := 60) hE xmo_175 (cs := zc_175) ?_
    simp only [ynok_30, ynok_31, w32c_0, w32c_1, w32c_2, w32c_3, w32c_4, w32c_5, w32c_6, w32c_7, w32c_8, w32c_9, w32c_10, w32c_11, w32c_12, w32c_13, w32c_14, w32c_m1, w32c_m2, w32c_118, Int.reduceAdd, Int.reduceSub, Int.reduceMul, yput_s, yput_n, znl_n, znl_0, znl_1, znl_4, ysum_n, ysum_0, ysum_1, ysum_4, true_and, and_true, Nat.reduceAdd, Nat.reduceLeDiff, true_implies, eq_self, true_or, or_true, or_false, false_or, not_true_eq_false, not_false_eq_true, false_implies, implies_true, yset_s, yset_o, yset_d, ne_eq, Nat.reduceEqDiff, Int.reduceToNat, Int.reduceEq, Int.reduceLE, Int.reduceLT, Classical.not_not, Nat.reduceLT, ↓zvk_s, ↓zvk_n, ↓s_175_0, ↓s_175_1, ↓s_175_4, ↓s_175_5, ↓s_175_6, ↓s_175_7, ↓s_175_8n, ↓s_175_8i, ↓s_175_8p, ↓g_175_9, ↓k_175_9, ↓s_175_10, ↓s_175_13, ↓s_175_14, ↓s_175_17, ↓s_175_18, ↓s_175_19, ↓s_175_20, ↓s_175_23, ↓s_175_24, ↓s_175_25, ↓s_175_28, ↓s_175_29, ↓s_175_32, ↓s_175_33, ↓s_175_34, ↓s_175_35, ↓s_175_36, ↓s_175_37, ↓s_175_38, ↓s_175_39, ↓s_175_40, ↓s_175_41, ↓s_175_44, ↓s_175_45, ↓s_175_46, ↓s_175_47n, ↓s_175_47i, ↓s_175_47p, ↓s_175_50, ↓s_175_53, ↓s_175_54, zar_97, zia_97, zln_97, zit_97, zar_136, zia_136, zln_136, zit_136, zar_109, zia_109, zln_109, zit_109, zio_95]
    rw [hF 97 1 (by decide), mk]
    refine ⟨fun h => absurd h (by omega), fun _ => ⟨⟨by omega, by omega⟩, by omega, fun hge => ⟨⟨by omega, by omega⟩, ih (k + -1) _ (by omega) (by omega) (by omega) (fun i j hi => by rw [yset_o hi]; exact hF i j hi) (fun j => ?_) (fun j j1 j2 => ?_)⟩, fun hlt => ⟨⟨by omega, by omega⟩, ⟨by omega, by omega⟩, hQ 1 _ ⟨fun i j hij => ?_, fun j => ?_, Or.inl ⟨rfl, ?_⟩⟩⟩⟩⟩
    · rw [yset_a, if_pos rfl, hM]
      by_cases hj : j = (w32 k).toNat
      · rw [if_pos hj, if_pos (by omega)]
      · rw [if_neg hj]
        by_cases h2 : w32 k < (j : Int) ∧ j < P
        · rw [if_pos h2, if_pos (by omega)]
        · rw [if_neg h2, if_neg (by omega)]
    · by_cases hj : j = (w32 k).toNat
      · subst hj; omega
      · exact hA j (by omega) j2
    · have hi : i ≠ 136 := fun e => by subst e; cases hij
      rw [yset_o hi]; exact hF i j hi
    · by_cases hj : j < 3
      · refine Or.inl ?_
        rw [yset_a, if_pos rfl, hM]
        split
        · rw [ei]; omega
        · split
          · rw [w32c_0]; omega
          · exact hr j hj
      · exact Or.inr ⟨hj, by rw [yset_a, if_pos rfl, hM, if_neg (by omega), if_neg (by omega)]⟩
    · have gd : ∀ j, yset m 136 (w32 k).toNat (mem 136 (w32 k).toNat + 1) 136 j = if j = (w32 k).toNat then mem 136 (w32 k).toNat + 1 else if w32 k < (j : Int) ∧ j < P then 0 else mem 136 j := fun j => by rw [yset_a, if_pos rfl, hM]
      have b0 : zix (yset m 136 (w32 k).toNat (mem 136 (w32 k).toNat + 1) 136) (w32 (mem 97 1) + 1) ((w32 k).toNat + 1) = zix (mem 136) (w32 (mem 97 1) + 1) ((w32 k).toNat + 1) + 1 := by
        simp only [zix]
        rw [zix_ext (w32 k).toNat (g := mem 136) (fun j hj => by rw [gd, if_neg (by omega), if_neg (by omega)]), gd, if_pos rfl, ei]
        omega
      have := zix_ups (P - ((w32 k).toNat + 1)) ((w32 k).toNat + 1) b0 (fun j j1 j2 => ⟨by rw [hA j (by omega) (by omega)]; omega, by rw [gd, if_neg (by omega), if_pos (by omega)]; decide⟩)
      rwa [show (w32 k).toNat + 1 + (P - ((w32 k).toNat + 1)) = P by omega] at this
theorem c_goesNext {E : yE} (hE : yEok E) {D : Nat} (hD : 1 ≤ D) {mem : yMem} {Q : Option yV → yMem → Prop} {v : Int} (hG : aGok mem) (hv : 0 ≤ w32 v) (hv3 : w32 v ≤ 3) (hr : ∀ j, j < 3 → 0 ≤ w32 (mem 136 j) ∧ w32 (mem 136 j) ≤ w32 (mem 97 1)) (hQ : ∀ x m, GnQ mem (w32 (mem 109 (w32 v).toNat)).toNat x m → Q (some (0, x)) m) : yCon E D xm_175 [(1, 95), (0, v)] mem Q := by
  obtain ⟨d, rfl⟩ := Nat.exists_eq_add_of_le' hD
  refine e_175 ?_
  refine zvc_ok hE 60 zc_175 _ _ _ _ _ _ _ xmo_175 ?_
  have g109 := agA hG 109 (w32 v).toNat ae_109
  have g1 := ag hG 97 1 ag_97_1
  have e1 : w32 (mem 109 (w32 v).toNat - 1) = w32 (mem 109 (w32 v).toNat) - 1 := by rw [w32_sb (by rw [w32c_1]; omega) (by rw [w32c_1]; omega), w32c_1]
  simp only [ynok_30, ynok_31, w32c_0, w32c_1, w32c_2, w32c_3, w32c_4, w32c_5, w32c_6, w32c_7, w32c_8, w32c_9, w32c_10, w32c_11, w32c_12, w32c_13, w32c_14, w32c_m1, w32c_m2, w32c_118, Int.reduceAdd, Int.reduceSub, Int.reduceMul, yput_s, yput_n, znl_n, znl_0, znl_1, znl_4, ysum_n, ysum_0, ysum_1, ysum_4, true_and, and_true, Nat.reduceAdd, Nat.reduceLeDiff, true_implies, eq_self, true_or, or_true, or_false, false_or, not_true_eq_false, not_false_eq_true, false_implies, implies_true, yset_s, yset_o, yset_d, ne_eq, Nat.reduceEqDiff, Int.reduceToNat, Int.reduceEq, Int.reduceLE, Int.reduceLT, Classical.not_not, Nat.reduceLT, ↓zvk_s, ↓zvk_n, ↓s_175_0, ↓s_175_1, ↓s_175_4, ↓s_175_5, ↓s_175_6, ↓s_175_7, ↓s_175_8n, ↓s_175_8i, ↓s_175_8p, ↓g_175_9, ↓k_175_9, ↓s_175_10, ↓s_175_13, ↓s_175_14, ↓s_175_17, ↓s_175_18, ↓s_175_19, ↓s_175_20, ↓s_175_23, ↓s_175_24, ↓s_175_25, ↓s_175_28, ↓s_175_29, ↓s_175_32, ↓s_175_33, ↓s_175_34, ↓s_175_35, ↓s_175_36, ↓s_175_37, ↓s_175_38, ↓s_175_39, ↓s_175_40, ↓s_175_41, ↓s_175_44, ↓s_175_45, ↓s_175_46, ↓s_175_47n, ↓s_175_47i, ↓s_175_47p, ↓s_175_50, ↓s_175_53, ↓s_175_54, zar_97, zia_97, zln_97, zit_97, zar_136, zia_136, zln_136, zit_136, zar_109, zia_109, zln_109, zit_109, zio_95]
  exact ⟨⟨by omega, by omega⟩, gn_loop hE (by omega) g1.1 g1.2 hr hQ _ _ mem rfl (by omega) (by omega) (fun _ _ _ => rfl) (fun j => by rw [if_neg (by omega)]) (fun j j1 j2 => absurd j1 (by omega))⟩
