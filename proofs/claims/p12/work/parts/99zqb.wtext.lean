section
theorem s_135_0 {E : yE} {n d : Nat} {mem : yMem} {Post : Option yV → yMem → Prop} {st : List yV} {r1 : Option yV} {x : Int} : zvc E (n + 1) [] d xm_135 0 [some (1, x), r1] (st) mem Post = (zvc E n [] d xm_135 1 [some (1, x), r1] ((1, x) :: st) mem Post) := zrf rfl
theorem s_135_1_57 {E : yE} {n d : Nat} {mem : yMem} {Post : Option yV → yMem → Prop} {st : List yV} {r0 r1 : Option yV} : zvc E (n + 1) [] d xm_135 1 [r0, r1] ((1, 57) :: st) mem Post = (zvc E n [] d xm_135 4 [r0, r1] ((1, 58) :: st) mem Post) := zrf rfl
theorem s_135_1_64 {E : yE} {n d : Nat} {mem : yMem} {Post : Option yV → yMem → Prop} {st : List yV} {r0 r1 : Option yV} : zvc E (n + 1) [] d xm_135 1 [r0, r1] ((1, 64) :: st) mem Post = (zvc E n [] d xm_135 4 [r0, r1] ((1, 65) :: st) mem Post) := zrf rfl
theorem s_135_4 {E : yE} {n d : Nat} {mem : yMem} {Post : Option yV → yMem → Prop} {st : List yV} {r0 r1 : Option yV} : zvc E (n + 1) [] d xm_135 4 [r0, r1] (st) mem Post = (zvc E n [] d xm_135 5 [r0, r1] ((0, 0) :: st) mem Post) := zrf rfl
theorem s_135_5 {E : yE} {n d : Nat} {mem : yMem} {Post : Option yV → yMem → Prop} {st : List yV} {r0 r1 : Option yV} {a0 a1 : Int} : zvc E (n + 1) [] d xm_135 5 [r0, r1] ((0, a1) :: (1, a0) :: st) mem Post = (True ∧ ysum st ≤ 8 ∧ yCon E d xm_263 [(1, a0), (0, a1)] mem (fun v mem' => zgk E d xm_135 8 [r0, r1] st v mem' Post)) := zrf rfl
theorem s_135_8 {E : yE} {n d : Nat} {mem : yMem} {Post : Option yV → yMem → Prop} {st : List yV} {r1 : Option yV} {x : Int} : zvc E (n + 1) [] d xm_135 8 [some (1, x), r1] (st) mem Post = (zvc E n [] d xm_135 9 [some (1, x), r1] ((1, x) :: st) mem Post) := zrf rfl
theorem s_135_9_57 {E : yE} {n d : Nat} {mem : yMem} {Post : Option yV → yMem → Prop} {st : List yV} {r0 r1 : Option yV} : zvc E (n + 1) [] d xm_135 9 [r0, r1] ((1, 57) :: st) mem Post = (zvc E n [] d xm_135 12 [r0, r1] ((1, 60) :: st) mem Post) := zrf rfl
theorem s_135_9_64 {E : yE} {n d : Nat} {mem : yMem} {Post : Option yV → yMem → Prop} {st : List yV} {r0 r1 : Option yV} : zvc E (n + 1) [] d xm_135 9 [r0, r1] ((1, 64) :: st) mem Post = (zvc E n [] d xm_135 12 [r0, r1] ((1, 67) :: st) mem Post) := zrf rfl
theorem s_135_12 {E : yE} {n d : Nat} {mem : yMem} {Post : Option yV → yMem → Prop} {st : List yV} {r0 r1 : Option yV} : zvc E (n + 1) [] d xm_135 12 [r0, r1] (st) mem Post = (zvc E n [] d xm_135 13 [r0, r1] ((0, 0) :: st) mem Post) := zrf rfl
theorem s_135_13 {E : yE} {n d : Nat} {mem : yMem} {Post : Option yV → yMem → Prop} {st : List yV} {r0 r1 : Option yV} {a0 a1 : Int} : zvc E (n + 1) [] d xm_135 13 [r0, r1] ((0, a1) :: (1, a0) :: st) mem Post = (True ∧ ysum st ≤ 8 ∧ yCon E d xm_263 [(1, a0), (0, a1)] mem (fun v mem' => zgk E d xm_135 16 [r0, r1] st v mem' Post)) := zrf rfl
theorem s_135_16 {E : yE} {n d : Nat} {mem : yMem} {Post : Option yV → yMem → Prop} {st : List yV} {r1 : Option yV} {x : Int} : zvc E (n + 1) [] d xm_135 16 [some (1, x), r1] (st) mem Post = (zvc E n [] d xm_135 17 [some (1, x), r1] ((1, x) :: st) mem Post) := zrf rfl
theorem s_135_17_57 {E : yE} {n d : Nat} {mem : yMem} {Post : Option yV → yMem → Prop} {st : List yV} {r0 r1 : Option yV} : zvc E (n + 1) [] d xm_135 17 [r0, r1] ((1, 57) :: st) mem Post = (zvc E n [] d xm_135 20 [r0, r1] ((1, 59) :: st) mem Post) := zrf rfl
theorem s_135_17_64 {E : yE} {n d : Nat} {mem : yMem} {Post : Option yV → yMem → Prop} {st : List yV} {r0 r1 : Option yV} : zvc E (n + 1) [] d xm_135 17 [r0, r1] ((1, 64) :: st) mem Post = (zvc E n [] d xm_135 20 [r0, r1] ((1, 66) :: st) mem Post) := zrf rfl
theorem s_135_20 {E : yE} {n d : Nat} {mem : yMem} {Post : Option yV → yMem → Prop} {st : List yV} {r0 r1 : Option yV} : zvc E (n + 1) [] d xm_135 20 [r0, r1] (st) mem Post = (zvc E n [] d xm_135 21 [r0, r1] ((0, 0) :: st) mem Post) := zrf rfl
theorem s_135_21 {E : yE} {n d : Nat} {mem : yMem} {Post : Option yV → yMem → Prop} {st : List yV} {r0 r1 : Option yV} {a0 a1 : Int} : zvc E (n + 1) [] d xm_135 21 [r0, r1] ((0, a1) :: (1, a0) :: st) mem Post = (True ∧ ysum st ≤ 8 ∧ yCon E d xm_263 [(1, a0), (0, a1)] mem (fun v mem' => zgk E d xm_135 24 [r0, r1] st v mem' Post)) := zrf rfl
theorem s_135_24 {E : yE} {n d : Nat} {mem : yMem} {Post : Option yV → yMem → Prop} {st : List yV} {r0 : Option yV} {x : Int} : zvc E (n + 1) [] d xm_135 24 [r0, some (1, x)] (st) mem Post = (zvc E n [] d xm_135 25 [r0, some (1, x)] ((1, x) :: st) mem Post) := zrf rfl
theorem s_135_25_2 {E : yE} {n d : Nat} {mem : yMem} {Post : Option yV → yMem → Prop} {st : List yV} {r0 r1 : Option yV} : zvc E (n + 1) [] d xm_135 25 [r0, r1] ((1, 2) :: st) mem Post = (zvc E n [] d xm_135 28 [r0, r1] ((1, 12) :: st) mem Post) := zrf rfl
theorem s_135_25_28 {E : yE} {n d : Nat} {mem : yMem} {Post : Option yV → yMem → Prop} {st : List yV} {r0 r1 : Option yV} : zvc E (n + 1) [] d xm_135 25 [r0, r1] ((1, 28) :: st) mem Post = (zvc E n [] d xm_135 28 [r0, r1] ((1, 38) :: st) mem Post) := zrf rfl
theorem s_135_28 {E : yE} {n d : Nat} {mem : yMem} {Post : Option yV → yMem → Prop} {st : List yV} {r0 r1 : Option yV} : zvc E (n + 1) [] d xm_135 28 [r0, r1] (st) mem Post = (zvc E n [] d xm_135 29 [r0, r1] ((0, 0) :: st) mem Post) := zrf rfl
theorem s_135_29 {E : yE} {n d : Nat} {mem : yMem} {Post : Option yV → yMem → Prop} {st : List yV} {r1 : Option yV} {x : Int} : zvc E (n + 1) [] d xm_135 29 [some (1, x), r1] (st) mem Post = (zvc E n [] d xm_135 30 [some (1, x), r1] ((1, x) :: st) mem Post) := zrf rfl
theorem s_135_30_57 {E : yE} {n d : Nat} {mem : yMem} {Post : Option yV → yMem → Prop} {st : List yV} {r0 r1 : Option yV} : zvc E (n + 1) [] d xm_135 30 [r0, r1] ((1, 57) :: st) mem Post = (zvc E n [] d xm_135 33 [r0, r1] ((1, 58) :: st) mem Post) := zrf rfl
theorem s_135_30_64 {E : yE} {n d : Nat} {mem : yMem} {Post : Option yV → yMem → Prop} {st : List yV} {r0 r1 : Option yV} : zvc E (n + 1) [] d xm_135 30 [r0, r1] ((1, 64) :: st) mem Post = (zvc E n [] d xm_135 33 [r0, r1] ((1, 65) :: st) mem Post) := zrf rfl
theorem s_135_33 {E : yE} {n d : Nat} {mem : yMem} {Post : Option yV → yMem → Prop} {st : List yV} {r0 r1 : Option yV} : zvc E (n + 1) [] d xm_135 33 [r0, r1] (st) mem Post = (zvc E n [] d xm_135 34 [r0, r1] ((0, 0) :: st) mem Post) := zrf rfl
theorem s_135_34 {E : yE} {n d : Nat} {mem : yMem} {Post : Option yV → yMem → Prop} {st : List yV} {r0 : Option yV} {x : Int} : zvc E (n + 1) [] d xm_135 34 [r0, some (1, x)] (st) mem Post = (zvc E n [] d xm_135 35 [r0, some (1, x)] ((1, x) :: st) mem Post) := zrf rfl
theorem s_135_35_2 {E : yE} {n d : Nat} {mem : yMem} {Post : Option yV → yMem → Prop} {st : List yV} {r0 r1 : Option yV} : zvc E (n + 1) [] d xm_135 35 [r0, r1] ((1, 2) :: st) mem Post = (zvc E n [] d xm_135 38 [r0, r1] ((1, 3) :: st) mem Post) := zrf rfl
theorem s_135_35_28 {E : yE} {n d : Nat} {mem : yMem} {Post : Option yV → yMem → Prop} {st : List yV} {r0 r1 : Option yV} : zvc E (n + 1) [] d xm_135 35 [r0, r1] ((1, 28) :: st) mem Post = (zvc E n [] d xm_135 38 [r0, r1] ((1, 29) :: st) mem Post) := zrf rfl
theorem s_135_38_3 {E : yE} {n d : Nat} {mem : yMem} {Post : Option yV → yMem → Prop} {st : List yV} {r0 r1 : Option yV} : zvc E (n + 1) [] d xm_135 38 [r0, r1] ((1, 3) :: st) mem Post = (zvc E n [] d xm_135 41 [r0, r1] ((0, mem 3 1) :: st) mem Post) := zrf rfl
theorem s_135_38_5 {E : yE} {n d : Nat} {mem : yMem} {Post : Option yV → yMem → Prop} {st : List yV} {r0 r1 : Option yV} : zvc E (n + 1) [] d xm_135 38 [r0, r1] ((1, 5) :: st) mem Post = (zvc E n [] d xm_135 41 [r0, r1] ((0, mem 5 1) :: st) mem Post) := zrf rfl
theorem s_135_38_7 {E : yE} {n d : Nat} {mem : yMem} {Post : Option yV → yMem → Prop} {st : List yV} {r0 r1 : Option yV} : zvc E (n + 1) [] d xm_135 38 [r0, r1] ((1, 7) :: st) mem Post = (zvc E n [] d xm_135 41 [r0, r1] ((0, mem 7 1) :: st) mem Post) := zrf rfl
theorem s_135_38_9 {E : yE} {n d : Nat} {mem : yMem} {Post : Option yV → yMem → Prop} {st : List yV} {r0 r1 : Option yV} : zvc E (n + 1) [] d xm_135 38 [r0, r1] ((1, 9) :: st) mem Post = (zvc E n [] d xm_135 41 [r0, r1] ((0, mem 9 1) :: st) mem Post) := zrf rfl
theorem s_135_38_29 {E : yE} {n d : Nat} {mem : yMem} {Post : Option yV → yMem → Prop} {st : List yV} {r0 r1 : Option yV} : zvc E (n + 1) [] d xm_135 38 [r0, r1] ((1, 29) :: st) mem Post = (zvc E n [] d xm_135 41 [r0, r1] ((0, mem 29 1) :: st) mem Post) := zrf rfl
theorem s_135_38_31 {E : yE} {n d : Nat} {mem : yMem} {Post : Option yV → yMem → Prop} {st : List yV} {r0 r1 : Option yV} : zvc E (n + 1) [] d xm_135 38 [r0, r1] ((1, 31) :: st) mem Post = (zvc E n [] d xm_135 41 [r0, r1] ((0, mem 31 1) :: st) mem Post) := zrf rfl
theorem s_135_38_33 {E : yE} {n d : Nat} {mem : yMem} {Post : Option yV → yMem → Prop} {st : List yV} {r0 r1 : Option yV} : zvc E (n + 1) [] d xm_135 38 [r0, r1] ((1, 33) :: st) mem Post = (zvc E n [] d xm_135 41 [r0, r1] ((0, mem 33 1) :: st) mem Post) := zrf rfl
theorem s_135_38_35 {E : yE} {n d : Nat} {mem : yMem} {Post : Option yV → yMem → Prop} {st : List yV} {r0 r1 : Option yV} : zvc E (n + 1) [] d xm_135 38 [r0, r1] ((1, 35) :: st) mem Post = (zvc E n [] d xm_135 41 [r0, r1] ((0, mem 35 1) :: st) mem Post) := zrf rfl
theorem s_135_41 {E : yE} {n d : Nat} {mem : yMem} {Post : Option yV → yMem → Prop} {st : List yV} {r0 r1 : Option yV} {m dp dd sp ss : Int} : zvc E (n + 1) [] d xm_135 41 [r0, r1] ((0, m) :: (0, dp) :: (1, dd) :: (0, sp) :: (1, ss) :: st) mem Post = (ysum st ≤ 8 ∧ zit ss 0 = true ∧ zit dd 0 = true ∧ 0 ≤ w32 m ∧ 0 ≤ w32 sp ∧ 0 ≤ w32 dp ∧ w32 sp + w32 m ≤ ((zar ss 0 : Nat) : Int) ∧ w32 dp + w32 m ≤ ((zar dd 0 : Nat) : Int) ∧ zvc E n [] d xm_135 44 [r0, r1] (st) (ycpy mem ss.toNat (w32 sp).toNat dd.toNat (w32 dp).toNat (w32 m).toNat) Post) := zrf rfl
theorem s_135_44 {E : yE} {n d : Nat} {mem : yMem} {Post : Option yV → yMem → Prop} {st : List yV} {r0 : Option yV} {x : Int} : zvc E (n + 1) [] d xm_135 44 [r0, some (1, x)] (st) mem Post = (zvc E n [] d xm_135 45 [r0, some (1, x)] ((1, x) :: st) mem Post) := zrf rfl
theorem s_135_45_2 {E : yE} {n d : Nat} {mem : yMem} {Post : Option yV → yMem → Prop} {st : List yV} {r0 r1 : Option yV} : zvc E (n + 1) [] d xm_135 45 [r0, r1] ((1, 2) :: st) mem Post = (zvc E n [] d xm_135 48 [r0, r1] ((1, 21) :: st) mem Post) := zrf rfl
theorem s_135_45_28 {E : yE} {n d : Nat} {mem : yMem} {Post : Option yV → yMem → Prop} {st : List yV} {r0 r1 : Option yV} : zvc E (n + 1) [] d xm_135 45 [r0, r1] ((1, 28) :: st) mem Post = (zvc E n [] d xm_135 48 [r0, r1] ((1, 47) :: st) mem Post) := zrf rfl
theorem s_135_48 {E : yE} {n d : Nat} {mem : yMem} {Post : Option yV → yMem → Prop} {st : List yV} {r0 r1 : Option yV} : zvc E (n + 1) [] d xm_135 48 [r0, r1] (st) mem Post = (zvc E n [] d xm_135 49 [r0, r1] ((0, 0) :: st) mem Post) := zrf rfl
theorem s_135_49 {E : yE} {n d : Nat} {mem : yMem} {Post : Option yV → yMem → Prop} {st : List yV} {r1 : Option yV} {x : Int} : zvc E (n + 1) [] d xm_135 49 [some (1, x), r1] (st) mem Post = (zvc E n [] d xm_135 50 [some (1, x), r1] ((1, x) :: st) mem Post) := zrf rfl
theorem s_135_50_57 {E : yE} {n d : Nat} {mem : yMem} {Post : Option yV → yMem → Prop} {st : List yV} {r0 r1 : Option yV} : zvc E (n + 1) [] d xm_135 50 [r0, r1] ((1, 57) :: st) mem Post = (zvc E n [] d xm_135 53 [r0, r1] ((1, 60) :: st) mem Post) := zrf rfl
theorem s_135_50_64 {E : yE} {n d : Nat} {mem : yMem} {Post : Option yV → yMem → Prop} {st : List yV} {r0 r1 : Option yV} : zvc E (n + 1) [] d xm_135 50 [r0, r1] ((1, 64) :: st) mem Post = (zvc E n [] d xm_135 53 [r0, r1] ((1, 67) :: st) mem Post) := zrf rfl
theorem s_135_53 {E : yE} {n d : Nat} {mem : yMem} {Post : Option yV → yMem → Prop} {st : List yV} {r0 r1 : Option yV} : zvc E (n + 1) [] d xm_135 53 [r0, r1] (st) mem Post = (zvc E n [] d xm_135 54 [r0, r1] ((0, 0) :: st) mem Post) := zrf rfl
theorem s_135_54 {E : yE} {n d : Nat} {mem : yMem} {Post : Option yV → yMem → Prop} {st : List yV} {r0 : Option yV} {x : Int} : zvc E (n + 1) [] d xm_135 54 [r0, some (1, x)] (st) mem Post = (zvc E n [] d xm_135 55 [r0, some (1, x)] ((1, x) :: st) mem Post) := zrf rfl
theorem s_135_55_2 {E : yE} {n d : Nat} {mem : yMem} {Post : Option yV → yMem → Prop} {st : List yV} {r0 r1 : Option yV} : zvc E (n + 1) [] d xm_135 55 [r0, r1] ((1, 2) :: st) mem Post = (zvc E n [] d xm_135 58 [r0, r1] ((1, 9) :: st) mem Post) := zrf rfl
theorem s_135_55_28 {E : yE} {n d : Nat} {mem : yMem} {Post : Option yV → yMem → Prop} {st : List yV} {r0 r1 : Option yV} : zvc E (n + 1) [] d xm_135 55 [r0, r1] ((1, 28) :: st) mem Post = (zvc E n [] d xm_135 58 [r0, r1] ((1, 35) :: st) mem Post) := zrf rfl
theorem s_135_58_3 {E : yE} {n d : Nat} {mem : yMem} {Post : Option yV → yMem → Prop} {st : List yV} {r0 r1 : Option yV} : zvc E (n + 1) [] d xm_135 58 [r0, r1] ((1, 3) :: st) mem Post = (zvc E n [] d xm_135 61 [r0, r1] ((0, mem 3 1) :: st) mem Post) := zrf rfl
theorem s_135_58_5 {E : yE} {n d : Nat} {mem : yMem} {Post : Option yV → yMem → Prop} {st : List yV} {r0 r1 : Option yV} : zvc E (n + 1) [] d xm_135 58 [r0, r1] ((1, 5) :: st) mem Post = (zvc E n [] d xm_135 61 [r0, r1] ((0, mem 5 1) :: st) mem Post) := zrf rfl
theorem s_135_58_7 {E : yE} {n d : Nat} {mem : yMem} {Post : Option yV → yMem → Prop} {st : List yV} {r0 r1 : Option yV} : zvc E (n + 1) [] d xm_135 58 [r0, r1] ((1, 7) :: st) mem Post = (zvc E n [] d xm_135 61 [r0, r1] ((0, mem 7 1) :: st) mem Post) := zrf rfl
theorem s_135_58_9 {E : yE} {n d : Nat} {mem : yMem} {Post : Option yV → yMem → Prop} {st : List yV} {r0 r1 : Option yV} : zvc E (n + 1) [] d xm_135 58 [r0, r1] ((1, 9) :: st) mem Post = (zvc E n [] d xm_135 61 [r0, r1] ((0, mem 9 1) :: st) mem Post) := zrf rfl
theorem s_135_58_29 {E : yE} {n d : Nat} {mem : yMem} {Post : Option yV → yMem → Prop} {st : List yV} {r0 r1 : Option yV} : zvc E (n + 1) [] d xm_135 58 [r0, r1] ((1, 29) :: st) mem Post = (zvc E n [] d xm_135 61 [r0, r1] ((0, mem 29 1) :: st) mem Post) := zrf rfl
theorem s_135_58_31 {E : yE} {n d : Nat} {mem : yMem} {Post : Option yV → yMem → Prop} {st : List yV} {r0 r1 : Option yV} : zvc E (n + 1) [] d xm_135 58 [r0, r1] ((1, 31) :: st) mem Post = (zvc E n [] d xm_135 61 [r0, r1] ((0, mem 31 1) :: st) mem Post) := zrf rfl
theorem s_135_58_33 {E : yE} {n d : Nat} {mem : yMem} {Post : Option yV → yMem → Prop} {st : List yV} {r0 r1 : Option yV} : zvc E (n + 1) [] d xm_135 58 [r0, r1] ((1, 33) :: st) mem Post = (zvc E n [] d xm_135 61 [r0, r1] ((0, mem 33 1) :: st) mem Post) := zrf rfl
theorem s_135_58_35 {E : yE} {n d : Nat} {mem : yMem} {Post : Option yV → yMem → Prop} {st : List yV} {r0 r1 : Option yV} : zvc E (n + 1) [] d xm_135 58 [r0, r1] ((1, 35) :: st) mem Post = (zvc E n [] d xm_135 61 [r0, r1] ((0, mem 35 1) :: st) mem Post) := zrf rfl
theorem s_135_61 {E : yE} {n d : Nat} {mem : yMem} {Post : Option yV → yMem → Prop} {st : List yV} {r0 r1 : Option yV} {m dp dd sp ss : Int} : zvc E (n + 1) [] d xm_135 61 [r0, r1] ((0, m) :: (0, dp) :: (1, dd) :: (0, sp) :: (1, ss) :: st) mem Post = (ysum st ≤ 8 ∧ zit ss 0 = true ∧ zit dd 0 = true ∧ 0 ≤ w32 m ∧ 0 ≤ w32 sp ∧ 0 ≤ w32 dp ∧ w32 sp + w32 m ≤ ((zar ss 0 : Nat) : Int) ∧ w32 dp + w32 m ≤ ((zar dd 0 : Nat) : Int) ∧ zvc E n [] d xm_135 64 [r0, r1] (st) (ycpy mem ss.toNat (w32 sp).toNat dd.toNat (w32 dp).toNat (w32 m).toNat) Post) := zrf rfl
theorem s_135_64 {E : yE} {n d : Nat} {mem : yMem} {Post : Option yV → yMem → Prop} {st : List yV} {r1 : Option yV} {x : Int} : zvc E (n + 1) [] d xm_135 64 [some (1, x), r1] (st) mem Post = (zvc E n [] d xm_135 65 [some (1, x), r1] ((1, x) :: st) mem Post) := zrf rfl
theorem s_135_65 {E : yE} {n d : Nat} {mem : yMem} {Post : Option yV → yMem → Prop} {st : List yV} {r0 r1 : Option yV} {z : Int} : zvc E (n + 1) [] d xm_135 65 [r0, r1] ((1, z) :: st) mem Post = (zio z 10 = true ∧ ysum st ≤ 8 ∧ yCon E d xm_137 [(1, z)] mem (fun v mem' => zgk E d xm_135 68 [r0, r1] st v mem' Post)) := zrf rfl
theorem s_135_68 {E : yE} {n d : Nat} {mem : yMem} {Post : Option yV → yMem → Prop} {st : List yV} {r1 : Option yV} {x : Int} : zvc E (n + 1) [] d xm_135 68 [some (1, x), r1] (st) mem Post = (zvc E n [] d xm_135 69 [some (1, x), r1] ((1, x) :: st) mem Post) := zrf rfl
theorem s_135_69 {E : yE} {n d : Nat} {mem : yMem} {Post : Option yV → yMem → Prop} {st : List yV} {r0 r1 : Option yV} : zvc E (n + 1) [] d xm_135 69 [r0, r1] (st) mem Post = (zvc E n [] d xm_135 70 [r0, r1] ((0, 0) :: st) mem Post) := zrf rfl
theorem s_135_70_57 {E : yE} {n d : Nat} {mem : yMem} {Post : Option yV → yMem → Prop} {st : List yV} {r0 r1 : Option yV} {x : Int} : zvc E (n + 1) [] d xm_135 70 [r0, r1] ((0, x) :: (1, 57) :: st) mem Post = (zvc E n [] d xm_135 73 [r0, r1] (st) (yset mem 57 7 x) Post) := zrf rfl
theorem s_135_70_64 {E : yE} {n d : Nat} {mem : yMem} {Post : Option yV → yMem → Prop} {st : List yV} {r0 r1 : Option yV} {x : Int} : zvc E (n + 1) [] d xm_135 70 [r0, r1] ((0, x) :: (1, 64) :: st) mem Post = (zvc E n [] d xm_135 73 [r0, r1] (st) (yset mem 64 7 x) Post) := zrf rfl
theorem s_135_73 {E : yE} {n d : Nat} {mem : yMem} {Post : Option yV → yMem → Prop} {st : List yV} {r1 : Option yV} {x : Int} : zvc E (n + 1) [] d xm_135 73 [some (1, x), r1] (st) mem Post = (zvc E n [] d xm_135 74 [some (1, x), r1] ((1, x) :: st) mem Post) := zrf rfl
theorem s_135_74 {E : yE} {n d : Nat} {mem : yMem} {Post : Option yV → yMem → Prop} {st : List yV} {r0 : Option yV} {x : Int} : zvc E (n + 1) [] d xm_135 74 [r0, some (1, x)] (st) mem Post = (zvc E n [] d xm_135 75 [r0, some (1, x)] ((1, x) :: st) mem Post) := zrf rfl
theorem s_135_75_2 {E : yE} {n d : Nat} {mem : yMem} {Post : Option yV → yMem → Prop} {st : List yV} {r0 r1 : Option yV} : zvc E (n + 1) [] d xm_135 75 [r0, r1] ((1, 2) :: st) mem Post = (zvc E n [] d xm_135 78 [r0, r1] ((0, mem 2 17) :: st) mem Post) := zrf rfl
theorem s_135_75_28 {E : yE} {n d : Nat} {mem : yMem} {Post : Option yV → yMem → Prop} {st : List yV} {r0 r1 : Option yV} : zvc E (n + 1) [] d xm_135 75 [r0, r1] ((1, 28) :: st) mem Post = (zvc E n [] d xm_135 78 [r0, r1] ((0, mem 28 17) :: st) mem Post) := zrf rfl
theorem s_135_78_57 {E : yE} {n d : Nat} {mem : yMem} {Post : Option yV → yMem → Prop} {st : List yV} {r0 r1 : Option yV} {x : Int} : zvc E (n + 1) [] d xm_135 78 [r0, r1] ((0, x) :: (1, 57) :: st) mem Post = (zvc E n [] d xm_135 81 [r0, r1] (st) (yset mem 57 8 x) Post) := zrf rfl
theorem s_135_78_64 {E : yE} {n d : Nat} {mem : yMem} {Post : Option yV → yMem → Prop} {st : List yV} {r0 r1 : Option yV} {x : Int} : zvc E (n + 1) [] d xm_135 78 [r0, r1] ((0, x) :: (1, 64) :: st) mem Post = (zvc E n [] d xm_135 81 [r0, r1] (st) (yset mem 64 8 x) Post) := zrf rfl
theorem s_135_81 {E : yE} {n d : Nat} {mem : yMem} {Post : Option yV → yMem → Prop} {st : List yV} {r1 : Option yV} {x : Int} : zvc E (n + 1) [] d xm_135 81 [some (1, x), r1] (st) mem Post = (zvc E n [] d xm_135 82 [some (1, x), r1] ((1, x) :: st) mem Post) := zrf rfl
theorem s_135_82 {E : yE} {n d : Nat} {mem : yMem} {Post : Option yV → yMem → Prop} {st : List yV} {r0 r1 : Option yV} : zvc E (n + 1) [] d xm_135 82 [r0, r1] (st) mem Post = (zvc E n [] d xm_135 83 [r0, r1] ((0, 0) :: st) mem Post) := zrf rfl
theorem s_135_83_57 {E : yE} {n d : Nat} {mem : yMem} {Post : Option yV → yMem → Prop} {st : List yV} {r0 r1 : Option yV} {x : Int} : zvc E (n + 1) [] d xm_135 83 [r0, r1] ((0, x) :: (1, 57) :: st) mem Post = (zvc E n [] d xm_135 86 [r0, r1] (st) (yset mem 57 9 x) Post) := zrf rfl
theorem s_135_83_64 {E : yE} {n d : Nat} {mem : yMem} {Post : Option yV → yMem → Prop} {st : List yV} {r0 r1 : Option yV} {x : Int} : zvc E (n + 1) [] d xm_135 83 [r0, r1] ((0, x) :: (1, 64) :: st) mem Post = (zvc E n [] d xm_135 86 [r0, r1] (st) (yset mem 64 9 x) Post) := zrf rfl
theorem s_135_86 {E : yE} {n d : Nat} {mem : yMem} {Post : Option yV → yMem → Prop} {st : List yV} {r1 : Option yV} {x : Int} : zvc E (n + 1) [] d xm_135 86 [some (1, x), r1] (st) mem Post = (zvc E n [] d xm_135 87 [some (1, x), r1] ((1, x) :: st) mem Post) := zrf rfl
theorem s_135_87 {E : yE} {n d : Nat} {mem : yMem} {Post : Option yV → yMem → Prop} {st : List yV} {r0 r1 : Option yV} : zvc E (n + 1) [] d xm_135 87 [r0, r1] (st) mem Post = (zvc E n [] d xm_135 88 [r0, r1] ((0, 0) :: st) mem Post) := zrf rfl
theorem s_135_88_57 {E : yE} {n d : Nat} {mem : yMem} {Post : Option yV → yMem → Prop} {st : List yV} {r0 r1 : Option yV} {x : Int} : zvc E (n + 1) [] d xm_135 88 [r0, r1] ((0, x) :: (1, 57) :: st) mem Post = (zvc E n [] d xm_135 91 [r0, r1] (st) (yset mem 57 10 x) Post) := zrf rfl
theorem s_135_88_64 {E : yE} {n d : Nat} {mem : yMem} {Post : Option yV → yMem → Prop} {st : List yV} {r0 r1 : Option yV} {x : Int} : zvc E (n + 1) [] d xm_135 88 [r0, r1] ((0, x) :: (1, 64) :: st) mem Post = (zvc E n [] d xm_135 91 [r0, r1] (st) (yset mem 64 10 x) Post) := zrf rfl
theorem s_135_91 {E : yE} {n d : Nat} {mem : yMem} {Post : Option yV → yMem → Prop} {st : List yV} {r1 : Option yV} {x : Int} : zvc E (n + 1) [] d xm_135 91 [some (1, x), r1] (st) mem Post = (zvc E n [] d xm_135 92 [some (1, x), r1] ((1, x) :: st) mem Post) := zrf rfl
theorem s_135_92 {E : yE} {n d : Nat} {mem : yMem} {Post : Option yV → yMem → Prop} {st : List yV} {r0 r1 : Option yV} : zvc E (n + 1) [] d xm_135 92 [r0, r1] (st) mem Post = (zvc E n [] d xm_135 93 [r0, r1] ((0, (-1)) :: st) mem Post) := zrf rfl
theorem s_135_93_57 {E : yE} {n d : Nat} {mem : yMem} {Post : Option yV → yMem → Prop} {st : List yV} {r0 r1 : Option yV} {x : Int} : zvc E (n + 1) [] d xm_135 93 [r0, r1] ((0, x) :: (1, 57) :: st) mem Post = (zvc E n [] d xm_135 96 [r0, r1] (st) (yset mem 57 11 x) Post) := zrf rfl
theorem s_135_93_64 {E : yE} {n d : Nat} {mem : yMem} {Post : Option yV → yMem → Prop} {st : List yV} {r0 r1 : Option yV} {x : Int} : zvc E (n + 1) [] d xm_135 93 [r0, r1] ((0, x) :: (1, 64) :: st) mem Post = (zvc E n [] d xm_135 96 [r0, r1] (st) (yset mem 64 11 x) Post) := zrf rfl
theorem s_135_96 {E : yE} {n d : Nat} {mem : yMem} {Post : Option yV → yMem → Prop} {st : List yV} {r1 : Option yV} {x : Int} : zvc E (n + 1) [] d xm_135 96 [some (1, x), r1] (st) mem Post = (zvc E n [] d xm_135 97 [some (1, x), r1] ((1, x) :: st) mem Post) := zrf rfl
theorem s_135_97 {E : yE} {n d : Nat} {mem : yMem} {Post : Option yV → yMem → Prop} {st : List yV} {r0 : Option yV} {x : Int} : zvc E (n + 1) [] d xm_135 97 [r0, some (1, x)] (st) mem Post = (zvc E n [] d xm_135 98 [r0, some (1, x)] ((1, x) :: st) mem Post) := zrf rfl
theorem s_135_98_2 {E : yE} {n d : Nat} {mem : yMem} {Post : Option yV → yMem → Prop} {st : List yV} {r0 r1 : Option yV} : zvc E (n + 1) [] d xm_135 98 [r0, r1] ((1, 2) :: st) mem Post = (zvc E n [] d xm_135 101 [r0, r1] ((0, mem 2 18) :: st) mem Post) := zrf rfl
theorem s_135_98_28 {E : yE} {n d : Nat} {mem : yMem} {Post : Option yV → yMem → Prop} {st : List yV} {r0 r1 : Option yV} : zvc E (n + 1) [] d xm_135 98 [r0, r1] ((1, 28) :: st) mem Post = (zvc E n [] d xm_135 101 [r0, r1] ((0, mem 28 18) :: st) mem Post) := zrf rfl
theorem s_135_101_57 {E : yE} {n d : Nat} {mem : yMem} {Post : Option yV → yMem → Prop} {st : List yV} {r0 r1 : Option yV} {x : Int} : zvc E (n + 1) [] d xm_135 101 [r0, r1] ((0, x) :: (1, 57) :: st) mem Post = (zvc E n [] d xm_135 104 [r0, r1] (st) (yset mem 57 12 x) Post) := zrf rfl
theorem s_135_101_64 {E : yE} {n d : Nat} {mem : yMem} {Post : Option yV → yMem → Prop} {st : List yV} {r0 r1 : Option yV} {x : Int} : zvc E (n + 1) [] d xm_135 101 [r0, r1] ((0, x) :: (1, 64) :: st) mem Post = (zvc E n [] d xm_135 104 [r0, r1] (st) (yset mem 64 12 x) Post) := zrf rfl
theorem s_135_104 {E : yE} {n d : Nat} {mem : yMem} {Post : Option yV → yMem → Prop} {r0 r1 : Option yV} : zvc E (n + 1) [] d xm_135 104 [r0, r1] ([]) mem Post = (Post none mem) := zrf rfl
theorem s_137_0 {E : yE} {n d : Nat} {mem : yMem} {Post : Option yV → yMem → Prop} {st : List yV} {x : Int} : zvc E (n + 1) [] d xm_137 0 [some (1, x)] (st) mem Post = (zvc E n [] d xm_137 1 [some (1, x)] ((1, x) :: st) mem Post) := zrf rfl
theorem s_137_1 {E : yE} {n d : Nat} {mem : yMem} {Post : Option yV → yMem → Prop} {st : List yV} {r0 : Option yV} : zvc E (n + 1) [] d xm_137 1 [r0] (st) mem Post = (zvc E n [] d xm_137 2 [r0] ((0, 0) :: st) mem Post) := zrf rfl
theorem s_137_2_57 {E : yE} {n d : Nat} {mem : yMem} {Post : Option yV → yMem → Prop} {st : List yV} {r0 : Option yV} {x : Int} : zvc E (n + 1) [] d xm_137 2 [r0] ((0, x) :: (1, 57) :: st) mem Post = (zvc E n [] d xm_137 5 [r0] (st) (yset mem 57 6 x) Post) := zrf rfl
theorem s_137_2_64 {E : yE} {n d : Nat} {mem : yMem} {Post : Option yV → yMem → Prop} {st : List yV} {r0 : Option yV} {x : Int} : zvc E (n + 1) [] d xm_137 2 [r0] ((0, x) :: (1, 64) :: st) mem Post = (zvc E n [] d xm_137 5 [r0] (st) (yset mem 64 6 x) Post) := zrf rfl
theorem s_137_5 {E : yE} {n d : Nat} {mem : yMem} {Post : Option yV → yMem → Prop} {st : List yV} {x : Int} : zvc E (n + 1) [] d xm_137 5 [some (1, x)] (st) mem Post = (zvc E n [] d xm_137 6 [some (1, x)] ((1, x) :: st) mem Post) := zrf rfl
theorem s_137_6_57 {E : yE} {n d : Nat} {mem : yMem} {Post : Option yV → yMem → Prop} {st : List yV} {r0 : Option yV} : zvc E (n + 1) [] d xm_137 6 [r0] ((1, 57) :: st) mem Post = (zvc E n [] d xm_137 9 [r0] ((1, 61) :: st) mem Post) := zrf rfl
theorem s_137_6_64 {E : yE} {n d : Nat} {mem : yMem} {Post : Option yV → yMem → Prop} {st : List yV} {r0 : Option yV} : zvc E (n + 1) [] d xm_137 6 [r0] ((1, 64) :: st) mem Post = (zvc E n [] d xm_137 9 [r0] ((1, 68) :: st) mem Post) := zrf rfl
theorem s_137_9 {E : yE} {n d : Nat} {mem : yMem} {Post : Option yV → yMem → Prop} {st : List yV} {r0 : Option yV} : zvc E (n + 1) [] d xm_137 9 [r0] (st) mem Post = (zvc E n [] d xm_137 10 [r0] ((0, (-1)) :: st) mem Post) := zrf rfl
theorem s_137_10 {E : yE} {n d : Nat} {mem : yMem} {Post : Option yV → yMem → Prop} {st : List yV} {r0 : Option yV} {a0 a1 : Int} : zvc E (n + 1) [] d xm_137 10 [r0] ((0, a1) :: (1, a0) :: st) mem Post = (True ∧ ysum st ≤ 8 ∧ yCon E d xm_263 [(1, a0), (0, a1)] mem (fun v mem' => zgk E d xm_137 13 [r0] st v mem' Post)) := zrf rfl
theorem s_137_13 {E : yE} {n d : Nat} {mem : yMem} {Post : Option yV → yMem → Prop} {r0 : Option yV} : zvc E (n + 1) [] d xm_137 13 [r0] ([]) mem Post = (Post none mem) := zrf rfl
theorem e_135 {E : yE} {d : Nat} {mem : yMem} {Q : Option yV → yMem → Prop} {z a0 : Int} (h : zG E d xm_135 0 [some (1, z), some (1, a0)] [] mem Q) : yCon E (d + 1) xm_135 [(1, z), (1, a0)] mem Q := zcon_of xmo_135 (Nat.le_of_ble_eq_true rfl) h
theorem e_137 {E : yE} {d : Nat} {mem : yMem} {Q : Option yV → yMem → Prop} {z : Int} (h : zG E d xm_137 0 [some (1, z)] [] mem Q) : yCon E (d + 1) xm_137 [(1, z)] mem Q := zcon_of xmo_137 (Nat.le_of_ble_eq_true rfl) h

/-! WHAT BECOMES OF THE WORLD behind a TEXT -/
/-- a TEXT's world, told by the class's own memory -/
def cBg (m : yMem) : Prop := (w32 (m 57 6) = 0 ∧ w32 (m 57 7) = 0 ∧ w32 (m 57 8) = w32 (m 2 17) ∧ w32 (m 57 9) = 0 ∧ w32 (m 57 10) = 0 ∧ w32 (m 57 12) = w32 (m 2 18)) ∧ (∀ j : Nat, j < 3 → w32 (m 58 j) = if (j : Int) < w32 (m 3 1) then w32 (m 12 j) else 0) ∧ (∀ j : Nat, j < 6 → w32 (m 59 j) = 0) ∧ (∀ j : Nat, j < 3 → w32 (m 60 j) = if (j : Int) < w32 (m 9 1) then w32 (m 21 j) else 0) ∧ ∀ j : Nat, j < 12 → w32 (m 61 j) = -1
theorem cBg_q {m n : yMem} (h : cBg n) (q : ∀ i j, (2 ≤ i ∧ i ≤ 26) ∨ (57 ≤ i ∧ i ≤ 61) → yRl i j = true → w32 (m i j) = w32 (n i j)) : cBg m := by
  obtain ⟨⟨a1, a2, a3, a4, a5, a6⟩, a7, a8, a9, a10⟩ := h
  refine ⟨⟨?_, ?_, ?_, ?_, ?_, ?_⟩, fun j hj => ?_, fun j hj => ?_, fun j hj => ?_, fun j hj => ?_⟩
  · rw [q 57 6 (by decide) rfl]; exact a1
  · rw [q 57 7 (by decide) rfl]; exact a2
  · rw [q 57 8 (by decide) rfl, q 2 17 (by decide) rfl]; exact a3
  · rw [q 57 9 (by decide) rfl]; exact a4
  · rw [q 57 10 (by decide) rfl]; exact a5
  · rw [q 57 12 (by decide) rfl, q 2 18 (by decide) rfl]; exact a6
  · rw [q 58 j (by decide) ((by decide : ∀ j, j < 3 → yRl 58 j = true) j hj), q 3 1 (by decide) rfl, q 12 j (by decide) ((by decide : ∀ j, j < 3 → yRl 12 j = true) j hj)]; exact a7 j hj
  · rw [q 59 j (by decide) ((by decide : ∀ j, j < 6 → yRl 59 j = true) j hj)]; exact a8 j hj
  · rw [q 60 j (by decide) ((by decide : ∀ j, j < 3 → yRl 60 j = true) j hj), q 9 1 (by decide) rfl, q 21 j (by decide) ((by decide : ∀ j, j < 3 → yRl 21 j = true) j hj)]; exact a9 j hj
  · rw [q 61 j (by decide) ((by decide : ∀ j, j < 12 → yRl 61 j = true) j hj)]; exact a10 j hj
theorem getD_at {α : Type} {l : List α} {j : Nat} (d : α) (h : j < l.length) : l[j]? = some (l.getD j d) := by
  rw [List.getD_eq_getElem?_getD, List.getElem?_eq_getElem h]
  rfl
theorem cBg_W {m : yMem} {D : dDc} {W : dU} (h : cBg m) (hD : cDh m D) (h62 : ∀ j, j < 12 → w32 (m 62 j) = uL W j) (h63 : ∀ j, j < 12 → w32 (m 63 j) = uP W j) : cW m 57 (uBg D W) := by
  obtain ⟨⟨a1, a2, a3, a4, a5, a6⟩, a7, a8, a9, a10⟩ := h
  obtain ⟨⟨t1, t2⟩, -, -, ⟨b1, b2⟩, ⟨p1, p2⟩, -⟩ := hD
  have e3 := t1.1
  have e9 := b1.1
  rw [List.length_map] at e3 e9
  refine ⟨fun j hj => ?_, fun j hj => a8 j hj, fun j hj => ?_, fun j hj => a10 j hj, fun j hj => h62 j hj, fun j hj => h63 j hj, a1, a2, ?_, a4, a5, ?_⟩
  · show w32 (m 58 j) = if j < D.1.length then (D.1.getD j (0, 0, 0)).2.2 else 0
    rw [a7 j hj, e3]
    by_cases hl : j < D.1.length
    · rw [if_pos (by omega), if_pos hl]
      exact (t2 j _ (getD_at (0, 0, 0) hl)).2
    · rw [if_neg (by omega), if_neg hl]
  · show w32 (m 60 j) = if j < D.2.2.2.1.length then (D.2.2.2.1.getD j (0, 0)).2 else 0
    rw [a9 j hj, e9]
    by_cases hl : j < D.2.2.2.1.length
    · rw [if_pos (by omega), if_pos hl]
      exact b2 j _ (getD_at (0, 0) hl)
    · rw [if_neg (by omega), if_neg hl]
  · rw [a3]; exact p1
  · rw [a6]; exact p2
theorem rBw_W {b b0 m : yMem} {D : dDc} {W : dU} (h : rBw b m) (hD : rDl m D) (hb : ∀ i j, 118 ≤ i → i ≤ 129 → b i j = b0 i j) (hW : rW b0 0 W) : rW m 0 (uBg D W) := by
  obtain ⟨⟨a1, a2, a3, a4, a5, a6⟩, a7, a8, a9, a10, a11⟩ := h
  obtain ⟨⟨t1, t2⟩, -, -, ⟨b1, b2⟩, ⟨p1, p2⟩, -⟩ := hD
  have e3 := t1.1
  have e9 := b1.1
  rw [List.length_map] at e3 e9
  obtain ⟨-, -, -, -, w5, w6, -⟩ := rW0 hW
  refine rW0_of ⟨fun j hj => ?_, fun j hj => a9 j hj, fun j hj => ?_, fun j hj => a10 j hj, fun j hj => ?_, fun j hj => ?_, a6, a1, ?_, a4, a5, ?_⟩
  · show w32 (m 123 j) = if j < D.1.length then (D.1.getD j (0, 0, 0)).2.2 else 0
    rw [a7 j hj, e3]
    by_cases hl : j < D.1.length
    · rw [if_pos (by omega), if_pos hl]
      exact (t2 j _ (getD_at (0, 0, 0) hl)).2
    · rw [if_neg (by omega), if_neg hl]
  · show w32 (m 124 j) = if j < D.2.2.2.1.length then (D.2.2.2.1.getD j (0, 0)).2 else 0
    rw [a8 j hj, e9]
    by_cases hl : j < D.2.2.2.1.length
    · rw [if_pos (by omega), if_pos hl]
      exact b2 j _ (getD_at (0, 0) hl)
    · rw [if_neg (by omega), if_neg hl]
  · rw [a11 128 j (by omega) (show j < 24 by omega), hb 128 j (by decide) (by decide)]; exact w5 j hj
  · rw [a11 129 j (by omega) (show j < 24 by omega), hb 129 j (by decide) (by decide)]; exact w6 j hj
  · rw [a2]; exact p1
  · rw [a3]; exact p2
theorem rBw_V {b b0 m : yMem} {V : dU} (h : rBw b m) (hb : ∀ i j, 118 ≤ i → i ≤ 129 → b i j = b0 i j) (hV : rW b0 1 V) : rW m 1 V := by
  have a11 := h.2.2.2.2.2
  obtain ⟨v1, v2, v3, v4, v5, v6, v7, v8, v9, v10, v11, v12⟩ := hV
  have u : ∀ i j : Nat, (118 ≤ i ∧ i ≤ 122 ∧ j ≠ 0) ∨ (i = 123 ∧ 3 ≤ j) ∨ (i = 124 ∧ 3 ≤ j) ∨ (i = 125 ∧ 6 ≤ j) ∨ (i = 126 ∧ 12 ≤ j) ∨ (i = 127 ∧ j ≠ 0) ∨ i = 128 ∨ i = 129 → j < wln i → w32 (m i j) = w32 (b0 i j) := fun i j h1 h2 => by rw [a11 i j h1 h2, hb i j (by omega) (by omega)]
  refine ⟨fun j hj => ?_, fun j hj => ?_, fun j hj => ?_, fun j hj => ?_, fun j hj => ?_, fun j hj => ?_, ?_, ?_, ?_, ?_, ?_, ?_⟩
  · rw [u 123 _ (by omega) (show 3 * 1 + j < 6 by omega)]; exact v1 j hj
  · rw [u 125 _ (by omega) (show 6 * 1 + j < 12 by omega)]; exact v2 j hj
  · rw [u 124 _ (by omega) (show 3 * 1 + j < 6 by omega)]; exact v3 j hj
  · rw [u 126 _ (by omega) (show 12 * 1 + j < 24 by omega)]; exact v4 j hj
  · rw [u 128 _ (by omega) (show 12 * 1 + j < 24 by omega)]; exact v5 j hj
  · rw [u 129 _ (by omega) (show 12 * 1 + j < 24 by omega)]; exact v6 j hj
  · rw [u 127 1 (by omega) (by decide)]; exact v7
  · rw [u 118 1 (by omega) (by decide)]; exact v8
  · rw [u 119 1 (by omega) (by decide)]; exact v9
  · rw [u 121 1 (by omega) (by decide)]; exact v10
  · rw [u 122 1 (by omega) (by decide)]; exact v11
  · rw [u 120 1 (by omega) (by decide)]; exact v12
section XW
variable {E : yE} {mem : yMem} {Q : Option yV → yMem → Prop}
theorem ycp_o {m : yMem} {ss sp dd dp n c j : Nat} (h : c ≠ dd) : ycpy m ss sp dd dp n c j = m c j := if_neg h
theorem ycp_s {m : yMem} {ss sp dd dp n j : Nat} : ycpy m ss sp dd dp n dd j = if dp ≤ j ∧ j < dp + n then m ss (sp + (j - dp)) else m dd j := if_pos rfl
theorem gx_dall (hE : yEok E) {D : Nat} (hD : 2 ≤ D) (hQ : ∀ m', (∀ i j, i ≠ 61 → m' i j = yset mem 57 6 0 i j) → (∀ j, j < 12 → m' 61 j = -1) → Q none m') : yCon E D xm_137 [(1, 57)] mem Q := by
  obtain ⟨d, rfl⟩ := Nat.exists_eq_add_of_le' hD
  refine e_137 ?_
  refine zvc_ok hE 60 [] _ _ _ _ _ _ _ xmo_137 ?_
  simp only [ynok_30, ynok_31, w32c_0, w32c_1, w32c_2, w32c_3, w32c_4, w32c_5, w32c_6, w32c_7, w32c_8, w32c_9, w32c_10, w32c_11, w32c_12, w32c_13, w32c_14, w32c_m1, w32c_m2, w32c_118, Int.reduceAdd, Int.reduceSub, Int.reduceMul, yput_s, yput_n, znl_n, znl_0, znl_1, znl_4, ysum_n, ysum_0, ysum_1, ysum_4, true_and, and_true, Nat.reduceAdd, Nat.reduceLeDiff, true_implies, eq_self, true_or, or_true, or_false, false_or, not_true_eq_false, not_false_eq_true, false_implies, implies_true, yset_s, yset_o, yset_d, ne_eq, Nat.reduceEqDiff, Int.reduceToNat, Int.reduceEq, Int.reduceLE, Int.reduceLT, Classical.not_not, Nat.reduceLT, ↓zvk_s, ↓zvk_n, ↓s_137_0, ↓s_137_1, ↓s_137_2_57, ↓s_137_2_64, ↓s_137_5, ↓s_137_6_57, ↓s_137_6_64, ↓s_137_9, ↓s_137_10, ↓s_137_13, zio_64, zar_68, zia_68, zln_68, zit_68, zio_57, zar_61, zia_61, zln_61, zit_61]
  refine g_fill hE (by omega) (z := 61) (L := 12) (by decide) (by decide) (by decide) (by decide) (fun m1 F1 V1 => ?_)
  refine zgk_n hE xmo_137 60 [] ?_
  simp only [ynok_30, ynok_31, w32c_0, w32c_1, w32c_2, w32c_3, w32c_4, w32c_5, w32c_6, w32c_7, w32c_8, w32c_9, w32c_10, w32c_11, w32c_12, w32c_13, w32c_14, w32c_m1, w32c_m2, w32c_118, Int.reduceAdd, Int.reduceSub, Int.reduceMul, yput_s, yput_n, znl_n, znl_0, znl_1, znl_4, ysum_n, ysum_0, ysum_1, ysum_4, true_and, and_true, Nat.reduceAdd, Nat.reduceLeDiff, true_implies, eq_self, true_or, or_true, or_false, false_or, not_true_eq_false, not_false_eq_true, false_implies, implies_true, yset_s, yset_o, yset_d, ne_eq, Nat.reduceEqDiff, Int.reduceToNat, Int.reduceEq, Int.reduceLE, Int.reduceLT, Classical.not_not, Nat.reduceLT, ↓zvk_s, ↓zvk_n, ↓s_137_0, ↓s_137_1, ↓s_137_2_57, ↓s_137_2_64, ↓s_137_5, ↓s_137_6_57, ↓s_137_6_64, ↓s_137_9, ↓s_137_10, ↓s_137_13, zio_64, zar_68, zia_68, zln_68, zit_68, zio_57, zar_61, zia_61, zln_61, zit_61]
  exact hQ m1 F1 V1
theorem gx_begin (hE : yEok E) {D : Nat} (hD : 3 ≤ D) (h3 : 0 ≤ w32 (mem 3 1) ∧ w32 (mem 3 1) ≤ 3) (h9 : 0 ≤ w32 (mem 9 1) ∧ w32 (mem 9 1) ≤ 3) (hQ : ∀ m, (∀ i j, i < 57 ∨ 61 < i → m i j = mem i j) → cBg m → Q none m) : yCon E D xm_135 [(1, 57), (1, 2)] mem Q := by
  obtain ⟨d, rfl⟩ := Nat.exists_eq_add_of_le' hD
  refine e_135 ?_
  refine zvc_ok hE 90 [] _ _ _ _ _ _ _ xmo_135 ?_
  simp only [ynok_30, ynok_31, w32c_0, w32c_1, w32c_2, w32c_3, w32c_4, w32c_5, w32c_6, w32c_7, w32c_8, w32c_9, w32c_10, w32c_11, w32c_12, w32c_13, w32c_14, w32c_m1, w32c_m2, w32c_118, Int.reduceAdd, Int.reduceSub, Int.reduceMul, yput_s, yput_n, znl_n, znl_0, znl_1, znl_4, ysum_n, ysum_0, ysum_1, ysum_4, true_and, and_true, Nat.reduceAdd, Nat.reduceLeDiff, true_implies, eq_self, true_or, or_true, or_false, false_or, not_true_eq_false, not_false_eq_true, false_implies, implies_true, yset_s, yset_o, yset_d, ne_eq, Nat.reduceEqDiff, Int.reduceToNat, Int.reduceEq, Int.reduceLE, Int.reduceLT, Classical.not_not, Nat.reduceLT, ↓zvk_s, ↓zvk_n, ↓s_135_0, ↓s_135_1_57, ↓s_135_1_64, ↓s_135_4, ↓s_135_5, ↓s_135_8, ↓s_135_9_57, ↓s_135_9_64, ↓s_135_12, ↓s_135_13, ↓s_135_16, ↓s_135_17_57, ↓s_135_17_64, ↓s_135_20, ↓s_135_21, ↓s_135_24, ↓s_135_25_2, ↓s_135_25_28, ↓s_135_28, ↓s_135_29, ↓s_135_30_57, ↓s_135_30_64, ↓s_135_33, ↓s_135_34, ↓s_135_35_2, ↓s_135_35_28, ↓s_135_38_3, ↓s_135_38_5, ↓s_135_38_7, ↓s_135_38_9, ↓s_135_38_29, ↓s_135_38_31, ↓s_135_38_33, ↓s_135_38_35, ↓s_135_41, ↓s_135_44, ↓s_135_45_2, ↓s_135_45_28, ↓s_135_48, ↓s_135_49, ↓s_135_50_57, ↓s_135_50_64, ↓s_135_53, ↓s_135_54, ↓s_135_55_2, ↓s_135_55_28, ↓s_135_58_3, ↓s_135_58_5, ↓s_135_58_7, ↓s_135_58_9, ↓s_135_58_29, ↓s_135_58_31, ↓s_135_58_33, ↓s_135_58_35, ↓s_135_61, ↓s_135_64, ↓s_135_65, ↓s_135_68, ↓s_135_69, ↓s_135_70_57, ↓s_135_70_64, ↓s_135_73, ↓s_135_74, ↓s_135_75_2, ↓s_135_75_28, ↓s_135_78_57, ↓s_135_78_64, ↓s_135_81, ↓s_135_82, ↓s_135_83_57, ↓s_135_83_64, ↓s_135_86, ↓s_135_87, ↓s_135_88_57, ↓s_135_88_64, ↓s_135_91, ↓s_135_92, ↓s_135_93_57, ↓s_135_93_64, ↓s_135_96, ↓s_135_97, ↓s_135_98_2, ↓s_135_98_28, ↓s_135_101_57, ↓s_135_101_64, ↓s_135_104, zio_64, zar_65, zia_65, zln_65, zit_65, zar_66, zia_66, zln_66, zit_66, zar_67, zia_67, zln_67, zit_67, zio_2, zio_3, zio_5, zio_7, zio_9, zar_12, zia_12, zln_12, zit_12, zar_21, zia_21, zln_21, zit_21, zio_28, zio_29, zio_31, zio_33, zio_35, zar_38, zia_38, zln_38, zit_38, zar_47, zia_47, zln_47, zit_47, zio_57, zar_58, zia_58, zln_58, zit_58, zar_59, zia_59, zln_59, zit_59, zar_60, zia_60, zln_60, zit_60]
  refine g_fill hE (by omega) (z := 58) (L := 3) (by decide) (by decide) (by decide) (by decide) (fun m1 F1 V1 => ?_)
  refine zgk_n hE xmo_135 90 [] ?_
  simp only [ynok_30, ynok_31, w32c_0, w32c_1, w32c_2, w32c_3, w32c_4, w32c_5, w32c_6, w32c_7, w32c_8, w32c_9, w32c_10, w32c_11, w32c_12, w32c_13, w32c_14, w32c_m1, w32c_m2, w32c_118, Int.reduceAdd, Int.reduceSub, Int.reduceMul, yput_s, yput_n, znl_n, znl_0, znl_1, znl_4, ysum_n, ysum_0, ysum_1, ysum_4, true_and, and_true, Nat.reduceAdd, Nat.reduceLeDiff, true_implies, eq_self, true_or, or_true, or_false, false_or, not_true_eq_false, not_false_eq_true, false_implies, implies_true, yset_s, yset_o, yset_d, ne_eq, Nat.reduceEqDiff, Int.reduceToNat, Int.reduceEq, Int.reduceLE, Int.reduceLT, Classical.not_not, Nat.reduceLT, ↓zvk_s, ↓zvk_n, ↓s_135_0, ↓s_135_1_57, ↓s_135_1_64, ↓s_135_4, ↓s_135_5, ↓s_135_8, ↓s_135_9_57, ↓s_135_9_64, ↓s_135_12, ↓s_135_13, ↓s_135_16, ↓s_135_17_57, ↓s_135_17_64, ↓s_135_20, ↓s_135_21, ↓s_135_24, ↓s_135_25_2, ↓s_135_25_28, ↓s_135_28, ↓s_135_29, ↓s_135_30_57, ↓s_135_30_64, ↓s_135_33, ↓s_135_34, ↓s_135_35_2, ↓s_135_35_28, ↓s_135_38_3, ↓s_135_38_5, ↓s_135_38_7, ↓s_135_38_9, ↓s_135_38_29, ↓s_135_38_31, ↓s_135_38_33, ↓s_135_38_35, ↓s_135_41, ↓s_135_44, ↓s_135_45_2, ↓s_135_45_28, ↓s_135_48, ↓s_135_49, ↓s_135_50_57, ↓s_135_50_64, ↓s_135_53, ↓s_135_54, ↓s_135_55_2, ↓s_135_55_28, ↓s_135_58_3, ↓s_135_58_5, ↓s_135_58_7, ↓s_135_58_9, ↓s_135_58_29, ↓s_135_58_31, ↓s_135_58_33, ↓s_135_58_35, ↓s_135_61, ↓s_135_64, ↓s_135_65, ↓s_135_68, ↓s_135_69, ↓s_135_70_57, ↓s_135_70_64, ↓s_135_73, ↓s_135_74, ↓s_135_75_2, ↓s_135_75_28, ↓s_135_78_57, ↓s_135_78_64, ↓s_135_81, ↓s_135_82, ↓s_135_83_57, ↓s_135_83_64, ↓s_135_86, ↓s_135_87, ↓s_135_88_57, ↓s_135_88_64, ↓s_135_91, ↓s_135_92, ↓s_135_93_57, ↓s_135_93_64, ↓s_135_96, ↓s_135_97, ↓s_135_98_2, ↓s_135_98_28, ↓s_135_101_57, ↓s_135_101_64, ↓s_135_104, zio_64, zar_65, zia_65, zln_65, zit_65, zar_66, zia_66, zln_66, zit_66, zar_67, zia_67, zln_67, zit_67, zio_2, zio_3, zio_5, zio_7, zio_9, zar_12, zia_12, zln_12, zit_12, zar_21, zia_21, zln_21, zit_21, zio_28, zio_29, zio_31, zio_33, zio_35, zar_38, zia_38, zln_38, zit_38, zar_47, zia_47, zln_47, zit_47, zio_57, zar_58, zia_58, zln_58, zit_58, zar_59, zia_59, zln_59, zit_59, zar_60, zia_60, zln_60, zit_60]
  refine g_fill hE (by omega) (z := 60) (L := 3) (by decide) (by decide) (by decide) (by decide) (fun m2 F2 V2 => ?_)
  refine zgk_n hE xmo_135 90 [] ?_
  simp only [ynok_30, ynok_31, w32c_0, w32c_1, w32c_2, w32c_3, w32c_4, w32c_5, w32c_6, w32c_7, w32c_8, w32c_9, w32c_10, w32c_11, w32c_12, w32c_13, w32c_14, w32c_m1, w32c_m2, w32c_118, Int.reduceAdd, Int.reduceSub, Int.reduceMul, yput_s, yput_n, znl_n, znl_0, znl_1, znl_4, ysum_n, ysum_0, ysum_1, ysum_4, true_and, and_true, Nat.reduceAdd, Nat.reduceLeDiff, true_implies, eq_self, true_or, or_true, or_false, false_or, not_true_eq_false, not_false_eq_true, false_implies, implies_true, yset_s, yset_o, yset_d, ne_eq, Nat.reduceEqDiff, Int.reduceToNat, Int.reduceEq, Int.reduceLE, Int.reduceLT, Classical.not_not, Nat.reduceLT, ↓zvk_s, ↓zvk_n, ↓s_135_0, ↓s_135_1_57, ↓s_135_1_64, ↓s_135_4, ↓s_135_5, ↓s_135_8, ↓s_135_9_57, ↓s_135_9_64, ↓s_135_12, ↓s_135_13, ↓s_135_16, ↓s_135_17_57, ↓s_135_17_64, ↓s_135_20, ↓s_135_21, ↓s_135_24, ↓s_135_25_2, ↓s_135_25_28, ↓s_135_28, ↓s_135_29, ↓s_135_30_57, ↓s_135_30_64, ↓s_135_33, ↓s_135_34, ↓s_135_35_2, ↓s_135_35_28, ↓s_135_38_3, ↓s_135_38_5, ↓s_135_38_7, ↓s_135_38_9, ↓s_135_38_29, ↓s_135_38_31, ↓s_135_38_33, ↓s_135_38_35, ↓s_135_41, ↓s_135_44, ↓s_135_45_2, ↓s_135_45_28, ↓s_135_48, ↓s_135_49, ↓s_135_50_57, ↓s_135_50_64, ↓s_135_53, ↓s_135_54, ↓s_135_55_2, ↓s_135_55_28, ↓s_135_58_3, ↓s_135_58_5, ↓s_135_58_7, ↓s_135_58_9, ↓s_135_58_29, ↓s_135_58_31, ↓s_135_58_33, ↓s_135_58_35, ↓s_135_61, ↓s_135_64, ↓s_135_65, ↓s_135_68, ↓s_135_69, ↓s_135_70_57, ↓s_135_70_64, ↓s_135_73, ↓s_135_74, ↓s_135_75_2, ↓s_135_75_28, ↓s_135_78_57, ↓s_135_78_64, ↓s_135_81, ↓s_135_82, ↓s_135_83_57, ↓s_135_83_64, ↓s_135_86, ↓s_135_87, ↓s_135_88_57, ↓s_135_88_64, ↓s_135_91, ↓s_135_92, ↓s_135_93_57, ↓s_135_93_64, ↓s_135_96, ↓s_135_97, ↓s_135_98_2, ↓s_135_98_28, ↓s_135_101_57, ↓s_135_101_64, ↓s_135_104, zio_64, zar_65, zia_65, zln_65, zit_65, zar_66, zia_66, zln_66, zit_66, zar_67, zia_67, zln_67, zit_67, zio_2, zio_3, zio_5, zio_7, zio_9, zar_12, zia_12, zln_12, zit_12, zar_21, zia_21, zln_21, zit_21, zio_28, zio_29, zio_31, zio_33, zio_35, zar_38, zia_38, zln_38, zit_38, zar_47, zia_47, zln_47, zit_47, zio_57, zar_58, zia_58, zln_58, zit_58, zar_59, zia_59, zln_59, zit_59, zar_60, zia_60, zln_60, zit_60]
  refine g_fill hE (by omega) (z := 59) (L := 6) (by decide) (by decide) (by decide) (by decide) (fun m3 F3 V3 => ?_)
  refine zgk_n hE xmo_135 90 [] ?_
  simp only [ynok_30, ynok_31, w32c_0, w32c_1, w32c_2, w32c_3, w32c_4, w32c_5, w32c_6, w32c_7, w32c_8, w32c_9, w32c_10, w32c_11, w32c_12, w32c_13, w32c_14, w32c_m1, w32c_m2, w32c_118, Int.reduceAdd, Int.reduceSub, Int.reduceMul, yput_s, yput_n, znl_n, znl_0, znl_1, znl_4, ysum_n, ysum_0, ysum_1, ysum_4, true_and, and_true, Nat.reduceAdd, Nat.reduceLeDiff, true_implies, eq_self, true_or, or_true, or_false, false_or, not_true_eq_false, not_false_eq_true, false_implies, implies_true, yset_s, yset_o, yset_d, ne_eq, Nat.reduceEqDiff, Int.reduceToNat, Int.reduceEq, Int.reduceLE, Int.reduceLT, Classical.not_not, Nat.reduceLT, ↓zvk_s, ↓zvk_n, ↓s_135_0, ↓s_135_1_57, ↓s_135_1_64, ↓s_135_4, ↓s_135_5, ↓s_135_8, ↓s_135_9_57, ↓s_135_9_64, ↓s_135_12, ↓s_135_13, ↓s_135_16, ↓s_135_17_57, ↓s_135_17_64, ↓s_135_20, ↓s_135_21, ↓s_135_24, ↓s_135_25_2, ↓s_135_25_28, ↓s_135_28, ↓s_135_29, ↓s_135_30_57, ↓s_135_30_64, ↓s_135_33, ↓s_135_34, ↓s_135_35_2, ↓s_135_35_28, ↓s_135_38_3, ↓s_135_38_5, ↓s_135_38_7, ↓s_135_38_9, ↓s_135_38_29, ↓s_135_38_31, ↓s_135_38_33, ↓s_135_38_35, ↓s_135_41, ↓s_135_44, ↓s_135_45_2, ↓s_135_45_28, ↓s_135_48, ↓s_135_49, ↓s_135_50_57, ↓s_135_50_64, ↓s_135_53, ↓s_135_54, ↓s_135_55_2, ↓s_135_55_28, ↓s_135_58_3, ↓s_135_58_5, ↓s_135_58_7, ↓s_135_58_9, ↓s_135_58_29, ↓s_135_58_31, ↓s_135_58_33, ↓s_135_58_35, ↓s_135_61, ↓s_135_64, ↓s_135_65, ↓s_135_68, ↓s_135_69, ↓s_135_70_57, ↓s_135_70_64, ↓s_135_73, ↓s_135_74, ↓s_135_75_2, ↓s_135_75_28, ↓s_135_78_57, ↓s_135_78_64, ↓s_135_81, ↓s_135_82, ↓s_135_83_57, ↓s_135_83_64, ↓s_135_86, ↓s_135_87, ↓s_135_88_57, ↓s_135_88_64, ↓s_135_91, ↓s_135_92, ↓s_135_93_57, ↓s_135_93_64, ↓s_135_96, ↓s_135_97, ↓s_135_98_2, ↓s_135_98_28, ↓s_135_101_57, ↓s_135_101_64, ↓s_135_104, zio_64, zar_65, zia_65, zln_65, zit_65, zar_66, zia_66, zln_66, zit_66, zar_67, zia_67, zln_67, zit_67, zio_2, zio_3, zio_5, zio_7, zio_9, zar_12, zia_12, zln_12, zit_12, zar_21, zia_21, zln_21, zit_21, zio_28, zio_29, zio_31, zio_33, zio_35, zar_38, zia_38, zln_38, zit_38, zar_47, zia_47, zln_47, zit_47, zio_57, zar_58, zia_58, zln_58, zit_58, zar_59, zia_59, zln_59, zit_59, zar_60, zia_60, zln_60, zit_60]
  have F1 : ∀ i j, i ≠ 58 → m1 i j = mem i j := F1
  have F2 : ∀ i j, i ≠ 60 → m2 i j = m1 i j := F2
  have F3 : ∀ i j, i ≠ 59 → m3 i j = m2 i j := F3
  have V1 : ∀ j, j < 3 → m1 58 j = 0 := V1
  have V2 : ∀ j, j < 3 → m2 60 j = 0 := V2
  have V3 : ∀ j, j < 6 → m3 59 j = 0 := V3
  have up3 : ∀ i j, i ≠ 58 → i ≠ 59 → i ≠ 60 → m3 i j = mem i j := fun i j a b c => by rw [F3 i j b, F2 i j c, F1 i j a]
  have e3 : m3 3 1 = mem 3 1 := up3 3 1 (by decide) (by decide) (by decide)
  have c0 : ∀ i j, i ≠ 58 → ycpy m3 12 0 58 0 (w32 (m3 3 1)).toNat i j = m3 i j := fun i j h => ycp_o h
  have e9 : ycpy m3 12 0 58 0 (w32 (m3 3 1)).toNat 9 1 = mem 9 1 := by rw [c0 9 1 (by decide), up3 9 1 (by decide) (by decide) (by decide)]
  rw [e9, e3]
  rw [e3] at c0
  refine ⟨h3.1, by omega, by omega, h9.1, by omega, by omega, gx_dall hE (by omega) (fun m4 F4 V4 => ?_)⟩
  have c1 : ∀ i j, i ≠ 58 → i ≠ 60 → ycpy (ycpy m3 12 0 58 0 (w32 (mem 3 1)).toNat) 21 0 60 0 (w32 (mem 9 1)).toNat i j = m3 i j := fun i j a b => by
    rw [ycp_o b, c0 i j a]
  have t58 : ∀ j, j < 3 → ycpy (ycpy m3 12 0 58 0 (w32 (mem 3 1)).toNat) 21 0 60 0 (w32 (mem 9 1)).toNat 58 j = if (j : Int) < w32 (mem 3 1) then mem 12 j else 0 := fun j hj => by
    rw [ycp_o (by decide), ycp_s]
    by_cases h : (j : Int) < w32 (mem 3 1)
    · rw [if_pos ⟨Nat.zero_le _, by omega⟩, if_pos h, up3 12 _ (by decide) (by decide) (by decide), show 0 + (j - 0) = j by omega]
    · rw [if_neg (by omega), if_neg h, F3 58 j (by decide), F2 58 j (by decide)]
      exact V1 j hj
  have t60 : ∀ j, j < 3 → ycpy (ycpy m3 12 0 58 0 (w32 (mem 3 1)).toNat) 21 0 60 0 (w32 (mem 9 1)).toNat 60 j = if (j : Int) < w32 (mem 9 1) then mem 21 j else 0 := fun j hj => by
    rw [ycp_s]
    by_cases h : (j : Int) < w32 (mem 9 1)
    · rw [if_pos ⟨Nat.zero_le _, by omega⟩, if_pos h, c0 21 _ (by decide), up3 21 _ (by decide) (by decide) (by decide), show 0 + (j - 0) = j by omega]
    · rw [if_neg (by omega), if_neg h, c0 60 j (by decide), F3 60 j (by decide)]
      exact V2 j hj
  revert c1 t58 t60 F4
  generalize ycpy (ycpy m3 12 0 58 0 (w32 (mem 3 1)).toNat) 21 0 60 0 (w32 (mem 9 1)).toNat = B
  intro F4 c1 t58 t60
  refine zgk_n hE xmo_135 90 [] ?_
  simp only [ynok_30, ynok_31, w32c_0, w32c_1, w32c_2, w32c_3, w32c_4, w32c_5, w32c_6, w32c_7, w32c_8, w32c_9, w32c_10, w32c_11, w32c_12, w32c_13, w32c_14, w32c_m1, w32c_m2, w32c_118, Int.reduceAdd, Int.reduceSub, Int.reduceMul, yput_s, yput_n, znl_n, znl_0, znl_1, znl_4, ysum_n, ysum_0, ysum_1, ysum_4, true_and, and_true, Nat.reduceAdd, Nat.reduceLeDiff, true_implies, eq_self, true_or, or_true, or_false, false_or, not_true_eq_false, not_false_eq_true, false_implies, implies_true, yset_s, yset_o, yset_d, ne_eq, Nat.reduceEqDiff, Int.reduceToNat, Int.reduceEq, Int.reduceLE, Int.reduceLT, Classical.not_not, Nat.reduceLT, ↓zvk_s, ↓zvk_n, ↓s_135_0, ↓s_135_1_57, ↓s_135_1_64, ↓s_135_4, ↓s_135_5, ↓s_135_8, ↓s_135_9_57, ↓s_135_9_64, ↓s_135_12, ↓s_135_13, ↓s_135_16, ↓s_135_17_57, ↓s_135_17_64, ↓s_135_20, ↓s_135_21, ↓s_135_24, ↓s_135_25_2, ↓s_135_25_28, ↓s_135_28, ↓s_135_29, ↓s_135_30_57, ↓s_135_30_64, ↓s_135_33, ↓s_135_34, ↓s_135_35_2, ↓s_135_35_28, ↓s_135_38_3, ↓s_135_38_5, ↓s_135_38_7, ↓s_135_38_9, ↓s_135_38_29, ↓s_135_38_31, ↓s_135_38_33, ↓s_135_38_35, ↓s_135_41, ↓s_135_44, ↓s_135_45_2, ↓s_135_45_28, ↓s_135_48, ↓s_135_49, ↓s_135_50_57, ↓s_135_50_64, ↓s_135_53, ↓s_135_54, ↓s_135_55_2, ↓s_135_55_28, ↓s_135_58_3, ↓s_135_58_5, ↓s_135_58_7, ↓s_135_58_9, ↓s_135_58_29, ↓s_135_58_31, ↓s_135_58_33, ↓s_135_58_35, ↓s_135_61, ↓s_135_64, ↓s_135_65, ↓s_135_68, ↓s_135_69, ↓s_135_70_57, ↓s_135_70_64, ↓s_135_73, ↓s_135_74, ↓s_135_75_2, ↓s_135_75_28, ↓s_135_78_57, ↓s_135_78_64, ↓s_135_81, ↓s_135_82, ↓s_135_83_57, ↓s_135_83_64, ↓s_135_86, ↓s_135_87, ↓s_135_88_57, ↓s_135_88_64, ↓s_135_91, ↓s_135_92, ↓s_135_93_57, ↓s_135_93_64, ↓s_135_96, ↓s_135_97, ↓s_135_98_2, ↓s_135_98_28, ↓s_135_101_57, ↓s_135_101_64, ↓s_135_104, zio_64, zar_65, zia_65, zln_65, zit_65, zar_66, zia_66, zln_66, zit_66, zar_67, zia_67, zln_67, zit_67, zio_2, zio_3, zio_5, zio_7, zio_9, zar_12, zia_12, zln_12, zit_12, zar_21, zia_21, zln_21, zit_21, zio_28, zio_29, zio_31, zio_33, zio_35, zar_38, zia_38, zln_38, zit_38, zar_47, zia_47, zln_47, zit_47, zio_57, zar_58, zia_58, zln_58, zit_58, zar_59, zia_59, zln_59, zit_59, zar_60, zia_60, zln_60, zit_60]
  have o4 : ∀ i j, i ≠ 61 → i ≠ 57 → m4 i j = B i j := fun i j a b => by rw [F4 i j a, yset_o b]
  have o5 : ∀ i j, i < 57 ∨ 61 < i → m4 i j = mem i j := fun i j h => by rw [o4 i j (by omega) (by omega), c1 i j (by omega) (by omega), up3 i j (by omega) (by omega) (by omega)]
  have w6 : ∀ x, w32 (yset (yset (yset (yset (yset (yset m4 57 7 0) 57 8 (m4 2 17)) 57 9 0) 57 10 0) 57 11 (-1)) 57 12 x 57 6) = 0 := fun x => by
    rw [yset_d (by decide), yset_d (by decide), yset_d (by decide), yset_d (by decide), yset_d (by decide), yset_d (by decide), F4 57 6 (by decide), yset_s]
    exact w32c_0
  have oo : ∀ x i j, i ≠ 57 → yset (yset (yset (yset (yset (yset m4 57 7 0) 57 8 (m4 2 17)) 57 9 0) 57 10 0) 57 11 (-1)) 57 12 x i j = m4 i j := fun x i j h => by rw [yset_o h, yset_o h, yset_o h, yset_o h, yset_o h, yset_o h]
  refine hQ _ (fun i j hi => by rw [oo _ i j (by omega), o5 i j hi]) ⟨⟨w6 _, ?_, ?_, ?_, ?_, ?_⟩, fun j hj => ?_, fun j hj => ?_, fun j hj => ?_, fun j hj => ?_⟩
  · rw [yset_d (by decide), yset_d (by decide), yset_d (by decide), yset_d (by decide), yset_d (by decide), yset_s]; exact w32c_0
  · rw [yset_d (by decide), yset_d (by decide), yset_d (by decide), yset_d (by decide), yset_s, oo _ 2 17 (by decide)]
  · rw [yset_d (by decide), yset_d (by decide), yset_d (by decide), yset_s]; exact w32c_0
  · rw [yset_d (by decide), yset_d (by decide), yset_s]; exact w32c_0
  · rw [yset_s, oo _ 2 18 (by decide)]
  · rw [oo _ 58 j (by decide), o4 58 j (by decide) (by decide), t58 j hj, oo _ 3 1 (by decide), o5 3 1 (by decide), oo _ 12 j (by decide), o5 12 j (by decide)]
    split
    · rfl
    · exact w32c_0
  · rw [oo _ 59 j (by decide), o4 59 j (by decide) (by decide), c1 59 j (by decide) (by decide), V3 j hj]; exact w32c_0
  · rw [oo _ 60 j (by decide), o4 60 j (by decide) (by decide), t60 j hj, oo _ 9 1 (by decide), o5 9 1 (by decide), oo _ 21 j (by decide), o5 21 j (by decide)]
    split
    · rfl
    · exact w32c_0
  · rw [oo _ 61 j (by decide), V4 j hj]; exact w32c_m1
def XWQ (mem : yMem) (x : Int) (m : yMem) : Prop := ((¬ (0 ≤ w32 x ∧ w32 x ≤ w32 (mem 0 11)) ∨ ¬ w32 (m 0 12) = 0) → ∀ i j, (57 ≤ i ∧ i ≤ 71) ∨ (i = 0 ∧ j = 14) → m i j = mem i j) ∧ ((0 ≤ w32 x ∧ w32 x ≤ w32 (mem 0 11)) → w32 (m 0 12) = 0 → cBg m ∧ (∀ i j, 62 ≤ i → i ≤ 70 → m i j = mem i j) ∧ w32 (m 0 14) = 0 ∧ w32 (m 71 1) = 0)
theorem wno {w : List (Nat × Nat)} (h : w.all (fun q => Nat.ble 2 q.1 && Nat.ble q.1 26) = true) {i j : Nat} (hi : i < 2 ∨ 26 < i) : amod w i j = false := by
  cases hm : amod w i j with
  | false => rfl
  | true =>
    obtain ⟨q, q1, q2, q3⟩ := amod_ex hm
    have h2 := List.all_eq_true.mp h q q1
    rw [q2] at h2
    simp only [Bool.and_eq_true, Nat.ble_eq] at h2
    omega
theorem x_wtext (hE : yEok E) (hm : yman Om) {D : Nat} (hD : 10 ≤ D) {x : Int} (hG : aGok mem) (hO : Om mem) (hQ : ∀ r m, XWQ mem x m → Q (some (0, r)) m) : yCon E D xm_41 [(1, 0), (0, x)] mem Q := by
  obtain ⟨d, rfl⟩ := Nat.exists_eq_add_of_le' hD
  refine e_41 ?_
  refine zvc_ok hE 90 zc_41 _ _ _ _ _ _ _ xmo_41 ?_
  have g11 := ag hG 0 11 ag_0_11
  have f12 : ¬ (0 ≤ w32 x ∧ w32 x ≤ w32 (mem 0 11)) → zG E (d + 9) xm_41 12 [some (1, 0), some (0, x), none] [] mem Q := fun hx => by
    refine zgo_ok (n := 60) hE xmo_41 (cs := zc_41) ?_
    simp only [ynok_30, ynok_31, w32c_0, w32c_1, w32c_2, w32c_3, w32c_4, w32c_5, w32c_6, w32c_7, w32c_8, w32c_9, w32c_10, w32c_11, w32c_12, w32c_13, w32c_14, w32c_m1, w32c_m2, w32c_118, Int.reduceAdd, Int.reduceSub, Int.reduceMul, yput_s, yput_n, znl_n, znl_0, znl_1, znl_4, ysum_n, ysum_0, ysum_1, ysum_4, true_and, and_true, Nat.reduceAdd, Nat.reduceLeDiff, true_implies, eq_self, true_or, or_true, or_false, false_or, not_true_eq_false, not_false_eq_true, false_implies, implies_true, yset_s, yset_o, yset_d, ne_eq, Nat.reduceEqDiff, Int.reduceToNat, Int.reduceEq, Int.reduceLE, Int.reduceLT, Classical.not_not, Nat.reduceLT, ↓zvk_s, ↓zvk_n, ↓s_41_0, ↓s_41_1, ↓s_41_4, ↓s_41_5, ↓s_41_6, ↓s_41_9, ↓g_41_12, ↓k_41_12, ↓s_41_14, ↓g_41_15, ↓k_41_15, ↓s_41_16, ↓s_41_19, ↓s_41_20, ↓s_41_23n, ↓s_41_23i, ↓s_41_23p, ↓s_41_24, ↓s_41_25, ↓s_41_26, ↓s_41_29, ↓s_41_30, ↓s_41_31, ↓s_41_34, ↓s_41_37, ↓s_41_40, ↓s_41_43, ↓s_41_44, ↓s_41_45, ↓s_41_48, ↓s_41_51, ↓s_41_54, ↓s_41_57, ↓s_41_58, ↓s_41_61, ↓s_41_64, ↓s_41_65, ↓s_41_66, ↓s_41_67, ↓s_41_70, ↓s_41_71, ↓s_41_74, ↓s_41_77, ↓s_41_78, ↓s_41_81, ↓s_41_82, ↓s_41_85, ↓s_41_88, ↓s_41_89, ↓s_41_92, ↓s_41_93, ↓s_41_96, ↓s_41_97, ↓s_41_98, ↓s_41_101, ↓s_41_102, ↓s_41_105, ↓s_41_106, ↓s_41_109, ↓s_41_110, zio_0, zio_64, zio_2, zio_71, zio_76, zio_54, zio_55, zio_57, zio_28]
    exact hQ _ _ ⟨fun _ _ _ _ => rfl, fun z => absurd z hx⟩
  have f15 : 0 ≤ w32 x → w32 x ≤ w32 (mem 0 11) → zG E (d + 9) xm_41 15 [some (1, 0), some (0, x), none] [] mem Q := fun x0 x1 => by
    refine zgo_ok (n := 60) hE xmo_41 (cs := zc_41) ?_
    simp only [ynok_30, ynok_31, w32c_0, w32c_1, w32c_2, w32c_3, w32c_4, w32c_5, w32c_6, w32c_7, w32c_8, w32c_9, w32c_10, w32c_11, w32c_12, w32c_13, w32c_14, w32c_m1, w32c_m2, w32c_118, Int.reduceAdd, Int.reduceSub, Int.reduceMul, yput_s, yput_n, znl_n, znl_0, znl_1, znl_4, ysum_n, ysum_0, ysum_1, ysum_4, true_and, and_true, Nat.reduceAdd, Nat.reduceLeDiff, true_implies, eq_self, true_or, or_true, or_false, false_or, not_true_eq_false, not_false_eq_true, false_implies, implies_true, yset_s, yset_o, yset_d, ne_eq, Nat.reduceEqDiff, Int.reduceToNat, Int.reduceEq, Int.reduceLE, Int.reduceLT, Classical.not_not, Nat.reduceLT, ↓zvk_s, ↓zvk_n, ↓s_41_0, ↓s_41_1, ↓s_41_4, ↓s_41_5, ↓s_41_6, ↓s_41_9, ↓g_41_12, ↓k_41_12, ↓s_41_14, ↓g_41_15, ↓k_41_15, ↓s_41_16, ↓s_41_19, ↓s_41_20, ↓s_41_23n, ↓s_41_23i, ↓s_41_23p, ↓s_41_24, ↓s_41_25, ↓s_41_26, ↓s_41_29, ↓s_41_30, ↓s_41_31, ↓s_41_34, ↓s_41_37, ↓s_41_40, ↓s_41_43, ↓s_41_44, ↓s_41_45, ↓s_41_48, ↓s_41_51, ↓s_41_54, ↓s_41_57, ↓s_41_58, ↓s_41_61, ↓s_41_64, ↓s_41_65, ↓s_41_66, ↓s_41_67, ↓s_41_70, ↓s_41_71, ↓s_41_74, ↓s_41_77, ↓s_41_78, ↓s_41_81, ↓s_41_82, ↓s_41_85, ↓s_41_88, ↓s_41_89, ↓s_41_92, ↓s_41_93, ↓s_41_96, ↓s_41_97, ↓s_41_98, ↓s_41_101, ↓s_41_102, ↓s_41_105, ↓s_41_106, ↓s_41_109, ↓s_41_110, zio_0, zio_64, zio_2, zio_71, zio_76, zio_54, zio_55, zio_57, zio_28]
    refine as_153 yoc_Om hm E hE _ (show 8 ≤ _ by omega) _ rfl _ _ _ ⟨rfl, ⟨rfl, x0, by show w32 x ≤ 800; omega⟩, trivial⟩ hG hO (fun q hq => by cases hq) (fun r m1 he => ?_)
    have R1 := CQ_of he (by decide +kernel)
    have fr1 : ∀ i j, (57 ≤ i ∧ i ≤ 71) ∨ (i = 0 ∧ j = 14) → m1 i j = mem i j := fun i j h => by
      by_cases e : i = 57 ∧ j = 11
      · obtain ⟨rfl, rfl⟩ := e
        exact he.2.2.2.1 57 11 rfl
      · exact he.2.2.2.1 i j (tp3_ok (by decide +kernel) (by unfold tpP; omega))
    obtain ⟨k1, -⟩ := he
    match r, k1 with
    | none, k1 => exact absurd (show (3 : Nat) = 99 from k1) (by decide)
    | some (t, y), k1 =>
      have ht : t = 0 := k1.1
      subst ht
      refine zgk_s hE xmo_41 60 zc_41 ?_
      simp only [ynok_30, ynok_31, w32c_0, w32c_1, w32c_2, w32c_3, w32c_4, w32c_5, w32c_6, w32c_7, w32c_8, w32c_9, w32c_10, w32c_11, w32c_12, w32c_13, w32c_14, w32c_m1, w32c_m2, w32c_118, Int.reduceAdd, Int.reduceSub, Int.reduceMul, yput_s, yput_n, znl_n, znl_0, znl_1, znl_4, ysum_n, ysum_0, ysum_1, ysum_4, true_and, and_true, Nat.reduceAdd, Nat.reduceLeDiff, true_implies, eq_self, true_or, or_true, or_false, false_or, not_true_eq_false, not_false_eq_true, false_implies, implies_true, yset_s, yset_o, yset_d, ne_eq, Nat.reduceEqDiff, Int.reduceToNat, Int.reduceEq, Int.reduceLE, Int.reduceLT, Classical.not_not, Nat.reduceLT, ↓zvk_s, ↓zvk_n, ↓s_41_0, ↓s_41_1, ↓s_41_4, ↓s_41_5, ↓s_41_6, ↓s_41_9, ↓g_41_12, ↓k_41_12, ↓s_41_14, ↓g_41_15, ↓k_41_15, ↓s_41_16, ↓s_41_19, ↓s_41_20, ↓s_41_23n, ↓s_41_23i, ↓s_41_23p, ↓s_41_24, ↓s_41_25, ↓s_41_26, ↓s_41_29, ↓s_41_30, ↓s_41_31, ↓s_41_34, ↓s_41_37, ↓s_41_40, ↓s_41_43, ↓s_41_44, ↓s_41_45, ↓s_41_48, ↓s_41_51, ↓s_41_54, ↓s_41_57, ↓s_41_58, ↓s_41_61, ↓s_41_64, ↓s_41_65, ↓s_41_66, ↓s_41_67, ↓s_41_70, ↓s_41_71, ↓s_41_74, ↓s_41_77, ↓s_41_78, ↓s_41_81, ↓s_41_82, ↓s_41_85, ↓s_41_88, ↓s_41_89, ↓s_41_92, ↓s_41_93, ↓s_41_96, ↓s_41_97, ↓s_41_98, ↓s_41_101, ↓s_41_102, ↓s_41_105, ↓s_41_106, ↓s_41_109, ↓s_41_110, zio_0, zio_64, zio_2, zio_71, zio_76, zio_54, zio_55, zio_57, zio_28]
      have a1 : aGok (yset m1 0 11 0) := aGok_set R1.1 (by rw [ag_0_11]; decide)
      have o1 : Om (yset m1 0 11 0) := yoc_Om m1 _ (fun i j hi => yset_o (fun e => by subst e; exact absurd hi (by decide))) R1.2.1
      have S1 := CQ_set a1 o1 (i := 0) (j := 12) (x := m1 55 7) (by decide) (by decide) (ag_32 ag_0_12)
      have S2 := CQ_tr S1 (CQ_set S1.1 S1.2.1 (i := 0) (j := 13) (x := m1 55 8) (by decide) (by decide) (ag_32 ag_0_13))
      have fr2 : ∀ i j, (57 ≤ i ∧ i ≤ 71) ∨ (i = 0 ∧ j = 14) → yset (yset (yset m1 0 11 0) 0 12 (m1 55 7)) 0 13 (m1 55 8) i j = mem i j := fun i j h => by
        rcases h with h | ⟨rfl, rfl⟩
        · rw [yset_o (by omega), yset_o (by omega), yset_o (by omega)]
          exact fr1 i j (Or.inl h)
        · rw [yset_d (by decide), yset_d (by decide), yset_d (by decide)]
          exact fr1 0 14 (Or.inr ⟨rfl, rfl⟩)
      have v12 : yset (yset (yset m1 0 11 0) 0 12 (m1 55 7)) 0 13 (m1 55 8) 0 12 = m1 55 7 := by rw [yset_d (by decide), yset_s]
      refine ⟨fun h7 => ?_, fun h7 => hQ _ _ ⟨fun _ => fr2, fun _ z => absurd (by rw [v12] at z; exact z) h7⟩⟩
      refine abs_take yoc_Om hm E hE _ (show 2 ≤ _ by omega) _ rfl _ _ _ ⟨rfl, rfl, trivial⟩ S2.1 S2.2.1 (fun q hq => by cases hq) (fun r m2 he => ?_)
      have R2 := CQ_of he (by decide +kernel)
      have fr3 : ∀ i j, i < 2 ∨ 26 < i → m2 i j = yset (yset (yset m1 0 11 0) 0 12 (m1 55 7)) 0 13 (m1 55 8) i j := fun i j h => he.2.2.2.1 i j (wno (by decide +kernel) h)
      obtain ⟨k1, -⟩ := he
      match r, k1 with
      | some y, k1 => exact absurd k1 (fun h => by cases h)
      | none, _ =>
        refine zgk_n hE xmo_41 60 zc_41 ?_
        simp only [ynok_30, ynok_31, w32c_0, w32c_1, w32c_2, w32c_3, w32c_4, w32c_5, w32c_6, w32c_7, w32c_8, w32c_9, w32c_10, w32c_11, w32c_12, w32c_13, w32c_14, w32c_m1, w32c_m2, w32c_118, Int.reduceAdd, Int.reduceSub, Int.reduceMul, yput_s, yput_n, znl_n, znl_0, znl_1, znl_4, ysum_n, ysum_0, ysum_1, ysum_4, true_and, and_true, Nat.reduceAdd, Nat.reduceLeDiff, true_implies, eq_self, true_or, or_true, or_false, false_or, not_true_eq_false, not_false_eq_true, false_implies, implies_true, yset_s, yset_o, yset_d, ne_eq, Nat.reduceEqDiff, Int.reduceToNat, Int.reduceEq, Int.reduceLE, Int.reduceLT, Classical.not_not, Nat.reduceLT, ↓zvk_s, ↓zvk_n, ↓s_41_0, ↓s_41_1, ↓s_41_4, ↓s_41_5, ↓s_41_6, ↓s_41_9, ↓g_41_12, ↓k_41_12, ↓s_41_14, ↓g_41_15, ↓k_41_15, ↓s_41_16, ↓s_41_19, ↓s_41_20, ↓s_41_23n, ↓s_41_23i, ↓s_41_23p, ↓s_41_24, ↓s_41_25, ↓s_41_26, ↓s_41_29, ↓s_41_30, ↓s_41_31, ↓s_41_34, ↓s_41_37, ↓s_41_40, ↓s_41_43, ↓s_41_44, ↓s_41_45, ↓s_41_48, ↓s_41_51, ↓s_41_54, ↓s_41_57, ↓s_41_58, ↓s_41_61, ↓s_41_64, ↓s_41_65, ↓s_41_66, ↓s_41_67, ↓s_41_70, ↓s_41_71, ↓s_41_74, ↓s_41_77, ↓s_41_78, ↓s_41_81, ↓s_41_82, ↓s_41_85, ↓s_41_88, ↓s_41_89, ↓s_41_92, ↓s_41_93, ↓s_41_96, ↓s_41_97, ↓s_41_98, ↓s_41_101, ↓s_41_102, ↓s_41_105, ↓s_41_106, ↓s_41_109, ↓s_41_110, zio_0, zio_64, zio_2, zio_71, zio_76, zio_54, zio_55, zio_57, zio_28]
        refine gx_begin hE (by omega) (ag R2.1 3 1 ag_3_1) (ag R2.1 9 1 ag_9_1) (fun m3 F3 B3 => ?_)
        refine zgk_n hE xmo_41 60 zc_41 ?_
        simp only [ynok_30, ynok_31, w32c_0, w32c_1, w32c_2, w32c_3, w32c_4, w32c_5, w32c_6, w32c_7, w32c_8, w32c_9, w32c_10, w32c_11, w32c_12, w32c_13, w32c_14, w32c_m1, w32c_m2, w32c_118, Int.reduceAdd, Int.reduceSub, Int.reduceMul, yput_s, yput_n, znl_n, znl_0, znl_1, znl_4, ysum_n, ysum_0, ysum_1, ysum_4, true_and, and_true, Nat.reduceAdd, Nat.reduceLeDiff, true_implies, eq_self, true_or, or_true, or_false, false_or, not_true_eq_false, not_false_eq_true, false_implies, implies_true, yset_s, yset_o, yset_d, ne_eq, Nat.reduceEqDiff, Int.reduceToNat, Int.reduceEq, Int.reduceLE, Int.reduceLT, Classical.not_not, Nat.reduceLT, ↓zvk_s, ↓zvk_n, ↓s_41_0, ↓s_41_1, ↓s_41_4, ↓s_41_5, ↓s_41_6, ↓s_41_9, ↓g_41_12, ↓k_41_12, ↓s_41_14, ↓g_41_15, ↓k_41_15, ↓s_41_16, ↓s_41_19, ↓s_41_20, ↓s_41_23n, ↓s_41_23i, ↓s_41_23p, ↓s_41_24, ↓s_41_25, ↓s_41_26, ↓s_41_29, ↓s_41_30, ↓s_41_31, ↓s_41_34, ↓s_41_37, ↓s_41_40, ↓s_41_43, ↓s_41_44, ↓s_41_45, ↓s_41_48, ↓s_41_51, ↓s_41_54, ↓s_41_57, ↓s_41_58, ↓s_41_61, ↓s_41_64, ↓s_41_65, ↓s_41_66, ↓s_41_67, ↓s_41_70, ↓s_41_71, ↓s_41_74, ↓s_41_77, ↓s_41_78, ↓s_41_81, ↓s_41_82, ↓s_41_85, ↓s_41_88, ↓s_41_89, ↓s_41_92, ↓s_41_93, ↓s_41_96, ↓s_41_97, ↓s_41_98, ↓s_41_101, ↓s_41_102, ↓s_41_105, ↓s_41_106, ↓s_41_109, ↓s_41_110, zio_0, zio_64, zio_2, zio_71, zio_76, zio_54, zio_55, zio_57, zio_28]
        have up : ∀ i j, ¬ (i = 71 ∧ j = 1) → ¬ (i = 0 ∧ j = 14) → ¬ (i = 76 ∧ j = 10) → yset (yset (yset m3 71 1 0) 0 14 0) 76 10 0 i j = m3 i j := fun i j h1 h2 h3 => by
          simp only [yset_a]
          repeat' split
          all_goals first | rfl | omega
        have e12 : w32 (yset (yset (yset m3 71 1 0) 0 14 0) 76 10 0 0 12) = 0 := by rw [up 0 12 (by omega) (by omega) (by omega), F3 0 12 (by omega), fr3 0 12 (by omega), v12]; exact h7
        refine hQ _ _ ⟨fun z => z.elim (fun z => absurd ⟨x0, x1⟩ z) (fun z => absurd e12 z), fun _ _ => ⟨cBg_q B3 (fun i j hi hr => ?_), fun i j i1 i2 => ?_, ?_, ?_⟩⟩
        · rw [up i j (by omega) (by omega) (by omega)]
        · rw [up i j (by omega) (by omega) (by omega), F3 i j (by omega), fr3 i j (by omega)]
          exact fr2 i j (by omega)
        · rw [yset_o (by decide), yset_s]; exact w32c_0
        · rw [yset_o (by decide), yset_o (by decide), yset_s]; exact w32c_0
  simp only [ynok_30, ynok_31, w32c_0, w32c_1, w32c_2, w32c_3, w32c_4, w32c_5, w32c_6, w32c_7, w32c_8, w32c_9, w32c_10, w32c_11, w32c_12, w32c_13, w32c_14, w32c_m1, w32c_m2, w32c_118, Int.reduceAdd, Int.reduceSub, Int.reduceMul, yput_s, yput_n, znl_n, znl_0, znl_1, znl_4, ysum_n, ysum_0, ysum_1, ysum_4, true_and, and_true, Nat.reduceAdd, Nat.reduceLeDiff, true_implies, eq_self, true_or, or_true, or_false, false_or, not_true_eq_false, not_false_eq_true, false_implies, implies_true, yset_s, yset_o, yset_d, ne_eq, Nat.reduceEqDiff, Int.reduceToNat, Int.reduceEq, Int.reduceLE, Int.reduceLT, Classical.not_not, Nat.reduceLT, ↓zvk_s, ↓zvk_n, ↓s_41_0, ↓s_41_1, ↓s_41_4, ↓s_41_5, ↓s_41_6, ↓s_41_9, ↓g_41_12, ↓k_41_12, ↓s_41_14, ↓g_41_15, ↓k_41_15, ↓s_41_16, ↓s_41_19, ↓s_41_20, ↓s_41_23n, ↓s_41_23i, ↓s_41_23p, ↓s_41_24, ↓s_41_25, ↓s_41_26, ↓s_41_29, ↓s_41_30, ↓s_41_31, ↓s_41_34, ↓s_41_37, ↓s_41_40, ↓s_41_43, ↓s_41_44, ↓s_41_45, ↓s_41_48, ↓s_41_51, ↓s_41_54, ↓s_41_57, ↓s_41_58, ↓s_41_61, ↓s_41_64, ↓s_41_65, ↓s_41_66, ↓s_41_67, ↓s_41_70, ↓s_41_71, ↓s_41_74, ↓s_41_77, ↓s_41_78, ↓s_41_81, ↓s_41_82, ↓s_41_85, ↓s_41_88, ↓s_41_89, ↓s_41_92, ↓s_41_93, ↓s_41_96, ↓s_41_97, ↓s_41_98, ↓s_41_101, ↓s_41_102, ↓s_41_105, ↓s_41_106, ↓s_41_109, ↓s_41_110, zio_0, zio_64, zio_2, zio_71, zio_76, zio_54, zio_55, zio_57, zio_28]
  repeat' first | exact f12 (by omega) | exact f15 (by omega) (by omega) | omega | refine And.intro ?_ ?_ | intro _
end XW
end
section
/-! WHAT STANDS BETWEEN CALLS: both objects, alike -/
/-- both keep the same FAULT -/
def LIf (mem : yMem) : Prop := w32 (mem 0 12) = w32 (mem 95 33) ∧ w32 (mem 0 13) = w32 (mem 95 34)
def LI (k : Nat) (mem : yMem) : Prop := aGok mem ∧ Om mem ∧ w32 (mem 0 11) = w32 (mem 95 2) ∧ (∀ j, w32 (mem 1 j) = sBs (w32 (mem 96 j))) ∧ cWd mem ∧ LIf mem ∧ LIw k mem
/-- a call that touches none of it -/
theorem LI_fr {k l : Nat} {mem m : yMem} (hk : k ≤ l) (hI : LI k mem) (hG : aGok m) (hO : Om m) (hf : ∀ i j, tpP i j → m i j = mem i j) : LI l m := by
  obtain ⟨_, _, a3, a4, a5, ⟨a6, a7⟩, a8⟩ := hI
  exact ⟨hG, hO, by rw [hf 0 11 (by unfold tpP; omega), hf 95 2 (by unfold tpP; omega)]; exact a3, fun j => by rw [hf 1 j (Or.inl rfl), hf 96 j (by unfold tpP; omega)]; exact a4 j, fun i hi => by rw [hf 56 i (Or.inr (Or.inl rfl))]; exact a5 i hi, ⟨by rw [hf 0 12 (by unfold tpP; omega), hf 95 33 (by unfold tpP; omega)]; exact a6, by rw [hf 0 13 (by unfold tpP; omega), hf 95 34 (by unfold tpP; omega)]; exact a7⟩, LIw_fr hk a8 (fun i j h => hf i j (tpW_P h))⟩
theorem LI_le {k l : Nat} {mem : yMem} (hk : k ≤ l) (hI : LI k mem) : LI l mem := LI_fr hk hI hI.1 hI.2.1 (fun _ _ _ => rfl)
theorem LI_R {k l : Nat} {mem m : yMem} (hk : k ≤ l) (hI : LI k mem) (h : RQn mem m) : LI l m := LI_fr hk hI h.1 h.2.1 (fun i j hij => by
  by_cases e : i = 95
  · subst e
    exact h.2.2.2 j (by unfold tpP at hij; omega)
  · exact h.2.2.1 i j (by unfold tpP at hij; omega))
theorem LI_a {k l : Nat} {w : List (Nat × Nat)} {mem m : yMem} (hk : k ≤ l) (hI : LI k mem) (hG : aGok m) (hO : Om m) (hF : aFrm w mem m) (hw : tp3 w = true) : LI l m := LI_fr hk hI hG hO (fun i j hij => hF i j (tp3_ok hw hij))
def lav (X : Nat → Int) : Nat → Nat → List yV
  | 0, _ => []
  | n + 1, k => (0, X k) :: lav X n (k + 1)
/-- a call of both: alike answers, LI stays -/
def LX (E : yE) (n : Nat) (M1 M2 : xM) (t : Nat) : Prop := ∀ (X : Nat → Int) (k : Nat) (mem : yMem), k ≤ 3100 → LI k mem → yCon E 1000 M1 ((1, ((0 : Nat) : Int)) :: lav X n 1) mem (fun r mem1 => ∃ x, r = some (t, x) ∧ yCon E 1000 M2 ((1, ((95 : Nat) : Int)) :: lav X n 1) mem1 (fun r2 mem2 => ∃ y, r2 = some (t, y) ∧ (t = 0 → w32 x = w32 y) ∧ (t = 4 → w64 x = w64 y) ∧ LI (k + 6) mem2))
theorem lx_e0 {x y : Int} {P : Prop} (h : w32 x = w32 y) (hp : P) : ((0 : Nat) = 0 → w32 x = w32 y) ∧ ((0 : Nat) = 4 → w64 x = w64 y) ∧ P := ⟨fun _ => h, fun z => absurd z (by decide), hp⟩
/-- feed: both tapes stay alike -/
theorem LI_feed {k l : Nat} (hk : k ≤ l) {mem m1 m2 : yMem} {g : Nat → Int} {r1 r2 : Int} (hI : LI k mem) (F1 : FxX mem g r1 m1) (F2 : FrX m1 g r2 m2) : LI l m2 ∧ w32 r1 = w32 r2 := by
  obtain ⟨hG, hO, hT, hB, hW, ⟨hf1, hf2⟩, hId⟩ := hI
  obtain ⟨⟨a1, a2, a3⟩, a4, a5, a6⟩ := F1
  obtain ⟨⟨b1, b2, b3⟩, b5, b6, b7⟩ := F2
  have e95 : m1 95 2 = mem 95 2 := a2 95 2 (by decide)
  have e0 : m2 0 11 = m1 0 11 := b2 0 11 (by decide) (by decide)
  have e96 : ∀ j, m1 96 j = mem 96 j := fun j => a2 96 j (by decide)
  have e1 : ∀ j, m2 1 j = m1 1 j := fun j => b2 1 j (by decide) (by decide)
  have g0 : 0 ≤ w32 (mem 0 11) := (ag hG 0 11 ag_0_11).1
  rw [e95, ← hT] at b3 b5 b6
  have key : w32 r1 = w32 r2 ∧ w32 (m1 0 11) = w32 (m2 95 2) := by
    by_cases h7 : w32 (mem 0 11) ≤ 780
    · rw [if_pos h7] at a3 b3
      omega
    · rw [if_neg h7] at a3 b3
      omega
  have fr : ∀ i j, tpW i j → m2 i j = mem i j := fun i j h => by
    by_cases e : i = 95
    · subst e
      rw [b7 j (by unfold tpW at h; omega) (by unfold tpW at h; omega), a2 95 j (by decide)]
    · rw [b2 i j e (by unfold tpW at h; omega)]
      by_cases e2 : 95 ≤ i
      · rw [a2 i j e2]
      · exact a4 i j (by unfold tpW at h; omega) (by unfold tpW at h; omega)
  refine ⟨⟨b1, yoc_Om mem m2 (fun i j hi => ?_) hO, by rw [e0]; exact key.2, fun j => ?_, fun i hi => ?_, ⟨?_, ?_⟩, LIw_fr hk hId fr⟩, key.1⟩
  · have hy : ∀ k ∈ yoc, 97 ≤ k := by decide
    have := hy i hi
    rw [b2 i j (by omega) (by omega), a2 i j (by omega)]
  · rw [e1]
    by_cases h7 : w32 (mem 0 11) ≤ 780
    · obtain ⟨p1, p2⟩ := a5 h7
      obtain ⟨q1, q2⟩ := b5 h7
      by_cases hj : j < (w32 (mem 0 11)).toNat ∨ (w32 (mem 0 11)).toNat + 20 ≤ j
      · rw [p1 j hj, q1 j hj, e96]
        exact hB j
      · have ej : j = (w32 (mem 0 11)).toNat + (j - (w32 (mem 0 11)).toNat) := by omega
        rw [ej, p2 _ (by omega), q2 _ (by omega)]
    · rw [a6 h7, b6 h7, e96]
      exact hB j
  · rw [b2 56 i (by decide) (by decide), a4 56 i (by decide) (Or.inl (by decide))]
    exact hW i hi
  · rw [b2 0 12 (by decide) (by decide), a4 0 12 (by decide) (Or.inr (by decide)), b7 33 (by decide) (by decide), a2 95 33 (by decide)]
    exact hf1
  · rw [b2 0 13 (by decide) (by decide), a4 0 13 (by decide) (Or.inr (by decide)), b7 34 (by decide) (by decide), a2 95 34 (by decide)]
    exact hf2
theorem lx_feed {E : yE} (hE : yEok E) : LX E 5 xm_14 xm_167 0 := fun X k mem _ hI => x_feed hE (by decide) hI.1 (fun r m1 F1 => ⟨r, rfl, rx_feed hE (by decide) F1.1.1 (fun r2 m2 F2 => ⟨r2, rfl, lx_e0 (LI_feed (Nat.le_add_right k 6) hI F1 F2).2 (LI_feed (Nat.le_add_right k 6) hI F1 F2).1⟩)⟩)
theorem zhf_L : ∀ i, i < 118 → 97 ≤ i → zhf.getD (i - 97) 0 ≤ [800, 14, 6, 6, 6, 12, 12, 12, 12, 12, 12, 12, 8, 8, 24, 192, 6, 6, 10, 10, 128, 128].getD (i - 96) 0 := by decide +kernel
/-- text -/
theorem lx_text {E : yE} (hE : yEok E) (hm : yman Om) : LX E 1 xm_41 xm_242 0 := fun X k mem _ hI => by
  obtain ⟨hG, hO, hT, hB, hW, ⟨hf1, hf2⟩, Dd, W, V, ⟨d1, d2, d3⟩, ⟨w1, w2, w3⟩, ⟨v1, v2, v3⟩, hkp, hhm⟩ := hI
  have g96 : ∀ j, 0 ≤ w32 (mem 96 j) ∧ w32 (mem 96 j) ≤ 255 := fun j => agA hG 96 j ae_96
  have X1 : yCon E 1000 xm_41 [(1, 0), (0, X 1)] mem (fun r m => ∃ y, r = some (0, y) ∧ XTQ mem (X 1) m ∧ TP mem m ∧ tRs (fun j => w32 (mem 96 j)) (w32 (mem 0 11)) (w32 (X 1)) (w32 y) (w32 (mem 0 12), w32 (mem 0 13)) (w32 (m 0 12), w32 (m 0 13)) (hyS mem m) (fun X D => (yOk X → cDh m D) ∧ (¬ yOk X → hyS mem m ∧ ¬ w32 (m 0 12) = 0))) := g_xtext hE hm (by decide) (ch := fun j => w32 (mem 96 j)) hG hO (fun j => ⟨hB j, g96 j⟩) hW (fun r1 m1 T1 P1 A1 => ⟨r1, rfl, T1, P1, A1⟩)
  have X2 : yCon E 1000 xm_41 [(1, 0), (0, X 1)] mem (fun r m => XWQ mem (X 1) m) := x_wtext hE hm (by decide) hG hO (fun r m h => h)
  refine yCon_mono (yCon_and X1 X2) (fun r1 m1 hm1 => ?_)
  obtain ⟨⟨y1, rfl, T1, P1, A1⟩, r1', n1, XW, al1, _⟩ := hm1
  refine ⟨y1, rfl, ?_⟩
  have e96 : ∀ j, m1 96 j = mem 96 j := fun j => T1.2.2.1 96 j (by decide)
  have e95 : ∀ j, m1 95 j = mem 95 j := fun j => T1.2.2.1 95 j (by decide)
  have C1 : yCon E 1000 xm_242 [(1, 95), (0, X 1)] m1 (fun r m => (∃ y, r = some (0, y)) ∧ TxQ m1 (X 1) m) := c_text hE (by decide) T1.1 T1.2.1 (fun r m h => ⟨⟨r, rfl⟩, h⟩)
  have C2 : yCon E 1000 xm_242 [(1, 95), (0, X 1)] m1 (fun r m => ∃ y, r = some (0, y) ∧ tRs (fun j => w32 (mem 96 j)) (w32 (m1 95 2)) (w32 (X 1)) (w32 y) (w32 (m1 95 33), w32 (m1 95 34)) (w32 (m 95 33), w32 (m 95 34)) (lwW m1 m) (fun X D => (yOk X → rDl m D) ∧ (¬ yOk X → lwW m1 m))) := rf_text hE (by decide) T1.1 (fun j => by rw [e96]; exact ⟨rfl, g96 j⟩) (fun r m h => ⟨r, rfl, h⟩)
  refine yCon_mono (yCon_and C1 C2) (fun r m2 hm2 => ?_)
  obtain ⟨⟨⟨y, rfl⟩, T2⟩, r', m3, ⟨y2, rfl, A2⟩, al, er⟩ := hm2
  have ey : w32 y = w32 y2 := ydv_0 er
  rw [e95, e95, e95, ← hT, ← hf1, ← hf2] at A2
  obtain ⟨u1, u2, u3⟩ := tRs_u A1 A2
  have s2 : ∀ c j, tkS c j → w32 (m2 c j) = w32 (m1 c j) := fun c j ht => by rw [T2.2.2.1 c j (Or.inl (by have := tkS_c ht; omega))]
  have l2 : lwW m3 m2 := fun i j n hn i1 i2 hj => al i j (yRl_a (by omega) (by omega) (Nat.lt_of_lt_of_le hj (by rw [← hn]; exact zhf_L i (by omega) i1)))
  have l1 : lwW mem m1 := fun i j n _ i1 _ _ => by rw [T1.2.2.1 i j (by omega)]
  have lo : ∀ i j, i < 95 → m2 i j = m1 i j := fun i j hi => T2.2.2.1 i j (Or.inl hi)
  have v12m : w32 (m1 0 12) = w32 (m2 95 33) := by
    rw [al 95 33 rfl]
    exact congrArg Prod.fst u2
  have v12 : w32 (m2 0 12) = w32 (m2 95 33) := by
    rw [lo 0 12 (by decide)]
    exact v12m
  have v13 : w32 (m2 0 13) = w32 (m2 95 34) := by
    rw [lo 0 13 (by decide), al 95 34 rfl]
    exact congrArg Prod.snd u2
  have n12 : w32 (n1 0 12) = w32 (m2 95 33) := by
    rw [← v12m]
    exact (al1 0 12 rfl).symm
  have tp : w32 (m1 95 2) = w32 (mem 0 11) := by rw [e95, hT]
  obtain ⟨XW1, XW2⟩ := XW
  obtain ⟨TW1, TW2⟩ := T2.2.2.2.2
  rw [tp] at TW1 TW2
  have same : (¬ (0 ≤ w32 (X 1) ∧ w32 (X 1) ≤ w32 (mem 0 11)) ∨ ¬ w32 (m2 95 33) = 0) → hyS mem m1 → lwW m1 m3 → LIw (k + 6) m2 := fun hz p p' => by
    have c1 := XW1 (by rw [n12]; exact hz)
    obtain ⟨t1, t2, t3⟩ := TW1 hz
    have q : ∀ i j, 57 ≤ i → i ≤ 71 → yRl i j = true → w32 (m2 i j) = w32 (mem i j) := fun i j i1 i2 hr => by rw [lo i j (by omega), al1 i j hr, c1 i j (Or.inl ⟨i1, i2⟩)]
    have q14 : w32 (m2 0 14) = w32 (mem 0 14) := by rw [lo 0 14 (by decide), al1 0 14 rfl, c1 0 14 (Or.inr ⟨rfl, rfl⟩)]
    refine ⟨Dd, W, V, ⟨cDh_w d1 (fun c j ht => by rw [s2 c j ht, p c j ht]), rDl_w d2 (lwW_tr (lwW_tr l1 p') l2), d3⟩, ⟨cW_w w1 (fun i j i1 i2 i3 => q i j (by omega) (by omega) (wsl57 i j i1 i2 i3)) (fun j j1 j2 j3 => q 57 j (by decide) (by decide) (wsl57s j j1 j2 j3)), rW_f (by decide) w2 (fun i j i1 i2 => by rw [t1 i j i1 i2, T1.2.2.1 i j (by omega)]), uOk_le w3 (Nat.le_add_right k 6)⟩, ⟨cW_w v1 (fun i j i1 i2 i3 => q i j (by omega) (by omega) (wsl64 i j i1 i2 i3)) (fun j j1 j2 j3 => q 64 j (by decide) (by decide) (wsl64s j j1 j2 j3)), rW_f (by decide) v2 (fun i j i1 i2 => by rw [t1 i j i1 i2, T1.2.2.1 i j (by omega)]), fun z => uOk_le (v3 (by rw [q14] at z; exact z)) (Nat.le_add_right k 6)⟩, by rw [q14, t2, e95]; exact hkp, by rw [q 71 1 (by decide) (by decide) rfl, t3, e95]; exact hhm⟩
  have hId2 : LIw (k + 6) m2 := by
    rcases u3 with ⟨hN, p, p'⟩ | ⟨hN, l, hfk, p, p'⟩
    · exact same (Or.inl hN) p p'
    · by_cases hY : yOk (pTx (l.length + 1) (.inr l) dD0 0).1
      · have h33 : w32 (m2 95 33) = 0 := by
          have := congrArg Prod.fst hfk
          obtain ⟨l', hl'⟩ := hY
          rw [hl'] at this
          rw [← v12m]
          exact this
        obtain ⟨b1, b2, b3, b4⟩ := XW2 hN (by rw [n12]; exact h33)
        obtain ⟨t1, t2, t3⟩ := TW2 hN h33
        have hc := p.1 hY
        have hr := p'.1 hY
        have hdok := pTx_ok (l.length + 1) (.inr l) dD0 0 dOk_0 hY
        revert hc hr hdok
        generalize (pTx (l.length + 1) (.inr l) dD0 0).2.1 = D
        intro hc hr hdok
        have hc2 : cDh m2 D := cDh_w hc s2
        have hr2 : rDl m2 D := rDl_w hr l2
        have q : ∀ i j, i < 95 → yRl i j = true → w32 (m2 i j) = w32 (n1 i j) := fun i j hi hrl => by rw [lo i j hi, al1 i j hrl]
        refine ⟨D, uBg D W, V, ⟨hc2, hr2, hdok⟩, ⟨cBg_W (cBg_q b1 (fun i j hi hr => q i j (by omega) hr)) hc2 (fun j hj => by rw [q 62 j (by decide) ((by decide : ∀ j, j < 12 → yRl 62 j = true) j hj), b2 62 j (by decide) (by decide)]; exact w1.2.2.2.2.1 j hj) (fun j hj => by rw [q 63 j (by decide) ((by decide : ∀ j, j < 12 → yRl 63 j = true) j hj), b2 63 j (by decide) (by decide)]; exact w1.2.2.2.2.2.1 j hj), rBw_W t1 hr2 (fun i j i1 i2 => T1.2.2.1 i j (by omega)) w2, uBg_ok hdok w3.2.2.2.2.2.2.2.1⟩, ⟨cW_w v1 (fun i j i1 i2 i3 => by rw [q i j (by omega) (wsl64 i j i1 i2 i3), b2 i j (by omega) (by omega)]) (fun j j1 j2 j3 => by rw [q 64 j (by decide) (wsl64s j j1 j2 j3), b2 64 j (by decide) (by decide)]), rBw_V t1 (fun i j i1 i2 => T1.2.2.1 i j (by omega)) v2, fun z => absurd (show w32 (m2 0 14) = 0 by rw [q 0 14 (by decide) rfl]; exact b3) z⟩, ?_, ?_⟩
        · rw [q 0 14 (by decide) rfl, b3, t2]
        · rw [q 71 1 (by decide) rfl, b4, t3]
      · exact same (Or.inr (by rw [← v12m]; exact (p.2 hY).2)) (p.2 hY).1 (p'.2 hY)
  refine ⟨y, rfl, lx_e0 (by rw [ey]; exact u1) ⟨T2.1, T2.2.1, ?_, fun j => ?_, fun i hi => ?_, ⟨v12, v13⟩, hId2⟩⟩
  · rw [lo 0 11 (by decide), T2.2.2.2.1, T1.2.2.2, e95, hT]
  · rw [lo 1 j (by decide), T2.2.2.1 96 j (by decide), P1.1, e96]
    exact hB j
  · rw [lo 56 i (by decide), P1.2]
    exact hW i hi
end
section
theorem s_78_0 {E : yE} {n d : Nat} {mem : yMem} {Post : Option yV → yMem → Prop} {st : List yV} {r1 r2 : Option yV} {x : Int} : zvc E (n + 1) [] d xm_78 0 [some (1, x), r1, r2] (st) mem Post = (zvc E n [] d xm_78 1 [some (1, x), r1, r2] ((1, x) :: st) mem Post) := zrf rfl
theorem s_78_1_2 {E : yE} {n d : Nat} {mem : yMem} {Post : Option yV → yMem → Prop} {st : List yV} {r0 r1 r2 : Option yV} : zvc E (n + 1) [] d xm_78 1 [r0, r1, r2] ((1, 2) :: st) mem Post = (zvc E n [] d xm_78 4 [r0, r1, r2] ((1, 7) :: st) mem Post) := zrf rfl
theorem s_78_1_28 {E : yE} {n d : Nat} {mem : yMem} {Post : Option yV → yMem → Prop} {st : List yV} {r0 r1 r2 : Option yV} : zvc E (n + 1) [] d xm_78 1 [r0, r1, r2] ((1, 28) :: st) mem Post = (zvc E n [] d xm_78 4 [r0, r1, r2] ((1, 33) :: st) mem Post) := zrf rfl
theorem s_78_4 {E : yE} {n d : Nat} {mem : yMem} {Post : Option yV → yMem → Prop} {st : List yV} {r0 r2 : Option yV} {x : Int} : zvc E (n + 1) [] d xm_78 4 [r0, some (0, x), r2] (st) mem Post = (zvc E n [] d xm_78 5 [r0, some (0, x), r2] ((0, x) :: st) mem Post) := zrf rfl
theorem s_78_5 {E : yE} {n d : Nat} {mem : yMem} {Post : Option yV → yMem → Prop} {st : List yV} {r0 r1 r2 : Option yV} {z a0 : Int} : zvc E (n + 1) [] (d + 1) xm_78 5 [r0, r1, r2] ((0, a0) :: (1, z) :: st) mem Post = (zio z 6 = true ∧ ysum st ≤ 8 ∧ zvc E n [] d xm_103 0 [some (1, z), some (0, a0)] [] mem (fun v mem' => zvk E n [] (d + 1) xm_78 8 [r0, r1, r2] st v mem' Post)) := zrf rfl
theorem s_78_8 {E : yE} {n d : Nat} {mem : yMem} {Post : Option yV → yMem → Prop} {st : List yV} {r0 r1 r2 : Option yV} {x : Int} : zvc E (n + 1) [] d xm_78 8 [r0, r1, r2] ((0, x) :: st) mem Post = ((w32 x = w32 0 → zvc E n [] d xm_78 29 [r0, r1, r2] (st) mem Post) ∧ (¬ (w32 x = w32 0) → zvc E n [] d xm_78 11 [r0, r1, r2] (st) mem Post)) := zrf rfl
theorem s_78_11 {E : yE} {n d : Nat} {mem : yMem} {Post : Option yV → yMem → Prop} {st : List yV} {r0 r1 : Option yV} {x : Int} : zvc E (n + 1) [] d xm_78 11 [r0, r1, some (0, x)] (st) mem Post = (zvc E n [] d xm_78 12 [r0, r1, some (0, x)] ((0, x) :: st) mem Post) := zrf rfl
theorem s_78_12 {E : yE} {n d : Nat} {mem : yMem} {Post : Option yV → yMem → Prop} {st : List yV} {r0 r1 r2 : Option yV} {x : Int} : zvc E (n + 1) [] d xm_78 12 [r0, r1, r2] ((0, x) :: st) mem Post = ((w32 x < w32 0 → zvc E n [] d xm_78 29 [r0, r1, r2] (st) mem Post) ∧ (¬ (w32 x < w32 0) → zvc E n [] d xm_78 15 [r0, r1, r2] (st) mem Post)) := zrf rfl
theorem s_78_15 {E : yE} {n d : Nat} {mem : yMem} {Post : Option yV → yMem → Prop} {st : List yV} {r0 r1 : Option yV} {x : Int} : zvc E (n + 1) [] d xm_78 15 [r0, r1, some (0, x)] (st) mem Post = (zvc E n [] d xm_78 16 [r0, r1, some (0, x)] ((0, x) :: st) mem Post) := zrf rfl
theorem s_78_16 {E : yE} {n d : Nat} {mem : yMem} {Post : Option yV → yMem → Prop} {st : List yV} {r1 r2 : Option yV} {x : Int} : zvc E (n + 1) [] d xm_78 16 [some (1, x), r1, r2] (st) mem Post = (zvc E n [] d xm_78 17 [some (1, x), r1, r2] ((1, x) :: st) mem Post) := zrf rfl
theorem s_78_17_2 {E : yE} {n d : Nat} {mem : yMem} {Post : Option yV → yMem → Prop} {st : List yV} {r0 r1 r2 : Option yV} : zvc E (n + 1) [] d xm_78 17 [r0, r1, r2] ((1, 2) :: st) mem Post = (zvc E n [] d xm_78 20 [r0, r1, r2] ((1, 18) :: st) mem Post) := zrf rfl
theorem s_78_17_28 {E : yE} {n d : Nat} {mem : yMem} {Post : Option yV → yMem → Prop} {st : List yV} {r0 r1 r2 : Option yV} : zvc E (n + 1) [] d xm_78 17 [r0, r1, r2] ((1, 28) :: st) mem Post = (zvc E n [] d xm_78 20 [r0, r1, r2] ((1, 44) :: st) mem Post) := zrf rfl
theorem s_78_20 {E : yE} {n d : Nat} {mem : yMem} {Post : Option yV → yMem → Prop} {st : List yV} {r0 r2 : Option yV} {x : Int} : zvc E (n + 1) [] d xm_78 20 [r0, some (0, x), r2] (st) mem Post = (zvc E n [] d xm_78 21 [r0, some (0, x), r2] ((0, x) :: st) mem Post) := zrf rfl
theorem s_78_21 {E : yE} {n d : Nat} {mem : yMem} {Post : Option yV → yMem → Prop} {st : List yV} {r0 r1 r2 : Option yV} {z j : Int} : zvc E (n + 1) [] d xm_78 21 [r0, r1, r2] ((0, j) :: (1, z) :: st) mem Post = ((0 ≤ w32 j ∧ w32 j < ((zar z 0 : Nat) : Int)) ∧ zvc E n [] d xm_78 22 [r0, r1, r2] ((0, mem z.toNat (w32 j).toNat) :: st) mem Post) := zrf rfl
theorem s_78_22 {E : yE} {n d : Nat} {mem : yMem} {Post : Option yV → yMem → Prop} {st : List yV} {r0 r1 r2 : Option yV} {x y : Int} : zvc E (n + 1) [] d xm_78 22 [r0, r1, r2] ((0, y) :: (0, x) :: st) mem Post = ((w32 y ≤ w32 x → zvc E n [] d xm_78 29 [r0, r1, r2] (st) mem Post) ∧ (¬ (w32 y ≤ w32 x) → zvc E n [] d xm_78 25 [r0, r1, r2] (st) mem Post)) := zrf rfl
theorem s_78_25 {E : yE} {n d : Nat} {mem : yMem} {Post : Option yV → yMem → Prop} {st : List yV} {r0 r1 r2 : Option yV} : zvc E (n + 1) [] d xm_78 25 [r0, r1, r2] (st) mem Post = (zvc E n [] d xm_78 26 [r0, r1, r2] ((0, 1) :: st) mem Post) := zrf rfl
theorem s_78_26 {E : yE} {n d : Nat} {mem : yMem} {Post : Option yV → yMem → Prop} {st : List yV} {r0 r1 r2 : Option yV} : zvc E (n + 1) [] d xm_78 26 [r0, r1, r2] (st) mem Post = (zvc E n [] d xm_78 30 [r0, r1, r2] (st) mem Post) := zrf rfl
theorem s_78_29 {E : yE} {n d : Nat} {mem : yMem} {Post : Option yV → yMem → Prop} {st : List yV} {r0 r1 r2 : Option yV} : zvc E (n + 1) [] d xm_78 29 [r0, r1, r2] (st) mem Post = (zvc E n [] d xm_78 30 [r0, r1, r2] ((0, 0) :: st) mem Post) := zrf rfl
theorem s_78_30 {E : yE} {n d : Nat} {mem : yMem} {Post : Option yV → yMem → Prop} {r0 r1 r2 : Option yV} {x : Int} : zvc E (n + 1) [] d xm_78 30 [r0, r1, r2] ([(0, x)]) mem Post = ((w32 x = 0 ∨ w32 x = 1) ∧ Post (some (0, x)) mem) := zrf rfl
theorem s_82_0 {E : yE} {n d : Nat} {mem : yMem} {Post : Option yV → yMem → Prop} {st : List yV} {r1 r2 : Option yV} {x : Int} : zvc E (n + 1) [] d xm_82 0 [some (1, x), r1, r2] (st) mem Post = (zvc E n [] d xm_82 1 [some (1, x), r1, r2] ((1, x) :: st) mem Post) := zrf rfl
theorem s_82_1_2 {E : yE} {n d : Nat} {mem : yMem} {Post : Option yV → yMem → Prop} {st : List yV} {r0 r1 r2 : Option yV} : zvc E (n + 1) [] d xm_82 1 [r0, r1, r2] ((1, 2) :: st) mem Post = (zvc E n [] d xm_82 4 [r0, r1, r2] ((1, 20) :: st) mem Post) := zrf rfl
theorem s_82_1_28 {E : yE} {n d : Nat} {mem : yMem} {Post : Option yV → yMem → Prop} {st : List yV} {r0 r1 r2 : Option yV} : zvc E (n + 1) [] d xm_82 1 [r0, r1, r2] ((1, 28) :: st) mem Post = (zvc E n [] d xm_82 4 [r0, r1, r2] ((1, 46) :: st) mem Post) := zrf rfl
theorem s_82_4 {E : yE} {n d : Nat} {mem : yMem} {Post : Option yV → yMem → Prop} {st : List yV} {r0 r2 : Option yV} {x : Int} : zvc E (n + 1) [] d xm_82 4 [r0, some (0, x), r2] (st) mem Post = (zvc E n [] d xm_82 5 [r0, some (0, x), r2] ((0, x) :: st) mem Post) := zrf rfl
theorem s_82_5 {E : yE} {n d : Nat} {mem : yMem} {Post : Option yV → yMem → Prop} {st : List yV} {r0 r1 r2 : Option yV} : zvc E (n + 1) [] d xm_82 5 [r0, r1, r2] (st) mem Post = (zvc E n [] d xm_82 7 [r0, r1, r2] ((0, 8) :: st) mem Post) := zrf rfl
theorem s_82_7 {E : yE} {n d : Nat} {mem : yMem} {Post : Option yV → yMem → Prop} {st : List yV} {r0 r1 r2 : Option yV} {x y : Int} : zvc E (n + 1) [] d xm_82 7 [r0, r1, r2] ((0, y) :: (0, x) :: st) mem Post = (zvc E n [] d xm_82 8 [r0, r1, r2] ((0, x * y) :: st) mem Post) := zrf rfl
theorem s_82_8 {E : yE} {n d : Nat} {mem : yMem} {Post : Option yV → yMem → Prop} {st : List yV} {r0 r1 : Option yV} {x : Int} : zvc E (n + 1) [] d xm_82 8 [r0, r1, some (0, x)] (st) mem Post = (zvc E n [] d xm_82 9 [r0, r1, some (0, x)] ((0, x) :: st) mem Post) := zrf rfl
theorem s_82_9 {E : yE} {n d : Nat} {mem : yMem} {Post : Option yV → yMem → Prop} {st : List yV} {r0 r1 r2 : Option yV} {x y : Int} : zvc E (n + 1) [] d xm_82 9 [r0, r1, r2] ((0, y) :: (0, x) :: st) mem Post = (zvc E n [] d xm_82 10 [r0, r1, r2] ((0, x + y) :: st) mem Post) := zrf rfl
theorem s_82_10 {E : yE} {n d : Nat} {mem : yMem} {Post : Option yV → yMem → Prop} {st : List yV} {r0 r1 r2 : Option yV} {z j : Int} : zvc E (n + 1) [] d xm_82 10 [r0, r1, r2] ((0, j) :: (1, z) :: st) mem Post = ((0 ≤ w32 j ∧ w32 j < ((zar z 0 : Nat) : Int)) ∧ zvc E n [] d xm_82 11 [r0, r1, r2] ((0, mem z.toNat (w32 j).toNat) :: st) mem Post) := zrf rfl
theorem s_82_11 {E : yE} {n d : Nat} {mem : yMem} {Post : Option yV → yMem → Prop} {r0 r1 r2 : Option yV} {x : Int} : zvc E (n + 1) [] d xm_82 11 [r0, r1, r2] ([(0, x)]) mem Post = (Post (some (0, x)) mem) := zrf rfl
/-! verse and pitch, on both sides -/
/-- tables that hold the VERSES -/
def eOk (ve : dVe) (n : Int) (f g h : Nat → Int) : Prop := (n = (ve.length : Int) ∧ ve.length ≤ 4) ∧ ∀ v, v < ve.length → (f v = ((dPt ve v).length : Int) ∧ (dPt ve v).length ≤ 3) ∧ ∀ p, p < (dPt ve v).length → (g (v * 3 + p) = ((dBr ve v p).length : Int) ∧ (dBr ve v p).length ≤ 8) ∧ ∀ j, j < (dBr ve v p).length → h ((v * 3 + p) * 8 + j) = (dBr ve v p).getD j 0
theorem getD_some {α : Type} {l : List α} {j : Nat} (d : α) (h : j < l.length) : l[j]? = some (l.getD j d) := by
  rw [List.getD_eq_getElem?_getD, List.getElem?_eq_getElem h]
  rfl
theorem eOk_of {ve : dVe} {n : Int} {f g h : Nat → Int} (hn : n = (ve.length : Int) ∧ ve.length ≤ 4) (hv : ∀ j t, ve[j]? = some t → t.2.length ≤ 3 ∧ f j = (t.2.length : Int) ∧ ∀ p q, t.2[p]? = some q → q.length ≤ 8 ∧ g (j * 3 + p) = (q.length : Int) ∧ ∀ i w, q[i]? = some w → h ((j * 3 + p) * 8 + i) = w) : eOk ve n f g h := by
  refine ⟨hn, fun v hlt => ?_⟩
  obtain ⟨a1, a2, a3⟩ := hv v _ (getD_some (0, []) hlt)
  refine ⟨⟨a2, a1⟩, fun p hp => ?_⟩
  obtain ⟨b1, b2, b3⟩ := a3 p _ (getD_some [] hp)
  exact ⟨⟨b2, b1⟩, fun j hj => b3 j _ (getD_some 0 hj)⟩
theorem cEh_ok {m : yMem} {D : dDc} (h : cDh m D) : eOk D.2.2.1 (w32 (m 7 1)) (fun j => w32 (m 18 j)) (fun j => w32 (m 19 j)) (fun j => w32 (m 20 j)) := by
  obtain ⟨-, -, ⟨c1, c2⟩, -⟩ := h
  have e1 := c1.1
  have e2 := c1.2.1
  rw [List.length_map] at e1 e2
  exact eOk_of ⟨e1, e2⟩ (fun j t hj => ⟨(c2 j t hj).1, (c2 j t hj).2.1, fun p q hq => (c2 j t hj).2.2 p q hq⟩)
theorem rEl_ok {m : yMem} {D : dDc} (h : rDl m D) : eOk D.2.2.1 (w32 (m 97 2)) (fun j => w32 (m 109 j)) (fun j => w32 (m 110 j)) (fun j => w32 (m 111 j)) := by
  obtain ⟨-, -, ⟨c1, c2⟩, -⟩ := h
  have e1 := c1.1
  have e2 := c1.2.1
  rw [List.length_map] at e1 e2
  exact eOk_of ⟨e1, e2⟩ (fun j t hj => ⟨(c2 j t hj).1, (c2 j t hj).2.1, fun p q hq => (c2 j t hj).2.2 p q hq⟩)
theorem ix_c {c v p : Int} (hc : w32 c = c) (h0 : 0 ≤ c * w32 v) (h1 : c * w32 v < 1000) (p0 : 0 ≤ w32 p) (p1 : w32 p < 1000) : w32 (c * v + p) = c * w32 v + w32 p := by
  have e : w32 (c * v) = c * w32 v := w32_k hc (by omega) (by omega)
  rw [w32_ad (by rw [e]; omega) (by rw [e]; omega), e]
section VP
variable {E : yE} {mem : yMem} {Q : Option yV → yMem → Prop}
end VP
end
section
/-! BITS AND COUNTS: pure -/
def nBt (f : Nat → Bool) : Nat → Nat
  | 0 => 0
  | n + 1 => nBt f n + (if f n then 2 ^ n else 0)
def nCt (f : Nat → Bool) : Nat → Nat
  | 0 => 0
  | n + 1 => nCt f n + (if f n then 1 else 0)
def nMx (g : Nat → Int) : Nat → Int
  | 0 => 0
  | n + 1 => max (nMx g n) (g n)
def nSm (g : Nat → Int) : Nat → Int
  | 0 => 0
  | n + 1 => nSm g n + g n
theorem nBt_lt (f : Nat → Bool) : ∀ n, nBt f n < 2 ^ n
  | 0 => by
    show (0 : Nat) < 1
    decide
  | n + 1 => by
    have h := nBt_lt f n
    simp only [nBt]
    rw [Nat.pow_succ]
    revert h
    generalize 2 ^ n = z
    intro h
    split <;> omega
theorem nCt_le (f : Nat → Bool) : ∀ n, nCt f n ≤ n
  | 0 => Nat.le_refl _
  | n + 1 => by
    have h := nCt_le f n
    simp only [nCt]
    split <;> omega
theorem nSm_ext {f g : Nat → Int} : ∀ n, (∀ j, j < n → f j = g j) → nSm f n = nSm g n
  | 0, _ => rfl
  | n + 1, h => by
    simp only [nSm]
    rw [nSm_ext n (fun j hj => h j (by omega)), h n (Nat.lt_succ_self n)]
theorem zpc_0 : ∀ m, zpc m 0 = 0
  | 0 => rfl
  | m + 1 => by
    show 0 % 2 + zpc m (0 / 2) = 0
    rw [show (0 : Nat) / 2 = 0 from rfl, zpc_0 m]
theorem zpc_add : ∀ (n m a : Nat), n < m → a < 2 ^ n → zpc m (a + 2 ^ n) = zpc m a + 1
  | n, 0, a, h, _ => absurd h (Nat.not_lt_zero _)
  | 0, m + 1, a, _, ha => by
    have e : a = 0 := by rw [Nat.pow_zero] at ha; omega
    subst e
    show 1 + zpc m 0 = 0 + zpc m 0 + 1
    omega
  | n + 1, m + 1, a, h, ha => by
    have e1 : (a + 2 ^ (n + 1)) % 2 = a % 2 := by
      rw [Nat.pow_succ]
      generalize 2 ^ n = z
      omega
    have e2 : (a + 2 ^ (n + 1)) / 2 = a / 2 + 2 ^ n := by
      rw [Nat.pow_succ]
      generalize 2 ^ n = z
      omega
    have e3 : a / 2 < 2 ^ n := by
      rw [Nat.pow_succ] at ha
      revert ha
      generalize 2 ^ n = z
      omega
    show (a + 2 ^ (n + 1)) % 2 + zpc m ((a + 2 ^ (n + 1)) / 2) = a % 2 + zpc m (a / 2) + 1
    rw [e1, e2, zpc_add n m (a / 2) (by omega) e3]
    omega
theorem zpc_bt {f : Nat → Bool} {m : Nat} : ∀ {n : Nat}, n ≤ m → zpc m (nBt f n) = nCt f n
  | 0, _ => zpc_0 m
  | n + 1, h => by
    have ih := zpc_bt (f := f) (m := m) (n := n) (by omega)
    simp only [nBt, nCt]
    cases f n with
    | true => rw [if_pos rfl, if_pos rfl, zpc_add n m _ (by omega) (nBt_lt f n), ih]
    | false => rw [if_neg (by decide), if_neg (by decide), Nat.add_zero, Nat.add_zero, ih]
/-- zeros and ones, the least first -/
def bnat : List Int → Nat
  | [] => 0
  | b :: r => b.toNat + 2 * bnat r
theorem bnat_i : ∀ {l : List Int}, (∀ b ∈ l, b = 0 ∨ b = 1) → bsum l = ((bnat l : Nat) : Int)
  | [], _ => rfl
  | b :: r, h => by
    have ih := bnat_i (l := r) (fun c hc => h c (List.mem_cons_of_mem _ hc))
    have hb := h b List.mem_cons_self
    show b + 2 * bsum r = ((b.toNat + 2 * bnat r : Nat) : Int)
    omega
theorem bnat_b : ∀ {l : List Int} {v : Nat}, (∀ b ∈ l, b = 0 ∨ b = 1) → bnat l / 2 ^ v % 2 = (l.getD v 0).toNat
  | [], v, _ => by
    show 0 / 2 ^ v % 2 = 0
    rw [Nat.zero_div]
  | b :: r, 0, h => by
    have hb := h b List.mem_cons_self
    show (b.toNat + 2 * bnat r) / 2 ^ 0 % 2 = b.toNat
    rw [Nat.pow_zero, Nat.div_one]
    omega
  | b :: r, v + 1, h => by
    have hb := h b List.mem_cons_self
    show (b.toNat + 2 * bnat r) / 2 ^ (v + 1) % 2 = (r.getD v 0).toNat
    rw [← bnat_b (l := r) (v := v) (fun c hc => h c (List.mem_cons_of_mem _ hc)), show 2 ^ (v + 1) = 2 * 2 ^ v by rw [Nat.pow_succ, Nat.mul_comm], ← Nat.div_div_eq_div_mul, show (b.toNat + 2 * bnat r) / 2 = bnat r by omega]
theorem bnat_lt : ∀ {l : List Int}, (∀ b ∈ l, b = 0 ∨ b = 1) → bnat l < 2 ^ l.length
  | [], _ => by decide
  | b :: r, h => by
    have ih := bnat_lt (l := r) (fun c hc => h c (List.mem_cons_of_mem _ hc))
    have hb := h b List.mem_cons_self
    show b.toNat + 2 * bnat r < 2 ^ (r.length + 1)
    rw [Nat.pow_succ]
    omega
/-- a bit more -/
theorem yb_bt {x r : Int} {f : Nat → Bool} {n : Nat} (hn : n < 9) (hx : w32 x = ((nBt f n : Nat) : Int)) (hr : w32 r = (n : Int)) : w32 (ybin 4 x (ybin 6 1 r)) = ((nBt f n + 2 ^ n : Nat) : Int) := by
  have h2 : 2 ^ n ≤ 256 := (by decide : ∀ l : Nat, l < 9 → 2 ^ l ≤ 256) n hn
  have hl := nBt_lt f n
  have e := yb_orr (x := x) (y := ybin 6 1 r) (a := 1) (b := nBt f n) (k := n) hx (by rw [yb_shl (a := 1) (s := n) w32c_1 hr (by omega) (by omega), Nat.mul_comm]) hl (by omega)
  rw [e, Nat.mul_one, Nat.add_comm]
/-- is a bit set -/
theorem yb_tst {x r : Int} {a b : Nat} (hx : w32 x = (a : Int)) (ha : a < 2147483648) (hr : w32 r = (b : Int)) (hb : b < 32) : w32 (ybin 3 (ybin 7 x r) 1) = ((a / 2 ^ b % 2 : Nat) : Int) := yb_and1 (yb_shr hx hr hb ha) (Nat.lt_of_le_of_lt (Nat.div_le_self _ _) ha)
theorem w32_mx {x y : Int} : w32 (zmxi x y) = max (w32 x) (w32 y) := by
  unfold zmxi
  split <;> omega
theorem w32_mn {x y : Int} : w32 (zmni x y) = min (w32 x) (w32 y) := by
  unfold zmni
  split <;> omega
end
section
/-! WHAT THE TABLES HOLD -/
abbrev vAt (D : dDc) (v : Nat) : tVo := D.2.1.getD v (0, 0, 0, 0, 0, 0, 0)
abbrev vLo (D : dDc) (v : Nat) : Int := (vAt D v).2.1
abbrev vHi (D : dDc) (v : Nat) : Int := (vAt D v).2.2.1
abbrev vBo (D : dDc) (v : Nat) : Int := (vAt D v).2.2.2.1
abbrev vHo (D : dDc) (v : Nat) : Int := (vAt D v).2.2.2.2.1
abbrev vDe (D : dDc) (v : Nat) : Int := (vAt D v).2.2.2.2.2.1
abbrev tAt (D : dDc) (t : Nat) : Int × Int × Int := D.1.getD t (0, 0, 0)
/-- the bars of a PART, by its slot; the PARTS of a VERSE -/
abbrev sBr (D : dDc) (p : Nat) : List Int := dBr D.2.2.1 (p / 3) (p % 3)
abbrev sPs (D : dDc) (v : Nat) : Nat := (dPt D.2.2.1 v).length
section TT
variable {m : yMem} {D : dDc} {v p : Nat}
theorem cTb_n (h : cDh m D) : (w32 (m 3 1) = (D.1.length : Int) ∧ D.1.length ≤ 3) ∧ (w32 (m 5 1) = (D.2.1.length : Int) ∧ D.2.1.length ≤ 6) ∧ (w32 (m 7 1) = (D.2.2.1.length : Int) ∧ D.2.2.1.length ≤ 4) ∧ (w32 (m 9 1) = (D.2.2.2.1.length : Int) ∧ D.2.2.2.1.length ≤ 3) := by
  obtain ⟨a, b, c, e, -⟩ := h
  have a1 := a.1.1
  have a2 := a.1.2.1
  have b1 := b.1.1
  have b2 := b.1.2.1
  have c1 := c.1.1
  have c2 := c.1.2.1
  have e1 := e.1.1
  have e2 := e.1.2.1
  rw [List.length_map] at a1 a2 b1 b2 c1 c2 e1 e2
  exact ⟨⟨a1, a2⟩, ⟨b1, b2⟩, ⟨c1, c2⟩, e1, e2⟩
theorem rTb_n (h : rDl m D) : (w32 (m 97 0) = (D.1.length : Int) ∧ D.1.length ≤ 3) ∧ (w32 (m 97 1) = (D.2.1.length : Int) ∧ D.2.1.length ≤ 6) ∧ (w32 (m 97 2) = (D.2.2.1.length : Int) ∧ D.2.2.1.length ≤ 4) ∧ (w32 (m 97 3) = (D.2.2.2.1.length : Int) ∧ D.2.2.2.1.length ≤ 3) := by
  obtain ⟨a, b, c, e, -⟩ := h
  have a1 := a.1.1
  have a2 := a.1.2.1
  have b1 := b.1.1
  have b2 := b.1.2.1
  have c1 := c.1.1
  have c2 := c.1.2.1
  have e1 := e.1.1
  have e2 := e.1.2.1
  rw [List.length_map] at a1 a2 b1 b2 c1 c2 e1 e2
  exact ⟨⟨a1, a2⟩, ⟨b1, b2⟩, ⟨c1, c2⟩, e1, e2⟩
theorem cTb_v (h : cDh m D) (hv : v < D.2.1.length) : w32 (m 13 v) = vLo D v ∧ w32 (m 14 v) = vHi D v ∧ w32 (m 15 v) = vHo D v ∧ w32 (m 16 v) = vDe D v := by
  obtain ⟨a1, a2, a3, a4, _⟩ := h.2.1.2.2.2 v _ (getD_at (0, 0, 0, 0, 0, 0, 0) hv)
  exact ⟨a1, a2, a3, a4⟩
theorem cTb_b (h : cDh m D) (hv : v < D.2.1.length) : ∃ K : Nat, w32 (m 2 16) = (K : Int) ∧ K < 64 ∧ K / 2 ^ v % 2 = (vBo D v).toNat ∧ (vBo D v = 0 ∨ vBo D v = 1) := by
  have h1 := h.2.1.2.1
  have h2 := h.2.1.2.2.1
  have h3 : ∀ b ∈ D.2.1.map (fun t => t.2.2.2.1), b = 0 ∨ b = 1 := fun b hb => by
    obtain ⟨t, ht, rfl⟩ := List.mem_map.mp hb
    exact h2 t ht
  have hn := (cTb_n h).2.1.2
  refine ⟨bnat (D.2.1.map (fun t => t.2.2.2.1)), by rw [h1, bnat_i h3], ?_, ?_, ?_⟩
  · have := bnat_lt h3
    rw [List.length_map] at this
    have h6 : 2 ^ D.2.1.length ≤ 2 ^ 6 := Nat.pow_le_pow_right (by decide) hn
    exact Nat.lt_of_lt_of_le this h6
  · rw [bnat_b h3]
    congr 1
    rw [List.getD_eq_getElem?_getD, List.getElem?_map, getD_at (0, 0, 0, 0, 0, 0, 0) hv]
    rfl
  · have hm : vAt D v ∈ D.2.1 := by
      show D.2.1.getD v _ ∈ D.2.1
      rw [List.getD_eq_getElem?_getD, List.getElem?_eq_getElem hv]
      exact List.getElem_mem hv
    exact h2 _ hm
theorem rTb_v (h : rDl m D) (hv : v < D.2.1.length) : w32 (m 102 v) = vLo D v ∧ w32 (m 103 v) = vHi D v ∧ w32 (m 104 v) = vBo D v ∧ w32 (m 105 v) = vHo D v ∧ w32 (m 106 v) = vDe D v := by
  obtain ⟨-, a2, a3, a4, a5, a6, _⟩ := h.2.1.2 v _ (getD_at (0, 0, 0, 0, 0, 0, 0) hv)
  exact ⟨a2, a3, a4, a5, a6⟩
theorem dOk_v (h : dOk D) (hv : v < D.2.1.length) : dVk D.1.length (vAt D v) := by
  refine h.2.1 _ ?_
  show D.2.1.getD v _ ∈ D.2.1
  rw [List.getD_eq_getElem?_getD, List.getElem?_eq_getElem hv]
  exact List.getElem_mem hv
theorem cTb_t (h : cDh m D) {t : Nat} (ht : t < D.1.length) : w32 (m 11 t) = (tAt D t).2.1 := (h.1.2 t _ (getD_at (0, 0, 0) ht)).1
theorem rTb_t (h : rDl m D) {t : Nat} (ht : t < D.1.length) : w32 (m 99 t) = (tAt D t).2.1 := (h.1.2 t _ (getD_at (0, 0, 0) ht)).1
theorem uPv_lt (h : cDh m D) (hp : uPv D p) : p < 12 ∧ p / 3 < 4 := by
  have := (cTb_n h).2.2.1.2
  have := hp.1
  omega
theorem uPv_ltr (h : rDl m D) (hp : uPv D p) : p < 12 ∧ p / 3 < 4 := by
  have := (rTb_n h).2.2.1.2
  have := hp.1
  omega
theorem cTb_e (h : cDh m D) {e : Nat} (he : e < D.2.2.1.length) : w32 (m 18 e) = (sPs D e : Int) ∧ sPs D e ≤ 3 := ((cEh_ok h).2 e he).1
theorem rTb_e (h : rDl m D) {e : Nat} (he : e < D.2.2.1.length) : w32 (m 109 e) = (sPs D e : Int) ∧ sPs D e ≤ 3 := ((rEl_ok h).2 e he).1
theorem cTb_p (h : cDh m D) (hp : uPv D p) : (w32 (m 19 p) = ((sBr D p).length : Int) ∧ (sBr D p).length ≤ 8) ∧ ∀ j, j < (sBr D p).length → w32 (m 20 (p * 8 + j)) = (sBr D p).getD j 0 := by
  have a := ((cEh_ok h).2 (p / 3) hp.1).2 (p % 3) hp.2
  rw [show p / 3 * 3 + p % 3 = p by omega] at a
  exact a
theorem rTb_p (h : rDl m D) (hp : uPv D p) : (w32 (m 110 p) = ((sBr D p).length : Int) ∧ (sBr D p).length ≤ 8) ∧ ∀ j, j < (sBr D p).length → w32 (m 111 (p * 8 + j)) = (sBr D p).getD j 0 := by
  have a := ((rEl_ok h).2 (p / 3) hp.1).2 (p % 3) hp.2
  rw [show p / 3 * 3 + p % 3 = p by omega] at a
  exact a
/-- a PART by VERSE and number -/
theorem uPv_of {e q : Nat} (he : e < D.2.2.1.length) (hq : q < sPs D e) (hn : sPs D e ≤ 3) : uPv D (3 * e + q) := by
  unfold uPv
  rw [show (3 * e + q) / 3 = e by omega, show (3 * e + q) % 3 = q by omega]
  exact ⟨he, hq⟩
end TT
/-- a note that SOUNDS: within low and high -/
def fSo (l : List Int) (lo hi : Int) (j : Nat) : Bool := decide (lo ≤ l.getD j 0 ∧ l.getD j 0 ≤ hi)
def fRe (l : List Int) (j : Nat) : Bool := decide (l.getD j 0 = 0)
/-- is a VOICE CRACKED -/
abbrev uCk (X : Int) (v : Nat) : Prop := X.toNat / 2 ^ v % 2 = 1
/-- which bars of a PART a VOICE SOUNDS -/
def sSo (D : dDc) (p v : Nat) : Nat → Bool := fSo (sBr D p) (vLo D v) (vHi D v)
def sBits (D : dDc) (p v : Nat) : Nat := nBt (sSo D p v) (sBr D p).length
def sCnt (D : dDc) (p v : Nat) : Nat := nCt (sSo D p v) (sBr D p).length
def sRes (D : dDc) (p : Nat) : Nat := nCt (fRe (sBr D p)) (sBr D p).length
def sHig (D : dDc) (p : Nat) : Int := nMx (fun j => (sBr D p).getD j 0) (sBr D p).length
def sNo (D : dDc) (X : Int) (p v : Nat) : Nat := if uCk X v then 0 else sCnt D p v
/-- the names of an E -/
def nm7 (a b c d e f g : Int) : Nat → Int := fun i => [a, b, c, d, e, f, g].getD i 0
end
section
def zc_84 : List Nat := [5]
theorem s_84_0 {E : yE} {n d : Nat} {mem : yMem} {Post : Option yV → yMem → Prop} {st : List yV} {r0 r1 r2 r3 r4 r5 : Option yV} : zvc E (n + 1) zc_84 d xm_84 0 [r0, r1, r2, r3, r4, r5] (st) mem Post = (zvc E n zc_84 d xm_84 1 [r0, r1, r2, r3, r4, r5] ((0, 0) :: st) mem Post) := zrf rfl
theorem s_84_1n {E : yE} {n d : Nat} {mem : yMem} {Post : Option yV → yMem → Prop} {st : List yV} {r0 r1 r3 r4 r5 : Option yV} {x : Int} : zvc E (n + 1) zc_84 d xm_84 1 [r0, r1, none, r3, r4, r5] ((0, x) :: st) mem Post = (zvc E n zc_84 d xm_84 2 [r0, r1, none, some (0, x), r4, r5] (st) mem Post) := zrf rfl
theorem s_84_1i {E : yE} {n d : Nat} {mem : yMem} {Post : Option yV → yMem → Prop} {st : List yV} {r0 r1 r3 r4 r5 : Option yV} {x w : Int} : zvc E (n + 1) zc_84 d xm_84 1 [r0, r1, some (0, w), r3, r4, r5] ((0, x) :: st) mem Post = (zvc E n zc_84 d xm_84 2 [r0, r1, some (0, w), some (0, x), r4, r5] (st) mem Post) := zrf rfl
theorem s_84_1p {E : yE} {n d : Nat} {mem : yMem} {Post : Option yV → yMem → Prop} {st : List yV} {r0 r1 r3 r4 r5 : Option yV} {x w : Int} : zvc E (n + 1) zc_84 d xm_84 1 [r0, r1, some (1, w), r3, r4, r5] ((0, x) :: st) mem Post = (zvc E n zc_84 d xm_84 2 [r0, r1, some (1, w), some (0, x), r4, r5] (st) mem Post) := zrf rfl
theorem s_84_2 {E : yE} {n d : Nat} {mem : yMem} {Post : Option yV → yMem → Prop} {st : List yV} {r0 r1 r2 r3 r4 r5 : Option yV} : zvc E (n + 1) zc_84 d xm_84 2 [r0, r1, r2, r3, r4, r5] (st) mem Post = (zvc E n zc_84 d xm_84 3 [r0, r1, r2, r3, r4, r5] ((0, 0) :: st) mem Post) := zrf rfl
theorem s_84_3n {E : yE} {n d : Nat} {mem : yMem} {Post : Option yV → yMem → Prop} {st : List yV} {r0 r1 r2 r4 r5 : Option yV} {x : Int} : zvc E (n + 1) zc_84 d xm_84 3 [r0, r1, r2, none, r4, r5] ((0, x) :: st) mem Post = (zvc E n zc_84 d xm_84 5 [r0, r1, r2, none, some (0, x), r5] (st) mem Post) := zrf rfl
theorem s_84_3i {E : yE} {n d : Nat} {mem : yMem} {Post : Option yV → yMem → Prop} {st : List yV} {r0 r1 r2 r4 r5 : Option yV} {x w : Int} : zvc E (n + 1) zc_84 d xm_84 3 [r0, r1, r2, some (0, w), r4, r5] ((0, x) :: st) mem Post = (zvc E n zc_84 d xm_84 5 [r0, r1, r2, some (0, w), some (0, x), r5] (st) mem Post) := zrf rfl
theorem s_84_3p {E : yE} {n d : Nat} {mem : yMem} {Post : Option yV → yMem → Prop} {st : List yV} {r0 r1 r2 r4 r5 : Option yV} {x w : Int} : zvc E (n + 1) zc_84 d xm_84 3 [r0, r1, r2, some (1, w), r4, r5] ((0, x) :: st) mem Post = (zvc E n zc_84 d xm_84 5 [r0, r1, r2, some (1, w), some (0, x), r5] (st) mem Post) := zrf rfl
theorem g_84_5 {E : yE} {n d : Nat} {mem : yMem} {Post : Option yV → yMem → Prop} {st : List yV} {r0 r1 r2 r3 r5 : Option yV} {x : Int} : zgo E n zc_84 d xm_84 5 [r0, r1, r2, r3, some (0, x), r5] (st) mem Post = (zvc E n zc_84 d xm_84 7 [r0, r1, r2, r3, some (0, x), r5] ((0, x) :: st) mem Post) := zrf rfl
theorem k_84_5 {E : yE} {n d : Nat} {mem : yMem} {Post : Option yV → yMem → Prop} {st : List yV} {rg : zR} : zvc E (n + 1) zc_84 d xm_84 5 rg st mem Post = zG E d xm_84 5 rg st mem Post := zrf rfl
theorem s_84_7 {E : yE} {n d : Nat} {mem : yMem} {Post : Option yV → yMem → Prop} {st : List yV} {r1 r2 r3 r4 r5 : Option yV} {x : Int} : zvc E (n + 1) zc_84 d xm_84 7 [some (1, x), r1, r2, r3, r4, r5] (st) mem Post = (zvc E n zc_84 d xm_84 8 [some (1, x), r1, r2, r3, r4, r5] ((1, x) :: st) mem Post) := zrf rfl
theorem s_84_8_2 {E : yE} {n d : Nat} {mem : yMem} {Post : Option yV → yMem → Prop} {st : List yV} {r0 r1 r2 r3 r4 r5 : Option yV} : zvc E (n + 1) zc_84 d xm_84 8 [r0, r1, r2, r3, r4, r5] ((1, 2) :: st) mem Post = (zvc E n zc_84 d xm_84 11 [r0, r1, r2, r3, r4, r5] ((1, 19) :: st) mem Post) := zrf rfl
theorem s_84_8_28 {E : yE} {n d : Nat} {mem : yMem} {Post : Option yV → yMem → Prop} {st : List yV} {r0 r1 r2 r3 r4 r5 : Option yV} : zvc E (n + 1) zc_84 d xm_84 8 [r0, r1, r2, r3, r4, r5] ((1, 28) :: st) mem Post = (zvc E n zc_84 d xm_84 11 [r0, r1, r2, r3, r4, r5] ((1, 45) :: st) mem Post) := zrf rfl
theorem s_84_11 {E : yE} {n d : Nat} {mem : yMem} {Post : Option yV → yMem → Prop} {st : List yV} {r0 r2 r3 r4 r5 : Option yV} {x : Int} : zvc E (n + 1) zc_84 d xm_84 11 [r0, some (0, x), r2, r3, r4, r5] (st) mem Post = (zvc E n zc_84 d xm_84 12 [r0, some (0, x), r2, r3, r4, r5] ((0, x) :: st) mem Post) := zrf rfl
theorem s_84_12 {E : yE} {n d : Nat} {mem : yMem} {Post : Option yV → yMem → Prop} {st : List yV} {r0 r1 r2 r3 r4 r5 : Option yV} {z j : Int} : zvc E (n + 1) zc_84 d xm_84 12 [r0, r1, r2, r3, r4, r5] ((0, j) :: (1, z) :: st) mem Post = ((0 ≤ w32 j ∧ w32 j < ((zar z 0 : Nat) : Int)) ∧ zvc E n zc_84 d xm_84 13 [r0, r1, r2, r3, r4, r5] ((0, mem z.toNat (w32 j).toNat) :: st) mem Post) := zrf rfl
theorem s_84_13 {E : yE} {n d : Nat} {mem : yMem} {Post : Option yV → yMem → Prop} {st : List yV} {r0 r1 r2 r3 r4 r5 : Option yV} {x y : Int} : zvc E (n + 1) zc_84 d xm_84 13 [r0, r1, r2, r3, r4, r5] ((0, y) :: (0, x) :: st) mem Post = ((w32 y ≤ w32 x → zvc E n zc_84 d xm_84 60 [r0, r1, r2, r3, r4, r5] (st) mem Post) ∧ (¬ (w32 y ≤ w32 x) → zvc E n zc_84 d xm_84 16 [r0, r1, r2, r3, r4, r5] (st) mem Post)) := zrf rfl
theorem s_84_16 {E : yE} {n d : Nat} {mem : yMem} {Post : Option yV → yMem → Prop} {st : List yV} {r1 r2 r3 r4 r5 : Option yV} {x : Int} : zvc E (n + 1) zc_84 d xm_84 16 [some (1, x), r1, r2, r3, r4, r5] (st) mem Post = (zvc E n zc_84 d xm_84 17 [some (1, x), r1, r2, r3, r4, r5] ((1, x) :: st) mem Post) := zrf rfl
theorem s_84_17 {E : yE} {n d : Nat} {mem : yMem} {Post : Option yV → yMem → Prop} {st : List yV} {r0 r2 r3 r4 r5 : Option yV} {x : Int} : zvc E (n + 1) zc_84 d xm_84 17 [r0, some (0, x), r2, r3, r4, r5] (st) mem Post = (zvc E n zc_84 d xm_84 18 [r0, some (0, x), r2, r3, r4, r5] ((0, x) :: st) mem Post) := zrf rfl
theorem s_84_18 {E : yE} {n d : Nat} {mem : yMem} {Post : Option yV → yMem → Prop} {st : List yV} {r0 r1 r2 r3 r5 : Option yV} {x : Int} : zvc E (n + 1) zc_84 d xm_84 18 [r0, r1, r2, r3, some (0, x), r5] (st) mem Post = (zvc E n zc_84 d xm_84 20 [r0, r1, r2, r3, some (0, x), r5] ((0, x) :: st) mem Post) := zrf rfl
theorem s_84_20 {E : yE} {n d : Nat} {mem : yMem} {Post : Option yV → yMem → Prop} {st : List yV} {r0 r1 r2 r3 r4 r5 : Option yV} {z a0 a1 : Int} : zvc E (n + 1) zc_84 (d + 1) xm_84 20 [r0, r1, r2, r3, r4, r5] ((0, a1) :: (0, a0) :: (1, z) :: st) mem Post = (zio z 4 = true ∧ ysum st ≤ 8 ∧ zvc E n [] d xm_82 0 [some (1, z), some (0, a0), some (0, a1)] [] mem (fun v mem' => zvk E n zc_84 (d + 1) xm_84 23 [r0, r1, r2, r3, r4, r5] st v mem' Post)) := zrf rfl
theorem s_84_23n {E : yE} {n d : Nat} {mem : yMem} {Post : Option yV → yMem → Prop} {st : List yV} {r0 r1 r2 r3 r5 : Option yV} {x : Int} : zvc E (n + 1) zc_84 d xm_84 23 [r0, r1, r2, r3, none, r5] ((0, x) :: st) mem Post = (zvc E n zc_84 d xm_84 25 [r0, r1, r2, r3, none, some (0, x)] (st) mem Post) := zrf rfl
theorem s_84_23i {E : yE} {n d : Nat} {mem : yMem} {Post : Option yV → yMem → Prop} {st : List yV} {r0 r1 r2 r3 r5 : Option yV} {x w : Int} : zvc E (n + 1) zc_84 d xm_84 23 [r0, r1, r2, r3, some (0, w), r5] ((0, x) :: st) mem Post = (zvc E n zc_84 d xm_84 25 [r0, r1, r2, r3, some (0, w), some (0, x)] (st) mem Post) := zrf rfl
theorem s_84_23p {E : yE} {n d : Nat} {mem : yMem} {Post : Option yV → yMem → Prop} {st : List yV} {r0 r1 r2 r3 r5 : Option yV} {x w : Int} : zvc E (n + 1) zc_84 d xm_84 23 [r0, r1, r2, r3, some (1, w), r5] ((0, x) :: st) mem Post = (zvc E n zc_84 d xm_84 25 [r0, r1, r2, r3, some (1, w), some (0, x)] (st) mem Post) := zrf rfl
theorem s_84_25 {E : yE} {n d : Nat} {mem : yMem} {Post : Option yV → yMem → Prop} {st : List yV} {r0 r1 r2 r3 r4 : Option yV} {x : Int} : zvc E (n + 1) zc_84 d xm_84 25 [r0, r1, r2, r3, r4, some (0, x)] (st) mem Post = (zvc E n zc_84 d xm_84 27 [r0, r1, r2, r3, r4, some (0, x)] ((0, x) :: st) mem Post) := zrf rfl
theorem s_84_27 {E : yE} {n d : Nat} {mem : yMem} {Post : Option yV → yMem → Prop} {st : List yV} {r1 r2 r3 r4 r5 : Option yV} {x : Int} : zvc E (n + 1) zc_84 d xm_84 27 [some (1, x), r1, r2, r3, r4, r5] (st) mem Post = (zvc E n zc_84 d xm_84 28 [some (1, x), r1, r2, r3, r4, r5] ((1, x) :: st) mem Post) := zrf rfl
theorem s_84_28_2 {E : yE} {n d : Nat} {mem : yMem} {Post : Option yV → yMem → Prop} {st : List yV} {r0 r1 r2 r3 r4 r5 : Option yV} : zvc E (n + 1) zc_84 d xm_84 28 [r0, r1, r2, r3, r4, r5] ((1, 2) :: st) mem Post = (zvc E n zc_84 d xm_84 31 [r0, r1, r2, r3, r4, r5] ((1, 13) :: st) mem Post) := zrf rfl
theorem s_84_28_28 {E : yE} {n d : Nat} {mem : yMem} {Post : Option yV → yMem → Prop} {st : List yV} {r0 r1 r2 r3 r4 r5 : Option yV} : zvc E (n + 1) zc_84 d xm_84 28 [r0, r1, r2, r3, r4, r5] ((1, 28) :: st) mem Post = (zvc E n zc_84 d xm_84 31 [r0, r1, r2, r3, r4, r5] ((1, 39) :: st) mem Post) := zrf rfl
theorem s_84_31 {E : yE} {n d : Nat} {mem : yMem} {Post : Option yV → yMem → Prop} {st : List yV} {r0 r1 r3 r4 r5 : Option yV} {x : Int} : zvc E (n + 1) zc_84 d xm_84 31 [r0, r1, some (0, x), r3, r4, r5] (st) mem Post = (zvc E n zc_84 d xm_84 32 [r0, r1, some (0, x), r3, r4, r5] ((0, x) :: st) mem Post) := zrf rfl
theorem s_84_32 {E : yE} {n d : Nat} {mem : yMem} {Post : Option yV → yMem → Prop} {st : List yV} {r0 r1 r2 r3 r4 r5 : Option yV} {z j : Int} : zvc E (n + 1) zc_84 d xm_84 32 [r0, r1, r2, r3, r4, r5] ((0, j) :: (1, z) :: st) mem Post = ((0 ≤ w32 j ∧ w32 j < ((zar z 0 : Nat) : Int)) ∧ zvc E n zc_84 d xm_84 33 [r0, r1, r2, r3, r4, r5] ((0, mem z.toNat (w32 j).toNat) :: st) mem Post) := zrf rfl
theorem s_84_33 {E : yE} {n d : Nat} {mem : yMem} {Post : Option yV → yMem → Prop} {st : List yV} {r0 r1 r2 r3 r4 r5 : Option yV} {x y : Int} : zvc E (n + 1) zc_84 d xm_84 33 [r0, r1, r2, r3, r4, r5] ((0, y) :: (0, x) :: st) mem Post = ((w32 x < w32 y → zvc E n zc_84 d xm_84 54 [r0, r1, r2, r3, r4, r5] (st) mem Post) ∧ (¬ (w32 x < w32 y) → zvc E n zc_84 d xm_84 36 [r0, r1, r2, r3, r4, r5] (st) mem Post)) := zrf rfl
theorem s_84_36 {E : yE} {n d : Nat} {mem : yMem} {Post : Option yV → yMem → Prop} {st : List yV} {r0 r1 r2 r3 r4 : Option yV} {x : Int} : zvc E (n + 1) zc_84 d xm_84 36 [r0, r1, r2, r3, r4, some (0, x)] (st) mem Post = (zvc E n zc_84 d xm_84 38 [r0, r1, r2, r3, r4, some (0, x)] ((0, x) :: st) mem Post) := zrf rfl
theorem s_84_38 {E : yE} {n d : Nat} {mem : yMem} {Post : Option yV → yMem → Prop} {st : List yV} {r1 r2 r3 r4 r5 : Option yV} {x : Int} : zvc E (n + 1) zc_84 d xm_84 38 [some (1, x), r1, r2, r3, r4, r5] (st) mem Post = (zvc E n zc_84 d xm_84 39 [some (1, x), r1, r2, r3, r4, r5] ((1, x) :: st) mem Post) := zrf rfl
theorem s_84_39_2 {E : yE} {n d : Nat} {mem : yMem} {Post : Option yV → yMem → Prop} {st : List yV} {r0 r1 r2 r3 r4 r5 : Option yV} : zvc E (n + 1) zc_84 d xm_84 39 [r0, r1, r2, r3, r4, r5] ((1, 2) :: st) mem Post = (zvc E n zc_84 d xm_84 42 [r0, r1, r2, r3, r4, r5] ((1, 14) :: st) mem Post) := zrf rfl
theorem s_84_39_28 {E : yE} {n d : Nat} {mem : yMem} {Post : Option yV → yMem → Prop} {st : List yV} {r0 r1 r2 r3 r4 r5 : Option yV} : zvc E (n + 1) zc_84 d xm_84 39 [r0, r1, r2, r3, r4, r5] ((1, 28) :: st) mem Post = (zvc E n zc_84 d xm_84 42 [r0, r1, r2, r3, r4, r5] ((1, 40) :: st) mem Post) := zrf rfl
theorem s_84_42 {E : yE} {n d : Nat} {mem : yMem} {Post : Option yV → yMem → Prop} {st : List yV} {r0 r1 r3 r4 r5 : Option yV} {x : Int} : zvc E (n + 1) zc_84 d xm_84 42 [r0, r1, some (0, x), r3, r4, r5] (st) mem Post = (zvc E n zc_84 d xm_84 43 [r0, r1, some (0, x), r3, r4, r5] ((0, x) :: st) mem Post) := zrf rfl
theorem s_84_43 {E : yE} {n d : Nat} {mem : yMem} {Post : Option yV → yMem → Prop} {st : List yV} {r0 r1 r2 r3 r4 r5 : Option yV} {z j : Int} : zvc E (n + 1) zc_84 d xm_84 43 [r0, r1, r2, r3, r4, r5] ((0, j) :: (1, z) :: st) mem Post = ((0 ≤ w32 j ∧ w32 j < ((zar z 0 : Nat) : Int)) ∧ zvc E n zc_84 d xm_84 44 [r0, r1, r2, r3, r4, r5] ((0, mem z.toNat (w32 j).toNat) :: st) mem Post) := zrf rfl
theorem s_84_44 {E : yE} {n d : Nat} {mem : yMem} {Post : Option yV → yMem → Prop} {st : List yV} {r0 r1 r2 r3 r4 r5 : Option yV} {x y : Int} : zvc E (n + 1) zc_84 d xm_84 44 [r0, r1, r2, r3, r4, r5] ((0, y) :: (0, x) :: st) mem Post = ((w32 y < w32 x → zvc E n zc_84 d xm_84 54 [r0, r1, r2, r3, r4, r5] (st) mem Post) ∧ (¬ (w32 y < w32 x) → zvc E n zc_84 d xm_84 47 [r0, r1, r2, r3, r4, r5] (st) mem Post)) := zrf rfl
theorem s_84_47 {E : yE} {n d : Nat} {mem : yMem} {Post : Option yV → yMem → Prop} {st : List yV} {r0 r1 r2 r4 r5 : Option yV} {x : Int} : zvc E (n + 1) zc_84 d xm_84 47 [r0, r1, r2, some (0, x), r4, r5] (st) mem Post = (zvc E n zc_84 d xm_84 48 [r0, r1, r2, some (0, x), r4, r5] ((0, x) :: st) mem Post) := zrf rfl
theorem s_84_48 {E : yE} {n d : Nat} {mem : yMem} {Post : Option yV → yMem → Prop} {st : List yV} {r0 r1 r2 r3 r4 r5 : Option yV} : zvc E (n + 1) zc_84 d xm_84 48 [r0, r1, r2, r3, r4, r5] (st) mem Post = (zvc E n zc_84 d xm_84 49 [r0, r1, r2, r3, r4, r5] ((0, 1) :: st) mem Post) := zrf rfl
theorem s_84_49 {E : yE} {n d : Nat} {mem : yMem} {Post : Option yV → yMem → Prop} {st : List yV} {r0 r1 r2 r3 r5 : Option yV} {x : Int} : zvc E (n + 1) zc_84 d xm_84 49 [r0, r1, r2, r3, some (0, x), r5] (st) mem Post = (zvc E n zc_84 d xm_84 51 [r0, r1, r2, r3, some (0, x), r5] ((0, x) :: st) mem Post) := zrf rfl
theorem s_84_51 {E : yE} {n d : Nat} {mem : yMem} {Post : Option yV → yMem → Prop} {st : List yV} {r0 r1 r2 r3 r4 r5 : Option yV} {x y : Int} : zvc E (n + 1) zc_84 d xm_84 51 [r0, r1, r2, r3, r4, r5] ((0, y) :: (0, x) :: st) mem Post = (zvc E n zc_84 d xm_84 52 [r0, r1, r2, r3, r4, r5] ((0, ybin 6 x y) :: st) mem Post) := zrf rfl
theorem s_84_52 {E : yE} {n d : Nat} {mem : yMem} {Post : Option yV → yMem → Prop} {st : List yV} {r0 r1 r2 r3 r4 r5 : Option yV} {x y : Int} : zvc E (n + 1) zc_84 d xm_84 52 [r0, r1, r2, r3, r4, r5] ((0, y) :: (0, x) :: st) mem Post = (zvc E n zc_84 d xm_84 53 [r0, r1, r2, r3, r4, r5] ((0, ybin 4 x y) :: st) mem Post) := zrf rfl
theorem s_84_53n {E : yE} {n d : Nat} {mem : yMem} {Post : Option yV → yMem → Prop} {st : List yV} {r0 r1 r3 r4 r5 : Option yV} {x : Int} : zvc E (n + 1) zc_84 d xm_84 53 [r0, r1, none, r3, r4, r5] ((0, x) :: st) mem Post = (zvc E n zc_84 d xm_84 54 [r0, r1, none, some (0, x), r4, r5] (st) mem Post) := zrf rfl
theorem s_84_53i {E : yE} {n d : Nat} {mem : yMem} {Post : Option yV → yMem → Prop} {st : List yV} {r0 r1 r3 r4 r5 : Option yV} {x w : Int} : zvc E (n + 1) zc_84 d xm_84 53 [r0, r1, some (0, w), r3, r4, r5] ((0, x) :: st) mem Post = (zvc E n zc_84 d xm_84 54 [r0, r1, some (0, w), some (0, x), r4, r5] (st) mem Post) := zrf rfl
theorem s_84_53p {E : yE} {n d : Nat} {mem : yMem} {Post : Option yV → yMem → Prop} {st : List yV} {r0 r1 r3 r4 r5 : Option yV} {x w : Int} : zvc E (n + 1) zc_84 d xm_84 53 [r0, r1, some (1, w), r3, r4, r5] ((0, x) :: st) mem Post = (zvc E n zc_84 d xm_84 54 [r0, r1, some (1, w), some (0, x), r4, r5] (st) mem Post) := zrf rfl
theorem s_84_54n {E : yE} {n d : Nat} {mem : yMem} {Post : Option yV → yMem → Prop} {st : List yV} {r0 r1 r2 r5 : Option yV} {x : Int} : zvc E (n + 1) zc_84 d xm_84 54 [r0, r1, r2, none, some (0, x), r5] (st) mem Post = (zvc E n zc_84 d xm_84 57 [r0, r1, r2, none, some (0, x + 1), r5] (st) mem Post) := zrf rfl
theorem s_84_54i {E : yE} {n d : Nat} {mem : yMem} {Post : Option yV → yMem → Prop} {st : List yV} {r0 r1 r2 r5 : Option yV} {x w : Int} : zvc E (n + 1) zc_84 d xm_84 54 [r0, r1, r2, some (0, w), some (0, x), r5] (st) mem Post = (zvc E n zc_84 d xm_84 57 [r0, r1, r2, some (0, w), some (0, x + 1), r5] (st) mem Post) := zrf rfl
theorem s_84_54p {E : yE} {n d : Nat} {mem : yMem} {Post : Option yV → yMem → Prop} {st : List yV} {r0 r1 r2 r5 : Option yV} {x w : Int} : zvc E (n + 1) zc_84 d xm_84 54 [r0, r1, r2, some (1, w), some (0, x), r5] (st) mem Post = (zvc E n zc_84 d xm_84 57 [r0, r1, r2, some (1, w), some (0, x + 1), r5] (st) mem Post) := zrf rfl
theorem s_84_57 {E : yE} {n d : Nat} {mem : yMem} {Post : Option yV → yMem → Prop} {st : List yV} {r0 r1 r2 r3 r4 r5 : Option yV} : zvc E (n + 1) zc_84 d xm_84 57 [r0, r1, r2, r3, r4, r5] (st) mem Post = (zvc E n zc_84 d xm_84 5 [r0, r1, r2, r3, r4, r5] (st) mem Post) := zrf rfl
theorem s_84_60 {E : yE} {n d : Nat} {mem : yMem} {Post : Option yV → yMem → Prop} {st : List yV} {r0 r1 r2 r4 r5 : Option yV} {x : Int} : zvc E (n + 1) zc_84 d xm_84 60 [r0, r1, r2, some (0, x), r4, r5] (st) mem Post = (zvc E n zc_84 d xm_84 61 [r0, r1, r2, some (0, x), r4, r5] ((0, x) :: st) mem Post) := zrf rfl
theorem s_84_61 {E : yE} {n d : Nat} {mem : yMem} {Post : Option yV → yMem → Prop} {r0 r1 r2 r3 r4 r5 : Option yV} {x : Int} : zvc E (n + 1) zc_84 d xm_84 61 [r0, r1, r2, r3, r4, r5] ([(0, x)]) mem Post = (Post (some (0, x)) mem) := zrf rfl
def zc_85 : List Nat := [4]
theorem s_85_0 {E : yE} {n d : Nat} {mem : yMem} {Post : Option yV → yMem → Prop} {st : List yV} {r0 r1 r2 r3 : Option yV} : zvc E (n + 1) zc_85 d xm_85 0 [r0, r1, r2, r3] (st) mem Post = (zvc E n zc_85 d xm_85 1 [r0, r1, r2, r3] ((0, 0) :: st) mem Post) := zrf rfl
theorem s_85_1n {E : yE} {n d : Nat} {mem : yMem} {Post : Option yV → yMem → Prop} {st : List yV} {r0 r2 r3 : Option yV} {x : Int} : zvc E (n + 1) zc_85 d xm_85 1 [r0, none, r2, r3] ((0, x) :: st) mem Post = (zvc E n zc_85 d xm_85 2 [r0, none, some (0, x), r3] (st) mem Post) := zrf rfl
theorem s_85_1i {E : yE} {n d : Nat} {mem : yMem} {Post : Option yV → yMem → Prop} {st : List yV} {r0 r2 r3 : Option yV} {x w : Int} : zvc E (n + 1) zc_85 d xm_85 1 [r0, some (0, w), r2, r3] ((0, x) :: st) mem Post = (zvc E n zc_85 d xm_85 2 [r0, some (0, w), some (0, x), r3] (st) mem Post) := zrf rfl
theorem s_85_1p {E : yE} {n d : Nat} {mem : yMem} {Post : Option yV → yMem → Prop} {st : List yV} {r0 r2 r3 : Option yV} {x w : Int} : zvc E (n + 1) zc_85 d xm_85 1 [r0, some (1, w), r2, r3] ((0, x) :: st) mem Post = (zvc E n zc_85 d xm_85 2 [r0, some (1, w), some (0, x), r3] (st) mem Post) := zrf rfl
theorem s_85_2 {E : yE} {n d : Nat} {mem : yMem} {Post : Option yV → yMem → Prop} {st : List yV} {r0 r1 r2 r3 : Option yV} : zvc E (n + 1) zc_85 d xm_85 2 [r0, r1, r2, r3] (st) mem Post = (zvc E n zc_85 d xm_85 3 [r0, r1, r2, r3] ((0, 0) :: st) mem Post) := zrf rfl
theorem s_85_3n {E : yE} {n d : Nat} {mem : yMem} {Post : Option yV → yMem → Prop} {st : List yV} {r0 r1 r3 : Option yV} {x : Int} : zvc E (n + 1) zc_85 d xm_85 3 [r0, r1, none, r3] ((0, x) :: st) mem Post = (zvc E n zc_85 d xm_85 4 [r0, r1, none, some (0, x)] (st) mem Post) := zrf rfl
theorem s_85_3i {E : yE} {n d : Nat} {mem : yMem} {Post : Option yV → yMem → Prop} {st : List yV} {r0 r1 r3 : Option yV} {x w : Int} : zvc E (n + 1) zc_85 d xm_85 3 [r0, r1, some (0, w), r3] ((0, x) :: st) mem Post = (zvc E n zc_85 d xm_85 4 [r0, r1, some (0, w), some (0, x)] (st) mem Post) := zrf rfl
theorem s_85_3p {E : yE} {n d : Nat} {mem : yMem} {Post : Option yV → yMem → Prop} {st : List yV} {r0 r1 r3 : Option yV} {x w : Int} : zvc E (n + 1) zc_85 d xm_85 3 [r0, r1, some (1, w), r3] ((0, x) :: st) mem Post = (zvc E n zc_85 d xm_85 4 [r0, r1, some (1, w), some (0, x)] (st) mem Post) := zrf rfl
theorem g_85_4 {E : yE} {n d : Nat} {mem : yMem} {Post : Option yV → yMem → Prop} {st : List yV} {r0 r1 r2 : Option yV} {x : Int} : zgo E n zc_85 d xm_85 4 [r0, r1, r2, some (0, x)] (st) mem Post = (zvc E n zc_85 d xm_85 5 [r0, r1, r2, some (0, x)] ((0, x) :: st) mem Post) := zrf rfl
theorem k_85_4 {E : yE} {n d : Nat} {mem : yMem} {Post : Option yV → yMem → Prop} {st : List yV} {rg : zR} : zvc E (n + 1) zc_85 d xm_85 4 rg st mem Post = zG E d xm_85 4 rg st mem Post := zrf rfl
theorem s_85_5 {E : yE} {n d : Nat} {mem : yMem} {Post : Option yV → yMem → Prop} {st : List yV} {r1 r2 r3 : Option yV} {x : Int} : zvc E (n + 1) zc_85 d xm_85 5 [some (1, x), r1, r2, r3] (st) mem Post = (zvc E n zc_85 d xm_85 6 [some (1, x), r1, r2, r3] ((1, x) :: st) mem Post) := zrf rfl
theorem s_85_6_2 {E : yE} {n d : Nat} {mem : yMem} {Post : Option yV → yMem → Prop} {st : List yV} {r0 r1 r2 r3 : Option yV} : zvc E (n + 1) zc_85 d xm_85 6 [r0, r1, r2, r3] ((1, 2) :: st) mem Post = (zvc E n zc_85 d xm_85 9 [r0, r1, r2, r3] ((1, 19) :: st) mem Post) := zrf rfl
theorem s_85_6_28 {E : yE} {n d : Nat} {mem : yMem} {Post : Option yV → yMem → Prop} {st : List yV} {r0 r1 r2 r3 : Option yV} : zvc E (n + 1) zc_85 d xm_85 6 [r0, r1, r2, r3] ((1, 28) :: st) mem Post = (zvc E n zc_85 d xm_85 9 [r0, r1, r2, r3] ((1, 45) :: st) mem Post) := zrf rfl
theorem s_85_9 {E : yE} {n d : Nat} {mem : yMem} {Post : Option yV → yMem → Prop} {st : List yV} {r0 r2 r3 : Option yV} {x : Int} : zvc E (n + 1) zc_85 d xm_85 9 [r0, some (0, x), r2, r3] (st) mem Post = (zvc E n zc_85 d xm_85 10 [r0, some (0, x), r2, r3] ((0, x) :: st) mem Post) := zrf rfl
theorem s_85_10 {E : yE} {n d : Nat} {mem : yMem} {Post : Option yV → yMem → Prop} {st : List yV} {r0 r1 r2 r3 : Option yV} {z j : Int} : zvc E (n + 1) zc_85 d xm_85 10 [r0, r1, r2, r3] ((0, j) :: (1, z) :: st) mem Post = ((0 ≤ w32 j ∧ w32 j < ((zar z 0 : Nat) : Int)) ∧ zvc E n zc_85 d xm_85 11 [r0, r1, r2, r3] ((0, mem z.toNat (w32 j).toNat) :: st) mem Post) := zrf rfl
theorem s_85_11 {E : yE} {n d : Nat} {mem : yMem} {Post : Option yV → yMem → Prop} {st : List yV} {r0 r1 r2 r3 : Option yV} {x y : Int} : zvc E (n + 1) zc_85 d xm_85 11 [r0, r1, r2, r3] ((0, y) :: (0, x) :: st) mem Post = ((w32 y ≤ w32 x → zvc E n zc_85 d xm_85 32 [r0, r1, r2, r3] (st) mem Post) ∧ (¬ (w32 y ≤ w32 x) → zvc E n zc_85 d xm_85 14 [r0, r1, r2, r3] (st) mem Post)) := zrf rfl
theorem s_85_14 {E : yE} {n d : Nat} {mem : yMem} {Post : Option yV → yMem → Prop} {st : List yV} {r1 r2 r3 : Option yV} {x : Int} : zvc E (n + 1) zc_85 d xm_85 14 [some (1, x), r1, r2, r3] (st) mem Post = (zvc E n zc_85 d xm_85 15 [some (1, x), r1, r2, r3] ((1, x) :: st) mem Post) := zrf rfl
theorem s_85_15 {E : yE} {n d : Nat} {mem : yMem} {Post : Option yV → yMem → Prop} {st : List yV} {r0 r2 r3 : Option yV} {x : Int} : zvc E (n + 1) zc_85 d xm_85 15 [r0, some (0, x), r2, r3] (st) mem Post = (zvc E n zc_85 d xm_85 16 [r0, some (0, x), r2, r3] ((0, x) :: st) mem Post) := zrf rfl
theorem s_85_16 {E : yE} {n d : Nat} {mem : yMem} {Post : Option yV → yMem → Prop} {st : List yV} {r0 r1 r2 : Option yV} {x : Int} : zvc E (n + 1) zc_85 d xm_85 16 [r0, r1, r2, some (0, x)] (st) mem Post = (zvc E n zc_85 d xm_85 17 [r0, r1, r2, some (0, x)] ((0, x) :: st) mem Post) := zrf rfl
theorem s_85_17 {E : yE} {n d : Nat} {mem : yMem} {Post : Option yV → yMem → Prop} {st : List yV} {r0 r1 r2 r3 : Option yV} {z a0 a1 : Int} : zvc E (n + 1) zc_85 (d + 1) xm_85 17 [r0, r1, r2, r3] ((0, a1) :: (0, a0) :: (1, z) :: st) mem Post = (zio z 4 = true ∧ ysum st ≤ 8 ∧ zvc E n [] d xm_82 0 [some (1, z), some (0, a0), some (0, a1)] [] mem (fun v mem' => zvk E n zc_85 (d + 1) xm_85 20 [r0, r1, r2, r3] st v mem' Post)) := zrf rfl
theorem s_85_20 {E : yE} {n d : Nat} {mem : yMem} {Post : Option yV → yMem → Prop} {st : List yV} {r0 r1 r2 r3 : Option yV} {x : Int} : zvc E (n + 1) zc_85 d xm_85 20 [r0, r1, r2, r3] ((0, x) :: st) mem Post = ((¬ w32 x = w32 0 → zvc E n zc_85 d xm_85 26 [r0, r1, r2, r3] (st) mem Post) ∧ (¬ (¬ w32 x = w32 0) → zvc E n zc_85 d xm_85 23 [r0, r1, r2, r3] (st) mem Post)) := zrf rfl
theorem s_85_23n {E : yE} {n d : Nat} {mem : yMem} {Post : Option yV → yMem → Prop} {st : List yV} {r0 r3 : Option yV} {x : Int} : zvc E (n + 1) zc_85 d xm_85 23 [r0, none, some (0, x), r3] (st) mem Post = (zvc E n zc_85 d xm_85 26 [r0, none, some (0, x + 1), r3] (st) mem Post) := zrf rfl
theorem s_85_23i {E : yE} {n d : Nat} {mem : yMem} {Post : Option yV → yMem → Prop} {st : List yV} {r0 r3 : Option yV} {x w : Int} : zvc E (n + 1) zc_85 d xm_85 23 [r0, some (0, w), some (0, x), r3] (st) mem Post = (zvc E n zc_85 d xm_85 26 [r0, some (0, w), some (0, x + 1), r3] (st) mem Post) := zrf rfl
theorem s_85_23p {E : yE} {n d : Nat} {mem : yMem} {Post : Option yV → yMem → Prop} {st : List yV} {r0 r3 : Option yV} {x w : Int} : zvc E (n + 1) zc_85 d xm_85 23 [r0, some (1, w), some (0, x), r3] (st) mem Post = (zvc E n zc_85 d xm_85 26 [r0, some (1, w), some (0, x + 1), r3] (st) mem Post) := zrf rfl
theorem s_85_26n {E : yE} {n d : Nat} {mem : yMem} {Post : Option yV → yMem → Prop} {st : List yV} {r0 r1 : Option yV} {x : Int} : zvc E (n + 1) zc_85 d xm_85 26 [r0, r1, none, some (0, x)] (st) mem Post = (zvc E n zc_85 d xm_85 29 [r0, r1, none, some (0, x + 1)] (st) mem Post) := zrf rfl
theorem s_85_26i {E : yE} {n d : Nat} {mem : yMem} {Post : Option yV → yMem → Prop} {st : List yV} {r0 r1 : Option yV} {x w : Int} : zvc E (n + 1) zc_85 d xm_85 26 [r0, r1, some (0, w), some (0, x)] (st) mem Post = (zvc E n zc_85 d xm_85 29 [r0, r1, some (0, w), some (0, x + 1)] (st) mem Post) := zrf rfl
theorem s_85_26p {E : yE} {n d : Nat} {mem : yMem} {Post : Option yV → yMem → Prop} {st : List yV} {r0 r1 : Option yV} {x w : Int} : zvc E (n + 1) zc_85 d xm_85 26 [r0, r1, some (1, w), some (0, x)] (st) mem Post = (zvc E n zc_85 d xm_85 29 [r0, r1, some (1, w), some (0, x + 1)] (st) mem Post) := zrf rfl
theorem s_85_29 {E : yE} {n d : Nat} {mem : yMem} {Post : Option yV → yMem → Prop} {st : List yV} {r0 r1 r2 r3 : Option yV} : zvc E (n + 1) zc_85 d xm_85 29 [r0, r1, r2, r3] (st) mem Post = (zvc E n zc_85 d xm_85 4 [r0, r1, r2, r3] (st) mem Post) := zrf rfl
theorem s_85_32 {E : yE} {n d : Nat} {mem : yMem} {Post : Option yV → yMem → Prop} {st : List yV} {r0 r1 r3 : Option yV} {x : Int} : zvc E (n + 1) zc_85 d xm_85 32 [r0, r1, some (0, x), r3] (st) mem Post = (zvc E n zc_85 d xm_85 33 [r0, r1, some (0, x), r3] ((0, x) :: st) mem Post) := zrf rfl
theorem s_85_33 {E : yE} {n d : Nat} {mem : yMem} {Post : Option yV → yMem → Prop} {r0 r1 r2 r3 : Option yV} {x : Int} : zvc E (n + 1) zc_85 d xm_85 33 [r0, r1, r2, r3] ([(0, x)]) mem Post = (Post (some (0, x)) mem) := zrf rfl
def zc_80 : List Nat := [4]
theorem s_80_0 {E : yE} {n d : Nat} {mem : yMem} {Post : Option yV → yMem → Prop} {st : List yV} {r0 r1 r2 r3 : Option yV} : zvc E (n + 1) zc_80 d xm_80 0 [r0, r1, r2, r3] (st) mem Post = (zvc E n zc_80 d xm_80 1 [r0, r1, r2, r3] ((0, 0) :: st) mem Post) := zrf rfl
theorem s_80_1n {E : yE} {n d : Nat} {mem : yMem} {Post : Option yV → yMem → Prop} {st : List yV} {r0 r2 r3 : Option yV} {x : Int} : zvc E (n + 1) zc_80 d xm_80 1 [r0, none, r2, r3] ((0, x) :: st) mem Post = (zvc E n zc_80 d xm_80 2 [r0, none, some (0, x), r3] (st) mem Post) := zrf rfl
theorem s_80_1i {E : yE} {n d : Nat} {mem : yMem} {Post : Option yV → yMem → Prop} {st : List yV} {r0 r2 r3 : Option yV} {x w : Int} : zvc E (n + 1) zc_80 d xm_80 1 [r0, some (0, w), r2, r3] ((0, x) :: st) mem Post = (zvc E n zc_80 d xm_80 2 [r0, some (0, w), some (0, x), r3] (st) mem Post) := zrf rfl
theorem s_80_1p {E : yE} {n d : Nat} {mem : yMem} {Post : Option yV → yMem → Prop} {st : List yV} {r0 r2 r3 : Option yV} {x w : Int} : zvc E (n + 1) zc_80 d xm_80 1 [r0, some (1, w), r2, r3] ((0, x) :: st) mem Post = (zvc E n zc_80 d xm_80 2 [r0, some (1, w), some (0, x), r3] (st) mem Post) := zrf rfl
theorem s_80_2 {E : yE} {n d : Nat} {mem : yMem} {Post : Option yV → yMem → Prop} {st : List yV} {r0 r1 r2 r3 : Option yV} : zvc E (n + 1) zc_80 d xm_80 2 [r0, r1, r2, r3] (st) mem Post = (zvc E n zc_80 d xm_80 3 [r0, r1, r2, r3] ((0, 0) :: st) mem Post) := zrf rfl
theorem s_80_3n {E : yE} {n d : Nat} {mem : yMem} {Post : Option yV → yMem → Prop} {st : List yV} {r0 r1 r3 : Option yV} {x : Int} : zvc E (n + 1) zc_80 d xm_80 3 [r0, r1, none, r3] ((0, x) :: st) mem Post = (zvc E n zc_80 d xm_80 4 [r0, r1, none, some (0, x)] (st) mem Post) := zrf rfl
theorem s_80_3i {E : yE} {n d : Nat} {mem : yMem} {Post : Option yV → yMem → Prop} {st : List yV} {r0 r1 r3 : Option yV} {x w : Int} : zvc E (n + 1) zc_80 d xm_80 3 [r0, r1, some (0, w), r3] ((0, x) :: st) mem Post = (zvc E n zc_80 d xm_80 4 [r0, r1, some (0, w), some (0, x)] (st) mem Post) := zrf rfl
theorem s_80_3p {E : yE} {n d : Nat} {mem : yMem} {Post : Option yV → yMem → Prop} {st : List yV} {r0 r1 r3 : Option yV} {x w : Int} : zvc E (n + 1) zc_80 d xm_80 3 [r0, r1, some (1, w), r3] ((0, x) :: st) mem Post = (zvc E n zc_80 d xm_80 4 [r0, r1, some (1, w), some (0, x)] (st) mem Post) := zrf rfl
theorem g_80_4 {E : yE} {n d : Nat} {mem : yMem} {Post : Option yV → yMem → Prop} {st : List yV} {r0 r1 r2 : Option yV} {x : Int} : zgo E n zc_80 d xm_80 4 [r0, r1, r2, some (0, x)] (st) mem Post = (zvc E n zc_80 d xm_80 5 [r0, r1, r2, some (0, x)] ((0, x) :: st) mem Post) := zrf rfl
theorem k_80_4 {E : yE} {n d : Nat} {mem : yMem} {Post : Option yV → yMem → Prop} {st : List yV} {rg : zR} : zvc E (n + 1) zc_80 d xm_80 4 rg st mem Post = zG E d xm_80 4 rg st mem Post := zrf rfl
theorem s_80_5 {E : yE} {n d : Nat} {mem : yMem} {Post : Option yV → yMem → Prop} {st : List yV} {r1 r2 r3 : Option yV} {x : Int} : zvc E (n + 1) zc_80 d xm_80 5 [some (1, x), r1, r2, r3] (st) mem Post = (zvc E n zc_80 d xm_80 6 [some (1, x), r1, r2, r3] ((1, x) :: st) mem Post) := zrf rfl
theorem s_80_6_2 {E : yE} {n d : Nat} {mem : yMem} {Post : Option yV → yMem → Prop} {st : List yV} {r0 r1 r2 r3 : Option yV} : zvc E (n + 1) zc_80 d xm_80 6 [r0, r1, r2, r3] ((1, 2) :: st) mem Post = (zvc E n zc_80 d xm_80 9 [r0, r1, r2, r3] ((1, 19) :: st) mem Post) := zrf rfl
theorem s_80_6_28 {E : yE} {n d : Nat} {mem : yMem} {Post : Option yV → yMem → Prop} {st : List yV} {r0 r1 r2 r3 : Option yV} : zvc E (n + 1) zc_80 d xm_80 6 [r0, r1, r2, r3] ((1, 28) :: st) mem Post = (zvc E n zc_80 d xm_80 9 [r0, r1, r2, r3] ((1, 45) :: st) mem Post) := zrf rfl
theorem s_80_9 {E : yE} {n d : Nat} {mem : yMem} {Post : Option yV → yMem → Prop} {st : List yV} {r0 r2 r3 : Option yV} {x : Int} : zvc E (n + 1) zc_80 d xm_80 9 [r0, some (0, x), r2, r3] (st) mem Post = (zvc E n zc_80 d xm_80 10 [r0, some (0, x), r2, r3] ((0, x) :: st) mem Post) := zrf rfl
theorem s_80_10 {E : yE} {n d : Nat} {mem : yMem} {Post : Option yV → yMem → Prop} {st : List yV} {r0 r1 r2 r3 : Option yV} {z j : Int} : zvc E (n + 1) zc_80 d xm_80 10 [r0, r1, r2, r3] ((0, j) :: (1, z) :: st) mem Post = ((0 ≤ w32 j ∧ w32 j < ((zar z 0 : Nat) : Int)) ∧ zvc E n zc_80 d xm_80 11 [r0, r1, r2, r3] ((0, mem z.toNat (w32 j).toNat) :: st) mem Post) := zrf rfl
theorem s_80_11 {E : yE} {n d : Nat} {mem : yMem} {Post : Option yV → yMem → Prop} {st : List yV} {r0 r1 r2 r3 : Option yV} {x y : Int} : zvc E (n + 1) zc_80 d xm_80 11 [r0, r1, r2, r3] ((0, y) :: (0, x) :: st) mem Post = ((w32 y ≤ w32 x → zvc E n zc_80 d xm_80 31 [r0, r1, r2, r3] (st) mem Post) ∧ (¬ (w32 y ≤ w32 x) → zvc E n zc_80 d xm_80 14 [r0, r1, r2, r3] (st) mem Post)) := zrf rfl
theorem s_80_14 {E : yE} {n d : Nat} {mem : yMem} {Post : Option yV → yMem → Prop} {st : List yV} {r0 r1 r3 : Option yV} {x : Int} : zvc E (n + 1) zc_80 d xm_80 14 [r0, r1, some (0, x), r3] (st) mem Post = (zvc E n zc_80 d xm_80 15 [r0, r1, some (0, x), r3] ((0, x) :: st) mem Post) := zrf rfl
theorem s_80_15 {E : yE} {n d : Nat} {mem : yMem} {Post : Option yV → yMem → Prop} {st : List yV} {r1 r2 r3 : Option yV} {x : Int} : zvc E (n + 1) zc_80 d xm_80 15 [some (1, x), r1, r2, r3] (st) mem Post = (zvc E n zc_80 d xm_80 16 [some (1, x), r1, r2, r3] ((1, x) :: st) mem Post) := zrf rfl
theorem s_80_16 {E : yE} {n d : Nat} {mem : yMem} {Post : Option yV → yMem → Prop} {st : List yV} {r0 r2 r3 : Option yV} {x : Int} : zvc E (n + 1) zc_80 d xm_80 16 [r0, some (0, x), r2, r3] (st) mem Post = (zvc E n zc_80 d xm_80 17 [r0, some (0, x), r2, r3] ((0, x) :: st) mem Post) := zrf rfl
theorem s_80_17 {E : yE} {n d : Nat} {mem : yMem} {Post : Option yV → yMem → Prop} {st : List yV} {r0 r1 r2 : Option yV} {x : Int} : zvc E (n + 1) zc_80 d xm_80 17 [r0, r1, r2, some (0, x)] (st) mem Post = (zvc E n zc_80 d xm_80 18 [r0, r1, r2, some (0, x)] ((0, x) :: st) mem Post) := zrf rfl
theorem s_80_18 {E : yE} {n d : Nat} {mem : yMem} {Post : Option yV → yMem → Prop} {st : List yV} {r0 r1 r2 r3 : Option yV} {z a0 a1 : Int} : zvc E (n + 1) zc_80 (d + 1) xm_80 18 [r0, r1, r2, r3] ((0, a1) :: (0, a0) :: (1, z) :: st) mem Post = (zio z 4 = true ∧ ysum st ≤ 8 ∧ zvc E n [] d xm_82 0 [some (1, z), some (0, a0), some (0, a1)] [] mem (fun v mem' => zvk E n zc_80 (d + 1) xm_80 21 [r0, r1, r2, r3] st v mem' Post)) := zrf rfl
theorem s_80_21 {E : yE} {n d : Nat} {mem : yMem} {Post : Option yV → yMem → Prop} {st : List yV} {r0 r1 r2 r3 : Option yV} {x y : Int} : zvc E (n + 1) zc_80 d xm_80 21 [r0, r1, r2, r3] ((0, y) :: (0, x) :: st) mem Post = (ysum st ≤ 8 ∧ zvc E n zc_80 d xm_80 24 [r0, r1, r2, r3] ((0, zmxi x y) :: st) mem Post) := zrf rfl
theorem s_80_24n {E : yE} {n d : Nat} {mem : yMem} {Post : Option yV → yMem → Prop} {st : List yV} {r0 r2 r3 : Option yV} {x : Int} : zvc E (n + 1) zc_80 d xm_80 24 [r0, none, r2, r3] ((0, x) :: st) mem Post = (zvc E n zc_80 d xm_80 25 [r0, none, some (0, x), r3] (st) mem Post) := zrf rfl
theorem s_80_24i {E : yE} {n d : Nat} {mem : yMem} {Post : Option yV → yMem → Prop} {st : List yV} {r0 r2 r3 : Option yV} {x w : Int} : zvc E (n + 1) zc_80 d xm_80 24 [r0, some (0, w), r2, r3] ((0, x) :: st) mem Post = (zvc E n zc_80 d xm_80 25 [r0, some (0, w), some (0, x), r3] (st) mem Post) := zrf rfl
theorem s_80_24p {E : yE} {n d : Nat} {mem : yMem} {Post : Option yV → yMem → Prop} {st : List yV} {r0 r2 r3 : Option yV} {x w : Int} : zvc E (n + 1) zc_80 d xm_80 24 [r0, some (1, w), r2, r3] ((0, x) :: st) mem Post = (zvc E n zc_80 d xm_80 25 [r0, some (1, w), some (0, x), r3] (st) mem Post) := zrf rfl
theorem s_80_25n {E : yE} {n d : Nat} {mem : yMem} {Post : Option yV → yMem → Prop} {st : List yV} {r0 r1 : Option yV} {x : Int} : zvc E (n + 1) zc_80 d xm_80 25 [r0, r1, none, some (0, x)] (st) mem Post = (zvc E n zc_80 d xm_80 28 [r0, r1, none, some (0, x + 1)] (st) mem Post) := zrf rfl
theorem s_80_25i {E : yE} {n d : Nat} {mem : yMem} {Post : Option yV → yMem → Prop} {st : List yV} {r0 r1 : Option yV} {x w : Int} : zvc E (n + 1) zc_80 d xm_80 25 [r0, r1, some (0, w), some (0, x)] (st) mem Post = (zvc E n zc_80 d xm_80 28 [r0, r1, some (0, w), some (0, x + 1)] (st) mem Post) := zrf rfl
theorem s_80_25p {E : yE} {n d : Nat} {mem : yMem} {Post : Option yV → yMem → Prop} {st : List yV} {r0 r1 : Option yV} {x w : Int} : zvc E (n + 1) zc_80 d xm_80 25 [r0, r1, some (1, w), some (0, x)] (st) mem Post = (zvc E n zc_80 d xm_80 28 [r0, r1, some (1, w), some (0, x + 1)] (st) mem Post) := zrf rfl
theorem s_80_28 {E : yE} {n d : Nat} {mem : yMem} {Post : Option yV → yMem → Prop} {st : List yV} {r0 r1 r2 r3 : Option yV} : zvc E (n + 1) zc_80 d xm_80 28 [r0, r1, r2, r3] (st) mem Post = (zvc E n zc_80 d xm_80 4 [r0, r1, r2, r3] (st) mem Post) := zrf rfl
theorem s_80_31 {E : yE} {n d : Nat} {mem : yMem} {Post : Option yV → yMem → Prop} {st : List yV} {r0 r1 r3 : Option yV} {x : Int} : zvc E (n + 1) zc_80 d xm_80 31 [r0, r1, some (0, x), r3] (st) mem Post = (zvc E n zc_80 d xm_80 32 [r0, r1, some (0, x), r3] ((0, x) :: st) mem Post) := zrf rfl
theorem s_80_32 {E : yE} {n d : Nat} {mem : yMem} {Post : Option yV → yMem → Prop} {r0 r1 r2 r3 : Option yV} {x : Int} : zvc E (n + 1) zc_80 d xm_80 32 [r0, r1, r2, r3] ([(0, x)]) mem Post = (Post (some (0, x)) mem) := zrf rfl
theorem s_99_0 {E : yE} {n d : Nat} {mem : yMem} {Post : Option yV → yMem → Prop} {st : List yV} {r1 r2 : Option yV} {x : Int} : zvc E (n + 1) [] d xm_99 0 [some (1, x), r1, r2] (st) mem Post = (zvc E n [] d xm_99 1 [some (1, x), r1, r2] ((1, x) :: st) mem Post) := zrf rfl
theorem s_99_1 {E : yE} {n d : Nat} {mem : yMem} {Post : Option yV → yMem → Prop} {st : List yV} {r0 r1 r2 : Option yV} : zvc E (n + 1) [] d xm_99 1 [r0, r1, r2] ((1, 73) :: st) mem Post = (zvc E n [] d xm_99 4 [r0, r1, r2] ((1, 57) :: st) mem Post) := zrf rfl
theorem s_99_4 {E : yE} {n d : Nat} {mem : yMem} {Post : Option yV → yMem → Prop} {st : List yV} {r0 r1 : Option yV} {x : Int} : zvc E (n + 1) [] d xm_99 4 [r0, r1, some (0, x)] (st) mem Post = (zvc E n [] d xm_99 5 [r0, r1, some (0, x)] ((0, x) :: st) mem Post) := zrf rfl
theorem s_99_5 {E : yE} {n d : Nat} {mem : yMem} {Post : Option yV → yMem → Prop} {st : List yV} {r0 r1 r2 : Option yV} {z a0 : Int} : zvc E (n + 1) [] (d + 1) xm_99 5 [r0, r1, r2] ((0, a0) :: (1, z) :: st) mem Post = (zio z 10 = true ∧ ysum st ≤ 8 ∧ zvc E n [] d xm_139 0 [some (1, z), some (0, a0)] [] mem (fun v mem' => zvk E n [] (d + 1) xm_99 8 [r0, r1, r2] st v mem' Post)) := zrf rfl
theorem s_99_8 {E : yE} {n d : Nat} {mem : yMem} {Post : Option yV → yMem → Prop} {st : List yV} {r0 r1 r2 : Option yV} {x : Int} : zvc E (n + 1) [] d xm_99 8 [r0, r1, r2] ((0, x) :: st) mem Post = ((w32 x = w32 0 → zvc E n [] d xm_99 15 [r0, r1, r2] (st) mem Post) ∧ (¬ (w32 x = w32 0) → zvc E n [] d xm_99 11 [r0, r1, r2] (st) mem Post)) := zrf rfl
theorem s_99_11 {E : yE} {n d : Nat} {mem : yMem} {Post : Option yV → yMem → Prop} {st : List yV} {r0 r1 r2 : Option yV} : zvc E (n + 1) [] d xm_99 11 [r0, r1, r2] (st) mem Post = (zvc E n [] d xm_99 12 [r0, r1, r2] ((0, 0) :: st) mem Post) := zrf rfl
theorem s_99_12 {E : yE} {n d : Nat} {mem : yMem} {Post : Option yV → yMem → Prop} {st : List yV} {r0 r1 r2 : Option yV} : zvc E (n + 1) [] d xm_99 12 [r0, r1, r2] (st) mem Post = (zvc E n [] d xm_99 24 [r0, r1, r2] (st) mem Post) := zrf rfl
theorem s_99_15 {E : yE} {n d : Nat} {mem : yMem} {Post : Option yV → yMem → Prop} {st : List yV} {r1 r2 : Option yV} {x : Int} : zvc E (n + 1) [] d xm_99 15 [some (1, x), r1, r2] (st) mem Post = (zvc E n [] d xm_99 16 [some (1, x), r1, r2] ((1, x) :: st) mem Post) := zrf rfl
theorem s_99_16 {E : yE} {n d : Nat} {mem : yMem} {Post : Option yV → yMem → Prop} {st : List yV} {r0 r1 r2 : Option yV} : zvc E (n + 1) [] d xm_99 16 [r0, r1, r2] ((1, 73) :: st) mem Post = (zvc E n [] d xm_99 19 [r0, r1, r2] ((1, 2) :: st) mem Post) := zrf rfl
theorem s_99_19 {E : yE} {n d : Nat} {mem : yMem} {Post : Option yV → yMem → Prop} {st : List yV} {r0 r2 : Option yV} {x : Int} : zvc E (n + 1) [] d xm_99 19 [r0, some (0, x), r2] (st) mem Post = (zvc E n [] d xm_99 20 [r0, some (0, x), r2] ((0, x) :: st) mem Post) := zrf rfl
theorem s_99_20 {E : yE} {n d : Nat} {mem : yMem} {Post : Option yV → yMem → Prop} {st : List yV} {r0 r1 : Option yV} {x : Int} : zvc E (n + 1) [] d xm_99 20 [r0, r1, some (0, x)] (st) mem Post = (zvc E n [] d xm_99 21 [r0, r1, some (0, x)] ((0, x) :: st) mem Post) := zrf rfl
theorem s_99_21 {E : yE} {n d : Nat} {mem : yMem} {Post : Option yV → yMem → Prop} {st : List yV} {r0 r1 r2 : Option yV} {z a0 a1 : Int} : zvc E (n + 1) [] d xm_99 21 [r0, r1, r2] ((0, a1) :: (0, a0) :: (1, z) :: st) mem Post = (zio z 4 = true ∧ ysum st ≤ 8 ∧ yCon E d xm_84 [(1, z), (0, a0), (0, a1)] mem (fun v mem' => zgk E d xm_99 24 [r0, r1, r2] st v mem' Post)) := zrf rfl
theorem s_99_24 {E : yE} {n d : Nat} {mem : yMem} {Post : Option yV → yMem → Prop} {r0 r1 r2 : Option yV} {x : Int} : zvc E (n + 1) [] d xm_99 24 [r0, r1, r2] ([(0, x)]) mem Post = (Post (some (0, x)) mem) := zrf rfl
theorem e_84 {E : yE} {d : Nat} {mem : yMem} {Q : Option yV → yMem → Prop} {z a0 a1 : Int} (h : zG E d xm_84 0 [some (1, z), some (0, a0), some (0, a1), none, none, none] [] mem Q) : yCon E (d + 1) xm_84 [(1, z), (0, a0), (0, a1)] mem Q := zcon_of xmo_84 (Nat.le_of_ble_eq_true rfl) h
theorem e_85 {E : yE} {d : Nat} {mem : yMem} {Q : Option yV → yMem → Prop} {z a0 : Int} (h : zG E d xm_85 0 [some (1, z), some (0, a0), none, none] [] mem Q) : yCon E (d + 1) xm_85 [(1, z), (0, a0)] mem Q := zcon_of xmo_85 (Nat.le_of_ble_eq_true rfl) h
theorem e_80 {E : yE} {d : Nat} {mem : yMem} {Q : Option yV → yMem → Prop} {z a0 : Int} (h : zG E d xm_80 0 [some (1, z), some (0, a0), none, none] [] mem Q) : yCon E (d + 1) xm_80 [(1, z), (0, a0)] mem Q := zcon_of xmo_80 (Nat.le_of_ble_eq_true rfl) h
theorem e_99 {E : yE} {d : Nat} {mem : yMem} {Q : Option yV → yMem → Prop} {z a0 a1 : Int} (h : zG E d xm_99 0 [some (1, z), some (0, a0), some (0, a1)] [] mem Q) : yCon E (d + 1) xm_99 [(1, z), (0, a0), (0, a1)] mem Q := zcon_of xmo_99 (Nat.le_of_ble_eq_true rfl) h

/-! THE CLASS: what a VOICE SOUNDS, rests, the greatest pitch -/
theorem ix8 {S i : Int} {p j : Nat} (hS : w32 S = (p : Int)) (hi : w32 i = (j : Int)) (hp : p < 12) (hj : j < 8) : w32 (S * 8 + i) = ((p * 8 + j : Nat) : Int) := by
  rw [Int.mul_comm, ix_c (by decide) (by omega) (by omega) (by omega) (by omega)]
  omega
theorem ix8r {S i : Int} {p j : Nat} (hS : w32 S = (p : Int)) (hi : w32 i = (j : Int)) (hp : p < 12) (hj : j < 8) : w32 (8 * S + i) = ((p * 8 + j : Nat) : Int) := by
  rw [Int.mul_comm]
  exact ix8 hS hi hp hj
theorem w32_s1 {I : Int} {i : Nat} (h : w32 I = (i : Int)) (hi : i < 1000) : w32 (I + 1) = ((i + 1 : Nat) : Int) := by
  rw [w32_ad (by rw [w32c_1]; omega) (by rw [w32c_1]; omega), w32c_1]
  omega
theorem w32_t {S : Int} {p : Nat} (h : w32 S = (p : Int)) : (w32 S).toNat = p := by rw [h]; exact Int.toNat_natCast _
section CS
variable {E : yE} {mem : yMem} {Q : Option yV → yMem → Prop} {D : dDc} {p v : Nat} {S V : Int} {d : Nat}
theorem x_reach_l (hE : yEok E) (hS : w32 S = (p : Int)) (hV : w32 V = (v : Int)) (h : cDh mem D) (hp : uPv D p) (hv : v < D.2.1.length) (hQ : ∀ r, w32 r = ((sBits D p v : Nat) : Int) → Q (some (0, r)) mem) : ∀ (c i : Nat) (I x : Int) (r5 : Option yV), (sBr D p).length - i = c → i ≤ (sBr D p).length → w32 I = (i : Int) → w32 x = ((nBt (sSo D p v) i : Nat) : Int) → zG E (d + 1) xm_84 5 [some (1, 2), some (0, S), some (0, V), some (0, x), some (0, I), r5] [] mem Q := by
  obtain ⟨⟨b1, b2⟩, b3⟩ := cTb_p h hp
  obtain ⟨v1, v2, -⟩ := cTb_v h hv
  have hp12 := (uPv_lt h hp).1
  have hn := (cTb_n h).2.1.2
  have St := w32_t hS
  have Vt := w32_t hV
  intro c
  induction c with
  | zero =>
    intro i I x r5 hc hi hI hx
    refine zgo_ok (n := 60) hE xmo_84 (cs := zc_84) ?_
    simp only [ynok_30, ynok_31, w32c_0, w32c_1, w32c_2, w32c_3, w32c_4, w32c_5, w32c_6, w32c_7, w32c_8, w32c_9, w32c_10, w32c_11, w32c_12, w32c_13, w32c_14, w32c_m1, w32c_m2, w32c_118, Int.reduceAdd, Int.reduceSub, Int.reduceMul, yput_s, yput_n, znl_n, znl_0, znl_1, znl_4, ysum_n, ysum_0, ysum_1, ysum_4, true_and, and_true, Nat.reduceAdd, Nat.reduceLeDiff, true_implies, eq_self, true_or, or_true, or_false, false_or, not_true_eq_false, not_false_eq_true, false_implies, implies_true, yset_s, yset_o, yset_d, ne_eq, Nat.reduceEqDiff, Int.reduceToNat, Int.reduceEq, Int.reduceLE, Int.reduceLT, Classical.not_not, Nat.reduceLT, ↓zvk_s, ↓zvk_n, ↓s_84_0, ↓s_84_1n, ↓s_84_1i, ↓s_84_1p, ↓s_84_2, ↓s_84_3n, ↓s_84_3i, ↓s_84_3p, ↓g_84_5, ↓k_84_5, ↓s_84_7, ↓s_84_8_2, ↓s_84_8_28, ↓s_84_11, ↓s_84_12, ↓s_84_13, ↓s_84_16, ↓s_84_17, ↓s_84_18, ↓s_84_20, ↓s_84_23n, ↓s_84_23i, ↓s_84_23p, ↓s_84_25, ↓s_84_27, ↓s_84_28_2, ↓s_84_28_28, ↓s_84_31, ↓s_84_32, ↓s_84_33, ↓s_84_36, ↓s_84_38, ↓s_84_39_2, ↓s_84_39_28, ↓s_84_42, ↓s_84_43, ↓s_84_44, ↓s_84_47, ↓s_84_48, ↓s_84_49, ↓s_84_51, ↓s_84_52, ↓s_84_53n, ↓s_84_53i, ↓s_84_53p, ↓s_84_54n, ↓s_84_54i, ↓s_84_54p, ↓s_84_57, ↓s_84_60, ↓s_84_61, ↓s_82_0, ↓s_82_1_2, ↓s_82_1_28, ↓s_82_4, ↓s_82_5, ↓s_82_7, ↓s_82_8, ↓s_82_9, ↓s_82_10, ↓s_82_11, zio_2, zar_39, zia_39, zln_39, zit_39, zar_40, zia_40, zln_40, zit_40, zar_13, zia_13, zln_13, zit_13, zar_45, zia_45, zln_45, zit_45, zar_14, zia_14, zln_14, zit_14, zar_46, zia_46, zln_46, zit_46, zar_19, zia_19, zln_19, zit_19, zar_20, zia_20, zln_20, zit_20, zio_28, St, Vt]
    have e : i = (sBr D p).length := by omega
    subst e
    exact ⟨⟨by omega, by omega⟩, fun _ => hQ _ hx, fun hh => absurd (show w32 (mem 19 p) ≤ w32 I by omega) hh⟩
  | succ c ih =>
    intro i I x r5 hc hi hI hx
    have e1 := w32_s1 hI (by omega)
    have ix := ix8 hS hI hp12 (by omega)
    have it := w32_t ix
    have b := b3 i (by omega)
    have hf : sSo D p v i = decide (vLo D v ≤ (sBr D p).getD i 0 ∧ (sBr D p).getD i 0 ≤ vHi D v) := rfl
    have no : ∀ r5, ¬ (vLo D v ≤ (sBr D p).getD i 0 ∧ (sBr D p).getD i 0 ≤ vHi D v) → zG E (d + 1) xm_84 5 [some (1, 2), some (0, S), some (0, V), some (0, x), some (0, I + 1), r5] [] mem Q := fun r5 z => ih (i + 1) (I + 1) x r5 (by omega) (by omega) e1 (by
      rw [hx]
      simp only [nBt]
      rw [hf, decide_eq_false z, if_neg (by decide)]
      rfl)
    have ys : ∀ r5, (vLo D v ≤ (sBr D p).getD i 0 ∧ (sBr D p).getD i 0 ≤ vHi D v) → zG E (d + 1) xm_84 5 [some (1, 2), some (0, S), some (0, V), some (0, ybin 4 x (ybin 6 1 I)), some (0, I + 1), r5] [] mem Q := fun r5 z => ih (i + 1) (I + 1) _ r5 (by omega) (by omega) e1 (by
      rw [yb_bt (by omega) hx hI]
      simp only [nBt]
      rw [hf, decide_eq_true z, if_pos rfl])
    refine zgo_ok (n := 60) hE xmo_84 (cs := zc_84) ?_
    simp only [ynok_30, ynok_31, w32c_0, w32c_1, w32c_2, w32c_3, w32c_4, w32c_5, w32c_6, w32c_7, w32c_8, w32c_9, w32c_10, w32c_11, w32c_12, w32c_13, w32c_14, w32c_m1, w32c_m2, w32c_118, Int.reduceAdd, Int.reduceSub, Int.reduceMul, yput_s, yput_n, znl_n, znl_0, znl_1, znl_4, ysum_n, ysum_0, ysum_1, ysum_4, true_and, and_true, Nat.reduceAdd, Nat.reduceLeDiff, true_implies, eq_self, true_or, or_true, or_false, false_or, not_true_eq_false, not_false_eq_true, false_implies, implies_true, yset_s, yset_o, yset_d, ne_eq, Nat.reduceEqDiff, Int.reduceToNat, Int.reduceEq, Int.reduceLE, Int.reduceLT, Classical.not_not, Nat.reduceLT, ↓zvk_s, ↓zvk_n, ↓s_84_0, ↓s_84_1n, ↓s_84_1i, ↓s_84_1p, ↓s_84_2, ↓s_84_3n, ↓s_84_3i, ↓s_84_3p, ↓g_84_5, ↓k_84_5, ↓s_84_7, ↓s_84_8_2, ↓s_84_8_28, ↓s_84_11, ↓s_84_12, ↓s_84_13, ↓s_84_16, ↓s_84_17, ↓s_84_18, ↓s_84_20, ↓s_84_23n, ↓s_84_23i, ↓s_84_23p, ↓s_84_25, ↓s_84_27, ↓s_84_28_2, ↓s_84_28_28, ↓s_84_31, ↓s_84_32, ↓s_84_33, ↓s_84_36, ↓s_84_38, ↓s_84_39_2, ↓s_84_39_28, ↓s_84_42, ↓s_84_43, ↓s_84_44, ↓s_84_47, ↓s_84_48, ↓s_84_49, ↓s_84_51, ↓s_84_52, ↓s_84_53n, ↓s_84_53i, ↓s_84_53p, ↓s_84_54n, ↓s_84_54i, ↓s_84_54p, ↓s_84_57, ↓s_84_60, ↓s_84_61, ↓s_82_0, ↓s_82_1_2, ↓s_82_1_28, ↓s_82_4, ↓s_82_5, ↓s_82_7, ↓s_82_8, ↓s_82_9, ↓s_82_10, ↓s_82_11, zio_2, zar_39, zia_39, zln_39, zit_39, zar_40, zia_40, zln_40, zit_40, zar_13, zia_13, zln_13, zit_13, zar_45, zia_45, zln_45, zit_45, zar_14, zia_14, zln_14, zit_14, zar_46, zia_46, zln_46, zit_46, zar_19, zia_19, zln_19, zit_19, zar_20, zia_20, zln_20, zit_20, zio_28, St, Vt, it]
    exact ⟨⟨by omega, by omega⟩, fun hh => absurd hh (by omega), fun _ => ⟨⟨by omega, by omega⟩, ⟨by omega, by omega⟩, fun z => no _ (by omega), fun z => ⟨⟨by omega, by omega⟩, fun z2 => no _ (by omega), fun z2 => ys _ (by omega)⟩⟩⟩
theorem x_reach (hE : yEok E) {D0 : Nat} (hD : 2 ≤ D0) (hS : w32 S = (p : Int)) (hV : w32 V = (v : Int)) (h : cDh mem D) (hp : uPv D p) (hv : v < D.2.1.length) (hQ : ∀ r, w32 r = ((sBits D p v : Nat) : Int) → Q (some (0, r)) mem) : yCon E D0 xm_84 [(1, 2), (0, S), (0, V)] mem Q := by
  obtain ⟨d, rfl⟩ := Nat.exists_eq_add_of_le' hD
  refine e_84 ?_
  refine zvc_ok hE 60 zc_84 _ _ _ _ _ _ _ xmo_84 ?_
  simp only [ynok_30, ynok_31, w32c_0, w32c_1, w32c_2, w32c_3, w32c_4, w32c_5, w32c_6, w32c_7, w32c_8, w32c_9, w32c_10, w32c_11, w32c_12, w32c_13, w32c_14, w32c_m1, w32c_m2, w32c_118, Int.reduceAdd, Int.reduceSub, Int.reduceMul, yput_s, yput_n, znl_n, znl_0, znl_1, znl_4, ysum_n, ysum_0, ysum_1, ysum_4, true_and, and_true, Nat.reduceAdd, Nat.reduceLeDiff, true_implies, eq_self, true_or, or_true, or_false, false_or, not_true_eq_false, not_false_eq_true, false_implies, implies_true, yset_s, yset_o, yset_d, ne_eq, Nat.reduceEqDiff, Int.reduceToNat, Int.reduceEq, Int.reduceLE, Int.reduceLT, Classical.not_not, Nat.reduceLT, ↓zvk_s, ↓zvk_n, ↓s_84_0, ↓s_84_1n, ↓s_84_1i, ↓s_84_1p, ↓s_84_2, ↓s_84_3n, ↓s_84_3i, ↓s_84_3p, ↓g_84_5, ↓k_84_5, ↓s_84_7, ↓s_84_8_2, ↓s_84_8_28, ↓s_84_11, ↓s_84_12, ↓s_84_13, ↓s_84_16, ↓s_84_17, ↓s_84_18, ↓s_84_20, ↓s_84_23n, ↓s_84_23i, ↓s_84_23p, ↓s_84_25, ↓s_84_27, ↓s_84_28_2, ↓s_84_28_28, ↓s_84_31, ↓s_84_32, ↓s_84_33, ↓s_84_36, ↓s_84_38, ↓s_84_39_2, ↓s_84_39_28, ↓s_84_42, ↓s_84_43, ↓s_84_44, ↓s_84_47, ↓s_84_48, ↓s_84_49, ↓s_84_51, ↓s_84_52, ↓s_84_53n, ↓s_84_53i, ↓s_84_53p, ↓s_84_54n, ↓s_84_54i, ↓s_84_54p, ↓s_84_57, ↓s_84_60, ↓s_84_61, zio_2, zar_39, zia_39, zln_39, zit_39, zar_40, zia_40, zln_40, zit_40, zar_13, zia_13, zln_13, zit_13, zar_45, zia_45, zln_45, zit_45, zar_14, zia_14, zln_14, zit_14, zar_19, zia_19, zln_19, zit_19, zio_28]
  exact x_reach_l hE hS hV h hp hv hQ _ 0 0 0 _ rfl (Nat.zero_le _) w32c_0 w32c_0
theorem x_rests_l (hE : yEok E) (hS : w32 S = (p : Int)) (h : cDh mem D) (hp : uPv D p) (hQ : ∀ r, w32 r = ((sRes D p : Nat) : Int) → Q (some (0, r)) mem) : ∀ (c i : Nat) (I x : Int), (sBr D p).length - i = c → i ≤ (sBr D p).length → w32 I = (i : Int) → w32 x = ((nCt (fRe (sBr D p)) i : Nat) : Int) → zG E (d + 1) xm_85 4 [some (1, 2), some (0, S), some (0, x), some (0, I)] [] mem Q := by
  obtain ⟨⟨b1, b2⟩, b3⟩ := cTb_p h hp
  have hp12 := (uPv_lt h hp).1
  have St := w32_t hS
  intro c
  induction c with
  | zero =>
    intro i I x hc hi hI hx
    refine zgo_ok (n := 60) hE xmo_85 (cs := zc_85) ?_
    simp only [ynok_30, ynok_31, w32c_0, w32c_1, w32c_2, w32c_3, w32c_4, w32c_5, w32c_6, w32c_7, w32c_8, w32c_9, w32c_10, w32c_11, w32c_12, w32c_13, w32c_14, w32c_m1, w32c_m2, w32c_118, Int.reduceAdd, Int.reduceSub, Int.reduceMul, yput_s, yput_n, znl_n, znl_0, znl_1, znl_4, ysum_n, ysum_0, ysum_1, ysum_4, true_and, and_true, Nat.reduceAdd, Nat.reduceLeDiff, true_implies, eq_self, true_or, or_true, or_false, false_or, not_true_eq_false, not_false_eq_true, false_implies, implies_true, yset_s, yset_o, yset_d, ne_eq, Nat.reduceEqDiff, Int.reduceToNat, Int.reduceEq, Int.reduceLE, Int.reduceLT, Classical.not_not, Nat.reduceLT, ↓zvk_s, ↓zvk_n, ↓s_85_0, ↓s_85_1n, ↓s_85_1i, ↓s_85_1p, ↓s_85_2, ↓s_85_3n, ↓s_85_3i, ↓s_85_3p, ↓g_85_4, ↓k_85_4, ↓s_85_5, ↓s_85_6_2, ↓s_85_6_28, ↓s_85_9, ↓s_85_10, ↓s_85_11, ↓s_85_14, ↓s_85_15, ↓s_85_16, ↓s_85_17, ↓s_85_20, ↓s_85_23n, ↓s_85_23i, ↓s_85_23p, ↓s_85_26n, ↓s_85_26i, ↓s_85_26p, ↓s_85_29, ↓s_85_32, ↓s_85_33, ↓s_82_0, ↓s_82_1_2, ↓s_82_1_28, ↓s_82_4, ↓s_82_5, ↓s_82_7, ↓s_82_8, ↓s_82_9, ↓s_82_10, ↓s_82_11, zio_2, zar_19, zia_19, zln_19, zit_19, zar_20, zia_20, zln_20, zit_20, zio_28, zar_45, zia_45, zln_45, zit_45, zar_46, zia_46, zln_46, zit_46, St]
    have e : i = (sBr D p).length := by omega
    subst e
    exact ⟨⟨by omega, by omega⟩, fun _ => hQ _ hx, fun hh => absurd (show w32 (mem 19 p) ≤ w32 I by omega) hh⟩
  | succ c ih =>
    intro i I x hc hi hI hx
    have e1 := w32_s1 hI (by omega)
    have ix := ix8 hS hI hp12 (by omega)
    have it := w32_t ix
    have b := b3 i (by omega)
    have hcl := nCt_le (fRe (sBr D p)) i
    have ex := w32_s1 hx (by omega)
    have hf : fRe (sBr D p) i = decide ((sBr D p).getD i 0 = 0) := rfl
    refine zgo_ok (n := 60) hE xmo_85 (cs := zc_85) ?_
    simp only [ynok_30, ynok_31, w32c_0, w32c_1, w32c_2, w32c_3, w32c_4, w32c_5, w32c_6, w32c_7, w32c_8, w32c_9, w32c_10, w32c_11, w32c_12, w32c_13, w32c_14, w32c_m1, w32c_m2, w32c_118, Int.reduceAdd, Int.reduceSub, Int.reduceMul, yput_s, yput_n, znl_n, znl_0, znl_1, znl_4, ysum_n, ysum_0, ysum_1, ysum_4, true_and, and_true, Nat.reduceAdd, Nat.reduceLeDiff, true_implies, eq_self, true_or, or_true, or_false, false_or, not_true_eq_false, not_false_eq_true, false_implies, implies_true, yset_s, yset_o, yset_d, ne_eq, Nat.reduceEqDiff, Int.reduceToNat, Int.reduceEq, Int.reduceLE, Int.reduceLT, Classical.not_not, Nat.reduceLT, ↓zvk_s, ↓zvk_n, ↓s_85_0, ↓s_85_1n, ↓s_85_1i, ↓s_85_1p, ↓s_85_2, ↓s_85_3n, ↓s_85_3i, ↓s_85_3p, ↓g_85_4, ↓k_85_4, ↓s_85_5, ↓s_85_6_2, ↓s_85_6_28, ↓s_85_9, ↓s_85_10, ↓s_85_11, ↓s_85_14, ↓s_85_15, ↓s_85_16, ↓s_85_17, ↓s_85_20, ↓s_85_23n, ↓s_85_23i, ↓s_85_23p, ↓s_85_26n, ↓s_85_26i, ↓s_85_26p, ↓s_85_29, ↓s_85_32, ↓s_85_33, ↓s_82_0, ↓s_82_1_2, ↓s_82_1_28, ↓s_82_4, ↓s_82_5, ↓s_82_7, ↓s_82_8, ↓s_82_9, ↓s_82_10, ↓s_82_11, zio_2, zar_19, zia_19, zln_19, zit_19, zar_20, zia_20, zln_20, zit_20, zio_28, zar_45, zia_45, zln_45, zit_45, zar_46, zia_46, zln_46, zit_46, St, it]
    refine ⟨⟨by omega, by omega⟩, fun hh => absurd hh (by omega), fun _ => ⟨⟨by omega, by omega⟩, fun z => ih (i + 1) (I + 1) x (by omega) (by omega) e1 ?_, fun z => ih (i + 1) (I + 1) (x + 1) (by omega) (by omega) e1 ?_⟩⟩
    · rw [hx]
      simp only [nCt]
      rw [hf, decide_eq_false (by omega), if_neg (by decide)]
      rfl
    · rw [ex]
      simp only [nCt]
      rw [hf, decide_eq_true (by omega), if_pos rfl]
theorem x_rests (hE : yEok E) {D0 : Nat} (hD : 2 ≤ D0) (hS : w32 S = (p : Int)) (h : cDh mem D) (hp : uPv D p) (hQ : ∀ r, w32 r = ((sRes D p : Nat) : Int) → Q (some (0, r)) mem) : yCon E D0 xm_85 [(1, 2), (0, S)] mem Q := by
  obtain ⟨d, rfl⟩ := Nat.exists_eq_add_of_le' hD
  refine e_85 ?_
  refine zvc_ok hE 60 zc_85 _ _ _ _ _ _ _ xmo_85 ?_
  simp only [ynok_30, ynok_31, w32c_0, w32c_1, w32c_2, w32c_3, w32c_4, w32c_5, w32c_6, w32c_7, w32c_8, w32c_9, w32c_10, w32c_11, w32c_12, w32c_13, w32c_14, w32c_m1, w32c_m2, w32c_118, Int.reduceAdd, Int.reduceSub, Int.reduceMul, yput_s, yput_n, znl_n, znl_0, znl_1, znl_4, ysum_n, ysum_0, ysum_1, ysum_4, true_and, and_true, Nat.reduceAdd, Nat.reduceLeDiff, true_implies, eq_self, true_or, or_true, or_false, false_or, not_true_eq_false, not_false_eq_true, false_implies, implies_true, yset_s, yset_o, yset_d, ne_eq, Nat.reduceEqDiff, Int.reduceToNat, Int.reduceEq, Int.reduceLE, Int.reduceLT, Classical.not_not, Nat.reduceLT, ↓zvk_s, ↓zvk_n, ↓s_85_0, ↓s_85_1n, ↓s_85_1i, ↓s_85_1p, ↓s_85_2, ↓s_85_3n, ↓s_85_3i, ↓s_85_3p, ↓g_85_4, ↓k_85_4, ↓s_85_5, ↓s_85_6_2, ↓s_85_6_28, ↓s_85_9, ↓s_85_10, ↓s_85_11, ↓s_85_14, ↓s_85_15, ↓s_85_16, ↓s_85_17, ↓s_85_20, ↓s_85_23n, ↓s_85_23i, ↓s_85_23p, ↓s_85_26n, ↓s_85_26i, ↓s_85_26p, ↓s_85_29, ↓s_85_32, ↓s_85_33, zio_2, zar_19, zia_19, zln_19, zit_19, zio_28, zar_45, zia_45, zln_45, zit_45]
  exact x_rests_l hE hS h hp hQ _ 0 0 0 rfl (Nat.zero_le _) w32c_0 w32c_0
theorem x_high_l (hE : yEok E) (hS : w32 S = (p : Int)) (h : cDh mem D) (hp : uPv D p) (hQ : ∀ r, w32 r = sHig D p → Q (some (0, r)) mem) : ∀ (c i : Nat) (I x : Int), (sBr D p).length - i = c → i ≤ (sBr D p).length → w32 I = (i : Int) → w32 x = nMx (fun j => (sBr D p).getD j 0) i → zG E (d + 1) xm_80 4 [some (1, 2), some (0, S), some (0, x), some (0, I)] [] mem Q := by
  obtain ⟨⟨b1, b2⟩, b3⟩ := cTb_p h hp
  have hp12 := (uPv_lt h hp).1
  have St := w32_t hS
  intro c
  induction c with
  | zero =>
    intro i I x hc hi hI hx
    refine zgo_ok (n := 60) hE xmo_80 (cs := zc_80) ?_
    simp only [ynok_30, ynok_31, w32c_0, w32c_1, w32c_2, w32c_3, w32c_4, w32c_5, w32c_6, w32c_7, w32c_8, w32c_9, w32c_10, w32c_11, w32c_12, w32c_13, w32c_14, w32c_m1, w32c_m2, w32c_118, Int.reduceAdd, Int.reduceSub, Int.reduceMul, yput_s, yput_n, znl_n, znl_0, znl_1, znl_4, ysum_n, ysum_0, ysum_1, ysum_4, true_and, and_true, Nat.reduceAdd, Nat.reduceLeDiff, true_implies, eq_self, true_or, or_true, or_false, false_or, not_true_eq_false, not_false_eq_true, false_implies, implies_true, yset_s, yset_o, yset_d, ne_eq, Nat.reduceEqDiff, Int.reduceToNat, Int.reduceEq, Int.reduceLE, Int.reduceLT, Classical.not_not, Nat.reduceLT, ↓zvk_s, ↓zvk_n, ↓s_80_0, ↓s_80_1n, ↓s_80_1i, ↓s_80_1p, ↓s_80_2, ↓s_80_3n, ↓s_80_3i, ↓s_80_3p, ↓g_80_4, ↓k_80_4, ↓s_80_5, ↓s_80_6_2, ↓s_80_6_28, ↓s_80_9, ↓s_80_10, ↓s_80_11, ↓s_80_14, ↓s_80_15, ↓s_80_16, ↓s_80_17, ↓s_80_18, ↓s_80_21, ↓s_80_24n, ↓s_80_24i, ↓s_80_24p, ↓s_80_25n, ↓s_80_25i, ↓s_80_25p, ↓s_80_28, ↓s_80_31, ↓s_80_32, ↓s_82_0, ↓s_82_1_2, ↓s_82_1_28, ↓s_82_4, ↓s_82_5, ↓s_82_7, ↓s_82_8, ↓s_82_9, ↓s_82_10, ↓s_82_11, zio_2, zar_19, zia_19, zln_19, zit_19, zar_20, zia_20, zln_20, zit_20, zio_28, zar_45, zia_45, zln_45, zit_45, zar_46, zia_46, zln_46, zit_46, St]
    have e : i = (sBr D p).length := by omega
    subst e
    exact ⟨⟨by omega, by omega⟩, fun _ => hQ _ hx, fun hh => absurd (show w32 (mem 19 p) ≤ w32 I by omega) hh⟩
  | succ c ih =>
    intro i I x hc hi hI hx
    have e1 := w32_s1 hI (by omega)
    have ix := ix8 hS hI hp12 (by omega)
    have it := w32_t ix
    have b := b3 i (by omega)
    refine zgo_ok (n := 60) hE xmo_80 (cs := zc_80) ?_
    simp only [ynok_30, ynok_31, w32c_0, w32c_1, w32c_2, w32c_3, w32c_4, w32c_5, w32c_6, w32c_7, w32c_8, w32c_9, w32c_10, w32c_11, w32c_12, w32c_13, w32c_14, w32c_m1, w32c_m2, w32c_118, Int.reduceAdd, Int.reduceSub, Int.reduceMul, yput_s, yput_n, znl_n, znl_0, znl_1, znl_4, ysum_n, ysum_0, ysum_1, ysum_4, true_and, and_true, Nat.reduceAdd, Nat.reduceLeDiff, true_implies, eq_self, true_or, or_true, or_false, false_or, not_true_eq_false, not_false_eq_true, false_implies, implies_true, yset_s, yset_o, yset_d, ne_eq, Nat.reduceEqDiff, Int.reduceToNat, Int.reduceEq, Int.reduceLE, Int.reduceLT, Classical.not_not, Nat.reduceLT, ↓zvk_s, ↓zvk_n, ↓s_80_0, ↓s_80_1n, ↓s_80_1i, ↓s_80_1p, ↓s_80_2, ↓s_80_3n, ↓s_80_3i, ↓s_80_3p, ↓g_80_4, ↓k_80_4, ↓s_80_5, ↓s_80_6_2, ↓s_80_6_28, ↓s_80_9, ↓s_80_10, ↓s_80_11, ↓s_80_14, ↓s_80_15, ↓s_80_16, ↓s_80_17, ↓s_80_18, ↓s_80_21, ↓s_80_24n, ↓s_80_24i, ↓s_80_24p, ↓s_80_25n, ↓s_80_25i, ↓s_80_25p, ↓s_80_28, ↓s_80_31, ↓s_80_32, ↓s_82_0, ↓s_82_1_2, ↓s_82_1_28, ↓s_82_4, ↓s_82_5, ↓s_82_7, ↓s_82_8, ↓s_82_9, ↓s_82_10, ↓s_82_11, zio_2, zar_19, zia_19, zln_19, zit_19, zar_20, zia_20, zln_20, zit_20, zio_28, zar_45, zia_45, zln_45, zit_45, zar_46, zia_46, zln_46, zit_46, St, it]
    exact ⟨⟨by omega, by omega⟩, fun hh => absurd hh (by omega), fun _ => ⟨⟨by omega, by omega⟩, ih (i + 1) (I + 1) _ (by omega) (by omega) e1 (by rw [w32_mx, hx, b]; rfl)⟩⟩
theorem x_high (hE : yEok E) {D0 : Nat} (hD : 2 ≤ D0) (hS : w32 S = (p : Int)) (h : cDh mem D) (hp : uPv D p) (hQ : ∀ r, w32 r = sHig D p → Q (some (0, r)) mem) : yCon E D0 xm_80 [(1, 2), (0, S)] mem Q := by
  obtain ⟨d, rfl⟩ := Nat.exists_eq_add_of_le' hD
  refine e_80 ?_
  refine zvc_ok hE 60 zc_80 _ _ _ _ _ _ _ xmo_80 ?_
  simp only [ynok_30, ynok_31, w32c_0, w32c_1, w32c_2, w32c_3, w32c_4, w32c_5, w32c_6, w32c_7, w32c_8, w32c_9, w32c_10, w32c_11, w32c_12, w32c_13, w32c_14, w32c_m1, w32c_m2, w32c_118, Int.reduceAdd, Int.reduceSub, Int.reduceMul, yput_s, yput_n, znl_n, znl_0, znl_1, znl_4, ysum_n, ysum_0, ysum_1, ysum_4, true_and, and_true, Nat.reduceAdd, Nat.reduceLeDiff, true_implies, eq_self, true_or, or_true, or_false, false_or, not_true_eq_false, not_false_eq_true, false_implies, implies_true, yset_s, yset_o, yset_d, ne_eq, Nat.reduceEqDiff, Int.reduceToNat, Int.reduceEq, Int.reduceLE, Int.reduceLT, Classical.not_not, Nat.reduceLT, ↓zvk_s, ↓zvk_n, ↓s_80_0, ↓s_80_1n, ↓s_80_1i, ↓s_80_1p, ↓s_80_2, ↓s_80_3n, ↓s_80_3i, ↓s_80_3p, ↓g_80_4, ↓k_80_4, ↓s_80_5, ↓s_80_6_2, ↓s_80_6_28, ↓s_80_9, ↓s_80_10, ↓s_80_11, ↓s_80_14, ↓s_80_15, ↓s_80_16, ↓s_80_17, ↓s_80_18, ↓s_80_21, ↓s_80_24n, ↓s_80_24i, ↓s_80_24p, ↓s_80_25n, ↓s_80_25i, ↓s_80_25p, ↓s_80_28, ↓s_80_31, ↓s_80_32, zio_2, zar_19, zia_19, zln_19, zit_19, zio_28, zar_45, zia_45, zln_45, zit_45]
  exact x_high_l hE hS h hp hQ _ 0 0 0 rfl (Nat.zero_le _) w32c_0 w32c_0
/-- CRACKED, as both ask -/
theorem uCk_t {X r : Int} {x : Int} {v : Nat} (hx : w32 x = X) (h0 : 0 ≤ X) (h1 : X < 64) (hr : w32 r = (v : Int)) (hv : v < 6) : w32 (ybin 3 (ybin 7 x r) 1) = ((X.toNat / 2 ^ v % 2 : Nat) : Int) := yb_tst (by omega) (by omega) hr (by omega)
theorem ck_z {n : Nat} (h : n = 1) : ¬ ((n : Nat) : Int) = 0 := by omega
theorem ck_n {n : Nat} (h : n < 2) (h2 : ¬ ((n : Nat) : Int) = 0) : n = 1 := by omega
theorem x_sbits (hE : yEok E) {D0 : Nat} (hD : 4 ≤ D0) {X : Int} (hX : w32 (mem 57 10) = X) (h0 : 0 ≤ X) (h1 : X < 64) (hS : w32 S = (p : Int)) (hV : w32 V = (v : Int)) (h : cDh mem D) (hp : uPv D p) (hv : v < D.2.1.length) (hQ : ∀ r, (uCk X v → w32 r = 0) → (¬ uCk X v → w32 r = ((sBits D p v : Nat) : Int)) → Q (some (0, r)) mem) : yCon E D0 xm_99 [(1, 73), (0, S), (0, V)] mem Q := by
  obtain ⟨d, rfl⟩ := Nat.exists_eq_add_of_le' hD
  refine e_99 ?_
  refine zvc_ok hE 60 [] _ _ _ _ _ _ _ xmo_99 ?_
  have hn := (cTb_n h).2.1.2
  have t := uCk_t hX h0 h1 hV (show v < 6 by omega)
  simp only [ynok_30, ynok_31, w32c_0, w32c_1, w32c_2, w32c_3, w32c_4, w32c_5, w32c_6, w32c_7, w32c_8, w32c_9, w32c_10, w32c_11, w32c_12, w32c_13, w32c_14, w32c_m1, w32c_m2, w32c_118, Int.reduceAdd, Int.reduceSub, Int.reduceMul, yput_s, yput_n, znl_n, znl_0, znl_1, znl_4, ysum_n, ysum_0, ysum_1, ysum_4, true_and, and_true, Nat.reduceAdd, Nat.reduceLeDiff, true_implies, eq_self, true_or, or_true, or_false, false_or, not_true_eq_false, not_false_eq_true, false_implies, implies_true, yset_s, yset_o, yset_d, ne_eq, Nat.reduceEqDiff, Int.reduceToNat, Int.reduceEq, Int.reduceLE, Int.reduceLT, Classical.not_not, Nat.reduceLT, ↓zvk_s, ↓zvk_n, ↓s_99_0, ↓s_99_1, ↓s_99_4, ↓s_99_5, ↓s_99_8, ↓s_99_11, ↓s_99_12, ↓s_99_15, ↓s_99_16, ↓s_99_19, ↓s_99_20, ↓s_99_21, ↓s_99_24, ↓s_139_0, ↓s_139_1_57, ↓s_139_1_64, ↓s_139_4, ↓s_139_5, ↓s_139_6, ↓s_139_7, ↓s_139_8, ↓s_139_11, ↓s_139_12, ↓s_139_15, ↓s_139_16, zio_64, zio_2, zio_73, zio_28, zio_57, t]
  refine ⟨fun z => x_reach hE (by omega) hS hV h hp hv (fun r hr => ?_), fun z => hQ 0 (fun _ => w32c_0) (fun n => absurd (ck_n (Nat.mod_lt _ (by decide)) z) n)⟩
  refine zgk_s hE xmo_99 60 [] ?_
  simp only [ynok_30, ynok_31, w32c_0, w32c_1, w32c_2, w32c_3, w32c_4, w32c_5, w32c_6, w32c_7, w32c_8, w32c_9, w32c_10, w32c_11, w32c_12, w32c_13, w32c_14, w32c_m1, w32c_m2, w32c_118, Int.reduceAdd, Int.reduceSub, Int.reduceMul, yput_s, yput_n, znl_n, znl_0, znl_1, znl_4, ysum_n, ysum_0, ysum_1, ysum_4, true_and, and_true, Nat.reduceAdd, Nat.reduceLeDiff, true_implies, eq_self, true_or, or_true, or_false, false_or, not_true_eq_false, not_false_eq_true, false_implies, implies_true, yset_s, yset_o, yset_d, ne_eq, Nat.reduceEqDiff, Int.reduceToNat, Int.reduceEq, Int.reduceLE, Int.reduceLT, Classical.not_not, Nat.reduceLT, ↓zvk_s, ↓zvk_n, ↓s_99_0, ↓s_99_1, ↓s_99_4, ↓s_99_5, ↓s_99_8, ↓s_99_11, ↓s_99_12, ↓s_99_15, ↓s_99_16, ↓s_99_19, ↓s_99_20, ↓s_99_21, ↓s_99_24, zio_64, zio_2, zio_73, zio_28, zio_57]
  exact hQ r (fun c => absurd z (ck_z c)) (fun _ => hr)
/-- how many notes a VOICE SOUNDS, out of the bits -/
theorem zbf_cnt {x X : Int} (hl : (sBr D p).length ≤ 8) (h1 : uCk X v → w32 x = 0) (h2 : ¬ uCk X v → w32 x = ((sBits D p v : Nat) : Int)) : w32 (zbf x) = ((sNo D X p v : Nat) : Int) := by
  have hb := nBt_lt (sSo D p v) (sBr D p).length
  have h8 : 2 ^ (sBr D p).length ≤ 2 ^ 8 := Nat.pow_le_pow_right (by decide) hl
  unfold sNo
  by_cases hc : uCk X v
  · rw [if_pos hc]
    have e := h1 hc
    rw [(zbf_w (by omega) (by omega)).1, e]
    rfl
  · rw [if_neg hc]
    have e := h2 hc
    have hb : sBits D p v < 256 := Nat.lt_of_lt_of_le hb h8
    rw [(zbf_w (by omega) (by omega)).1, e, Int.toNat_natCast]
    unfold sBits sCnt
    rw [zpc_bt hl]
end CS
end
section
theorem s_220_0 {E : yE} {n d : Nat} {mem : yMem} {Post : Option yV → yMem → Prop} {st : List yV} {r0 r1 : Option yV} {x : Int} : zvc E (n + 1) [] d xm_220 0 [r0, r1, some (0, x)] (st) mem Post = (zvc E n [] d xm_220 1 [r0, r1, some (0, x)] ((0, x) :: st) mem Post) := zrf rfl
theorem s_220_1 {E : yE} {n d : Nat} {mem : yMem} {Post : Option yV → yMem → Prop} {st : List yV} {r0 r1 r2 : Option yV} {x : Int} : zvc E (n + 1) [] d xm_220 1 [r0, r1, r2] ((0, x) :: st) mem Post = ((w32 x ≤ w32 0 → zvc E n [] d xm_220 28 [r0, r1, r2] (st) mem Post) ∧ (¬ (w32 x ≤ w32 0) → zvc E n [] d xm_220 4 [r0, r1, r2] (st) mem Post)) := zrf rfl
theorem s_220_4 {E : yE} {n d : Nat} {mem : yMem} {Post : Option yV → yMem → Prop} {st : List yV} {r0 r1 : Option yV} {x : Int} : zvc E (n + 1) [] d xm_220 4 [r0, r1, some (0, x)] (st) mem Post = (zvc E n [] d xm_220 5 [r0, r1, some (0, x)] ((0, x) :: st) mem Post) := zrf rfl
theorem s_220_5 {E : yE} {n d : Nat} {mem : yMem} {Post : Option yV → yMem → Prop} {st : List yV} {r1 r2 : Option yV} {x : Int} : zvc E (n + 1) [] d xm_220 5 [some (1, x), r1, r2] (st) mem Post = (zvc E n [] d xm_220 6 [some (1, x), r1, r2] ((1, x) :: st) mem Post) := zrf rfl
theorem s_220_6 {E : yE} {n d : Nat} {mem : yMem} {Post : Option yV → yMem → Prop} {st : List yV} {r0 r1 r2 : Option yV} : zvc E (n + 1) [] d xm_220 6 [r0, r1, r2] ((1, 95) :: st) mem Post = (zvc E n [] d xm_220 9 [r0, r1, r2] ((1, 102) :: st) mem Post) := zrf rfl
theorem s_220_9 {E : yE} {n d : Nat} {mem : yMem} {Post : Option yV → yMem → Prop} {st : List yV} {r0 r2 : Option yV} {x : Int} : zvc E (n + 1) [] d xm_220 9 [r0, some (0, x), r2] (st) mem Post = (zvc E n [] d xm_220 10 [r0, some (0, x), r2] ((0, x) :: st) mem Post) := zrf rfl
theorem s_220_10 {E : yE} {n d : Nat} {mem : yMem} {Post : Option yV → yMem → Prop} {st : List yV} {r0 r1 r2 : Option yV} {z j : Int} : zvc E (n + 1) [] d xm_220 10 [r0, r1, r2] ((0, j) :: (1, z) :: st) mem Post = ((0 ≤ w32 j ∧ w32 j < ((zar z 0 : Nat) : Int)) ∧ zvc E n [] d xm_220 11 [r0, r1, r2] ((0, mem z.toNat (w32 j).toNat) :: st) mem Post) := zrf rfl
theorem s_220_11 {E : yE} {n d : Nat} {mem : yMem} {Post : Option yV → yMem → Prop} {st : List yV} {r0 r1 r2 : Option yV} {x y : Int} : zvc E (n + 1) [] d xm_220 11 [r0, r1, r2] ((0, y) :: (0, x) :: st) mem Post = ((w32 x < w32 y → zvc E n [] d xm_220 28 [r0, r1, r2] (st) mem Post) ∧ (¬ (w32 x < w32 y) → zvc E n [] d xm_220 14 [r0, r1, r2] (st) mem Post)) := zrf rfl
theorem s_220_14 {E : yE} {n d : Nat} {mem : yMem} {Post : Option yV → yMem → Prop} {st : List yV} {r0 r1 : Option yV} {x : Int} : zvc E (n + 1) [] d xm_220 14 [r0, r1, some (0, x)] (st) mem Post = (zvc E n [] d xm_220 15 [r0, r1, some (0, x)] ((0, x) :: st) mem Post) := zrf rfl
theorem s_220_15 {E : yE} {n d : Nat} {mem : yMem} {Post : Option yV → yMem → Prop} {st : List yV} {r1 r2 : Option yV} {x : Int} : zvc E (n + 1) [] d xm_220 15 [some (1, x), r1, r2] (st) mem Post = (zvc E n [] d xm_220 16 [some (1, x), r1, r2] ((1, x) :: st) mem Post) := zrf rfl
theorem s_220_16 {E : yE} {n d : Nat} {mem : yMem} {Post : Option yV → yMem → Prop} {st : List yV} {r0 r1 r2 : Option yV} : zvc E (n + 1) [] d xm_220 16 [r0, r1, r2] ((1, 95) :: st) mem Post = (zvc E n [] d xm_220 19 [r0, r1, r2] ((1, 103) :: st) mem Post) := zrf rfl
theorem s_220_19 {E : yE} {n d : Nat} {mem : yMem} {Post : Option yV → yMem → Prop} {st : List yV} {r0 r2 : Option yV} {x : Int} : zvc E (n + 1) [] d xm_220 19 [r0, some (0, x), r2] (st) mem Post = (zvc E n [] d xm_220 20 [r0, some (0, x), r2] ((0, x) :: st) mem Post) := zrf rfl
theorem s_220_20 {E : yE} {n d : Nat} {mem : yMem} {Post : Option yV → yMem → Prop} {st : List yV} {r0 r1 r2 : Option yV} {z j : Int} : zvc E (n + 1) [] d xm_220 20 [r0, r1, r2] ((0, j) :: (1, z) :: st) mem Post = ((0 ≤ w32 j ∧ w32 j < ((zar z 0 : Nat) : Int)) ∧ zvc E n [] d xm_220 21 [r0, r1, r2] ((0, mem z.toNat (w32 j).toNat) :: st) mem Post) := zrf rfl
theorem s_220_21 {E : yE} {n d : Nat} {mem : yMem} {Post : Option yV → yMem → Prop} {st : List yV} {r0 r1 r2 : Option yV} {x y : Int} : zvc E (n + 1) [] d xm_220 21 [r0, r1, r2] ((0, y) :: (0, x) :: st) mem Post = ((w32 y < w32 x → zvc E n [] d xm_220 28 [r0, r1, r2] (st) mem Post) ∧ (¬ (w32 y < w32 x) → zvc E n [] d xm_220 24 [r0, r1, r2] (st) mem Post)) := zrf rfl
theorem s_220_24 {E : yE} {n d : Nat} {mem : yMem} {Post : Option yV → yMem → Prop} {st : List yV} {r0 r1 r2 : Option yV} : zvc E (n + 1) [] d xm_220 24 [r0, r1, r2] (st) mem Post = (zvc E n [] d xm_220 25 [r0, r1, r2] ((0, 1) :: st) mem Post) := zrf rfl
theorem s_220_25 {E : yE} {n d : Nat} {mem : yMem} {Post : Option yV → yMem → Prop} {st : List yV} {r0 r1 r2 : Option yV} : zvc E (n + 1) [] d xm_220 25 [r0, r1, r2] (st) mem Post = (zvc E n [] d xm_220 29 [r0, r1, r2] (st) mem Post) := zrf rfl
theorem s_220_28 {E : yE} {n d : Nat} {mem : yMem} {Post : Option yV → yMem → Prop} {st : List yV} {r0 r1 r2 : Option yV} : zvc E (n + 1) [] d xm_220 28 [r0, r1, r2] (st) mem Post = (zvc E n [] d xm_220 29 [r0, r1, r2] ((0, 0) :: st) mem Post) := zrf rfl
theorem s_220_29 {E : yE} {n d : Nat} {mem : yMem} {Post : Option yV → yMem → Prop} {r0 r1 r2 : Option yV} {x : Int} : zvc E (n + 1) [] d xm_220 29 [r0, r1, r2] ([(0, x)]) mem Post = ((w32 x = 0 ∨ w32 x = 1) ∧ Post (some (0, x)) mem) := zrf rfl
theorem s_193_0 {E : yE} {n d : Nat} {mem : yMem} {Post : Option yV → yMem → Prop} {st : List yV} {r0 r1 r2 : Option yV} {x : Int} : zvc E (n + 1) [] d xm_193 0 [r0, r1, r2, some (0, x)] (st) mem Post = (zvc E n [] d xm_193 1 [r0, r1, r2, some (0, x)] ((0, x) :: st) mem Post) := zrf rfl
theorem s_193_1 {E : yE} {n d : Nat} {mem : yMem} {Post : Option yV → yMem → Prop} {st : List yV} {r0 r1 r2 r3 : Option yV} {x : Int} : zvc E (n + 1) [] d xm_193 1 [r0, r1, r2, r3] ((0, x) :: st) mem Post = ((w32 x < w32 0 → zvc E n [] d xm_193 45 [r0, r1, r2, r3] (st) mem Post) ∧ (¬ (w32 x < w32 0) → zvc E n [] d xm_193 4 [r0, r1, r2, r3] (st) mem Post)) := zrf rfl
theorem s_193_4 {E : yE} {n d : Nat} {mem : yMem} {Post : Option yV → yMem → Prop} {st : List yV} {r0 r1 r2 : Option yV} {x : Int} : zvc E (n + 1) [] d xm_193 4 [r0, r1, r2, some (0, x)] (st) mem Post = (zvc E n [] d xm_193 5 [r0, r1, r2, some (0, x)] ((0, x) :: st) mem Post) := zrf rfl
theorem s_193_5 {E : yE} {n d : Nat} {mem : yMem} {Post : Option yV → yMem → Prop} {st : List yV} {r1 r2 r3 : Option yV} {x : Int} : zvc E (n + 1) [] d xm_193 5 [some (1, x), r1, r2, r3] (st) mem Post = (zvc E n [] d xm_193 6 [some (1, x), r1, r2, r3] ((1, x) :: st) mem Post) := zrf rfl
theorem s_193_6 {E : yE} {n d : Nat} {mem : yMem} {Post : Option yV → yMem → Prop} {st : List yV} {r0 r1 r2 r3 : Option yV} : zvc E (n + 1) [] d xm_193 6 [r0, r1, r2, r3] ((1, 95) :: st) mem Post = (zvc E n [] d xm_193 9 [r0, r1, r2, r3] ((1, 110) :: st) mem Post) := zrf rfl
theorem s_193_9 {E : yE} {n d : Nat} {mem : yMem} {Post : Option yV → yMem → Prop} {st : List yV} {r0 r2 r3 : Option yV} {x : Int} : zvc E (n + 1) [] d xm_193 9 [r0, some (0, x), r2, r3] (st) mem Post = (zvc E n [] d xm_193 10 [r0, some (0, x), r2, r3] ((0, x) :: st) mem Post) := zrf rfl
theorem s_193_10 {E : yE} {n d : Nat} {mem : yMem} {Post : Option yV → yMem → Prop} {st : List yV} {r0 r1 r2 r3 : Option yV} {z j : Int} : zvc E (n + 1) [] d xm_193 10 [r0, r1, r2, r3] ((0, j) :: (1, z) :: st) mem Post = ((0 ≤ w32 j ∧ w32 j < ((zar z 0 : Nat) : Int)) ∧ zvc E n [] d xm_193 11 [r0, r1, r2, r3] ((0, mem z.toNat (w32 j).toNat) :: st) mem Post) := zrf rfl
theorem s_193_11 {E : yE} {n d : Nat} {mem : yMem} {Post : Option yV → yMem → Prop} {st : List yV} {r0 r1 r2 r3 : Option yV} {x y : Int} : zvc E (n + 1) [] d xm_193 11 [r0, r1, r2, r3] ((0, y) :: (0, x) :: st) mem Post = ((w32 y ≤ w32 x → zvc E n [] d xm_193 45 [r0, r1, r2, r3] (st) mem Post) ∧ (¬ (w32 y ≤ w32 x) → zvc E n [] d xm_193 14 [r0, r1, r2, r3] (st) mem Post)) := zrf rfl
theorem s_193_14 {E : yE} {n d : Nat} {mem : yMem} {Post : Option yV → yMem → Prop} {st : List yV} {r1 r2 r3 : Option yV} {x : Int} : zvc E (n + 1) [] d xm_193 14 [some (1, x), r1, r2, r3] (st) mem Post = (zvc E n [] d xm_193 15 [some (1, x), r1, r2, r3] ((1, x) :: st) mem Post) := zrf rfl
theorem s_193_15 {E : yE} {n d : Nat} {mem : yMem} {Post : Option yV → yMem → Prop} {st : List yV} {r0 r1 r3 : Option yV} {x : Int} : zvc E (n + 1) [] d xm_193 15 [r0, r1, some (0, x), r3] (st) mem Post = (zvc E n [] d xm_193 16 [r0, r1, some (0, x), r3] ((0, x) :: st) mem Post) := zrf rfl
theorem s_193_16 {E : yE} {n d : Nat} {mem : yMem} {Post : Option yV → yMem → Prop} {st : List yV} {r0 r1 r2 r3 : Option yV} {z a0 : Int} : zvc E (n + 1) [] (d + 1) xm_193 16 [r0, r1, r2, r3] ((0, a0) :: (1, z) :: st) mem Post = (zio z 12 = true ∧ ysum st ≤ 8 ∧ zvc E n [] d xm_183 0 [some (1, z), some (0, a0)] [] mem (fun v mem' => zvk E n [] (d + 1) xm_193 19 [r0, r1, r2, r3] st v mem' Post)) := zrf rfl
theorem s_193_19 {E : yE} {n d : Nat} {mem : yMem} {Post : Option yV → yMem → Prop} {st : List yV} {r0 r1 r2 r3 : Option yV} {x : Int} : zvc E (n + 1) [] d xm_193 19 [r0, r1, r2, r3] ((0, x) :: st) mem Post = ((¬ w32 x = w32 0 → zvc E n [] d xm_193 45 [r0, r1, r2, r3] (st) mem Post) ∧ (¬ (¬ w32 x = w32 0) → zvc E n [] d xm_193 22 [r0, r1, r2, r3] (st) mem Post)) := zrf rfl
theorem s_193_22 {E : yE} {n d : Nat} {mem : yMem} {Post : Option yV → yMem → Prop} {st : List yV} {r1 r2 r3 : Option yV} {x : Int} : zvc E (n + 1) [] d xm_193 22 [some (1, x), r1, r2, r3] (st) mem Post = (zvc E n [] d xm_193 23 [some (1, x), r1, r2, r3] ((1, x) :: st) mem Post) := zrf rfl
theorem s_193_23 {E : yE} {n d : Nat} {mem : yMem} {Post : Option yV → yMem → Prop} {st : List yV} {r0 r1 r3 : Option yV} {x : Int} : zvc E (n + 1) [] d xm_193 23 [r0, r1, some (0, x), r3] (st) mem Post = (zvc E n [] d xm_193 24 [r0, r1, some (0, x), r3] ((0, x) :: st) mem Post) := zrf rfl
theorem s_193_24 {E : yE} {n d : Nat} {mem : yMem} {Post : Option yV → yMem → Prop} {st : List yV} {r1 r2 r3 : Option yV} {x : Int} : zvc E (n + 1) [] d xm_193 24 [some (1, x), r1, r2, r3] (st) mem Post = (zvc E n [] d xm_193 25 [some (1, x), r1, r2, r3] ((1, x) :: st) mem Post) := zrf rfl
theorem s_193_25 {E : yE} {n d : Nat} {mem : yMem} {Post : Option yV → yMem → Prop} {st : List yV} {r0 r1 r2 r3 : Option yV} : zvc E (n + 1) [] d xm_193 25 [r0, r1, r2, r3] ((1, 95) :: st) mem Post = (zvc E n [] d xm_193 28 [r0, r1, r2, r3] ((1, 111) :: st) mem Post) := zrf rfl
theorem s_193_28 {E : yE} {n d : Nat} {mem : yMem} {Post : Option yV → yMem → Prop} {st : List yV} {r0 r1 r2 r3 : Option yV} : zvc E (n + 1) [] d xm_193 28 [r0, r1, r2, r3] (st) mem Post = (zvc E n [] d xm_193 30 [r0, r1, r2, r3] ((0, 8) :: st) mem Post) := zrf rfl
theorem s_193_30 {E : yE} {n d : Nat} {mem : yMem} {Post : Option yV → yMem → Prop} {st : List yV} {r0 r2 r3 : Option yV} {x : Int} : zvc E (n + 1) [] d xm_193 30 [r0, some (0, x), r2, r3] (st) mem Post = (zvc E n [] d xm_193 31 [r0, some (0, x), r2, r3] ((0, x) :: st) mem Post) := zrf rfl
theorem s_193_31 {E : yE} {n d : Nat} {mem : yMem} {Post : Option yV → yMem → Prop} {st : List yV} {r0 r1 r2 r3 : Option yV} {x y : Int} : zvc E (n + 1) [] d xm_193 31 [r0, r1, r2, r3] ((0, y) :: (0, x) :: st) mem Post = (zvc E n [] d xm_193 32 [r0, r1, r2, r3] ((0, x * y) :: st) mem Post) := zrf rfl
theorem s_193_32 {E : yE} {n d : Nat} {mem : yMem} {Post : Option yV → yMem → Prop} {st : List yV} {r0 r1 r2 : Option yV} {x : Int} : zvc E (n + 1) [] d xm_193 32 [r0, r1, r2, some (0, x)] (st) mem Post = (zvc E n [] d xm_193 33 [r0, r1, r2, some (0, x)] ((0, x) :: st) mem Post) := zrf rfl
theorem s_193_33 {E : yE} {n d : Nat} {mem : yMem} {Post : Option yV → yMem → Prop} {st : List yV} {r0 r1 r2 r3 : Option yV} {x y : Int} : zvc E (n + 1) [] d xm_193 33 [r0, r1, r2, r3] ((0, y) :: (0, x) :: st) mem Post = (zvc E n [] d xm_193 34 [r0, r1, r2, r3] ((0, x + y) :: st) mem Post) := zrf rfl
theorem s_193_34 {E : yE} {n d : Nat} {mem : yMem} {Post : Option yV → yMem → Prop} {st : List yV} {r0 r1 r2 r3 : Option yV} {z j : Int} : zvc E (n + 1) [] d xm_193 34 [r0, r1, r2, r3] ((0, j) :: (1, z) :: st) mem Post = ((0 ≤ w32 j ∧ w32 j < ((zar z 0 : Nat) : Int)) ∧ zvc E n [] d xm_193 35 [r0, r1, r2, r3] ((0, mem z.toNat (w32 j).toNat) :: st) mem Post) := zrf rfl
theorem s_193_35 {E : yE} {n d : Nat} {mem : yMem} {Post : Option yV → yMem → Prop} {st : List yV} {r0 r1 r2 r3 : Option yV} {z a0 a1 : Int} : zvc E (n + 1) [] (d + 1) xm_193 35 [r0, r1, r2, r3] ((0, a1) :: (0, a0) :: (1, z) :: st) mem Post = (zio z 12 = true ∧ ysum st ≤ 8 ∧ zvc E n [] d xm_220 0 [some (1, z), some (0, a0), some (0, a1)] [] mem (fun v mem' => zvk E n [] (d + 1) xm_193 38 [r0, r1, r2, r3] st v mem' Post)) := zrf rfl
theorem s_193_38 {E : yE} {n d : Nat} {mem : yMem} {Post : Option yV → yMem → Prop} {st : List yV} {r0 r1 r2 r3 : Option yV} {x : Int} : zvc E (n + 1) [] d xm_193 38 [r0, r1, r2, r3] ((0, x) :: st) mem Post = ((w32 x = w32 0 → zvc E n [] d xm_193 45 [r0, r1, r2, r3] (st) mem Post) ∧ (¬ (w32 x = w32 0) → zvc E n [] d xm_193 41 [r0, r1, r2, r3] (st) mem Post)) := zrf rfl
theorem s_193_41 {E : yE} {n d : Nat} {mem : yMem} {Post : Option yV → yMem → Prop} {st : List yV} {r0 r1 r2 r3 : Option yV} : zvc E (n + 1) [] d xm_193 41 [r0, r1, r2, r3] (st) mem Post = (zvc E n [] d xm_193 42 [r0, r1, r2, r3] ((0, 1) :: st) mem Post) := zrf rfl
theorem s_193_42 {E : yE} {n d : Nat} {mem : yMem} {Post : Option yV → yMem → Prop} {st : List yV} {r0 r1 r2 r3 : Option yV} : zvc E (n + 1) [] d xm_193 42 [r0, r1, r2, r3] (st) mem Post = (zvc E n [] d xm_193 46 [r0, r1, r2, r3] (st) mem Post) := zrf rfl
theorem s_193_45 {E : yE} {n d : Nat} {mem : yMem} {Post : Option yV → yMem → Prop} {st : List yV} {r0 r1 r2 r3 : Option yV} : zvc E (n + 1) [] d xm_193 45 [r0, r1, r2, r3] (st) mem Post = (zvc E n [] d xm_193 46 [r0, r1, r2, r3] ((0, 0) :: st) mem Post) := zrf rfl
theorem s_193_46 {E : yE} {n d : Nat} {mem : yMem} {Post : Option yV → yMem → Prop} {r0 r1 r2 r3 : Option yV} {x : Int} : zvc E (n + 1) [] d xm_193 46 [r0, r1, r2, r3] ([(0, x)]) mem Post = ((w32 x = 0 ∨ w32 x = 1) ∧ Post (some (0, x)) mem) := zrf rfl
def zc_233 : List Nat := [5]
theorem s_233_0 {E : yE} {n d : Nat} {mem : yMem} {Post : Option yV → yMem → Prop} {st : List yV} {r0 r1 r2 r3 r4 : Option yV} : zvc E (n + 1) zc_233 d xm_233 0 [r0, r1, r2, r3, r4] (st) mem Post = (zvc E n zc_233 d xm_233 1 [r0, r1, r2, r3, r4] ((0, 0) :: st) mem Post) := zrf rfl
theorem s_233_1n {E : yE} {n d : Nat} {mem : yMem} {Post : Option yV → yMem → Prop} {st : List yV} {r0 r1 r3 r4 : Option yV} {x : Int} : zvc E (n + 1) zc_233 d xm_233 1 [r0, r1, none, r3, r4] ((0, x) :: st) mem Post = (zvc E n zc_233 d xm_233 2 [r0, r1, none, some (0, x), r4] (st) mem Post) := zrf rfl
theorem s_233_1i {E : yE} {n d : Nat} {mem : yMem} {Post : Option yV → yMem → Prop} {st : List yV} {r0 r1 r3 r4 : Option yV} {x w : Int} : zvc E (n + 1) zc_233 d xm_233 1 [r0, r1, some (0, w), r3, r4] ((0, x) :: st) mem Post = (zvc E n zc_233 d xm_233 2 [r0, r1, some (0, w), some (0, x), r4] (st) mem Post) := zrf rfl
theorem s_233_1p {E : yE} {n d : Nat} {mem : yMem} {Post : Option yV → yMem → Prop} {st : List yV} {r0 r1 r3 r4 : Option yV} {x w : Int} : zvc E (n + 1) zc_233 d xm_233 1 [r0, r1, some (1, w), r3, r4] ((0, x) :: st) mem Post = (zvc E n zc_233 d xm_233 2 [r0, r1, some (1, w), some (0, x), r4] (st) mem Post) := zrf rfl
theorem s_233_2 {E : yE} {n d : Nat} {mem : yMem} {Post : Option yV → yMem → Prop} {st : List yV} {r0 r1 r2 r3 r4 : Option yV} : zvc E (n + 1) zc_233 d xm_233 2 [r0, r1, r2, r3, r4] (st) mem Post = (zvc E n zc_233 d xm_233 3 [r0, r1, r2, r3, r4] ((0, 0) :: st) mem Post) := zrf rfl
theorem s_233_3n {E : yE} {n d : Nat} {mem : yMem} {Post : Option yV → yMem → Prop} {st : List yV} {r0 r1 r2 r4 : Option yV} {x : Int} : zvc E (n + 1) zc_233 d xm_233 3 [r0, r1, r2, none, r4] ((0, x) :: st) mem Post = (zvc E n zc_233 d xm_233 5 [r0, r1, r2, none, some (0, x)] (st) mem Post) := zrf rfl
theorem s_233_3i {E : yE} {n d : Nat} {mem : yMem} {Post : Option yV → yMem → Prop} {st : List yV} {r0 r1 r2 r4 : Option yV} {x w : Int} : zvc E (n + 1) zc_233 d xm_233 3 [r0, r1, r2, some (0, w), r4] ((0, x) :: st) mem Post = (zvc E n zc_233 d xm_233 5 [r0, r1, r2, some (0, w), some (0, x)] (st) mem Post) := zrf rfl
theorem s_233_3p {E : yE} {n d : Nat} {mem : yMem} {Post : Option yV → yMem → Prop} {st : List yV} {r0 r1 r2 r4 : Option yV} {x w : Int} : zvc E (n + 1) zc_233 d xm_233 3 [r0, r1, r2, some (1, w), r4] ((0, x) :: st) mem Post = (zvc E n zc_233 d xm_233 5 [r0, r1, r2, some (1, w), some (0, x)] (st) mem Post) := zrf rfl
theorem g_233_5 {E : yE} {n d : Nat} {mem : yMem} {Post : Option yV → yMem → Prop} {st : List yV} {r0 r1 r2 r3 : Option yV} {x : Int} : zgo E n zc_233 d xm_233 5 [r0, r1, r2, r3, some (0, x)] (st) mem Post = (zvc E n zc_233 d xm_233 7 [r0, r1, r2, r3, some (0, x)] ((0, x) :: st) mem Post) := zrf rfl
theorem k_233_5 {E : yE} {n d : Nat} {mem : yMem} {Post : Option yV → yMem → Prop} {st : List yV} {rg : zR} : zvc E (n + 1) zc_233 d xm_233 5 rg st mem Post = zG E d xm_233 5 rg st mem Post := zrf rfl
theorem s_233_7 {E : yE} {n d : Nat} {mem : yMem} {Post : Option yV → yMem → Prop} {st : List yV} {r1 r2 r3 r4 : Option yV} {x : Int} : zvc E (n + 1) zc_233 d xm_233 7 [some (1, x), r1, r2, r3, r4] (st) mem Post = (zvc E n zc_233 d xm_233 8 [some (1, x), r1, r2, r3, r4] ((1, x) :: st) mem Post) := zrf rfl
theorem s_233_8 {E : yE} {n d : Nat} {mem : yMem} {Post : Option yV → yMem → Prop} {st : List yV} {r0 r1 r2 r3 r4 : Option yV} : zvc E (n + 1) zc_233 d xm_233 8 [r0, r1, r2, r3, r4] ((1, 95) :: st) mem Post = (zvc E n zc_233 d xm_233 11 [r0, r1, r2, r3, r4] ((1, 110) :: st) mem Post) := zrf rfl
theorem s_233_11 {E : yE} {n d : Nat} {mem : yMem} {Post : Option yV → yMem → Prop} {st : List yV} {r0 r2 r3 r4 : Option yV} {x : Int} : zvc E (n + 1) zc_233 d xm_233 11 [r0, some (0, x), r2, r3, r4] (st) mem Post = (zvc E n zc_233 d xm_233 12 [r0, some (0, x), r2, r3, r4] ((0, x) :: st) mem Post) := zrf rfl
theorem s_233_12 {E : yE} {n d : Nat} {mem : yMem} {Post : Option yV → yMem → Prop} {st : List yV} {r0 r1 r2 r3 r4 : Option yV} {z j : Int} : zvc E (n + 1) zc_233 d xm_233 12 [r0, r1, r2, r3, r4] ((0, j) :: (1, z) :: st) mem Post = ((0 ≤ w32 j ∧ w32 j < ((zar z 0 : Nat) : Int)) ∧ zvc E n zc_233 d xm_233 13 [r0, r1, r2, r3, r4] ((0, mem z.toNat (w32 j).toNat) :: st) mem Post) := zrf rfl
theorem s_233_13 {E : yE} {n d : Nat} {mem : yMem} {Post : Option yV → yMem → Prop} {st : List yV} {r0 r1 r2 r3 r4 : Option yV} {x y : Int} : zvc E (n + 1) zc_233 d xm_233 13 [r0, r1, r2, r3, r4] ((0, y) :: (0, x) :: st) mem Post = ((w32 y ≤ w32 x → zvc E n zc_233 d xm_233 41 [r0, r1, r2, r3, r4] (st) mem Post) ∧ (¬ (w32 y ≤ w32 x) → zvc E n zc_233 d xm_233 16 [r0, r1, r2, r3, r4] (st) mem Post)) := zrf rfl
theorem s_233_16 {E : yE} {n d : Nat} {mem : yMem} {Post : Option yV → yMem → Prop} {st : List yV} {r0 r1 r2 r4 : Option yV} {x : Int} : zvc E (n + 1) zc_233 d xm_233 16 [r0, r1, r2, some (0, x), r4] (st) mem Post = (zvc E n zc_233 d xm_233 17 [r0, r1, r2, some (0, x), r4] ((0, x) :: st) mem Post) := zrf rfl
theorem s_233_17 {E : yE} {n d : Nat} {mem : yMem} {Post : Option yV → yMem → Prop} {st : List yV} {r1 r2 r3 r4 : Option yV} {x : Int} : zvc E (n + 1) zc_233 d xm_233 17 [some (1, x), r1, r2, r3, r4] (st) mem Post = (zvc E n zc_233 d xm_233 18 [some (1, x), r1, r2, r3, r4] ((1, x) :: st) mem Post) := zrf rfl
theorem s_233_18 {E : yE} {n d : Nat} {mem : yMem} {Post : Option yV → yMem → Prop} {st : List yV} {r0 r2 r3 r4 : Option yV} {x : Int} : zvc E (n + 1) zc_233 d xm_233 18 [r0, some (0, x), r2, r3, r4] (st) mem Post = (zvc E n zc_233 d xm_233 19 [r0, some (0, x), r2, r3, r4] ((0, x) :: st) mem Post) := zrf rfl
theorem s_233_19 {E : yE} {n d : Nat} {mem : yMem} {Post : Option yV → yMem → Prop} {st : List yV} {r0 r1 r3 r4 : Option yV} {x : Int} : zvc E (n + 1) zc_233 d xm_233 19 [r0, r1, some (0, x), r3, r4] (st) mem Post = (zvc E n zc_233 d xm_233 20 [r0, r1, some (0, x), r3, r4] ((0, x) :: st) mem Post) := zrf rfl
theorem s_233_20 {E : yE} {n d : Nat} {mem : yMem} {Post : Option yV → yMem → Prop} {st : List yV} {r0 r1 r2 r3 : Option yV} {x : Int} : zvc E (n + 1) zc_233 d xm_233 20 [r0, r1, r2, r3, some (0, x)] (st) mem Post = (zvc E n zc_233 d xm_233 22 [r0, r1, r2, r3, some (0, x)] ((0, x) :: st) mem Post) := zrf rfl
theorem s_233_22 {E : yE} {n d : Nat} {mem : yMem} {Post : Option yV → yMem → Prop} {st : List yV} {r0 r1 r2 r3 r4 : Option yV} {z a0 a1 a2 : Int} : zvc E (n + 1) zc_233 d xm_233 22 [r0, r1, r2, r3, r4] ((0, a2) :: (0, a1) :: (0, a0) :: (1, z) :: st) mem Post = (zio z 12 = true ∧ ysum st ≤ 8 ∧ yCon E d xm_193 [(1, z), (0, a0), (0, a1), (0, a2)] mem (fun v mem' => zgk E d xm_233 25 [r0, r1, r2, r3, r4] st v mem' Post)) := zrf rfl
theorem s_233_25 {E : yE} {n d : Nat} {mem : yMem} {Post : Option yV → yMem → Prop} {st : List yV} {r0 r1 r2 r3 r4 : Option yV} {x : Int} : zvc E (n + 1) zc_233 d xm_233 25 [r0, r1, r2, r3, r4] ((0, x) :: st) mem Post = ((w32 x = w32 0 → zvc E n zc_233 d xm_233 32 [r0, r1, r2, r3, r4] (st) mem Post) ∧ (¬ (w32 x = w32 0) → zvc E n zc_233 d xm_233 28 [r0, r1, r2, r3, r4] (st) mem Post)) := zrf rfl
theorem s_233_28 {E : yE} {n d : Nat} {mem : yMem} {Post : Option yV → yMem → Prop} {st : List yV} {r0 r1 r2 r3 r4 : Option yV} : zvc E (n + 1) zc_233 d xm_233 28 [r0, r1, r2, r3, r4] (st) mem Post = (zvc E n zc_233 d xm_233 29 [r0, r1, r2, r3, r4] ((0, 1) :: st) mem Post) := zrf rfl
theorem s_233_29 {E : yE} {n d : Nat} {mem : yMem} {Post : Option yV → yMem → Prop} {st : List yV} {r0 r1 r2 r3 r4 : Option yV} : zvc E (n + 1) zc_233 d xm_233 29 [r0, r1, r2, r3, r4] (st) mem Post = (zvc E n zc_233 d xm_233 33 [r0, r1, r2, r3, r4] (st) mem Post) := zrf rfl
theorem s_233_32 {E : yE} {n d : Nat} {mem : yMem} {Post : Option yV → yMem → Prop} {st : List yV} {r0 r1 r2 r3 r4 : Option yV} : zvc E (n + 1) zc_233 d xm_233 32 [r0, r1, r2, r3, r4] (st) mem Post = (zvc E n zc_233 d xm_233 33 [r0, r1, r2, r3, r4] ((0, 0) :: st) mem Post) := zrf rfl
theorem s_233_33 {E : yE} {n d : Nat} {mem : yMem} {Post : Option yV → yMem → Prop} {st : List yV} {r0 r1 r2 r3 r4 : Option yV} {x y : Int} : zvc E (n + 1) zc_233 d xm_233 33 [r0, r1, r2, r3, r4] ((0, y) :: (0, x) :: st) mem Post = (zvc E n zc_233 d xm_233 34 [r0, r1, r2, r3, r4] ((0, x + y) :: st) mem Post) := zrf rfl
theorem s_233_34n {E : yE} {n d : Nat} {mem : yMem} {Post : Option yV → yMem → Prop} {st : List yV} {r0 r1 r3 r4 : Option yV} {x : Int} : zvc E (n + 1) zc_233 d xm_233 34 [r0, r1, none, r3, r4] ((0, x) :: st) mem Post = (zvc E n zc_233 d xm_233 35 [r0, r1, none, some (0, x), r4] (st) mem Post) := zrf rfl
theorem s_233_34i {E : yE} {n d : Nat} {mem : yMem} {Post : Option yV → yMem → Prop} {st : List yV} {r0 r1 r3 r4 : Option yV} {x w : Int} : zvc E (n + 1) zc_233 d xm_233 34 [r0, r1, some (0, w), r3, r4] ((0, x) :: st) mem Post = (zvc E n zc_233 d xm_233 35 [r0, r1, some (0, w), some (0, x), r4] (st) mem Post) := zrf rfl
theorem s_233_34p {E : yE} {n d : Nat} {mem : yMem} {Post : Option yV → yMem → Prop} {st : List yV} {r0 r1 r3 r4 : Option yV} {x w : Int} : zvc E (n + 1) zc_233 d xm_233 34 [r0, r1, some (1, w), r3, r4] ((0, x) :: st) mem Post = (zvc E n zc_233 d xm_233 35 [r0, r1, some (1, w), some (0, x), r4] (st) mem Post) := zrf rfl
theorem s_233_35n {E : yE} {n d : Nat} {mem : yMem} {Post : Option yV → yMem → Prop} {st : List yV} {r0 r1 r2 : Option yV} {x : Int} : zvc E (n + 1) zc_233 d xm_233 35 [r0, r1, r2, none, some (0, x)] (st) mem Post = (zvc E n zc_233 d xm_233 38 [r0, r1, r2, none, some (0, x + 1)] (st) mem Post) := zrf rfl
theorem s_233_35i {E : yE} {n d : Nat} {mem : yMem} {Post : Option yV → yMem → Prop} {st : List yV} {r0 r1 r2 : Option yV} {x w : Int} : zvc E (n + 1) zc_233 d xm_233 35 [r0, r1, r2, some (0, w), some (0, x)] (st) mem Post = (zvc E n zc_233 d xm_233 38 [r0, r1, r2, some (0, w), some (0, x + 1)] (st) mem Post) := zrf rfl
theorem s_233_35p {E : yE} {n d : Nat} {mem : yMem} {Post : Option yV → yMem → Prop} {st : List yV} {r0 r1 r2 : Option yV} {x w : Int} : zvc E (n + 1) zc_233 d xm_233 35 [r0, r1, r2, some (1, w), some (0, x)] (st) mem Post = (zvc E n zc_233 d xm_233 38 [r0, r1, r2, some (1, w), some (0, x + 1)] (st) mem Post) := zrf rfl
theorem s_233_38 {E : yE} {n d : Nat} {mem : yMem} {Post : Option yV → yMem → Prop} {st : List yV} {r0 r1 r2 r3 r4 : Option yV} : zvc E (n + 1) zc_233 d xm_233 38 [r0, r1, r2, r3, r4] (st) mem Post = (zvc E n zc_233 d xm_233 5 [r0, r1, r2, r3, r4] (st) mem Post) := zrf rfl
theorem s_233_41 {E : yE} {n d : Nat} {mem : yMem} {Post : Option yV → yMem → Prop} {st : List yV} {r0 r1 r2 r4 : Option yV} {x : Int} : zvc E (n + 1) zc_233 d xm_233 41 [r0, r1, r2, some (0, x), r4] (st) mem Post = (zvc E n zc_233 d xm_233 42 [r0, r1, r2, some (0, x), r4] ((0, x) :: st) mem Post) := zrf rfl
theorem s_233_42 {E : yE} {n d : Nat} {mem : yMem} {Post : Option yV → yMem → Prop} {r0 r1 r2 r3 r4 : Option yV} {x : Int} : zvc E (n + 1) zc_233 d xm_233 42 [r0, r1, r2, r3, r4] ([(0, x)]) mem Post = (Post (some (0, x)) mem) := zrf rfl
def zc_223 : List Nat := [4]
theorem s_223_0 {E : yE} {n d : Nat} {mem : yMem} {Post : Option yV → yMem → Prop} {st : List yV} {r0 r1 r2 r3 : Option yV} : zvc E (n + 1) zc_223 d xm_223 0 [r0, r1, r2, r3] (st) mem Post = (zvc E n zc_223 d xm_223 1 [r0, r1, r2, r3] ((0, 0) :: st) mem Post) := zrf rfl
theorem s_223_1n {E : yE} {n d : Nat} {mem : yMem} {Post : Option yV → yMem → Prop} {st : List yV} {r0 r2 r3 : Option yV} {x : Int} : zvc E (n + 1) zc_223 d xm_223 1 [r0, none, r2, r3] ((0, x) :: st) mem Post = (zvc E n zc_223 d xm_223 2 [r0, none, some (0, x), r3] (st) mem Post) := zrf rfl
theorem s_223_1i {E : yE} {n d : Nat} {mem : yMem} {Post : Option yV → yMem → Prop} {st : List yV} {r0 r2 r3 : Option yV} {x w : Int} : zvc E (n + 1) zc_223 d xm_223 1 [r0, some (0, w), r2, r3] ((0, x) :: st) mem Post = (zvc E n zc_223 d xm_223 2 [r0, some (0, w), some (0, x), r3] (st) mem Post) := zrf rfl
theorem s_223_1p {E : yE} {n d : Nat} {mem : yMem} {Post : Option yV → yMem → Prop} {st : List yV} {r0 r2 r3 : Option yV} {x w : Int} : zvc E (n + 1) zc_223 d xm_223 1 [r0, some (1, w), r2, r3] ((0, x) :: st) mem Post = (zvc E n zc_223 d xm_223 2 [r0, some (1, w), some (0, x), r3] (st) mem Post) := zrf rfl
theorem s_223_2 {E : yE} {n d : Nat} {mem : yMem} {Post : Option yV → yMem → Prop} {st : List yV} {r0 r1 r2 r3 : Option yV} : zvc E (n + 1) zc_223 d xm_223 2 [r0, r1, r2, r3] (st) mem Post = (zvc E n zc_223 d xm_223 3 [r0, r1, r2, r3] ((0, 0) :: st) mem Post) := zrf rfl
theorem s_223_3n {E : yE} {n d : Nat} {mem : yMem} {Post : Option yV → yMem → Prop} {st : List yV} {r0 r1 r3 : Option yV} {x : Int} : zvc E (n + 1) zc_223 d xm_223 3 [r0, r1, none, r3] ((0, x) :: st) mem Post = (zvc E n zc_223 d xm_223 4 [r0, r1, none, some (0, x)] (st) mem Post) := zrf rfl
theorem s_223_3i {E : yE} {n d : Nat} {mem : yMem} {Post : Option yV → yMem → Prop} {st : List yV} {r0 r1 r3 : Option yV} {x w : Int} : zvc E (n + 1) zc_223 d xm_223 3 [r0, r1, some (0, w), r3] ((0, x) :: st) mem Post = (zvc E n zc_223 d xm_223 4 [r0, r1, some (0, w), some (0, x)] (st) mem Post) := zrf rfl
theorem s_223_3p {E : yE} {n d : Nat} {mem : yMem} {Post : Option yV → yMem → Prop} {st : List yV} {r0 r1 r3 : Option yV} {x w : Int} : zvc E (n + 1) zc_223 d xm_223 3 [r0, r1, some (1, w), r3] ((0, x) :: st) mem Post = (zvc E n zc_223 d xm_223 4 [r0, r1, some (1, w), some (0, x)] (st) mem Post) := zrf rfl
theorem g_223_4 {E : yE} {n d : Nat} {mem : yMem} {Post : Option yV → yMem → Prop} {st : List yV} {r0 r1 r2 : Option yV} {x : Int} : zgo E n zc_223 d xm_223 4 [r0, r1, r2, some (0, x)] (st) mem Post = (zvc E n zc_223 d xm_223 5 [r0, r1, r2, some (0, x)] ((0, x) :: st) mem Post) := zrf rfl
theorem k_223_4 {E : yE} {n d : Nat} {mem : yMem} {Post : Option yV → yMem → Prop} {st : List yV} {rg : zR} : zvc E (n + 1) zc_223 d xm_223 4 rg st mem Post = zG E d xm_223 4 rg st mem Post := zrf rfl
theorem s_223_5 {E : yE} {n d : Nat} {mem : yMem} {Post : Option yV → yMem → Prop} {st : List yV} {r1 r2 r3 : Option yV} {x : Int} : zvc E (n + 1) zc_223 d xm_223 5 [some (1, x), r1, r2, r3] (st) mem Post = (zvc E n zc_223 d xm_223 6 [some (1, x), r1, r2, r3] ((1, x) :: st) mem Post) := zrf rfl
theorem s_223_6 {E : yE} {n d : Nat} {mem : yMem} {Post : Option yV → yMem → Prop} {st : List yV} {r0 r1 r2 r3 : Option yV} : zvc E (n + 1) zc_223 d xm_223 6 [r0, r1, r2, r3] ((1, 95) :: st) mem Post = (zvc E n zc_223 d xm_223 9 [r0, r1, r2, r3] ((1, 110) :: st) mem Post) := zrf rfl
theorem s_223_9 {E : yE} {n d : Nat} {mem : yMem} {Post : Option yV → yMem → Prop} {st : List yV} {r0 r2 r3 : Option yV} {x : Int} : zvc E (n + 1) zc_223 d xm_223 9 [r0, some (0, x), r2, r3] (st) mem Post = (zvc E n zc_223 d xm_223 10 [r0, some (0, x), r2, r3] ((0, x) :: st) mem Post) := zrf rfl
theorem s_223_10 {E : yE} {n d : Nat} {mem : yMem} {Post : Option yV → yMem → Prop} {st : List yV} {r0 r1 r2 r3 : Option yV} {z j : Int} : zvc E (n + 1) zc_223 d xm_223 10 [r0, r1, r2, r3] ((0, j) :: (1, z) :: st) mem Post = ((0 ≤ w32 j ∧ w32 j < ((zar z 0 : Nat) : Int)) ∧ zvc E n zc_223 d xm_223 11 [r0, r1, r2, r3] ((0, mem z.toNat (w32 j).toNat) :: st) mem Post) := zrf rfl
theorem s_223_11 {E : yE} {n d : Nat} {mem : yMem} {Post : Option yV → yMem → Prop} {st : List yV} {r0 r1 r2 r3 : Option yV} {x y : Int} : zvc E (n + 1) zc_223 d xm_223 11 [r0, r1, r2, r3] ((0, y) :: (0, x) :: st) mem Post = ((w32 y ≤ w32 x → zvc E n zc_223 d xm_223 42 [r0, r1, r2, r3] (st) mem Post) ∧ (¬ (w32 y ≤ w32 x) → zvc E n zc_223 d xm_223 14 [r0, r1, r2, r3] (st) mem Post)) := zrf rfl
theorem s_223_14 {E : yE} {n d : Nat} {mem : yMem} {Post : Option yV → yMem → Prop} {st : List yV} {r0 r1 r3 : Option yV} {x : Int} : zvc E (n + 1) zc_223 d xm_223 14 [r0, r1, some (0, x), r3] (st) mem Post = (zvc E n zc_223 d xm_223 15 [r0, r1, some (0, x), r3] ((0, x) :: st) mem Post) := zrf rfl
theorem s_223_15 {E : yE} {n d : Nat} {mem : yMem} {Post : Option yV → yMem → Prop} {st : List yV} {r1 r2 r3 : Option yV} {x : Int} : zvc E (n + 1) zc_223 d xm_223 15 [some (1, x), r1, r2, r3] (st) mem Post = (zvc E n zc_223 d xm_223 16 [some (1, x), r1, r2, r3] ((1, x) :: st) mem Post) := zrf rfl
theorem s_223_16 {E : yE} {n d : Nat} {mem : yMem} {Post : Option yV → yMem → Prop} {st : List yV} {r0 r1 r2 r3 : Option yV} : zvc E (n + 1) zc_223 d xm_223 16 [r0, r1, r2, r3] ((1, 95) :: st) mem Post = (zvc E n zc_223 d xm_223 19 [r0, r1, r2, r3] ((1, 111) :: st) mem Post) := zrf rfl
theorem s_223_19 {E : yE} {n d : Nat} {mem : yMem} {Post : Option yV → yMem → Prop} {st : List yV} {r0 r1 r2 r3 : Option yV} : zvc E (n + 1) zc_223 d xm_223 19 [r0, r1, r2, r3] (st) mem Post = (zvc E n zc_223 d xm_223 21 [r0, r1, r2, r3] ((0, 8) :: st) mem Post) := zrf rfl
theorem s_223_21 {E : yE} {n d : Nat} {mem : yMem} {Post : Option yV → yMem → Prop} {st : List yV} {r0 r2 r3 : Option yV} {x : Int} : zvc E (n + 1) zc_223 d xm_223 21 [r0, some (0, x), r2, r3] (st) mem Post = (zvc E n zc_223 d xm_223 22 [r0, some (0, x), r2, r3] ((0, x) :: st) mem Post) := zrf rfl
theorem s_223_22 {E : yE} {n d : Nat} {mem : yMem} {Post : Option yV → yMem → Prop} {st : List yV} {r0 r1 r2 r3 : Option yV} {x y : Int} : zvc E (n + 1) zc_223 d xm_223 22 [r0, r1, r2, r3] ((0, y) :: (0, x) :: st) mem Post = (zvc E n zc_223 d xm_223 23 [r0, r1, r2, r3] ((0, x * y) :: st) mem Post) := zrf rfl
theorem s_223_23 {E : yE} {n d : Nat} {mem : yMem} {Post : Option yV → yMem → Prop} {st : List yV} {r0 r1 r2 : Option yV} {x : Int} : zvc E (n + 1) zc_223 d xm_223 23 [r0, r1, r2, some (0, x)] (st) mem Post = (zvc E n zc_223 d xm_223 24 [r0, r1, r2, some (0, x)] ((0, x) :: st) mem Post) := zrf rfl
theorem s_223_24 {E : yE} {n d : Nat} {mem : yMem} {Post : Option yV → yMem → Prop} {st : List yV} {r0 r1 r2 r3 : Option yV} {x y : Int} : zvc E (n + 1) zc_223 d xm_223 24 [r0, r1, r2, r3] ((0, y) :: (0, x) :: st) mem Post = (zvc E n zc_223 d xm_223 25 [r0, r1, r2, r3] ((0, x + y) :: st) mem Post) := zrf rfl
theorem s_223_25 {E : yE} {n d : Nat} {mem : yMem} {Post : Option yV → yMem → Prop} {st : List yV} {r0 r1 r2 r3 : Option yV} {z j : Int} : zvc E (n + 1) zc_223 d xm_223 25 [r0, r1, r2, r3] ((0, j) :: (1, z) :: st) mem Post = ((0 ≤ w32 j ∧ w32 j < ((zar z 0 : Nat) : Int)) ∧ zvc E n zc_223 d xm_223 26 [r0, r1, r2, r3] ((0, mem z.toNat (w32 j).toNat) :: st) mem Post) := zrf rfl
theorem s_223_26 {E : yE} {n d : Nat} {mem : yMem} {Post : Option yV → yMem → Prop} {st : List yV} {r0 r1 r2 r3 : Option yV} {x : Int} : zvc E (n + 1) zc_223 d xm_223 26 [r0, r1, r2, r3] ((0, x) :: st) mem Post = ((¬ w32 x = w32 0 → zvc E n zc_223 d xm_223 33 [r0, r1, r2, r3] (st) mem Post) ∧ (¬ (¬ w32 x = w32 0) → zvc E n zc_223 d xm_223 29 [r0, r1, r2, r3] (st) mem Post)) := zrf rfl
theorem s_223_29 {E : yE} {n d : Nat} {mem : yMem} {Post : Option yV → yMem → Prop} {st : List yV} {r0 r1 r2 r3 : Option yV} : zvc E (n + 1) zc_223 d xm_223 29 [r0, r1, r2, r3] (st) mem Post = (zvc E n zc_223 d xm_223 30 [r0, r1, r2, r3] ((0, 1) :: st) mem Post) := zrf rfl
theorem s_223_30 {E : yE} {n d : Nat} {mem : yMem} {Post : Option yV → yMem → Prop} {st : List yV} {r0 r1 r2 r3 : Option yV} : zvc E (n + 1) zc_223 d xm_223 30 [r0, r1, r2, r3] (st) mem Post = (zvc E n zc_223 d xm_223 34 [r0, r1, r2, r3] (st) mem Post) := zrf rfl
theorem s_223_33 {E : yE} {n d : Nat} {mem : yMem} {Post : Option yV → yMem → Prop} {st : List yV} {r0 r1 r2 r3 : Option yV} : zvc E (n + 1) zc_223 d xm_223 33 [r0, r1, r2, r3] (st) mem Post = (zvc E n zc_223 d xm_223 34 [r0, r1, r2, r3] ((0, 0) :: st) mem Post) := zrf rfl
theorem s_223_34 {E : yE} {n d : Nat} {mem : yMem} {Post : Option yV → yMem → Prop} {st : List yV} {r0 r1 r2 r3 : Option yV} {x y : Int} : zvc E (n + 1) zc_223 d xm_223 34 [r0, r1, r2, r3] ((0, y) :: (0, x) :: st) mem Post = (zvc E n zc_223 d xm_223 35 [r0, r1, r2, r3] ((0, x + y) :: st) mem Post) := zrf rfl
theorem s_223_35n {E : yE} {n d : Nat} {mem : yMem} {Post : Option yV → yMem → Prop} {st : List yV} {r0 r2 r3 : Option yV} {x : Int} : zvc E (n + 1) zc_223 d xm_223 35 [r0, none, r2, r3] ((0, x) :: st) mem Post = (zvc E n zc_223 d xm_223 36 [r0, none, some (0, x), r3] (st) mem Post) := zrf rfl
theorem s_223_35i {E : yE} {n d : Nat} {mem : yMem} {Post : Option yV → yMem → Prop} {st : List yV} {r0 r2 r3 : Option yV} {x w : Int} : zvc E (n + 1) zc_223 d xm_223 35 [r0, some (0, w), r2, r3] ((0, x) :: st) mem Post = (zvc E n zc_223 d xm_223 36 [r0, some (0, w), some (0, x), r3] (st) mem Post) := zrf rfl
theorem s_223_35p {E : yE} {n d : Nat} {mem : yMem} {Post : Option yV → yMem → Prop} {st : List yV} {r0 r2 r3 : Option yV} {x w : Int} : zvc E (n + 1) zc_223 d xm_223 35 [r0, some (1, w), r2, r3] ((0, x) :: st) mem Post = (zvc E n zc_223 d xm_223 36 [r0, some (1, w), some (0, x), r3] (st) mem Post) := zrf rfl
theorem s_223_36n {E : yE} {n d : Nat} {mem : yMem} {Post : Option yV → yMem → Prop} {st : List yV} {r0 r1 : Option yV} {x : Int} : zvc E (n + 1) zc_223 d xm_223 36 [r0, r1, none, some (0, x)] (st) mem Post = (zvc E n zc_223 d xm_223 39 [r0, r1, none, some (0, x + 1)] (st) mem Post) := zrf rfl
theorem s_223_36i {E : yE} {n d : Nat} {mem : yMem} {Post : Option yV → yMem → Prop} {st : List yV} {r0 r1 : Option yV} {x w : Int} : zvc E (n + 1) zc_223 d xm_223 36 [r0, r1, some (0, w), some (0, x)] (st) mem Post = (zvc E n zc_223 d xm_223 39 [r0, r1, some (0, w), some (0, x + 1)] (st) mem Post) := zrf rfl
theorem s_223_36p {E : yE} {n d : Nat} {mem : yMem} {Post : Option yV → yMem → Prop} {st : List yV} {r0 r1 : Option yV} {x w : Int} : zvc E (n + 1) zc_223 d xm_223 36 [r0, r1, some (1, w), some (0, x)] (st) mem Post = (zvc E n zc_223 d xm_223 39 [r0, r1, some (1, w), some (0, x + 1)] (st) mem Post) := zrf rfl
theorem s_223_39 {E : yE} {n d : Nat} {mem : yMem} {Post : Option yV → yMem → Prop} {st : List yV} {r0 r1 r2 r3 : Option yV} : zvc E (n + 1) zc_223 d xm_223 39 [r0, r1, r2, r3] (st) mem Post = (zvc E n zc_223 d xm_223 4 [r0, r1, r2, r3] (st) mem Post) := zrf rfl
theorem s_223_42 {E : yE} {n d : Nat} {mem : yMem} {Post : Option yV → yMem → Prop} {st : List yV} {r0 r1 r3 : Option yV} {x : Int} : zvc E (n + 1) zc_223 d xm_223 42 [r0, r1, some (0, x), r3] (st) mem Post = (zvc E n zc_223 d xm_223 43 [r0, r1, some (0, x), r3] ((0, x) :: st) mem Post) := zrf rfl
theorem s_223_43 {E : yE} {n d : Nat} {mem : yMem} {Post : Option yV → yMem → Prop} {r0 r1 r2 r3 : Option yV} {x : Int} : zvc E (n + 1) zc_223 d xm_223 43 [r0, r1, r2, r3] ([(0, x)]) mem Post = (Post (some (0, x)) mem) := zrf rfl
def zc_179 : List Nat := [4]
theorem s_179_0 {E : yE} {n d : Nat} {mem : yMem} {Post : Option yV → yMem → Prop} {st : List yV} {r0 r1 r2 r3 : Option yV} : zvc E (n + 1) zc_179 d xm_179 0 [r0, r1, r2, r3] (st) mem Post = (zvc E n zc_179 d xm_179 1 [r0, r1, r2, r3] ((0, 0) :: st) mem Post) := zrf rfl
theorem s_179_1n {E : yE} {n d : Nat} {mem : yMem} {Post : Option yV → yMem → Prop} {st : List yV} {r0 r2 r3 : Option yV} {x : Int} : zvc E (n + 1) zc_179 d xm_179 1 [r0, none, r2, r3] ((0, x) :: st) mem Post = (zvc E n zc_179 d xm_179 2 [r0, none, some (0, x), r3] (st) mem Post) := zrf rfl
theorem s_179_1i {E : yE} {n d : Nat} {mem : yMem} {Post : Option yV → yMem → Prop} {st : List yV} {r0 r2 r3 : Option yV} {x w : Int} : zvc E (n + 1) zc_179 d xm_179 1 [r0, some (0, w), r2, r3] ((0, x) :: st) mem Post = (zvc E n zc_179 d xm_179 2 [r0, some (0, w), some (0, x), r3] (st) mem Post) := zrf rfl
theorem s_179_1p {E : yE} {n d : Nat} {mem : yMem} {Post : Option yV → yMem → Prop} {st : List yV} {r0 r2 r3 : Option yV} {x w : Int} : zvc E (n + 1) zc_179 d xm_179 1 [r0, some (1, w), r2, r3] ((0, x) :: st) mem Post = (zvc E n zc_179 d xm_179 2 [r0, some (1, w), some (0, x), r3] (st) mem Post) := zrf rfl
theorem s_179_2 {E : yE} {n d : Nat} {mem : yMem} {Post : Option yV → yMem → Prop} {st : List yV} {r0 r1 r2 r3 : Option yV} : zvc E (n + 1) zc_179 d xm_179 2 [r0, r1, r2, r3] (st) mem Post = (zvc E n zc_179 d xm_179 3 [r0, r1, r2, r3] ((0, 0) :: st) mem Post) := zrf rfl
theorem s_179_3n {E : yE} {n d : Nat} {mem : yMem} {Post : Option yV → yMem → Prop} {st : List yV} {r0 r1 r3 : Option yV} {x : Int} : zvc E (n + 1) zc_179 d xm_179 3 [r0, r1, none, r3] ((0, x) :: st) mem Post = (zvc E n zc_179 d xm_179 4 [r0, r1, none, some (0, x)] (st) mem Post) := zrf rfl
theorem s_179_3i {E : yE} {n d : Nat} {mem : yMem} {Post : Option yV → yMem → Prop} {st : List yV} {r0 r1 r3 : Option yV} {x w : Int} : zvc E (n + 1) zc_179 d xm_179 3 [r0, r1, some (0, w), r3] ((0, x) :: st) mem Post = (zvc E n zc_179 d xm_179 4 [r0, r1, some (0, w), some (0, x)] (st) mem Post) := zrf rfl
theorem s_179_3p {E : yE} {n d : Nat} {mem : yMem} {Post : Option yV → yMem → Prop} {st : List yV} {r0 r1 r3 : Option yV} {x w : Int} : zvc E (n + 1) zc_179 d xm_179 3 [r0, r1, some (1, w), r3] ((0, x) :: st) mem Post = (zvc E n zc_179 d xm_179 4 [r0, r1, some (1, w), some (0, x)] (st) mem Post) := zrf rfl
theorem g_179_4 {E : yE} {n d : Nat} {mem : yMem} {Post : Option yV → yMem → Prop} {st : List yV} {r0 r1 r2 : Option yV} {x : Int} : zgo E n zc_179 d xm_179 4 [r0, r1, r2, some (0, x)] (st) mem Post = (zvc E n zc_179 d xm_179 5 [r0, r1, r2, some (0, x)] ((0, x) :: st) mem Post) := zrf rfl
theorem k_179_4 {E : yE} {n d : Nat} {mem : yMem} {Post : Option yV → yMem → Prop} {st : List yV} {rg : zR} : zvc E (n + 1) zc_179 d xm_179 4 rg st mem Post = zG E d xm_179 4 rg st mem Post := zrf rfl
theorem s_179_5 {E : yE} {n d : Nat} {mem : yMem} {Post : Option yV → yMem → Prop} {st : List yV} {r1 r2 r3 : Option yV} {x : Int} : zvc E (n + 1) zc_179 d xm_179 5 [some (1, x), r1, r2, r3] (st) mem Post = (zvc E n zc_179 d xm_179 6 [some (1, x), r1, r2, r3] ((1, x) :: st) mem Post) := zrf rfl
theorem s_179_6 {E : yE} {n d : Nat} {mem : yMem} {Post : Option yV → yMem → Prop} {st : List yV} {r0 r1 r2 r3 : Option yV} : zvc E (n + 1) zc_179 d xm_179 6 [r0, r1, r2, r3] ((1, 95) :: st) mem Post = (zvc E n zc_179 d xm_179 9 [r0, r1, r2, r3] ((1, 110) :: st) mem Post) := zrf rfl
theorem s_179_9 {E : yE} {n d : Nat} {mem : yMem} {Post : Option yV → yMem → Prop} {st : List yV} {r0 r2 r3 : Option yV} {x : Int} : zvc E (n + 1) zc_179 d xm_179 9 [r0, some (0, x), r2, r3] (st) mem Post = (zvc E n zc_179 d xm_179 10 [r0, some (0, x), r2, r3] ((0, x) :: st) mem Post) := zrf rfl
theorem s_179_10 {E : yE} {n d : Nat} {mem : yMem} {Post : Option yV → yMem → Prop} {st : List yV} {r0 r1 r2 r3 : Option yV} {z j : Int} : zvc E (n + 1) zc_179 d xm_179 10 [r0, r1, r2, r3] ((0, j) :: (1, z) :: st) mem Post = ((0 ≤ w32 j ∧ w32 j < ((zar z 0 : Nat) : Int)) ∧ zvc E n zc_179 d xm_179 11 [r0, r1, r2, r3] ((0, mem z.toNat (w32 j).toNat) :: st) mem Post) := zrf rfl
theorem s_179_11 {E : yE} {n d : Nat} {mem : yMem} {Post : Option yV → yMem → Prop} {st : List yV} {r0 r1 r2 r3 : Option yV} {x y : Int} : zvc E (n + 1) zc_179 d xm_179 11 [r0, r1, r2, r3] ((0, y) :: (0, x) :: st) mem Post = ((w32 y ≤ w32 x → zvc E n zc_179 d xm_179 36 [r0, r1, r2, r3] (st) mem Post) ∧ (¬ (w32 y ≤ w32 x) → zvc E n zc_179 d xm_179 14 [r0, r1, r2, r3] (st) mem Post)) := zrf rfl
theorem s_179_14 {E : yE} {n d : Nat} {mem : yMem} {Post : Option yV → yMem → Prop} {st : List yV} {r0 r1 r3 : Option yV} {x : Int} : zvc E (n + 1) zc_179 d xm_179 14 [r0, r1, some (0, x), r3] (st) mem Post = (zvc E n zc_179 d xm_179 15 [r0, r1, some (0, x), r3] ((0, x) :: st) mem Post) := zrf rfl
theorem s_179_15 {E : yE} {n d : Nat} {mem : yMem} {Post : Option yV → yMem → Prop} {st : List yV} {r1 r2 r3 : Option yV} {x : Int} : zvc E (n + 1) zc_179 d xm_179 15 [some (1, x), r1, r2, r3] (st) mem Post = (zvc E n zc_179 d xm_179 16 [some (1, x), r1, r2, r3] ((1, x) :: st) mem Post) := zrf rfl
theorem s_179_16 {E : yE} {n d : Nat} {mem : yMem} {Post : Option yV → yMem → Prop} {st : List yV} {r0 r1 r2 r3 : Option yV} : zvc E (n + 1) zc_179 d xm_179 16 [r0, r1, r2, r3] ((1, 95) :: st) mem Post = (zvc E n zc_179 d xm_179 19 [r0, r1, r2, r3] ((1, 111) :: st) mem Post) := zrf rfl
theorem s_179_19 {E : yE} {n d : Nat} {mem : yMem} {Post : Option yV → yMem → Prop} {st : List yV} {r0 r1 r2 r3 : Option yV} : zvc E (n + 1) zc_179 d xm_179 19 [r0, r1, r2, r3] (st) mem Post = (zvc E n zc_179 d xm_179 21 [r0, r1, r2, r3] ((0, 8) :: st) mem Post) := zrf rfl
theorem s_179_21 {E : yE} {n d : Nat} {mem : yMem} {Post : Option yV → yMem → Prop} {st : List yV} {r0 r2 r3 : Option yV} {x : Int} : zvc E (n + 1) zc_179 d xm_179 21 [r0, some (0, x), r2, r3] (st) mem Post = (zvc E n zc_179 d xm_179 22 [r0, some (0, x), r2, r3] ((0, x) :: st) mem Post) := zrf rfl
theorem s_179_22 {E : yE} {n d : Nat} {mem : yMem} {Post : Option yV → yMem → Prop} {st : List yV} {r0 r1 r2 r3 : Option yV} {x y : Int} : zvc E (n + 1) zc_179 d xm_179 22 [r0, r1, r2, r3] ((0, y) :: (0, x) :: st) mem Post = (zvc E n zc_179 d xm_179 23 [r0, r1, r2, r3] ((0, x * y) :: st) mem Post) := zrf rfl
theorem s_179_23 {E : yE} {n d : Nat} {mem : yMem} {Post : Option yV → yMem → Prop} {st : List yV} {r0 r1 r2 : Option yV} {x : Int} : zvc E (n + 1) zc_179 d xm_179 23 [r0, r1, r2, some (0, x)] (st) mem Post = (zvc E n zc_179 d xm_179 24 [r0, r1, r2, some (0, x)] ((0, x) :: st) mem Post) := zrf rfl
theorem s_179_24 {E : yE} {n d : Nat} {mem : yMem} {Post : Option yV → yMem → Prop} {st : List yV} {r0 r1 r2 r3 : Option yV} {x y : Int} : zvc E (n + 1) zc_179 d xm_179 24 [r0, r1, r2, r3] ((0, y) :: (0, x) :: st) mem Post = (zvc E n zc_179 d xm_179 25 [r0, r1, r2, r3] ((0, x + y) :: st) mem Post) := zrf rfl
theorem s_179_25 {E : yE} {n d : Nat} {mem : yMem} {Post : Option yV → yMem → Prop} {st : List yV} {r0 r1 r2 r3 : Option yV} {z j : Int} : zvc E (n + 1) zc_179 d xm_179 25 [r0, r1, r2, r3] ((0, j) :: (1, z) :: st) mem Post = ((0 ≤ w32 j ∧ w32 j < ((zar z 0 : Nat) : Int)) ∧ zvc E n zc_179 d xm_179 26 [r0, r1, r2, r3] ((0, mem z.toNat (w32 j).toNat) :: st) mem Post) := zrf rfl
theorem s_179_26 {E : yE} {n d : Nat} {mem : yMem} {Post : Option yV → yMem → Prop} {st : List yV} {r0 r1 r2 r3 : Option yV} {x y : Int} : zvc E (n + 1) zc_179 d xm_179 26 [r0, r1, r2, r3] ((0, y) :: (0, x) :: st) mem Post = (ysum st ≤ 8 ∧ zvc E n zc_179 d xm_179 29 [r0, r1, r2, r3] ((0, zmxi x y) :: st) mem Post) := zrf rfl
theorem s_179_29n {E : yE} {n d : Nat} {mem : yMem} {Post : Option yV → yMem → Prop} {st : List yV} {r0 r2 r3 : Option yV} {x : Int} : zvc E (n + 1) zc_179 d xm_179 29 [r0, none, r2, r3] ((0, x) :: st) mem Post = (zvc E n zc_179 d xm_179 30 [r0, none, some (0, x), r3] (st) mem Post) := zrf rfl
theorem s_179_29i {E : yE} {n d : Nat} {mem : yMem} {Post : Option yV → yMem → Prop} {st : List yV} {r0 r2 r3 : Option yV} {x w : Int} : zvc E (n + 1) zc_179 d xm_179 29 [r0, some (0, w), r2, r3] ((0, x) :: st) mem Post = (zvc E n zc_179 d xm_179 30 [r0, some (0, w), some (0, x), r3] (st) mem Post) := zrf rfl
theorem s_179_29p {E : yE} {n d : Nat} {mem : yMem} {Post : Option yV → yMem → Prop} {st : List yV} {r0 r2 r3 : Option yV} {x w : Int} : zvc E (n + 1) zc_179 d xm_179 29 [r0, some (1, w), r2, r3] ((0, x) :: st) mem Post = (zvc E n zc_179 d xm_179 30 [r0, some (1, w), some (0, x), r3] (st) mem Post) := zrf rfl
theorem s_179_30n {E : yE} {n d : Nat} {mem : yMem} {Post : Option yV → yMem → Prop} {st : List yV} {r0 r1 : Option yV} {x : Int} : zvc E (n + 1) zc_179 d xm_179 30 [r0, r1, none, some (0, x)] (st) mem Post = (zvc E n zc_179 d xm_179 33 [r0, r1, none, some (0, x + 1)] (st) mem Post) := zrf rfl
theorem s_179_30i {E : yE} {n d : Nat} {mem : yMem} {Post : Option yV → yMem → Prop} {st : List yV} {r0 r1 : Option yV} {x w : Int} : zvc E (n + 1) zc_179 d xm_179 30 [r0, r1, some (0, w), some (0, x)] (st) mem Post = (zvc E n zc_179 d xm_179 33 [r0, r1, some (0, w), some (0, x + 1)] (st) mem Post) := zrf rfl
theorem s_179_30p {E : yE} {n d : Nat} {mem : yMem} {Post : Option yV → yMem → Prop} {st : List yV} {r0 r1 : Option yV} {x w : Int} : zvc E (n + 1) zc_179 d xm_179 30 [r0, r1, some (1, w), some (0, x)] (st) mem Post = (zvc E n zc_179 d xm_179 33 [r0, r1, some (1, w), some (0, x + 1)] (st) mem Post) := zrf rfl
theorem s_179_33 {E : yE} {n d : Nat} {mem : yMem} {Post : Option yV → yMem → Prop} {st : List yV} {r0 r1 r2 r3 : Option yV} : zvc E (n + 1) zc_179 d xm_179 33 [r0, r1, r2, r3] (st) mem Post = (zvc E n zc_179 d xm_179 4 [r0, r1, r2, r3] (st) mem Post) := zrf rfl
theorem s_179_36 {E : yE} {n d : Nat} {mem : yMem} {Post : Option yV → yMem → Prop} {st : List yV} {r0 r1 r3 : Option yV} {x : Int} : zvc E (n + 1) zc_179 d xm_179 36 [r0, r1, some (0, x), r3] (st) mem Post = (zvc E n zc_179 d xm_179 37 [r0, r1, some (0, x), r3] ((0, x) :: st) mem Post) := zrf rfl
theorem s_179_37 {E : yE} {n d : Nat} {mem : yMem} {Post : Option yV → yMem → Prop} {r0 r1 r2 r3 : Option yV} {x : Int} : zvc E (n + 1) zc_179 d xm_179 37 [r0, r1, r2, r3] ([(0, x)]) mem Post = (Post (some (0, x)) mem) := zrf rfl
theorem e_193 {E : yE} {d : Nat} {mem : yMem} {Q : Option yV → yMem → Prop} {z a0 a1 a2 : Int} (h : zG E d xm_193 0 [some (1, z), some (0, a0), some (0, a1), some (0, a2)] [] mem Q) : yCon E (d + 1) xm_193 [(1, z), (0, a0), (0, a1), (0, a2)] mem Q := zcon_of xmo_193 (Nat.le_of_ble_eq_true rfl) h
theorem e_233 {E : yE} {d : Nat} {mem : yMem} {Q : Option yV → yMem → Prop} {z a0 a1 : Int} (h : zG E d xm_233 0 [some (1, z), some (0, a0), some (0, a1), none, none] [] mem Q) : yCon E (d + 1) xm_233 [(1, z), (0, a0), (0, a1)] mem Q := zcon_of xmo_233 (Nat.le_of_ble_eq_true rfl) h
theorem e_223 {E : yE} {d : Nat} {mem : yMem} {Q : Option yV → yMem → Prop} {z a0 : Int} (h : zG E d xm_223 0 [some (1, z), some (0, a0), none, none] [] mem Q) : yCon E (d + 1) xm_223 [(1, z), (0, a0)] mem Q := zcon_of xmo_223 (Nat.le_of_ble_eq_true rfl) h
theorem e_179 {E : yE} {d : Nat} {mem : yMem} {Q : Option yV → yMem → Prop} {z a0 : Int} (h : zG E d xm_179 0 [some (1, z), some (0, a0), none, none] [] mem Q) : yCon E (d + 1) xm_179 [(1, z), (0, a0)] mem Q := zcon_of xmo_179 (Nat.le_of_ble_eq_true rfl) h

/-! THE REFERENCE: what a VOICE SOUNDS, rests, the greatest pitch -/
section RS
variable {E : yE} {mem : yMem} {Q : Option yV → yMem → Prop} {D : dDc} {p v : Nat} {S V : Int} {d : Nat}
theorem r_snd (hE : yEok E) {D0 : Nat} (hD : 2 ≤ D0) {X B : Int} (hX : w32 (mem 122 0) = X) (h0 : 0 ≤ X) (h1 : X < 64) (hS : w32 S = (p : Int)) (hV : w32 V = (v : Int)) (h : rDl mem D) (hk : dOk D) (hp : uPv D p) (hv : v < D.2.1.length) (hQ : ∀ r, (¬ uCk X v → 0 ≤ w32 B → w32 B < ((sBr D p).length : Int) → sSo D p v (w32 B).toNat = true → w32 r = 1) → (uCk X v ∨ ¬ (0 ≤ w32 B ∧ w32 B < ((sBr D p).length : Int)) ∨ sSo D p v (w32 B).toNat = false → w32 r = 0) → Q (some (0, r)) mem) : yCon E D0 xm_193 [(1, 95), (0, S), (0, V), (0, B)] mem Q := by
  obtain ⟨d, rfl⟩ := Nat.exists_eq_add_of_le' hD
  refine e_193 ?_
  refine zvc_ok hE 90 [] _ _ _ _ _ _ _ xmo_193 ?_
  obtain ⟨⟨b1, b2⟩, b3⟩ := rTb_p h hp
  obtain ⟨v1, v2, -⟩ := rTb_v h hv
  have hp12 := (uPv_ltr h hp).1
  have hn := (rTb_n h).2.1.2
  have St := w32_t hS
  have Vt := w32_t hV
  have t := uCk_t hX h0 h1 hV (show v < 6 by omega)
  have lo1 : 1 ≤ vLo D v := (dOk_v hk hv).1
  have no : (uCk X v ∨ ¬ (0 ≤ w32 B ∧ w32 B < ((sBr D p).length : Int)) ∨ sSo D p v (w32 B).toNat = false) → Q (some (0, 0)) mem := fun z => hQ 0 (fun z1 z2 z3 z4 => by
    rcases z with z | z | z
    · exact absurd z z1
    · exact absurd ⟨z2, z3⟩ z
    · rw [z] at z4; cases z4) (fun _ => w32c_0)
  have ys : ¬ uCk X v → 0 ≤ w32 B → w32 B < ((sBr D p).length : Int) → sSo D p v (w32 B).toNat = true → Q (some (0, 1)) mem := fun z1 z2 z3 z4 => hQ 1 (fun _ _ _ _ => w32c_1) (fun z => by
    rcases z with z | z | z
    · exact absurd z z1
    · exact absurd ⟨z2, z3⟩ z
    · rw [z] at z4; cases z4)
  simp only [ynok_30, ynok_31, w32c_0, w32c_1, w32c_2, w32c_3, w32c_4, w32c_5, w32c_6, w32c_7, w32c_8, w32c_9, w32c_10, w32c_11, w32c_12, w32c_13, w32c_14, w32c_m1, w32c_m2, w32c_118, Int.reduceAdd, Int.reduceSub, Int.reduceMul, yput_s, yput_n, znl_n, znl_0, znl_1, znl_4, ysum_n, ysum_0, ysum_1, ysum_4, true_and, and_true, Nat.reduceAdd, Nat.reduceLeDiff, true_implies, eq_self, true_or, or_true, or_false, false_or, not_true_eq_false, not_false_eq_true, false_implies, implies_true, yset_s, yset_o, yset_d, ne_eq, Nat.reduceEqDiff, Int.reduceToNat, Int.reduceEq, Int.reduceLE, Int.reduceLT, Classical.not_not, Nat.reduceLT, ↓zvk_s, ↓zvk_n, ↓s_193_0, ↓s_193_1, ↓s_193_4, ↓s_193_5, ↓s_193_6, ↓s_193_9, ↓s_193_10, ↓s_193_11, ↓s_193_14, ↓s_193_15, ↓s_193_16, ↓s_193_19, ↓s_193_22, ↓s_193_23, ↓s_193_24, ↓s_193_25, ↓s_193_28, ↓s_193_30, ↓s_193_31, ↓s_193_32, ↓s_193_33, ↓s_193_34, ↓s_193_35, ↓s_193_38, ↓s_193_41, ↓s_193_42, ↓s_193_45, ↓s_193_46, ↓s_183_0, ↓s_183_1, ↓s_183_4, ↓s_183_5, ↓s_183_6, ↓s_183_7, ↓s_183_8, ↓s_183_9, ↓s_183_10, ↓s_183_11, ↓s_183_14, ↓s_183_15, ↓s_183_18, ↓s_183_19, ↓s_220_0, ↓s_220_1, ↓s_220_4, ↓s_220_5, ↓s_220_6, ↓s_220_9, ↓s_220_10, ↓s_220_11, ↓s_220_14, ↓s_220_15, ↓s_220_16, ↓s_220_19, ↓s_220_20, ↓s_220_21, ↓s_220_24, ↓s_220_25, ↓s_220_28, ↓s_220_29, zar_103, zia_103, zln_103, zit_103, zar_102, zia_102, zln_102, zit_102, zio_95, zar_122, zia_122, zln_122, zit_122, zar_110, zia_110, zln_110, zit_110, zar_111, zia_111, zln_111, zit_111, St, Vt, t]
  have c1 : ∀ n : Nat, ((n : Nat) : Int) = 1 ↔ n = 1 := fun n => by omega
  have eB : w32 B = (((w32 B).toNat : Nat) : Int) ∨ w32 B < 0 := by omega
  refine ⟨fun z => no (Or.inr (Or.inl (by omega))), fun z => ⟨⟨by omega, by omega⟩, fun z1 => no (Or.inr (Or.inl (by omega))), fun z1 => ⟨by decide, fun c => ?_, fun c => no (Or.inl ((c1 _).mp c))⟩⟩⟩
  have ix := ix8r hS (eB.resolve_right z) hp12 (by omega)
  have b := b3 (w32 B).toNat (by omega)
  rw [w32_t ix]
  refine ⟨⟨by omega, by omega⟩, fun z2 => no (Or.inr (Or.inr (decide_eq_false (by omega)))), fun z2 => ⟨⟨by omega, by omega⟩, fun z3 => no (Or.inr (Or.inr (decide_eq_false (by omega)))), fun z3 => ⟨⟨by omega, by omega⟩, fun z4 => no (Or.inr (Or.inr (decide_eq_false (by omega)))), fun z4 => ys (fun k => c ((c1 _).mpr k)) (by omega) (by omega) (decide_eq_true (by omega))⟩⟩⟩
theorem r_sounds_l (hE : yEok E) (hd : 2 ≤ d) {X : Int} (hX : w32 (mem 122 0) = X) (h0 : 0 ≤ X) (h1 : X < 64) (hS : w32 S = (p : Int)) (hV : w32 V = (v : Int)) (h : rDl mem D) (hk : dOk D) (hp : uPv D p) (hv : v < D.2.1.length) (hQ : ∀ r, w32 r = ((sNo D X p v : Nat) : Int) → Q (some (0, r)) mem) : ∀ (c i : Nat) (I x : Int), (sBr D p).length - i = c → i ≤ (sBr D p).length → w32 I = (i : Int) → w32 x = (((if uCk X v then 0 else nCt (sSo D p v) i) : Nat) : Int) → zG E d xm_233 5 [some (1, 95), some (0, S), some (0, V), some (0, x), some (0, I)] [] mem Q := by
  obtain ⟨⟨b1, b2⟩, b3⟩ := rTb_p h hp
  have hp12 := (uPv_ltr h hp).1
  have St := w32_t hS
  intro c
  induction c with
  | zero =>
    intro i I x hc hi hI hx
    refine zgo_ok (n := 60) hE xmo_233 (cs := zc_233) ?_
    simp only [ynok_30, ynok_31, w32c_0, w32c_1, w32c_2, w32c_3, w32c_4, w32c_5, w32c_6, w32c_7, w32c_8, w32c_9, w32c_10, w32c_11, w32c_12, w32c_13, w32c_14, w32c_m1, w32c_m2, w32c_118, Int.reduceAdd, Int.reduceSub, Int.reduceMul, yput_s, yput_n, znl_n, znl_0, znl_1, znl_4, ysum_n, ysum_0, ysum_1, ysum_4, true_and, and_true, Nat.reduceAdd, Nat.reduceLeDiff, true_implies, eq_self, true_or, or_true, or_false, false_or, not_true_eq_false, not_false_eq_true, false_implies, implies_true, yset_s, yset_o, yset_d, ne_eq, Nat.reduceEqDiff, Int.reduceToNat, Int.reduceEq, Int.reduceLE, Int.reduceLT, Classical.not_not, Nat.reduceLT, ↓zvk_s, ↓zvk_n, ↓s_233_0, ↓s_233_1n, ↓s_233_1i, ↓s_233_1p, ↓s_233_2, ↓s_233_3n, ↓s_233_3i, ↓s_233_3p, ↓g_233_5, ↓k_233_5, ↓s_233_7, ↓s_233_8, ↓s_233_11, ↓s_233_12, ↓s_233_13, ↓s_233_16, ↓s_233_17, ↓s_233_18, ↓s_233_19, ↓s_233_20, ↓s_233_22, ↓s_233_25, ↓s_233_28, ↓s_233_29, ↓s_233_32, ↓s_233_33, ↓s_233_34n, ↓s_233_34i, ↓s_233_34p, ↓s_233_35n, ↓s_233_35i, ↓s_233_35p, ↓s_233_38, ↓s_233_41, ↓s_233_42, zar_110, zia_110, zln_110, zit_110, zio_95, St]
    have e : i = (sBr D p).length := by omega
    subst e
    exact ⟨⟨by omega, by omega⟩, fun _ => hQ _ hx, fun hh => absurd (show w32 (mem 110 p) ≤ w32 I by omega) hh⟩
  | succ c ih =>
    intro i I x hc hi hI hx
    have e1 := w32_s1 hI (by omega)
    have hcl := nCt_le (sSo D p v) i
    have it := w32_t hI
    refine zgo_ok (n := 60) hE xmo_233 (cs := zc_233) ?_
    simp only [ynok_30, ynok_31, w32c_0, w32c_1, w32c_2, w32c_3, w32c_4, w32c_5, w32c_6, w32c_7, w32c_8, w32c_9, w32c_10, w32c_11, w32c_12, w32c_13, w32c_14, w32c_m1, w32c_m2, w32c_118, Int.reduceAdd, Int.reduceSub, Int.reduceMul, yput_s, yput_n, znl_n, znl_0, znl_1, znl_4, ysum_n, ysum_0, ysum_1, ysum_4, true_and, and_true, Nat.reduceAdd, Nat.reduceLeDiff, true_implies, eq_self, true_or, or_true, or_false, false_or, not_true_eq_false, not_false_eq_true, false_implies, implies_true, yset_s, yset_o, yset_d, ne_eq, Nat.reduceEqDiff, Int.reduceToNat, Int.reduceEq, Int.reduceLE, Int.reduceLT, Classical.not_not, Nat.reduceLT, ↓zvk_s, ↓zvk_n, ↓s_233_0, ↓s_233_1n, ↓s_233_1i, ↓s_233_1p, ↓s_233_2, ↓s_233_3n, ↓s_233_3i, ↓s_233_3p, ↓g_233_5, ↓k_233_5, ↓s_233_7, ↓s_233_8, ↓s_233_11, ↓s_233_12, ↓s_233_13, ↓s_233_16, ↓s_233_17, ↓s_233_18, ↓s_233_19, ↓s_233_20, ↓s_233_22, ↓s_233_25, ↓s_233_28, ↓s_233_29, ↓s_233_32, ↓s_233_33, ↓s_233_34n, ↓s_233_34i, ↓s_233_34p, ↓s_233_35n, ↓s_233_35i, ↓s_233_35p, ↓s_233_38, ↓s_233_41, ↓s_233_42, zar_110, zia_110, zln_110, zit_110, zio_95, St]
    refine ⟨⟨by omega, by omega⟩, fun hh => absurd hh (by omega), fun _ => r_snd hE hd hX h0 h1 hS hV h hk hp hv (fun r k1 k2 => ?_)⟩
    rw [it] at k1 k2
    have z0 : w32 r = 0 → (uCk X v ∨ sSo D p v i = false) → zG E d xm_233 5 [some (1, 95), some (0, S), some (0, V), some (0, x + 0), some (0, I + 1)] [] mem Q := fun _ z => ih (i + 1) (I + 1) _ (by omega) (by omega) e1 (by
      rw [Int.add_zero, hx]
      by_cases hc : uCk X v
      · rw [if_pos hc, if_pos hc]
      · rw [if_neg hc, if_neg hc]
        simp only [nCt]
        rw [z.resolve_left hc, if_neg (by decide)]
        rfl)
    have z1 : ¬ uCk X v → sSo D p v i = true → zG E d xm_233 5 [some (1, 95), some (0, S), some (0, V), some (0, x + 1), some (0, I + 1)] [] mem Q := fun hc z => ih (i + 1) (I + 1) _ (by omega) (by omega) e1 (by
      rw [if_neg hc] at hx ⊢
      rw [w32_s1 hx (by omega)]
      simp only [nCt]
      rw [z, if_pos rfl])
    refine zgk_s hE xmo_233 60 zc_233 ?_
    simp only [ynok_30, ynok_31, w32c_0, w32c_1, w32c_2, w32c_3, w32c_4, w32c_5, w32c_6, w32c_7, w32c_8, w32c_9, w32c_10, w32c_11, w32c_12, w32c_13, w32c_14, w32c_m1, w32c_m2, w32c_118, Int.reduceAdd, Int.reduceSub, Int.reduceMul, yput_s, yput_n, znl_n, znl_0, znl_1, znl_4, ysum_n, ysum_0, ysum_1, ysum_4, true_and, and_true, Nat.reduceAdd, Nat.reduceLeDiff, true_implies, eq_self, true_or, or_true, or_false, false_or, not_true_eq_false, not_false_eq_true, false_implies, implies_true, yset_s, yset_o, yset_d, ne_eq, Nat.reduceEqDiff, Int.reduceToNat, Int.reduceEq, Int.reduceLE, Int.reduceLT, Classical.not_not, Nat.reduceLT, ↓zvk_s, ↓zvk_n, ↓s_233_0, ↓s_233_1n, ↓s_233_1i, ↓s_233_1p, ↓s_233_2, ↓s_233_3n, ↓s_233_3i, ↓s_233_3p, ↓g_233_5, ↓k_233_5, ↓s_233_7, ↓s_233_8, ↓s_233_11, ↓s_233_12, ↓s_233_13, ↓s_233_16, ↓s_233_17, ↓s_233_18, ↓s_233_19, ↓s_233_20, ↓s_233_22, ↓s_233_25, ↓s_233_28, ↓s_233_29, ↓s_233_32, ↓s_233_33, ↓s_233_34n, ↓s_233_34i, ↓s_233_34p, ↓s_233_35n, ↓s_233_35i, ↓s_233_35p, ↓s_233_38, ↓s_233_41, ↓s_233_42, zar_110, zia_110, zln_110, zit_110, zio_95]
    refine ⟨fun e => z0 e ?_, fun e => z1 (fun c => e (k2 (Or.inl c))) ?_⟩
    · by_cases c : uCk X v
      · exact Or.inl c
      · cases hh : sSo D p v i with
        | false => exact Or.inr rfl
        | true => exact absurd (k1 c (by omega) (by omega) hh) (by omega)
    · cases hh : sSo D p v i with
      | false => exact absurd (k2 (Or.inr (Or.inr hh))) e
      | true => rfl
theorem r_sounds (hE : yEok E) {D0 : Nat} (hD : 3 ≤ D0) {X : Int} (hX : w32 (mem 122 0) = X) (h0 : 0 ≤ X) (h1 : X < 64) (hS : w32 S = (p : Int)) (hV : w32 V = (v : Int)) (h : rDl mem D) (hk : dOk D) (hp : uPv D p) (hv : v < D.2.1.length) (hQ : ∀ r, w32 r = ((sNo D X p v : Nat) : Int) → Q (some (0, r)) mem) : yCon E D0 xm_233 [(1, 95), (0, S), (0, V)] mem Q := by
  obtain ⟨d, rfl⟩ := Nat.exists_eq_add_of_le' hD
  refine e_233 ?_
  refine zvc_ok hE 60 zc_233 _ _ _ _ _ _ _ xmo_233 ?_
  simp only [ynok_30, ynok_31, w32c_0, w32c_1, w32c_2, w32c_3, w32c_4, w32c_5, w32c_6, w32c_7, w32c_8, w32c_9, w32c_10, w32c_11, w32c_12, w32c_13, w32c_14, w32c_m1, w32c_m2, w32c_118, Int.reduceAdd, Int.reduceSub, Int.reduceMul, yput_s, yput_n, znl_n, znl_0, znl_1, znl_4, ysum_n, ysum_0, ysum_1, ysum_4, true_and, and_true, Nat.reduceAdd, Nat.reduceLeDiff, true_implies, eq_self, true_or, or_true, or_false, false_or, not_true_eq_false, not_false_eq_true, false_implies, implies_true, yset_s, yset_o, yset_d, ne_eq, Nat.reduceEqDiff, Int.reduceToNat, Int.reduceEq, Int.reduceLE, Int.reduceLT, Classical.not_not, Nat.reduceLT, ↓zvk_s, ↓zvk_n, ↓s_233_0, ↓s_233_1n, ↓s_233_1i, ↓s_233_1p, ↓s_233_2, ↓s_233_3n, ↓s_233_3i, ↓s_233_3p, ↓g_233_5, ↓k_233_5, ↓s_233_7, ↓s_233_8, ↓s_233_11, ↓s_233_12, ↓s_233_13, ↓s_233_16, ↓s_233_17, ↓s_233_18, ↓s_233_19, ↓s_233_20, ↓s_233_22, ↓s_233_25, ↓s_233_28, ↓s_233_29, ↓s_233_32, ↓s_233_33, ↓s_233_34n, ↓s_233_34i, ↓s_233_34p, ↓s_233_35n, ↓s_233_35i, ↓s_233_35p, ↓s_233_38, ↓s_233_41, ↓s_233_42, zar_110, zia_110, zln_110, zit_110, zio_95]
  refine r_sounds_l hE (by omega) hX h0 h1 hS hV h hk hp hv hQ _ 0 0 0 rfl (Nat.zero_le _) w32c_0 ?_
  rw [w32c_0]
  split <;> rfl
theorem r_rests_l (hE : yEok E) (hS : w32 S = (p : Int)) (h : rDl mem D) (hp : uPv D p) (hQ : ∀ r, w32 r = ((sRes D p : Nat) : Int) → Q (some (0, r)) mem) : ∀ (c i : Nat) (I x : Int), (sBr D p).length - i = c → i ≤ (sBr D p).length → w32 I = (i : Int) → w32 x = ((nCt (fRe (sBr D p)) i : Nat) : Int) → zG E d xm_223 4 [some (1, 95), some (0, S), some (0, x), some (0, I)] [] mem Q := by
  obtain ⟨⟨b1, b2⟩, b3⟩ := rTb_p h hp
  have hp12 := (uPv_ltr h hp).1
  have St := w32_t hS
  intro c
  induction c with
  | zero =>
    intro i I x hc hi hI hx
    refine zgo_ok (n := 60) hE xmo_223 (cs := zc_223) ?_
    simp only [ynok_30, ynok_31, w32c_0, w32c_1, w32c_2, w32c_3, w32c_4, w32c_5, w32c_6, w32c_7, w32c_8, w32c_9, w32c_10, w32c_11, w32c_12, w32c_13, w32c_14, w32c_m1, w32c_m2, w32c_118, Int.reduceAdd, Int.reduceSub, Int.reduceMul, yput_s, yput_n, znl_n, znl_0, znl_1, znl_4, ysum_n, ysum_0, ysum_1, ysum_4, true_and, and_true, Nat.reduceAdd, Nat.reduceLeDiff, true_implies, eq_self, true_or, or_true, or_false, false_or, not_true_eq_false, not_false_eq_true, false_implies, implies_true, yset_s, yset_o, yset_d, ne_eq, Nat.reduceEqDiff, Int.reduceToNat, Int.reduceEq, Int.reduceLE, Int.reduceLT, Classical.not_not, Nat.reduceLT, ↓zvk_s, ↓zvk_n, ↓s_223_0, ↓s_223_1n, ↓s_223_1i, ↓s_223_1p, ↓s_223_2, ↓s_223_3n, ↓s_223_3i, ↓s_223_3p, ↓g_223_4, ↓k_223_4, ↓s_223_5, ↓s_223_6, ↓s_223_9, ↓s_223_10, ↓s_223_11, ↓s_223_14, ↓s_223_15, ↓s_223_16, ↓s_223_19, ↓s_223_21, ↓s_223_22, ↓s_223_23, ↓s_223_24, ↓s_223_25, ↓s_223_26, ↓s_223_29, ↓s_223_30, ↓s_223_33, ↓s_223_34, ↓s_223_35n, ↓s_223_35i, ↓s_223_35p, ↓s_223_36n, ↓s_223_36i, ↓s_223_36p, ↓s_223_39, ↓s_223_42, ↓s_223_43, zar_111, zia_111, zln_111, zit_111, zar_110, zia_110, zln_110, zit_110, zio_95, St]
    have e : i = (sBr D p).length := by omega
    subst e
    exact ⟨⟨by omega, by omega⟩, fun _ => hQ _ hx, fun hh => absurd (show w32 (mem 110 p) ≤ w32 I by omega) hh⟩
  | succ c ih =>
    intro i I x hc hi hI hx
    have e1 := w32_s1 hI (by omega)
    have ix := ix8r hS hI hp12 (by omega)
    have it := w32_t ix
    have b := b3 i (by omega)
    have hcl := nCt_le (fRe (sBr D p)) i
    have ex := w32_s1 hx (by omega)
    have hf : fRe (sBr D p) i = decide ((sBr D p).getD i 0 = 0) := rfl
    refine zgo_ok (n := 60) hE xmo_223 (cs := zc_223) ?_
    simp only [ynok_30, ynok_31, w32c_0, w32c_1, w32c_2, w32c_3, w32c_4, w32c_5, w32c_6, w32c_7, w32c_8, w32c_9, w32c_10, w32c_11, w32c_12, w32c_13, w32c_14, w32c_m1, w32c_m2, w32c_118, Int.reduceAdd, Int.reduceSub, Int.reduceMul, yput_s, yput_n, znl_n, znl_0, znl_1, znl_4, ysum_n, ysum_0, ysum_1, ysum_4, true_and, and_true, Nat.reduceAdd, Nat.reduceLeDiff, true_implies, eq_self, true_or, or_true, or_false, false_or, not_true_eq_false, not_false_eq_true, false_implies, implies_true, yset_s, yset_o, yset_d, ne_eq, Nat.reduceEqDiff, Int.reduceToNat, Int.reduceEq, Int.reduceLE, Int.reduceLT, Classical.not_not, Nat.reduceLT, ↓zvk_s, ↓zvk_n, ↓s_223_0, ↓s_223_1n, ↓s_223_1i, ↓s_223_1p, ↓s_223_2, ↓s_223_3n, ↓s_223_3i, ↓s_223_3p, ↓g_223_4, ↓k_223_4, ↓s_223_5, ↓s_223_6, ↓s_223_9, ↓s_223_10, ↓s_223_11, ↓s_223_14, ↓s_223_15, ↓s_223_16, ↓s_223_19, ↓s_223_21, ↓s_223_22, ↓s_223_23, ↓s_223_24, ↓s_223_25, ↓s_223_26, ↓s_223_29, ↓s_223_30, ↓s_223_33, ↓s_223_34, ↓s_223_35n, ↓s_223_35i, ↓s_223_35p, ↓s_223_36n, ↓s_223_36i, ↓s_223_36p, ↓s_223_39, ↓s_223_42, ↓s_223_43, zar_111, zia_111, zln_111, zit_111, zar_110, zia_110, zln_110, zit_110, zio_95, St, it]
    refine ⟨⟨by omega, by omega⟩, fun hh => absurd hh (by omega), fun _ => ⟨⟨by omega, by omega⟩, fun z => ih (i + 1) (I + 1) (x + 0) (by omega) (by omega) e1 ?_, fun z => ih (i + 1) (I + 1) (x + 1) (by omega) (by omega) e1 ?_⟩⟩
    · rw [Int.add_zero, hx]
      simp only [nCt]
      rw [hf, decide_eq_false (by omega), if_neg (by decide)]
      rfl
    · rw [ex]
      simp only [nCt]
      rw [hf, decide_eq_true (by omega), if_pos rfl]
theorem r_rests (hE : yEok E) {D0 : Nat} (hD : 1 ≤ D0) (hS : w32 S = (p : Int)) (h : rDl mem D) (hp : uPv D p) (hQ : ∀ r, w32 r = ((sRes D p : Nat) : Int) → Q (some (0, r)) mem) : yCon E D0 xm_223 [(1, 95), (0, S)] mem Q := by
  obtain ⟨d, rfl⟩ := Nat.exists_eq_add_of_le' hD
  refine e_223 ?_
  refine zvc_ok hE 60 zc_223 _ _ _ _ _ _ _ xmo_223 ?_
  simp only [ynok_30, ynok_31, w32c_0, w32c_1, w32c_2, w32c_3, w32c_4, w32c_5, w32c_6, w32c_7, w32c_8, w32c_9, w32c_10, w32c_11, w32c_12, w32c_13, w32c_14, w32c_m1, w32c_m2, w32c_118, Int.reduceAdd, Int.reduceSub, Int.reduceMul, yput_s, yput_n, znl_n, znl_0, znl_1, znl_4, ysum_n, ysum_0, ysum_1, ysum_4, true_and, and_true, Nat.reduceAdd, Nat.reduceLeDiff, true_implies, eq_self, true_or, or_true, or_false, false_or, not_true_eq_false, not_false_eq_true, false_implies, implies_true, yset_s, yset_o, yset_d, ne_eq, Nat.reduceEqDiff, Int.reduceToNat, Int.reduceEq, Int.reduceLE, Int.reduceLT, Classical.not_not, Nat.reduceLT, ↓zvk_s, ↓zvk_n, ↓s_223_0, ↓s_223_1n, ↓s_223_1i, ↓s_223_1p, ↓s_223_2, ↓s_223_3n, ↓s_223_3i, ↓s_223_3p, ↓g_223_4, ↓k_223_4, ↓s_223_5, ↓s_223_6, ↓s_223_9, ↓s_223_10, ↓s_223_11, ↓s_223_14, ↓s_223_15, ↓s_223_16, ↓s_223_19, ↓s_223_21, ↓s_223_22, ↓s_223_23, ↓s_223_24, ↓s_223_25, ↓s_223_26, ↓s_223_29, ↓s_223_30, ↓s_223_33, ↓s_223_34, ↓s_223_35n, ↓s_223_35i, ↓s_223_35p, ↓s_223_36n, ↓s_223_36i, ↓s_223_36p, ↓s_223_39, ↓s_223_42, ↓s_223_43, zar_111, zia_111, zln_111, zit_111, zar_110, zia_110, zln_110, zit_110, zio_95]
  exact r_rests_l hE hS h hp hQ _ 0 0 0 rfl (Nat.zero_le _) w32c_0 w32c_0
theorem r_high_l (hE : yEok E) (hS : w32 S = (p : Int)) (h : rDl mem D) (hp : uPv D p) (hQ : ∀ r, w32 r = sHig D p → Q (some (0, r)) mem) : ∀ (c i : Nat) (I x : Int), (sBr D p).length - i = c → i ≤ (sBr D p).length → w32 I = (i : Int) → w32 x = nMx (fun j => (sBr D p).getD j 0) i → zG E d xm_179 4 [some (1, 95), some (0, S), some (0, x), some (0, I)] [] mem Q := by
  obtain ⟨⟨b1, b2⟩, b3⟩ := rTb_p h hp
  have hp12 := (uPv_ltr h hp).1
  have St := w32_t hS
  intro c
  induction c with
  | zero =>
    intro i I x hc hi hI hx
    refine zgo_ok (n := 60) hE xmo_179 (cs := zc_179) ?_
    simp only [ynok_30, ynok_31, w32c_0, w32c_1, w32c_2, w32c_3, w32c_4, w32c_5, w32c_6, w32c_7, w32c_8, w32c_9, w32c_10, w32c_11, w32c_12, w32c_13, w32c_14, w32c_m1, w32c_m2, w32c_118, Int.reduceAdd, Int.reduceSub, Int.reduceMul, yput_s, yput_n, znl_n, znl_0, znl_1, znl_4, ysum_n, ysum_0, ysum_1, ysum_4, true_and, and_true, Nat.reduceAdd, Nat.reduceLeDiff, true_implies, eq_self, true_or, or_true, or_false, false_or, not_true_eq_false, not_false_eq_true, false_implies, implies_true, yset_s, yset_o, yset_d, ne_eq, Nat.reduceEqDiff, Int.reduceToNat, Int.reduceEq, Int.reduceLE, Int.reduceLT, Classical.not_not, Nat.reduceLT, ↓zvk_s, ↓zvk_n, ↓s_179_0, ↓s_179_1n, ↓s_179_1i, ↓s_179_1p, ↓s_179_2, ↓s_179_3n, ↓s_179_3i, ↓s_179_3p, ↓g_179_4, ↓k_179_4, ↓s_179_5, ↓s_179_6, ↓s_179_9, ↓s_179_10, ↓s_179_11, ↓s_179_14, ↓s_179_15, ↓s_179_16, ↓s_179_19, ↓s_179_21, ↓s_179_22, ↓s_179_23, ↓s_179_24, ↓s_179_25, ↓s_179_26, ↓s_179_29n, ↓s_179_29i, ↓s_179_29p, ↓s_179_30n, ↓s_179_30i, ↓s_179_30p, ↓s_179_33, ↓s_179_36, ↓s_179_37, zar_111, zia_111, zln_111, zit_111, zar_110, zia_110, zln_110, zit_110, zio_95, St]
    have e : i = (sBr D p).length := by omega
    subst e
    exact ⟨⟨by omega, by omega⟩, fun _ => hQ _ hx, fun hh => absurd (show w32 (mem 110 p) ≤ w32 I by omega) hh⟩
  | succ c ih =>
    intro i I x hc hi hI hx
    have e1 := w32_s1 hI (by omega)
    have ix := ix8r hS hI hp12 (by omega)
    have it := w32_t ix
    have b := b3 i (by omega)
    refine zgo_ok (n := 60) hE xmo_179 (cs := zc_179) ?_
    simp only [ynok_30, ynok_31, w32c_0, w32c_1, w32c_2, w32c_3, w32c_4, w32c_5, w32c_6, w32c_7, w32c_8, w32c_9, w32c_10, w32c_11, w32c_12, w32c_13, w32c_14, w32c_m1, w32c_m2, w32c_118, Int.reduceAdd, Int.reduceSub, Int.reduceMul, yput_s, yput_n, znl_n, znl_0, znl_1, znl_4, ysum_n, ysum_0, ysum_1, ysum_4, true_and, and_true, Nat.reduceAdd, Nat.reduceLeDiff, true_implies, eq_self, true_or, or_true, or_false, false_or, not_true_eq_false, not_false_eq_true, false_implies, implies_true, yset_s, yset_o, yset_d, ne_eq, Nat.reduceEqDiff, Int.reduceToNat, Int.reduceEq, Int.reduceLE, Int.reduceLT, Classical.not_not, Nat.reduceLT, ↓zvk_s, ↓zvk_n, ↓s_179_0, ↓s_179_1n, ↓s_179_1i, ↓s_179_1p, ↓s_179_2, ↓s_179_3n, ↓s_179_3i, ↓s_179_3p, ↓g_179_4, ↓k_179_4, ↓s_179_5, ↓s_179_6, ↓s_179_9, ↓s_179_10, ↓s_179_11, ↓s_179_14, ↓s_179_15, ↓s_179_16, ↓s_179_19, ↓s_179_21, ↓s_179_22, ↓s_179_23, ↓s_179_24, ↓s_179_25, ↓s_179_26, ↓s_179_29n, ↓s_179_29i, ↓s_179_29p, ↓s_179_30n, ↓s_179_30i, ↓s_179_30p, ↓s_179_33, ↓s_179_36, ↓s_179_37, zar_111, zia_111, zln_111, zit_111, zar_110, zia_110, zln_110, zit_110, zio_95, St, it]
    exact ⟨⟨by omega, by omega⟩, fun hh => absurd hh (by omega), fun _ => ⟨⟨by omega, by omega⟩, ih (i + 1) (I + 1) _ (by omega) (by omega) e1 (by rw [w32_mx, hx, b]; rfl)⟩⟩
theorem r_high (hE : yEok E) {D0 : Nat} (hD : 1 ≤ D0) (hS : w32 S = (p : Int)) (h : rDl mem D) (hp : uPv D p) (hQ : ∀ r, w32 r = sHig D p → Q (some (0, r)) mem) : yCon E D0 xm_179 [(1, 95), (0, S)] mem Q := by
  obtain ⟨d, rfl⟩ := Nat.exists_eq_add_of_le' hD
  refine e_179 ?_
  refine zvc_ok hE 60 zc_179 _ _ _ _ _ _ _ xmo_179 ?_
  simp only [ynok_30, ynok_31, w32c_0, w32c_1, w32c_2, w32c_3, w32c_4, w32c_5, w32c_6, w32c_7, w32c_8, w32c_9, w32c_10, w32c_11, w32c_12, w32c_13, w32c_14, w32c_m1, w32c_m2, w32c_118, Int.reduceAdd, Int.reduceSub, Int.reduceMul, yput_s, yput_n, znl_n, znl_0, znl_1, znl_4, ysum_n, ysum_0, ysum_1, ysum_4, true_and, and_true, Nat.reduceAdd, Nat.reduceLeDiff, true_implies, eq_self, true_or, or_true, or_false, false_or, not_true_eq_false, not_false_eq_true, false_implies, implies_true, yset_s, yset_o, yset_d, ne_eq, Nat.reduceEqDiff, Int.reduceToNat, Int.reduceEq, Int.reduceLE, Int.reduceLT, Classical.not_not, Nat.reduceLT, ↓zvk_s, ↓zvk_n, ↓s_179_0, ↓s_179_1n, ↓s_179_1i, ↓s_179_1p, ↓s_179_2, ↓s_179_3n, ↓s_179_3i, ↓s_179_3p, ↓g_179_4, ↓k_179_4, ↓s_179_5, ↓s_179_6, ↓s_179_9, ↓s_179_10, ↓s_179_11, ↓s_179_14, ↓s_179_15, ↓s_179_16, ↓s_179_19, ↓s_179_21, ↓s_179_22, ↓s_179_23, ↓s_179_24, ↓s_179_25, ↓s_179_26, ↓s_179_29n, ↓s_179_29i, ↓s_179_29p, ↓s_179_30n, ↓s_179_30i, ↓s_179_30p, ↓s_179_33, ↓s_179_36, ↓s_179_37, zar_111, zia_111, zln_111, zit_111, zar_110, zia_110, zln_110, zit_110, zio_95]
  exact r_high_l hE hS h hp hQ _ 0 0 0 rfl (Nat.zero_le _) w32c_0 w32c_0
end RS
end
section
theorem s_88_0 {E : yE} {n d : Nat} {mem : yMem} {Post : Option yV → yMem → Prop} {st : List yV} {r0 r2 r3 r4 r5 r6 : Option yV} {x : Int} : zvc E (n + 1) [] d xm_88 0 [r0, some (0, x), r2, r3, r4, r5, r6] (st) mem Post = (zvc E n [] d xm_88 1 [r0, some (0, x), r2, r3, r4, r5, r6] ((0, x) :: st) mem Post) := zrf rfl
theorem s_88_1 {E : yE} {n d : Nat} {mem : yMem} {Post : Option yV → yMem → Prop} {st : List yV} {r0 r1 r2 r3 r4 r5 r6 : Option yV} : zvc E (n + 1) [] d xm_88 1 [r0, r1, r2, r3, r4, r5, r6] (st) mem Post = (zvc E n [] d xm_88 2 [r0, r1, r2, r3, r4, r5, r6] ((0, 2) :: st) mem Post) := zrf rfl
theorem s_88_2 {E : yE} {n d : Nat} {mem : yMem} {Post : Option yV → yMem → Prop} {st : List yV} {r0 r1 r2 r3 r4 r5 r6 : Option yV} {x y : Int} : zvc E (n + 1) [] d xm_88 2 [r0, r1, r2, r3, r4, r5, r6] ((0, y) :: (0, x) :: st) mem Post = ((¬ w32 x = w32 y → zvc E n [] d xm_88 14 [r0, r1, r2, r3, r4, r5, r6] (st) mem Post) ∧ (¬ (¬ w32 x = w32 y) → zvc E n [] d xm_88 5 [r0, r1, r2, r3, r4, r5, r6] (st) mem Post)) := zrf rfl
theorem s_88_5 {E : yE} {n d : Nat} {mem : yMem} {Post : Option yV → yMem → Prop} {st : List yV} {r1 r2 r3 r4 r5 r6 : Option yV} {x : Int} : zvc E (n + 1) [] d xm_88 5 [some (1, x), r1, r2, r3, r4, r5, r6] (st) mem Post = (zvc E n [] d xm_88 6 [some (1, x), r1, r2, r3, r4, r5, r6] ((1, x) :: st) mem Post) := zrf rfl
theorem s_88_6 {E : yE} {n d : Nat} {mem : yMem} {Post : Option yV → yMem → Prop} {st : List yV} {r0 r1 r3 r4 r5 r6 : Option yV} {x : Int} : zvc E (n + 1) [] d xm_88 6 [r0, r1, some (0, x), r3, r4, r5, r6] (st) mem Post = (zvc E n [] d xm_88 7 [r0, r1, some (0, x), r3, r4, r5, r6] ((0, x) :: st) mem Post) := zrf rfl
theorem s_88_7 {E : yE} {n d : Nat} {mem : yMem} {Post : Option yV → yMem → Prop} {st : List yV} {r0 r1 r2 r3 r4 r5 r6 : Option yV} {x : Int} : zvc E (n + 1) [] d xm_88 7 [r0, r1, r2, r3, r4, r5, r6] ((0, x) :: st) mem Post = (zvc E n [] d xm_88 8 [r0, r1, r2, r3, r4, r5, r6] ((4, w32 x) :: st) mem Post) := zrf rfl
theorem s_88_8 {E : yE} {n d : Nat} {mem : yMem} {Post : Option yV → yMem → Prop} {st : List yV} {r0 r1 r2 r3 r4 r5 r6 : Option yV} {z a0 : Int} : zvc E (n + 1) [] d xm_88 8 [r0, r1, r2, r3, r4, r5, r6] ((4, a0) :: (1, z) :: st) mem Post = (zio z 5 = true ∧ ysum st ≤ 8 ∧ yCon E d xm_94 [(1, z), (4, a0)] mem (fun v mem' => zgk E d xm_88 11 [r0, r1, r2, r3, r4, r5, r6] st v mem' Post)) := zrf rfl
theorem s_88_11 {E : yE} {n d : Nat} {mem : yMem} {Post : Option yV → yMem → Prop} {st : List yV} {r0 r1 r2 r3 r4 r5 r6 : Option yV} : zvc E (n + 1) [] d xm_88 11 [r0, r1, r2, r3, r4, r5, r6] (st) mem Post = (zvc E n [] d xm_88 114 [r0, r1, r2, r3, r4, r5, r6] (st) mem Post) := zrf rfl
theorem s_88_14 {E : yE} {n d : Nat} {mem : yMem} {Post : Option yV → yMem → Prop} {st : List yV} {r0 r2 r3 r4 r5 r6 : Option yV} {x : Int} : zvc E (n + 1) [] d xm_88 14 [r0, some (0, x), r2, r3, r4, r5, r6] (st) mem Post = (zvc E n [] d xm_88 15 [r0, some (0, x), r2, r3, r4, r5, r6] ((0, x) :: st) mem Post) := zrf rfl
theorem s_88_15 {E : yE} {n d : Nat} {mem : yMem} {Post : Option yV → yMem → Prop} {st : List yV} {r0 r1 r2 r3 r4 r5 r6 : Option yV} : zvc E (n + 1) [] d xm_88 15 [r0, r1, r2, r3, r4, r5, r6] (st) mem Post = (zvc E n [] d xm_88 17 [r0, r1, r2, r3, r4, r5, r6] ((0, 33) :: st) mem Post) := zrf rfl
theorem s_88_17 {E : yE} {n d : Nat} {mem : yMem} {Post : Option yV → yMem → Prop} {st : List yV} {r0 r1 r2 r3 r4 r5 r6 : Option yV} {x y : Int} : zvc E (n + 1) [] d xm_88 17 [r0, r1, r2, r3, r4, r5, r6] ((0, y) :: (0, x) :: st) mem Post = ((w32 x < w32 y → zvc E n [] d xm_88 42 [r0, r1, r2, r3, r4, r5, r6] (st) mem Post) ∧ (¬ (w32 x < w32 y) → zvc E n [] d xm_88 20 [r0, r1, r2, r3, r4, r5, r6] (st) mem Post)) := zrf rfl
theorem s_88_20 {E : yE} {n d : Nat} {mem : yMem} {Post : Option yV → yMem → Prop} {st : List yV} {r0 r2 r3 r4 r5 r6 : Option yV} {x : Int} : zvc E (n + 1) [] d xm_88 20 [r0, some (0, x), r2, r3, r4, r5, r6] (st) mem Post = (zvc E n [] d xm_88 21 [r0, some (0, x), r2, r3, r4, r5, r6] ((0, x) :: st) mem Post) := zrf rfl
theorem s_88_21 {E : yE} {n d : Nat} {mem : yMem} {Post : Option yV → yMem → Prop} {st : List yV} {r0 r1 r2 r3 r4 r5 r6 : Option yV} : zvc E (n + 1) [] d xm_88 21 [r0, r1, r2, r3, r4, r5, r6] (st) mem Post = (zvc E n [] d xm_88 23 [r0, r1, r2, r3, r4, r5, r6] ((0, 39) :: st) mem Post) := zrf rfl
theorem s_88_23 {E : yE} {n d : Nat} {mem : yMem} {Post : Option yV → yMem → Prop} {st : List yV} {r0 r1 r2 r3 r4 r5 r6 : Option yV} {x y : Int} : zvc E (n + 1) [] d xm_88 23 [r0, r1, r2, r3, r4, r5, r6] ((0, y) :: (0, x) :: st) mem Post = ((w32 y < w32 x → zvc E n [] d xm_88 42 [r0, r1, r2, r3, r4, r5, r6] (st) mem Post) ∧ (¬ (w32 y < w32 x) → zvc E n [] d xm_88 26 [r0, r1, r2, r3, r4, r5, r6] (st) mem Post)) := zrf rfl
theorem s_88_26 {E : yE} {n d : Nat} {mem : yMem} {Post : Option yV → yMem → Prop} {st : List yV} {r1 r2 r3 r4 r5 r6 : Option yV} {x : Int} : zvc E (n + 1) [] d xm_88 26 [some (1, x), r1, r2, r3, r4, r5, r6] (st) mem Post = (zvc E n [] d xm_88 27 [some (1, x), r1, r2, r3, r4, r5, r6] ((1, x) :: st) mem Post) := zrf rfl
theorem s_88_27 {E : yE} {n d : Nat} {mem : yMem} {Post : Option yV → yMem → Prop} {st : List yV} {r1 r2 r3 r4 r5 r6 : Option yV} {x : Int} : zvc E (n + 1) [] d xm_88 27 [some (1, x), r1, r2, r3, r4, r5, r6] (st) mem Post = (zvc E n [] d xm_88 28 [some (1, x), r1, r2, r3, r4, r5, r6] ((1, x) :: st) mem Post) := zrf rfl
theorem s_88_28 {E : yE} {n d : Nat} {mem : yMem} {Post : Option yV → yMem → Prop} {st : List yV} {r0 r1 r2 r3 r4 r5 r6 : Option yV} : zvc E (n + 1) [] d xm_88 28 [r0, r1, r2, r3, r4, r5, r6] ((1, 73) :: st) mem Post = (zvc E n [] d xm_88 31 [r0, r1, r2, r3, r4, r5, r6] ((1, 74) :: st) mem Post) := zrf rfl
theorem s_88_31 {E : yE} {n d : Nat} {mem : yMem} {Post : Option yV → yMem → Prop} {st : List yV} {r0 r2 r3 r4 r5 r6 : Option yV} {x : Int} : zvc E (n + 1) [] d xm_88 31 [r0, some (0, x), r2, r3, r4, r5, r6] (st) mem Post = (zvc E n [] d xm_88 32 [r0, some (0, x), r2, r3, r4, r5, r6] ((0, x) :: st) mem Post) := zrf rfl
theorem s_88_32 {E : yE} {n d : Nat} {mem : yMem} {Post : Option yV → yMem → Prop} {st : List yV} {r0 r1 r2 r3 r4 r5 r6 : Option yV} : zvc E (n + 1) [] d xm_88 32 [r0, r1, r2, r3, r4, r5, r6] (st) mem Post = (zvc E n [] d xm_88 34 [r0, r1, r2, r3, r4, r5, r6] ((0, 33) :: st) mem Post) := zrf rfl
theorem s_88_34 {E : yE} {n d : Nat} {mem : yMem} {Post : Option yV → yMem → Prop} {st : List yV} {r0 r1 r2 r3 r4 r5 r6 : Option yV} {x y : Int} : zvc E (n + 1) [] d xm_88 34 [r0, r1, r2, r3, r4, r5, r6] ((0, y) :: (0, x) :: st) mem Post = (zvc E n [] d xm_88 35 [r0, r1, r2, r3, r4, r5, r6] ((0, x - y) :: st) mem Post) := zrf rfl
theorem s_88_35 {E : yE} {n d : Nat} {mem : yMem} {Post : Option yV → yMem → Prop} {st : List yV} {r0 r1 r2 r3 r4 r5 r6 : Option yV} {z j : Int} : zvc E (n + 1) [] d xm_88 35 [r0, r1, r2, r3, r4, r5, r6] ((0, j) :: (1, z) :: st) mem Post = ((0 ≤ w32 j ∧ w32 j < ((zar z 2 : Nat) : Int)) ∧ zvc E n [] d xm_88 36 [r0, r1, r2, r3, r4, r5, r6] ((4, mem z.toNat (w32 j).toNat) :: st) mem Post) := zrf rfl
theorem s_88_36 {E : yE} {n d : Nat} {mem : yMem} {Post : Option yV → yMem → Prop} {st : List yV} {r0 r1 r2 r3 r4 r5 r6 : Option yV} {z a0 : Int} : zvc E (n + 1) [] d xm_88 36 [r0, r1, r2, r3, r4, r5, r6] ((4, a0) :: (1, z) :: st) mem Post = (zio z 5 = true ∧ ysum st ≤ 8 ∧ yCon E d xm_94 [(1, z), (4, a0)] mem (fun v mem' => zgk E d xm_88 39 [r0, r1, r2, r3, r4, r5, r6] st v mem' Post)) := zrf rfl
theorem s_88_39 {E : yE} {n d : Nat} {mem : yMem} {Post : Option yV → yMem → Prop} {st : List yV} {r0 r1 r2 r3 r4 r5 r6 : Option yV} : zvc E (n + 1) [] d xm_88 39 [r0, r1, r2, r3, r4, r5, r6] (st) mem Post = (zvc E n [] d xm_88 114 [r0, r1, r2, r3, r4, r5, r6] (st) mem Post) := zrf rfl
theorem s_88_42 {E : yE} {n d : Nat} {mem : yMem} {Post : Option yV → yMem → Prop} {st : List yV} {r0 r2 r3 r4 r5 r6 : Option yV} {x : Int} : zvc E (n + 1) [] d xm_88 42 [r0, some (0, x), r2, r3, r4, r5, r6] (st) mem Post = (zvc E n [] d xm_88 43 [r0, some (0, x), r2, r3, r4, r5, r6] ((0, x) :: st) mem Post) := zrf rfl
theorem s_88_43 {E : yE} {n d : Nat} {mem : yMem} {Post : Option yV → yMem → Prop} {st : List yV} {r0 r1 r2 r3 r4 r5 r6 : Option yV} : zvc E (n + 1) [] d xm_88 43 [r0, r1, r2, r3, r4, r5, r6] (st) mem Post = (zvc E n [] d xm_88 45 [r0, r1, r2, r3, r4, r5, r6] ((0, 32) :: st) mem Post) := zrf rfl
theorem s_88_45 {E : yE} {n d : Nat} {mem : yMem} {Post : Option yV → yMem → Prop} {st : List yV} {r0 r1 r2 r3 r4 r5 r6 : Option yV} {x y : Int} : zvc E (n + 1) [] d xm_88 45 [r0, r1, r2, r3, r4, r5, r6] ((0, y) :: (0, x) :: st) mem Post = ((¬ w32 x = w32 y → zvc E n [] d xm_88 69 [r0, r1, r2, r3, r4, r5, r6] (st) mem Post) ∧ (¬ (¬ w32 x = w32 y) → zvc E n [] d xm_88 48 [r0, r1, r2, r3, r4, r5, r6] (st) mem Post)) := zrf rfl
theorem s_88_48 {E : yE} {n d : Nat} {mem : yMem} {Post : Option yV → yMem → Prop} {st : List yV} {r1 r2 r3 r4 r5 r6 : Option yV} {x : Int} : zvc E (n + 1) [] d xm_88 48 [some (1, x), r1, r2, r3, r4, r5, r6] (st) mem Post = (zvc E n [] d xm_88 49 [some (1, x), r1, r2, r3, r4, r5, r6] ((1, x) :: st) mem Post) := zrf rfl
theorem s_88_49 {E : yE} {n d : Nat} {mem : yMem} {Post : Option yV → yMem → Prop} {st : List yV} {r1 r2 r3 r4 r5 r6 : Option yV} {x : Int} : zvc E (n + 1) [] d xm_88 49 [some (1, x), r1, r2, r3, r4, r5, r6] (st) mem Post = (zvc E n [] d xm_88 50 [some (1, x), r1, r2, r3, r4, r5, r6] ((1, x) :: st) mem Post) := zrf rfl
theorem s_88_50 {E : yE} {n d : Nat} {mem : yMem} {Post : Option yV → yMem → Prop} {st : List yV} {r0 r1 r2 r3 r4 r5 r6 : Option yV} {z : Int} : zvc E (n + 1) [] d xm_88 50 [r0, r1, r2, r3, r4, r5, r6] ((1, z) :: st) mem Post = (zio z 5 = true ∧ ysum st ≤ 8 ∧ yCon E d xm_93 [(1, z)] mem (fun v mem' => zgk E d xm_88 53 [r0, r1, r2, r3, r4, r5, r6] st v mem' Post)) := zrf rfl
theorem s_88_53 {E : yE} {n d : Nat} {mem : yMem} {Post : Option yV → yMem → Prop} {st : List yV} {r0 r1 r2 r3 r4 r5 r6 : Option yV} : zvc E (n + 1) [] d xm_88 53 [r0, r1, r2, r3, r4, r5, r6] (st) mem Post = (zvc E n [] d xm_88 54 [r0, r1, r2, r3, r4, r5, r6] ((4, 0) :: st) mem Post) := zrf rfl
theorem s_88_54 {E : yE} {n d : Nat} {mem : yMem} {Post : Option yV → yMem → Prop} {st : List yV} {r0 r1 r2 r3 r4 r5 r6 : Option yV} {x y : Int} : zvc E (n + 1) [] d xm_88 54 [r0, r1, r2, r3, r4, r5, r6] ((4, y) :: (4, x) :: st) mem Post = (zvc E n [] d xm_88 55 [r0, r1, r2, r3, r4, r5, r6] ((0, ycmp x y) :: st) mem Post) := zrf rfl
theorem s_88_55 {E : yE} {n d : Nat} {mem : yMem} {Post : Option yV → yMem → Prop} {st : List yV} {r0 r1 r2 r3 r4 r5 r6 : Option yV} {x : Int} : zvc E (n + 1) [] d xm_88 55 [r0, r1, r2, r3, r4, r5, r6] ((0, x) :: st) mem Post = ((¬ w32 x = w32 0 → zvc E n [] d xm_88 62 [r0, r1, r2, r3, r4, r5, r6] (st) mem Post) ∧ (¬ (¬ w32 x = w32 0) → zvc E n [] d xm_88 58 [r0, r1, r2, r3, r4, r5, r6] (st) mem Post)) := zrf rfl
theorem s_88_58 {E : yE} {n d : Nat} {mem : yMem} {Post : Option yV → yMem → Prop} {st : List yV} {r0 r1 r2 r3 r4 r5 r6 : Option yV} : zvc E (n + 1) [] d xm_88 58 [r0, r1, r2, r3, r4, r5, r6] (st) mem Post = (zvc E n [] d xm_88 59 [r0, r1, r2, r3, r4, r5, r6] ((4, 1) :: st) mem Post) := zrf rfl
theorem s_88_59 {E : yE} {n d : Nat} {mem : yMem} {Post : Option yV → yMem → Prop} {st : List yV} {r0 r1 r2 r3 r4 r5 r6 : Option yV} : zvc E (n + 1) [] d xm_88 59 [r0, r1, r2, r3, r4, r5, r6] (st) mem Post = (zvc E n [] d xm_88 63 [r0, r1, r2, r3, r4, r5, r6] (st) mem Post) := zrf rfl
theorem s_88_62 {E : yE} {n d : Nat} {mem : yMem} {Post : Option yV → yMem → Prop} {st : List yV} {r0 r1 r2 r3 r4 r5 r6 : Option yV} : zvc E (n + 1) [] d xm_88 62 [r0, r1, r2, r3, r4, r5, r6] (st) mem Post = (zvc E n [] d xm_88 63 [r0, r1, r2, r3, r4, r5, r6] ((4, 0) :: st) mem Post) := zrf rfl
theorem s_88_63 {E : yE} {n d : Nat} {mem : yMem} {Post : Option yV → yMem → Prop} {st : List yV} {r0 r1 r2 r3 r4 r5 r6 : Option yV} {z a0 : Int} : zvc E (n + 1) [] d xm_88 63 [r0, r1, r2, r3, r4, r5, r6] ((4, a0) :: (1, z) :: st) mem Post = (zio z 5 = true ∧ ysum st ≤ 8 ∧ yCon E d xm_94 [(1, z), (4, a0)] mem (fun v mem' => zgk E d xm_88 66 [r0, r1, r2, r3, r4, r5, r6] st v mem' Post)) := zrf rfl
theorem s_88_66 {E : yE} {n d : Nat} {mem : yMem} {Post : Option yV → yMem → Prop} {st : List yV} {r0 r1 r2 r3 r4 r5 r6 : Option yV} : zvc E (n + 1) [] d xm_88 66 [r0, r1, r2, r3, r4, r5, r6] (st) mem Post = (zvc E n [] d xm_88 114 [r0, r1, r2, r3, r4, r5, r6] (st) mem Post) := zrf rfl
theorem s_88_69 {E : yE} {n d : Nat} {mem : yMem} {Post : Option yV → yMem → Prop} {st : List yV} {r1 r2 r3 r4 r5 r6 : Option yV} {x : Int} : zvc E (n + 1) [] d xm_88 69 [some (1, x), r1, r2, r3, r4, r5, r6] (st) mem Post = (zvc E n [] d xm_88 70 [some (1, x), r1, r2, r3, r4, r5, r6] ((1, x) :: st) mem Post) := zrf rfl
theorem s_88_70 {E : yE} {n d : Nat} {mem : yMem} {Post : Option yV → yMem → Prop} {st : List yV} {r0 r1 r2 r3 r4 r5 r6 : Option yV} {z : Int} : zvc E (n + 1) [] d xm_88 70 [r0, r1, r2, r3, r4, r5, r6] ((1, z) :: st) mem Post = (zio z 5 = true ∧ ysum st ≤ 8 ∧ yCon E d xm_93 [(1, z)] mem (fun v mem' => zgk E d xm_88 73 [r0, r1, r2, r3, r4, r5, r6] st v mem' Post)) := zrf rfl
theorem s_88_73n {E : yE} {n d : Nat} {mem : yMem} {Post : Option yV → yMem → Prop} {st : List yV} {r0 r1 r3 r4 r5 r6 : Option yV} {x : Int} : zvc E (n + 1) [] d xm_88 73 [r0, r1, none, r3, r4, r5, r6] ((4, x) :: st) mem Post = (zvc E n [] d xm_88 74 [r0, r1, none, some (4, x), none, r5, r6] (st) mem Post) := zrf rfl
theorem s_88_73i {E : yE} {n d : Nat} {mem : yMem} {Post : Option yV → yMem → Prop} {st : List yV} {r0 r1 r3 r4 r5 r6 : Option yV} {x w : Int} : zvc E (n + 1) [] d xm_88 73 [r0, r1, some (0, w), r3, r4, r5, r6] ((4, x) :: st) mem Post = (zvc E n [] d xm_88 74 [r0, r1, some (0, w), some (4, x), none, r5, r6] (st) mem Post) := zrf rfl
theorem s_88_73p {E : yE} {n d : Nat} {mem : yMem} {Post : Option yV → yMem → Prop} {st : List yV} {r0 r1 r3 r4 r5 r6 : Option yV} {x w : Int} : zvc E (n + 1) [] d xm_88 73 [r0, r1, some (1, w), r3, r4, r5, r6] ((4, x) :: st) mem Post = (zvc E n [] d xm_88 74 [r0, r1, some (1, w), some (4, x), none, r5, r6] (st) mem Post) := zrf rfl
theorem s_88_73l {E : yE} {n d : Nat} {mem : yMem} {Post : Option yV → yMem → Prop} {st : List yV} {r0 r1 r3 r4 r5 r6 : Option yV} {x w : Int} : zvc E (n + 1) [] d xm_88 73 [r0, r1, some (4, w), r3, r4, r5, r6] ((4, x) :: st) mem Post = (zvc E n [] d xm_88 74 [r0, r1, none, some (4, x), none, r5, r6] (st) mem Post) := zrf rfl
theorem s_88_74 {E : yE} {n d : Nat} {mem : yMem} {Post : Option yV → yMem → Prop} {st : List yV} {r1 r2 r3 r4 r5 r6 : Option yV} {x : Int} : zvc E (n + 1) [] d xm_88 74 [some (1, x), r1, r2, r3, r4, r5, r6] (st) mem Post = (zvc E n [] d xm_88 75 [some (1, x), r1, r2, r3, r4, r5, r6] ((1, x) :: st) mem Post) := zrf rfl
theorem s_88_75 {E : yE} {n d : Nat} {mem : yMem} {Post : Option yV → yMem → Prop} {st : List yV} {r0 r1 r2 r3 r4 r5 r6 : Option yV} {z : Int} : zvc E (n + 1) [] d xm_88 75 [r0, r1, r2, r3, r4, r5, r6] ((1, z) :: st) mem Post = (zio z 5 = true ∧ ysum st ≤ 8 ∧ yCon E d xm_93 [(1, z)] mem (fun v mem' => zgk E d xm_88 78 [r0, r1, r2, r3, r4, r5, r6] st v mem' Post)) := zrf rfl
theorem s_88_78n {E : yE} {n d : Nat} {mem : yMem} {Post : Option yV → yMem → Prop} {st : List yV} {r0 r1 r2 r3 r5 r6 : Option yV} {x : Int} : zvc E (n + 1) [] d xm_88 78 [r0, r1, r2, r3, none, r5, r6] ((4, x) :: st) mem Post = (zvc E n [] d xm_88 80 [r0, r1, r2, r3, none, some (4, x), none] (st) mem Post) := zrf rfl
theorem s_88_78i {E : yE} {n d : Nat} {mem : yMem} {Post : Option yV → yMem → Prop} {st : List yV} {r0 r1 r2 r3 r5 r6 : Option yV} {x w : Int} : zvc E (n + 1) [] d xm_88 78 [r0, r1, r2, r3, some (0, w), r5, r6] ((4, x) :: st) mem Post = (zvc E n [] d xm_88 80 [r0, r1, r2, r3, some (0, w), some (4, x), none] (st) mem Post) := zrf rfl
theorem s_88_78p {E : yE} {n d : Nat} {mem : yMem} {Post : Option yV → yMem → Prop} {st : List yV} {r0 r1 r2 r3 r5 r6 : Option yV} {x w : Int} : zvc E (n + 1) [] d xm_88 78 [r0, r1, r2, r3, some (1, w), r5, r6] ((4, x) :: st) mem Post = (zvc E n [] d xm_88 80 [r0, r1, r2, r3, some (1, w), some (4, x), none] (st) mem Post) := zrf rfl
theorem s_88_78l {E : yE} {n d : Nat} {mem : yMem} {Post : Option yV → yMem → Prop} {st : List yV} {r0 r1 r2 r3 r5 r6 : Option yV} {x w : Int} : zvc E (n + 1) [] d xm_88 78 [r0, r1, r2, r3, some (4, w), r5, r6] ((4, x) :: st) mem Post = (zvc E n [] d xm_88 80 [r0, r1, r2, r3, none, some (4, x), none] (st) mem Post) := zrf rfl
theorem s_88_80 {E : yE} {n d : Nat} {mem : yMem} {Post : Option yV → yMem → Prop} {st : List yV} {r1 r2 r3 r4 r5 r6 : Option yV} {x : Int} : zvc E (n + 1) [] d xm_88 80 [some (1, x), r1, r2, r3, r4, r5, r6] (st) mem Post = (zvc E n [] d xm_88 81 [some (1, x), r1, r2, r3, r4, r5, r6] ((1, x) :: st) mem Post) := zrf rfl
theorem s_88_81 {E : yE} {n d : Nat} {mem : yMem} {Post : Option yV → yMem → Prop} {st : List yV} {r0 r2 r3 r4 r5 r6 : Option yV} {x : Int} : zvc E (n + 1) [] d xm_88 81 [r0, some (0, x), r2, r3, r4, r5, r6] (st) mem Post = (zvc E n [] d xm_88 82 [r0, some (0, x), r2, r3, r4, r5, r6] ((0, x) :: st) mem Post) := zrf rfl
theorem s_88_82 {E : yE} {n d : Nat} {mem : yMem} {Post : Option yV → yMem → Prop} {st : List yV} {r0 r1 r2 r3 r4 r5 r6 : Option yV} : zvc E (n + 1) [] d xm_88 82 [r0, r1, r2, r3, r4, r5, r6] (st) mem Post = (zvc E n [] d xm_88 84 [r0, r1, r2, r3, r4, r5, r6] ((0, 15) :: st) mem Post) := zrf rfl
theorem s_88_84 {E : yE} {n d : Nat} {mem : yMem} {Post : Option yV → yMem → Prop} {st : List yV} {r0 r1 r2 r3 r4 r5 r6 : Option yV} {x y : Int} : zvc E (n + 1) [] d xm_88 84 [r0, r1, r2, r3, r4, r5, r6] ((0, y) :: (0, x) :: st) mem Post = ((w32 x = w32 y → zvc E n [] d xm_88 93 [r0, r1, r2, r3, r4, r5, r6] (st) mem Post) ∧ (¬ (w32 x = w32 y) → zvc E n [] d xm_88 87 [r0, r1, r2, r3, r4, r5, r6] (st) mem Post)) := zrf rfl
theorem s_88_87 {E : yE} {n d : Nat} {mem : yMem} {Post : Option yV → yMem → Prop} {st : List yV} {r0 r2 r3 r4 r5 r6 : Option yV} {x : Int} : zvc E (n + 1) [] d xm_88 87 [r0, some (0, x), r2, r3, r4, r5, r6] (st) mem Post = (zvc E n [] d xm_88 88 [r0, some (0, x), r2, r3, r4, r5, r6] ((0, x) :: st) mem Post) := zrf rfl
theorem s_88_88 {E : yE} {n d : Nat} {mem : yMem} {Post : Option yV → yMem → Prop} {st : List yV} {r0 r1 r2 r3 r4 r5 r6 : Option yV} : zvc E (n + 1) [] d xm_88 88 [r0, r1, r2, r3, r4, r5, r6] (st) mem Post = (zvc E n [] d xm_88 90 [r0, r1, r2, r3, r4, r5, r6] ((0, 16) :: st) mem Post) := zrf rfl
theorem s_88_90 {E : yE} {n d : Nat} {mem : yMem} {Post : Option yV → yMem → Prop} {st : List yV} {r0 r1 r2 r3 r4 r5 r6 : Option yV} {x y : Int} : zvc E (n + 1) [] d xm_88 90 [r0, r1, r2, r3, r4, r5, r6] ((0, y) :: (0, x) :: st) mem Post = ((¬ w32 x = w32 y → zvc E n [] d xm_88 104 [r0, r1, r2, r3, r4, r5, r6] (st) mem Post) ∧ (¬ (¬ w32 x = w32 y) → zvc E n [] d xm_88 93 [r0, r1, r2, r3, r4, r5, r6] (st) mem Post)) := zrf rfl
theorem s_88_93 {E : yE} {n d : Nat} {mem : yMem} {Post : Option yV → yMem → Prop} {st : List yV} {r1 r2 r3 r4 r5 r6 : Option yV} {x : Int} : zvc E (n + 1) [] d xm_88 93 [some (1, x), r1, r2, r3, r4, r5, r6] (st) mem Post = (zvc E n [] d xm_88 94 [some (1, x), r1, r2, r3, r4, r5, r6] ((1, x) :: st) mem Post) := zrf rfl
theorem s_88_94 {E : yE} {n d : Nat} {mem : yMem} {Post : Option yV → yMem → Prop} {st : List yV} {r0 r2 r3 r4 r5 r6 : Option yV} {x : Int} : zvc E (n + 1) [] d xm_88 94 [r0, some (0, x), r2, r3, r4, r5, r6] (st) mem Post = (zvc E n [] d xm_88 95 [r0, some (0, x), r2, r3, r4, r5, r6] ((0, x) :: st) mem Post) := zrf rfl
theorem s_88_95 {E : yE} {n d : Nat} {mem : yMem} {Post : Option yV → yMem → Prop} {st : List yV} {r0 r1 r2 r3 r4 r6 : Option yV} {x : Int} : zvc E (n + 1) [] d xm_88 95 [r0, r1, r2, r3, r4, some (4, x), r6] (st) mem Post = (zvc E n [] d xm_88 97 [r0, r1, r2, r3, r4, some (4, x), r6] ((4, x) :: st) mem Post) := zrf rfl
theorem s_88_97 {E : yE} {n d : Nat} {mem : yMem} {Post : Option yV → yMem → Prop} {st : List yV} {r0 r1 r2 r4 r5 r6 : Option yV} {x : Int} : zvc E (n + 1) [] d xm_88 97 [r0, r1, r2, some (4, x), r4, r5, r6] (st) mem Post = (zvc E n [] d xm_88 98 [r0, r1, r2, some (4, x), r4, r5, r6] ((4, x) :: st) mem Post) := zrf rfl
theorem s_88_98 {E : yE} {n d : Nat} {mem : yMem} {Post : Option yV → yMem → Prop} {st : List yV} {r0 r1 r2 r3 r4 r5 r6 : Option yV} {z a0 a1 a2 : Int} : zvc E (n + 1) [] d xm_88 98 [r0, r1, r2, r3, r4, r5, r6] ((4, a2) :: (4, a1) :: (0, a0) :: (1, z) :: st) mem Post = (zio z 5 = true ∧ ysum st ≤ 8 ∧ yCon E d xm_96 [(1, z), (0, a0), (4, a1), (4, a2)] mem (fun v mem' => zgk E d xm_88 101 [r0, r1, r2, r3, r4, r5, r6] st v mem' Post)) := zrf rfl
theorem s_88_101 {E : yE} {n d : Nat} {mem : yMem} {Post : Option yV → yMem → Prop} {st : List yV} {r0 r1 r2 r3 r4 r5 r6 : Option yV} : zvc E (n + 1) [] d xm_88 101 [r0, r1, r2, r3, r4, r5, r6] (st) mem Post = (zvc E n [] d xm_88 111 [r0, r1, r2, r3, r4, r5, r6] (st) mem Post) := zrf rfl
theorem s_88_104 {E : yE} {n d : Nat} {mem : yMem} {Post : Option yV → yMem → Prop} {st : List yV} {r0 r2 r3 r4 r5 r6 : Option yV} {x : Int} : zvc E (n + 1) [] d xm_88 104 [r0, some (0, x), r2, r3, r4, r5, r6] (st) mem Post = (zvc E n [] d xm_88 105 [r0, some (0, x), r2, r3, r4, r5, r6] ((0, x) :: st) mem Post) := zrf rfl
theorem s_88_105 {E : yE} {n d : Nat} {mem : yMem} {Post : Option yV → yMem → Prop} {st : List yV} {r0 r1 r2 r3 r4 r6 : Option yV} {x : Int} : zvc E (n + 1) [] d xm_88 105 [r0, r1, r2, r3, r4, some (4, x), r6] (st) mem Post = (zvc E n [] d xm_88 107 [r0, r1, r2, r3, r4, some (4, x), r6] ((4, x) :: st) mem Post) := zrf rfl
theorem s_88_107 {E : yE} {n d : Nat} {mem : yMem} {Post : Option yV → yMem → Prop} {st : List yV} {r0 r1 r2 r4 r5 r6 : Option yV} {x : Int} : zvc E (n + 1) [] d xm_88 107 [r0, r1, r2, some (4, x), r4, r5, r6] (st) mem Post = (zvc E n [] d xm_88 108 [r0, r1, r2, some (4, x), r4, r5, r6] ((4, x) :: st) mem Post) := zrf rfl
theorem s_88_108 {E : yE} {n d : Nat} {mem : yMem} {Post : Option yV → yMem → Prop} {st : List yV} {r0 r1 r2 r3 r4 r5 r6 : Option yV} {a0 a1 a2 : Int} : zvc E (n + 1) [] d xm_88 108 [r0, r1, r2, r3, r4, r5, r6] ((4, a2) :: (4, a1) :: (0, a0) :: st) mem Post = (True ∧ ysum st ≤ 8 ∧ yCon E d xm_92 [(0, a0), (4, a1), (4, a2)] mem (fun v mem' => zgk E d xm_88 111 [r0, r1, r2, r3, r4, r5, r6] st v mem' Post)) := zrf rfl
theorem s_88_111 {E : yE} {n d : Nat} {mem : yMem} {Post : Option yV → yMem → Prop} {st : List yV} {r0 r1 r2 r3 r4 r5 r6 : Option yV} {z a0 : Int} : zvc E (n + 1) [] d xm_88 111 [r0, r1, r2, r3, r4, r5, r6] ((4, a0) :: (1, z) :: st) mem Post = (zio z 5 = true ∧ ysum st ≤ 8 ∧ yCon E d xm_94 [(1, z), (4, a0)] mem (fun v mem' => zgk E d xm_88 114 [r0, r1, r2, r3, r4, r5, r6] st v mem' Post)) := zrf rfl
theorem s_88_114 {E : yE} {n d : Nat} {mem : yMem} {Post : Option yV → yMem → Prop} {r0 r1 r2 r3 r4 r5 r6 : Option yV} : zvc E (n + 1) [] d xm_88 114 [r0, r1, r2, r3, r4, r5, r6] ([]) mem Post = (Post none mem) := zrf rfl
theorem e_88 {E : yE} {d : Nat} {mem : yMem} {Q : Option yV → yMem → Prop} {z a0 a1 : Int} (h : zG E d xm_88 0 [some (1, z), some (0, a0), some (0, a1), none, none, none, none] [] mem Q) : yCon E (d + 1) xm_88 [(1, z), (0, a0), (0, a1)] mem Q := zcon_of xmo_88 (Nat.le_of_ble_eq_true rfl) h

/-! THE CLASS works out one KNOT -/
theorem sLv_k {k : Nat} (h : 1 ≤ sLv k) : (7 ≤ k ∧ k ≤ 16) ∨ k = 30 ∨ k = 31 ∨ k = 32 := by
  unfold sLv at h
  repeat' split at h
  all_goals omega
section EW
variable {E : yE} {mem : yMem} {Q : Option yV → yMem → Prop} {st : List Int} {nm : Nat → Int}
theorem xe_join (hE : yEok E) {D : Nat} (hD : 1 ≤ D) {k : Nat} {K x y : Int} (hk : (7 ≤ k ∧ k ≤ 14) ∨ k = 30 ∨ k = 31) (hK : w32 K = (k : Int)) (hx : eIn (w64 x)) (hy : eIn (w64 y)) (hQ : ∀ r, w64 r = eJn k (w64 x) (w64 y) → Q (some (4, r)) mem) : yCon E D xm_92 [(0, K), (4, x), (4, y)] mem Q := by
  have h : k = 7 ∨ k = 8 ∨ k = 9 ∨ k = 10 ∨ k = 11 ∨ k = 12 ∨ k = 13 ∨ k = 14 ∨ k = 30 ∨ k = 31 := by omega
  rcases h with rfl | rfl | rfl | rfl | rfl | rfl | rfl | rfl | rfl | rfl
  · exact xe_join_7 hE hD hK hQ
  · exact xe_join_8 hE hD hK hQ
  · exact xe_join_9 hE hD hK hQ
  · exact xe_join_10 hE hD hK hQ
  · exact xe_join_11 hE hD hK hQ
  · exact xe_join_12 hE hD hK hQ
  · exact xe_join_13 hE hD hK hx hy hQ
  · exact xe_join_14 hE hD hK hx hy hQ
  · exact xe_join_30 hE hD hK hQ
  · exact xe_join_31 hE hD hK hQ
theorem eOp_jn {k : Nat} {x y : Int} (hk : ¬ k = 15) (hk2 : ¬ k = 16) : eOp k x y = if eIn (eJn k x y) then some (eJn k x y) else none := by
  unfold eOp eJn
  by_cases h13 : k = 13
  · rw [if_pos h13, if_pos h13]; rfl
  · rw [if_neg h13, if_neg h13]
    by_cases h14 : k = 14
    · rw [if_pos h14, if_pos h14]; rfl
    · rw [if_neg h14, if_neg h14, if_neg hk, if_neg hk2]
      cases eCm k x y <;> rfl
theorem eIn_hd (h : ∀ v ∈ st, eIn v) : eIn (st.headD 0) := by
  cases st with
  | nil => exact eIn_0
  | cons a r => exact h a List.mem_cons_self
theorem eIn_tl (h : ∀ v ∈ st, eIn v) : ∀ v ∈ st.tail, eIn v := fun v hv => h v (List.mem_of_mem_tail hv)
theorem eIn_32 (x : Int) : eIn (w32 x) := by
  have h1 := w32_lo x
  have h2 := w32_hi x
  unfold eIn
  omega
theorem w64_w32 (x : Int) : w64 (w32 x) = w32 x := by
  have h1 := w32_lo x
  have h2 := w32_hi x
  exact w64_of (by omega) (by omega)
theorem xe_apply (hE : yEok E) {D : Nat} (hD : 2 ≤ D) {K V : Int} {q : Nat × Int} (hK : w32 K = (q.1 : Int)) (hk : kOk q.1) (hV : q.1 = 2 → w32 V = q.2) (hN : ∀ i, i < 7 → w64 (mem 74 i) = nm i ∧ eIn (nm i)) (h : eSt mem st 0) (hS : ∀ v ∈ st, eIn v) (hl : st.length < 64) (hQ : ∀ m, evF mem m → (∀ st', eAp nm q st = some st' → eSt m st' 0 ∧ (∀ v ∈ st', eIn v)) → (eAp nm q st = none → w32 (m 73 5) = 1) → Q none m) : yCon E D xm_88 [(1, 73), (0, K), (0, V)] mem Q := by
  obtain ⟨d, rfl⟩ := Nat.exists_eq_add_of_le' hD
  refine e_88 ?_
  refine zvc_ok hE 90 [] _ _ _ _ _ _ _ xmo_88 ?_
  have fin : ∀ m v rest, evF mem m → eSt m (v :: rest) 0 → eIn v → (∀ w ∈ rest, eIn w) → eAp nm q st = some (v :: rest) → Q none m := fun m v rest F S i1 i2 e => hQ m F (fun st' e' => by
    rw [e] at e'
    cases e'
    exact ⟨S, fun w hw => by
      rcases List.mem_cons.mp hw with rfl | hw
      · exact i1
      · exact i2 w hw⟩) (fun e' => by rw [e] at e'; cases e')
  have finE : ∀ m, evF mem m → w32 (m 73 5) = 1 → eAp nm q st = none → Q none m := fun m F e5 e => hQ m F (fun st' e' => by rw [e] at e'; cases e') (fun _ => e5)
  have lt := List.length_tail (l := st)
  have lt2 := List.length_tail (l := st.tail)
  by_cases k2 : q.1 = 2
  · have hK2 : w32 K = 2 := by rw [hK, k2]; rfl
    simp only [ynok_30, ynok_31, w32c_0, w32c_1, w32c_2, w32c_3, w32c_4, w32c_5, w32c_6, w32c_7, w32c_8, w32c_9, w32c_10, w32c_11, w32c_12, w32c_13, w32c_14, w32c_m1, w32c_m2, w32c_118, Int.reduceAdd, Int.reduceSub, Int.reduceMul, yput_s, yput_n, znl_n, znl_0, znl_1, znl_4, ysum_n, ysum_0, ysum_1, ysum_4, true_and, and_true, Nat.reduceAdd, Nat.reduceLeDiff, true_implies, eq_self, true_or, or_true, or_false, false_or, not_true_eq_false, not_false_eq_true, false_implies, implies_true, yset_s, yset_o, yset_d, ne_eq, Nat.reduceEqDiff, Int.reduceToNat, Int.reduceEq, Int.reduceLE, Int.reduceLT, Classical.not_not, Nat.reduceLT, ↓zvk_s, ↓zvk_n, ↓s_88_0, ↓s_88_1, ↓s_88_2, ↓s_88_5, ↓s_88_6, ↓s_88_7, ↓s_88_8, ↓s_88_11, ↓s_88_14, ↓s_88_15, ↓s_88_17, ↓s_88_20, ↓s_88_21, ↓s_88_23, ↓s_88_26, ↓s_88_27, ↓s_88_28, ↓s_88_31, ↓s_88_32, ↓s_88_34, ↓s_88_35, ↓s_88_36, ↓s_88_39, ↓s_88_42, ↓s_88_43, ↓s_88_45, ↓s_88_48, ↓s_88_49, ↓s_88_50, ↓s_88_53, ↓s_88_54, ↓s_88_55, ↓s_88_58, ↓s_88_59, ↓s_88_62, ↓s_88_63, ↓s_88_66, ↓s_88_69, ↓s_88_70, ↓s_88_73n, ↓s_88_73i, ↓s_88_73p, ↓s_88_73l, ↓s_88_74, ↓s_88_75, ↓s_88_78n, ↓s_88_78i, ↓s_88_78p, ↓s_88_78l, ↓s_88_80, ↓s_88_81, ↓s_88_82, ↓s_88_84, ↓s_88_87, ↓s_88_88, ↓s_88_90, ↓s_88_93, ↓s_88_94, ↓s_88_95, ↓s_88_97, ↓s_88_98, ↓s_88_101, ↓s_88_104, ↓s_88_105, ↓s_88_107, ↓s_88_108, ↓s_88_111, ↓s_88_114, w32c_33, w32c_39, w32c_32, w32c_15, w32c_16, zio_73, zar_74, zia_74, zln_74, zit_74, hK2]
    refine xe_push hE (by omega) h (Or.inl rfl) hl (fun m F S => ?_)
    rw [w64_w32, if_pos (eIn_32 V), hV k2] at S
    refine zgk_n hE xmo_88 60 [] ?_
    simp only [ynok_30, ynok_31, w32c_0, w32c_1, w32c_2, w32c_3, w32c_4, w32c_5, w32c_6, w32c_7, w32c_8, w32c_9, w32c_10, w32c_11, w32c_12, w32c_13, w32c_14, w32c_m1, w32c_m2, w32c_118, Int.reduceAdd, Int.reduceSub, Int.reduceMul, yput_s, yput_n, znl_n, znl_0, znl_1, znl_4, ysum_n, ysum_0, ysum_1, ysum_4, true_and, and_true, Nat.reduceAdd, Nat.reduceLeDiff, true_implies, eq_self, true_or, or_true, or_false, false_or, not_true_eq_false, not_false_eq_true, false_implies, implies_true, yset_s, yset_o, yset_d, ne_eq, Nat.reduceEqDiff, Int.reduceToNat, Int.reduceEq, Int.reduceLE, Int.reduceLT, Classical.not_not, Nat.reduceLT, ↓zvk_s, ↓zvk_n, ↓s_88_0, ↓s_88_1, ↓s_88_2, ↓s_88_5, ↓s_88_6, ↓s_88_7, ↓s_88_8, ↓s_88_11, ↓s_88_14, ↓s_88_15, ↓s_88_17, ↓s_88_20, ↓s_88_21, ↓s_88_23, ↓s_88_26, ↓s_88_27, ↓s_88_28, ↓s_88_31, ↓s_88_32, ↓s_88_34, ↓s_88_35, ↓s_88_36, ↓s_88_39, ↓s_88_42, ↓s_88_43, ↓s_88_45, ↓s_88_48, ↓s_88_49, ↓s_88_50, ↓s_88_53, ↓s_88_54, ↓s_88_55, ↓s_88_58, ↓s_88_59, ↓s_88_62, ↓s_88_63, ↓s_88_66, ↓s_88_69, ↓s_88_70, ↓s_88_73n, ↓s_88_73i, ↓s_88_73p, ↓s_88_73l, ↓s_88_74, ↓s_88_75, ↓s_88_78n, ↓s_88_78i, ↓s_88_78p, ↓s_88_78l, ↓s_88_80, ↓s_88_81, ↓s_88_82, ↓s_88_84, ↓s_88_87, ↓s_88_88, ↓s_88_90, ↓s_88_93, ↓s_88_94, ↓s_88_95, ↓s_88_97, ↓s_88_98, ↓s_88_101, ↓s_88_104, ↓s_88_105, ↓s_88_107, ↓s_88_108, ↓s_88_111, ↓s_88_114, w32c_33, w32c_39, w32c_32, w32c_15, w32c_16, zio_73, zar_74, zia_74, zln_74, zit_74]
    exact fin m _ _ F S (by rw [← hV k2]; exact eIn_32 V) hS (by unfold eAp; rw [if_pos k2])
  · by_cases k33 : 33 ≤ q.1 ∧ q.1 ≤ 39
    · have e33 : w32 (K - 33) = ((q.1 - 33 : Nat) : Int) := by rw [w32_sb (by rw [w32c_33]; omega) (by rw [w32c_33]; omega), w32c_33, hK]; omega
      obtain ⟨n1, n2⟩ := hN (q.1 - 33) (by omega)
      have pu : yCon E (d + 1) xm_94 [(1, 73), (4, mem 74 (q.1 - 33))] mem (fun v mem' => zgk E (d + 1) xm_88 39 [some (1, 73), some (0, K), some (0, V), none, none, none, none] [] v mem' Q) := by
        refine xe_push hE (by omega) h (Or.inl rfl) hl (fun m F S => ?_)
        rw [n1, if_pos n2] at S
        refine zgk_n hE xmo_88 60 [] ?_
        simp only [ynok_30, ynok_31, w32c_0, w32c_1, w32c_2, w32c_3, w32c_4, w32c_5, w32c_6, w32c_7, w32c_8, w32c_9, w32c_10, w32c_11, w32c_12, w32c_13, w32c_14, w32c_m1, w32c_m2, w32c_118, Int.reduceAdd, Int.reduceSub, Int.reduceMul, yput_s, yput_n, znl_n, znl_0, znl_1, znl_4, ysum_n, ysum_0, ysum_1, ysum_4, true_and, and_true, Nat.reduceAdd, Nat.reduceLeDiff, true_implies, eq_self, true_or, or_true, or_false, false_or, not_true_eq_false, not_false_eq_true, false_implies, implies_true, yset_s, yset_o, yset_d, ne_eq, Nat.reduceEqDiff, Int.reduceToNat, Int.reduceEq, Int.reduceLE, Int.reduceLT, Classical.not_not, Nat.reduceLT, ↓zvk_s, ↓zvk_n, ↓s_88_0, ↓s_88_1, ↓s_88_2, ↓s_88_5, ↓s_88_6, ↓s_88_7, ↓s_88_8, ↓s_88_11, ↓s_88_14, ↓s_88_15, ↓s_88_17, ↓s_88_20, ↓s_88_21, ↓s_88_23, ↓s_88_26, ↓s_88_27, ↓s_88_28, ↓s_88_31, ↓s_88_32, ↓s_88_34, ↓s_88_35, ↓s_88_36, ↓s_88_39, ↓s_88_42, ↓s_88_43, ↓s_88_45, ↓s_88_48, ↓s_88_49, ↓s_88_50, ↓s_88_53, ↓s_88_54, ↓s_88_55, ↓s_88_58, ↓s_88_59, ↓s_88_62, ↓s_88_63, ↓s_88_66, ↓s_88_69, ↓s_88_70, ↓s_88_73n, ↓s_88_73i, ↓s_88_73p, ↓s_88_73l, ↓s_88_74, ↓s_88_75, ↓s_88_78n, ↓s_88_78i, ↓s_88_78p, ↓s_88_78l, ↓s_88_80, ↓s_88_81, ↓s_88_82, ↓s_88_84, ↓s_88_87, ↓s_88_88, ↓s_88_90, ↓s_88_93, ↓s_88_94, ↓s_88_95, ↓s_88_97, ↓s_88_98, ↓s_88_101, ↓s_88_104, ↓s_88_105, ↓s_88_107, ↓s_88_108, ↓s_88_111, ↓s_88_114, w32c_33, w32c_39, w32c_32, w32c_15, w32c_16, zio_73, zar_74, zia_74, zln_74, zit_74]
        exact fin m _ _ F S n2 hS (by unfold eAp; rw [if_neg k2, if_pos k33])
      simp only [ynok_30, ynok_31, w32c_0, w32c_1, w32c_2, w32c_3, w32c_4, w32c_5, w32c_6, w32c_7, w32c_8, w32c_9, w32c_10, w32c_11, w32c_12, w32c_13, w32c_14, w32c_m1, w32c_m2, w32c_118, Int.reduceAdd, Int.reduceSub, Int.reduceMul, yput_s, yput_n, znl_n, znl_0, znl_1, znl_4, ysum_n, ysum_0, ysum_1, ysum_4, true_and, and_true, Nat.reduceAdd, Nat.reduceLeDiff, true_implies, eq_self, true_or, or_true, or_false, false_or, not_true_eq_false, not_false_eq_true, false_implies, implies_true, yset_s, yset_o, yset_d, ne_eq, Nat.reduceEqDiff, Int.reduceToNat, Int.reduceEq, Int.reduceLE, Int.reduceLT, Classical.not_not, Nat.reduceLT, ↓zvk_s, ↓zvk_n, ↓s_88_0, ↓s_88_1, ↓s_88_2, ↓s_88_5, ↓s_88_6, ↓s_88_7, ↓s_88_8, ↓s_88_11, ↓s_88_14, ↓s_88_15, ↓s_88_17, ↓s_88_20, ↓s_88_21, ↓s_88_23, ↓s_88_26, ↓s_88_27, ↓s_88_28, ↓s_88_31, ↓s_88_32, ↓s_88_34, ↓s_88_35, ↓s_88_36, ↓s_88_39, ↓s_88_42, ↓s_88_43, ↓s_88_45, ↓s_88_48, ↓s_88_49, ↓s_88_50, ↓s_88_53, ↓s_88_54, ↓s_88_55, ↓s_88_58, ↓s_88_59, ↓s_88_62, ↓s_88_63, ↓s_88_66, ↓s_88_69, ↓s_88_70, ↓s_88_73n, ↓s_88_73i, ↓s_88_73p, ↓s_88_73l, ↓s_88_74, ↓s_88_75, ↓s_88_78n, ↓s_88_78i, ↓s_88_78p, ↓s_88_78l, ↓s_88_80, ↓s_88_81, ↓s_88_82, ↓s_88_84, ↓s_88_87, ↓s_88_88, ↓s_88_90, ↓s_88_93, ↓s_88_94, ↓s_88_95, ↓s_88_97, ↓s_88_98, ↓s_88_101, ↓s_88_104, ↓s_88_105, ↓s_88_107, ↓s_88_108, ↓s_88_111, ↓s_88_114, w32c_33, w32c_39, w32c_32, w32c_15, w32c_16, zio_73, zar_74, zia_74, zln_74, zit_74]
      have ix : (w32 (K - 33)).toNat = q.1 - 33 := by rw [e33]; exact Int.toNat_natCast _
      rw [hK, ix]
      exact ⟨fun _ => ⟨fun a => absurd a (by omega), fun _ => ⟨fun a => absurd a (by omega), fun _ => ⟨⟨by omega, by omega⟩, pu⟩⟩⟩, fun a => absurd a (by omega)⟩
    · have hk3 : (7 ≤ q.1 ∧ q.1 ≤ 16) ∨ q.1 = 30 ∨ q.1 = 31 ∨ q.1 = 32 := by
        rcases hk with hk | hk | hk
        · exact absurd hk k2
        · exact absurd hk k33
        · exact sLv_k hk
      have i1 := eIn_hd hS
      have i2 := eIn_hd (eIn_tl hS)
      have iT := eIn_tl hS
      have iTT := eIn_tl (eIn_tl hS)
      have P32 : q.1 = 32 → yCon E (d + 1) xm_93 [(1, 73)] mem (fun v mem' => zgk E (d + 1) xm_88 53 [some (1, 73), some (0, K), some (0, V), none, none, none, none] [(1, 73)] v mem' Q) := fun k32 => by
        have eA : eAp nm q st = some ((if st.headD 0 = 0 then 1 else 0) :: st.tail) := by unfold eAp; rw [if_neg k2, if_neg k33, if_pos k32]
        refine xe_pop hE (by omega) h (by omega) (fun x m hx F S => ?_)
        refine zgk_s hE xmo_88 60 [] ?_
        simp only [ynok_30, ynok_31, w32c_0, w32c_1, w32c_2, w32c_3, w32c_4, w32c_5, w32c_6, w32c_7, w32c_8, w32c_9, w32c_10, w32c_11, w32c_12, w32c_13, w32c_14, w32c_m1, w32c_m2, w32c_118, Int.reduceAdd, Int.reduceSub, Int.reduceMul, yput_s, yput_n, znl_n, znl_0, znl_1, znl_4, ysum_n, ysum_0, ysum_1, ysum_4, true_and, and_true, Nat.reduceAdd, Nat.reduceLeDiff, true_implies, eq_self, true_or, or_true, or_false, false_or, not_true_eq_false, not_false_eq_true, false_implies, implies_true, yset_s, yset_o, yset_d, ne_eq, Nat.reduceEqDiff, Int.reduceToNat, Int.reduceEq, Int.reduceLE, Int.reduceLT, Classical.not_not, Nat.reduceLT, ↓zvk_s, ↓zvk_n, ↓s_88_0, ↓s_88_1, ↓s_88_2, ↓s_88_5, ↓s_88_6, ↓s_88_7, ↓s_88_8, ↓s_88_11, ↓s_88_14, ↓s_88_15, ↓s_88_17, ↓s_88_20, ↓s_88_21, ↓s_88_23, ↓s_88_26, ↓s_88_27, ↓s_88_28, ↓s_88_31, ↓s_88_32, ↓s_88_34, ↓s_88_35, ↓s_88_36, ↓s_88_39, ↓s_88_42, ↓s_88_43, ↓s_88_45, ↓s_88_48, ↓s_88_49, ↓s_88_50, ↓s_88_53, ↓s_88_54, ↓s_88_55, ↓s_88_58, ↓s_88_59, ↓s_88_62, ↓s_88_63, ↓s_88_66, ↓s_88_69, ↓s_88_70, ↓s_88_73n, ↓s_88_73i, ↓s_88_73p, ↓s_88_73l, ↓s_88_74, ↓s_88_75, ↓s_88_78n, ↓s_88_78i, ↓s_88_78p, ↓s_88_78l, ↓s_88_80, ↓s_88_81, ↓s_88_82, ↓s_88_84, ↓s_88_87, ↓s_88_88, ↓s_88_90, ↓s_88_93, ↓s_88_94, ↓s_88_95, ↓s_88_97, ↓s_88_98, ↓s_88_101, ↓s_88_104, ↓s_88_105, ↓s_88_107, ↓s_88_108, ↓s_88_111, ↓s_88_114, w32c_33, w32c_39, w32c_32, w32c_15, w32c_16, zio_73, zar_74, zia_74, zln_74, zit_74, yc_eq, w64_0, hx]
        refine ⟨fun z => ?_, fun z => ?_⟩
        · refine xe_push hE (by omega) S (Or.inl rfl) (by omega) (fun m' F' S' => ?_)
          rw [w64_0, if_pos eIn_0] at S'
          refine zgk_n hE xmo_88 60 [] ?_
          simp only [ynok_30, ynok_31, w32c_0, w32c_1, w32c_2, w32c_3, w32c_4, w32c_5, w32c_6, w32c_7, w32c_8, w32c_9, w32c_10, w32c_11, w32c_12, w32c_13, w32c_14, w32c_m1, w32c_m2, w32c_118, Int.reduceAdd, Int.reduceSub, Int.reduceMul, yput_s, yput_n, znl_n, znl_0, znl_1, znl_4, ysum_n, ysum_0, ysum_1, ysum_4, true_and, and_true, Nat.reduceAdd, Nat.reduceLeDiff, true_implies, eq_self, true_or, or_true, or_false, false_or, not_true_eq_false, not_false_eq_true, false_implies, implies_true, yset_s, yset_o, yset_d, ne_eq, Nat.reduceEqDiff, Int.reduceToNat, Int.reduceEq, Int.reduceLE, Int.reduceLT, Classical.not_not, Nat.reduceLT, ↓zvk_s, ↓zvk_n, ↓s_88_0, ↓s_88_1, ↓s_88_2, ↓s_88_5, ↓s_88_6, ↓s_88_7, ↓s_88_8, ↓s_88_11, ↓s_88_14, ↓s_88_15, ↓s_88_17, ↓s_88_20, ↓s_88_21, ↓s_88_23, ↓s_88_26, ↓s_88_27, ↓s_88_28, ↓s_88_31, ↓s_88_32, ↓s_88_34, ↓s_88_35, ↓s_88_36, ↓s_88_39, ↓s_88_42, ↓s_88_43, ↓s_88_45, ↓s_88_48, ↓s_88_49, ↓s_88_50, ↓s_88_53, ↓s_88_54, ↓s_88_55, ↓s_88_58, ↓s_88_59, ↓s_88_62, ↓s_88_63, ↓s_88_66, ↓s_88_69, ↓s_88_70, ↓s_88_73n, ↓s_88_73i, ↓s_88_73p, ↓s_88_73l, ↓s_88_74, ↓s_88_75, ↓s_88_78n, ↓s_88_78i, ↓s_88_78p, ↓s_88_78l, ↓s_88_80, ↓s_88_81, ↓s_88_82, ↓s_88_84, ↓s_88_87, ↓s_88_88, ↓s_88_90, ↓s_88_93, ↓s_88_94, ↓s_88_95, ↓s_88_97, ↓s_88_98, ↓s_88_101, ↓s_88_104, ↓s_88_105, ↓s_88_107, ↓s_88_108, ↓s_88_111, ↓s_88_114, w32c_33, w32c_39, w32c_32, w32c_15, w32c_16, zio_73, zar_74, zia_74, zln_74, zit_74]
          exact fin m' 0 _ (evF_tr F F') S' eIn_0 iT (by rw [eA, if_neg z])
        · refine xe_push hE (by omega) S (Or.inl rfl) (by omega) (fun m' F' S' => ?_)
          rw [w64_1, if_pos (by decide)] at S'
          refine zgk_n hE xmo_88 60 [] ?_
          simp only [ynok_30, ynok_31, w32c_0, w32c_1, w32c_2, w32c_3, w32c_4, w32c_5, w32c_6, w32c_7, w32c_8, w32c_9, w32c_10, w32c_11, w32c_12, w32c_13, w32c_14, w32c_m1, w32c_m2, w32c_118, Int.reduceAdd, Int.reduceSub, Int.reduceMul, yput_s, yput_n, znl_n, znl_0, znl_1, znl_4, ysum_n, ysum_0, ysum_1, ysum_4, true_and, and_true, Nat.reduceAdd, Nat.reduceLeDiff, true_implies, eq_self, true_or, or_true, or_false, false_or, not_true_eq_false, not_false_eq_true, false_implies, implies_true, yset_s, yset_o, yset_d, ne_eq, Nat.reduceEqDiff, Int.reduceToNat, Int.reduceEq, Int.reduceLE, Int.reduceLT, Classical.not_not, Nat.reduceLT, ↓zvk_s, ↓zvk_n, ↓s_88_0, ↓s_88_1, ↓s_88_2, ↓s_88_5, ↓s_88_6, ↓s_88_7, ↓s_88_8, ↓s_88_11, ↓s_88_14, ↓s_88_15, ↓s_88_17, ↓s_88_20, ↓s_88_21, ↓s_88_23, ↓s_88_26, ↓s_88_27, ↓s_88_28, ↓s_88_31, ↓s_88_32, ↓s_88_34, ↓s_88_35, ↓s_88_36, ↓s_88_39, ↓s_88_42, ↓s_88_43, ↓s_88_45, ↓s_88_48, ↓s_88_49, ↓s_88_50, ↓s_88_53, ↓s_88_54, ↓s_88_55, ↓s_88_58, ↓s_88_59, ↓s_88_62, ↓s_88_63, ↓s_88_66, ↓s_88_69, ↓s_88_70, ↓s_88_73n, ↓s_88_73i, ↓s_88_73p, ↓s_88_73l, ↓s_88_74, ↓s_88_75, ↓s_88_78n, ↓s_88_78i, ↓s_88_78p, ↓s_88_78l, ↓s_88_80, ↓s_88_81, ↓s_88_82, ↓s_88_84, ↓s_88_87, ↓s_88_88, ↓s_88_90, ↓s_88_93, ↓s_88_94, ↓s_88_95, ↓s_88_97, ↓s_88_98, ↓s_88_101, ↓s_88_104, ↓s_88_105, ↓s_88_107, ↓s_88_108, ↓s_88_111, ↓s_88_114, w32c_33, w32c_39, w32c_32, w32c_15, w32c_16, zio_73, zar_74, zia_74, zln_74, zit_74]
          exact fin m' 1 _ (evF_tr F F') S' (by decide) iT (by rw [eA, if_pos z])
      have P2 : ¬ q.1 = 32 → yCon E (d + 1) xm_93 [(1, 73)] mem (fun v mem' => zgk E (d + 1) xm_88 73 [some (1, 73), some (0, K), some (0, V), none, none, none, none] [] v mem' Q) := fun k32 => by
        have eA1 : ∀ v, eOp q.1 (st.tail.headD 0) (st.headD 0) = some v → eAp nm q st = some (v :: st.tail.tail) := fun v e => by unfold eAp; rw [if_neg k2, if_neg k33, if_neg k32, e]
        have eA0 : eOp q.1 (st.tail.headD 0) (st.headD 0) = none → eAp nm q st = none := fun e => by unfold eAp; rw [if_neg k2, if_neg k33, if_neg k32, e]
        refine xe_pop hE (by omega) h (by omega) (fun x1 m1 hx1 F1 S1 => ?_)
        refine zgk_s hE xmo_88 60 [] ?_
        simp only [ynok_30, ynok_31, w32c_0, w32c_1, w32c_2, w32c_3, w32c_4, w32c_5, w32c_6, w32c_7, w32c_8, w32c_9, w32c_10, w32c_11, w32c_12, w32c_13, w32c_14, w32c_m1, w32c_m2, w32c_118, Int.reduceAdd, Int.reduceSub, Int.reduceMul, yput_s, yput_n, znl_n, znl_0, znl_1, znl_4, ysum_n, ysum_0, ysum_1, ysum_4, true_and, and_true, Nat.reduceAdd, Nat.reduceLeDiff, true_implies, eq_self, true_or, or_true, or_false, false_or, not_true_eq_false, not_false_eq_true, false_implies, implies_true, yset_s, yset_o, yset_d, ne_eq, Nat.reduceEqDiff, Int.reduceToNat, Int.reduceEq, Int.reduceLE, Int.reduceLT, Classical.not_not, Nat.reduceLT, ↓zvk_s, ↓zvk_n, ↓s_88_0, ↓s_88_1, ↓s_88_2, ↓s_88_5, ↓s_88_6, ↓s_88_7, ↓s_88_8, ↓s_88_11, ↓s_88_14, ↓s_88_15, ↓s_88_17, ↓s_88_20, ↓s_88_21, ↓s_88_23, ↓s_88_26, ↓s_88_27, ↓s_88_28, ↓s_88_31, ↓s_88_32, ↓s_88_34, ↓s_88_35, ↓s_88_36, ↓s_88_39, ↓s_88_42, ↓s_88_43, ↓s_88_45, ↓s_88_48, ↓s_88_49, ↓s_88_50, ↓s_88_53, ↓s_88_54, ↓s_88_55, ↓s_88_58, ↓s_88_59, ↓s_88_62, ↓s_88_63, ↓s_88_66, ↓s_88_69, ↓s_88_70, ↓s_88_73n, ↓s_88_73i, ↓s_88_73p, ↓s_88_73l, ↓s_88_74, ↓s_88_75, ↓s_88_78n, ↓s_88_78i, ↓s_88_78p, ↓s_88_78l, ↓s_88_80, ↓s_88_81, ↓s_88_82, ↓s_88_84, ↓s_88_87, ↓s_88_88, ↓s_88_90, ↓s_88_93, ↓s_88_94, ↓s_88_95, ↓s_88_97, ↓s_88_98, ↓s_88_101, ↓s_88_104, ↓s_88_105, ↓s_88_107, ↓s_88_108, ↓s_88_111, ↓s_88_114, w32c_33, w32c_39, w32c_32, w32c_15, w32c_16, zio_73, zar_74, zia_74, zln_74, zit_74]
        refine xe_pop hE (by omega) S1 (by omega) (fun x2 m2 hx2 F2 S2 => ?_)
        have F12 := evF_tr F1 F2
        have put : ∀ (r : Int) (m : yMem) (er : Int), evF m2 m → eSt m st.tail.tail er → (er = 0 ∨ er = 1) → (er = 0 → eOp q.1 (st.tail.headD 0) (st.headD 0) = if eIn (w64 r) then some (w64 r) else none) → (er = 1 → eOp q.1 (st.tail.headD 0) (st.headD 0) = none) → yCon E (d + 1) xm_94 [(1, 73), (4, r)] m (fun v mem' => zgk E (d + 1) xm_88 114 [some (1, 73), some (0, K), some (0, V), some (4, x1), none, some (4, x2), none] [] v mem' Q) := fun r m er Fm Sm her e0 e1 => by
          refine xe_push hE (by omega) Sm her (by omega) (fun m' F' S' => ?_)
          have Fa := evF_tr F12 (evF_tr Fm F')
          refine zgk_n hE xmo_88 60 [] ?_
          simp only [ynok_30, ynok_31, w32c_0, w32c_1, w32c_2, w32c_3, w32c_4, w32c_5, w32c_6, w32c_7, w32c_8, w32c_9, w32c_10, w32c_11, w32c_12, w32c_13, w32c_14, w32c_m1, w32c_m2, w32c_118, Int.reduceAdd, Int.reduceSub, Int.reduceMul, yput_s, yput_n, znl_n, znl_0, znl_1, znl_4, ysum_n, ysum_0, ysum_1, ysum_4, true_and, and_true, Nat.reduceAdd, Nat.reduceLeDiff, true_implies, eq_self, true_or, or_true, or_false, false_or, not_true_eq_false, not_false_eq_true, false_implies, implies_true, yset_s, yset_o, yset_d, ne_eq, Nat.reduceEqDiff, Int.reduceToNat, Int.reduceEq, Int.reduceLE, Int.reduceLT, Classical.not_not, Nat.reduceLT, ↓zvk_s, ↓zvk_n, ↓s_88_0, ↓s_88_1, ↓s_88_2, ↓s_88_5, ↓s_88_6, ↓s_88_7, ↓s_88_8, ↓s_88_11, ↓s_88_14, ↓s_88_15, ↓s_88_17, ↓s_88_20, ↓s_88_21, ↓s_88_23, ↓s_88_26, ↓s_88_27, ↓s_88_28, ↓s_88_31, ↓s_88_32, ↓s_88_34, ↓s_88_35, ↓s_88_36, ↓s_88_39, ↓s_88_42, ↓s_88_43, ↓s_88_45, ↓s_88_48, ↓s_88_49, ↓s_88_50, ↓s_88_53, ↓s_88_54, ↓s_88_55, ↓s_88_58, ↓s_88_59, ↓s_88_62, ↓s_88_63, ↓s_88_66, ↓s_88_69, ↓s_88_70, ↓s_88_73n, ↓s_88_73i, ↓s_88_73p, ↓s_88_73l, ↓s_88_74, ↓s_88_75, ↓s_88_78n, ↓s_88_78i, ↓s_88_78p, ↓s_88_78l, ↓s_88_80, ↓s_88_81, ↓s_88_82, ↓s_88_84, ↓s_88_87, ↓s_88_88, ↓s_88_90, ↓s_88_93, ↓s_88_94, ↓s_88_95, ↓s_88_97, ↓s_88_98, ↓s_88_101, ↓s_88_104, ↓s_88_105, ↓s_88_107, ↓s_88_108, ↓s_88_111, ↓s_88_114, w32c_33, w32c_39, w32c_32, w32c_15, w32c_16, zio_73, zar_74, zia_74, zln_74, zit_74]
          rcases her with rfl | rfl
          · have e := e0 rfl
            by_cases i : eIn (w64 r)
            · rw [if_pos i] at e S'
              exact fin m' (w64 r) _ Fa S' i iTT (eA1 _ e)
            · rw [if_neg i] at e S'
              exact finE m' Fa S'.2.2 (eA0 e)
          · refine finE m' Fa ?_ (eA0 (e1 rfl))
            have := S'.2.2
            split at this <;> exact this
        refine zgk_s hE xmo_88 60 [] ?_
        simp only [ynok_30, ynok_31, w32c_0, w32c_1, w32c_2, w32c_3, w32c_4, w32c_5, w32c_6, w32c_7, w32c_8, w32c_9, w32c_10, w32c_11, w32c_12, w32c_13, w32c_14, w32c_m1, w32c_m2, w32c_118, Int.reduceAdd, Int.reduceSub, Int.reduceMul, yput_s, yput_n, znl_n, znl_0, znl_1, znl_4, ysum_n, ysum_0, ysum_1, ysum_4, true_and, and_true, Nat.reduceAdd, Nat.reduceLeDiff, true_implies, eq_self, true_or, or_true, or_false, false_or, not_true_eq_false, not_false_eq_true, false_implies, implies_true, yset_s, yset_o, yset_d, ne_eq, Nat.reduceEqDiff, Int.reduceToNat, Int.reduceEq, Int.reduceLE, Int.reduceLT, Classical.not_not, Nat.reduceLT, ↓zvk_s, ↓zvk_n, ↓s_88_0, ↓s_88_1, ↓s_88_2, ↓s_88_5, ↓s_88_6, ↓s_88_7, ↓s_88_8, ↓s_88_11, ↓s_88_14, ↓s_88_15, ↓s_88_17, ↓s_88_20, ↓s_88_21, ↓s_88_23, ↓s_88_26, ↓s_88_27, ↓s_88_28, ↓s_88_31, ↓s_88_32, ↓s_88_34, ↓s_88_35, ↓s_88_36, ↓s_88_39, ↓s_88_42, ↓s_88_43, ↓s_88_45, ↓s_88_48, ↓s_88_49, ↓s_88_50, ↓s_88_53, ↓s_88_54, ↓s_88_55, ↓s_88_58, ↓s_88_59, ↓s_88_62, ↓s_88_63, ↓s_88_66, ↓s_88_69, ↓s_88_70, ↓s_88_73n, ↓s_88_73i, ↓s_88_73p, ↓s_88_73l, ↓s_88_74, ↓s_88_75, ↓s_88_78n, ↓s_88_78i, ↓s_88_78p, ↓s_88_78l, ↓s_88_80, ↓s_88_81, ↓s_88_82, ↓s_88_84, ↓s_88_87, ↓s_88_88, ↓s_88_90, ↓s_88_93, ↓s_88_94, ↓s_88_95, ↓s_88_97, ↓s_88_98, ↓s_88_101, ↓s_88_104, ↓s_88_105, ↓s_88_107, ↓s_88_108, ↓s_88_111, ↓s_88_114, w32c_33, w32c_39, w32c_32, w32c_15, w32c_16, zio_73, zar_74, zia_74, zln_74, zit_74, hK]
        have iy2 : eIn (w64 x2) := by rw [hx2]; exact i2
        have iy1 : eIn (w64 x1) := by rw [hx1]; exact i1
        refine ⟨fun a => ?_, fun a => ⟨fun b => ?_, fun b => ?_⟩⟩
        · have k15 : q.1 = 15 := by omega
          refine xe_scale_15 hE (by omega) (by rw [hK, k15]; rfl) S2 iy2 iy1 (fun r m Fm c => ?_)
          rw [hx2, hx1] at c
          refine zgk_s hE xmo_88 60 [] ?_
          simp only [ynok_30, ynok_31, w32c_0, w32c_1, w32c_2, w32c_3, w32c_4, w32c_5, w32c_6, w32c_7, w32c_8, w32c_9, w32c_10, w32c_11, w32c_12, w32c_13, w32c_14, w32c_m1, w32c_m2, w32c_118, Int.reduceAdd, Int.reduceSub, Int.reduceMul, yput_s, yput_n, znl_n, znl_0, znl_1, znl_4, ysum_n, ysum_0, ysum_1, ysum_4, true_and, and_true, Nat.reduceAdd, Nat.reduceLeDiff, true_implies, eq_self, true_or, or_true, or_false, false_or, not_true_eq_false, not_false_eq_true, false_implies, implies_true, yset_s, yset_o, yset_d, ne_eq, Nat.reduceEqDiff, Int.reduceToNat, Int.reduceEq, Int.reduceLE, Int.reduceLT, Classical.not_not, Nat.reduceLT, ↓zvk_s, ↓zvk_n, ↓s_88_0, ↓s_88_1, ↓s_88_2, ↓s_88_5, ↓s_88_6, ↓s_88_7, ↓s_88_8, ↓s_88_11, ↓s_88_14, ↓s_88_15, ↓s_88_17, ↓s_88_20, ↓s_88_21, ↓s_88_23, ↓s_88_26, ↓s_88_27, ↓s_88_28, ↓s_88_31, ↓s_88_32, ↓s_88_34, ↓s_88_35, ↓s_88_36, ↓s_88_39, ↓s_88_42, ↓s_88_43, ↓s_88_45, ↓s_88_48, ↓s_88_49, ↓s_88_50, ↓s_88_53, ↓s_88_54, ↓s_88_55, ↓s_88_58, ↓s_88_59, ↓s_88_62, ↓s_88_63, ↓s_88_66, ↓s_88_69, ↓s_88_70, ↓s_88_73n, ↓s_88_73i, ↓s_88_73p, ↓s_88_73l, ↓s_88_74, ↓s_88_75, ↓s_88_78n, ↓s_88_78i, ↓s_88_78p, ↓s_88_78l, ↓s_88_80, ↓s_88_81, ↓s_88_82, ↓s_88_84, ↓s_88_87, ↓s_88_88, ↓s_88_90, ↓s_88_93, ↓s_88_94, ↓s_88_95, ↓s_88_97, ↓s_88_98, ↓s_88_101, ↓s_88_104, ↓s_88_105, ↓s_88_107, ↓s_88_108, ↓s_88_111, ↓s_88_114, w32c_33, w32c_39, w32c_32, w32c_15, w32c_16, zio_73, zar_74, zia_74, zln_74, zit_74]
          rcases c with ⟨c1, c2, c3⟩ | ⟨c1, c2, c3⟩
          · exact put r m 1 Fm c3 (Or.inr rfl) (fun z => absurd z (by decide)) (fun _ => by rw [k15]; exact c1)
          · exact put r m 0 Fm c3 (Or.inl rfl) (fun _ => by rw [k15, c1, if_pos c2]) (fun z => absurd z (by decide))
        · refine xe_join hE (by omega) (k := q.1) (by omega) hK iy2 iy1 (fun r hr => ?_)
          refine zgk_s hE xmo_88 60 [] ?_
          simp only [ynok_30, ynok_31, w32c_0, w32c_1, w32c_2, w32c_3, w32c_4, w32c_5, w32c_6, w32c_7, w32c_8, w32c_9, w32c_10, w32c_11, w32c_12, w32c_13, w32c_14, w32c_m1, w32c_m2, w32c_118, Int.reduceAdd, Int.reduceSub, Int.reduceMul, yput_s, yput_n, znl_n, znl_0, znl_1, znl_4, ysum_n, ysum_0, ysum_1, ysum_4, true_and, and_true, Nat.reduceAdd, Nat.reduceLeDiff, true_implies, eq_self, true_or, or_true, or_false, false_or, not_true_eq_false, not_false_eq_true, false_implies, implies_true, yset_s, yset_o, yset_d, ne_eq, Nat.reduceEqDiff, Int.reduceToNat, Int.reduceEq, Int.reduceLE, Int.reduceLT, Classical.not_not, Nat.reduceLT, ↓zvk_s, ↓zvk_n, ↓s_88_0, ↓s_88_1, ↓s_88_2, ↓s_88_5, ↓s_88_6, ↓s_88_7, ↓s_88_8, ↓s_88_11, ↓s_88_14, ↓s_88_15, ↓s_88_17, ↓s_88_20, ↓s_88_21, ↓s_88_23, ↓s_88_26, ↓s_88_27, ↓s_88_28, ↓s_88_31, ↓s_88_32, ↓s_88_34, ↓s_88_35, ↓s_88_36, ↓s_88_39, ↓s_88_42, ↓s_88_43, ↓s_88_45, ↓s_88_48, ↓s_88_49, ↓s_88_50, ↓s_88_53, ↓s_88_54, ↓s_88_55, ↓s_88_58, ↓s_88_59, ↓s_88_62, ↓s_88_63, ↓s_88_66, ↓s_88_69, ↓s_88_70, ↓s_88_73n, ↓s_88_73i, ↓s_88_73p, ↓s_88_73l, ↓s_88_74, ↓s_88_75, ↓s_88_78n, ↓s_88_78i, ↓s_88_78p, ↓s_88_78l, ↓s_88_80, ↓s_88_81, ↓s_88_82, ↓s_88_84, ↓s_88_87, ↓s_88_88, ↓s_88_90, ↓s_88_93, ↓s_88_94, ↓s_88_95, ↓s_88_97, ↓s_88_98, ↓s_88_101, ↓s_88_104, ↓s_88_105, ↓s_88_107, ↓s_88_108, ↓s_88_111, ↓s_88_114, w32c_33, w32c_39, w32c_32, w32c_15, w32c_16, zio_73, zar_74, zia_74, zln_74, zit_74]
          exact put r m2 0 evF_rf S2 (Or.inl rfl) (fun _ => by rw [hr, hx2, hx1]; exact eOp_jn (by omega) (by omega)) (fun z => absurd z (by decide))
        · have k16 : q.1 = 16 := by omega
          refine xe_scale_16 hE (by omega) (by rw [hK, k16]; rfl) S2 iy2 (fun r m Fm c => ?_)
          rw [hx2, hx1] at c
          refine zgk_s hE xmo_88 60 [] ?_
          simp only [ynok_30, ynok_31, w32c_0, w32c_1, w32c_2, w32c_3, w32c_4, w32c_5, w32c_6, w32c_7, w32c_8, w32c_9, w32c_10, w32c_11, w32c_12, w32c_13, w32c_14, w32c_m1, w32c_m2, w32c_118, Int.reduceAdd, Int.reduceSub, Int.reduceMul, yput_s, yput_n, znl_n, znl_0, znl_1, znl_4, ysum_n, ysum_0, ysum_1, ysum_4, true_and, and_true, Nat.reduceAdd, Nat.reduceLeDiff, true_implies, eq_self, true_or, or_true, or_false, false_or, not_true_eq_false, not_false_eq_true, false_implies, implies_true, yset_s, yset_o, yset_d, ne_eq, Nat.reduceEqDiff, Int.reduceToNat, Int.reduceEq, Int.reduceLE, Int.reduceLT, Classical.not_not, Nat.reduceLT, ↓zvk_s, ↓zvk_n, ↓s_88_0, ↓s_88_1, ↓s_88_2, ↓s_88_5, ↓s_88_6, ↓s_88_7, ↓s_88_8, ↓s_88_11, ↓s_88_14, ↓s_88_15, ↓s_88_17, ↓s_88_20, ↓s_88_21, ↓s_88_23, ↓s_88_26, ↓s_88_27, ↓s_88_28, ↓s_88_31, ↓s_88_32, ↓s_88_34, ↓s_88_35, ↓s_88_36, ↓s_88_39, ↓s_88_42, ↓s_88_43, ↓s_88_45, ↓s_88_48, ↓s_88_49, ↓s_88_50, ↓s_88_53, ↓s_88_54, ↓s_88_55, ↓s_88_58, ↓s_88_59, ↓s_88_62, ↓s_88_63, ↓s_88_66, ↓s_88_69, ↓s_88_70, ↓s_88_73n, ↓s_88_73i, ↓s_88_73p, ↓s_88_73l, ↓s_88_74, ↓s_88_75, ↓s_88_78n, ↓s_88_78i, ↓s_88_78p, ↓s_88_78l, ↓s_88_80, ↓s_88_81, ↓s_88_82, ↓s_88_84, ↓s_88_87, ↓s_88_88, ↓s_88_90, ↓s_88_93, ↓s_88_94, ↓s_88_95, ↓s_88_97, ↓s_88_98, ↓s_88_101, ↓s_88_104, ↓s_88_105, ↓s_88_107, ↓s_88_108, ↓s_88_111, ↓s_88_114, w32c_33, w32c_39, w32c_32, w32c_15, w32c_16, zio_73, zar_74, zia_74, zln_74, zit_74]
          rcases c with ⟨c1, c2, c3⟩ | ⟨c1, c2, c3⟩
          · exact put r m 1 Fm c3 (Or.inr rfl) (fun z => absurd z (by decide)) (fun _ => by rw [k16]; exact c1)
          · exact put r m 0 Fm c3 (Or.inl rfl) (fun _ => by rw [k16, c1, if_pos c2]) (fun z => absurd z (by decide))
      simp only [ynok_30, ynok_31, w32c_0, w32c_1, w32c_2, w32c_3, w32c_4, w32c_5, w32c_6, w32c_7, w32c_8, w32c_9, w32c_10, w32c_11, w32c_12, w32c_13, w32c_14, w32c_m1, w32c_m2, w32c_118, Int.reduceAdd, Int.reduceSub, Int.reduceMul, yput_s, yput_n, znl_n, znl_0, znl_1, znl_4, ysum_n, ysum_0, ysum_1, ysum_4, true_and, and_true, Nat.reduceAdd, Nat.reduceLeDiff, true_implies, eq_self, true_or, or_true, or_false, false_or, not_true_eq_false, not_false_eq_true, false_implies, implies_true, yset_s, yset_o, yset_d, ne_eq, Nat.reduceEqDiff, Int.reduceToNat, Int.reduceEq, Int.reduceLE, Int.reduceLT, Classical.not_not, Nat.reduceLT, ↓zvk_s, ↓zvk_n, ↓s_88_0, ↓s_88_1, ↓s_88_2, ↓s_88_5, ↓s_88_6, ↓s_88_7, ↓s_88_8, ↓s_88_11, ↓s_88_14, ↓s_88_15, ↓s_88_17, ↓s_88_20, ↓s_88_21, ↓s_88_23, ↓s_88_26, ↓s_88_27, ↓s_88_28, ↓s_88_31, ↓s_88_32, ↓s_88_34, ↓s_88_35, ↓s_88_36, ↓s_88_39, ↓s_88_42, ↓s_88_43, ↓s_88_45, ↓s_88_48, ↓s_88_49, ↓s_88_50, ↓s_88_53, ↓s_88_54, ↓s_88_55, ↓s_88_58, ↓s_88_59, ↓s_88_62, ↓s_88_63, ↓s_88_66, ↓s_88_69, ↓s_88_70, ↓s_88_73n, ↓s_88_73i, ↓s_88_73p, ↓s_88_73l, ↓s_88_74, ↓s_88_75, ↓s_88_78n, ↓s_88_78i, ↓s_88_78p, ↓s_88_78l, ↓s_88_80, ↓s_88_81, ↓s_88_82, ↓s_88_84, ↓s_88_87, ↓s_88_88, ↓s_88_90, ↓s_88_93, ↓s_88_94, ↓s_88_95, ↓s_88_97, ↓s_88_98, ↓s_88_101, ↓s_88_104, ↓s_88_105, ↓s_88_107, ↓s_88_108, ↓s_88_111, ↓s_88_114, w32c_33, w32c_39, w32c_32, w32c_15, w32c_16, zio_73, zar_74, zia_74, zln_74, zit_74]
      rw [hK]
      exact ⟨fun _ => ⟨fun _ => ⟨fun a => P2 (by omega), fun a => P32 (by omega)⟩, fun a => ⟨fun _ => ⟨fun a => P2 (by omega), fun a => P32 (by omega)⟩, fun b => absurd (show q.1 = 2 by omega) k2⟩⟩, fun a => absurd (show q.1 = 2 by omega) k2⟩
end EW
end
