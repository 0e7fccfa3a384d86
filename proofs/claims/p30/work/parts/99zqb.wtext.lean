section
theorem s_135_0 {E : yE} {n d : Nat} {mem : yMem} {Post : Option yV → yMem → Prop} {st : List yV} {r1 : Option yV} {x : Int} : zvc E (n + 1) [] d xm_135 0 [some (1, x), r1] (st) mem Post = (zvc E n [] d xm_135 1 [some (1, x), r1] ((1, x) :: st) mem Post) := zrf rfl
theorem s_135_1_57 {E : yE} {n d : Nat} {mem : yMem} {Post : Option yV → yMem → Prop} {st : List yV} {r0 r1 : Option yV} : zvc E (n + 1) [] d xm_135 1 [r0, r1] ((1, 57) :: st) mem Post = (zvc E n [] d xm_135 4 [r0, r1] ((1, 58) :: st) mem Post) := zrf rfl
theorem s_135_1_64 {E : yE} {n d : Nat} {mem : yMem} {Post : Option yV → yMem → Prop} {st : List yV} {r0 r1 : Option yV} : zvc E (n + 1) [] d xm_135 1 [r0, r1] ((1, 64) :: st) mem Post = (zvc E n [] d xm_135 4 [r0, r1] ((1, 65) :: st) mem Post) := zrf rfl
theorem s_135_4 {E : yE} {n d : Nat} {mem : yMem} {Post : Option yV → yMem → Prop} {st : List yV} {r0 r1 : Option yV} : zvc E (n + 1) [] d xm_135 4 [r0, r1] (st) mem Post = (zvc E n [] d xm_135 5 [r0, r1] ((0, 0) :: st) mem Post) := zrf rfl
theorem s_135_5 {E : yE} {n d : Nat} {mem : yMem} {Post : Option yV → yMem → Prop} {st : List yV} {r0 r1 : Option yV} {a0 a1 : Int} : zvc E (n + 1) [] d xm_135 5 [r0, r1] ((0, a1) :: (1, a0) :: st) mem Post = (True ∧ ysum st ≤ 8 ∧ yCon E d xm_263 [(1, a0), (0, a1)] mem (fun v mem' => zgk E d xm_135 8 [r0, r1] st v mem' Post)) := zrf rfl
theorem s_135_8 {E : yE} {n d : Nat} {mem : yMem} {Post : Option yV → yMem → Prop} {st : List yV} {r1 : Option yV} {x : Int} : zvc E (n + 1) [] d xm_135 8 [some (1, x), r1] (st) mem Post = (zvc E n [] d xm_135 9 [some (1, x), r1] ((1, x) :: st) mem Post) := zrf rfl
theorem s_135_9_57 {E : yE} {n d : Nat} {mem : yMem} {Post : Option yV → yMem → Prop} {st : List yV} {r0 r1 : Option yV} : zvc E (n + 1) [] d xm_135 9 [r0, r1] ((1, 57) :: st) mem Post = (zvc E n [] d xm_135 12 [r0, r1] ((1, 60) :: st) mem Post) := zrf rfl
theorem s_135_9_64 {E : yE} {n d : Nat} {mem : yMem} {Post : Option yV → yMem → Prop} {st : List yV} {r0 r1 : Option yV} : zvc E (n + 1) [] d xm_135 9 [r0, r1] ((1, 64) :: st) mem Post = (zvc E n [] d xm_135 12 [r0, r1] ((1, 67) :: st) mem Post) := zrf rfl
theorem s_135_12 {E : yE} {n d : Nat} {mem : yMem} {Post : Option yV → yMem → Prop} {st : List yV} {r0 r1 : Option yV} : zvc E (n + 1) [] d xm_135 12 [r0, r1] (st) mem Post = (zvc E n [] d xm_135 13 [r0, r1] ((0, 0) :: st) mem Post) := zrf rfl
theorem s_135_13 {E : yE} {n d : Nat} {mem : yMem} {Post : Option yV → yMem → Prop} {st : List yV} {r0 r1 : Option yV} {a0 a1 : Int} : zvc E (n + 1) [] d xm_135 13 [r0, r1] ((0, a1) :: (1, a0) :: st) mem Post = (True ∧ ysum st ≤ 8 ∧ yCon E d xm_263 [(1, a0), (0, a1)] mem (fun v mem' => zgk E d xm_135 16 [r0, r1] st v mem' Post)) := zrf rfl
theorem s_135_16 {E : yE} {n d : Nat} {mem : yMem} {Post : Option yV → yMem → Prop} {st : List yV} {r1 : Option yV} {x : Int} : zvc E (n + 1) [] d xm_135 16 [some (1, x), r1] (st) mem Post = (zvc E n [] d xm_135 17 [some (1, x), r1] ((1, x) :: st) mem Post) := zrf rfl
theorem s_135_17_57 {E : yE} {n d : Nat} {mem : yMem} {Post : Option yV → yMem → Prop} {st : List yV} {r0 r1 : Option yV} : zvc E (n + 1) [] d xm_135 17 [r0, r1] ((1, 57) :: st) mem Post = (zvc E n [] d xm_135 20 [r0, r1] ((1, 59) :: st) mem Post) := zrf rfl
theorem s_135_17_64 {E : yE} {n d : Nat} {mem : yMem} {Post : Option yV → yMem → Prop} {st : List yV} {r0 r1 : Option yV} : zvc E (n + 1) [] d xm_135 17 [r0, r1] ((1, 64) :: st) mem Post = (zvc E n [] d xm_135 20 [r0, r1] ((1, 66) :: st) mem Post) := zrf rfl
theorem s_135_20 {E : yE} {n d : Nat} {mem : yMem} {Post : Option yV → yMem → Prop} {st : List yV} {r0 r1 : Option yV} : zvc E (n + 1) [] d xm_135 20 [r0, r1] (st) mem Post = (zvc E n [] d xm_135 21 [r0, r1] ((0, 0) :: st) mem Post) := zrf rfl
theorem s_135_21 {E : yE} {n d : Nat} {mem : yMem} {Post : Option yV → yMem → Prop} {st : List yV} {r0 r1 : Option yV} {a0 a1 : Int} : zvc E (n + 1) [] d xm_135 21 [r0, r1] ((0, a1) :: (1, a0) :: st) mem Post = (True ∧ ysum st ≤ 8 ∧ yCon E d xm_263 [(1, a0), (0, a1)] mem (fun v mem' => zgk E d xm_135 24 [r0, r1] st v mem' Post)) := zrf rfl
theorem s_135_24 {E : yE} {n d : Nat} {mem : yMem} {Post : Option yV → yMem → Prop} {st : List yV} {r0 : Option yV} {x : Int} : zvc E (n + 1) [] d xm_135 24 [r0, some (1, x)] (st) mem Post = (zvc E n [] d xm_135 25 [r0, some (1, x)] ((1, x) :: st) mem Post) := zrf rfl
theorem s_135_25_2 {E : yE} {n d : Nat} {mem : yMem} {Post : Option yV → yMem → Prop} {st : List yV} {r0 r1 : Option yV} : zvc E (n + 1) [] d xm_135 25 [r0, r1] ((1, 2) :: st) mem Post = (zvc E n [] d xm_135 28 [r0, r1] ((1, 12) :: st) mem Post) := zrf rfl
theorem s_135_25_28 {E : yE} {n d : Nat} {mem : yMem} {Post : Option yV → yMem → Prop} {st : List yV} {r0 r1 : Option yV} : zvc E (n + 1) [] d xm_135 25 [r0, r1] ((1, 28) :: st) mem Post = (zvc E n [] d xm_135 28 [r0, r1] ((1, 38) :: st) mem Post) := zrf rfl
theorem s_135_28 {E : yE} {n d : Nat} {mem : yMem} {Post : Option yV → yMem → Prop} {st : List yV} {r0 r1 : Option yV} : zvc E (n + 1) [] d xm_135 28 [r0, r1] (st) mem Post = (zvc E n [] d xm_135 29 [r0, r1] ((0, 0) :: st) mem Post) := zrf rfl
theorem s_135_29 {E : yE} {n d : Nat} {mem : yMem} {Post : Option yV → yMem → Prop} {st : List yV} {r1 : Option yV} {x : Int} : zvc E (n + 1) [] d xm_135 29 [some (1, x), r1] (st) mem Post = (zvc E n [] d xm_135 30 [some (1, x), r1] ((1, x) :: st) mem Post) := zrf rfl
theorem s_135_30_57 {E : yE} {n d : Nat} {mem : yMem} {Post : Option yV → yMem → Prop} {st : List yV} {r0 r1 : Option yV} : zvc E (n + 1) [] d xm_135 30 [r0, r1] ((1, 57) :: st) mem Post = (zvc E n [] d xm_135 33 [r0, r1] ((1, 58) :: st) mem Post) := zrf rfl
theorem s_135_30_64 {E : yE} {n d : Nat} {mem : yMem} {Post : Option yV → yMem → Prop} {st : List yV} {r0 r1 : Option yV} : zvc E (n + 1) [] d xm_135 30 [r0, r1] ((1, 64) :: st) mem Post = (zvc E n [] d xm_135 33 [r0, r1] ((1, 65) :: st) mem Post) := zrf rfl
theorem s_135_33 {E : yE} {n d : Nat} {mem : yMem} {Post : Option yV → yMem → Prop} {st : List yV} {r0 r1 : Option yV} : zvc E (n + 1) [] d xm_135 33 [r0, r1] (st) mem Post = (zvc E n [] d xm_135 34 [r0, r1] ((0, 0) :: st) mem Post) := zrf rfl
theorem s_135_34 {E : yE} {n d : Nat} {mem : yMem} {Post : Option yV → yMem → Prop} {st : List yV} {r0 : Option yV} {x : Int} : zvc E (n + 1) [] d xm_135 34 [r0, some (1, x)] (st) mem Post = (zvc E n [] d xm_135 35 [r0, some (1, x)] ((1, x) :: st) mem Post) := zrf rfl
theorem s_135_35_2 {E : yE} {n d : Nat} {mem : yMem} {Post : Option yV → yMem → Prop} {st : List yV} {r0 r1 : Option yV} : zvc E (n + 1) [] d xm_135 35 [r0, r1] ((1, 2) :: st) mem Post = (zvc E n [] d xm_135 38 [r0, r1] ((1, 3) :: st) mem Post) := zrf rfl
theorem s_135_35_28 {E : yE} {n d : Nat} {mem : yMem} {Post : Option yV → yMem → Prop} {st : List yV} {r0 r1 : Option yV} : zvc E (n + 1) [] d xm_135 35 [r0, r1] ((1, 28) :: st) mem Post = (zvc E n [] d xm_135 38 [r0, r1] ((1, 29) :: st) mem Post) := zrf rfl
theorem s_135_38_3 {E : yE} {n d : Nat} {mem : yMem} {Post : Option yV → yMem → Prop} {st : List yV} {r0 r1 : Option yV} : zvc E (n + 1) [] d xm_135 38 [r0, r1] ((1, 3) :: st) mem Post = (zvc E n [] d xm_135 41 [r0, r1] ((0, mem 3 1) :: st) mem Post) := zrf rfl
theorem s_135_38_5 {E : yE} {n d : Nat} {mem : yMem} {Post : Option yV → yMem → Prop} {st : List yV} {r0 r1 : Option yV} : zvc E (n + 1) [] d xm_135 38 [r0, r1] ((1, 5) :: st) mem Post = (zvc E n [] d xm_135 41 [r0, r1] ((0, mem 5 1) :: st) mem Post) := zrf rfl
theorem s_135_38_7 {E : yE} {n d : Nat} {mem : yMem} {Post : Option yV → yMem → Prop} {st : List yV} {r0 r1 : Option yV} : zvc E (n + 1) [] d xm_135 38 [r0, r1] ((1, 7) :: st) mem Post = (zvc E n [] d xm_135 41 [r0, r1] ((0, mem 7 1) :: st) mem Post) := zrf rfl
theorem s_135_38_9 {E : yE} {n d : Nat} {mem : yMem} {Post : Option yV → yMem → Prop} {st : List yV} {r0 r1 : Option yV} : zvc E (n + 1) [] d xm_135 38 [r0, r1] ((1, 9) :: st) mem Post = (zvc E n [] d xm_135 41 [r0, r1] ((0, mem 9 1) :: st) mem Post) := zrf rfl
theorem s_135_38_29 {E : yE} {n d : Nat} {mem : yMem} {Post : Option yV → yMem → Prop} {st : List yV} {r0 r1 : Option yV} : zvc E (n + 1) [] d xm_135 38 [r0, r1] ((1, 29) :: st) mem Post = (zvc E n [] d xm_135 41 [r0, r1] ((0, mem 29 1) :: st) mem Post) := zrf rfl
theorem s_135_38_31 {E : yE} {n d : Nat} {mem : yMem} {Post : Option yV → yMem → Prop} {st : List yV} {r0 r1 : Option yV} : zvc E (n + 1) [] d xm_135 38 [r0, r1] ((1, 31) :: st) mem Post = (zvc E n [] d xm_135 41 [r0, r1] ((0, mem 31 1) :: st) mem Post) := zrf rfl
theorem s_135_38_33 {E : yE} {n d : Nat} {mem : yMem} {Post : Option yV → yMem → Prop} {st : List yV} {r0 r1 : Option yV} : zvc E (n + 1) [] d xm_135 38 [r0, r1] ((1, 33) :: st) mem Post = (zvc E n [] d xm_135 41 [r0, r1] ((0, mem 33 1) :: st) mem Post) := zrf rfl
theorem s_135_38_35 {E : yE} {n d : Nat} {mem : yMem} {Post : Option yV → yMem → Prop} {st : List yV} {r0 r1 : Option yV} : zvc E (n + 1) [] d xm_135 38 [r0, r1] ((1, 35) :: st) mem Post = (zvc E n [] d xm_135 41 [r0, r1] ((0, mem 35 1) :: st) mem Post) := zrf rfl
theorem s_135_41 {E : yE} {n d : Nat} {mem : yMem} {Post : Option yV → yMem → Prop} {st : List yV} {r0 r1 : Option yV} {m dp dd sp ss : Int} : zvc E (n + 1) [] d xm_135 41 [r0, r1] ((0, m) :: (0, dp) :: (1, dd) :: (0, sp) :: (1, ss) :: st) mem Post = (ysum st ≤ 8 ∧ zit ss 0 = true ∧ zit dd 0 = true ∧ 0 ≤ w32 m ∧ 0 ≤ w32 sp ∧ 0 ≤ w32 dp ∧ w32 sp + w32 m ≤ ((zar ss 0 : Nat) : Int) ∧ w32 dp + w32 m ≤ ((zar dd 0 : Nat) : Int) ∧ zvc E n [] d xm_135 44 [r0, r1] (st) (ycpy mem ss.toNat (w32 sp).toNat dd.toNat (w32 dp).toNat (w32 m).toNat) Post) := zrf rfl
theorem s_135_44 {E : yE} {n d : Nat} {mem : yMem} {Post : Option yV → yMem → Prop} {st : List yV} {r0 : Option yV} {x : Int} : zvc E (n + 1) [] d xm_135 44 [r0, some (1, x)] (st) mem Post = (zvc E n [] d xm_135 45 [r0, some (1, x)] ((1, x) :: st) mem Post) := zrf rfl
theorem s_135_45_2 {E : yE} {n d : Nat} {mem : yMem} {Post : Option yV → yMem → Prop} {st : List yV} {r0 r1 : Option yV} : zvc E (n + 1) [] d xm_135 45 [r0, r1] ((1, 2) :: st) mem Post = (zvc E n [] d xm_135 48 [r0, r1] ((1, 21) :: st) mem Post) := zrf rfl
theorem s_135_45_28 {E : yE} {n d : Nat} {mem : yMem} {Post : Option yV → yMem → Prop} {st : List yV} {r0 r1 : Option yV} : zvc E (n + 1) [] d xm_135 45 [r0, r1] ((1, 28) :: st) mem Post = (zvc E n [] d xm_135 48 [r0, r1] ((1, 47) :: st) mem Post) := zrf rfl
theorem s_135_48 {E : yE} {n d : Nat} {mem : yMem} {Post : Option yV → yMem → Prop} {st : List yV} {r0 r1 : Option yV} : zvc E (n + 1) [] d xm_135 48 [r0, r1] (st) mem Post = (zvc E n [] d xm_135 49 [r0, r1] ((0, 0) :: st) mem Post) := zrf rfl
theorem s_135_49 {E : yE} {n d : Nat} {mem : yMem} {Post : Option yV → yMem → Prop} {st : List yV} {r1 : Option yV} {x : Int} : zvc E (n + 1) [] d xm_135 49 [some (1, x), r1] (st) mem Post = (zvc E n [] d xm_135 50 [some (1, x), r1] ((1, x) :: st) mem Post) := zrf rfl
theorem s_135_50_57 {E : yE} {n d : Nat} {mem : yMem} {Post : Option yV → yMem → Prop} {st : List yV} {r0 r1 : Option yV} : zvc E (n + 1) [] d xm_135 50 [r0, r1] ((1, 57) :: st) mem Post = (zvc E n [] d xm_135 53 [r0, r1] ((1, 60) :: st) mem Post) := zrf rfl
theorem s_135_50_64 {E : yE} {n d : Nat} {mem : yMem} {Post : Option yV → yMem → Prop} {st : List yV} {r0 r1 : Option yV} : zvc E (n + 1) [] d xm_135 50 [r0, r1] ((1, 64) :: st) mem Post = (zvc E n [] d xm_135 53 [r0, r1] ((1, 67) :: st) mem Post) := zrf rfl
theorem s_135_53 {E : yE} {n d : Nat} {mem : yMem} {Post : Option yV → yMem → Prop} {st : List yV} {r0 r1 : Option yV} : zvc E (n + 1) [] d xm_135 53 [r0, r1] (st) mem Post = (zvc E n [] d xm_135 54 [r0, r1] ((0, 0) :: st) mem Post) := zrf rfl
theorem s_135_54 {E : yE} {n d : Nat} {mem : yMem} {Post : Option yV → yMem → Prop} {st : List yV} {r0 : Option yV} {x : Int} : zvc E (n + 1) [] d xm_135 54 [r0, some (1, x)] (st) mem Post = (zvc E n [] d xm_135 55 [r0, some (1, x)] ((1, x) :: st) mem Post) := zrf rfl
theorem s_135_55_2 {E : yE} {n d : Nat} {mem : yMem} {Post : Option yV → yMem → Prop} {st : List yV} {r0 r1 : Option yV} : zvc E (n + 1) [] d xm_135 55 [r0, r1] ((1, 2) :: st) mem Post = (zvc E n [] d xm_135 58 [r0, r1] ((1, 9) :: st) mem Post) := zrf rfl
theorem s_135_55_28 {E : yE} {n d : Nat} {mem : yMem} {Post : Option yV → yMem → Prop} {st : List yV} {r0 r1 : Option yV} : zvc E (n + 1) [] d xm_135 55 [r0, r1] ((1, 28) :: st) mem Post = (zvc E n [] d xm_135 58 [r0, r1] ((1, 35) :: st) mem Post) := zrf rfl
theorem s_135_58_3 {E : yE} {n d : Nat} {mem : yMem} {Post : Option yV → yMem → Prop} {st : List yV} {r0 r1 : Option yV} : zvc E (n + 1) [] d xm_135 58 [r0, r1] ((1, 3) :: st) mem Post = (zvc E n [] d xm_135 61 [r0, r1] ((0, mem 3 1) :: st) mem Post) := zrf rfl
theorem s_135_58_5 {E : yE} {n d : Nat} {mem : yMem} {Post : Option yV → yMem → Prop} {st : List yV} {r0 r1 : Option yV} : zvc E (n + 1) [] d xm_135 58 [r0, r1] ((1, 5) :: st) mem Post = (zvc E n [] d xm_135 61 [r0, r1] ((0, mem 5 1) :: st) mem Post) := zrf rfl
theorem s_135_58_7 {E : yE} {n d : Nat} {mem : yMem} {Post : Option yV → yMem → Prop} {st : List yV} {r0 r1 : Option yV} : zvc E (n + 1) [] d xm_135 58 [r0, r1] ((1, 7) :: st) mem Post = (zvc E n [] d xm_135 61 [r0, r1] ((0, mem 7 1) :: st) mem Post) := zrf rfl
theorem s_135_58_9 {E : yE} {n d : Nat} {mem : yMem} {Post : Option yV → yMem → Prop} {st : List yV} {r0 r1 : Option yV} : zvc E (n + 1) [] d xm_135 58 [r0, r1] ((1, 9) :: st) mem Post = (zvc E n [] d xm_135 61 [r0, r1] ((0, mem 9 1) :: st) mem Post) := zrf rfl
theorem s_135_58_29 {E : yE} {n d : Nat} {mem : yMem} {Post : Option yV → yMem → Prop} {st : List yV} {r0 r1 : Option yV} : zvc E (n + 1) [] d xm_135 58 [r0, r1] ((1, 29) :: st) mem Post = (zvc E n [] d xm_135 61 [r0, r1] ((0, mem 29 1) :: st) mem Post) := zrf rfl
theorem s_135_58_31 {E : yE} {n d : Nat} {mem : yMem} {Post : Option yV → yMem → Prop} {st : List yV} {r0 r1 : Option yV} : zvc E (n + 1) [] d xm_135 58 [r0, r1] ((1, 31) :: st) mem Post = (zvc E n [] d xm_135 61 [r0, r1] ((0, mem 31 1) :: st) mem Post) := zrf rfl
theorem s_135_58_33 {E : yE} {n d : Nat} {mem : yMem} {Post : Option yV → yMem → Prop} {st : List yV} {r0 r1 : Option yV} : zvc E (n + 1) [] d xm_135 58 [r0, r1] ((1, 33) :: st) mem Post = (zvc E n [] d xm_135 61 [r0, r1] ((0, mem 33 1) :: st) mem Post) := zrf rfl
theorem s_135_58_35 {E : yE} {n d : Nat} {mem : yMem} {Post : Option yV → yMem → Prop} {st : List yV} {r0 r1 : Option yV} : zvc E (n + 1) [] d xm_135 58 [r0, r1] ((1, 35) :: st) mem Post = (zvc E n [] d xm_135 61 [r0, r1] ((0, mem 35 1) :: st) mem Post) := zrf rfl
theorem s_135_61 {E : yE} {n d : Nat} {mem : yMem} {Post : Option yV → yMem → Prop} {st : List yV} {r0 r1 : Option yV} {m dp dd sp ss : Int} : zvc E (n + 1) [] d xm_135 61 [r0, r1] ((0, m) :: (0, dp) :: (1, dd) :: (0, sp) :: (1, ss) :: st) mem Post = (ysum st ≤ 8 ∧ zit ss 0 = true ∧ zit dd 0 = true ∧ 0 ≤ w32 m ∧ 0 ≤ w32 sp ∧ 0 ≤ w32 dp ∧ w32 sp + w32 m ≤ ((zar ss 0 : Nat) : Int) ∧ w32 dp + w32 m ≤ ((zar dd 0 : Nat) : Int) ∧ zvc E n [] d xm_135 64 [r0, r1] (st) (ycpy mem ss.toNat (w32 sp).toNat dd.toNat (w32 dp).toNat (w32 m).toNat) Post) := zrf rfl
theorem s_135_64 {E : yE} {n d : Nat} {mem : yMem} {Post : Option yV → yMem → Prop} {st : List yV} {r1 : Option yV} {x : Int} : zvc E (n + 1) [] d xm_135 64 [some (1, x), r1] (st) mem Post = (zvc E n [] d xm_135 65 [some (1, x), r1] ((1, x) :: st) mem Post) := zrf rfl
theorem s_135_65 {E : yE} {n d : Nat} {mem : yMem} {Post : Option yV → yMem → Prop} {st : List yV} {r0 r1 : Option yV} {z : Int} : zvc E (n + 1) [] d xm_135 65 [r0, r1] ((1, z) :: st) mem Post = (zio z 10 = true ∧ ysum st ≤ 8 ∧ yCon E d xm_137 [(1, z)] mem (fun v mem' => zgk E d xm_135 68 [r0, r1] st v mem' Post)) := zrf rfl
theorem s_135_68 {E : yE} {n d : Nat} {mem : yMem} {Post : Option yV → yMem → Prop} {st : List yV} {r1 : Option yV} {x : Int} : zvc E (n + 1) [] d xm_135 68 [some (1, x), r1] (st) mem Post = (zvc E n [] d xm_135 69 [some (1, x), r1] ((1, x) :: st) mem Post) := zrf rfl
theorem s_135_69 {E : yE} {n d : Nat} {mem : yMem} {Post : Option yV → yMem → Prop} {st : List yV} {r0 r1 : Option yV} : zvc E (n + 1) [] d xm_135 69 [r0, r1] (st) mem Post = (zvc E n [] d xm_135 70 [r0, r1] ((0, 0) :: st) mem Post) := zrf rfl
theorem s_135_70_57 {E : yE} {n d : Nat} {mem : yMem} {Post : Option yV → yMem → Prop} {st : List yV} {r0 r1 : Option yV} {x : Int} : zvc E (n + 1) [] d xm_135 70 [r0, r1] ((0, x) :: (1, 57) :: st) mem Post = (zvc E n [] d xm_135 73 [r0, r1] (st) (yset mem 57 7 x) Post) := zrf rfl
theorem s_135_70_64 {E : yE} {n d : Nat} {mem : yMem} {Post : Option yV → yMem → Prop} {st : List yV} {r0 r1 : Option yV} {x : Int} : zvc E (n + 1) [] d xm_135 70 [r0, r1] ((0, x) :: (1, 64) :: st) mem Post = (zvc E n [] d xm_135 73 [r0, r1] (st) (yset mem 64 7 x) Post) := zrf rfl
theorem s_135_73 {E : yE} {n d : Nat} {mem : yMem} {Post : Option yV → yMem → Prop} {st : List yV} {r1 : Option yV} {x : Int} : zvc E (n + 1) [] d xm_135 73 [some (1, x), r1] (st) mem Post = (zvc E n [] d xm_135 74 [some (1, x), r1] ((1, x) :: st) mem Post) := zrf rfl
theorem s_135_74 {E : yE} {n d : Nat} {mem : yMem} {Post : Option yV → yMem → Prop} {st : List yV} {r0 : Option yV} {x : Int} : zvc E (n + 1) [] d xm_135 74 [r0, some (1, x)] (st) mem Post = (zvc E n [] d xm_135 75 [r0, some (1, x)] ((1, x) :: st) mem Post) := zrf rfl
theorem s_135_75_2 {E : yE} {n d : Nat} {mem : yMem} {Post : Option yV → yMem → Prop} {st : List yV} {r0 r1 : Option yV} : zvc E (n + 1) [] d xm_135 75 [r0, r1] ((1, 2) :: st) mem Post = (zvc E n [] d xm_135 78 [r0, r1] ((0, mem 2 17) :: st) mem Post) := zrf rfl
theorem s_135_75_28 {E : yE} {n d : Nat} {mem : yMem} {Post : Option yV → yMem → Prop} {st : List yV} {r0 r1 : Option yV} : zvc E (n + 1) [] d xm_135 75 [r0, r1] ((1, 28) :: st) mem Post = (zvc E n [] d xm_135 78 [r0, r1] ((0, mem 28 17) :: st) mem Post) := zrf rfl
theorem s_135_78_57 {E : yE} {n d : Nat} {mem : yMem} {Post : Option yV → yMem → Prop} {st : List yV} {r0 r1 : Option yV} {x : Int} : zvc E (n + 1) [] d xm_135 78 [r0, r1] ((0, x) :: (1, 57) :: st) mem Post = (zvc E n [] d xm_135 81 [r0, r1] (st) (yset mem 57 8 x) Post) := zrf rfl
theorem s_135_78_64 {E : yE} {n d : Nat} {mem : yMem} {Post : Option yV → yMem → Prop} {st : List yV} {r0 r1 : Option yV} {x : Int} : zvc E (n + 1) [] d xm_135 78 [r0, r1] ((0, x) :: (1, 64) :: st) mem Post = (zvc E n [] d xm_135 81 [r0, r1] (st) (yset mem 64 8 x) Post) := zrf rfl
theorem s_135_81 {E : yE} {n d : Nat} {mem : yMem} {Post : Option yV → yMem → Prop} {st : List yV} {r1 : Option yV} {x : Int} : zvc E (n + 1) [] d xm_135 81 [some (1, x), r1] (st) mem Post = (zvc E n [] d xm_135 82 [some (1, x), r1] ((1, x) :: st) mem Post) := zrf rfl
theorem s_135_82 {E : yE} {n d : Nat} {mem : yMem} {Post : Option yV → yMem → Prop} {st : List yV} {r0 r1 : Option yV} : zvc E (n + 1) [] d xm_135 82 [r0, r1] (st) mem Post = (zvc E n [] d xm_135 83 [r0, r1] ((0, 0) :: st) mem Post) := zrf rfl
theorem s_135_83_57 {E : yE} {n d : Nat} {mem : yMem} {Post : Option yV → yMem → Prop} {st : List yV} {r0 r1 : Option yV} {x : Int} : zvc E (n + 1) [] d xm_135 83 [r0, r1] ((0, x) :: (1, 57) :: st) mem Post = (zvc E n [] d xm_135 86 [r0, r1] (st) (yset mem 57 9 x) Post) := zrf rfl
theorem s_135_83_64 {E : yE} {n d : Nat} {mem : yMem} {Post : Option yV → yMem → Prop} {st : List yV} {r0 r1 : Option yV} {x : Int} : zvc E (n + 1) [] d xm_135 83 [r0, r1] ((0, x) :: (1, 64) :: st) mem Post = (zvc E n [] d xm_135 86 [r0, r1] (st) (yset mem 64 9 x) Post) := zrf rfl
theorem s_135_86 {E : yE} {n d : Nat} {mem : yMem} {Post : Option yV → yMem → Prop} {st : List yV} {r1 : Option yV} {x : Int} : zvc E (n + 1) [] d xm_135 86 [some (1, x), r1] (st) mem Post = (zvc E n [] d xm_135 87 [some (1, x), r1] ((1, x) :: st) mem Post) := zrf rfl
theorem s_135_87 {E : yE} {n d : Nat} {mem : yMem} {Post : Option yV → yMem → Prop} {st : List yV} {r0 r1 : Option yV} : zvc E (n + 1) [] d xm_135 87 [r0, r1] (st) mem Post = (zvc E n [] d xm_135 88 [r0, r1] ((0, 0) :: st) mem Post) := zrf rfl
theorem s_135_88_57 {E : yE} {n d : Nat} {mem : yMem} {Post : Option yV → yMem → Prop} {st : List yV} {r0 r1 : Option yV} {x : Int} : zvc E (n + 1) [] d xm_135 88 [r0, r1] ((0, x) :: (1, 57) :: st) mem Post = (zvc E n [] d xm_135 91 [r0, r1] (st) (yset mem 57 10 x) Post) := zrf rfl
theorem s_135_88_64 {E : yE} {n d : Nat} {mem : yMem} {Post : Option yV → yMem → Prop} {st : List yV} {r0 r1 : Option yV} {x : Int} : zvc E (n + 1) [] d xm_135 88 [r0, r1] ((0, x) :: (1, 64) :: st) mem Post = (zvc E n [] d xm_135 91 [r0, r1] (st) (yset mem 64 10 x) Post) := zrf rfl
theorem s_135_91 {E : yE} {n d : Nat} {mem : yMem} {Post : Option yV → yMem → Prop} {st : List yV} {r1 : Option yV} {x : Int} : zvc E (n + 1) [] d xm_135 91 [some (1, x), r1] (st) mem Post = (zvc E n [] d xm_135 92 [some (1, x), r1] ((1, x) :: st) mem Post) := zrf rfl
theorem s_135_92 {E : yE} {n d : Nat} {mem : yMem} {Post : Option yV → yMem → Prop} {st : List yV} {r0 r1 : Option yV} : zvc E (n + 1) [] d xm_135 92 [r0, r1] (st) mem Post = (zvc E n [] d xm_135 93 [r0, r1] ((0, (-1)) :: st) mem Post) := zrf rfl
theorem s_135_93_57 {E : yE} {n d : Nat} {mem : yMem} {Post : Option yV → yMem → Prop} {st : List yV} {r0 r1 : Option yV} {x : Int} : zvc E (n + 1) [] d xm_135 93 [r0, r1] ((0, x) :: (1, 57) :: st) mem Post = (zvc E n [] d xm_135 96 [r0, r1] (st) (yset mem 57 11 x) Post) := zrf rfl
theorem s_135_93_64 {E : yE} {n d : Nat} {mem : yMem} {Post : Option yV → yMem → Prop} {st : List yV} {r0 r1 : Option yV} {x : Int} : zvc E (n + 1) [] d xm_135 93 [r0, r1] ((0, x) :: (1, 64) :: st) mem Post = (zvc E n [] d xm_135 96 [r0, r1] (st) (yset mem 64 11 x) Post) := zrf rfl
theorem s_135_96 {E : yE} {n d : Nat} {mem : yMem} {Post : Option yV → yMem → Prop} {st : List yV} {r1 : Option yV} {x : Int} : zvc E (n + 1) [] d xm_135 96 [some (1, x), r1] (st) mem Post = (zvc E n [] d xm_135 97 [some (1, x), r1] ((1, x) :: st) mem Post) := zrf rfl
theorem s_135_97 {E : yE} {n d : Nat} {mem : yMem} {Post : Option yV → yMem → Prop} {st : List yV} {r0 : Option yV} {x : Int} : zvc E (n + 1) [] d xm_135 97 [r0, some (1, x)] (st) mem Post = (zvc E n [] d xm_135 98 [r0, some (1, x)] ((1, x) :: st) mem Post) := zrf rfl
theorem s_135_98_2 {E : yE} {n d : Nat} {mem : yMem} {Post : Option yV → yMem → Prop} {st : List yV} {r0 r1 : Option yV} : zvc E (n + 1) [] d xm_135 98 [r0, r1] ((1, 2) :: st) mem Post = (zvc E n [] d xm_135 101 [r0, r1] ((0, mem 2 18) :: st) mem Post) := zrf rfl
theorem s_135_98_28 {E : yE} {n d : Nat} {mem : yMem} {Post : Option yV → yMem → Prop} {st : List yV} {r0 r1 : Option yV} : zvc E (n + 1) [] d xm_135 98 [r0, r1] ((1, 28) :: st) mem Post = (zvc E n [] d xm_135 101 [r0, r1] ((0, mem 28 18) :: st) mem Post) := zrf rfl
theorem s_135_101_57 {E : yE} {n d : Nat} {mem : yMem} {Post : Option yV → yMem → Prop} {st : List yV} {r0 r1 : Option yV} {x : Int} : zvc E (n + 1) [] d xm_135 101 [r0, r1] ((0, x) :: (1, 57) :: st) mem Post = (zvc E n [] d xm_135 104 [r0, r1] (st) (yset mem 57 12 x) Post) := zrf rfl
theorem s_135_101_64 {E : yE} {n d : Nat} {mem : yMem} {Post : Option yV → yMem → Prop} {st : List yV} {r0 r1 : Option yV} {x : Int} : zvc E (n + 1) [] d xm_135 101 [r0, r1] ((0, x) :: (1, 64) :: st) mem Post = (zvc E n [] d xm_135 104 [r0, r1] (st) (yset mem 64 12 x) Post) := zrf rfl
theorem s_135_104 {E : yE} {n d : Nat} {mem : yMem} {Post : Option yV → yMem → Prop} {r0 r1 : Option yV} : zvc E (n + 1) [] d xm_135 104 [r0, r1] ([]) mem Post = (Post none mem) := zrf rfl
theorem s_137_0 {E : yE} {n d : Nat} {mem : yMem} {Post : Option yV → yMem → Prop} {st : List yV} {x : Int} : zvc E (n + 1) [] d xm_137 0 [some (1, x)] (st) mem Post = (zvc E n [] d xm_137 1 [some (1, x)] ((1, x) :: st) mem Post) := zrf rfl
theorem s_137_1 {E : yE} {n d : Nat} {mem : yMem} {Post : Option yV → yMem → Prop} {st : List yV} {r0 : Option yV} : zvc E (n + 1) [] d xm_137 1 [r0] (st) mem Post = (zvc E n [] d xm_137 2 [r0] ((0, 0) :: st) mem Post) := zrf rfl
theorem s_137_2_57 {E : yE} {n d : Nat} {mem : yMem} {Post : Option yV → yMem → Prop} {st : List yV} {r0 : Option yV} {x : Int} : zvc E (n + 1) [] d xm_137 2 [r0] ((0, x) :: (1, 57) :: st) mem Post = (zvc E n [] d xm_137 5 [r0] (st) (yset mem 57 6 x) Post) := zrf rfl
theorem s_137_2_64 {E : yE} {n d : Nat} {mem : yMem} {Post : Option yV → yMem → Prop} {st : List yV} {r0 : Option yV} {x : Int} : zvc E (n + 1) [] d xm_137 2 [r0] ((0, x) :: (1, 64) :: st) mem Post = (zvc E n [] d xm_137 5 [r0] (st) (yset mem 64 6 x) Post) := zrf rfl
theorem s_137_5 {E : yE} {n d : Nat} {mem : yMem} {Post : Option yV → yMem → Prop} {st : List yV} {x : Int} : zvc E (n + 1) [] d xm_137 5 [some (1, x)] (st) mem Post = (zvc E n [] d xm_137 6 [some (1, x)] ((1, x) :: st) mem Post) := zrf rfl
theorem s_137_6_57 {E : yE} {n d : Nat} {mem : yMem} {Post : Option yV → yMem → Prop} {st : List yV} {r0 : Option yV} : zvc E (n + 1) [] d xm_137 6 [r0] ((1, 57) :: st) mem Post = (zvc E n [] d xm_137 9 [r0] ((1, 61) :: st) mem Post) := zrf rfl
theorem s_137_6_64 {E : yE} {n d : Nat} {mem : yMem} {Post : Option yV → yMem → Prop} {st : List yV} {r0 : Option yV} : zvc E (n + 1) [] d xm_137 6 [r0] ((1, 64) :: st) mem Post = (zvc E n [] d xm_137 9 [r0] ((1, 68) :: st) mem Post) := zrf rfl
theorem s_137_9 {E : yE} {n d : Nat} {mem : yMem} {Post : Option yV → yMem → Prop} {st : List yV} {r0 : Option yV} : zvc E (n + 1) [] d xm_137 9 [r0] (st) mem Post = (zvc E n [] d xm_137 10 [r0] ((0, (-1)) :: st) mem Post) := zrf rfl
theorem s_137_10 {E : yE} {n d : Nat} {mem : yMem} {Post : Option yV → yMem → Prop} {st : List yV} {r0 : Option yV} {a0 a1 : Int} : zvc E (n + 1) [] d xm_137 10 [r0] ((0, a1) :: (1, a0) :: st) mem Post = (True ∧ ysum st ≤ 8 ∧ yCon E d xm_263 [(1, a0), (0, a1)] mem (fun v mem' => zgk E d xm_137 13 [r0] st v mem' Post)) := zrf rfl
theorem s_137_13 {E : yE} {n d : Nat} {mem : yMem} {Post : Option yV → yMem → Prop} {r0 : Option yV} : zvc E (n + 1) [] d xm_137 13 [r0] ([]) mem Post = (Post none mem) := zrf rfl
theorem e_135 {E : yE} {d : Nat} {mem : yMem} {Q : Option yV → yMem → Prop} {z a0 : Int} (h : zG E d xm_135 0 [some (1, z), some (1, a0)] [] mem Q) : yCon E (d + 1) xm_135 [(1, z), (1, a0)] mem Q := zcon_of xmo_135 (Nat.le_of_ble_eq_true rfl) h
theorem e_137 {E : yE} {d : Nat} {mem : yMem} {Q : Option yV → yMem → Prop} {z : Int} (h : zG E d xm_137 0 [some (1, z)] [] mem Q) : yCon E (d + 1) xm_137 [(1, z)] mem Q := zcon_of xmo_137 (Nat.le_of_ble_eq_true rfl) h

/-! WHAT BECOMES OF THE WORLD behind a TEXT -/
/-- a TEXT's world, told by the class's own memory -/
def cBg (m : yMem) : Prop := (w32 (m 57 6) = 0 ∧ w32 (m 57 7) = 0 ∧ w32 (m 57 8) = w32 (m 2 17) ∧ w32 (m 57 9) = 0 ∧ w32 (m 57 10) = 0 ∧ w32 (m 57 12) = w32 (m 2 18)) ∧ (∀ j : Nat, j < 3 → w32 (m 58 j) = if (j : Int) < w32 (m 3 1) then w32 (m 12 j) else 0) ∧ (∀ j : Nat, j < 6 → w32 (m 59 j) = 0) ∧ (∀ j : Nat, j < 3 → w32 (m 60 j) = if (j : Int) < w32 (m 9 1) then w32 (m 21 j) else 0) ∧ ∀ j : Nat, j < 12 → w32 (m 61 j) = -1
theorem cBg_q {m n : yMem} (h : cBg n) (q : ∀ i j, (2 ≤ i ∧ i ≤ 26) ∨ (57 ≤ i ∧ i ≤ 61) → yRl i j = true → w32 (m i j) = w32 (n i j)) : cBg m := by
  obtain ⟨⟨a1, a2, a3, a4, a5, a6⟩, a7, a8, a9, a10⟩ := h
  refine ⟨⟨?_, ?_, ?_, ?_, ?_, ?_⟩, fun j hj => ?_, fun j hj => ?_, fun j hj => ?_, fun j hj => ?_⟩
  · rw [q 57 6 (by decide) rfl]; exact a1
  · rw [q 57 7 (by decide) rfl]; exact a2
  · rw [q 57 8 (by decide) rfl, q 2 17 (by decide) rfl]; exact a3
  · rw [q 57 9 (by decide) rfl]; exact a4
  · rw [q 57 10 (by decide) rfl]; exact a5
  · rw [q 57 12 (by decide) rfl, q 2 18 (by decide) rfl]; exact a6
  · rw [q 58 j (by decide) ((by decide : ∀ j, j < 3 → yRl 58 j = true) j hj), q 3 1 (by decide) rfl, q 12 j (by decide) ((by decide : ∀ j, j < 3 → yRl 12 j = true) j hj)]; exact a7 j hj
  · rw [q 59 j (by decide) ((by decide : ∀ j, j < 6 → yRl 59 j = true) j hj)]; exact a8 j hj
  · rw [q 60 j (by decide) ((by decide : ∀ j, j < 3 → yRl 60 j = true) j hj), q 9 1 (by decide) rfl, q 21 j (by decide) ((by decide : ∀ j, j < 3 → yRl 21 j = true) j hj)]; exact a9 j hj
  · rw [q 61 j (by decide) ((by decide : ∀ j, j < 12 → yRl 61 j = true) j hj)]; exact a10 j hj
theorem getD_at {α : Type} {l : List α} {j : Nat} (d : α) (h : j < l.length) : l[j]? = some (l.getD j d) := by
  rw [List.getD_eq_getElem?_getD, List.getElem?_eq_getElem h]
  rfl
theorem cBg_W {m : yMem} {D : dDc} {W : dU} (h : cBg m) (hD : cDh m D) (h62 : ∀ j, j < 12 → w32 (m 62 j) = uL W j) (h63 : ∀ j, j < 12 → w32 (m 63 j) = uP W j) : cW m 57 (uBg D W) := by
  obtain ⟨⟨a1, a2, a3, a4, a5, a6⟩, a7, a8, a9, a10⟩ := h
  obtain ⟨⟨t1, t2⟩, -, -, ⟨b1, b2⟩, ⟨p1, p2⟩, -⟩ := hD
  have e3 := t1.1
  have e9 := b1.1
  rw [List.length_map] at e3 e9
  refine ⟨fun j hj => ?_, fun j hj => a8 j hj, fun j hj => ?_, fun j hj => a10 j hj, fun j hj => h62 j hj, fun j hj => h63 j hj, a1, a2, ?_, a4, a5, ?_⟩
  · show w32 (m 58 j) = if j < D.1.length then (D.1.getD j (0, 0, 0)).2.2 else 0
    rw [a7 j hj, e3]
    by_cases hl : j < D.1.length
    · rw [if_pos (by omega), if_pos hl]
      exact (t2 j _ (getD_at (0, 0, 0) hl)).2
    · rw [if_neg (by omega), if_neg hl]
  · show w32 (m 60 j) = if j < D.2.2.2.1.length then (D.2.2.2.1.getD j (0, 0)).2 else 0
    rw [a9 j hj, e9]
    by_cases hl : j < D.2.2.2.1.length
    · rw [if_pos (by omega), if_pos hl]
      exact b2 j _ (getD_at (0, 0) hl)
    · rw [if_neg (by omega), if_neg hl]
  · rw [a3]; exact p1
  · rw [a6]; exact p2
theorem rBw_W {b b0 m : yMem} {D : dDc} {W : dU} (h : rBw b m) (hD : rDl m D) (hb : ∀ i j, 118 ≤ i → i ≤ 129 → b i j = b0 i j) (hW : rW b0 0 W) : rW m 0 (uBg D W) := by
  obtain ⟨⟨a1, a2, a3, a4, a5, a6⟩, a7, a8, a9, a10, a11⟩ := h
  obtain ⟨⟨t1, t2⟩, -, -, ⟨b1, b2⟩, ⟨p1, p2⟩, -⟩ := hD
  have e3 := t1.1
  have e9 := b1.1
  rw [List.length_map] at e3 e9
  obtain ⟨-, -, -, -, w5, w6, -⟩ := rW0 hW
  refine rW0_of ⟨fun j hj => ?_, fun j hj => a9 j hj, fun j hj => ?_, fun j hj => a10 j hj, fun j hj => ?_, fun j hj => ?_, a6, a1, ?_, a4, a5, ?_⟩
  · show w32 (m 123 j) = if j < D.1.length then (D.1.getD j (0, 0, 0)).2.2 else 0
    rw [a7 j hj, e3]
    by_cases hl : j < D.1.length
    · rw [if_pos (by omega), if_pos hl]
      exact (t2 j _ (getD_at (0, 0, 0) hl)).2
    · rw [if_neg (by omega), if_neg hl]
  · show w32 (m 124 j) = if j < D.2.2.2.1.length then (D.2.2.2.1.getD j (0, 0)).2 else 0
    rw [a8 j hj, e9]
    by_cases hl : j < D.2.2.2.1.length
    · rw [if_pos (by omega), if_pos hl]
      exact b2 j _ (getD_at (0, 0) hl)
    · rw [if_neg (by omega), if_neg hl]
  · rw [a11 128 j (by omega) (show j < 24 by omega), hb 128 j (by decide) (by decide)]; exact w5 j hj
  · rw [a11 129 j (by omega) (show j < 24 by omega), hb 129 j (by decide) (by decide)]; exact w6 j hj
  · rw [a2]; exact p1
  · rw [a3]; exact p2
theorem rBw_V {b b0 m : yMem} {V : dU} (h : rBw b m) (hb : ∀ i j, 118 ≤ i → i ≤ 129 → b i j = b0 i j) (hV : rW b0 1 V) : rW m 1 V := by
  have a11 := h.2.2.2.2.2
  obtain ⟨v1, v2, v3, v4, v5, v6, v7, v8, v9, v10, v11, v12⟩ := hV
  have u : ∀ i j : Nat, (118 ≤ i ∧ i ≤ 122 ∧ j ≠ 0) ∨ (i = 123 ∧ 3 ≤ j) ∨ (i = 124 ∧ 3 ≤ j) ∨ (i = 125 ∧ 6 ≤ j) ∨ (i = 126 ∧ 12 ≤ j) ∨ (i = 127 ∧ j ≠ 0) ∨ i = 128 ∨ i = 129 → j < wln i → w32 (m i j) = w32 (b0 i j) := fun i j h1 h2 => by rw [a11 i j h1 h2, hb i j (by omega) (by omega)]
  refine ⟨fun j hj => ?_, fun j hj => ?_, fun j hj => ?_, fun j hj => ?_, fun j hj => ?_, fun j hj => ?_, ?_, ?_, ?_, ?_, ?_, ?_⟩
  · rw [u 123 _ (by omega) (show 3 * 1 + j < 6 by omega)]; exact v1 j hj
  · rw [u 125 _ (by omega) (show 6 * 1 + j < 12 by omega)]; exact v2 j hj
  · rw [u 124 _ (by omega) (show 3 * 1 + j < 6 by omega)]; exact v3 j hj
  · rw [u 126 _ (by omega) (show 12 * 1 + j < 24 by omega)]; exact v4 j hj
  · rw [u 128 _ (by omega) (show 12 * 1 + j < 24 by omega)]; exact v5 j hj
  · rw [u 129 _ (by omega) (show 12 * 1 + j < 24 by omega)]; exact v6 j hj
  · rw [u 127 1 (by omega) (by decide)]; exact v7
  · rw [u 118 1 (by omega) (by decide)]; exact v8
  · rw [u 119 1 (by omega) (by decide)]; exact v9
  · rw [u 121 1 (by omega) (by decide)]; exact v10
  · rw [u 122 1 (by omega) (by decide)]; exact v11
  · rw [u 120 1 (by omega) (by decide)]; exact v12
section XW
variable {E : yE} {mem : yMem} {Q : Option yV → yMem → Prop}
theorem ycp_o {m : yMem} {ss sp dd dp n c j : Nat} (h : c ≠ dd) : ycpy m ss sp dd dp n c j = m c j := if_neg h
theorem ycp_s {m : yMem} {ss sp dd dp n j : Nat} : ycpy m ss sp dd dp n dd j = if dp ≤ j ∧ j < dp + n then m ss (sp + (j - dp)) else m dd j := if_pos rfl
theorem gx_dall (hE : yEok E) {D : Nat} (hD : 2 ≤ D) (hQ : ∀ m', (∀ i j, i ≠ 61 → m' i j = yset mem 57 6 0 i j) → (∀ j, j < 12 → m' 61 j = -1) → Q none m') : yCon E D xm_137 [(1, 57)] mem Q := by
  obtain ⟨d, rfl⟩ := Nat.exists_eq_add_of_le' hD
  refine e_137 ?_
  refine zvc_ok hE 60 [] _ _ _ _ _ _ _ xmo_137 ?_
  simp only [ynok_30, ynok_31, w32c_0, w32c_1, w32c_2, w32c_3, w32c_4, w32c_5, w32c_6, w32c_7, w32c_8, w32c_9, w32c_10, w32c_11, w32c_12, w32c_13, w32c_14, w32c_m1, w32c_m2, w32c_118, Int.reduceAdd, Int.reduceSub, Int.reduceMul, yput_s, yput_n, znl_n, znl_0, znl_1, znl_4, ysum_n, ysum_0, ysum_1, ysum_4, true_and, and_true, Nat.reduceAdd, Nat.reduceLeDiff, true_implies, eq_self, true_or, or_true, or_false, false_or, not_true_eq_false, not_false_eq_true, false_implies, implies_true, yset_s, yset_o, yset_d, ne_eq, Nat.reduceEqDiff, Int.reduceToNat, Int.reduceEq, Int.reduceLE, Int.reduceLT, Classical.not_not, Nat.reduceLT, ↓zvk_s, ↓zvk_n, ↓s_137_0, ↓s_137_1, ↓s_137_2_57, ↓s_137_2_64, ↓s_137_5, ↓s_137_6_57, ↓s_137_6_64, ↓s_137_9, ↓s_137_10, ↓s_137_13, zio_64, zar_68, zia_68, zln_68, zit_68, zio_57, zar_61, zia_61, zln_61, zit_61]
  refine g_fill hE (by omega) (z := 61) (L := 12) (by decide) (by decide) (by decide) (by decide) (fun m1 F1 V1 => ?_)
  refine zgk_n hE xmo_137 60 [] ?_
  simp only [ynok_30, ynok_31, w32c_0, w32c_1, w32c_2, w32c_3, w32c_4, w32c_5, w32c_6, w32c_7, w32c_8, w32c_9, w32c_10, w32c_11, w32c_12, w32c_13, w32c_14, w32c_m1, w32c_m2, w32c_118, Int.reduceAdd, Int.reduceSub, Int.reduceMul, yput_s, yput_n, znl_n, znl_0, znl_1, znl_4, ysum_n, ysum_0, ysum_1, ysum_4, true_and, and_true, Nat.reduceAdd, Nat.reduceLeDiff, true_implies, eq_self, true_or, or_true, or_false, false_or, not_true_eq_false, not_false_eq_true, false_implies, implies_true, yset_s, yset_o, yset_d, ne_eq, Nat.reduceEqDiff, Int.reduceToNat, Int.reduceEq, Int.reduceLE, Int.reduceLT, Classical.not_not, Nat.reduceLT, ↓zvk_s, ↓zvk_n, ↓s_137_0, ↓s_137_1, ↓s_137_2_57, ↓s_137_2_64, ↓s_137_5, ↓s_137_6_57, ↓s_137_6_64, ↓s_137_9, ↓s_137_10, ↓s_137_13, zio_64, zar_68, zia_68, zln_68, zit_68, zio_57, zar_61, zia_61, zln_61, zit_61]
  exact hQ m1 F1 V1
theorem gx_begin (hE : yEok E) {D : Nat} (hD : 3 ≤ D) (h3 : 0 ≤ w32 (mem 3 1) ∧ w32 (mem 3 1) ≤ 3) (h9 : 0 ≤ w32 (mem 9 1) ∧ w32 (mem 9 1) ≤ 3) (hQ : ∀ m, (∀ i j, i < 57 ∨ 61 < i → m i j = mem i j) → cBg m → Q none m) : yCon E D xm_135 [(1, 57), (1, 2)] mem Q := by
  obtain ⟨d, rfl⟩ := Nat.exists_eq_add_of_le' hD
  refine e_135 ?_
  refine zvc_ok hE 90 [] _ _ _ _ _ _ _ xmo_135 ?_
  simp only [ynok_30, ynok_31, w32c_0, w32c_1, w32c_2, w32c_3, w32c_4, w32c_5, w32c_6, w32c_7, w32c_8, w32c_9, w32c_10, w32c_11, w32c_12, w32c_13, w32c_14, w32c_m1, w32c_m2, w32c_118, Int.reduceAdd, Int.reduceSub, Int.reduceMul, yput_s, yput_n, znl_n, znl_0, znl_1, znl_4, ysum_n, ysum_0, ysum_1, ysum_4, true_and, and_true, Nat.reduceAdd, Nat.reduceLeDiff, true_implies, eq_self, true_or, or_true, or_false, false_or, not_true_eq_false, not_false_eq_true, false_implies, implies_true, yset_s, yset_o, yset_d, ne_eq, Nat.reduceEqDiff, Int.reduceToNat, Int.reduceEq, Int.reduceLE, Int.reduceLT, Classical.not_not, Nat.reduceLT, ↓zvk_s, ↓zvk_n, ↓s_135_0, ↓s_135_1_57, ↓s_135_1_64, ↓s_135_4, ↓s_135_5, ↓s_135_8, ↓s_135_9_57, ↓s_135_9_64, ↓s_135_12, ↓s_135_13, ↓s_135_16, ↓s_135_17_57, ↓s_135_17_64, ↓s_135_20, ↓s_135_21, ↓s_135_24, ↓s_135_25_2, ↓s_135_25_28, ↓s_135_28, ↓s_135_29, ↓s_135_30_57, ↓s_135_30_64, ↓s_135_33, ↓s_135_34, ↓s_135_35_2, ↓s_135_35_28, ↓s_135_38_3, ↓s_135_38_5, ↓s_135_38_7, ↓s_135_38_9, ↓s_135_38_29, ↓s_135_38_31, ↓s_135_38_33, ↓s_135_38_35, ↓s_135_41, ↓s_135_44, ↓s_135_45_2, ↓s_135_45_28, ↓s_135_48, ↓s_135_49, ↓s_135_50_57, ↓s_135_50_64, ↓s_135_53, ↓s_135_54, ↓s_135_55_2, ↓s_135_55_28, ↓s_135_58_3, ↓s_135_58_5, ↓s_135_58_7, ↓s_135_58_9, ↓s_135_58_29, ↓s_135_58_31, ↓s_135_58_33, ↓s_135_58_35, ↓s_135_61, ↓s_135_64, ↓s_135_65, ↓s_135_68, ↓s_135_69, ↓s_135_70_57, ↓s_135_70_64, ↓s_135_73, ↓s_135_74, ↓s_135_75_2, ↓s_135_75_28, ↓s_135_78_57, ↓s_135_78_64, ↓s_135_81, ↓s_135_82, ↓s_135_83_57, ↓s_135_83_64, ↓s_135_86, ↓s_135_87, ↓s_135_88_57, ↓s_135_88_64, ↓s_135_91, ↓s_135_92, ↓s_135_93_57, ↓s_135_93_64, ↓s_135_96, ↓s_135_97, ↓s_135_98_2, ↓s_135_98_28, ↓s_135_101_57, ↓s_135_101_64, ↓s_135_104, zio_64, zar_65, zia_65, zln_65, zit_65, zar_66, zia_66, zln_66, zit_66, zar_67, zia_67, zln_67, zit_67, zio_2, zio_3, zio_5, zio_7, zio_9, zar_12, zia_12, zln_12, zit_12, zar_21, zia_21, zln_21, zit_21, zio_28, zio_29, zio_31, zio_33, zio_35, zar_38, zia_38, zln_38, zit_38, zar_47, zia_47, zln_47, zit_47, zio_57, zar_58, zia_58, zln_58, zit_58, zar_59, zia_59, zln_59, zit_59, zar_60, zia_60, zln_60, zit_60]
  refine g_fill hE (by omega) (z := 58) (L := 3) (by decide) (by decide) (by decide) (by decide) (fun m1 F1 V1 => ?_)
  refine zgk_n hE xmo_135 90 [] ?_
  simp only [ynok_30, ynok_31, w32c_0, w32c_1, w32c_2, w32c_3, w32c_4, w32c_5, w32c_6, w32c_7, w32c_8, w32c_9, w32c_10, w32c_11, w32c_12, w32c_13, w32c_14, w32c_m1, w32c_m2, w32c_118, Int.reduceAdd, Int.reduceSub, Int.reduceMul, yput_s, yput_n, znl_n, znl_0, znl_1, znl_4, ysum_n, ysum_0, ysum_1, ysum_4, true_and, and_true, Nat.reduceAdd, Nat.reduceLeDiff, true_implies, eq_self, true_or, or_true, or_false, false_or, not_true_eq_false, not_false_eq_true, false_implies, implies_true, yset_s, yset_o, yset_d, ne_eq, Nat.reduceEqDiff, Int.reduceToNat, Int.reduceEq, Int.reduceLE, Int.reduceLT, Classical.not_not, Nat.reduceLT, ↓zvk_s, ↓zvk_n, ↓s_135_0, ↓s_135_1_57, ↓s_135_1_64, ↓s_135_4, ↓s_135_5, ↓s_135_8, ↓s_135_9_57, ↓s_135_9_64, ↓s_135_12, ↓s_135_13, ↓s_135_16, ↓s_135_17_57, ↓s_135_17_64, ↓s_135_20, ↓s_135_21, ↓s_135_24, ↓s_135_25_2, ↓s_135_25_28, ↓s_135_28, ↓s_135_29, ↓s_135_30_57, ↓s_135_30_64, ↓s_135_33, ↓s_135_34, ↓s_135_35_2, ↓s_135_35_28, ↓s_135_38_3, ↓s_135_38_5, ↓s_135_38_7, ↓s_135_38_9, ↓s_135_38_29, ↓s_135_38_31, ↓s_135_38_33, ↓s_135_38_35, ↓s_135_41, ↓s_135_44, ↓s_135_45_2, ↓s_135_45_28, ↓s_135_48, ↓s_135_49, ↓s_135_50_57, ↓s_135_50_64, ↓s_135_53, ↓s_135_54, ↓s_135_55_2, ↓s_135_55_28, ↓s_135_58_3, ↓s_135_58_5, ↓s_135_58_7, ↓s_135_58_9, ↓s_135_58_29, ↓s_135_58_31, ↓s_135_58_33, ↓s_135_58_35, ↓s_135_61, ↓s_135_64, ↓s_135_65, ↓s_135_68, ↓s_135_69, ↓s_135_70_57, ↓s_135_70_64, ↓s_135_73, ↓s_135_74, ↓s_135_75_2, ↓s_135_75_28, ↓s_135_78_57, ↓s_135_78_64, ↓s_135_81, ↓s_135_82, ↓s_135_83_57, ↓s_135_83_64, ↓s_135_86, ↓s_135_87, ↓s_135_88_57, ↓s_135_88_64, ↓s_135_91, ↓s_135_92, ↓s_135_93_57, ↓s_135_93_64, ↓s_135_96, ↓s_135_97, ↓s_135_98_2, ↓s_135_98_28, ↓s_135_101_57, ↓s_135_101_64, ↓s_135_104, zio_64, zar_65, zia_65, zln_65, zit_65, zar_66, zia_66, zln_66, zit_66, zar_67, zia_67, zln_67, zit_67, zio_2, zio_3, zio_5, zio_7, zio_9, zar_12, zia_12, zln_12, zit_12, zar_21, zia_21, zln_21, zit_21, zio_28, zio_29, zio_31, zio_33, zio_35, zar_38, zia_38, zln_38, zit_38, zar_47, zia_47, zln_47, zit_47, zio_57, zar_58, zia_58, zln_58, zit_58, zar_59, zia_59, zln_59, zit_59, zar_60, zia_60, zln_60, zit_60]
  refine g_fill hE (by omega) (z := 60) (L := 3) (by decide) (by decide) (by decide) (by decide) (fun m2 F2 V2 => ?_)
  refine zgk_n hE xmo_135 90 [] ?_
  simp only [ynok_30, ynok_31, w32c_0, w32c_1, w32c_2, w32c_3, w32c_4, w32c_5, w32c_6, w32c_7, w32c_8, w32c_9, w32c_10, w32c_11, w32c_12, w32c_13, w32c_14, w32c_m1, w32c_m2, w32c_118, Int.reduceAdd, Int.reduceSub, Int.reduceMul, yput_s, yput_n, znl_n, znl_0, znl_1, znl_4, ysum_n, ysum_0, ysum_1, ysum_4, true_and, and_true, Nat.reduceAdd, Nat.reduceLeDiff, true_implies, eq_self, true_or, or_true, or_false, false_or, not_true_eq_false, not_false_eq_true, false_implies, implies_true, yset_s, yset_o, yset_d, ne_eq, Nat.reduceEqDiff, Int.reduceToNat, Int.reduceEq, Int.reduceLE, Int.reduceLT, Classical.not_not, Nat.reduceLT, ↓zvk_s, ↓zvk_n, ↓s_135_0, ↓s_135_1_57, ↓s_135_1_64, ↓s_135_4, ↓s_135_5, ↓s_135_8, ↓s_135_9_57, ↓s_135_9_64, ↓s_135_12, ↓s_135_13, ↓s_135_16, ↓s_135_17_57, ↓s_135_17_64, ↓s_135_20, ↓s_135_21, ↓s_135_24, ↓s_135_25_2, ↓s_135_25_28, ↓s_135_28, ↓s_135_29, ↓s_135_30_57, ↓s_135_30_64, ↓s_135_33, ↓s_135_34, ↓s_135_35_2, ↓s_135_35_28, ↓s_135_38_3, ↓s_135_38_5, ↓s_135_38_7, ↓s_135_38_9, ↓s_135_38_29, ↓s_135_38_31, ↓s_135_38_33, ↓s_135_38_35, ↓s_135_41, ↓s_135_44, ↓s_135_45_2, ↓s_135_45_28, ↓s_135_48, ↓s_135_49, ↓s_135_50_57, ↓s_135_50_64, ↓s_135_53, ↓s_135_54, ↓s_135_55_2, ↓s_135_55_28, ↓s_135_58_3, ↓s_135_58_5, ↓s_135_58_7, ↓s_135_58_9, ↓s_135_58_29, ↓s_135_58_31, ↓s_135_58_33, ↓s_135_58_35, ↓s_135_61, ↓s_135_64, ↓s_135_65, ↓s_135_68, ↓s_135_69, ↓s_135_70_57, ↓s_135_70_64, ↓s_135_73, ↓s_135_74, ↓s_135_75_2, ↓s_135_75_28, ↓s_135_78_57, ↓s_135_78_64, ↓s_135_81, ↓s_135_82, ↓s_135_83_57, ↓s_135_83_64, ↓s_135_86, ↓s_135_87, ↓s_135_88_57, ↓s_135_88_64, ↓s_135_91, ↓s_135_92, ↓s_135_93_57, ↓s_135_93_64, ↓s_135_96, ↓s_135_97, ↓s_135_98_2, ↓s_135_98_28, ↓s_135_101_57, ↓s_135_101_64, ↓s_135_104, zio_64, zar_65, zia_65, zln_65, zit_65, zar_66, zia_66, zln_66, zit_66, zar_67, zia_67, zln_67, zit_67, zio_2, zio_3, zio_5, zio_7, zio_9, zar_12, zia_12, zln_12, zit_12, zar_21, zia_21, zln_21, zit_21, zio_28, zio_29, zio_31, zio_33, zio_35, zar_38, zia_38, zln_38, zit_38, zar_47, zia_47, zln_47, zit_47, zio_57, zar_58, zia_58, zln_58, zit_58, zar_59, zia_59, zln_59, zit_59, zar_60, zia_60, zln_60, zit_60]
  refine g_fill hE (by omega) (z := 59) (L := 6) (by decide) (by decide) (by decide) (by decide) (fun m3 F3 V3 => ?_)
  refine zgk_n hE xmo_135 90 [] ?_
  simp only [ynok_30, ynok_31, w32c_0, w32c_1, w32c_2, w32c_3, w32c_4, w32c_5, w32c_6, w32c_7, w32c_8, w32c_9, w32c_10, w32c_11, w32c_12, w32c_13, w32c_14, w32c_m1, w32c_m2, w32c_118, Int.reduceAdd, Int.reduceSub, Int.reduceMul, yput_s, yput_n, znl_n, znl_0, znl_1, znl_4, ysum_n, ysum_0, ysum_1, ysum_4, true_and, and_true, Nat.reduceAdd, Nat.reduceLeDiff, true_implies, eq_self, true_or, or_true, or_false, false_or, not_true_eq_false, not_false_eq_true, false_implies, implies_true, yset_s, yset_o, yset_d, ne_eq, Nat.reduceEqDiff, Int.reduceToNat, Int.reduceEq, Int.reduceLE, Int.reduceLT, Classical.not_not, Nat.reduceLT, ↓zvk_s, ↓zvk_n, ↓s_135_0, ↓s_135_1_57, ↓s_135_1_64, ↓s_135_4, ↓s_135_5, ↓s_135_8, ↓s_135_9_57, ↓s_135_9_64, ↓s_135_12, ↓s_135_13, ↓s_135_16, ↓s_135_17_57, ↓s_135_17_64, ↓s_135_20, ↓s_135_21, ↓s_135_24, ↓s_135_25_2, ↓s_135_25_28, ↓s_135_28, ↓s_135_29, ↓s_135_30_57, ↓s_135_30_64, ↓s_135_33, ↓s_135_34, ↓s_135_35_2, ↓s_135_35_28, ↓s_135_38_3, ↓s_135_38_5, ↓s_135_38_7, ↓s_135_38_9, ↓s_135_38_29, ↓s_135_38_31, ↓s_135_38_33, ↓s_135_38_35, ↓s_135_41, ↓s_135_44, ↓s_135_45_2, ↓s_135_45_28, ↓s_135_48, ↓s_135_49, ↓s_135_50_57, ↓s_135_50_64, ↓s_135_53, ↓s_135_54, ↓s_135_55_2, ↓s_135_55_28, ↓s_135_58_3, ↓s_135_58_5, ↓s_135_58_7, ↓s_135_58_9, ↓s_135_58_29, ↓s_135_58_31, ↓s_135_58_33, ↓s_135_58_35, ↓s_135_61, ↓s_135_64, ↓s_135_65, ↓s_135_68, ↓s_135_69, ↓s_135_70_57, ↓s_135_70_64, ↓s_135_73, ↓s_135_74, ↓s_135_75_2, ↓s_135_75_28, ↓s_135_78_57, ↓s_135_78_64, ↓s_135_81, ↓s_135_82, ↓s_135_83_57, ↓s_135_83_64, ↓s_135_86, ↓s_135_87, ↓s_135_88_57, ↓s_135_88_64, ↓s_135_91, ↓s_135_92, ↓s_135_93_57, ↓s_135_93_64, ↓s_135_96, ↓s_135_97, ↓s_135_98_2, ↓s_135_98_28, ↓s_135_101_57, ↓s_135_101_64, ↓s_135_104, zio_64, zar_65, zia_65, zln_65, zit_65, zar_66, zia_66, zln_66, zit_66, zar_67, zia_67, zln_67, zit_67, zio_2, zio_3, zio_5, zio_7, zio_9, zar_12, zia_12, zln_12, zit_12, zar_21, zia_21, zln_21, zit_21, zio_28, zio_29, zio_31, zio_33, zio_35, zar_38, zia_38, zln_38, zit_38, zar_47, zia_47, zln_47, zit_47, zio_57, zar_58, zia_58, zln_58, zit_58, zar_59, zia_59, zln_59, zit_59, zar_60, zia_60, zln_60, zit_60]
  have F1 : ∀ i j, i ≠ 58 → m1 i j = mem i j := F1
  have F2 : ∀ i j, i ≠ 60 → m2 i j = m1 i j := F2
  have F3 : ∀ i j, i ≠ 59 → m3 i j = m2 i j := F3
  have V1 : ∀ j, j < 3 → m1 58 j = 0 := V1
  have V2 : ∀ j, j < 3 → m2 60 j = 0 := V2
  have V3 : ∀ j, j < 6 → m3 59 j = 0 := V3
  have up3 : ∀ i j, i ≠ 58 → i ≠ 59 → i ≠ 60 → m3 i j = mem i j := fun i j a b c => by rw [F3 i j b, F2 i j c, F1 i j a]
  have e3 : m3 3 1 = mem 3 1 := up3 3 1 (by decide) (by decide) (by decide)
  have c0 : ∀ i j, i ≠ 58 → ycpy m3 12 0 58 0 (w32 (m3 3 1)).toNat i j = m3 i j := fun i j h => ycp_o h
  have e9 : ycpy m3 12 0 58 0 (w32 (m3 3 1)).toNat 9 1 = mem 9 1 := by rw [c0 9 1 (by decide), up3 9 1 (by decide) (by decide) (by decide)]
  rw [e9, e3]
  rw [e3] at c0
  refine ⟨h3.1, by omega, by omega, h9.1, by omega, by omega, gx_dall hE (by omega) (fun m4 F4 V4 => ?_)⟩
  have c1 : ∀ i j, i ≠ 58 → i ≠ 60 → ycpy (ycpy m3 12 0 58 0 (w32 (mem 3 1)).toNat) 21 0 60 0 (w32 (mem 9 1)).toNat i j = m3 i j := fun i j a b => by
    rw [ycp_o b, c0 i j a]
  have t58 : ∀ j, j < 3 → ycpy (ycpy m3 12 0 58 0 (w32 (mem 3 1)).toNat) 21 0 60 0 (w32 (mem 9 1)).toNat 58 j = if (j : Int) < w32 (mem 3 1) then mem 12 j else 0 := fun j hj => by
    rw [ycp_o (by decide), ycp_s]
    by_cases h : (j : Int) < w32 (mem 3 1)
    · rw [if_pos ⟨Nat.zero_le _, by omega⟩, if_pos h, up3 12 _ (by decide) (by decide) (by decide), show 0 + (j - 0) = j by omega]
    · rw [if_neg (by omega), if_neg h, F3 58 j (by decide), F2 58 j (by decide)]
      exact V1 j hj
  have t60 : ∀ j, j < 3 → ycpy (ycpy m3 12 0 58 0 (w32 (mem 3 1)).toNat) 21 0 60 0 (w32 (mem 9 1)).toNat 60 j = if (j : Int) < w32 (mem 9 1) then mem 21 j else 0 := fun j hj => by
    rw [ycp_s]
    by_cases h : (j : Int) < w32 (mem 9 1)
    · rw [if_pos ⟨Nat.zero_le _, by omega⟩, if_pos h, c0 21 _ (by decide), up3 21 _ (by decide) (by decide) (by decide), show 0 + (j - 0) = j by omega]
    · rw [if_neg (by omega), if_neg h, c0 60 j (by decide), F3 60 j (by decide)]
      exact V2 j hj
  revert c1 t58 t60 F4
  generalize ycpy (ycpy m3 12 0 58 0 (w32 (mem 3 1)).toNat) 21 0 60 0 (w32 (mem 9 1)).toNat = B
  intro F4 c1 t58 t60
  refine zgk_n hE xmo_135 90 [] ?_
  simp only [ynok_30, ynok_31, w32c_0, w32c_1, w32c_2, w32c_3, w32c_4, w32c_5, w32c_6, w32c_7, w32c_8, w32c_9, w32c_10, w32c_11, w32c_12, w32c_13, w32c_14, w32c_m1, w32c_m2, w32c_118, Int.reduceAdd, Int.reduceSub, Int.reduceMul, yput_s, yput_n, znl_n, znl_0, znl_1, znl_4, ysum_n, ysum_0, ysum_1, ysum_4, true_and, and_true, Nat.reduceAdd, Nat.reduceLeDiff, true_implies, eq_self, true_or, or_true, or_false, false_or, not_true_eq_false, not_false_eq_true, false_implies, implies_true, yset_s, yset_o, yset_d, ne_eq, Nat.reduceEqDiff, Int.reduceToNat, Int.reduceEq, Int.reduceLE, Int.reduceLT, Classical.not_not, Nat.reduceLT, ↓zvk_s, ↓zvk_n, ↓s_135_0, ↓s_135_1_57, ↓s_135_1_64, ↓s_135_4, ↓s_135_5, ↓s_135_8, ↓s_135_9_57, ↓s_135_9_64, ↓s_135_12, ↓s_135_13, ↓s_135_16, ↓s_135_17_57, ↓s_135_17_64, ↓s_135_20, ↓s_135_21, ↓s_135_24, ↓s_135_25_2, ↓s_135_25_28, ↓s_135_28, ↓s_135_29, ↓s_135_30_57, ↓s_135_30_64, ↓s_135_33, ↓s_135_34, ↓s_135_35_2, ↓s_135_35_28, ↓s_135_38_3, ↓s_135_38_5, ↓s_135_38_7, ↓s_135_38_9, ↓s_135_38_29, ↓s_135_38_31, ↓s_135_38_33, ↓s_135_38_35, ↓s_135_41, ↓s_135_44, ↓s_135_45_2, ↓s_135_45_28, ↓s_135_48, ↓s_135_49, ↓s_135_50_57, ↓s_135_50_64, ↓s_135_53, ↓s_135_54, ↓s_135_55_2, ↓s_135_55_28, ↓s_135_58_3, ↓s_135_58_5, ↓s_135_58_7, ↓s_135_58_9, ↓s_135_58_29, ↓s_135_58_31, ↓s_135_58_33, ↓s_135_58_35, ↓s_135_61, ↓s_135_64, ↓s_135_65, ↓s_135_68, ↓s_135_69, ↓s_135_70_57, ↓s_135_70_64, ↓s_135_73, ↓s_135_74, ↓s_135_75_2, ↓s_135_75_28, ↓s_135_78_57, ↓s_135_78_64, ↓s_135_81, ↓s_135_82, ↓s_135_83_57, ↓s_135_83_64, ↓s_135_86, ↓s_135_87, ↓s_135_88_57, ↓s_135_88_64, ↓s_135_91, ↓s_135_92, ↓s_135_93_57, ↓s_135_93_64, ↓s_135_96, ↓s_135_97, ↓s_135_98_2, ↓s_135_98_28, ↓s_135_101_57, ↓s_135_101_64, ↓s_135_104, zio_64, zar_65, zia_65, zln_65, zit_65, zar_66, zia_66, zln_66, zit_66, zar_67, zia_67, zln_67, zit_67, zio_2, zio_3, zio_5, zio_7, zio_9, zar_12, zia_12, zln_12, zit_12, zar_21, zia_21, zln_21, zit_21, zio_28, zio_29, zio_31, zio_33, zio_35, zar_38, zia_38, zln_38, zit_38, zar_47, zia_47, zln_47, zit_47, zio_57, zar_58, zia_58, zln_58, zit_58, zar_59, zia_59, zln_59, zit_59, zar_60, zia_60, zln_60, zit_60]
  have o4 : ∀ i j, i ≠ 61 → i ≠ 57 → m4 i j = B i j := fun i j a b => by rw [F4 i j a, yset_o b]
  have o5 : ∀ i j, i < 57 ∨ 61 < i → m4 i j = mem i j := fun i j h => by rw [o4 i j (by omega) (by omega), c1 i j (by omega) (by omega), up3 i j (by omega) (by omega) (by omega)]
  have w6 : ∀ x, w32 (yset (yset (yset (yset (yset (yset m4 57 7 0) 57 8 (m4 2 17)) 57 9 0) 57 10 0) 57 11 (-1)) 57 12 x 57 6) = 0 := fun x => by
    rw [yset_d (by decide), yset_d (by decide), yset_d (by decide), yset_d (by decide), yset_d (by decide), yset_d (by decide), F4 57 6 (by decide), yset_s]
    exact w32c_0
  have oo : ∀ x i j, i ≠ 57 → yset (yset (yset (yset (yset (yset m4 57 7 0) 57 8 (m4 2 17)) 57 9 0) 57 10 0) 57 11 (-1)) 57 12 x i j = m4 i j := fun x i j h => by rw [yset_o h, yset_o h, yset_o h, yset_o h, yset_o h, yset_o h]
  refine hQ _ (fun i j hi => by rw [oo _ i j (by omega), o5 i j hi]) ⟨⟨w6 _, ?_, ?_, ?_, ?_, ?_⟩, fun j hj => ?_, fun j hj => ?_, fun j hj => ?_, fun j hj => ?_⟩
  · rw [yset_d (by decide), yset_d (by decide), yset_d (by decide), yset_d (by decide), yset_d (by decide), yset_s]; exact w32c_0
  · rw [yset_d (by decide), yset_d (by decide), yset_d (by decide), yset_d (by decide), yset_s, oo _ 2 17 (by decide)]
  · rw [yset_d (by decide), yset_d (by decide), yset_d (by decide), yset_s]; exact w32c_0
  · rw [yset_d (by decide), yset_d (by decide), yset_s]; exact w32c_0
  · rw [yset_s, oo _ 2 18 (by decide)]
  · rw [oo _ 58 j (by decide), o4 58 j (by decide) (by decide), t58 j hj, oo _ 3 1 (by decide), o5 3 1 (by decide), oo _ 12 j (by decide), o5 12 j (by decide)]
    split
    · rfl
    · exact w32c_0
  · rw [oo _ 59 j (by decide), o4 59 j (by decide) (by decide), c1 59 j (by decide) (by decide), V3 j hj]; exact w32c_0
  · rw [oo _ 60 j (by decide), o4 60 j (by decide) (by decide), t60 j hj, oo _ 9 1 (by decide), o5 9 1 (by decide), oo _ 21 j (by decide), o5 21 j (by decide)]
    split
    · rfl
    · exact w32c_0
  · rw [oo _ 61 j (by decide), V4 j hj]; exact w32c_m1
def XWQ (mem : yMem) (x : Int) (m : yMem) : Prop := ((¬ (0 ≤ w32 x ∧ w32 x ≤ w32 (mem 0 11)) ∨ ¬ w32 (m 0 12) = 0) → ∀ i j, (57 ≤ i ∧ i ≤ 71) ∨ (i = 0 ∧ j = 14) → m i j = mem i j) ∧ ((0 ≤ w32 x ∧ w32 x ≤ w32 (mem 0 11)) → w32 (m 0 12) = 0 → cBg m ∧ (∀ i j, 62 ≤ i → i ≤ 70 → m i j = mem i j) ∧ w32 (m 0 14) = 0 ∧ w32 (m 71 1) = 0)
theorem wno {w : List (Nat × Nat)} (h : w.all (fun q => Nat.ble 2 q.1 && Nat.ble q.1 26) = true) {i j : Nat} (hi : i < 2 ∨ 26 < i) : amod w i j = false := by
  cases hm : amod w i j with
  | false => rfl
  | true =>
    obtain ⟨q, q1, q2, q3⟩ := amod_ex hm
    have h2 := List.all_eq_true.mp h q q1
    rw [q2] at h2
    simp only [Bool.and_eq_true, Nat.ble_eq] at h2
    omega
theorem x_wtext (hE : yEok E) (hm : yman Om) {D : Nat} (hD : 10 ≤ D) {x : Int} (hG : aGok mem) (hO : Om mem) (hQ : ∀ r m, XWQ mem x m → Q (some (0, r)) m) : yCon E D xm_41 [(1, 0), (0, x)] mem Q := by
  obtain ⟨d, rfl⟩ := Nat.exists_eq_add_of_le' hD
  refine e_41 ?_
  refine zvc_ok hE 90 zc_41 _ _ _ _ _ _ _ xmo_41 ?_
  have g11 := ag hG 0 11 ag_0_11
  have f12 : ¬ (0 ≤ w32 x ∧ w32 x ≤ w32 (mem 0 11)) → zG E (d + 9) xm_41 12 [some (1, 0), some (0, x), none] [] mem Q := fun hx => by
    refine zgo_ok (n := 60) hE xmo_41 (cs := zc_41) ?_
    simp only [ynok_30, ynok_31, w32c_0, w32c_1, w32c_2, w32c_3, w32c_4, w32c_5, w32c_6, w32c_7, w32c_8, w32c_9, w32c_10, w32c_11, w32c_12, w32c_13, w32c_14, w32c_m1, w32c_m2, w32c_118, Int.reduceAdd, Int.reduceSub, Int.reduceMul, yput_s, yput_n, znl_n, znl_0, znl_1, znl_4, ysum_n, ysum_0, ysum_1, ysum_4, true_and, and_true, Nat.reduceAdd, Nat.reduceLeDiff, true_implies, eq_self, true_or, or_true, or_false, false_or, not_true_eq_false, not_false_eq_true, false_implies, implies_true, yset_s, yset_o, yset_d, ne_eq, Nat.reduceEqDiff, Int.reduceToNat, Int.reduceEq, Int.reduceLE, Int.reduceLT, Classical.not_not, Nat.reduceLT, ↓zvk_s, ↓zvk_n, ↓s_41_0, ↓s_41_1, ↓s_41_4, ↓s_41_5, ↓s_41_6, ↓s_41_9, ↓g_41_12, ↓k_41_12, ↓s_41_14, ↓g_41_15, ↓k_41_15, ↓s_41_16, ↓s_41_19, ↓s_41_20, ↓s_41_23n, ↓s_41_23i, ↓s_41_23p, ↓s_41_24, ↓s_41_25, ↓s_41_26, ↓s_41_29, ↓s_41_30, ↓s_41_31, ↓s_41_34, ↓s_41_37, ↓s_41_40, ↓s_41_43, ↓s_41_44, ↓s_41_45, ↓s_41_48, ↓s_41_51, ↓s_41_54, ↓s_41_57, ↓s_41_58, ↓s_41_61, ↓s_41_64, ↓s_41_65, ↓s_41_66, ↓s_41_67, ↓s_41_70, ↓s_41_71, ↓s_41_74, ↓s_41_77, ↓s_41_78, ↓s_41_81, ↓s_41_82, ↓s_41_85, ↓s_41_88, ↓s_41_89, ↓s_41_92, ↓s_41_93, ↓s_41_96, ↓s_41_97, ↓s_41_98, ↓s_41_101, ↓s_41_102, ↓s_41_105, ↓s_41_106, ↓s_41_109, ↓s_41_110, zio_0, zio_64, zio_2, zio_71, zio_76, zio_54, zio_55, zio_57, zio_28]
    exact hQ _ _ ⟨fun _ _ _ _ => rfl, fun z => absurd z hx⟩
  have f15 : 0 ≤ w32 x → w32 x ≤ w32 (mem 0 11) → zG E (d + 9) xm_41 15 [some (1, 0), some (0, x), none] [] mem Q := fun x0 x1 => by
    refine zgo_ok (n := 60) hE xmo_41 (cs := zc_41) ?_
    simp only [ynok_30, ynok_31, w32c_0, w32c_1, w32c_2, w32c_3, w32c_4, w32c_5, w32c_6, w32c_7, w32c_8, w32c_9, w32c_10, w32c_11, w32c_12, w32c_13, w32c_14, w32c_m1, w32c_m2, w32c_118, Int.reduceAdd, Int.reduceSub, Int.reduceMul, yput_s, yput_n, znl_n, znl_0, znl_1, znl_4, ysum_n, ysum_0, ysum_1, ysum_4, true_and, and_true, Nat.reduceAdd, Nat.reduceLeDiff, true_implies, eq_self, true_or, or_true, or_false, false_or, not_true_eq_false, not_false_eq_true, false_implies, implies_true, yset_s, yset_o, yset_d, ne_eq, Nat.reduceEqDiff, Int.reduceToNat, Int.reduceEq, Int.reduceLE, Int.reduceLT, Classical.not_not, Nat.reduceLT, ↓zvk_s, ↓zvk_n, ↓s_41_0, ↓s_41_1, ↓s_41_4, ↓s_41_5, ↓s_41_6, ↓s_41_9, ↓g_41_12, ↓k_41_12, ↓s_41_14, ↓g_41_15, ↓k_41_15, ↓s_41_16, ↓s_41_19, ↓s_41_20, ↓s_41_23n, ↓s_41_23i, ↓s_41_23p, ↓s_41_24, ↓s_41_25, ↓s_41_26, ↓s_41_29, ↓s_41_30, ↓s_41_31, ↓s_41_34, ↓s_41_37, ↓s_41_40, ↓s_41_43, ↓s_41_44, ↓s_41_45, ↓s_41_48, ↓s_41_51, ↓s_41_54, ↓s_41_57, ↓s_41_58, ↓s_41_61, ↓s_41_64, ↓s_41_65, ↓s_41_66, ↓s_41_67, ↓s_41_70, ↓s_41_71, ↓s_41_74, ↓s_41_77, ↓s_41_78, ↓s_41_81, ↓s_41_82, ↓s_41_85, ↓s_41_88, ↓s_41_89, ↓s_41_92, ↓s_41_93, ↓s_41_96, ↓s_41_97, ↓s_41_98, ↓s_41_101, ↓s_41_102, ↓s_41_105, ↓s_41_106, ↓s_41_109, ↓s_41_110, zio_0, zio_64, zio_2, zio_71, zio_76, zio_54, zio_55, zio_57, zio_28]
    refine as_153 yoc_Om hm E hE _ (show 8 ≤ _ by omega) _ rfl _ _ _ ⟨rfl, ⟨rfl, x0, by show w32 x ≤ 800; omega⟩, trivial⟩ hG hO (fun q hq => by cases hq) (fun r m1 he => ?_)
    have R1 := CQ_of he (by decide +kernel)
    have fr1 : ∀ i j, (57 ≤ i ∧ i ≤ 71) ∨ (i = 0 ∧ j = 14) → m1 i j = mem i j := fun i j h => by
      by_cases e : i = 57 ∧ j = 11
      · obtain ⟨rfl, rfl⟩ := e
        exact he.2.2.2.1 57 11 rfl
      · exact he.2.2.2.1 i j (tp3_ok (by decide +kernel) (by unfold tpP; omega))
    obtain ⟨k1, -⟩ := he
    match r, k1 with
    | none, k1 => exact absurd (show (3 : Nat) = 99 from k1) (by decide)
    | some (t, y), k1 =>
      have ht : t = 0 := k1.1
      subst ht
      refine zgk_s hE xmo_41 60 zc_41 ?_
      simp only [ynok_30, ynok_31, w32c_0, w32c_1, w32c_2, w32c_3, w32c_4, w32c_5, w32c_6, w32c_7, w32c_8, w32c_9, w32c_10, w32c_11, w32c_12, w32c_13, w32c_14, w32c_m1, w32c_m2, w32c_118, Int.reduceAdd, Int.reduceSub, Int.reduceMul, yput_s, yput_n, znl_n, znl_0, znl_1, znl_4, ysum_n, ysum_0, ysum_1, ysum_4, true_and, and_true, Nat.reduceAdd, Nat.reduceLeDiff, true_implies, eq_self, true_or, or_true, or_false, false_or, not_true_eq_false, not_false_eq_true, false_implies, implies_true, yset_s, yset_o, yset_d, ne_eq, Nat.reduceEqDiff, Int.reduceToNat, Int.reduceEq, Int.reduceLE, Int.reduceLT, Classical.not_not, Nat.reduceLT, ↓zvk_s, ↓zvk_n, ↓s_41_0, ↓s_41_1, ↓s_41_4, ↓s_41_5, ↓s_41_6, ↓s_41_9, ↓g_41_12, ↓k_41_12, ↓s_41_14, ↓g_41_15, ↓k_41_15, ↓s_41_16, ↓s_41_19, ↓s_41_20, ↓s_41_23n, ↓s_41_23i, ↓s_41_23p, ↓s_41_24, ↓s_41_25, ↓s_41_26, ↓s_41_29, ↓s_41_30, ↓s_41_31, ↓s_41_34, ↓s_41_37, ↓s_41_40, ↓s_41_43, ↓s_41_44, ↓s_41_45, ↓s_41_48, ↓s_41_51, ↓s_41_54, ↓s_41_57, ↓s_41_58, ↓s_41_61, ↓s_41_64, ↓s_41_65, ↓s_41_66, ↓s_41_67, ↓s_41_70, ↓s_41_71, ↓s_41_74, ↓s_41_77, ↓s_41_78, ↓s_41_81, ↓s_41_82, ↓s_41_85, ↓s_41_88, ↓s_41_89, ↓s_41_92, ↓s_41_93, ↓s_41_96, ↓s_41_97, ↓s_41_98, ↓s_41_101, ↓s_41_102, ↓s_41_105, ↓s_41_106, ↓s_41_109, ↓s_41_110, zio_0, zio_64, zio_2, zio_71, zio_76, zio_54, zio_55, zio_57, zio_28]
      have a1 : aGok (yset m1 0 11 0) := aGok_set R1.1 (by rw [ag_0_11]; decide)
      have o1 : Om (yset m1 0 11 0) := yoc_Om m1 _ (fun i j hi => yset_o (fun e => by subst e; exact absurd hi (by decide))) R1.2.1
      have S1 := CQ_set a1 o1 (i := 0) (j := 12) (x := m1 55 7) (by decide) (by decide) (ag_32 ag_0_12)
      have S2 := CQ_tr S1 (CQ_set S1.1 S1.2.1 (i := 0) (j := 13) (x := m1 55 8) (by decide) (by decide) (ag_32 ag_0_13))
      have fr2 : ∀ i j, (57 ≤ i ∧ i ≤ 71) ∨ (i = 0 ∧ j = 14) → yset (yset (yset m1 0 11 0) 0 12 (m1 55 7)) 0 13 (m1 55 8) i j = mem i j := fun i j h => by
        rcases h with h | ⟨rfl, rfl⟩
        · rw [yset_o (by omega), yset_o (by omega), yset_o (by omega)]
          exact fr1 i j (Or.inl h)
        · rw [yset_d (by decide), yset_d (by decide), yset_d (by decide)]
          exact fr1 0 14 (Or.inr ⟨rfl, rfl⟩)
      have v12 : yset (yset (yset m1 0 11 0) 0 12 (m1 55 7)) 0 13 (m1 55 8) 0 12 = m1 55 7 := by rw [yset_d (by decide), yset_s]
      refine ⟨fun h7 => ?_, fun h7 => hQ _ _ ⟨fun _ => fr2, fun _ z => absurd (by rw [v12] at z; exact z) h7⟩⟩
      refine abs_take yoc_Om hm E hE _ (show 2 ≤ _ by omega) _ rfl _ _ _ ⟨rfl, rfl, trivial⟩ S2.1 S2.2.1 (fun q hq => by cases hq) (fun r m2 he => ?_)
      have R2 := CQ_of he (by decide +kernel)
      have fr3 : ∀ i j, i < 2 ∨ 26 < i → m2 i j = yset (yset (yset m1 0 11 0) 0 12 (m1 55 7)) 0 13 (m1 55 8) i j := fun i j h => he.2.2.2.1 i j (wno (by decide +kernel) h)
      obtain ⟨k1, -⟩ := he
      match r, k1 with
      | some y, k1 => exact absurd k1 (fun h => by cases h)
      | none, _ =>
        refine zgk_n hE xmo_41 60 zc_41 ?_
        simp only [ynok_30, ynok_31, w32c_0, w32c_1, w32c_2, w32c_3, w32c_4, w32c_5, w32c_6, w32c_7, w32c_8, w32c_9, w32c_10, w32c_11, w32c_12, w32c_13, w32c_14, w32c_m1, w32c_m2, w32c_118, Int.reduceAdd, Int.reduceSub, Int.reduceMul, yput_s, yput_n, znl_n, znl_0, znl_1, znl_4, ysum_n, ysum_0, ysum_1, ysum_4, true_and, and_true, Nat.reduceAdd, Nat.reduceLeDiff, true_implies, eq_self, true_or, or_true, or_false, false_or, not_true_eq_false, not_false_eq_true, false_implies, implies_true, yset_s, yset_o, yset_d, ne_eq, Nat.reduceEqDiff, Int.reduceToNat, Int.reduceEq, Int.reduceLE, Int.reduceLT, Classical.not_not, Nat.reduceLT, ↓zvk_s, ↓zvk_n, ↓s_41_0, ↓s_41_1, ↓s_41_4, ↓s_41_5, ↓s_41_6, ↓s_41_9, ↓g_41_12, ↓k_41_12, ↓s_41_14, ↓g_41_15, ↓k_41_15, ↓s_41_16, ↓s_41_19, ↓s_41_20, ↓s_41_23n, ↓s_41_23i, ↓s_41_23p, ↓s_41_24, ↓s_41_25, ↓s_41_26, ↓s_41_29, ↓s_41_30, ↓s_41_31, ↓s_41_34, ↓s_41_37, ↓s_41_40, ↓s_41_43, ↓s_41_44, ↓s_41_45, ↓s_41_48, ↓s_41_51, ↓s_41_54, ↓s_41_57, ↓s_41_58, ↓s_41_61, ↓s_41_64, ↓s_41_65, ↓s_41_66, ↓s_41_67, ↓s_41_70, ↓s_41_71, ↓s_41_74, ↓s_41_77, ↓s_41_78, ↓s_41_81, ↓s_41_82, ↓s_41_85, ↓s_41_88, ↓s_41_89, ↓s_41_92, ↓s_41_93, ↓s_41_96, ↓s_41_97, ↓s_41_98, ↓s_41_101, ↓s_41_102, ↓s_41_105, ↓s_41_106, ↓s_41_109, ↓s_41_110, zio_0, zio_64, zio_2, zio_71, zio_76, zio_54, zio_55, zio_57, zio_28]
        refine gx_begin hE (by omega) (ag R2.1 3 1 ag_3_1) (ag R2.1 9 1 ag_9_1) (fun m3 F3 B3 => ?_)
        refine zgk_n hE xmo_41 60 zc_41 ?_
        simp only [ynok_30, ynok_31, w32c_0, w32c_1, w32c_2, w32c_3, w32c_4, w32c_5, w32c_6, w32c_7, w32c_8, w32c_9, w32c_10, w32c_11, w32c_12, w32c_13, w32c_14, w32c_m1, w32c_m2, w32c_118, Int.reduceAdd, Int.reduceSub, Int.reduceMul, yput_s, yput_n, znl_n, znl_0, znl_1, znl_4, ysum_n, ysum_0, ysum_1, ysum_4, true_and, and_true, Nat.reduceAdd, Nat.reduceLeDiff, true_implies, eq_self, true_or, or_true, or_false, false_or, not_true_eq_false, not_false_eq_true, false_implies, implies_true, yset_s, yset_o, yset_d, ne_eq, Nat.reduceEqDiff, Int.reduceToNat, Int.reduceEq, Int.reduceLE, Int.reduceLT, Classical.not_not, Nat.reduceLT, ↓zvk_s, ↓zvk_n, ↓s_41_0, ↓s_41_1, ↓s_41_4, ↓s_41_5, ↓s_41_6, ↓s_41_9, ↓g_41_12, ↓k_41_12, ↓s_41_14, ↓g_41_15, ↓k_41_15, ↓s_41_16, ↓s_41_19, ↓s_41_20, ↓s_41_23n, ↓s_41_23i, ↓s_41_23p, ↓s_41_24, ↓s_41_25, ↓s_41_26, ↓s_41_29, ↓s_41_30, ↓s_41_31, ↓s_41_34, ↓s_41_37, ↓s_41_40, ↓s_41_43, ↓s_41_44, ↓s_41_45, ↓s_41_48, ↓s_41_51, ↓s_41_54, ↓s_41_57, ↓s_41_58, ↓s_41_61, ↓s_41_64, ↓s_41_65, ↓s_41_66, ↓s_41_67, ↓s_41_70, ↓s_41_71, ↓s_41_74, ↓s_41_77, ↓s_41_78, ↓s_41_81, ↓s_41_82, ↓s_41_85, ↓s_41_88, ↓s_41_89, ↓s_41_92, ↓s_41_93, ↓s_41_96, ↓s_41_97, ↓s_41_98, ↓s_41_101, ↓s_41_102, ↓s_41_105, ↓s_41_106, ↓s_41_109, ↓s_41_110, zio_0, zio_64, zio_2, zio_71, zio_76, zio_54, zio_55, zio_57, zio_28]
        have up : ∀ i j, ¬ (i = 71 ∧ j = 1) → ¬ (i = 0 ∧ j = 14) → ¬ (i = 76 ∧ j = 10) → yset (yset (yset m3 71 1 0) 0 14 0) 76 10 0 i j = m3 i j := fun i j h1 h2 h3 => by
          simp only [yset_a]
          repeat' split
          all_goals first | rfl | omega
        have e12 : w32 (yset (yset (yset m3 71 1 0) 0 14 0) 76 10 0 0 12) = 0 := by rw [up 0 12 (by omega) (by omega) (by omega), F3 0 12 (by omega), fr3 0 12 (by omega), v12]; exact h7
        refine hQ _ _ ⟨fun z => z.elim (fun z => absurd ⟨x0, x1⟩ z) (fun z => absurd e12 z), fun _ _ => ⟨cBg_q B3 (fun i j hi hr => ?_), fun i j i1 i2 => ?_, ?_, ?_⟩⟩
        · rw [up i j (by omega) (by omega) (by omega)]
        · rw [up i j (by omega) (by omega) (by omega), F3 i j (by omega), fr3 i j (by omega)]
          exact fr2 i j (by omega)
        · rw [yset_o (by decide), yset_s]; exact w32c_0
        · rw [yset_o (by decide), yset_o (by decide), yset_s]; exact w32c_0
  simp only [ynok_30, ynok_31, w32c_0, w32c_1, w32c_2, w32c_3, w32c_4, w32c_5, w32c_6, w32c_7, w32c_8, w32c_9, w32c_10, w32c_11, w32c_12, w32c_13, w32c_14, w32c_m1, w32c_m2, w32c_118, Int.reduceAdd, Int.reduceSub, Int.reduceMul, yput_s, yput_n, znl_n, znl_0, znl_1, znl_4, ysum_n, ysum_0, ysum_1, ysum_4, true_and, and_true, Nat.reduceAdd, Nat.reduceLeDiff, true_implies, eq_self, true_or, or_true, or_false, false_or, not_true_eq_false, not_false_eq_true, false_implies, implies_true, yset_s, yset_o, yset_d, ne_eq, Nat.reduceEqDiff, Int.reduceToNat, Int.reduceEq, Int.reduceLE, Int.reduceLT, Classical.not_not, Nat.reduceLT, ↓zvk_s, ↓zvk_n, ↓s_41_0, ↓s_41_1, ↓s_41_4, ↓s_41_5, ↓s_41_6, ↓s_41_9, ↓g_41_12, ↓k_41_12, ↓s_41_14, ↓g_41_15, ↓k_41_15, ↓s_41_16, ↓s_41_19, ↓s_41_20, ↓s_41_23n, ↓s_41_23i, ↓s_41_23p, ↓s_41_24, ↓s_41_25, ↓s_41_26, ↓s_41_29, ↓s_41_30, ↓s_41_31, ↓s_41_34, ↓s_41_37, ↓s_41_40, ↓s_41_43, ↓s_41_44, ↓s_41_45, ↓s_41_48, ↓s_41_51, ↓s_41_54, ↓s_41_57, ↓s_41_58, ↓s_41_61, ↓s_41_64, ↓s_41_65, ↓s_41_66, ↓s_41_67, ↓s_41_70, ↓s_41_71, ↓s_41_74, ↓s_41_77, ↓s_41_78, ↓s_41_81, ↓s_41_82, ↓s_41_85, ↓s_41_88, ↓s_41_89, ↓s_41_92, ↓s_41_93, ↓s_41_96, ↓s_41_97, ↓s_41_98, ↓s_41_101, ↓s_41_102, ↓s_41_105, ↓s_41_106, ↓s_41_109, ↓s_41_110, zio_0, zio_64, zio_2, zio_71, zio_76, zio_54, zio_55, zio_57, zio_28]
  repeat' first | exact f12 (by omega) | exact f15 (by omega) (by omega) | omega | refine And.intro ?_ ?_ | intro _
end XW
end
section
/-! WHAT STANDS BETWEEN CALLS: both objects, alike -/
/-- both keep the same FAULT -/
def LIf (mem : yMem) : Prop := w32 (mem 0 12) = w32 (mem 95 33) ∧ w32 (mem 0 13) = w32 (mem 95 34)
def LI (k : Nat) (mem : yMem) : Prop := aGok mem ∧ Om mem ∧ w32 (mem 0 11) = w32 (mem 95 2) ∧ (∀ j, w32 (mem 1 j) = sBs (w32 (mem 96 j))) ∧ cWd mem ∧ LIf mem ∧ LIw k mem
/-- a call that touches none of it -/
theorem LI_fr {k l : Nat} {mem m : yMem} (hk : k ≤ l) (hI : LI k mem) (hG : aGok m) (hO : Om m) (hf : ∀ i j, tpP i j → m i j = mem i j) : LI l m := by
  obtain ⟨_, _, a3, a4, a5, ⟨a6, a7⟩, a8⟩ := hI
  exact ⟨hG, hO, by rw [hf 0 11 (by unfold tpP; omega), hf 95 2 (by unfold tpP; omega)]; exact a3, fun j => by rw [hf 1 j (Or.inl rfl), hf 96 j (by unfold tpP; omega)]; exact a4 j, fun i hi => by rw [hf 56 i (Or.inr (Or.inl rfl))]; exact a5 i hi, ⟨by rw [hf 0 12 (by unfold tpP; omega), hf 95 33 (by unfold tpP; omega)]; exact a6, by rw [hf 0 13 (by unfold tpP; omega), hf 95 34 (by unfold tpP; omega)]; exact a7⟩, LIw_fr hk a8 (fun i j h => hf i j (tpW_P h))⟩
theorem LI_le {k l : Nat} {mem : yMem} (hk : k ≤ l) (hI : LI k mem) : LI l mem := LI_fr hk hI hI.1 hI.2.1 (fun _ _ _ => rfl)
theorem LI_R {k l : Nat} {mem m : yMem} (hk : k ≤ l) (hI : LI k mem) (h : RQn mem m) : LI l m := LI_fr hk hI h.1 h.2.1 (fun i j hij => by
  by_cases e : i = 95
  · subst e
    exact h.2.2.2 j (by unfold tpP at hij; omega)
  · exact h.2.2.1 i j (by unfold tpP at hij; omega))
theorem LI_a {k l : Nat} {w : List (Nat × Nat)} {mem m : yMem} (hk : k ≤ l) (hI : LI k mem) (hG : aGok m) (hO : Om m) (hF : aFrm w mem m) (hw : tp3 w = true) : LI l m := LI_fr hk hI hG hO (fun i j hij => hF i j (tp3_ok hw hij))
/-- thrown = 0 -/
theorem LI_95 {k l : Nat} {mem : yMem} (hk : k ≤ l) (hI : LI k mem) : LI l (yset mem 95 0 0) := LI_fr hk hI (aGok_set hI.1 (ag_32 ag_95_0)) (yoc_Om mem _ (fun i j hi => yset_o (fun e => by subst e; exact absurd hi (by decide))) hI.2.1) (fun i j h => by
  rw [yset_a]
  split
  · next e => rw [if_neg (by unfold tpP at h; omega)]
  · rfl)
def lav (X : Nat → Int) : Nat → Nat → List yV
  | 0, _ => []
  | n + 1, k => (0, X k) :: lav X n (k + 1)
/-- a call of both: alike answers, LI stays -/
def LX (E : yE) (n : Nat) (M1 M2 : xM) (t : Nat) : Prop := ∀ (X : Nat → Int) (k : Nat) (mem : yMem), k ≤ 3100 → LI k mem → yCon E 1000 M1 ((1, ((0 : Nat) : Int)) :: lav X n 1) mem (fun r mem1 => ∃ x, r = some (t, x) ∧ yCon E 1000 M2 ((1, ((95 : Nat) : Int)) :: lav X n 1) mem1 (fun r2 mem2 => ∃ y, r2 = some (t, y) ∧ (t = 0 → w32 x = w32 y) ∧ (t = 4 → w64 x = w64 y) ∧ LI (k + 6) mem2))
theorem lx_e0 {x y : Int} {P : Prop} (h : w32 x = w32 y) (hp : P) : ((0 : Nat) = 0 → w32 x = w32 y) ∧ ((0 : Nat) = 4 → w64 x = w64 y) ∧ P := ⟨fun _ => h, fun z => absurd z (by decide), hp⟩
/-- feed: both tapes stay alike -/
theorem LI_feed {k l : Nat} (hk : k ≤ l) {mem m1 m2 : yMem} {g : Nat → Int} {r1 r2 : Int} (hI : LI k mem) (F1 : FxX mem g r1 m1) (F2 : FrX m1 g r2 m2) : LI l m2 ∧ w32 r1 = w32 r2 := by
  obtain ⟨hG, hO, hT, hB, hW, ⟨hf1, hf2⟩, hId⟩ := hI
  obtain ⟨⟨a1, a2, a3⟩, a4, a5, a6⟩ := F1
  obtain ⟨⟨b1, b2, b3⟩, b5, b6, b7⟩ := F2
  have e95 : m1 95 2 = mem 95 2 := a2 95 2 (by decide)
  have e0 : m2 0 11 = m1 0 11 := b2 0 11 (by decide) (by decide)
  have e96 : ∀ j, m1 96 j = mem 96 j := fun j => a2 96 j (by decide)
  have e1 : ∀ j, m2 1 j = m1 1 j := fun j => b2 1 j (by decide) (by decide)
  have g0 : 0 ≤ w32 (mem 0 11) := (ag hG 0 11 ag_0_11).1
  rw [e95, ← hT] at b3 b5 b6
  have key : w32 r1 = w32 r2 ∧ w32 (m1 0 11) = w32 (m2 95 2) := by
    by_cases h7 : w32 (mem 0 11) ≤ 780
    · rw [if_pos h7] at a3 b3
      omega
    · rw [if_neg h7] at a3 b3
      omega
  have fr : ∀ i j, tpW i j → m2 i j = mem i j := fun i j h => by
    by_cases e : i = 95
    · subst e
      rw [b7 j (by unfold tpW at h; omega) (by unfold tpW at h; omega), a2 95 j (by decide)]
    · rw [b2 i j e (by unfold tpW at h; omega)]
      by_cases e2 : 95 ≤ i
      · rw [a2 i j e2]
      · exact a4 i j (by unfold tpW at h; omega) (by unfold tpW at h; omega)
  refine ⟨⟨b1, yoc_Om mem m2 (fun i j hi => ?_) hO, by rw [e0]; exact key.2, fun j => ?_, fun i hi => ?_, ⟨?_, ?_⟩, LIw_fr hk hId fr⟩, key.1⟩
  · have hy : ∀ k ∈ yoc, 97 ≤ k := by decide
    have := hy i hi
    rw [b2 i j (by omega) (by omega), a2 i j (by omega)]
  · rw [e1]
    by_cases h7 : w32 (mem 0 11) ≤ 780
    · obtain ⟨p1, p2⟩ := a5 h7
      obtain ⟨q1, q2⟩ := b5 h7
      by_cases hj : j < (w32 (mem 0 11)).toNat ∨ (w32 (mem 0 11)).toNat + 20 ≤ j
      · rw [p1 j hj, q1 j hj, e96]
        exact hB j
      · have ej : j = (w32 (mem 0 11)).toNat + (j - (w32 (mem 0 11)).toNat) := by omega
        rw [ej, p2 _ (by omega), q2 _ (by omega)]
    · rw [a6 h7, b6 h7, e96]
      exact hB j
  · rw [b2 56 i (by decide) (by decide), a4 56 i (by decide) (Or.inl (by decide))]
    exact hW i hi
  · rw [b2 0 12 (by decide) (by decide), a4 0 12 (by decide) (Or.inr (by decide)), b7 33 (by decide) (by decide), a2 95 33 (by decide)]
    exact hf1
  · rw [b2 0 13 (by decide) (by decide), a4 0 13 (by decide) (Or.inr (by decide)), b7 34 (by decide) (by decide), a2 95 34 (by decide)]
    exact hf2
theorem lx_feed {E : yE} (hE : yEok E) : LX E 5 xm_14 xm_167 0 := fun X k mem _ hI => x_feed hE (by decide) hI.1 (fun r m1 F1 => ⟨r, rfl, rx_feed hE (by decide) F1.1.1 (fun r2 m2 F2 => ⟨r2, rfl, lx_e0 (LI_feed (Nat.le_add_right k 6) hI F1 F2).2 (LI_feed (Nat.le_add_right k 6) hI F1 F2).1⟩)⟩)
theorem zhf_L : ∀ i, i < 118 → 97 ≤ i → zhf.getD (i - 97) 0 ≤ [800, 14, 6, 6, 6, 12, 12, 12, 12, 12, 12, 12, 8, 8, 24, 192, 6, 6, 10, 10, 128, 128].getD (i - 96) 0 := by decide +kernel
/-- text -/
theorem lx_text {E : yE} (hE : yEok E) (hm : yman Om) : LX E 1 xm_41 xm_242 0 := fun X k mem _ hI => by
  obtain ⟨hG, hO, hT, hB, hW, ⟨hf1, hf2⟩, Dd, W, V, ⟨d1, d2, d3⟩, ⟨w1, w2, w3⟩, ⟨v1, v2, v3⟩, hkp, hhm⟩ := hI
  have g96 : ∀ j, 0 ≤ w32 (mem 96 j) ∧ w32 (mem 96 j) ≤ 255 := fun j => agA hG 96 j ae_96
  have X1 : yCon E 1000 xm_41 [(1, 0), (0, X 1)] mem (fun r m => ∃ y, r = some (0, y) ∧ XTQ mem (X 1) m ∧ TP mem m ∧ tRs (fun j => w32 (mem 96 j)) (w32 (mem 0 11)) (w32 (X 1)) (w32 y) (w32 (mem 0 12), w32 (mem 0 13)) (w32 (m 0 12), w32 (m 0 13)) (hyS mem m) (fun X D => (yOk X → cDh m D) ∧ (¬ yOk X → hyS mem m ∧ ¬ w32 (m 0 12) = 0))) := g_xtext hE hm (by decide) (ch := fun j => w32 (mem 96 j)) hG hO (fun j => ⟨hB j, g96 j⟩) hW (fun r1 m1 T1 P1 A1 => ⟨r1, rfl, T1, P1, A1⟩)
  have X2 : yCon E 1000 xm_41 [(1, 0), (0, X 1)] mem (fun r m => XWQ mem (X 1) m) := x_wtext hE hm (by decide) hG hO (fun r m h => h)
  refine yCon_mono (yCon_and X1 X2) (fun r1 m1 hm1 => ?_)
  obtain ⟨⟨y1, rfl, T1, P1, A1⟩, r1', n1, XW, al1, _⟩ := hm1
  refine ⟨y1, rfl, ?_⟩
  have e96 : ∀ j, m1 96 j = mem 96 j := fun j => T1.2.2.1 96 j (by decide)
  have e95 : ∀ j, m1 95 j = mem 95 j := fun j => T1.2.2.1 95 j (by decide)
  have C1 : yCon E 1000 xm_242 [(1, 95), (0, X 1)] m1 (fun r m => (∃ y, r = some (0, y)) ∧ TxQ m1 (X 1) m) := c_text hE (by decide) T1.1 T1.2.1 (fun r m h => ⟨⟨r, rfl⟩, h⟩)
  have C2 : yCon E 1000 xm_242 [(1, 95), (0, X 1)] m1 (fun r m => ∃ y, r = some (0, y) ∧ tRs (fun j => w32 (mem 96 j)) (w32 (m1 95 2)) (w32 (X 1)) (w32 y) (w32 (m1 95 33), w32 (m1 95 34)) (w32 (m 95 33), w32 (m 95 34)) (lwW m1 m) (fun X D => (yOk X → rDl m D) ∧ (¬ yOk X → lwW m1 m))) := rf_text hE (by decide) T1.1 (fun j => by rw [e96]; exact ⟨rfl, g96 j⟩) (fun r m h => ⟨r, rfl, h⟩)
  refine yCon_mono (yCon_and C1 C2) (fun r m2 hm2 => ?_)
  obtain ⟨⟨⟨y, rfl⟩, T2⟩, r', m3, ⟨y2, rfl, A2⟩, al, er⟩ := hm2
  have ey : w32 y = w32 y2 := ydv_0 er
  rw [e95, e95, e95, ← hT, ← hf1, ← hf2] at A2
  obtain ⟨u1, u2, u3⟩ := tRs_u A1 A2
  have s2 : ∀ c j, tkS c j → w32 (m2 c j) = w32 (m1 c j) := fun c j ht => by rw [T2.2.2.1 c j (Or.inl (by have := tkS_c ht; omega))]
  have l2 : lwW m3 m2 := fun i j n hn i1 i2 hj => al i j (yRl_a (by omega) (by omega) (Nat.lt_of_lt_of_le hj (by rw [← hn]; exact zhf_L i (by omega) i1)))
  have l1 : lwW mem m1 := fun i j n _ i1 _ _ => by rw [T1.2.2.1 i j (by omega)]
  have lo : ∀ i j, i < 95 → m2 i j = m1 i j := fun i j hi => T2.2.2.1 i j (Or.inl hi)
  have v12m : w32 (m1 0 12) = w32 (m2 95 33) := by
    rw [al 95 33 rfl]
    exact congrArg Prod.fst u2
  have v12 : w32 (m2 0 12) = w32 (m2 95 33) := by
    rw [lo 0 12 (by decide)]
    exact v12m
  have v13 : w32 (m2 0 13) = w32 (m2 95 34) := by
    rw [lo 0 13 (by decide), al 95 34 rfl]
    exact congrArg Prod.snd u2
  have n12 : w32 (n1 0 12) = w32 (m2 95 33) := by
    rw [← v12m]
    exact (al1 0 12 rfl).symm
  have tp : w32 (m1 95 2) = w32 (mem 0 11) := by rw [e95, hT]
  obtain ⟨XW1, XW2⟩ := XW
  obtain ⟨TW1, TW2⟩ := T2.2.2.2.2
  rw [tp] at TW1 TW2
  have same : (¬ (0 ≤ w32 (X 1) ∧ w32 (X 1) ≤ w32 (mem 0 11)) ∨ ¬ w32 (m2 95 33) = 0) → hyS mem m1 → lwW m1 m3 → LIw (k + 6) m2 := fun hz p p' => by
    have c1 := XW1 (by rw [n12]; exact hz)
    obtain ⟨t1, t2, t3⟩ := TW1 hz
    have q : ∀ i j, 57 ≤ i → i ≤ 71 → yRl i j = true → w32 (m2 i j) = w32 (mem i j) := fun i j i1 i2 hr => by rw [lo i j (by omega), al1 i j hr, c1 i j (Or.inl ⟨i1, i2⟩)]
    have q14 : w32 (m2 0 14) = w32 (mem 0 14) := by rw [lo 0 14 (by decide), al1 0 14 rfl, c1 0 14 (Or.inr ⟨rfl, rfl⟩)]
    refine ⟨Dd, W, V, ⟨cDh_w d1 (fun c j ht => by rw [s2 c j ht, p c j ht]), rDl_w d2 (lwW_tr (lwW_tr l1 p') l2), d3⟩, ⟨cW_w w1 (fun i j i1 i2 i3 => q i j (by omega) (by omega) (wsl57 i j i1 i2 i3)) (fun j j1 j2 j3 => q 57 j (by decide) (by decide) (wsl57s j j1 j2 j3)), rW_f (by decide) w2 (fun i j i1 i2 => by rw [t1 i j i1 i2, T1.2.2.1 i j (by omega)]), uOk_le w3 (Nat.le_add_right k 6)⟩, ⟨cW_w v1 (fun i j i1 i2 i3 => q i j (by omega) (by omega) (wsl64 i j i1 i2 i3)) (fun j j1 j2 j3 => q 64 j (by decide) (by decide) (wsl64s j j1 j2 j3)), rW_f (by decide) v2 (fun i j i1 i2 => by rw [t1 i j i1 i2, T1.2.2.1 i j (by omega)]), fun z => uOk_le (v3 (by rw [q14] at z; exact z)) (Nat.le_add_right k 6)⟩, by rw [q14, t2, e95]; exact hkp, by rw [q 71 1 (by decide) (by decide) rfl, t3, e95]; exact hhm⟩
  have hId2 : LIw (k + 6) m2 := by
    rcases u3 with ⟨hN, p, p'⟩ | ⟨hN, l, hfk, p, p'⟩
    · exact same (Or.inl hN) p p'
    · by_cases hY : yOk (pTx (l.length + 1) (.inr l) dD0 0).1
      · have h33 : w32 (m2 95 33) = 0 := by
          have := congrArg Prod.fst hfk
          obtain ⟨l', hl'⟩ := hY
          rw [hl'] at this
          rw [← v12m]
          exact this
        obtain ⟨b1, b2, b3, b4⟩ := XW2 hN (by rw [n12]; exact h33)
        obtain ⟨t1, t2, t3⟩ := TW2 hN h33
        have hc := p.1 hY
        have hr := p'.1 hY
        have hdok := pTx_ok (l.length + 1) (.inr l) dD0 0 dOk_0 hY
        revert hc hr hdok
        generalize (pTx (l.length + 1) (.inr l) dD0 0).2.1 = D
        intro hc hr hdok
        have hc2 : cDh m2 D := cDh_w hc s2
        have hr2 : rDl m2 D := rDl_w hr l2
        have q : ∀ i j, i < 95 → yRl i j = true → w32 (m2 i j) = w32 (n1 i j) := fun i j hi hrl => by rw [lo i j hi, al1 i j hrl]
        refine ⟨D, uBg D W, V, ⟨hc2, hr2, hdok⟩, ⟨cBg_W (cBg_q b1 (fun i j hi hr => q i j (by omega) hr)) hc2 (fun j hj => by rw [q 62 j (by decide) ((by decide : ∀ j, j < 12 → yRl 62 j = true) j hj), b2 62 j (by decide) (by decide)]; exact w1.2.2.2.2.1 j hj) (fun j hj => by rw [q 63 j (by decide) ((by decide : ∀ j, j < 12 → yRl 63 j = true) j hj), b2 63 j (by decide) (by decide)]; exact w1.2.2.2.2.2.1 j hj), rBw_W t1 hr2 (fun i j i1 i2 => T1.2.2.1 i j (by omega)) w2, uBg_ok hdok w3.2.2.2.2.2.2.2.1⟩, ⟨cW_w v1 (fun i j i1 i2 i3 => by rw [q i j (by omega) (wsl64 i j i1 i2 i3), b2 i j (by omega) (by omega)]) (fun j j1 j2 j3 => by rw [q 64 j (by decide) (wsl64s j j1 j2 j3), b2 64 j (by decide) (by decide)]), rBw_V t1 (fun i j i1 i2 => T1.2.2.1 i j (by omega)) v2, fun z => absurd (show w32 (m2 0 14) = 0 by rw [q 0 14 (by decide) rfl]; exact b3) z⟩, ?_, ?_⟩
        · rw [q 0 14 (by decide) rfl, b3, t2]
        · rw [q 71 1 (by decide) rfl, b4, t3]
      · exact same (Or.inr (by rw [← v12m]; exact (p.2 hY).2)) (p.2 hY).1 (p'.2 hY)
  refine ⟨y, rfl, lx_e0 (by rw [ey]; exact u1) ⟨T2.1, T2.2.1, ?_, fun j => ?_, fun i hi => ?_, ⟨v12, v13⟩, hId2⟩⟩
  · rw [lo 0 11 (by decide), T2.2.2.2.1, T1.2.2.2, e95, hT]
  · rw [lo 1 j (by decide), T2.2.2.1 96 j (by decide), P1.1, e96]
    exact hB j
  · rw [lo 56 i (by decide), P1.2]
    exact hW i hi
theorem lx_fault {E : yE} (hE : yEok E) : LX E 1 xm_13 xm_166 0 := fun X k mem _ hI => x_fault hE (by decide) (fun r h1 => ⟨r, rfl, r_fault hE (by decide) (fun r2 h2 => ⟨r2, rfl, lx_e0 (by
  rw [h1, h2, hI.2.2.2.2.2.1.1, hI.2.2.2.2.2.1.2]) (LI_95 (Nat.le_add_right k 6) hI)⟩)⟩)
end
section
theorem s_22_0 {E : yE} {n d : Nat} {mem : yMem} {Post : Option yV → yMem → Prop} {st : List yV} {r0 r2 : Option yV} {x : Int} : zvc E (n + 1) [] d xm_22 0 [r0, some (0, x), r2] (st) mem Post = (zvc E n [] d xm_22 1 [r0, some (0, x), r2] ((0, x) :: st) mem Post) := zrf rfl
theorem s_22_1 {E : yE} {n d : Nat} {mem : yMem} {Post : Option yV → yMem → Prop} {st : List yV} {r0 r1 r2 : Option yV} {x : Int} : zvc E (n + 1) [] d xm_22 1 [r0, r1, r2] ((0, x) :: st) mem Post = ((w32 x = 0 → zvc E n [] d xm_22 32 [r0, r1, r2] (st) mem Post) ∧ (¬ w32 x = 0 → (w32 x = 1 → zvc E n [] d xm_22 44 [r0, r1, r2] (st) mem Post) ∧ (¬ w32 x = 1 → (w32 x = 2 → zvc E n [] d xm_22 56 [r0, r1, r2] (st) mem Post) ∧ (¬ w32 x = 2 → (w32 x = 3 → zvc E n [] d xm_22 68 [r0, r1, r2] (st) mem Post) ∧ (¬ w32 x = 3 → zvc E n [] d xm_22 80 [r0, r1, r2] (st) mem Post))))) := zrf rfl
theorem s_22_32 {E : yE} {n d : Nat} {mem : yMem} {Post : Option yV → yMem → Prop} {st : List yV} {r1 r2 : Option yV} {x : Int} : zvc E (n + 1) [] d xm_22 32 [some (1, x), r1, r2] (st) mem Post = (zvc E n [] d xm_22 33 [some (1, x), r1, r2] ((1, x) :: st) mem Post) := zrf rfl
theorem s_22_33 {E : yE} {n d : Nat} {mem : yMem} {Post : Option yV → yMem → Prop} {st : List yV} {r0 r1 r2 : Option yV} : zvc E (n + 1) [] d xm_22 33 [r0, r1, r2] ((1, 0) :: st) mem Post = (zvc E n [] d xm_22 36 [r0, r1, r2] ((1, 2) :: st) mem Post) := zrf rfl
theorem s_22_36_2 {E : yE} {n d : Nat} {mem : yMem} {Post : Option yV → yMem → Prop} {st : List yV} {r0 r1 r2 : Option yV} : zvc E (n + 1) [] d xm_22 36 [r0, r1, r2] ((1, 2) :: st) mem Post = (zvc E n [] d xm_22 39 [r0, r1, r2] ((1, 3) :: st) mem Post) := zrf rfl
theorem s_22_36_28 {E : yE} {n d : Nat} {mem : yMem} {Post : Option yV → yMem → Prop} {st : List yV} {r0 r1 r2 : Option yV} : zvc E (n + 1) [] d xm_22 36 [r0, r1, r2] ((1, 28) :: st) mem Post = (zvc E n [] d xm_22 39 [r0, r1, r2] ((1, 29) :: st) mem Post) := zrf rfl
theorem s_22_39 {E : yE} {n d : Nat} {mem : yMem} {Post : Option yV → yMem → Prop} {st : List yV} {r0 r1 : Option yV} {x : Int} : zvc E (n + 1) [] d xm_22 39 [r0, r1, some (0, x)] (st) mem Post = (zvc E n [] d xm_22 40 [r0, r1, some (0, x)] ((0, x) :: st) mem Post) := zrf rfl
theorem s_22_40 {E : yE} {n d : Nat} {mem : yMem} {Post : Option yV → yMem → Prop} {st : List yV} {r0 r1 r2 : Option yV} {z a0 : Int} : zvc E (n + 1) [] d xm_22 40 [r0, r1, r2] ((0, a0) :: (1, z) :: st) mem Post = (zio z 6 = true ∧ ysum st ≤ 8 ∧ yCon E d xm_102 [(1, z), (0, a0)] mem (fun v mem' => zgk E d xm_22 43 [r0, r1, r2] st v mem' Post)) := zrf rfl
theorem s_22_43 {E : yE} {n d : Nat} {mem : yMem} {Post : Option yV → yMem → Prop} {r0 r1 r2 : Option yV} {x : Int} : zvc E (n + 1) [] d xm_22 43 [r0, r1, r2] ([(0, x)]) mem Post = (Post (some (0, x)) mem) := zrf rfl
theorem s_22_44 {E : yE} {n d : Nat} {mem : yMem} {Post : Option yV → yMem → Prop} {st : List yV} {r1 r2 : Option yV} {x : Int} : zvc E (n + 1) [] d xm_22 44 [some (1, x), r1, r2] (st) mem Post = (zvc E n [] d xm_22 45 [some (1, x), r1, r2] ((1, x) :: st) mem Post) := zrf rfl
theorem s_22_45 {E : yE} {n d : Nat} {mem : yMem} {Post : Option yV → yMem → Prop} {st : List yV} {r0 r1 r2 : Option yV} : zvc E (n + 1) [] d xm_22 45 [r0, r1, r2] ((1, 0) :: st) mem Post = (zvc E n [] d xm_22 48 [r0, r1, r2] ((1, 2) :: st) mem Post) := zrf rfl
theorem s_22_48_2 {E : yE} {n d : Nat} {mem : yMem} {Post : Option yV → yMem → Prop} {st : List yV} {r0 r1 r2 : Option yV} : zvc E (n + 1) [] d xm_22 48 [r0, r1, r2] ((1, 2) :: st) mem Post = (zvc E n [] d xm_22 51 [r0, r1, r2] ((1, 5) :: st) mem Post) := zrf rfl
theorem s_22_48_28 {E : yE} {n d : Nat} {mem : yMem} {Post : Option yV → yMem → Prop} {st : List yV} {r0 r1 r2 : Option yV} : zvc E (n + 1) [] d xm_22 48 [r0, r1, r2] ((1, 28) :: st) mem Post = (zvc E n [] d xm_22 51 [r0, r1, r2] ((1, 31) :: st) mem Post) := zrf rfl
theorem s_22_51 {E : yE} {n d : Nat} {mem : yMem} {Post : Option yV → yMem → Prop} {st : List yV} {r0 r1 : Option yV} {x : Int} : zvc E (n + 1) [] d xm_22 51 [r0, r1, some (0, x)] (st) mem Post = (zvc E n [] d xm_22 52 [r0, r1, some (0, x)] ((0, x) :: st) mem Post) := zrf rfl
theorem s_22_52 {E : yE} {n d : Nat} {mem : yMem} {Post : Option yV → yMem → Prop} {st : List yV} {r0 r1 r2 : Option yV} {z a0 : Int} : zvc E (n + 1) [] d xm_22 52 [r0, r1, r2] ((0, a0) :: (1, z) :: st) mem Post = (zio z 6 = true ∧ ysum st ≤ 8 ∧ yCon E d xm_102 [(1, z), (0, a0)] mem (fun v mem' => zgk E d xm_22 55 [r0, r1, r2] st v mem' Post)) := zrf rfl
theorem s_22_55 {E : yE} {n d : Nat} {mem : yMem} {Post : Option yV → yMem → Prop} {r0 r1 r2 : Option yV} {x : Int} : zvc E (n + 1) [] d xm_22 55 [r0, r1, r2] ([(0, x)]) mem Post = (Post (some (0, x)) mem) := zrf rfl
theorem s_22_56 {E : yE} {n d : Nat} {mem : yMem} {Post : Option yV → yMem → Prop} {st : List yV} {r1 r2 : Option yV} {x : Int} : zvc E (n + 1) [] d xm_22 56 [some (1, x), r1, r2] (st) mem Post = (zvc E n [] d xm_22 57 [some (1, x), r1, r2] ((1, x) :: st) mem Post) := zrf rfl
theorem s_22_57 {E : yE} {n d : Nat} {mem : yMem} {Post : Option yV → yMem → Prop} {st : List yV} {r0 r1 r2 : Option yV} : zvc E (n + 1) [] d xm_22 57 [r0, r1, r2] ((1, 0) :: st) mem Post = (zvc E n [] d xm_22 60 [r0, r1, r2] ((1, 2) :: st) mem Post) := zrf rfl
theorem s_22_60_2 {E : yE} {n d : Nat} {mem : yMem} {Post : Option yV → yMem → Prop} {st : List yV} {r0 r1 r2 : Option yV} : zvc E (n + 1) [] d xm_22 60 [r0, r1, r2] ((1, 2) :: st) mem Post = (zvc E n [] d xm_22 63 [r0, r1, r2] ((1, 7) :: st) mem Post) := zrf rfl
theorem s_22_60_28 {E : yE} {n d : Nat} {mem : yMem} {Post : Option yV → yMem → Prop} {st : List yV} {r0 r1 r2 : Option yV} : zvc E (n + 1) [] d xm_22 60 [r0, r1, r2] ((1, 28) :: st) mem Post = (zvc E n [] d xm_22 63 [r0, r1, r2] ((1, 33) :: st) mem Post) := zrf rfl
theorem s_22_63 {E : yE} {n d : Nat} {mem : yMem} {Post : Option yV → yMem → Prop} {st : List yV} {r0 r1 : Option yV} {x : Int} : zvc E (n + 1) [] d xm_22 63 [r0, r1, some (0, x)] (st) mem Post = (zvc E n [] d xm_22 64 [r0, r1, some (0, x)] ((0, x) :: st) mem Post) := zrf rfl
theorem s_22_64 {E : yE} {n d : Nat} {mem : yMem} {Post : Option yV → yMem → Prop} {st : List yV} {r0 r1 r2 : Option yV} {z a0 : Int} : zvc E (n + 1) [] d xm_22 64 [r0, r1, r2] ((0, a0) :: (1, z) :: st) mem Post = (zio z 6 = true ∧ ysum st ≤ 8 ∧ yCon E d xm_102 [(1, z), (0, a0)] mem (fun v mem' => zgk E d xm_22 67 [r0, r1, r2] st v mem' Post)) := zrf rfl
theorem s_22_67 {E : yE} {n d : Nat} {mem : yMem} {Post : Option yV → yMem → Prop} {r0 r1 r2 : Option yV} {x : Int} : zvc E (n + 1) [] d xm_22 67 [r0, r1, r2] ([(0, x)]) mem Post = (Post (some (0, x)) mem) := zrf rfl
theorem s_22_68 {E : yE} {n d : Nat} {mem : yMem} {Post : Option yV → yMem → Prop} {st : List yV} {r1 r2 : Option yV} {x : Int} : zvc E (n + 1) [] d xm_22 68 [some (1, x), r1, r2] (st) mem Post = (zvc E n [] d xm_22 69 [some (1, x), r1, r2] ((1, x) :: st) mem Post) := zrf rfl
theorem s_22_69 {E : yE} {n d : Nat} {mem : yMem} {Post : Option yV → yMem → Prop} {st : List yV} {r0 r1 r2 : Option yV} : zvc E (n + 1) [] d xm_22 69 [r0, r1, r2] ((1, 0) :: st) mem Post = (zvc E n [] d xm_22 72 [r0, r1, r2] ((1, 2) :: st) mem Post) := zrf rfl
theorem s_22_72_2 {E : yE} {n d : Nat} {mem : yMem} {Post : Option yV → yMem → Prop} {st : List yV} {r0 r1 r2 : Option yV} : zvc E (n + 1) [] d xm_22 72 [r0, r1, r2] ((1, 2) :: st) mem Post = (zvc E n [] d xm_22 75 [r0, r1, r2] ((1, 9) :: st) mem Post) := zrf rfl
theorem s_22_72_28 {E : yE} {n d : Nat} {mem : yMem} {Post : Option yV → yMem → Prop} {st : List yV} {r0 r1 r2 : Option yV} : zvc E (n + 1) [] d xm_22 72 [r0, r1, r2] ((1, 28) :: st) mem Post = (zvc E n [] d xm_22 75 [r0, r1, r2] ((1, 35) :: st) mem Post) := zrf rfl
theorem s_22_75 {E : yE} {n d : Nat} {mem : yMem} {Post : Option yV → yMem → Prop} {st : List yV} {r0 r1 : Option yV} {x : Int} : zvc E (n + 1) [] d xm_22 75 [r0, r1, some (0, x)] (st) mem Post = (zvc E n [] d xm_22 76 [r0, r1, some (0, x)] ((0, x) :: st) mem Post) := zrf rfl
theorem s_22_76 {E : yE} {n d : Nat} {mem : yMem} {Post : Option yV → yMem → Prop} {st : List yV} {r0 r1 r2 : Option yV} {z a0 : Int} : zvc E (n + 1) [] d xm_22 76 [r0, r1, r2] ((0, a0) :: (1, z) :: st) mem Post = (zio z 6 = true ∧ ysum st ≤ 8 ∧ yCon E d xm_102 [(1, z), (0, a0)] mem (fun v mem' => zgk E d xm_22 79 [r0, r1, r2] st v mem' Post)) := zrf rfl
theorem s_22_79 {E : yE} {n d : Nat} {mem : yMem} {Post : Option yV → yMem → Prop} {r0 r1 r2 : Option yV} {x : Int} : zvc E (n + 1) [] d xm_22 79 [r0, r1, r2] ([(0, x)]) mem Post = (Post (some (0, x)) mem) := zrf rfl
theorem s_22_80 {E : yE} {n d : Nat} {mem : yMem} {Post : Option yV → yMem → Prop} {st : List yV} {r0 r1 r2 : Option yV} : zvc E (n + 1) [] d xm_22 80 [r0, r1, r2] (st) mem Post = (zvc E n [] d xm_22 81 [r0, r1, r2] ((0, (-1)) :: st) mem Post) := zrf rfl
theorem s_22_81 {E : yE} {n d : Nat} {mem : yMem} {Post : Option yV → yMem → Prop} {r0 r1 r2 : Option yV} {x : Int} : zvc E (n + 1) [] d xm_22 81 [r0, r1, r2] ([(0, x)]) mem Post = (Post (some (0, x)) mem) := zrf rfl
theorem s_210_0 {E : yE} {n d : Nat} {mem : yMem} {Post : Option yV → yMem → Prop} {st : List yV} {r1 r2 : Option yV} {x : Int} : zvc E (n + 1) [] d xm_210 0 [some (1, x), r1, r2] (st) mem Post = (zvc E n [] d xm_210 1 [some (1, x), r1, r2] ((1, x) :: st) mem Post) := zrf rfl
theorem s_210_1 {E : yE} {n d : Nat} {mem : yMem} {Post : Option yV → yMem → Prop} {st : List yV} {r0 r1 r2 : Option yV} : zvc E (n + 1) [] d xm_210 1 [r0, r1, r2] (st) mem Post = (zvc E n [] d xm_210 2 [r0, r1, r2] ((0, 0) :: st) mem Post) := zrf rfl
theorem s_210_2 {E : yE} {n d : Nat} {mem : yMem} {Post : Option yV → yMem → Prop} {st : List yV} {r0 r1 r2 : Option yV} {x : Int} : zvc E (n + 1) [] d xm_210 2 [r0, r1, r2] ((0, x) :: (1, 95) :: st) mem Post = (zvc E n [] d xm_210 5 [r0, r1, r2] (st) (yset mem 95 0 x) Post) := zrf rfl
theorem s_210_5 {E : yE} {n d : Nat} {mem : yMem} {Post : Option yV → yMem → Prop} {st : List yV} {r0 r2 : Option yV} {x : Int} : zvc E (n + 1) [] d xm_210 5 [r0, some (0, x), r2] (st) mem Post = (zvc E n [] d xm_210 6 [r0, some (0, x), r2] ((0, x) :: st) mem Post) := zrf rfl
theorem s_210_6 {E : yE} {n d : Nat} {mem : yMem} {Post : Option yV → yMem → Prop} {st : List yV} {r0 r1 r2 : Option yV} {x : Int} : zvc E (n + 1) [] d xm_210 6 [r0, r1, r2] ((0, x) :: st) mem Post = ((w32 x = 0 → zvc E n [] d xm_210 36 [r0, r1, r2] (st) mem Post) ∧ (¬ w32 x = 0 → (w32 x = 1 → zvc E n [] d xm_210 52 [r0, r1, r2] (st) mem Post) ∧ (¬ w32 x = 1 → (w32 x = 2 → zvc E n [] d xm_210 68 [r0, r1, r2] (st) mem Post) ∧ (¬ w32 x = 2 → (w32 x = 3 → zvc E n [] d xm_210 84 [r0, r1, r2] (st) mem Post) ∧ (¬ w32 x = 3 → zvc E n [] d xm_210 100 [r0, r1, r2] (st) mem Post))))) := zrf rfl
theorem s_210_36 {E : yE} {n d : Nat} {mem : yMem} {Post : Option yV → yMem → Prop} {st : List yV} {r1 r2 : Option yV} {x : Int} : zvc E (n + 1) [] d xm_210 36 [some (1, x), r1, r2] (st) mem Post = (zvc E n [] d xm_210 37 [some (1, x), r1, r2] ((1, x) :: st) mem Post) := zrf rfl
theorem s_210_37 {E : yE} {n d : Nat} {mem : yMem} {Post : Option yV → yMem → Prop} {st : List yV} {r0 r1 r2 : Option yV} : zvc E (n + 1) [] d xm_210 37 [r0, r1, r2] ((1, 95) :: st) mem Post = (zvc E n [] d xm_210 40 [r0, r1, r2] ((1, 98) :: st) mem Post) := zrf rfl
theorem s_210_40 {E : yE} {n d : Nat} {mem : yMem} {Post : Option yV → yMem → Prop} {st : List yV} {r0 r1 r2 : Option yV} : zvc E (n + 1) [] d xm_210 40 [r0, r1, r2] (st) mem Post = (zvc E n [] d xm_210 41 [r0, r1, r2] ((0, 0) :: st) mem Post) := zrf rfl
theorem s_210_41 {E : yE} {n d : Nat} {mem : yMem} {Post : Option yV → yMem → Prop} {st : List yV} {r1 r2 : Option yV} {x : Int} : zvc E (n + 1) [] d xm_210 41 [some (1, x), r1, r2] (st) mem Post = (zvc E n [] d xm_210 42 [some (1, x), r1, r2] ((1, x) :: st) mem Post) := zrf rfl
theorem s_210_42 {E : yE} {n d : Nat} {mem : yMem} {Post : Option yV → yMem → Prop} {st : List yV} {r0 r1 r2 : Option yV} : zvc E (n + 1) [] d xm_210 42 [r0, r1, r2] ((1, 95) :: st) mem Post = (zvc E n [] d xm_210 45 [r0, r1, r2] ((1, 97) :: st) mem Post) := zrf rfl
theorem s_210_45 {E : yE} {n d : Nat} {mem : yMem} {Post : Option yV → yMem → Prop} {st : List yV} {r0 r1 r2 : Option yV} : zvc E (n + 1) [] d xm_210 45 [r0, r1, r2] (st) mem Post = (zvc E n [] d xm_210 46 [r0, r1, r2] ((0, 0) :: st) mem Post) := zrf rfl
theorem s_210_46 {E : yE} {n d : Nat} {mem : yMem} {Post : Option yV → yMem → Prop} {st : List yV} {r0 r1 r2 : Option yV} {z j : Int} : zvc E (n + 1) [] d xm_210 46 [r0, r1, r2] ((0, j) :: (1, z) :: st) mem Post = ((0 ≤ w32 j ∧ w32 j < ((zar z 0 : Nat) : Int)) ∧ zvc E n [] d xm_210 47 [r0, r1, r2] ((0, mem z.toNat (w32 j).toNat) :: st) mem Post) := zrf rfl
theorem s_210_47 {E : yE} {n d : Nat} {mem : yMem} {Post : Option yV → yMem → Prop} {st : List yV} {r0 r1 : Option yV} {x : Int} : zvc E (n + 1) [] d xm_210 47 [r0, r1, some (0, x)] (st) mem Post = (zvc E n [] d xm_210 48 [r0, r1, some (0, x)] ((0, x) :: st) mem Post) := zrf rfl
theorem s_210_48 {E : yE} {n d : Nat} {mem : yMem} {Post : Option yV → yMem → Prop} {st : List yV} {r0 r1 r2 : Option yV} {a0 a1 a2 a3 : Int} : zvc E (n + 1) [] d xm_210 48 [r0, r1, r2] ((0, a3) :: (0, a2) :: (0, a1) :: (1, a0) :: st) mem Post = (True ∧ ysum st ≤ 8 ∧ yCon E d xm_168 [(1, a0), (0, a1), (0, a2), (0, a3)] mem (fun v mem' => zgk E d xm_210 51 [r0, r1, r2] st v mem' Post)) := zrf rfl
theorem s_210_51 {E : yE} {n d : Nat} {mem : yMem} {Post : Option yV → yMem → Prop} {r0 r1 r2 : Option yV} {x : Int} : zvc E (n + 1) [] d xm_210 51 [r0, r1, r2] ([(0, x)]) mem Post = (Post (some (0, x)) mem) := zrf rfl
theorem s_210_52 {E : yE} {n d : Nat} {mem : yMem} {Post : Option yV → yMem → Prop} {st : List yV} {r1 r2 : Option yV} {x : Int} : zvc E (n + 1) [] d xm_210 52 [some (1, x), r1, r2] (st) mem Post = (zvc E n [] d xm_210 53 [some (1, x), r1, r2] ((1, x) :: st) mem Post) := zrf rfl
theorem s_210_53 {E : yE} {n d : Nat} {mem : yMem} {Post : Option yV → yMem → Prop} {st : List yV} {r0 r1 r2 : Option yV} : zvc E (n + 1) [] d xm_210 53 [r0, r1, r2] ((1, 95) :: st) mem Post = (zvc E n [] d xm_210 56 [r0, r1, r2] ((1, 101) :: st) mem Post) := zrf rfl
theorem s_210_56 {E : yE} {n d : Nat} {mem : yMem} {Post : Option yV → yMem → Prop} {st : List yV} {r0 r1 r2 : Option yV} : zvc E (n + 1) [] d xm_210 56 [r0, r1, r2] (st) mem Post = (zvc E n [] d xm_210 57 [r0, r1, r2] ((0, 0) :: st) mem Post) := zrf rfl
theorem s_210_57 {E : yE} {n d : Nat} {mem : yMem} {Post : Option yV → yMem → Prop} {st : List yV} {r1 r2 : Option yV} {x : Int} : zvc E (n + 1) [] d xm_210 57 [some (1, x), r1, r2] (st) mem Post = (zvc E n [] d xm_210 58 [some (1, x), r1, r2] ((1, x) :: st) mem Post) := zrf rfl
theorem s_210_58 {E : yE} {n d : Nat} {mem : yMem} {Post : Option yV → yMem → Prop} {st : List yV} {r0 r1 r2 : Option yV} : zvc E (n + 1) [] d xm_210 58 [r0, r1, r2] ((1, 95) :: st) mem Post = (zvc E n [] d xm_210 61 [r0, r1, r2] ((1, 97) :: st) mem Post) := zrf rfl
theorem s_210_61 {E : yE} {n d : Nat} {mem : yMem} {Post : Option yV → yMem → Prop} {st : List yV} {r0 r1 r2 : Option yV} : zvc E (n + 1) [] d xm_210 61 [r0, r1, r2] (st) mem Post = (zvc E n [] d xm_210 62 [r0, r1, r2] ((0, 1) :: st) mem Post) := zrf rfl
theorem s_210_62 {E : yE} {n d : Nat} {mem : yMem} {Post : Option yV → yMem → Prop} {st : List yV} {r0 r1 r2 : Option yV} {z j : Int} : zvc E (n + 1) [] d xm_210 62 [r0, r1, r2] ((0, j) :: (1, z) :: st) mem Post = ((0 ≤ w32 j ∧ w32 j < ((zar z 0 : Nat) : Int)) ∧ zvc E n [] d xm_210 63 [r0, r1, r2] ((0, mem z.toNat (w32 j).toNat) :: st) mem Post) := zrf rfl
theorem s_210_63 {E : yE} {n d : Nat} {mem : yMem} {Post : Option yV → yMem → Prop} {st : List yV} {r0 r1 : Option yV} {x : Int} : zvc E (n + 1) [] d xm_210 63 [r0, r1, some (0, x)] (st) mem Post = (zvc E n [] d xm_210 64 [r0, r1, some (0, x)] ((0, x) :: st) mem Post) := zrf rfl
theorem s_210_64 {E : yE} {n d : Nat} {mem : yMem} {Post : Option yV → yMem → Prop} {st : List yV} {r0 r1 r2 : Option yV} {a0 a1 a2 a3 : Int} : zvc E (n + 1) [] d xm_210 64 [r0, r1, r2] ((0, a3) :: (0, a2) :: (0, a1) :: (1, a0) :: st) mem Post = (True ∧ ysum st ≤ 8 ∧ yCon E d xm_168 [(1, a0), (0, a1), (0, a2), (0, a3)] mem (fun v mem' => zgk E d xm_210 67 [r0, r1, r2] st v mem' Post)) := zrf rfl
theorem s_210_67 {E : yE} {n d : Nat} {mem : yMem} {Post : Option yV → yMem → Prop} {r0 r1 r2 : Option yV} {x : Int} : zvc E (n + 1) [] d xm_210 67 [r0, r1, r2] ([(0, x)]) mem Post = (Post (some (0, x)) mem) := zrf rfl
theorem s_210_68 {E : yE} {n d : Nat} {mem : yMem} {Post : Option yV → yMem → Prop} {st : List yV} {r1 r2 : Option yV} {x : Int} : zvc E (n + 1) [] d xm_210 68 [some (1, x), r1, r2] (st) mem Post = (zvc E n [] d xm_210 69 [some (1, x), r1, r2] ((1, x) :: st) mem Post) := zrf rfl
theorem s_210_69 {E : yE} {n d : Nat} {mem : yMem} {Post : Option yV → yMem → Prop} {st : List yV} {r0 r1 r2 : Option yV} : zvc E (n + 1) [] d xm_210 69 [r0, r1, r2] ((1, 95) :: st) mem Post = (zvc E n [] d xm_210 72 [r0, r1, r2] ((1, 108) :: st) mem Post) := zrf rfl
theorem s_210_72 {E : yE} {n d : Nat} {mem : yMem} {Post : Option yV → yMem → Prop} {st : List yV} {r0 r1 r2 : Option yV} : zvc E (n + 1) [] d xm_210 72 [r0, r1, r2] (st) mem Post = (zvc E n [] d xm_210 73 [r0, r1, r2] ((0, 0) :: st) mem Post) := zrf rfl
theorem s_210_73 {E : yE} {n d : Nat} {mem : yMem} {Post : Option yV → yMem → Prop} {st : List yV} {r1 r2 : Option yV} {x : Int} : zvc E (n + 1) [] d xm_210 73 [some (1, x), r1, r2] (st) mem Post = (zvc E n [] d xm_210 74 [some (1, x), r1, r2] ((1, x) :: st) mem Post) := zrf rfl
theorem s_210_74 {E : yE} {n d : Nat} {mem : yMem} {Post : Option yV → yMem → Prop} {st : List yV} {r0 r1 r2 : Option yV} : zvc E (n + 1) [] d xm_210 74 [r0, r1, r2] ((1, 95) :: st) mem Post = (zvc E n [] d xm_210 77 [r0, r1, r2] ((1, 97) :: st) mem Post) := zrf rfl
theorem s_210_77 {E : yE} {n d : Nat} {mem : yMem} {Post : Option yV → yMem → Prop} {st : List yV} {r0 r1 r2 : Option yV} : zvc E (n + 1) [] d xm_210 77 [r0, r1, r2] (st) mem Post = (zvc E n [] d xm_210 78 [r0, r1, r2] ((0, 2) :: st) mem Post) := zrf rfl
theorem s_210_78 {E : yE} {n d : Nat} {mem : yMem} {Post : Option yV → yMem → Prop} {st : List yV} {r0 r1 r2 : Option yV} {z j : Int} : zvc E (n + 1) [] d xm_210 78 [r0, r1, r2] ((0, j) :: (1, z) :: st) mem Post = ((0 ≤ w32 j ∧ w32 j < ((zar z 0 : Nat) : Int)) ∧ zvc E n [] d xm_210 79 [r0, r1, r2] ((0, mem z.toNat (w32 j).toNat) :: st) mem Post) := zrf rfl
theorem s_210_79 {E : yE} {n d : Nat} {mem : yMem} {Post : Option yV → yMem → Prop} {st : List yV} {r0 r1 : Option yV} {x : Int} : zvc E (n + 1) [] d xm_210 79 [r0, r1, some (0, x)] (st) mem Post = (zvc E n [] d xm_210 80 [r0, r1, some (0, x)] ((0, x) :: st) mem Post) := zrf rfl
theorem s_210_80 {E : yE} {n d : Nat} {mem : yMem} {Post : Option yV → yMem → Prop} {st : List yV} {r0 r1 r2 : Option yV} {a0 a1 a2 a3 : Int} : zvc E (n + 1) [] d xm_210 80 [r0, r1, r2] ((0, a3) :: (0, a2) :: (0, a1) :: (1, a0) :: st) mem Post = (True ∧ ysum st ≤ 8 ∧ yCon E d xm_168 [(1, a0), (0, a1), (0, a2), (0, a3)] mem (fun v mem' => zgk E d xm_210 83 [r0, r1, r2] st v mem' Post)) := zrf rfl
theorem s_210_83 {E : yE} {n d : Nat} {mem : yMem} {Post : Option yV → yMem → Prop} {r0 r1 r2 : Option yV} {x : Int} : zvc E (n + 1) [] d xm_210 83 [r0, r1, r2] ([(0, x)]) mem Post = (Post (some (0, x)) mem) := zrf rfl
theorem s_210_84 {E : yE} {n d : Nat} {mem : yMem} {Post : Option yV → yMem → Prop} {st : List yV} {r1 r2 : Option yV} {x : Int} : zvc E (n + 1) [] d xm_210 84 [some (1, x), r1, r2] (st) mem Post = (zvc E n [] d xm_210 85 [some (1, x), r1, r2] ((1, x) :: st) mem Post) := zrf rfl
theorem s_210_85 {E : yE} {n d : Nat} {mem : yMem} {Post : Option yV → yMem → Prop} {st : List yV} {r0 r1 r2 : Option yV} : zvc E (n + 1) [] d xm_210 85 [r0, r1, r2] ((1, 95) :: st) mem Post = (zvc E n [] d xm_210 88 [r0, r1, r2] ((1, 112) :: st) mem Post) := zrf rfl
theorem s_210_88 {E : yE} {n d : Nat} {mem : yMem} {Post : Option yV → yMem → Prop} {st : List yV} {r0 r1 r2 : Option yV} : zvc E (n + 1) [] d xm_210 88 [r0, r1, r2] (st) mem Post = (zvc E n [] d xm_210 89 [r0, r1, r2] ((0, 0) :: st) mem Post) := zrf rfl
theorem s_210_89 {E : yE} {n d : Nat} {mem : yMem} {Post : Option yV → yMem → Prop} {st : List yV} {r1 r2 : Option yV} {x : Int} : zvc E (n + 1) [] d xm_210 89 [some (1, x), r1, r2] (st) mem Post = (zvc E n [] d xm_210 90 [some (1, x), r1, r2] ((1, x) :: st) mem Post) := zrf rfl
theorem s_210_90 {E : yE} {n d : Nat} {mem : yMem} {Post : Option yV → yMem → Prop} {st : List yV} {r0 r1 r2 : Option yV} : zvc E (n + 1) [] d xm_210 90 [r0, r1, r2] ((1, 95) :: st) mem Post = (zvc E n [] d xm_210 93 [r0, r1, r2] ((1, 97) :: st) mem Post) := zrf rfl
theorem s_210_93 {E : yE} {n d : Nat} {mem : yMem} {Post : Option yV → yMem → Prop} {st : List yV} {r0 r1 r2 : Option yV} : zvc E (n + 1) [] d xm_210 93 [r0, r1, r2] (st) mem Post = (zvc E n [] d xm_210 94 [r0, r1, r2] ((0, 3) :: st) mem Post) := zrf rfl
theorem s_210_94 {E : yE} {n d : Nat} {mem : yMem} {Post : Option yV → yMem → Prop} {st : List yV} {r0 r1 r2 : Option yV} {z j : Int} : zvc E (n + 1) [] d xm_210 94 [r0, r1, r2] ((0, j) :: (1, z) :: st) mem Post = ((0 ≤ w32 j ∧ w32 j < ((zar z 0 : Nat) : Int)) ∧ zvc E n [] d xm_210 95 [r0, r1, r2] ((0, mem z.toNat (w32 j).toNat) :: st) mem Post) := zrf rfl
theorem s_210_95 {E : yE} {n d : Nat} {mem : yMem} {Post : Option yV → yMem → Prop} {st : List yV} {r0 r1 : Option yV} {x : Int} : zvc E (n + 1) [] d xm_210 95 [r0, r1, some (0, x)] (st) mem Post = (zvc E n [] d xm_210 96 [r0, r1, some (0, x)] ((0, x) :: st) mem Post) := zrf rfl
theorem s_210_96 {E : yE} {n d : Nat} {mem : yMem} {Post : Option yV → yMem → Prop} {st : List yV} {r0 r1 r2 : Option yV} {a0 a1 a2 a3 : Int} : zvc E (n + 1) [] d xm_210 96 [r0, r1, r2] ((0, a3) :: (0, a2) :: (0, a1) :: (1, a0) :: st) mem Post = (True ∧ ysum st ≤ 8 ∧ yCon E d xm_168 [(1, a0), (0, a1), (0, a2), (0, a3)] mem (fun v mem' => zgk E d xm_210 99 [r0, r1, r2] st v mem' Post)) := zrf rfl
theorem s_210_99 {E : yE} {n d : Nat} {mem : yMem} {Post : Option yV → yMem → Prop} {r0 r1 r2 : Option yV} {x : Int} : zvc E (n + 1) [] d xm_210 99 [r0, r1, r2] ([(0, x)]) mem Post = (Post (some (0, x)) mem) := zrf rfl
theorem s_210_100 {E : yE} {n d : Nat} {mem : yMem} {Post : Option yV → yMem → Prop} {st : List yV} {r0 r1 r2 : Option yV} : zvc E (n + 1) [] d xm_210 100 [r0, r1, r2] (st) mem Post = (zvc E n [] d xm_210 101 [r0, r1, r2] ((0, (-1)) :: st) mem Post) := zrf rfl
theorem s_210_101 {E : yE} {n d : Nat} {mem : yMem} {Post : Option yV → yMem → Prop} {r0 r1 r2 : Option yV} {x : Int} : zvc E (n + 1) [] d xm_210 101 [r0, r1, r2] ([(0, x)]) mem Post = (Post (some (0, x)) mem) := zrf rfl
theorem e_22 {E : yE} {d : Nat} {mem : yMem} {Q : Option yV → yMem → Prop} {z a0 a1 : Int} (h : zG E d xm_22 0 [some (1, z), some (0, a0), some (0, a1)] [] mem Q) : yCon E (d + 1) xm_22 [(1, z), (0, a0), (0, a1)] mem Q := zcon_of xmo_22 (Nat.le_of_ble_eq_true rfl) h
theorem e_210 {E : yE} {d : Nat} {mem : yMem} {Q : Option yV → yMem → Prop} {z a0 a1 : Int} (h : zG E d xm_210 0 [some (1, z), some (0, a0), some (0, a1)] [] mem Q) : yCon E (d + 1) xm_210 [(1, z), (0, a0), (0, a1)] mem Q := zcon_of xmo_210 (Nat.le_of_ble_eq_true rfl) h

/-! named, on both sides -/
/-- the names that a document tells: of taverns, voices, verses, barks -/
def dNm (D : dDc) (k : Int) : List Int := if k = 0 then D.1.map (fun t => t.1) else if k = 1 then D.2.1.map (fun t => t.1) else if k = 2 then D.2.2.1.map (fun t => t.1) else if k = 3 then D.2.2.2.1.map (fun t => t.1) else []
def nRs (D : dDc) (k v r : Int) : Prop := r = sFd (fun j => (dNm D k).getD j 0) v (dNm D k).length 0
section NM
variable {E : yE} {mem : yMem} {Q : Option yV → yMem → Prop}
theorem g_find_3_l (hE : yEok E) {d : Nat} {v : Int} (h0 : 0 ≤ w32 (mem 3 1)) (h1 : w32 (mem 3 1) ≤ 3) (hQ : ∀ r, w32 r = sFd (fun j => w32 (mem 4 j)) (w32 v) (w32 (mem 3 1)).toNat 0 → Q (some (0, r)) mem) : ∀ (k : Nat) (i : Int), (w32 (mem 3 1) - w32 i).toNat = k → 0 ≤ w32 i → w32 i ≤ w32 (mem 3 1) → sFd (fun j => w32 (mem 4 j)) (w32 v) (w32 (mem 3 1)).toNat 0 = sFd (fun j => w32 (mem 4 j)) (w32 v) k (w32 i).toNat → zG E d xm_102 2 [some (1, 3), some (0, v), some (0, i)] [] mem Q := by
  intro k
  induction k with
  | zero =>
    intro i hk i0 i1 hs
    refine zgo_ok (n := 60) hE xmo_102 (cs := zc_102) ?_
    simp only [ynok_30, ynok_31, w32c_0, w32c_1, w32c_2, w32c_3, w32c_4, w32c_5, w32c_6, w32c_7, w32c_8, w32c_9, w32c_10, w32c_11, w32c_12, w32c_13, w32c_14, w32c_m1, w32c_m2, w32c_118, Int.reduceAdd, Int.reduceSub, Int.reduceMul, yput_s, yput_n, znl_n, znl_0, znl_1, znl_4, ysum_n, ysum_0, ysum_1, ysum_4, true_and, and_true, Nat.reduceAdd, Nat.reduceLeDiff, true_implies, eq_self, true_or, or_true, or_false, false_or, not_true_eq_false, not_false_eq_true, false_implies, implies_true, yset_s, yset_o, yset_d, ne_eq, Nat.reduceEqDiff, Int.reduceToNat, Int.reduceEq, Int.reduceLE, Int.reduceLT, Classical.not_not, Nat.reduceLT, ↓zvk_s, ↓zvk_n, ↓s_102_0, ↓s_102_1n, ↓s_102_1i, ↓s_102_1p, ↓g_102_2, ↓k_102_2, ↓s_102_3, ↓s_102_4_3, ↓s_102_4_5, ↓s_102_4_7, ↓s_102_4_9, ↓s_102_4_29, ↓s_102_4_31, ↓s_102_4_33, ↓s_102_4_35, ↓s_102_7, ↓s_102_10, ↓s_102_11_3, ↓s_102_11_5, ↓s_102_11_7, ↓s_102_11_9, ↓s_102_11_29, ↓s_102_11_31, ↓s_102_11_33, ↓s_102_11_35, ↓s_102_14, ↓s_102_15, ↓s_102_16, ↓s_102_17, ↓s_102_20, ↓s_102_21, ↓s_102_22n, ↓s_102_22i, ↓s_102_22p, ↓s_102_25, ↓s_102_28, ↓s_102_29, zio_3, zar_4, zia_4, zln_4, zit_4, zio_5, zar_6, zia_6, zln_6, zit_6, zio_7, zar_8, zia_8, zln_8, zit_8, zio_9, zar_10, zia_10, zln_10, zit_10, zio_29, zar_30, zia_30, zln_30, zit_30, zio_31, zar_32, zia_32, zln_32, zit_32, zio_33, zar_34, zia_34, zln_34, zit_34, zio_35, zar_36, zia_36, zln_36, zit_36]
    exact ⟨fun _ => hQ _ (by rw [hs]; exact w32c_m1), fun h => absurd (show w32 (mem 3 1) ≤ w32 i by omega) h⟩
  | succ k ih =>
    intro i hk i0 i1 hs
    have e1 : w32 (i + 1) = w32 i + 1 := by rw [w32_ad (by rw [w32c_1]; omega) (by rw [w32c_1]; omega), w32c_1]
    refine zgo_ok (n := 60) hE xmo_102 (cs := zc_102) ?_
    simp only [ynok_30, ynok_31, w32c_0, w32c_1, w32c_2, w32c_3, w32c_4, w32c_5, w32c_6, w32c_7, w32c_8, w32c_9, w32c_10, w32c_11, w32c_12, w32c_13, w32c_14, w32c_m1, w32c_m2, w32c_118, Int.reduceAdd, Int.reduceSub, Int.reduceMul, yput_s, yput_n, znl_n, znl_0, znl_1, znl_4, ysum_n, ysum_0, ysum_1, ysum_4, true_and, and_true, Nat.reduceAdd, Nat.reduceLeDiff, true_implies, eq_self, true_or, or_true, or_false, false_or, not_true_eq_false, not_false_eq_true, false_implies, implies_true, yset_s, yset_o, yset_d, ne_eq, Nat.reduceEqDiff, Int.reduceToNat, Int.reduceEq, Int.reduceLE, Int.reduceLT, Classical.not_not, Nat.reduceLT, ↓zvk_s, ↓zvk_n, ↓s_102_0, ↓s_102_1n, ↓s_102_1i, ↓s_102_1p, ↓g_102_2, ↓k_102_2, ↓s_102_3, ↓s_102_4_3, ↓s_102_4_5, ↓s_102_4_7, ↓s_102_4_9, ↓s_102_4_29, ↓s_102_4_31, ↓s_102_4_33, ↓s_102_4_35, ↓s_102_7, ↓s_102_10, ↓s_102_11_3, ↓s_102_11_5, ↓s_102_11_7, ↓s_102_11_9, ↓s_102_11_29, ↓s_102_11_31, ↓s_102_11_33, ↓s_102_11_35, ↓s_102_14, ↓s_102_15, ↓s_102_16, ↓s_102_17, ↓s_102_20, ↓s_102_21, ↓s_102_22n, ↓s_102_22i, ↓s_102_22p, ↓s_102_25, ↓s_102_28, ↓s_102_29, zio_3, zar_4, zia_4, zln_4, zit_4, zio_5, zar_6, zia_6, zln_6, zit_6, zio_7, zar_8, zia_8, zln_8, zit_8, zio_9, zar_10, zia_10, zln_10, zit_10, zio_29, zar_30, zia_30, zln_30, zit_30, zio_31, zar_32, zia_32, zln_32, zit_32, zio_33, zar_34, zia_34, zln_34, zit_34, zio_35, zar_36, zia_36, zln_36, zit_36]
    simp only [sFd] at hs
    refine ⟨fun h => absurd h (by omega), fun _ => ⟨⟨by omega, by omega⟩, fun hne => ih (i + 1) (by omega) (by omega) (by omega) ?_, fun heq => hQ _ ?_⟩⟩
    · rw [hs, if_neg hne, show (w32 (i + 1)).toNat = (w32 i).toNat + 1 by omega]
    · rw [hs, if_pos heq]
      omega
theorem g_find_3 (hE : yEok E) {D : Nat} (hD : 1 ≤ D) {v : Int} (h0 : 0 ≤ w32 (mem 3 1)) (h1 : w32 (mem 3 1) ≤ 3) (hQ : ∀ r, w32 r = sFd (fun j => w32 (mem 4 j)) (w32 v) (w32 (mem 3 1)).toNat 0 → Q (some (0, r)) mem) : yCon E D xm_102 [(1, 3), (0, v)] mem Q := by
  obtain ⟨d, rfl⟩ := Nat.exists_eq_add_of_le' hD
  refine e_102 ?_
  refine zvc_ok hE 60 zc_102 _ _ _ _ _ _ _ xmo_102 ?_
  simp only [ynok_30, ynok_31, w32c_0, w32c_1, w32c_2, w32c_3, w32c_4, w32c_5, w32c_6, w32c_7, w32c_8, w32c_9, w32c_10, w32c_11, w32c_12, w32c_13, w32c_14, w32c_m1, w32c_m2, w32c_118, Int.reduceAdd, Int.reduceSub, Int.reduceMul, yput_s, yput_n, znl_n, znl_0, znl_1, znl_4, ysum_n, ysum_0, ysum_1, ysum_4, true_and, and_true, Nat.reduceAdd, Nat.reduceLeDiff, true_implies, eq_self, true_or, or_true, or_false, false_or, not_true_eq_false, not_false_eq_true, false_implies, implies_true, yset_s, yset_o, yset_d, ne_eq, Nat.reduceEqDiff, Int.reduceToNat, Int.reduceEq, Int.reduceLE, Int.reduceLT, Classical.not_not, Nat.reduceLT, ↓zvk_s, ↓zvk_n, ↓s_102_0, ↓s_102_1n, ↓s_102_1i, ↓s_102_1p, ↓g_102_2, ↓k_102_2, ↓s_102_3, ↓s_102_4_3, ↓s_102_4_5, ↓s_102_4_7, ↓s_102_4_9, ↓s_102_4_29, ↓s_102_4_31, ↓s_102_4_33, ↓s_102_4_35, ↓s_102_7, ↓s_102_10, ↓s_102_11_3, ↓s_102_11_5, ↓s_102_11_7, ↓s_102_11_9, ↓s_102_11_29, ↓s_102_11_31, ↓s_102_11_33, ↓s_102_11_35, ↓s_102_14, ↓s_102_15, ↓s_102_16, ↓s_102_17, ↓s_102_20, ↓s_102_21, ↓s_102_22n, ↓s_102_22i, ↓s_102_22p, ↓s_102_25, ↓s_102_28, ↓s_102_29, zio_3, zar_4, zia_4, zln_4, zit_4, zio_5, zar_6, zia_6, zln_6, zit_6, zio_7, zar_8, zia_8, zln_8, zit_8, zio_9, zar_10, zia_10, zln_10, zit_10, zio_29, zar_30, zia_30, zln_30, zit_30, zio_31, zar_32, zia_32, zln_32, zit_32, zio_33, zar_34, zia_34, zln_34, zit_34, zio_35, zar_36, zia_36, zln_36, zit_36]
  exact g_find_3_l hE h0 h1 hQ _ _ rfl (by decide) (by rw [w32c_0]; exact h0) (by rw [w32c_0, Int.sub_zero]; rfl)
theorem g_find_5_l (hE : yEok E) {d : Nat} {v : Int} (h0 : 0 ≤ w32 (mem 5 1)) (h1 : w32 (mem 5 1) ≤ 6) (hQ : ∀ r, w32 r = sFd (fun j => w32 (mem 6 j)) (w32 v) (w32 (mem 5 1)).toNat 0 → Q (some (0, r)) mem) : ∀ (k : Nat) (i : Int), (w32 (mem 5 1) - w32 i).toNat = k → 0 ≤ w32 i → w32 i ≤ w32 (mem 5 1) → sFd (fun j => w32 (mem 6 j)) (w32 v) (w32 (mem 5 1)).toNat 0 = sFd (fun j => w32 (mem 6 j)) (w32 v) k (w32 i).toNat → zG E d xm_102 2 [some (1, 5), some (0, v), some (0, i)] [] mem Q := by
  intro k
  induction k with
  | zero =>
    intro i hk i0 i1 hs
    refine zgo_ok (n := 60) hE xmo_102 (cs := zc_102) ?_
    simp only [ynok_30, ynok_31, w32c_0, w32c_1, w32c_2, w32c_3, w32c_4, w32c_5, w32c_6, w32c_7, w32c_8, w32c_9, w32c_10, w32c_11, w32c_12, w32c_13, w32c_14, w32c_m1, w32c_m2, w32c_118, Int.reduceAdd, Int.reduceSub, Int.reduceMul, yput_s, yput_n, znl_n, znl_0, znl_1, znl_4, ysum_n, ysum_0, ysum_1, ysum_4, true_and, and_true, Nat.reduceAdd, Nat.reduceLeDiff, true_implies, eq_self, true_or, or_true, or_false, false_or, not_true_eq_false, not_false_eq_true, false_implies, implies_true, yset_s, yset_o, yset_d, ne_eq, Nat.reduceEqDiff, Int.reduceToNat, Int.reduceEq, Int.reduceLE, Int.reduceLT, Classical.not_not, Nat.reduceLT, ↓zvk_s, ↓zvk_n, ↓s_102_0, ↓s_102_1n, ↓s_102_1i, ↓s_102_1p, ↓g_102_2, ↓k_102_2, ↓s_102_3, ↓s_102_4_3, ↓s_102_4_5, ↓s_102_4_7, ↓s_102_4_9, ↓s_102_4_29, ↓s_102_4_31, ↓s_102_4_33, ↓s_102_4_35, ↓s_102_7, ↓s_102_10, ↓s_102_11_3, ↓s_102_11_5, ↓s_102_11_7, ↓s_102_11_9, ↓s_102_11_29, ↓s_102_11_31, ↓s_102_11_33, ↓s_102_11_35, ↓s_102_14, ↓s_102_15, ↓s_102_16, ↓s_102_17, ↓s_102_20, ↓s_102_21, ↓s_102_22n, ↓s_102_22i, ↓s_102_22p, ↓s_102_25, ↓s_102_28, ↓s_102_29, zio_3, zar_4, zia_4, zln_4, zit_4, zio_5, zar_6, zia_6, zln_6, zit_6, zio_7, zar_8, zia_8, zln_8, zit_8, zio_9, zar_10, zia_10, zln_10, zit_10, zio_29, zar_30, zia_30, zln_30, zit_30, zio_31, zar_32, zia_32, zln_32, zit_32, zio_33, zar_34, zia_34, zln_34, zit_34, zio_35, zar_36, zia_36, zln_36, zit_36]
    exact ⟨fun _ => hQ _ (by rw [hs]; exact w32c_m1), fun h => absurd (show w32 (mem 5 1) ≤ w32 i by omega) h⟩
  | succ k ih =>
    intro i hk i0 i1 hs
    have e1 : w32 (i + 1) = w32 i + 1 := by rw [w32_ad (by rw [w32c_1]; omega) (by rw [w32c_1]; omega), w32c_1]
    refine zgo_ok (n := 60) hE xmo_102 (cs := zc_102) ?_
    simp only [ynok_30, ynok_31, w32c_0, w32c_1, w32c_2, w32c_3, w32c_4, w32c_5, w32c_6, w32c_7, w32c_8, w32c_9, w32c_10, w32c_11, w32c_12, w32c_13, w32c_14, w32c_m1, w32c_m2, w32c_118, Int.reduceAdd, Int.reduceSub, Int.reduceMul, yput_s, yput_n, znl_n, znl_0, znl_1, znl_4, ysum_n, ysum_0, ysum_1, ysum_4, true_and, and_true, Nat.reduceAdd, Nat.reduceLeDiff, true_implies, eq_self, true_or, or_true, or_false, false_or, not_true_eq_false, not_false_eq_true, false_implies, implies_true, yset_s, yset_o, yset_d, ne_eq, Nat.reduceEqDiff, Int.reduceToNat, Int.reduceEq, Int.reduceLE, Int.reduceLT, Classical.not_not, Nat.reduceLT, ↓zvk_s, ↓zvk_n, ↓s_102_0, ↓s_102_1n, ↓s_102_1i, ↓s_102_1p, ↓g_102_2, ↓k_102_2, ↓s_102_3, ↓s_102_4_3, ↓s_102_4_5, ↓s_102_4_7, ↓s_102_4_9, ↓s_102_4_29, ↓s_102_4_31, ↓s_102_4_33, ↓s_102_4_35, ↓s_102_7, ↓s_102_10, ↓s_102_11_3, ↓s_102_11_5, ↓s_102_11_7, ↓s_102_11_9, ↓s_102_11_29, ↓s_102_11_31, ↓s_102_11_33, ↓s_102_11_35, ↓s_102_14, ↓s_102_15, ↓s_102_16, ↓s_102_17, ↓s_102_20, ↓s_102_21, ↓s_102_22n, ↓s_102_22i, ↓s_102_22p, ↓s_102_25, ↓s_102_28, ↓s_102_29, zio_3, zar_4, zia_4, zln_4, zit_4, zio_5, zar_6, zia_6, zln_6, zit_6, zio_7, zar_8, zia_8, zln_8, zit_8, zio_9, zar_10, zia_10, zln_10, zit_10, zio_29, zar_30, zia_30, zln_30, zit_30, zio_31, zar_32, zia_32, zln_32, zit_32, zio_33, zar_34, zia_34, zln_34, zit_34, zio_35, zar_36, zia_36, zln_36, zit_36]
    simp only [sFd] at hs
    refine ⟨fun h => absurd h (by omega), fun _ => ⟨⟨by omega, by omega⟩, fun hne => ih (i + 1) (by omega) (by omega) (by omega) ?_, fun heq => hQ _ ?_⟩⟩
    · rw [hs, if_neg hne, show (w32 (i + 1)).toNat = (w32 i).toNat + 1 by omega]
    · rw [hs, if_pos heq]
      omega
theorem g_find_5 (hE : yEok E) {D : Nat} (hD : 1 ≤ D) {v : Int} (h0 : 0 ≤ w32 (mem 5 1)) (h1 : w32 (mem 5 1) ≤ 6) (hQ : ∀ r, w32 r = sFd (fun j => w32 (mem 6 j)) (w32 v) (w32 (mem 5 1)).toNat 0 → Q (some (0, r)) mem) : yCon E D xm_102 [(1, 5), (0, v)] mem Q := by
  obtain ⟨d, rfl⟩ := Nat.exists_eq_add_of_le' hD
  refine e_102 ?_
  refine zvc_ok hE 60 zc_102 _ _ _ _ _ _ _ xmo_102 ?_
  simp only [ynok_30, ynok_31, w32c_0, w32c_1, w32c_2, w32c_3, w32c_4, w32c_5, w32c_6, w32c_7, w32c_8, w32c_9, w32c_10, w32c_11, w32c_12, w32c_13, w32c_14, w32c_m1, w32c_m2, w32c_118, Int.reduceAdd, Int.reduceSub, Int.reduceMul, yput_s, yput_n, znl_n, znl_0, znl_1, znl_4, ysum_n, ysum_0, ysum_1, ysum_4, true_and, and_true, Nat.reduceAdd, Nat.reduceLeDiff, true_implies, eq_self, true_or, or_true, or_false, false_or, not_true_eq_false, not_false_eq_true, false_implies, implies_true, yset_s, yset_o, yset_d, ne_eq, Nat.reduceEqDiff, Int.reduceToNat, Int.reduceEq, Int.reduceLE, Int.reduceLT, Classical.not_not, Nat.reduceLT, ↓zvk_s, ↓zvk_n, ↓s_102_0, ↓s_102_1n, ↓s_102_1i, ↓s_102_1p, ↓g_102_2, ↓k_102_2, ↓s_102_3, ↓s_102_4_3, ↓s_102_4_5, ↓s_102_4_7, ↓s_102_4_9, ↓s_102_4_29, ↓s_102_4_31, ↓s_102_4_33, ↓s_102_4_35, ↓s_102_7, ↓s_102_10, ↓s_102_11_3, ↓s_102_11_5, ↓s_102_11_7, ↓s_102_11_9, ↓s_102_11_29, ↓s_102_11_31, ↓s_102_11_33, ↓s_102_11_35, ↓s_102_14, ↓s_102_15, ↓s_102_16, ↓s_102_17, ↓s_102_20, ↓s_102_21, ↓s_102_22n, ↓s_102_22i, ↓s_102_22p, ↓s_102_25, ↓s_102_28, ↓s_102_29, zio_3, zar_4, zia_4, zln_4, zit_4, zio_5, zar_6, zia_6, zln_6, zit_6, zio_7, zar_8, zia_8, zln_8, zit_8, zio_9, zar_10, zia_10, zln_10, zit_10, zio_29, zar_30, zia_30, zln_30, zit_30, zio_31, zar_32, zia_32, zln_32, zit_32, zio_33, zar_34, zia_34, zln_34, zit_34, zio_35, zar_36, zia_36, zln_36, zit_36]
  exact g_find_5_l hE h0 h1 hQ _ _ rfl (by decide) (by rw [w32c_0]; exact h0) (by rw [w32c_0, Int.sub_zero]; rfl)
theorem g_find_7_l (hE : yEok E) {d : Nat} {v : Int} (h0 : 0 ≤ w32 (mem 7 1)) (h1 : w32 (mem 7 1) ≤ 4) (hQ : ∀ r, w32 r = sFd (fun j => w32 (mem 8 j)) (w32 v) (w32 (mem 7 1)).toNat 0 → Q (some (0, r)) mem) : ∀ (k : Nat) (i : Int), (w32 (mem 7 1) - w32 i).toNat = k → 0 ≤ w32 i → w32 i ≤ w32 (mem 7 1) → sFd (fun j => w32 (mem 8 j)) (w32 v) (w32 (mem 7 1)).toNat 0 = sFd (fun j => w32 (mem 8 j)) (w32 v) k (w32 i).toNat → zG E d xm_102 2 [some (1, 7), some (0, v), some (0, i)] [] mem Q := by
  intro k
  induction k with
  | zero =>
    intro i hk i0 i1 hs
    refine zgo_ok (n := 60) hE xmo_102 (cs := zc_102) ?_
    simp only [ynok_30, ynok_31, w32c_0, w32c_1, w32c_2, w32c_3, w32c_4, w32c_5, w32c_6, w32c_7, w32c_8, w32c_9, w32c_10, w32c_11, w32c_12, w32c_13, w32c_14, w32c_m1, w32c_m2, w32c_118, Int.reduceAdd, Int.reduceSub, Int.reduceMul, yput_s, yput_n, znl_n, znl_0, znl_1, znl_4, ysum_n, ysum_0, ysum_1, ysum_4, true_and, and_true, Nat.reduceAdd, Nat.reduceLeDiff, true_implies, eq_self, true_or, or_true, or_false, false_or, not_true_eq_false, not_false_eq_true, false_implies, implies_true, yset_s, yset_o, yset_d, ne_eq, Nat.reduceEqDiff, Int.reduceToNat, Int.reduceEq, Int.reduceLE, Int.reduceLT, Classical.not_not, Nat.reduceLT, ↓zvk_s, ↓zvk_n, ↓s_102_0, ↓s_102_1n, ↓s_102_1i, ↓s_102_1p, ↓g_102_2, ↓k_102_2, ↓s_102_3, ↓s_102_4_3, ↓s_102_4_5, ↓s_102_4_7, ↓s_102_4_9, ↓s_102_4_29, ↓s_102_4_31, ↓s_102_4_33, ↓s_102_4_35, ↓s_102_7, ↓s_102_10, ↓s_102_11_3, ↓s_102_11_5, ↓s_102_11_7, ↓s_102_11_9, ↓s_102_11_29, ↓s_102_11_31, ↓s_102_11_33, ↓s_102_11_35, ↓s_102_14, ↓s_102_15, ↓s_102_16, ↓s_102_17, ↓s_102_20, ↓s_102_21, ↓s_102_22n, ↓s_102_22i, ↓s_102_22p, ↓s_102_25, ↓s_102_28, ↓s_102_29, zio_3, zar_4, zia_4, zln_4, zit_4, zio_5, zar_6, zia_6, zln_6, zit_6, zio_7, zar_8, zia_8, zln_8, zit_8, zio_9, zar_10, zia_10, zln_10, zit_10, zio_29, zar_30, zia_30, zln_30, zit_30, zio_31, zar_32, zia_32, zln_32, zit_32, zio_33, zar_34, zia_34, zln_34, zit_34, zio_35, zar_36, zia_36, zln_36, zit_36]
    exact ⟨fun _ => hQ _ (by rw [hs]; exact w32c_m1), fun h => absurd (show w32 (mem 7 1) ≤ w32 i by omega) h⟩
  | succ k ih =>
    intro i hk i0 i1 hs
    have e1 : w32 (i + 1) = w32 i + 1 := by rw [w32_ad (by rw [w32c_1]; omega) (by rw [w32c_1]; omega), w32c_1]
    refine zgo_ok (n := 60) hE xmo_102 (cs := zc_102) ?_
    simp only [ynok_30, ynok_31, w32c_0, w32c_1, w32c_2, w32c_3, w32c_4, w32c_5, w32c_6, w32c_7, w32c_8, w32c_9, w32c_10, w32c_11, w32c_12, w32c_13, w32c_14, w32c_m1, w32c_m2, w32c_118, Int.reduceAdd, Int.reduceSub, Int.reduceMul, yput_s, yput_n, znl_n, znl_0, znl_1, znl_4, ysum_n, ysum_0, ysum_1, ysum_4, true_and, and_true, Nat.reduceAdd, Nat.reduceLeDiff, true_implies, eq_self, true_or, or_true, or_false, false_or, not_true_eq_false, not_false_eq_true, false_implies, implies_true, yset_s, yset_o, yset_d, ne_eq, Nat.reduceEqDiff, Int.reduceToNat, Int.reduceEq, Int.reduceLE, Int.reduceLT, Classical.not_not, Nat.reduceLT, ↓zvk_s, ↓zvk_n, ↓s_102_0, ↓s_102_1n, ↓s_102_1i, ↓s_102_1p, ↓g_102_2, ↓k_102_2, ↓s_102_3, ↓s_102_4_3, ↓s_102_4_5, ↓s_102_4_7, ↓s_102_4_9, ↓s_102_4_29, ↓s_102_4_31, ↓s_102_4_33, ↓s_102_4_35, ↓s_102_7, ↓s_102_10, ↓s_102_11_3, ↓s_102_11_5, ↓s_102_11_7, ↓s_102_11_9, ↓s_102_11_29, ↓s_102_11_31, ↓s_102_11_33, ↓s_102_11_35, ↓s_102_14, ↓s_102_15, ↓s_102_16, ↓s_102_17, ↓s_102_20, ↓s_102_21, ↓s_102_22n, ↓s_102_22i, ↓s_102_22p, ↓s_102_25, ↓s_102_28, ↓s_102_29, zio_3, zar_4, zia_4, zln_4, zit_4, zio_5, zar_6, zia_6, zln_6, zit_6, zio_7, zar_8, zia_8, zln_8, zit_8, zio_9, zar_10, zia_10, zln_10, zit_10, zio_29, zar_30, zia_30, zln_30, zit_30, zio_31, zar_32, zia_32, zln_32, zit_32, zio_33, zar_34, zia_34, zln_34, zit_34, zio_35, zar_36, zia_36, zln_36, zit_36]
    simp only [sFd] at hs
    refine ⟨fun h => absurd h (by omega), fun _ => ⟨⟨by omega, by omega⟩, fun hne => ih (i + 1) (by omega) (by omega) (by omega) ?_, fun heq => hQ _ ?_⟩⟩
    · rw [hs, if_neg hne, show (w32 (i + 1)).toNat = (w32 i).toNat + 1 by omega]
    · rw [hs, if_pos heq]
      omega
theorem g_find_7 (hE : yEok E) {D : Nat} (hD : 1 ≤ D) {v : Int} (h0 : 0 ≤ w32 (mem 7 1)) (h1 : w32 (mem 7 1) ≤ 4) (hQ : ∀ r, w32 r = sFd (fun j => w32 (mem 8 j)) (w32 v) (w32 (mem 7 1)).toNat 0 → Q (some (0, r)) mem) : yCon E D xm_102 [(1, 7), (0, v)] mem Q := by
  obtain ⟨d, rfl⟩ := Nat.exists_eq_add_of_le' hD
  refine e_102 ?_
  refine zvc_ok hE 60 zc_102 _ _ _ _ _ _ _ xmo_102 ?_
  simp only [ynok_30, ynok_31, w32c_0, w32c_1, w32c_2, w32c_3, w32c_4, w32c_5, w32c_6, w32c_7, w32c_8, w32c_9, w32c_10, w32c_11, w32c_12, w32c_13, w32c_14, w32c_m1, w32c_m2, w32c_118, Int.reduceAdd, Int.reduceSub, Int.reduceMul, yput_s, yput_n, znl_n, znl_0, znl_1, znl_4, ysum_n, ysum_0, ysum_1, ysum_4, true_and, and_true, Nat.reduceAdd, Nat.reduceLeDiff, true_implies, eq_self, true_or, or_true, or_false, false_or, not_true_eq_false, not_false_eq_true, false_implies, implies_true, yset_s, yset_o, yset_d, ne_eq, Nat.reduceEqDiff, Int.reduceToNat, Int.reduceEq, Int.reduceLE, Int.reduceLT, Classical.not_not, Nat.reduceLT, ↓zvk_s, ↓zvk_n, ↓s_102_0, ↓s_102_1n, ↓s_102_1i, ↓s_102_1p, ↓g_102_2, ↓k_102_2, ↓s_102_3, ↓s_102_4_3, ↓s_102_4_5, ↓s_102_4_7, ↓s_102_4_9, ↓s_102_4_29, ↓s_102_4_31, ↓s_102_4_33, ↓s_102_4_35, ↓s_102_7, ↓s_102_10, ↓s_102_11_3, ↓s_102_11_5, ↓s_102_11_7, ↓s_102_11_9, ↓s_102_11_29, ↓s_102_11_31, ↓s_102_11_33, ↓s_102_11_35, ↓s_102_14, ↓s_102_15, ↓s_102_16, ↓s_102_17, ↓s_102_20, ↓s_102_21, ↓s_102_22n, ↓s_102_22i, ↓s_102_22p, ↓s_102_25, ↓s_102_28, ↓s_102_29, zio_3, zar_4, zia_4, zln_4, zit_4, zio_5, zar_6, zia_6, zln_6, zit_6, zio_7, zar_8, zia_8, zln_8, zit_8, zio_9, zar_10, zia_10, zln_10, zit_10, zio_29, zar_30, zia_30, zln_30, zit_30, zio_31, zar_32, zia_32, zln_32, zit_32, zio_33, zar_34, zia_34, zln_34, zit_34, zio_35, zar_36, zia_36, zln_36, zit_36]
  exact g_find_7_l hE h0 h1 hQ _ _ rfl (by decide) (by rw [w32c_0]; exact h0) (by rw [w32c_0, Int.sub_zero]; rfl)
theorem g_find_9_l (hE : yEok E) {d : Nat} {v : Int} (h0 : 0 ≤ w32 (mem 9 1)) (h1 : w32 (mem 9 1) ≤ 3) (hQ : ∀ r, w32 r = sFd (fun j => w32 (mem 10 j)) (w32 v) (w32 (mem 9 1)).toNat 0 → Q (some (0, r)) mem) : ∀ (k : Nat) (i : Int), (w32 (mem 9 1) - w32 i).toNat = k → 0 ≤ w32 i → w32 i ≤ w32 (mem 9 1) → sFd (fun j => w32 (mem 10 j)) (w32 v) (w32 (mem 9 1)).toNat 0 = sFd (fun j => w32 (mem 10 j)) (w32 v) k (w32 i).toNat → zG E d xm_102 2 [some (1, 9), some (0, v), some (0, i)] [] mem Q := by
  intro k
  induction k with
  | zero =>
    intro i hk i0 i1 hs
    refine zgo_ok (n := 60) hE xmo_102 (cs := zc_102) ?_
    simp only [ynok_30, ynok_31, w32c_0, w32c_1, w32c_2, w32c_3, w32c_4, w32c_5, w32c_6, w32c_7, w32c_8, w32c_9, w32c_10, w32c_11, w32c_12, w32c_13, w32c_14, w32c_m1, w32c_m2, w32c_118, Int.reduceAdd, Int.reduceSub, Int.reduceMul, yput_s, yput_n, znl_n, znl_0, znl_1, znl_4, ysum_n, ysum_0, ysum_1, ysum_4, true_and, and_true, Nat.reduceAdd, Nat.reduceLeDiff, true_implies, eq_self, true_or, or_true, or_false, false_or, not_true_eq_false, not_false_eq_true, false_implies, implies_true, yset_s, yset_o, yset_d, ne_eq, Nat.reduceEqDiff, Int.reduceToNat, Int.reduceEq, Int.reduceLE, Int.reduceLT, Classical.not_not, Nat.reduceLT, ↓zvk_s, ↓zvk_n, ↓s_102_0, ↓s_102_1n, ↓s_102_1i, ↓s_102_1p, ↓g_102_2, ↓k_102_2, ↓s_102_3, ↓s_102_4_3, ↓s_102_4_5, ↓s_102_4_7, ↓s_102_4_9, ↓s_102_4_29, ↓s_102_4_31, ↓s_102_4_33, ↓s_102_4_35, ↓s_102_7, ↓s_102_10, ↓s_102_11_3, ↓s_102_11_5, ↓s_102_11_7, ↓s_102_11_9, ↓s_102_11_29, ↓s_102_11_31, ↓s_102_11_33, ↓s_102_11_35, ↓s_102_14, ↓s_102_15, ↓s_102_16, ↓s_102_17, ↓s_102_20, ↓s_102_21, ↓s_102_22n, ↓s_102_22i, ↓s_102_22p, ↓s_102_25, ↓s_102_28, ↓s_102_29, zio_3, zar_4, zia_4, zln_4, zit_4, zio_5, zar_6, zia_6, zln_6, zit_6, zio_7, zar_8, zia_8, zln_8, zit_8, zio_9, zar_10, zia_10, zln_10, zit_10, zio_29, zar_30, zia_30, zln_30, zit_30, zio_31, zar_32, zia_32, zln_32, zit_32, zio_33, zar_34, zia_34, zln_34, zit_34, zio_35, zar_36, zia_36, zln_36, zit_36]
    exact ⟨fun _ => hQ _ (by rw [hs]; exact w32c_m1), fun h => absurd (show w32 (mem 9 1) ≤ w32 i by omega) h⟩
  | succ k ih =>
    intro i hk i0 i1 hs
    have e1 : w32 (i + 1) = w32 i + 1 := by rw [w32_ad (by rw [w32c_1]; omega) (by rw [w32c_1]; omega), w32c_1]
    refine zgo_ok (n := 60) hE xmo_102 (cs := zc_102) ?_
    simp only [ynok_30, ynok_31, w32c_0, w32c_1, w32c_2, w32c_3, w32c_4, w32c_5, w32c_6, w32c_7, w32c_8, w32c_9, w32c_10, w32c_11, w32c_12, w32c_13, w32c_14, w32c_m1, w32c_m2, w32c_118, Int.reduceAdd, Int.reduceSub, Int.reduceMul, yput_s, yput_n, znl_n, znl_0, znl_1, znl_4, ysum_n, ysum_0, ysum_1, ysum_4, true_and, and_true, Nat.reduceAdd, Nat.reduceLeDiff, true_implies, eq_self, true_or, or_true, or_false, false_or, not_true_eq_false, not_false_eq_true, false_implies, implies_true, yset_s, yset_o, yset_d, ne_eq, Nat.reduceEqDiff, Int.reduceToNat, Int.reduceEq, Int.reduceLE, Int.reduceLT, Classical.not_not, Nat.reduceLT, ↓zvk_s, ↓zvk_n, ↓s_102_0, ↓s_102_1n, ↓s_102_1i, ↓s_102_1p, ↓g_102_2, ↓k_102_2, ↓s_102_3, ↓s_102_4_3, ↓s_102_4_5, ↓s_102_4_7, ↓s_102_4_9, ↓s_102_4_29, ↓s_102_4_31, ↓s_102_4_33, ↓s_102_4_35, ↓s_102_7, ↓s_102_10, ↓s_102_11_3, ↓s_102_11_5, ↓s_102_11_7, ↓s_102_11_9, ↓s_102_11_29, ↓s_102_11_31, ↓s_102_11_33, ↓s_102_11_35, ↓s_102_14, ↓s_102_15, ↓s_102_16, ↓s_102_17, ↓s_102_20, ↓s_102_21, ↓s_102_22n, ↓s_102_22i, ↓s_102_22p, ↓s_102_25, ↓s_102_28, ↓s_102_29, zio_3, zar_4, zia_4, zln_4, zit_4, zio_5, zar_6, zia_6, zln_6, zit_6, zio_7, zar_8, zia_8, zln_8, zit_8, zio_9, zar_10, zia_10, zln_10, zit_10, zio_29, zar_30, zia_30, zln_30, zit_30, zio_31, zar_32, zia_32, zln_32, zit_32, zio_33, zar_34, zia_34, zln_34, zit_34, zio_35, zar_36, zia_36, zln_36, zit_36]
    simp only [sFd] at hs
    refine ⟨fun h => absurd h (by omega), fun _ => ⟨⟨by omega, by omega⟩, fun hne => ih (i + 1) (by omega) (by omega) (by omega) ?_, fun heq => hQ _ ?_⟩⟩
    · rw [hs, if_neg hne, show (w32 (i + 1)).toNat = (w32 i).toNat + 1 by omega]
    · rw [hs, if_pos heq]
      omega
theorem g_find_9 (hE : yEok E) {D : Nat} (hD : 1 ≤ D) {v : Int} (h0 : 0 ≤ w32 (mem 9 1)) (h1 : w32 (mem 9 1) ≤ 3) (hQ : ∀ r, w32 r = sFd (fun j => w32 (mem 10 j)) (w32 v) (w32 (mem 9 1)).toNat 0 → Q (some (0, r)) mem) : yCon E D xm_102 [(1, 9), (0, v)] mem Q := by
  obtain ⟨d, rfl⟩ := Nat.exists_eq_add_of_le' hD
  refine e_102 ?_
  refine zvc_ok hE 60 zc_102 _ _ _ _ _ _ _ xmo_102 ?_
  simp only [ynok_30, ynok_31, w32c_0, w32c_1, w32c_2, w32c_3, w32c_4, w32c_5, w32c_6, w32c_7, w32c_8, w32c_9, w32c_10, w32c_11, w32c_12, w32c_13, w32c_14, w32c_m1, w32c_m2, w32c_118, Int.reduceAdd, Int.reduceSub, Int.reduceMul, yput_s, yput_n, znl_n, znl_0, znl_1, znl_4, ysum_n, ysum_0, ysum_1, ysum_4, true_and, and_true, Nat.reduceAdd, Nat.reduceLeDiff, true_implies, eq_self, true_or, or_true, or_false, false_or, not_true_eq_false, not_false_eq_true, false_implies, implies_true, yset_s, yset_o, yset_d, ne_eq, Nat.reduceEqDiff, Int.reduceToNat, Int.reduceEq, Int.reduceLE, Int.reduceLT, Classical.not_not, Nat.reduceLT, ↓zvk_s, ↓zvk_n, ↓s_102_0, ↓s_102_1n, ↓s_102_1i, ↓s_102_1p, ↓g_102_2, ↓k_102_2, ↓s_102_3, ↓s_102_4_3, ↓s_102_4_5, ↓s_102_4_7, ↓s_102_4_9, ↓s_102_4_29, ↓s_102_4_31, ↓s_102_4_33, ↓s_102_4_35, ↓s_102_7, ↓s_102_10, ↓s_102_11_3, ↓s_102_11_5, ↓s_102_11_7, ↓s_102_11_9, ↓s_102_11_29, ↓s_102_11_31, ↓s_102_11_33, ↓s_102_11_35, ↓s_102_14, ↓s_102_15, ↓s_102_16, ↓s_102_17, ↓s_102_20, ↓s_102_21, ↓s_102_22n, ↓s_102_22i, ↓s_102_22p, ↓s_102_25, ↓s_102_28, ↓s_102_29, zio_3, zar_4, zia_4, zln_4, zit_4, zio_5, zar_6, zia_6, zln_6, zit_6, zio_7, zar_8, zia_8, zln_8, zit_8, zio_9, zar_10, zia_10, zln_10, zit_10, zio_29, zar_30, zia_30, zln_30, zit_30, zio_31, zar_32, zia_32, zln_32, zit_32, zio_33, zar_34, zia_34, zln_34, zit_34, zio_35, zar_36, zia_36, zln_36, zit_36]
  exact g_find_9_l hE h0 h1 hQ _ _ rfl (by decide) (by rw [w32c_0]; exact h0) (by rw [w32c_0, Int.sub_zero]; rfl)
theorem cNm_fn {z mx : Nat} {nm : List Int} {v r : Int} (h : cNm mem z mx nm) (hr : r = sFd (fun j => w32 (mem (z + 1) j)) v (w32 (mem z 1)).toNat 0) : r = sFd (fun j => nm.getD j 0) v nm.length 0 := by
  rw [hr, h.1, Int.toNat_natCast]
  exact sFd_ext _ _ (fun j _ j2 => h.2.2 j (by omega))
theorem rNl_fd {z q mx : Nat} {nm : List Int} {v r : Int} (h : rNl mem z q mx nm) (hr : r = sFd (fun j => w32 (mem z (0 + j))) v nm.length 0) : r = sFd (fun j => nm.getD j 0) v nm.length 0 := by
  rw [hr]
  exact sFd_ext _ _ (fun j _ j2 => by rw [Nat.zero_add]; exact h.2.2 j (by omega))
theorem dNm_0 {T : dDc} {k : Int} (h0 : k = 0) : dNm T k = T.1.map (fun t => t.1) := by unfold dNm; rw [if_pos h0]
theorem dNm_1 {T : dDc} {k : Int} (h0 : ¬ k = 0) (h1 : k = 1) : dNm T k = T.2.1.map (fun t => t.1) := by unfold dNm; rw [if_neg h0, if_pos h1]
theorem dNm_2 {T : dDc} {k : Int} (h0 : ¬ k = 0) (h1 : ¬ k = 1) (h2 : k = 2) : dNm T k = T.2.2.1.map (fun t => t.1) := by unfold dNm; rw [if_neg h0, if_neg h1, if_pos h2]
theorem dNm_3 {T : dDc} {k : Int} (h0 : ¬ k = 0) (h1 : ¬ k = 1) (h2 : ¬ k = 2) (h3 : k = 3) : dNm T k = T.2.2.2.1.map (fun t => t.1) := by unfold dNm; rw [if_neg h0, if_neg h1, if_neg h2, if_pos h3]
theorem dNm_4 {T : dDc} {k : Int} (h0 : ¬ k = 0) (h1 : ¬ k = 1) (h2 : ¬ k = 2) (h3 : ¬ k = 3) : dNm T k = [] := by unfold dNm; rw [if_neg h0, if_neg h1, if_neg h2, if_neg h3]
theorem nRs_of {T : dDc} {k v r : Int} {nm : List Int} (e : dNm T k = nm) (h : r = sFd (fun j => nm.getD j 0) v nm.length 0) : nRs T k v r := by
  unfold nRs
  rw [e]
  exact h
theorem x_named (hE : yEok E) {D : Nat} (hD : 2 ≤ D) {k v : Int} {T : dDc} (hT : cDh mem T) (hQ : ∀ r, nRs T (w32 k) (w32 v) (w32 r) → Q (some (0, r)) mem) : yCon E D xm_22 [(1, 0), (0, k), (0, v)] mem Q := by
  obtain ⟨d, rfl⟩ := Nat.exists_eq_add_of_le' hD
  refine e_22 ?_
  refine zvc_ok hE 60 [] _ _ _ _ _ _ _ xmo_22 ?_
  obtain ⟨c1, c2, c3, c4, -⟩ := hT
  have l1 := c1.1
  have l2 := c2.1
  have l3 := c3.1
  have l4 := c4.1
  have q : ∀ {z mx : Nat} {nm : List Int}, cNm mem z mx nm → 0 ≤ w32 (mem z 1) ∧ w32 (mem z 1) ≤ (mx : Int) := fun h => ⟨by rw [h.1]; omega, by rw [h.1]; have := h.2.1; omega⟩
  simp only [ynok_30, ynok_31, w32c_0, w32c_1, w32c_2, w32c_3, w32c_4, w32c_5, w32c_6, w32c_7, w32c_8, w32c_9, w32c_10, w32c_11, w32c_12, w32c_13, w32c_14, w32c_m1, w32c_m2, w32c_118, Int.reduceAdd, Int.reduceSub, Int.reduceMul, yput_s, yput_n, znl_n, znl_0, znl_1, znl_4, ysum_n, ysum_0, ysum_1, ysum_4, true_and, and_true, Nat.reduceAdd, Nat.reduceLeDiff, true_implies, eq_self, true_or, or_true, or_false, false_or, not_true_eq_false, not_false_eq_true, false_implies, implies_true, yset_s, yset_o, yset_d, ne_eq, Nat.reduceEqDiff, Int.reduceToNat, Int.reduceEq, Int.reduceLE, Int.reduceLT, Classical.not_not, Nat.reduceLT, ↓zvk_s, ↓zvk_n, ↓s_22_0, ↓s_22_1, ↓s_22_32, ↓s_22_33, ↓s_22_36_2, ↓s_22_36_28, ↓s_22_39, ↓s_22_40, ↓s_22_43, ↓s_22_44, ↓s_22_45, ↓s_22_48_2, ↓s_22_48_28, ↓s_22_51, ↓s_22_52, ↓s_22_55, ↓s_22_56, ↓s_22_57, ↓s_22_60_2, ↓s_22_60_28, ↓s_22_63, ↓s_22_64, ↓s_22_67, ↓s_22_68, ↓s_22_69, ↓s_22_72_2, ↓s_22_72_28, ↓s_22_75, ↓s_22_76, ↓s_22_79, ↓s_22_80, ↓s_22_81, zio_0, zio_2, zio_3, zio_5, zio_7, zio_9, zio_28, zio_29, zio_31, zio_33, zio_35]
  refine ⟨fun h0 => g_find_3 hE (by omega) (q l1).1 (q l1).2 (fun r hr => ?_), fun h0 => ⟨fun h1 => g_find_5 hE (by omega) (q l2).1 (q l2).2 (fun r hr => ?_), fun h1 => ⟨fun h2 => g_find_7 hE (by omega) (q l3).1 (q l3).2 (fun r hr => ?_), fun h2 => ⟨fun h3 => g_find_9 hE (by omega) (q l4).1 (q l4).2 (fun r hr => ?_), fun h3 => hQ _ (nRs_of (dNm_4 h0 h1 h2 h3) w32c_m1)⟩⟩⟩⟩
  · refine zgk_s hE xmo_22 60 [] ?_
    simp only [ynok_30, ynok_31, w32c_0, w32c_1, w32c_2, w32c_3, w32c_4, w32c_5, w32c_6, w32c_7, w32c_8, w32c_9, w32c_10, w32c_11, w32c_12, w32c_13, w32c_14, w32c_m1, w32c_m2, w32c_118, Int.reduceAdd, Int.reduceSub, Int.reduceMul, yput_s, yput_n, znl_n, znl_0, znl_1, znl_4, ysum_n, ysum_0, ysum_1, ysum_4, true_and, and_true, Nat.reduceAdd, Nat.reduceLeDiff, true_implies, eq_self, true_or, or_true, or_false, false_or, not_true_eq_false, not_false_eq_true, false_implies, implies_true, yset_s, yset_o, yset_d, ne_eq, Nat.reduceEqDiff, Int.reduceToNat, Int.reduceEq, Int.reduceLE, Int.reduceLT, Classical.not_not, Nat.reduceLT, ↓zvk_s, ↓zvk_n, ↓s_22_0, ↓s_22_1, ↓s_22_32, ↓s_22_33, ↓s_22_36_2, ↓s_22_36_28, ↓s_22_39, ↓s_22_40, ↓s_22_43, ↓s_22_44, ↓s_22_45, ↓s_22_48_2, ↓s_22_48_28, ↓s_22_51, ↓s_22_52, ↓s_22_55, ↓s_22_56, ↓s_22_57, ↓s_22_60_2, ↓s_22_60_28, ↓s_22_63, ↓s_22_64, ↓s_22_67, ↓s_22_68, ↓s_22_69, ↓s_22_72_2, ↓s_22_72_28, ↓s_22_75, ↓s_22_76, ↓s_22_79, ↓s_22_80, ↓s_22_81, zio_0, zio_2, zio_3, zio_5, zio_7, zio_9, zio_28, zio_29, zio_31, zio_33, zio_35]
    exact hQ r (nRs_of (dNm_0 h0) (cNm_fn l1 hr))
  · refine zgk_s hE xmo_22 60 [] ?_
    simp only [ynok_30, ynok_31, w32c_0, w32c_1, w32c_2, w32c_3, w32c_4, w32c_5, w32c_6, w32c_7, w32c_8, w32c_9, w32c_10, w32c_11, w32c_12, w32c_13, w32c_14, w32c_m1, w32c_m2, w32c_118, Int.reduceAdd, Int.reduceSub, Int.reduceMul, yput_s, yput_n, znl_n, znl_0, znl_1, znl_4, ysum_n, ysum_0, ysum_1, ysum_4, true_and, and_true, Nat.reduceAdd, Nat.reduceLeDiff, true_implies, eq_self, true_or, or_true, or_false, false_or, not_true_eq_false, not_false_eq_true, false_implies, implies_true, yset_s, yset_o, yset_d, ne_eq, Nat.reduceEqDiff, Int.reduceToNat, Int.reduceEq, Int.reduceLE, Int.reduceLT, Classical.not_not, Nat.reduceLT, ↓zvk_s, ↓zvk_n, ↓s_22_0, ↓s_22_1, ↓s_22_32, ↓s_22_33, ↓s_22_36_2, ↓s_22_36_28, ↓s_22_39, ↓s_22_40, ↓s_22_43, ↓s_22_44, ↓s_22_45, ↓s_22_48_2, ↓s_22_48_28, ↓s_22_51, ↓s_22_52, ↓s_22_55, ↓s_22_56, ↓s_22_57, ↓s_22_60_2, ↓s_22_60_28, ↓s_22_63, ↓s_22_64, ↓s_22_67, ↓s_22_68, ↓s_22_69, ↓s_22_72_2, ↓s_22_72_28, ↓s_22_75, ↓s_22_76, ↓s_22_79, ↓s_22_80, ↓s_22_81, zio_0, zio_2, zio_3, zio_5, zio_7, zio_9, zio_28, zio_29, zio_31, zio_33, zio_35]
    exact hQ r (nRs_of (dNm_1 h0 h1) (cNm_fn l2 hr))
  · refine zgk_s hE xmo_22 60 [] ?_
    simp only [ynok_30, ynok_31, w32c_0, w32c_1, w32c_2, w32c_3, w32c_4, w32c_5, w32c_6, w32c_7, w32c_8, w32c_9, w32c_10, w32c_11, w32c_12, w32c_13, w32c_14, w32c_m1, w32c_m2, w32c_118, Int.reduceAdd, Int.reduceSub, Int.reduceMul, yput_s, yput_n, znl_n, znl_0, znl_1, znl_4, ysum_n, ysum_0, ysum_1, ysum_4, true_and, and_true, Nat.reduceAdd, Nat.reduceLeDiff, true_implies, eq_self, true_or, or_true, or_false, false_or, not_true_eq_false, not_false_eq_true, false_implies, implies_true, yset_s, yset_o, yset_d, ne_eq, Nat.reduceEqDiff, Int.reduceToNat, Int.reduceEq, Int.reduceLE, Int.reduceLT, Classical.not_not, Nat.reduceLT, ↓zvk_s, ↓zvk_n, ↓s_22_0, ↓s_22_1, ↓s_22_32, ↓s_22_33, ↓s_22_36_2, ↓s_22_36_28, ↓s_22_39, ↓s_22_40, ↓s_22_43, ↓s_22_44, ↓s_22_45, ↓s_22_48_2, ↓s_22_48_28, ↓s_22_51, ↓s_22_52, ↓s_22_55, ↓s_22_56, ↓s_22_57, ↓s_22_60_2, ↓s_22_60_28, ↓s_22_63, ↓s_22_64, ↓s_22_67, ↓s_22_68, ↓s_22_69, ↓s_22_72_2, ↓s_22_72_28, ↓s_22_75, ↓s_22_76, ↓s_22_79, ↓s_22_80, ↓s_22_81, zio_0, zio_2, zio_3, zio_5, zio_7, zio_9, zio_28, zio_29, zio_31, zio_33, zio_35]
    exact hQ r (nRs_of (dNm_2 h0 h1 h2) (cNm_fn l3 hr))
  · refine zgk_s hE xmo_22 60 [] ?_
    simp only [ynok_30, ynok_31, w32c_0, w32c_1, w32c_2, w32c_3, w32c_4, w32c_5, w32c_6, w32c_7, w32c_8, w32c_9, w32c_10, w32c_11, w32c_12, w32c_13, w32c_14, w32c_m1, w32c_m2, w32c_118, Int.reduceAdd, Int.reduceSub, Int.reduceMul, yput_s, yput_n, znl_n, znl_0, znl_1, znl_4, ysum_n, ysum_0, ysum_1, ysum_4, true_and, and_true, Nat.reduceAdd, Nat.reduceLeDiff, true_implies, eq_self, true_or, or_true, or_false, false_or, not_true_eq_false, not_false_eq_true, false_implies, implies_true, yset_s, yset_o, yset_d, ne_eq, Nat.reduceEqDiff, Int.reduceToNat, Int.reduceEq, Int.reduceLE, Int.reduceLT, Classical.not_not, Nat.reduceLT, ↓zvk_s, ↓zvk_n, ↓s_22_0, ↓s_22_1, ↓s_22_32, ↓s_22_33, ↓s_22_36_2, ↓s_22_36_28, ↓s_22_39, ↓s_22_40, ↓s_22_43, ↓s_22_44, ↓s_22_45, ↓s_22_48_2, ↓s_22_48_28, ↓s_22_51, ↓s_22_52, ↓s_22_55, ↓s_22_56, ↓s_22_57, ↓s_22_60_2, ↓s_22_60_28, ↓s_22_63, ↓s_22_64, ↓s_22_67, ↓s_22_68, ↓s_22_69, ↓s_22_72_2, ↓s_22_72_28, ↓s_22_75, ↓s_22_76, ↓s_22_79, ↓s_22_80, ↓s_22_81, zio_0, zio_2, zio_3, zio_5, zio_7, zio_9, zio_28, zio_29, zio_31, zio_33, zio_35]
    exact hQ r (nRs_of (dNm_3 h0 h1 h2 h3) (cNm_fn l4 hr))
theorem r_named (hE : yEok E) {D : Nat} (hD : 2 ≤ D) {k v : Int} {T : dDc} (hT : rDl mem T) (hQ : ∀ r, nRs T (w32 k) (w32 v) (w32 r) → Q (some (0, r)) (yset mem 95 0 0)) : yCon E D xm_210 [(1, 95), (0, k), (0, v)] mem Q := by
  obtain ⟨d, rfl⟩ := Nat.exists_eq_add_of_le' hD
  refine e_210 ?_
  refine zvc_ok hE 60 [] _ _ _ _ _ _ _ xmo_210 ?_
  obtain ⟨⟨l1, -⟩, ⟨l2, -⟩, ⟨l3, -⟩, ⟨l4, -⟩, -⟩ := hT
  have b1 := l1.2.1
  have b2 := l2.2.1
  have b3 := l3.2.1
  have b4 := l4.2.1
  have y : ∀ {z : Nat}, ¬ z = 95 → (fun j => w32 (yset mem 95 0 0 z (0 + j))) = (fun j => w32 (mem z (0 + j))) := fun h => funext (fun j => by rw [yset_o h])
  simp only [ynok_30, ynok_31, w32c_0, w32c_1, w32c_2, w32c_3, w32c_4, w32c_5, w32c_6, w32c_7, w32c_8, w32c_9, w32c_10, w32c_11, w32c_12, w32c_13, w32c_14, w32c_m1, w32c_m2, w32c_118, Int.reduceAdd, Int.reduceSub, Int.reduceMul, yput_s, yput_n, znl_n, znl_0, znl_1, znl_4, ysum_n, ysum_0, ysum_1, ysum_4, true_and, and_true, Nat.reduceAdd, Nat.reduceLeDiff, true_implies, eq_self, true_or, or_true, or_false, false_or, not_true_eq_false, not_false_eq_true, false_implies, implies_true, yset_s, yset_o, yset_d, ne_eq, Nat.reduceEqDiff, Int.reduceToNat, Int.reduceEq, Int.reduceLE, Int.reduceLT, Classical.not_not, Nat.reduceLT, ↓zvk_s, ↓zvk_n, ↓s_210_0, ↓s_210_1, ↓s_210_2, ↓s_210_5, ↓s_210_6, ↓s_210_36, ↓s_210_37, ↓s_210_40, ↓s_210_41, ↓s_210_42, ↓s_210_45, ↓s_210_46, ↓s_210_47, ↓s_210_48, ↓s_210_51, ↓s_210_52, ↓s_210_53, ↓s_210_56, ↓s_210_57, ↓s_210_58, ↓s_210_61, ↓s_210_62, ↓s_210_63, ↓s_210_64, ↓s_210_67, ↓s_210_68, ↓s_210_69, ↓s_210_72, ↓s_210_73, ↓s_210_74, ↓s_210_77, ↓s_210_78, ↓s_210_79, ↓s_210_80, ↓s_210_83, ↓s_210_84, ↓s_210_85, ↓s_210_88, ↓s_210_89, ↓s_210_90, ↓s_210_93, ↓s_210_94, ↓s_210_95, ↓s_210_96, ↓s_210_99, ↓s_210_100, ↓s_210_101, zar_112, zia_112, zln_112, zit_112, zar_97, zia_97, zln_97, zit_97, zar_98, zia_98, zln_98, zit_98, zar_101, zia_101, zln_101, zit_101, zar_108, zia_108, zln_108, zit_108, zio_95]
  refine ⟨fun h0 => ⟨by decide, rf_found hE (by omega) (z := 98) (L := 6) (off := 0) (by decide) w32c_0 l1.1 (by omega) (by decide) (fun r hr => ?_)⟩, fun h0 => ⟨fun h1 => ⟨by decide, rf_found hE (by omega) (z := 101) (L := 12) (off := 0) (by decide) w32c_0 l2.1 (by omega) (by decide) (fun r hr => ?_)⟩, fun h1 => ⟨fun h2 => ⟨by decide, rf_found hE (by omega) (z := 108) (L := 8) (off := 0) (by decide) w32c_0 l3.1 (by omega) (by decide) (fun r hr => ?_)⟩, fun h2 => ⟨fun h3 => ⟨by decide, rf_found hE (by omega) (z := 112) (L := 6) (off := 0) (by decide) w32c_0 l4.1 (by omega) (by decide) (fun r hr => ?_)⟩, fun h3 => hQ _ (nRs_of (dNm_4 h0 h1 h2 h3) w32c_m1)⟩⟩⟩⟩
  · rw [show ((98 : Int).toNat) = 98 from rfl, y (by decide)] at hr
    refine zgk_s hE xmo_210 60 [] ?_
    simp only [ynok_30, ynok_31, w32c_0, w32c_1, w32c_2, w32c_3, w32c_4, w32c_5, w32c_6, w32c_7, w32c_8, w32c_9, w32c_10, w32c_11, w32c_12, w32c_13, w32c_14, w32c_m1, w32c_m2, w32c_118, Int.reduceAdd, Int.reduceSub, Int.reduceMul, yput_s, yput_n, znl_n, znl_0, znl_1, znl_4, ysum_n, ysum_0, ysum_1, ysum_4, true_and, and_true, Nat.reduceAdd, Nat.reduceLeDiff, true_implies, eq_self, true_or, or_true, or_false, false_or, not_true_eq_false, not_false_eq_true, false_implies, implies_true, yset_s, yset_o, yset_d, ne_eq, Nat.reduceEqDiff, Int.reduceToNat, Int.reduceEq, Int.reduceLE, Int.reduceLT, Classical.not_not, Nat.reduceLT, ↓zvk_s, ↓zvk_n, ↓s_210_0, ↓s_210_1, ↓s_210_2, ↓s_210_5, ↓s_210_6, ↓s_210_36, ↓s_210_37, ↓s_210_40, ↓s_210_41, ↓s_210_42, ↓s_210_45, ↓s_210_46, ↓s_210_47, ↓s_210_48, ↓s_210_51, ↓s_210_52, ↓s_210_53, ↓s_210_56, ↓s_210_57, ↓s_210_58, ↓s_210_61, ↓s_210_62, ↓s_210_63, ↓s_210_64, ↓s_210_67, ↓s_210_68, ↓s_210_69, ↓s_210_72, ↓s_210_73, ↓s_210_74, ↓s_210_77, ↓s_210_78, ↓s_210_79, ↓s_210_80, ↓s_210_83, ↓s_210_84, ↓s_210_85, ↓s_210_88, ↓s_210_89, ↓s_210_90, ↓s_210_93, ↓s_210_94, ↓s_210_95, ↓s_210_96, ↓s_210_99, ↓s_210_100, ↓s_210_101, zar_112, zia_112, zln_112, zit_112, zar_97, zia_97, zln_97, zit_97, zar_98, zia_98, zln_98, zit_98, zar_101, zia_101, zln_101, zit_101, zar_108, zia_108, zln_108, zit_108, zio_95]
    exact hQ r (nRs_of (dNm_0 h0) (rNl_fd l1 hr))
  · rw [show ((101 : Int).toNat) = 101 from rfl, y (by decide)] at hr
    refine zgk_s hE xmo_210 60 [] ?_
    simp only [ynok_30, ynok_31, w32c_0, w32c_1, w32c_2, w32c_3, w32c_4, w32c_5, w32c_6, w32c_7, w32c_8, w32c_9, w32c_10, w32c_11, w32c_12, w32c_13, w32c_14, w32c_m1, w32c_m2, w32c_118, Int.reduceAdd, Int.reduceSub, Int.reduceMul, yput_s, yput_n, znl_n, znl_0, znl_1, znl_4, ysum_n, ysum_0, ysum_1, ysum_4, true_and, and_true, Nat.reduceAdd, Nat.reduceLeDiff, true_implies, eq_self, true_or, or_true, or_false, false_or, not_true_eq_false, not_false_eq_true, false_implies, implies_true, yset_s, yset_o, yset_d, ne_eq, Nat.reduceEqDiff, Int.reduceToNat, Int.reduceEq, Int.reduceLE, Int.reduceLT, Classical.not_not, Nat.reduceLT, ↓zvk_s, ↓zvk_n, ↓s_210_0, ↓s_210_1, ↓s_210_2, ↓s_210_5, ↓s_210_6, ↓s_210_36, ↓s_210_37, ↓s_210_40, ↓s_210_41, ↓s_210_42, ↓s_210_45, ↓s_210_46, ↓s_210_47, ↓s_210_48, ↓s_210_51, ↓s_210_52, ↓s_210_53, ↓s_210_56, ↓s_210_57, ↓s_210_58, ↓s_210_61, ↓s_210_62, ↓s_210_63, ↓s_210_64, ↓s_210_67, ↓s_210_68, ↓s_210_69, ↓s_210_72, ↓s_210_73, ↓s_210_74, ↓s_210_77, ↓s_210_78, ↓s_210_79, ↓s_210_80, ↓s_210_83, ↓s_210_84, ↓s_210_85, ↓s_210_88, ↓s_210_89, ↓s_210_90, ↓s_210_93, ↓s_210_94, ↓s_210_95, ↓s_210_96, ↓s_210_99, ↓s_210_100, ↓s_210_101, zar_112, zia_112, zln_112, zit_112, zar_97, zia_97, zln_97, zit_97, zar_98, zia_98, zln_98, zit_98, zar_101, zia_101, zln_101, zit_101, zar_108, zia_108, zln_108, zit_108, zio_95]
    exact hQ r (nRs_of (dNm_1 h0 h1) (rNl_fd l2 hr))
  · rw [show ((108 : Int).toNat) = 108 from rfl, y (by decide)] at hr
    refine zgk_s hE xmo_210 60 [] ?_
    simp only [ynok_30, ynok_31, w32c_0, w32c_1, w32c_2, w32c_3, w32c_4, w32c_5, w32c_6, w32c_7, w32c_8, w32c_9, w32c_10, w32c_11, w32c_12, w32c_13, w32c_14, w32c_m1, w32c_m2, w32c_118, Int.reduceAdd, Int.reduceSub, Int.reduceMul, yput_s, yput_n, znl_n, znl_0, znl_1, znl_4, ysum_n, ysum_0, ysum_1, ysum_4, true_and, and_true, Nat.reduceAdd, Nat.reduceLeDiff, true_implies, eq_self, true_or, or_true, or_false, false_or, not_true_eq_false, not_false_eq_true, false_implies, implies_true, yset_s, yset_o, yset_d, ne_eq, Nat.reduceEqDiff, Int.reduceToNat, Int.reduceEq, Int.reduceLE, Int.reduceLT, Classical.not_not, Nat.reduceLT, ↓zvk_s, ↓zvk_n, ↓s_210_0, ↓s_210_1, ↓s_210_2, ↓s_210_5, ↓s_210_6, ↓s_210_36, ↓s_210_37, ↓s_210_40, ↓s_210_41, ↓s_210_42, ↓s_210_45, ↓s_210_46, ↓s_210_47, ↓s_210_48, ↓s_210_51, ↓s_210_52, ↓s_210_53, ↓s_210_56, ↓s_210_57, ↓s_210_58, ↓s_210_61, ↓s_210_62, ↓s_210_63, ↓s_210_64, ↓s_210_67, ↓s_210_68, ↓s_210_69, ↓s_210_72, ↓s_210_73, ↓s_210_74, ↓s_210_77, ↓s_210_78, ↓s_210_79, ↓s_210_80, ↓s_210_83, ↓s_210_84, ↓s_210_85, ↓s_210_88, ↓s_210_89, ↓s_210_90, ↓s_210_93, ↓s_210_94, ↓s_210_95, ↓s_210_96, ↓s_210_99, ↓s_210_100, ↓s_210_101, zar_112, zia_112, zln_112, zit_112, zar_97, zia_97, zln_97, zit_97, zar_98, zia_98, zln_98, zit_98, zar_101, zia_101, zln_101, zit_101, zar_108, zia_108, zln_108, zit_108, zio_95]
    exact hQ r (nRs_of (dNm_2 h0 h1 h2) (rNl_fd l3 hr))
  · rw [show ((112 : Int).toNat) = 112 from rfl, y (by decide)] at hr
    refine zgk_s hE xmo_210 60 [] ?_
    simp only [ynok_30, ynok_31, w32c_0, w32c_1, w32c_2, w32c_3, w32c_4, w32c_5, w32c_6, w32c_7, w32c_8, w32c_9, w32c_10, w32c_11, w32c_12, w32c_13, w32c_14, w32c_m1, w32c_m2, w32c_118, Int.reduceAdd, Int.reduceSub, Int.reduceMul, yput_s, yput_n, znl_n, znl_0, znl_1, znl_4, ysum_n, ysum_0, ysum_1, ysum_4, true_and, and_true, Nat.reduceAdd, Nat.reduceLeDiff, true_implies, eq_self, true_or, or_true, or_false, false_or, not_true_eq_false, not_false_eq_true, false_implies, implies_true, yset_s, yset_o, yset_d, ne_eq, Nat.reduceEqDiff, Int.reduceToNat, Int.reduceEq, Int.reduceLE, Int.reduceLT, Classical.not_not, Nat.reduceLT, ↓zvk_s, ↓zvk_n, ↓s_210_0, ↓s_210_1, ↓s_210_2, ↓s_210_5, ↓s_210_6, ↓s_210_36, ↓s_210_37, ↓s_210_40, ↓s_210_41, ↓s_210_42, ↓s_210_45, ↓s_210_46, ↓s_210_47, ↓s_210_48, ↓s_210_51, ↓s_210_52, ↓s_210_53, ↓s_210_56, ↓s_210_57, ↓s_210_58, ↓s_210_61, ↓s_210_62, ↓s_210_63, ↓s_210_64, ↓s_210_67, ↓s_210_68, ↓s_210_69, ↓s_210_72, ↓s_210_73, ↓s_210_74, ↓s_210_77, ↓s_210_78, ↓s_210_79, ↓s_210_80, ↓s_210_83, ↓s_210_84, ↓s_210_85, ↓s_210_88, ↓s_210_89, ↓s_210_90, ↓s_210_93, ↓s_210_94, ↓s_210_95, ↓s_210_96, ↓s_210_99, ↓s_210_100, ↓s_210_101, zar_112, zia_112, zln_112, zit_112, zar_97, zia_97, zln_97, zit_97, zar_98, zia_98, zln_98, zit_98, zar_101, zia_101, zln_101, zit_101, zar_108, zia_108, zln_108, zit_108, zio_95]
    exact hQ r (nRs_of (dNm_3 h0 h1 h2 h3) (rNl_fd l4 hr))
theorem lx_named (hE : yEok E) : LX E 2 xm_22 xm_210 0 := fun X k mem _ hI => by
  obtain ⟨D, W, V, ⟨h1, h2, h3⟩, -⟩ := hI.2.2.2.2.2.2
  exact x_named hE (by decide) h1 (fun r e1 => ⟨r, rfl, r_named hE (by decide) h2 (fun r2 e2 => ⟨r2, rfl, lx_e0 (e1.trans e2.symm) (LI_95 (Nat.le_add_right k 6) hI)⟩)⟩)
end NM
end
section
theorem s_44_0 {E : yE} {n d : Nat} {mem : yMem} {Post : Option yV → yMem → Prop} {st : List yV} {r1 r2 : Option yV} {x : Int} : zvc E (n + 1) [] d xm_44 0 [some (1, x), r1, r2] (st) mem Post = (zvc E n [] d xm_44 1 [some (1, x), r1, r2] ((1, x) :: st) mem Post) := zrf rfl
theorem s_44_1 {E : yE} {n d : Nat} {mem : yMem} {Post : Option yV → yMem → Prop} {st : List yV} {r0 r1 r2 : Option yV} : zvc E (n + 1) [] d xm_44 1 [r0, r1, r2] ((1, 0) :: st) mem Post = (zvc E n [] d xm_44 4 [r0, r1, r2] ((1, 2) :: st) mem Post) := zrf rfl
theorem s_44_4_2 {E : yE} {n d : Nat} {mem : yMem} {Post : Option yV → yMem → Prop} {st : List yV} {r0 r1 r2 : Option yV} : zvc E (n + 1) [] d xm_44 4 [r0, r1, r2] ((1, 2) :: st) mem Post = (zvc E n [] d xm_44 7 [r0, r1, r2] ((1, 7) :: st) mem Post) := zrf rfl
theorem s_44_4_28 {E : yE} {n d : Nat} {mem : yMem} {Post : Option yV → yMem → Prop} {st : List yV} {r0 r1 r2 : Option yV} : zvc E (n + 1) [] d xm_44 4 [r0, r1, r2] ((1, 28) :: st) mem Post = (zvc E n [] d xm_44 7 [r0, r1, r2] ((1, 33) :: st) mem Post) := zrf rfl
theorem s_44_7 {E : yE} {n d : Nat} {mem : yMem} {Post : Option yV → yMem → Prop} {st : List yV} {r0 r2 : Option yV} {x : Int} : zvc E (n + 1) [] d xm_44 7 [r0, some (0, x), r2] (st) mem Post = (zvc E n [] d xm_44 8 [r0, some (0, x), r2] ((0, x) :: st) mem Post) := zrf rfl
theorem s_44_8 {E : yE} {n d : Nat} {mem : yMem} {Post : Option yV → yMem → Prop} {st : List yV} {r0 r1 r2 : Option yV} {z a0 : Int} : zvc E (n + 1) [] (d + 1) xm_44 8 [r0, r1, r2] ((0, a0) :: (1, z) :: st) mem Post = (zio z 6 = true ∧ ysum st ≤ 8 ∧ zvc E n [] d xm_103 0 [some (1, z), some (0, a0)] [] mem (fun v mem' => zvk E n [] (d + 1) xm_44 11 [r0, r1, r2] st v mem' Post)) := zrf rfl
theorem s_44_11 {E : yE} {n d : Nat} {mem : yMem} {Post : Option yV → yMem → Prop} {st : List yV} {r0 r1 r2 : Option yV} {x : Int} : zvc E (n + 1) [] d xm_44 11 [r0, r1, r2] ((0, x) :: st) mem Post = ((¬ w32 x = w32 0 → zvc E n [] d xm_44 16 [r0, r1, r2] (st) mem Post) ∧ (¬ (¬ w32 x = w32 0) → zvc E n [] d xm_44 14 [r0, r1, r2] (st) mem Post)) := zrf rfl
theorem s_44_14 {E : yE} {n d : Nat} {mem : yMem} {Post : Option yV → yMem → Prop} {st : List yV} {r0 r1 r2 : Option yV} : zvc E (n + 1) [] d xm_44 14 [r0, r1, r2] (st) mem Post = (zvc E n [] d xm_44 15 [r0, r1, r2] ((0, (-1)) :: st) mem Post) := zrf rfl
theorem s_44_15 {E : yE} {n d : Nat} {mem : yMem} {Post : Option yV → yMem → Prop} {r0 r1 r2 : Option yV} {x : Int} : zvc E (n + 1) [] d xm_44 15 [r0, r1, r2] ([(0, x)]) mem Post = (Post (some (0, x)) mem) := zrf rfl
theorem s_44_16 {E : yE} {n d : Nat} {mem : yMem} {Post : Option yV → yMem → Prop} {st : List yV} {r0 r1 : Option yV} {x : Int} : zvc E (n + 1) [] d xm_44 16 [r0, r1, some (0, x)] (st) mem Post = (zvc E n [] d xm_44 17 [r0, r1, some (0, x)] ((0, x) :: st) mem Post) := zrf rfl
theorem s_44_17 {E : yE} {n d : Nat} {mem : yMem} {Post : Option yV → yMem → Prop} {st : List yV} {r0 r1 r2 : Option yV} {x : Int} : zvc E (n + 1) [] d xm_44 17 [r0, r1, r2] ((0, x) :: st) mem Post = ((¬ w32 x = w32 0 → zvc E n [] d xm_44 30 [r0, r1, r2] (st) mem Post) ∧ (¬ (¬ w32 x = w32 0) → zvc E n [] d xm_44 20 [r0, r1, r2] (st) mem Post)) := zrf rfl
theorem s_44_20 {E : yE} {n d : Nat} {mem : yMem} {Post : Option yV → yMem → Prop} {st : List yV} {r1 r2 : Option yV} {x : Int} : zvc E (n + 1) [] d xm_44 20 [some (1, x), r1, r2] (st) mem Post = (zvc E n [] d xm_44 21 [some (1, x), r1, r2] ((1, x) :: st) mem Post) := zrf rfl
theorem s_44_21 {E : yE} {n d : Nat} {mem : yMem} {Post : Option yV → yMem → Prop} {st : List yV} {r0 r1 r2 : Option yV} : zvc E (n + 1) [] d xm_44 21 [r0, r1, r2] ((1, 0) :: st) mem Post = (zvc E n [] d xm_44 24 [r0, r1, r2] ((1, 2) :: st) mem Post) := zrf rfl
theorem s_44_24_2 {E : yE} {n d : Nat} {mem : yMem} {Post : Option yV → yMem → Prop} {st : List yV} {r0 r1 r2 : Option yV} : zvc E (n + 1) [] d xm_44 24 [r0, r1, r2] ((1, 2) :: st) mem Post = (zvc E n [] d xm_44 27 [r0, r1, r2] ((1, 18) :: st) mem Post) := zrf rfl
theorem s_44_24_28 {E : yE} {n d : Nat} {mem : yMem} {Post : Option yV → yMem → Prop} {st : List yV} {r0 r1 r2 : Option yV} : zvc E (n + 1) [] d xm_44 24 [r0, r1, r2] ((1, 28) :: st) mem Post = (zvc E n [] d xm_44 27 [r0, r1, r2] ((1, 44) :: st) mem Post) := zrf rfl
theorem s_44_27 {E : yE} {n d : Nat} {mem : yMem} {Post : Option yV → yMem → Prop} {st : List yV} {r0 r2 : Option yV} {x : Int} : zvc E (n + 1) [] d xm_44 27 [r0, some (0, x), r2] (st) mem Post = (zvc E n [] d xm_44 28 [r0, some (0, x), r2] ((0, x) :: st) mem Post) := zrf rfl
theorem s_44_28 {E : yE} {n d : Nat} {mem : yMem} {Post : Option yV → yMem → Prop} {st : List yV} {r0 r1 r2 : Option yV} {z j : Int} : zvc E (n + 1) [] d xm_44 28 [r0, r1, r2] ((0, j) :: (1, z) :: st) mem Post = ((0 ≤ w32 j ∧ w32 j < ((zar z 0 : Nat) : Int)) ∧ zvc E n [] d xm_44 29 [r0, r1, r2] ((0, mem z.toNat (w32 j).toNat) :: st) mem Post) := zrf rfl
theorem s_44_29 {E : yE} {n d : Nat} {mem : yMem} {Post : Option yV → yMem → Prop} {r0 r1 r2 : Option yV} {x : Int} : zvc E (n + 1) [] d xm_44 29 [r0, r1, r2] ([(0, x)]) mem Post = (Post (some (0, x)) mem) := zrf rfl
theorem s_44_30 {E : yE} {n d : Nat} {mem : yMem} {Post : Option yV → yMem → Prop} {st : List yV} {r0 r1 : Option yV} {x : Int} : zvc E (n + 1) [] d xm_44 30 [r0, r1, some (0, x)] (st) mem Post = (zvc E n [] d xm_44 31 [r0, r1, some (0, x)] ((0, x) :: st) mem Post) := zrf rfl
theorem s_44_31 {E : yE} {n d : Nat} {mem : yMem} {Post : Option yV → yMem → Prop} {st : List yV} {r0 r1 r2 : Option yV} {x : Int} : zvc E (n + 1) [] d xm_44 31 [r0, r1, r2] ((0, x) :: st) mem Post = ((w32 x < w32 0 → zvc E n [] d xm_44 48 [r0, r1, r2] (st) mem Post) ∧ (¬ (w32 x < w32 0) → zvc E n [] d xm_44 34 [r0, r1, r2] (st) mem Post)) := zrf rfl
theorem s_44_34 {E : yE} {n d : Nat} {mem : yMem} {Post : Option yV → yMem → Prop} {st : List yV} {r1 r2 : Option yV} {x : Int} : zvc E (n + 1) [] d xm_44 34 [some (1, x), r1, r2] (st) mem Post = (zvc E n [] d xm_44 35 [some (1, x), r1, r2] ((1, x) :: st) mem Post) := zrf rfl
theorem s_44_35 {E : yE} {n d : Nat} {mem : yMem} {Post : Option yV → yMem → Prop} {st : List yV} {r0 r1 r2 : Option yV} : zvc E (n + 1) [] d xm_44 35 [r0, r1, r2] ((1, 0) :: st) mem Post = (zvc E n [] d xm_44 38 [r0, r1, r2] ((1, 2) :: st) mem Post) := zrf rfl
theorem s_44_38 {E : yE} {n d : Nat} {mem : yMem} {Post : Option yV → yMem → Prop} {st : List yV} {r0 r2 : Option yV} {x : Int} : zvc E (n + 1) [] d xm_44 38 [r0, some (0, x), r2] (st) mem Post = (zvc E n [] d xm_44 39 [r0, some (0, x), r2] ((0, x) :: st) mem Post) := zrf rfl
theorem s_44_39 {E : yE} {n d : Nat} {mem : yMem} {Post : Option yV → yMem → Prop} {st : List yV} {r0 r1 : Option yV} {x : Int} : zvc E (n + 1) [] d xm_44 39 [r0, r1, some (0, x)] (st) mem Post = (zvc E n [] d xm_44 40 [r0, r1, some (0, x)] ((0, x) :: st) mem Post) := zrf rfl
theorem s_44_40 {E : yE} {n d : Nat} {mem : yMem} {Post : Option yV → yMem → Prop} {st : List yV} {r0 r1 r2 : Option yV} : zvc E (n + 1) [] d xm_44 40 [r0, r1, r2] (st) mem Post = (zvc E n [] d xm_44 41 [r0, r1, r2] ((0, 1) :: st) mem Post) := zrf rfl
theorem s_44_41 {E : yE} {n d : Nat} {mem : yMem} {Post : Option yV → yMem → Prop} {st : List yV} {r0 r1 r2 : Option yV} {x y : Int} : zvc E (n + 1) [] d xm_44 41 [r0, r1, r2] ((0, y) :: (0, x) :: st) mem Post = (zvc E n [] d xm_44 42 [r0, r1, r2] ((0, x - y) :: st) mem Post) := zrf rfl
theorem s_44_42 {E : yE} {n d : Nat} {mem : yMem} {Post : Option yV → yMem → Prop} {st : List yV} {r0 r1 r2 : Option yV} {z a0 a1 : Int} : zvc E (n + 1) [] (d + 1) xm_44 42 [r0, r1, r2] ((0, a1) :: (0, a0) :: (1, z) :: st) mem Post = (zio z 4 = true ∧ ysum st ≤ 8 ∧ zvc E n [] d xm_78 0 [some (1, z), some (0, a0), some (0, a1)] [] mem (fun v mem' => zvk E n [] (d + 1) xm_44 45 [r0, r1, r2] st v mem' Post)) := zrf rfl
theorem s_44_45 {E : yE} {n d : Nat} {mem : yMem} {Post : Option yV → yMem → Prop} {st : List yV} {r0 r1 r2 : Option yV} {x : Int} : zvc E (n + 1) [] d xm_44 45 [r0, r1, r2] ((0, x) :: st) mem Post = ((¬ w32 x = w32 0 → zvc E n [] d xm_44 50 [r0, r1, r2] (st) mem Post) ∧ (¬ (¬ w32 x = w32 0) → zvc E n [] d xm_44 48 [r0, r1, r2] (st) mem Post)) := zrf rfl
theorem s_44_48 {E : yE} {n d : Nat} {mem : yMem} {Post : Option yV → yMem → Prop} {st : List yV} {r0 r1 r2 : Option yV} : zvc E (n + 1) [] d xm_44 48 [r0, r1, r2] (st) mem Post = (zvc E n [] d xm_44 49 [r0, r1, r2] ((0, (-1)) :: st) mem Post) := zrf rfl
theorem s_44_49 {E : yE} {n d : Nat} {mem : yMem} {Post : Option yV → yMem → Prop} {r0 r1 r2 : Option yV} {x : Int} : zvc E (n + 1) [] d xm_44 49 [r0, r1, r2] ([(0, x)]) mem Post = (Post (some (0, x)) mem) := zrf rfl
theorem s_44_50 {E : yE} {n d : Nat} {mem : yMem} {Post : Option yV → yMem → Prop} {st : List yV} {r1 r2 : Option yV} {x : Int} : zvc E (n + 1) [] d xm_44 50 [some (1, x), r1, r2] (st) mem Post = (zvc E n [] d xm_44 51 [some (1, x), r1, r2] ((1, x) :: st) mem Post) := zrf rfl
theorem s_44_51 {E : yE} {n d : Nat} {mem : yMem} {Post : Option yV → yMem → Prop} {st : List yV} {r0 r1 r2 : Option yV} : zvc E (n + 1) [] d xm_44 51 [r0, r1, r2] ((1, 0) :: st) mem Post = (zvc E n [] d xm_44 54 [r0, r1, r2] ((1, 2) :: st) mem Post) := zrf rfl
theorem s_44_54_2 {E : yE} {n d : Nat} {mem : yMem} {Post : Option yV → yMem → Prop} {st : List yV} {r0 r1 r2 : Option yV} : zvc E (n + 1) [] d xm_44 54 [r0, r1, r2] ((1, 2) :: st) mem Post = (zvc E n [] d xm_44 57 [r0, r1, r2] ((1, 19) :: st) mem Post) := zrf rfl
theorem s_44_54_28 {E : yE} {n d : Nat} {mem : yMem} {Post : Option yV → yMem → Prop} {st : List yV} {r0 r1 r2 : Option yV} : zvc E (n + 1) [] d xm_44 54 [r0, r1, r2] ((1, 28) :: st) mem Post = (zvc E n [] d xm_44 57 [r0, r1, r2] ((1, 45) :: st) mem Post) := zrf rfl
theorem s_44_57 {E : yE} {n d : Nat} {mem : yMem} {Post : Option yV → yMem → Prop} {st : List yV} {r0 r2 : Option yV} {x : Int} : zvc E (n + 1) [] d xm_44 57 [r0, some (0, x), r2] (st) mem Post = (zvc E n [] d xm_44 58 [r0, some (0, x), r2] ((0, x) :: st) mem Post) := zrf rfl
theorem s_44_58 {E : yE} {n d : Nat} {mem : yMem} {Post : Option yV → yMem → Prop} {st : List yV} {r0 r1 : Option yV} {x : Int} : zvc E (n + 1) [] d xm_44 58 [r0, r1, some (0, x)] (st) mem Post = (zvc E n [] d xm_44 59 [r0, r1, some (0, x)] ((0, x) :: st) mem Post) := zrf rfl
theorem s_44_59 {E : yE} {n d : Nat} {mem : yMem} {Post : Option yV → yMem → Prop} {st : List yV} {r0 r1 r2 : Option yV} : zvc E (n + 1) [] d xm_44 59 [r0, r1, r2] (st) mem Post = (zvc E n [] d xm_44 60 [r0, r1, r2] ((0, 1) :: st) mem Post) := zrf rfl
theorem s_44_60 {E : yE} {n d : Nat} {mem : yMem} {Post : Option yV → yMem → Prop} {st : List yV} {r0 r1 r2 : Option yV} {x y : Int} : zvc E (n + 1) [] d xm_44 60 [r0, r1, r2] ((0, y) :: (0, x) :: st) mem Post = (zvc E n [] d xm_44 61 [r0, r1, r2] ((0, x - y) :: st) mem Post) := zrf rfl
theorem s_44_61 {E : yE} {n d : Nat} {mem : yMem} {Post : Option yV → yMem → Prop} {st : List yV} {r0 r1 r2 : Option yV} {a0 a1 : Int} : zvc E (n + 1) [] (d + 1) xm_44 61 [r0, r1, r2] ((0, a1) :: (0, a0) :: st) mem Post = (True ∧ ysum st ≤ 8 ∧ zvc E n [] d xm_34 0 [some (0, a0), some (0, a1)] [] mem (fun v mem' => zvk E n [] (d + 1) xm_44 64 [r0, r1, r2] st v mem' Post)) := zrf rfl
theorem s_44_64 {E : yE} {n d : Nat} {mem : yMem} {Post : Option yV → yMem → Prop} {st : List yV} {r0 r1 r2 : Option yV} {z j : Int} : zvc E (n + 1) [] d xm_44 64 [r0, r1, r2] ((0, j) :: (1, z) :: st) mem Post = ((0 ≤ w32 j ∧ w32 j < ((zar z 0 : Nat) : Int)) ∧ zvc E n [] d xm_44 65 [r0, r1, r2] ((0, mem z.toNat (w32 j).toNat) :: st) mem Post) := zrf rfl
theorem s_44_65 {E : yE} {n d : Nat} {mem : yMem} {Post : Option yV → yMem → Prop} {r0 r1 r2 : Option yV} {x : Int} : zvc E (n + 1) [] d xm_44 65 [r0, r1, r2] ([(0, x)]) mem Post = (Post (some (0, x)) mem) := zrf rfl
theorem s_78_0 {E : yE} {n d : Nat} {mem : yMem} {Post : Option yV → yMem → Prop} {st : List yV} {r1 r2 : Option yV} {x : Int} : zvc E (n + 1) [] d xm_78 0 [some (1, x), r1, r2] (st) mem Post = (zvc E n [] d xm_78 1 [some (1, x), r1, r2] ((1, x) :: st) mem Post) := zrf rfl
theorem s_78_1_2 {E : yE} {n d : Nat} {mem : yMem} {Post : Option yV → yMem → Prop} {st : List yV} {r0 r1 r2 : Option yV} : zvc E (n + 1) [] d xm_78 1 [r0, r1, r2] ((1, 2) :: st) mem Post = (zvc E n [] d xm_78 4 [r0, r1, r2] ((1, 7) :: st) mem Post) := zrf rfl
theorem s_78_1_28 {E : yE} {n d : Nat} {mem : yMem} {Post : Option yV → yMem → Prop} {st : List yV} {r0 r1 r2 : Option yV} : zvc E (n + 1) [] d xm_78 1 [r0, r1, r2] ((1, 28) :: st) mem Post = (zvc E n [] d xm_78 4 [r0, r1, r2] ((1, 33) :: st) mem Post) := zrf rfl
theorem s_78_4 {E : yE} {n d : Nat} {mem : yMem} {Post : Option yV → yMem → Prop} {st : List yV} {r0 r2 : Option yV} {x : Int} : zvc E (n + 1) [] d xm_78 4 [r0, some (0, x), r2] (st) mem Post = (zvc E n [] d xm_78 5 [r0, some (0, x), r2] ((0, x) :: st) mem Post) := zrf rfl
theorem s_78_5 {E : yE} {n d : Nat} {mem : yMem} {Post : Option yV → yMem → Prop} {st : List yV} {r0 r1 r2 : Option yV} {z a0 : Int} : zvc E (n + 1) [] (d + 1) xm_78 5 [r0, r1, r2] ((0, a0) :: (1, z) :: st) mem Post = (zio z 6 = true ∧ ysum st ≤ 8 ∧ zvc E n [] d xm_103 0 [some (1, z), some (0, a0)] [] mem (fun v mem' => zvk E n [] (d + 1) xm_78 8 [r0, r1, r2] st v mem' Post)) := zrf rfl
theorem s_78_8 {E : yE} {n d : Nat} {mem : yMem} {Post : Option yV → yMem → Prop} {st : List yV} {r0 r1 r2 : Option yV} {x : Int} : zvc E (n + 1) [] d xm_78 8 [r0, r1, r2] ((0, x) :: st) mem Post = ((w32 x = w32 0 → zvc E n [] d xm_78 29 [r0, r1, r2] (st) mem Post) ∧ (¬ (w32 x = w32 0) → zvc E n [] d xm_78 11 [r0, r1, r2] (st) mem Post)) := zrf rfl
theorem s_78_11 {E : yE} {n d : Nat} {mem : yMem} {Post : Option yV → yMem → Prop} {st : List yV} {r0 r1 : Option yV} {x : Int} : zvc E (n + 1) [] d xm_78 11 [r0, r1, some (0, x)] (st) mem Post = (zvc E n [] d xm_78 12 [r0, r1, some (0, x)] ((0, x) :: st) mem Post) := zrf rfl
theorem s_78_12 {E : yE} {n d : Nat} {mem : yMem} {Post : Option yV → yMem → Prop} {st : List yV} {r0 r1 r2 : Option yV} {x : Int} : zvc E (n + 1) [] d xm_78 12 [r0, r1, r2] ((0, x) :: st) mem Post = ((w32 x < w32 0 → zvc E n [] d xm_78 29 [r0, r1, r2] (st) mem Post) ∧ (¬ (w32 x < w32 0) → zvc E n [] d xm_78 15 [r0, r1, r2] (st) mem Post)) := zrf rfl
theorem s_78_15 {E : yE} {n d : Nat} {mem : yMem} {Post : Option yV → yMem → Prop} {st : List yV} {r0 r1 : Option yV} {x : Int} : zvc E (n + 1) [] d xm_78 15 [r0, r1, some (0, x)] (st) mem Post = (zvc E n [] d xm_78 16 [r0, r1, some (0, x)] ((0, x) :: st) mem Post) := zrf rfl
theorem s_78_16 {E : yE} {n d : Nat} {mem : yMem} {Post : Option yV → yMem → Prop} {st : List yV} {r1 r2 : Option yV} {x : Int} : zvc E (n + 1) [] d xm_78 16 [some (1, x), r1, r2] (st) mem Post = (zvc E n [] d xm_78 17 [some (1, x), r1, r2] ((1, x) :: st) mem Post) := zrf rfl
theorem s_78_17_2 {E : yE} {n d : Nat} {mem : yMem} {Post : Option yV → yMem → Prop} {st : List yV} {r0 r1 r2 : Option yV} : zvc E (n + 1) [] d xm_78 17 [r0, r1, r2] ((1, 2) :: st) mem Post = (zvc E n [] d xm_78 20 [r0, r1, r2] ((1, 18) :: st) mem Post) := zrf rfl
theorem s_78_17_28 {E : yE} {n d : Nat} {mem : yMem} {Post : Option yV → yMem → Prop} {st : List yV} {r0 r1 r2 : Option yV} : zvc E (n + 1) [] d xm_78 17 [r0, r1, r2] ((1, 28) :: st) mem Post = (zvc E n [] d xm_78 20 [r0, r1, r2] ((1, 44) :: st) mem Post) := zrf rfl
theorem s_78_20 {E : yE} {n d : Nat} {mem : yMem} {Post : Option yV → yMem → Prop} {st : List yV} {r0 r2 : Option yV} {x : Int} : zvc E (n + 1) [] d xm_78 20 [r0, some (0, x), r2] (st) mem Post = (zvc E n [] d xm_78 21 [r0, some (0, x), r2] ((0, x) :: st) mem Post) := zrf rfl
theorem s_78_21 {E : yE} {n d : Nat} {mem : yMem} {Post : Option yV → yMem → Prop} {st : List yV} {r0 r1 r2 : Option yV} {z j : Int} : zvc E (n + 1) [] d xm_78 21 [r0, r1, r2] ((0, j) :: (1, z) :: st) mem Post = ((0 ≤ w32 j ∧ w32 j < ((zar z 0 : Nat) : Int)) ∧ zvc E n [] d xm_78 22 [r0, r1, r2] ((0, mem z.toNat (w32 j).toNat) :: st) mem Post) := zrf rfl
theorem s_78_22 {E : yE} {n d : Nat} {mem : yMem} {Post : Option yV → yMem → Prop} {st : List yV} {r0 r1 r2 : Option yV} {x y : Int} : zvc E (n + 1) [] d xm_78 22 [r0, r1, r2] ((0, y) :: (0, x) :: st) mem Post = ((w32 y ≤ w32 x → zvc E n [] d xm_78 29 [r0, r1, r2] (st) mem Post) ∧ (¬ (w32 y ≤ w32 x) → zvc E n [] d xm_78 25 [r0, r1, r2] (st) mem Post)) := zrf rfl
theorem s_78_25 {E : yE} {n d : Nat} {mem : yMem} {Post : Option yV → yMem → Prop} {st : List yV} {r0 r1 r2 : Option yV} : zvc E (n + 1) [] d xm_78 25 [r0, r1, r2] (st) mem Post = (zvc E n [] d xm_78 26 [r0, r1, r2] ((0, 1) :: st) mem Post) := zrf rfl
theorem s_78_26 {E : yE} {n d : Nat} {mem : yMem} {Post : Option yV → yMem → Prop} {st : List yV} {r0 r1 r2 : Option yV} : zvc E (n + 1) [] d xm_78 26 [r0, r1, r2] (st) mem Post = (zvc E n [] d xm_78 30 [r0, r1, r2] (st) mem Post) := zrf rfl
theorem s_78_29 {E : yE} {n d : Nat} {mem : yMem} {Post : Option yV → yMem → Prop} {st : List yV} {r0 r1 r2 : Option yV} : zvc E (n + 1) [] d xm_78 29 [r0, r1, r2] (st) mem Post = (zvc E n [] d xm_78 30 [r0, r1, r2] ((0, 0) :: st) mem Post) := zrf rfl
theorem s_78_30 {E : yE} {n d : Nat} {mem : yMem} {Post : Option yV → yMem → Prop} {r0 r1 r2 : Option yV} {x : Int} : zvc E (n + 1) [] d xm_78 30 [r0, r1, r2] ([(0, x)]) mem Post = ((w32 x = 0 ∨ w32 x = 1) ∧ Post (some (0, x)) mem) := zrf rfl
theorem s_25_0 {E : yE} {n d : Nat} {mem : yMem} {Post : Option yV → yMem → Prop} {st : List yV} {r1 r2 r3 r4 : Option yV} {x : Int} : zvc E (n + 1) [] d xm_25 0 [some (1, x), r1, r2, r3, r4] (st) mem Post = (zvc E n [] d xm_25 1 [some (1, x), r1, r2, r3, r4] ((1, x) :: st) mem Post) := zrf rfl
theorem s_25_1 {E : yE} {n d : Nat} {mem : yMem} {Post : Option yV → yMem → Prop} {st : List yV} {r0 r1 r2 r3 r4 : Option yV} : zvc E (n + 1) [] d xm_25 1 [r0, r1, r2, r3, r4] ((1, 0) :: st) mem Post = (zvc E n [] d xm_25 4 [r0, r1, r2, r3, r4] ((1, 2) :: st) mem Post) := zrf rfl
theorem s_25_4 {E : yE} {n d : Nat} {mem : yMem} {Post : Option yV → yMem → Prop} {st : List yV} {r0 r2 r3 r4 : Option yV} {x : Int} : zvc E (n + 1) [] d xm_25 4 [r0, some (0, x), r2, r3, r4] (st) mem Post = (zvc E n [] d xm_25 5 [r0, some (0, x), r2, r3, r4] ((0, x) :: st) mem Post) := zrf rfl
theorem s_25_5 {E : yE} {n d : Nat} {mem : yMem} {Post : Option yV → yMem → Prop} {st : List yV} {r0 r1 r3 r4 : Option yV} {x : Int} : zvc E (n + 1) [] d xm_25 5 [r0, r1, some (0, x), r3, r4] (st) mem Post = (zvc E n [] d xm_25 6 [r0, r1, some (0, x), r3, r4] ((0, x) :: st) mem Post) := zrf rfl
theorem s_25_6 {E : yE} {n d : Nat} {mem : yMem} {Post : Option yV → yMem → Prop} {st : List yV} {r0 r1 r2 r3 r4 : Option yV} {z a0 a1 : Int} : zvc E (n + 1) [] (d + 1) xm_25 6 [r0, r1, r2, r3, r4] ((0, a1) :: (0, a0) :: (1, z) :: st) mem Post = (zio z 4 = true ∧ ysum st ≤ 8 ∧ zvc E n [] d xm_78 0 [some (1, z), some (0, a0), some (0, a1)] [] mem (fun v mem' => zvk E n [] (d + 1) xm_25 9 [r0, r1, r2, r3, r4] st v mem' Post)) := zrf rfl
theorem s_25_9 {E : yE} {n d : Nat} {mem : yMem} {Post : Option yV → yMem → Prop} {st : List yV} {r0 r1 r2 r3 r4 : Option yV} {x : Int} : zvc E (n + 1) [] d xm_25 9 [r0, r1, r2, r3, r4] ((0, x) :: st) mem Post = ((¬ w32 x = w32 0 → zvc E n [] d xm_25 14 [r0, r1, r2, r3, r4] (st) mem Post) ∧ (¬ (¬ w32 x = w32 0) → zvc E n [] d xm_25 12 [r0, r1, r2, r3, r4] (st) mem Post)) := zrf rfl
theorem s_25_12 {E : yE} {n d : Nat} {mem : yMem} {Post : Option yV → yMem → Prop} {st : List yV} {r0 r1 r2 r3 r4 : Option yV} : zvc E (n + 1) [] d xm_25 12 [r0, r1, r2, r3, r4] (st) mem Post = (zvc E n [] d xm_25 13 [r0, r1, r2, r3, r4] ((0, (-1)) :: st) mem Post) := zrf rfl
theorem s_25_13 {E : yE} {n d : Nat} {mem : yMem} {Post : Option yV → yMem → Prop} {r0 r1 r2 r3 r4 : Option yV} {x : Int} : zvc E (n + 1) [] d xm_25 13 [r0, r1, r2, r3, r4] ([(0, x)]) mem Post = (Post (some (0, x)) mem) := zrf rfl
theorem s_25_14 {E : yE} {n d : Nat} {mem : yMem} {Post : Option yV → yMem → Prop} {st : List yV} {r0 r2 r3 r4 : Option yV} {x : Int} : zvc E (n + 1) [] d xm_25 14 [r0, some (0, x), r2, r3, r4] (st) mem Post = (zvc E n [] d xm_25 15 [r0, some (0, x), r2, r3, r4] ((0, x) :: st) mem Post) := zrf rfl
theorem s_25_15 {E : yE} {n d : Nat} {mem : yMem} {Post : Option yV → yMem → Prop} {st : List yV} {r0 r1 r3 r4 : Option yV} {x : Int} : zvc E (n + 1) [] d xm_25 15 [r0, r1, some (0, x), r3, r4] (st) mem Post = (zvc E n [] d xm_25 16 [r0, r1, some (0, x), r3, r4] ((0, x) :: st) mem Post) := zrf rfl
theorem s_25_16 {E : yE} {n d : Nat} {mem : yMem} {Post : Option yV → yMem → Prop} {st : List yV} {r0 r1 r2 r3 r4 : Option yV} {a0 a1 : Int} : zvc E (n + 1) [] (d + 1) xm_25 16 [r0, r1, r2, r3, r4] ((0, a1) :: (0, a0) :: st) mem Post = (True ∧ ysum st ≤ 8 ∧ zvc E n [] d xm_34 0 [some (0, a0), some (0, a1)] [] mem (fun v mem' => zvk E n [] (d + 1) xm_25 19 [r0, r1, r2, r3, r4] st v mem' Post)) := zrf rfl
theorem s_25_19n {E : yE} {n d : Nat} {mem : yMem} {Post : Option yV → yMem → Prop} {st : List yV} {r0 r1 r2 r4 : Option yV} {x : Int} : zvc E (n + 1) [] d xm_25 19 [r0, r1, r2, none, r4] ((0, x) :: st) mem Post = (zvc E n [] d xm_25 21 [r0, r1, r2, none, some (0, x)] (st) mem Post) := zrf rfl
theorem s_25_19i {E : yE} {n d : Nat} {mem : yMem} {Post : Option yV → yMem → Prop} {st : List yV} {r0 r1 r2 r4 : Option yV} {x w : Int} : zvc E (n + 1) [] d xm_25 19 [r0, r1, r2, some (0, w), r4] ((0, x) :: st) mem Post = (zvc E n [] d xm_25 21 [r0, r1, r2, some (0, w), some (0, x)] (st) mem Post) := zrf rfl
theorem s_25_19p {E : yE} {n d : Nat} {mem : yMem} {Post : Option yV → yMem → Prop} {st : List yV} {r0 r1 r2 r4 : Option yV} {x w : Int} : zvc E (n + 1) [] d xm_25 19 [r0, r1, r2, some (1, w), r4] ((0, x) :: st) mem Post = (zvc E n [] d xm_25 21 [r0, r1, r2, some (1, w), some (0, x)] (st) mem Post) := zrf rfl
theorem s_25_19j {E : yE} {n d : Nat} {mem : yMem} {Post : Option yV → yMem → Prop} {st : List yV} {r0 r1 r2 r3 r4 : Option yV} {x : Int} : zvc E (n + 1) [] d xm_25 19 [r0, r1, r2, r3, r4] ((0, x) :: st) mem Post = (zvc E n [] d xm_25 21 [r0, r1, r2, znl r3, some (0, x)] (st) mem Post) := zrf rfl
theorem s_25_21 {E : yE} {n d : Nat} {mem : yMem} {Post : Option yV → yMem → Prop} {st : List yV} {r0 r1 r2 r4 : Option yV} {x : Int} : zvc E (n + 1) [] d xm_25 21 [r0, r1, r2, some (0, x), r4] (st) mem Post = (zvc E n [] d xm_25 22 [r0, r1, r2, some (0, x), r4] ((0, x) :: st) mem Post) := zrf rfl
theorem s_25_22 {E : yE} {n d : Nat} {mem : yMem} {Post : Option yV → yMem → Prop} {st : List yV} {r0 r1 r2 r3 r4 : Option yV} {x : Int} : zvc E (n + 1) [] d xm_25 22 [r0, r1, r2, r3, r4] ((0, x) :: st) mem Post = ((w32 x < w32 0 → zvc E n [] d xm_25 52 [r0, r1, r2, r3, r4] (st) mem Post) ∧ (¬ (w32 x < w32 0) → zvc E n [] d xm_25 25 [r0, r1, r2, r3, r4] (st) mem Post)) := zrf rfl
theorem s_25_25 {E : yE} {n d : Nat} {mem : yMem} {Post : Option yV → yMem → Prop} {st : List yV} {r0 r1 r2 r4 : Option yV} {x : Int} : zvc E (n + 1) [] d xm_25 25 [r0, r1, r2, some (0, x), r4] (st) mem Post = (zvc E n [] d xm_25 26 [r0, r1, r2, some (0, x), r4] ((0, x) :: st) mem Post) := zrf rfl
theorem s_25_26 {E : yE} {n d : Nat} {mem : yMem} {Post : Option yV → yMem → Prop} {st : List yV} {r1 r2 r3 r4 : Option yV} {x : Int} : zvc E (n + 1) [] d xm_25 26 [some (1, x), r1, r2, r3, r4] (st) mem Post = (zvc E n [] d xm_25 27 [some (1, x), r1, r2, r3, r4] ((1, x) :: st) mem Post) := zrf rfl
theorem s_25_27 {E : yE} {n d : Nat} {mem : yMem} {Post : Option yV → yMem → Prop} {st : List yV} {r0 r1 r2 r3 r4 : Option yV} : zvc E (n + 1) [] d xm_25 27 [r0, r1, r2, r3, r4] ((1, 0) :: st) mem Post = (zvc E n [] d xm_25 30 [r0, r1, r2, r3, r4] ((1, 2) :: st) mem Post) := zrf rfl
theorem s_25_30_2 {E : yE} {n d : Nat} {mem : yMem} {Post : Option yV → yMem → Prop} {st : List yV} {r0 r1 r2 r3 r4 : Option yV} : zvc E (n + 1) [] d xm_25 30 [r0, r1, r2, r3, r4] ((1, 2) :: st) mem Post = (zvc E n [] d xm_25 33 [r0, r1, r2, r3, r4] ((1, 19) :: st) mem Post) := zrf rfl
theorem s_25_30_28 {E : yE} {n d : Nat} {mem : yMem} {Post : Option yV → yMem → Prop} {st : List yV} {r0 r1 r2 r3 r4 : Option yV} : zvc E (n + 1) [] d xm_25 30 [r0, r1, r2, r3, r4] ((1, 28) :: st) mem Post = (zvc E n [] d xm_25 33 [r0, r1, r2, r3, r4] ((1, 45) :: st) mem Post) := zrf rfl
theorem s_25_33 {E : yE} {n d : Nat} {mem : yMem} {Post : Option yV → yMem → Prop} {st : List yV} {r0 r1 r2 r3 : Option yV} {x : Int} : zvc E (n + 1) [] d xm_25 33 [r0, r1, r2, r3, some (0, x)] (st) mem Post = (zvc E n [] d xm_25 35 [r0, r1, r2, r3, some (0, x)] ((0, x) :: st) mem Post) := zrf rfl
theorem s_25_35 {E : yE} {n d : Nat} {mem : yMem} {Post : Option yV → yMem → Prop} {st : List yV} {r0 r1 r2 r3 r4 : Option yV} {z j : Int} : zvc E (n + 1) [] d xm_25 35 [r0, r1, r2, r3, r4] ((0, j) :: (1, z) :: st) mem Post = ((0 ≤ w32 j ∧ w32 j < ((zar z 0 : Nat) : Int)) ∧ zvc E n [] d xm_25 36 [r0, r1, r2, r3, r4] ((0, mem z.toNat (w32 j).toNat) :: st) mem Post) := zrf rfl
theorem s_25_36 {E : yE} {n d : Nat} {mem : yMem} {Post : Option yV → yMem → Prop} {st : List yV} {r0 r1 r2 r3 r4 : Option yV} {x y : Int} : zvc E (n + 1) [] d xm_25 36 [r0, r1, r2, r3, r4] ((0, y) :: (0, x) :: st) mem Post = ((w32 y ≤ w32 x → zvc E n [] d xm_25 52 [r0, r1, r2, r3, r4] (st) mem Post) ∧ (¬ (w32 y ≤ w32 x) → zvc E n [] d xm_25 39 [r0, r1, r2, r3, r4] (st) mem Post)) := zrf rfl
theorem s_25_39 {E : yE} {n d : Nat} {mem : yMem} {Post : Option yV → yMem → Prop} {st : List yV} {r1 r2 r3 r4 : Option yV} {x : Int} : zvc E (n + 1) [] d xm_25 39 [some (1, x), r1, r2, r3, r4] (st) mem Post = (zvc E n [] d xm_25 40 [some (1, x), r1, r2, r3, r4] ((1, x) :: st) mem Post) := zrf rfl
theorem s_25_40 {E : yE} {n d : Nat} {mem : yMem} {Post : Option yV → yMem → Prop} {st : List yV} {r0 r1 r2 r3 r4 : Option yV} : zvc E (n + 1) [] d xm_25 40 [r0, r1, r2, r3, r4] ((1, 0) :: st) mem Post = (zvc E n [] d xm_25 43 [r0, r1, r2, r3, r4] ((1, 2) :: st) mem Post) := zrf rfl
theorem s_25_43 {E : yE} {n d : Nat} {mem : yMem} {Post : Option yV → yMem → Prop} {st : List yV} {r0 r1 r2 r3 : Option yV} {x : Int} : zvc E (n + 1) [] d xm_25 43 [r0, r1, r2, r3, some (0, x)] (st) mem Post = (zvc E n [] d xm_25 45 [r0, r1, r2, r3, some (0, x)] ((0, x) :: st) mem Post) := zrf rfl
theorem s_25_45 {E : yE} {n d : Nat} {mem : yMem} {Post : Option yV → yMem → Prop} {st : List yV} {r0 r1 r2 r4 : Option yV} {x : Int} : zvc E (n + 1) [] d xm_25 45 [r0, r1, r2, some (0, x), r4] (st) mem Post = (zvc E n [] d xm_25 46 [r0, r1, r2, some (0, x), r4] ((0, x) :: st) mem Post) := zrf rfl
theorem s_25_46 {E : yE} {n d : Nat} {mem : yMem} {Post : Option yV → yMem → Prop} {st : List yV} {r0 r1 r2 r3 r4 : Option yV} {z a0 a1 : Int} : zvc E (n + 1) [] (d + 1) xm_25 46 [r0, r1, r2, r3, r4] ((0, a1) :: (0, a0) :: (1, z) :: st) mem Post = (zio z 4 = true ∧ ysum st ≤ 8 ∧ zvc E n [] d xm_82 0 [some (1, z), some (0, a0), some (0, a1)] [] mem (fun v mem' => zvk E n [] (d + 1) xm_25 49 [r0, r1, r2, r3, r4] st v mem' Post)) := zrf rfl
theorem s_25_49 {E : yE} {n d : Nat} {mem : yMem} {Post : Option yV → yMem → Prop} {st : List yV} {r0 r1 r2 r3 r4 : Option yV} : zvc E (n + 1) [] d xm_25 49 [r0, r1, r2, r3, r4] (st) mem Post = (zvc E n [] d xm_25 53 [r0, r1, r2, r3, r4] (st) mem Post) := zrf rfl
theorem s_25_52 {E : yE} {n d : Nat} {mem : yMem} {Post : Option yV → yMem → Prop} {st : List yV} {r0 r1 r2 r3 r4 : Option yV} : zvc E (n + 1) [] d xm_25 52 [r0, r1, r2, r3, r4] (st) mem Post = (zvc E n [] d xm_25 53 [r0, r1, r2, r3, r4] ((0, (-1)) :: st) mem Post) := zrf rfl
theorem s_25_53 {E : yE} {n d : Nat} {mem : yMem} {Post : Option yV → yMem → Prop} {r0 r1 r2 r3 r4 : Option yV} {x : Int} : zvc E (n + 1) [] d xm_25 53 [r0, r1, r2, r3, r4] ([(0, x)]) mem Post = (Post (some (0, x)) mem) := zrf rfl
theorem s_82_0 {E : yE} {n d : Nat} {mem : yMem} {Post : Option yV → yMem → Prop} {st : List yV} {r1 r2 : Option yV} {x : Int} : zvc E (n + 1) [] d xm_82 0 [some (1, x), r1, r2] (st) mem Post = (zvc E n [] d xm_82 1 [some (1, x), r1, r2] ((1, x) :: st) mem Post) := zrf rfl
theorem s_82_1_2 {E : yE} {n d : Nat} {mem : yMem} {Post : Option yV → yMem → Prop} {st : List yV} {r0 r1 r2 : Option yV} : zvc E (n + 1) [] d xm_82 1 [r0, r1, r2] ((1, 2) :: st) mem Post = (zvc E n [] d xm_82 4 [r0, r1, r2] ((1, 20) :: st) mem Post) := zrf rfl
theorem s_82_1_28 {E : yE} {n d : Nat} {mem : yMem} {Post : Option yV → yMem → Prop} {st : List yV} {r0 r1 r2 : Option yV} : zvc E (n + 1) [] d xm_82 1 [r0, r1, r2] ((1, 28) :: st) mem Post = (zvc E n [] d xm_82 4 [r0, r1, r2] ((1, 46) :: st) mem Post) := zrf rfl
theorem s_82_4 {E : yE} {n d : Nat} {mem : yMem} {Post : Option yV → yMem → Prop} {st : List yV} {r0 r2 : Option yV} {x : Int} : zvc E (n + 1) [] d xm_82 4 [r0, some (0, x), r2] (st) mem Post = (zvc E n [] d xm_82 5 [r0, some (0, x), r2] ((0, x) :: st) mem Post) := zrf rfl
theorem s_82_5 {E : yE} {n d : Nat} {mem : yMem} {Post : Option yV → yMem → Prop} {st : List yV} {r0 r1 r2 : Option yV} : zvc E (n + 1) [] d xm_82 5 [r0, r1, r2] (st) mem Post = (zvc E n [] d xm_82 7 [r0, r1, r2] ((0, 8) :: st) mem Post) := zrf rfl
theorem s_82_7 {E : yE} {n d : Nat} {mem : yMem} {Post : Option yV → yMem → Prop} {st : List yV} {r0 r1 r2 : Option yV} {x y : Int} : zvc E (n + 1) [] d xm_82 7 [r0, r1, r2] ((0, y) :: (0, x) :: st) mem Post = (zvc E n [] d xm_82 8 [r0, r1, r2] ((0, x * y) :: st) mem Post) := zrf rfl
theorem s_82_8 {E : yE} {n d : Nat} {mem : yMem} {Post : Option yV → yMem → Prop} {st : List yV} {r0 r1 : Option yV} {x : Int} : zvc E (n + 1) [] d xm_82 8 [r0, r1, some (0, x)] (st) mem Post = (zvc E n [] d xm_82 9 [r0, r1, some (0, x)] ((0, x) :: st) mem Post) := zrf rfl
theorem s_82_9 {E : yE} {n d : Nat} {mem : yMem} {Post : Option yV → yMem → Prop} {st : List yV} {r0 r1 r2 : Option yV} {x y : Int} : zvc E (n + 1) [] d xm_82 9 [r0, r1, r2] ((0, y) :: (0, x) :: st) mem Post = (zvc E n [] d xm_82 10 [r0, r1, r2] ((0, x + y) :: st) mem Post) := zrf rfl
theorem s_82_10 {E : yE} {n d : Nat} {mem : yMem} {Post : Option yV → yMem → Prop} {st : List yV} {r0 r1 r2 : Option yV} {z j : Int} : zvc E (n + 1) [] d xm_82 10 [r0, r1, r2] ((0, j) :: (1, z) :: st) mem Post = ((0 ≤ w32 j ∧ w32 j < ((zar z 0 : Nat) : Int)) ∧ zvc E n [] d xm_82 11 [r0, r1, r2] ((0, mem z.toNat (w32 j).toNat) :: st) mem Post) := zrf rfl
theorem s_82_11 {E : yE} {n d : Nat} {mem : yMem} {Post : Option yV → yMem → Prop} {r0 r1 r2 : Option yV} {x : Int} : zvc E (n + 1) [] d xm_82 11 [r0, r1, r2] ([(0, x)]) mem Post = (Post (some (0, x)) mem) := zrf rfl
theorem s_216_0 {E : yE} {n d : Nat} {mem : yMem} {Post : Option yV → yMem → Prop} {st : List yV} {r1 r2 r3 : Option yV} {x : Int} : zvc E (n + 1) [] d xm_216 0 [some (1, x), r1, r2, r3] (st) mem Post = (zvc E n [] d xm_216 1 [some (1, x), r1, r2, r3] ((1, x) :: st) mem Post) := zrf rfl
theorem s_216_1 {E : yE} {n d : Nat} {mem : yMem} {Post : Option yV → yMem → Prop} {st : List yV} {r0 r1 r2 r3 : Option yV} : zvc E (n + 1) [] d xm_216 1 [r0, r1, r2, r3] (st) mem Post = (zvc E n [] d xm_216 2 [r0, r1, r2, r3] ((0, 0) :: st) mem Post) := zrf rfl
theorem s_216_2 {E : yE} {n d : Nat} {mem : yMem} {Post : Option yV → yMem → Prop} {st : List yV} {r0 r1 r2 r3 : Option yV} {x : Int} : zvc E (n + 1) [] d xm_216 2 [r0, r1, r2, r3] ((0, x) :: (1, 95) :: st) mem Post = (zvc E n [] d xm_216 5 [r0, r1, r2, r3] (st) (yset mem 95 0 x) Post) := zrf rfl
theorem s_216_5 {E : yE} {n d : Nat} {mem : yMem} {Post : Option yV → yMem → Prop} {st : List yV} {r1 r2 r3 : Option yV} {x : Int} : zvc E (n + 1) [] d xm_216 5 [some (1, x), r1, r2, r3] (st) mem Post = (zvc E n [] d xm_216 6 [some (1, x), r1, r2, r3] ((1, x) :: st) mem Post) := zrf rfl
theorem s_216_6 {E : yE} {n d : Nat} {mem : yMem} {Post : Option yV → yMem → Prop} {st : List yV} {r0 r2 r3 : Option yV} {x : Int} : zvc E (n + 1) [] d xm_216 6 [r0, some (0, x), r2, r3] (st) mem Post = (zvc E n [] d xm_216 7 [r0, some (0, x), r2, r3] ((0, x) :: st) mem Post) := zrf rfl
theorem s_216_7 {E : yE} {n d : Nat} {mem : yMem} {Post : Option yV → yMem → Prop} {st : List yV} {r0 r1 r3 : Option yV} {x : Int} : zvc E (n + 1) [] d xm_216 7 [r0, r1, some (0, x), r3] (st) mem Post = (zvc E n [] d xm_216 8 [r0, r1, some (0, x), r3] ((0, x) :: st) mem Post) := zrf rfl
theorem s_216_8 {E : yE} {n d : Nat} {mem : yMem} {Post : Option yV → yMem → Prop} {st : List yV} {r0 r1 r2 r3 : Option yV} {z a0 a1 : Int} : zvc E (n + 1) [] (d + 1) xm_216 8 [r0, r1, r2, r3] ((0, a1) :: (0, a0) :: (1, z) :: st) mem Post = (zio z 12 = true ∧ ysum st ≤ 8 ∧ zvc E n [] d xm_189 0 [some (1, z), some (0, a0), some (0, a1)] [] mem (fun v mem' => zvk E n [] (d + 1) xm_216 11 [r0, r1, r2, r3] st v mem' Post)) := zrf rfl
theorem s_216_11 {E : yE} {n d : Nat} {mem : yMem} {Post : Option yV → yMem → Prop} {st : List yV} {r0 r1 r2 r3 : Option yV} {x : Int} : zvc E (n + 1) [] d xm_216 11 [r0, r1, r2, r3] ((0, x) :: st) mem Post = ((w32 x = w32 0 → zvc E n [] d xm_216 50 [r0, r1, r2, r3] (st) mem Post) ∧ (¬ (w32 x = w32 0) → zvc E n [] d xm_216 14 [r0, r1, r2, r3] (st) mem Post)) := zrf rfl
theorem s_216_14 {E : yE} {n d : Nat} {mem : yMem} {Post : Option yV → yMem → Prop} {st : List yV} {r0 r1 r2 : Option yV} {x : Int} : zvc E (n + 1) [] d xm_216 14 [r0, r1, r2, some (0, x)] (st) mem Post = (zvc E n [] d xm_216 15 [r0, r1, r2, some (0, x)] ((0, x) :: st) mem Post) := zrf rfl
theorem s_216_15 {E : yE} {n d : Nat} {mem : yMem} {Post : Option yV → yMem → Prop} {st : List yV} {r0 r1 r2 r3 : Option yV} {x : Int} : zvc E (n + 1) [] d xm_216 15 [r0, r1, r2, r3] ((0, x) :: st) mem Post = ((w32 x < w32 0 → zvc E n [] d xm_216 50 [r0, r1, r2, r3] (st) mem Post) ∧ (¬ (w32 x < w32 0) → zvc E n [] d xm_216 18 [r0, r1, r2, r3] (st) mem Post)) := zrf rfl
theorem s_216_18 {E : yE} {n d : Nat} {mem : yMem} {Post : Option yV → yMem → Prop} {st : List yV} {r0 r1 r2 : Option yV} {x : Int} : zvc E (n + 1) [] d xm_216 18 [r0, r1, r2, some (0, x)] (st) mem Post = (zvc E n [] d xm_216 19 [r0, r1, r2, some (0, x)] ((0, x) :: st) mem Post) := zrf rfl
theorem s_216_19 {E : yE} {n d : Nat} {mem : yMem} {Post : Option yV → yMem → Prop} {st : List yV} {r1 r2 r3 : Option yV} {x : Int} : zvc E (n + 1) [] d xm_216 19 [some (1, x), r1, r2, r3] (st) mem Post = (zvc E n [] d xm_216 20 [some (1, x), r1, r2, r3] ((1, x) :: st) mem Post) := zrf rfl
theorem s_216_20 {E : yE} {n d : Nat} {mem : yMem} {Post : Option yV → yMem → Prop} {st : List yV} {r0 r1 r2 r3 : Option yV} : zvc E (n + 1) [] d xm_216 20 [r0, r1, r2, r3] ((1, 95) :: st) mem Post = (zvc E n [] d xm_216 23 [r0, r1, r2, r3] ((1, 110) :: st) mem Post) := zrf rfl
theorem s_216_23 {E : yE} {n d : Nat} {mem : yMem} {Post : Option yV → yMem → Prop} {st : List yV} {r0 r1 r2 r3 : Option yV} : zvc E (n + 1) [] d xm_216 23 [r0, r1, r2, r3] (st) mem Post = (zvc E n [] d xm_216 24 [r0, r1, r2, r3] ((0, 3) :: st) mem Post) := zrf rfl
theorem s_216_24 {E : yE} {n d : Nat} {mem : yMem} {Post : Option yV → yMem → Prop} {st : List yV} {r0 r2 r3 : Option yV} {x : Int} : zvc E (n + 1) [] d xm_216 24 [r0, some (0, x), r2, r3] (st) mem Post = (zvc E n [] d xm_216 25 [r0, some (0, x), r2, r3] ((0, x) :: st) mem Post) := zrf rfl
theorem s_216_25 {E : yE} {n d : Nat} {mem : yMem} {Post : Option yV → yMem → Prop} {st : List yV} {r0 r1 r2 r3 : Option yV} {x y : Int} : zvc E (n + 1) [] d xm_216 25 [r0, r1, r2, r3] ((0, y) :: (0, x) :: st) mem Post = (zvc E n [] d xm_216 26 [r0, r1, r2, r3] ((0, x * y) :: st) mem Post) := zrf rfl
theorem s_216_26 {E : yE} {n d : Nat} {mem : yMem} {Post : Option yV → yMem → Prop} {st : List yV} {r0 r1 r3 : Option yV} {x : Int} : zvc E (n + 1) [] d xm_216 26 [r0, r1, some (0, x), r3] (st) mem Post = (zvc E n [] d xm_216 27 [r0, r1, some (0, x), r3] ((0, x) :: st) mem Post) := zrf rfl
theorem s_216_27 {E : yE} {n d : Nat} {mem : yMem} {Post : Option yV → yMem → Prop} {st : List yV} {r0 r1 r2 r3 : Option yV} {x y : Int} : zvc E (n + 1) [] d xm_216 27 [r0, r1, r2, r3] ((0, y) :: (0, x) :: st) mem Post = (zvc E n [] d xm_216 28 [r0, r1, r2, r3] ((0, x + y) :: st) mem Post) := zrf rfl
theorem s_216_28 {E : yE} {n d : Nat} {mem : yMem} {Post : Option yV → yMem → Prop} {st : List yV} {r0 r1 r2 r3 : Option yV} {z j : Int} : zvc E (n + 1) [] d xm_216 28 [r0, r1, r2, r3] ((0, j) :: (1, z) :: st) mem Post = ((0 ≤ w32 j ∧ w32 j < ((zar z 0 : Nat) : Int)) ∧ zvc E n [] d xm_216 29 [r0, r1, r2, r3] ((0, mem z.toNat (w32 j).toNat) :: st) mem Post) := zrf rfl
theorem s_216_29 {E : yE} {n d : Nat} {mem : yMem} {Post : Option yV → yMem → Prop} {st : List yV} {r0 r1 r2 r3 : Option yV} {x y : Int} : zvc E (n + 1) [] d xm_216 29 [r0, r1, r2, r3] ((0, y) :: (0, x) :: st) mem Post = ((w32 y ≤ w32 x → zvc E n [] d xm_216 50 [r0, r1, r2, r3] (st) mem Post) ∧ (¬ (w32 y ≤ w32 x) → zvc E n [] d xm_216 32 [r0, r1, r2, r3] (st) mem Post)) := zrf rfl
theorem s_216_32 {E : yE} {n d : Nat} {mem : yMem} {Post : Option yV → yMem → Prop} {st : List yV} {r1 r2 r3 : Option yV} {x : Int} : zvc E (n + 1) [] d xm_216 32 [some (1, x), r1, r2, r3] (st) mem Post = (zvc E n [] d xm_216 33 [some (1, x), r1, r2, r3] ((1, x) :: st) mem Post) := zrf rfl
theorem s_216_33 {E : yE} {n d : Nat} {mem : yMem} {Post : Option yV → yMem → Prop} {st : List yV} {r0 r1 r2 r3 : Option yV} : zvc E (n + 1) [] d xm_216 33 [r0, r1, r2, r3] ((1, 95) :: st) mem Post = (zvc E n [] d xm_216 36 [r0, r1, r2, r3] ((1, 111) :: st) mem Post) := zrf rfl
theorem s_216_36 {E : yE} {n d : Nat} {mem : yMem} {Post : Option yV → yMem → Prop} {st : List yV} {r0 r1 r2 r3 : Option yV} : zvc E (n + 1) [] d xm_216 36 [r0, r1, r2, r3] (st) mem Post = (zvc E n [] d xm_216 38 [r0, r1, r2, r3] ((0, 8) :: st) mem Post) := zrf rfl
theorem s_216_38 {E : yE} {n d : Nat} {mem : yMem} {Post : Option yV → yMem → Prop} {st : List yV} {r0 r1 r2 r3 : Option yV} : zvc E (n + 1) [] d xm_216 38 [r0, r1, r2, r3] (st) mem Post = (zvc E n [] d xm_216 39 [r0, r1, r2, r3] ((0, 3) :: st) mem Post) := zrf rfl
theorem s_216_39 {E : yE} {n d : Nat} {mem : yMem} {Post : Option yV → yMem → Prop} {st : List yV} {r0 r2 r3 : Option yV} {x : Int} : zvc E (n + 1) [] d xm_216 39 [r0, some (0, x), r2, r3] (st) mem Post = (zvc E n [] d xm_216 40 [r0, some (0, x), r2, r3] ((0, x) :: st) mem Post) := zrf rfl
theorem s_216_40 {E : yE} {n d : Nat} {mem : yMem} {Post : Option yV → yMem → Prop} {st : List yV} {r0 r1 r2 r3 : Option yV} {x y : Int} : zvc E (n + 1) [] d xm_216 40 [r0, r1, r2, r3] ((0, y) :: (0, x) :: st) mem Post = (zvc E n [] d xm_216 41 [r0, r1, r2, r3] ((0, x * y) :: st) mem Post) := zrf rfl
theorem s_216_41 {E : yE} {n d : Nat} {mem : yMem} {Post : Option yV → yMem → Prop} {st : List yV} {r0 r1 r3 : Option yV} {x : Int} : zvc E (n + 1) [] d xm_216 41 [r0, r1, some (0, x), r3] (st) mem Post = (zvc E n [] d xm_216 42 [r0, r1, some (0, x), r3] ((0, x) :: st) mem Post) := zrf rfl
theorem s_216_42 {E : yE} {n d : Nat} {mem : yMem} {Post : Option yV → yMem → Prop} {st : List yV} {r0 r1 r2 r3 : Option yV} {x y : Int} : zvc E (n + 1) [] d xm_216 42 [r0, r1, r2, r3] ((0, y) :: (0, x) :: st) mem Post = (zvc E n [] d xm_216 43 [r0, r1, r2, r3] ((0, x + y) :: st) mem Post) := zrf rfl
theorem s_216_43 {E : yE} {n d : Nat} {mem : yMem} {Post : Option yV → yMem → Prop} {st : List yV} {r0 r1 r2 r3 : Option yV} {x y : Int} : zvc E (n + 1) [] d xm_216 43 [r0, r1, r2, r3] ((0, y) :: (0, x) :: st) mem Post = (zvc E n [] d xm_216 44 [r0, r1, r2, r3] ((0, x * y) :: st) mem Post) := zrf rfl
theorem s_216_44 {E : yE} {n d : Nat} {mem : yMem} {Post : Option yV → yMem → Prop} {st : List yV} {r0 r1 r2 : Option yV} {x : Int} : zvc E (n + 1) [] d xm_216 44 [r0, r1, r2, some (0, x)] (st) mem Post = (zvc E n [] d xm_216 45 [r0, r1, r2, some (0, x)] ((0, x) :: st) mem Post) := zrf rfl
theorem s_216_45 {E : yE} {n d : Nat} {mem : yMem} {Post : Option yV → yMem → Prop} {st : List yV} {r0 r1 r2 r3 : Option yV} {x y : Int} : zvc E (n + 1) [] d xm_216 45 [r0, r1, r2, r3] ((0, y) :: (0, x) :: st) mem Post = (zvc E n [] d xm_216 46 [r0, r1, r2, r3] ((0, x + y) :: st) mem Post) := zrf rfl
theorem s_216_46 {E : yE} {n d : Nat} {mem : yMem} {Post : Option yV → yMem → Prop} {st : List yV} {r0 r1 r2 r3 : Option yV} {z j : Int} : zvc E (n + 1) [] d xm_216 46 [r0, r1, r2, r3] ((0, j) :: (1, z) :: st) mem Post = ((0 ≤ w32 j ∧ w32 j < ((zar z 0 : Nat) : Int)) ∧ zvc E n [] d xm_216 47 [r0, r1, r2, r3] ((0, mem z.toNat (w32 j).toNat) :: st) mem Post) := zrf rfl
theorem s_216_47 {E : yE} {n d : Nat} {mem : yMem} {Post : Option yV → yMem → Prop} {st : List yV} {r0 r1 r2 r3 : Option yV} : zvc E (n + 1) [] d xm_216 47 [r0, r1, r2, r3] (st) mem Post = (zvc E n [] d xm_216 51 [r0, r1, r2, r3] (st) mem Post) := zrf rfl
theorem s_216_50 {E : yE} {n d : Nat} {mem : yMem} {Post : Option yV → yMem → Prop} {st : List yV} {r0 r1 r2 r3 : Option yV} : zvc E (n + 1) [] d xm_216 50 [r0, r1, r2, r3] (st) mem Post = (zvc E n [] d xm_216 51 [r0, r1, r2, r3] ((0, (-1)) :: st) mem Post) := zrf rfl
theorem s_216_51 {E : yE} {n d : Nat} {mem : yMem} {Post : Option yV → yMem → Prop} {r0 r1 r2 r3 : Option yV} {x : Int} : zvc E (n + 1) [] d xm_216 51 [r0, r1, r2, r3] ([(0, x)]) mem Post = (Post (some (0, x)) mem) := zrf rfl
theorem e_44 {E : yE} {d : Nat} {mem : yMem} {Q : Option yV → yMem → Prop} {z a0 a1 : Int} (h : zG E d xm_44 0 [some (1, z), some (0, a0), some (0, a1)] [] mem Q) : yCon E (d + 1) xm_44 [(1, z), (0, a0), (0, a1)] mem Q := zcon_of xmo_44 (Nat.le_of_ble_eq_true rfl) h
theorem e_78 {E : yE} {d : Nat} {mem : yMem} {Q : Option yV → yMem → Prop} {z a0 a1 : Int} (h : zG E d xm_78 0 [some (1, z), some (0, a0), some (0, a1)] [] mem Q) : yCon E (d + 1) xm_78 [(1, z), (0, a0), (0, a1)] mem Q := zcon_of xmo_78 (Nat.le_of_ble_eq_true rfl) h
theorem e_25 {E : yE} {d : Nat} {mem : yMem} {Q : Option yV → yMem → Prop} {z a0 a1 a2 : Int} (h : zG E d xm_25 0 [some (1, z), some (0, a0), some (0, a1), some (0, a2), none] [] mem Q) : yCon E (d + 1) xm_25 [(1, z), (0, a0), (0, a1), (0, a2)] mem Q := zcon_of xmo_25 (Nat.le_of_ble_eq_true rfl) h
theorem e_82 {E : yE} {d : Nat} {mem : yMem} {Q : Option yV → yMem → Prop} {z a0 a1 : Int} (h : zG E d xm_82 0 [some (1, z), some (0, a0), some (0, a1)] [] mem Q) : yCon E (d + 1) xm_82 [(1, z), (0, a0), (0, a1)] mem Q := zcon_of xmo_82 (Nat.le_of_ble_eq_true rfl) h
theorem e_216 {E : yE} {d : Nat} {mem : yMem} {Q : Option yV → yMem → Prop} {z a0 a1 a2 : Int} (h : zG E d xm_216 0 [some (1, z), some (0, a0), some (0, a1), some (0, a2)] [] mem Q) : yCon E (d + 1) xm_216 [(1, z), (0, a0), (0, a1), (0, a2)] mem Q := zcon_of xmo_216 (Nat.le_of_ble_eq_true rfl) h

/-! verse and pitch, on both sides -/
/-- tables that hold the VERSES -/
def eOk (ve : dVe) (n : Int) (f g h : Nat → Int) : Prop := (n = (ve.length : Int) ∧ ve.length ≤ 4) ∧ ∀ v, v < ve.length → (f v = ((dPt ve v).length : Int) ∧ (dPt ve v).length ≤ 3) ∧ ∀ p, p < (dPt ve v).length → (g (v * 3 + p) = ((dBr ve v p).length : Int) ∧ (dBr ve v p).length ≤ 8) ∧ ∀ j, j < (dBr ve v p).length → h ((v * 3 + p) * 8 + j) = (dBr ve v p).getD j 0
theorem getD_some {α : Type} {l : List α} {j : Nat} (d : α) (h : j < l.length) : l[j]? = some (l.getD j d) := by
  rw [List.getD_eq_getElem?_getD, List.getElem?_eq_getElem h]
  rfl
theorem eOk_of {ve : dVe} {n : Int} {f g h : Nat → Int} (hn : n = (ve.length : Int) ∧ ve.length ≤ 4) (hv : ∀ j t, ve[j]? = some t → t.2.length ≤ 3 ∧ f j = (t.2.length : Int) ∧ ∀ p q, t.2[p]? = some q → q.length ≤ 8 ∧ g (j * 3 + p) = (q.length : Int) ∧ ∀ i w, q[i]? = some w → h ((j * 3 + p) * 8 + i) = w) : eOk ve n f g h := by
  refine ⟨hn, fun v hlt => ?_⟩
  obtain ⟨a1, a2, a3⟩ := hv v _ (getD_some (0, []) hlt)
  refine ⟨⟨a2, a1⟩, fun p hp => ?_⟩
  obtain ⟨b1, b2, b3⟩ := a3 p _ (getD_some [] hp)
  exact ⟨⟨b2, b1⟩, fun j hj => b3 j _ (getD_some 0 hj)⟩
theorem cEh_ok {m : yMem} {D : dDc} (h : cDh m D) : eOk D.2.2.1 (w32 (m 7 1)) (fun j => w32 (m 18 j)) (fun j => w32 (m 19 j)) (fun j => w32 (m 20 j)) := by
  obtain ⟨-, -, ⟨c1, c2⟩, -⟩ := h
  have e1 := c1.1
  have e2 := c1.2.1
  rw [List.length_map] at e1 e2
  exact eOk_of ⟨e1, e2⟩ (fun j t hj => ⟨(c2 j t hj).1, (c2 j t hj).2.1, fun p q hq => (c2 j t hj).2.2 p q hq⟩)
theorem rEl_ok {m : yMem} {D : dDc} (h : rDl m D) : eOk D.2.2.1 (w32 (m 97 2)) (fun j => w32 (m 109 j)) (fun j => w32 (m 110 j)) (fun j => w32 (m 111 j)) := by
  obtain ⟨-, -, ⟨c1, c2⟩, -⟩ := h
  have e1 := c1.1
  have e2 := c1.2.1
  rw [List.length_map] at e1 e2
  exact eOk_of ⟨e1, e2⟩ (fun j t hj => ⟨(c2 j t hj).1, (c2 j t hj).2.1, fun p q hq => (c2 j t hj).2.2 p q hq⟩)
/-- what verse answers (q: what less 1) -/
def vRs (ve : dVe) (v w q r : Int) : Prop := r = if 0 ≤ v ∧ v < (ve.length : Int) then (if w = 0 then ((dPt ve v.toNat).length : Int) else if 0 ≤ q ∧ q < ((dPt ve v.toNat).length : Int) then ((dBr ve v.toNat q.toNat).length : Int) else -1) else -1
def pRs (ve : dVe) (v p b r : Int) : Prop := r = if (0 ≤ v ∧ v < (ve.length : Int)) ∧ (0 ≤ p ∧ p < ((dPt ve v.toNat).length : Int)) ∧ (0 ≤ b ∧ b < ((dBr ve v.toNat p.toNat).length : Int)) then (dBr ve v.toNat p.toNat).getD b.toNat 0 else -1
theorem w32_dn {w : Int} (h : w32 w < 0) : w32 (w - 1) < 0 ∨ w32 (w - 1) = 2147483647 := by
  by_cases h1 : w32 w = -2147483648
  · refine Or.inr ?_
    rw [w32_sub, h1, w32c_1]
    decide +kernel
  · have := w32_lo w
    rw [w32_sb (by rw [w32c_1]; omega) (by rw [w32c_1]; omega), w32c_1]
    exact Or.inl (by omega)
theorem ix_c {c v p : Int} (hc : w32 c = c) (h0 : 0 ≤ c * w32 v) (h1 : c * w32 v < 1000) (p0 : 0 ≤ w32 p) (p1 : w32 p < 1000) : w32 (c * v + p) = c * w32 v + w32 p := by
  have e : w32 (c * v) = c * w32 v := w32_k hc (by omega) (by omega)
  rw [w32_ad (by rw [e]; omega) (by rw [e]; omega), e]
theorem eOk_v {ve : dVe} {n : Int} {f g h : Nat → Int} (H : eOk ve n f g h) {v : Int} (v0 : 0 ≤ v) (v1 : v < n) : (v < (ve.length : Int) ∧ v < 4) ∧ (f v.toNat = ((dPt ve v.toNat).length : Int) ∧ (dPt ve v.toNat).length ≤ 3) := by
  obtain ⟨⟨a1, a2⟩, a3⟩ := H
  exact ⟨⟨by omega, by omega⟩, (a3 v.toNat (by omega)).1⟩
theorem eOk_p {ve : dVe} {n : Int} {f g h : Nat → Int} (H : eOk ve n f g h) {v p i : Int} (v0 : 0 ≤ v) (v1 : v < n) (p0 : 0 ≤ p) (p1 : p < f v.toNat) (hi : i = 3 * v + p) : (0 ≤ i ∧ i < 12) ∧ (p < ((dPt ve v.toNat).length : Int) ∧ p < 3) ∧ (g i.toNat = ((dBr ve v.toNat p.toNat).length : Int) ∧ (dBr ve v.toNat p.toNat).length ≤ 8) := by
  obtain ⟨⟨b1, b2⟩, b3, b4⟩ := eOk_v H v0 v1
  have hv : v.toNat < ve.length := by omega
  obtain ⟨c1, c2⟩ := ((H.2 v.toNat hv).2 p.toNat (by omega)).1
  rw [show v.toNat * 3 + p.toNat = i.toNat by omega] at c1
  exact ⟨⟨by omega, by omega⟩, ⟨by omega, by omega⟩, c1, c2⟩
theorem eOk_b {ve : dVe} {n : Int} {f g h : Nat → Int} (H : eOk ve n f g h) {v p i b k : Int} (v0 : 0 ≤ v) (v1 : v < n) (p0 : 0 ≤ p) (p1 : p < f v.toNat) (hi : i = 3 * v + p) (b0 : 0 ≤ b) (b1 : b < g i.toNat) (hk : k = 8 * i + b) : (0 ≤ k ∧ k < 96) ∧ b < ((dBr ve v.toNat p.toNat).length : Int) ∧ h k.toNat = (dBr ve v.toNat p.toNat).getD b.toNat 0 := by
  obtain ⟨⟨e1, e2⟩, ⟨e3, e4⟩, e5, e6⟩ := eOk_p H v0 v1 p0 p1 hi
  obtain ⟨⟨d1, d2⟩, d3, d4⟩ := eOk_v H v0 v1
  have hv : v.toNat < ve.length := by omega
  have c1 := ((H.2 v.toNat hv).2 p.toNat (by omega)).2 b.toNat (by omega)
  rw [show (v.toNat * 3 + p.toNat) * 8 + b.toNat = k.toNat by omega] at c1
  exact ⟨⟨by omega, by omega⟩, by omega, c1⟩
theorem vRs_0 {ve : dVe} {v w q r : Int} (h : ¬ (0 ≤ v ∧ v < (ve.length : Int))) (hr : r = -1) : vRs ve v w q r := by unfold vRs; rw [if_neg h]; exact hr
theorem vRs_1 {ve : dVe} {v w q r : Int} (h : 0 ≤ v ∧ v < (ve.length : Int)) (hw : ¬ w = 0) (hq : ¬ (0 ≤ q ∧ q < ((dPt ve v.toNat).length : Int))) (hr : r = -1) : vRs ve v w q r := by unfold vRs; rw [if_pos h, if_neg hw, if_neg hq]; exact hr
theorem vRs_2 {ve : dVe} {v w q r : Int} (h : 0 ≤ v ∧ v < (ve.length : Int)) (hw : w = 0) (hr : r = ((dPt ve v.toNat).length : Int)) : vRs ve v w q r := by unfold vRs; rw [if_pos h, if_pos hw]; exact hr
theorem vRs_3 {ve : dVe} {v w q r : Int} (h : 0 ≤ v ∧ v < (ve.length : Int)) (hw : ¬ w = 0) (hq : 0 ≤ q ∧ q < ((dPt ve v.toNat).length : Int)) (hr : r = ((dBr ve v.toNat q.toNat).length : Int)) : vRs ve v w q r := by unfold vRs; rw [if_pos h, if_neg hw, if_pos hq]; exact hr
theorem pRs_0 {ve : dVe} {v p b r : Int} (h : ¬ ((0 ≤ v ∧ v < (ve.length : Int)) ∧ (0 ≤ p ∧ p < ((dPt ve v.toNat).length : Int)) ∧ (0 ≤ b ∧ b < ((dBr ve v.toNat p.toNat).length : Int)))) (hr : r = -1) : pRs ve v p b r := by unfold pRs; rw [if_neg h]; exact hr
theorem pRs_1 {ve : dVe} {v p b r : Int} (h : (0 ≤ v ∧ v < (ve.length : Int)) ∧ (0 ≤ p ∧ p < ((dPt ve v.toNat).length : Int)) ∧ (0 ≤ b ∧ b < ((dBr ve v.toNat p.toNat).length : Int))) (hr : r = (dBr ve v.toNat p.toNat).getD b.toNat 0) : pRs ve v p b r := by unfold pRs; rw [if_pos h]; exact hr
section VP
variable {E : yE} {mem : yMem} {Q : Option yV → yMem → Prop}
theorem x_verse (hE : yEok E) {D : Nat} (hD : 3 ≤ D) {v w : Int} {ve : dVe} (hT : eOk ve (w32 (mem 7 1)) (fun j => w32 (mem 18 j)) (fun j => w32 (mem 19 j)) (fun j => w32 (mem 20 j))) (hQ : ∀ r, vRs ve (w32 v) (w32 w) (w32 (w - 1)) (w32 r) → Q (some (0, r)) mem) : yCon E D xm_44 [(1, 0), (0, v), (0, w)] mem Q := by
  obtain ⟨d, rfl⟩ := Nat.exists_eq_add_of_le' hD
  refine e_44 ?_
  refine zvc_ok hE 90 [] _ _ _ _ _ _ _ xmo_44 ?_
  simp only [ynok_30, ynok_31, w32c_0, w32c_1, w32c_2, w32c_3, w32c_4, w32c_5, w32c_6, w32c_7, w32c_8, w32c_9, w32c_10, w32c_11, w32c_12, w32c_13, w32c_14, w32c_m1, w32c_m2, w32c_118, Int.reduceAdd, Int.reduceSub, Int.reduceMul, yput_s, yput_n, znl_n, znl_0, znl_1, znl_4, ysum_n, ysum_0, ysum_1, ysum_4, true_and, and_true, Nat.reduceAdd, Nat.reduceLeDiff, true_implies, eq_self, true_or, or_true, or_false, false_or, not_true_eq_false, not_false_eq_true, false_implies, implies_true, yset_s, yset_o, yset_d, ne_eq, Nat.reduceEqDiff, Int.reduceToNat, Int.reduceEq, Int.reduceLE, Int.reduceLT, Classical.not_not, Nat.reduceLT, ↓zvk_s, ↓zvk_n, ↓s_44_0, ↓s_44_1, ↓s_44_4_2, ↓s_44_4_28, ↓s_44_7, ↓s_44_8, ↓s_44_11, ↓s_44_14, ↓s_44_15, ↓s_44_16, ↓s_44_17, ↓s_44_20, ↓s_44_21, ↓s_44_24_2, ↓s_44_24_28, ↓s_44_27, ↓s_44_28, ↓s_44_29, ↓s_44_30, ↓s_44_31, ↓s_44_34, ↓s_44_35, ↓s_44_38, ↓s_44_39, ↓s_44_40, ↓s_44_41, ↓s_44_42, ↓s_44_45, ↓s_44_48, ↓s_44_49, ↓s_44_50, ↓s_44_51, ↓s_44_54_2, ↓s_44_54_28, ↓s_44_57, ↓s_44_58, ↓s_44_59, ↓s_44_60, ↓s_44_61, ↓s_44_64, ↓s_44_65, ↓s_78_0, ↓s_78_1_2, ↓s_78_1_28, ↓s_78_4, ↓s_78_5, ↓s_78_8, ↓s_78_11, ↓s_78_12, ↓s_78_15, ↓s_78_16, ↓s_78_17_2, ↓s_78_17_28, ↓s_78_20, ↓s_78_21, ↓s_78_22, ↓s_78_25, ↓s_78_26, ↓s_78_29, ↓s_78_30, ↓s_103_0, ↓s_103_1, ↓s_103_4, ↓s_103_5, ↓s_103_6_3, ↓s_103_6_5, ↓s_103_6_7, ↓s_103_6_9, ↓s_103_6_29, ↓s_103_6_31, ↓s_103_6_33, ↓s_103_6_35, ↓s_103_9, ↓s_103_12, ↓s_103_13, ↓s_103_16, ↓s_103_17, ↓s_34_0, ↓s_34_1, ↓s_34_2, ↓s_34_3, ↓s_34_4, ↓s_34_5, zio_0, zio_2, zio_3, zio_5, zio_7, zio_9, zar_18, zia_18, zln_18, zit_18, zar_19, zia_19, zln_19, zit_19, zio_28, zio_29, zio_31, zio_33, zio_35, zar_44, zia_44, zln_44, zit_44, zar_45, zia_45, zln_45, zit_45]
  have nn := hT.1.1
  refine ⟨fun h => hQ _ (vRs_0 (by omega) w32c_m1), fun h1 => ⟨fun h => hQ _ (vRs_0 (by omega) w32c_m1), fun h2 => ?_⟩⟩
  have v0 : 0 ≤ w32 v := by omega
  have v1 : w32 v < w32 (mem 7 1) := by omega
  obtain ⟨⟨b1, b2⟩, b3, b4⟩ := eOk_v hT v0 v1
  have n1 : ¬ w32 w = 0 → ¬ (0 ≤ w32 (w - 1) ∧ w32 (w - 1) < ((dPt ve (w32 v).toNat).length : Int)) → _ := fun w0 hq => hQ (-1) (vRs_1 ⟨v0, b1⟩ w0 hq w32c_m1)
  refine ⟨fun w0 => ⟨fun w1 => n1 w0 (by have := w32_dn w1; omega), fun w1 => ⟨fun h => absurd h h1, fun _ => ⟨fun h => absurd h h2, fun _ => ⟨fun q1 => n1 w0 (by omega), fun q1 => ⟨⟨by omega, by omega⟩, fun q2 => n1 w0 (by omega), fun q2 => ?_⟩⟩⟩⟩⟩, fun w0 => ⟨⟨by omega, by omega⟩, hQ _ (vRs_2 ⟨v0, b1⟩ w0 b3)⟩⟩
  have ix : w32 (v * 3 + (w - 1)) = 3 * w32 v + w32 (w - 1) := by rw [Int.mul_comm]; exact ix_c (by decide) (by omega) (by omega) (by omega) (by omega)
  obtain ⟨⟨e1, e2⟩, ⟨e3, e4⟩, e5, e6⟩ := eOk_p hT v0 v1 (show 0 ≤ w32 (w - 1) by omega) (show w32 (w - 1) < w32 (mem 18 (w32 v).toNat) by omega) ix
  exact ⟨⟨by omega, by omega⟩, hQ _ (vRs_3 ⟨v0, b1⟩ w0 ⟨by omega, e3⟩ e5)⟩
theorem r_verse (hE : yEok E) {D : Nat} (hD : 3 ≤ D) {v w : Int} {ve : dVe} (hT : eOk ve (w32 (mem 97 2)) (fun j => w32 (mem 109 j)) (fun j => w32 (mem 110 j)) (fun j => w32 (mem 111 j))) (hQ : ∀ r, vRs ve (w32 v) (w32 w) (w32 (w - 1)) (w32 r) → Q (some (0, r)) (yset mem 95 0 0)) : yCon E D xm_247 [(1, 95), (0, v), (0, w)] mem Q := by
  obtain ⟨d, rfl⟩ := Nat.exists_eq_add_of_le' hD
  refine e_247 ?_
  refine zvc_ok hE 90 [] _ _ _ _ _ _ _ xmo_247 ?_
  simp only [ynok_30, ynok_31, w32c_0, w32c_1, w32c_2, w32c_3, w32c_4, w32c_5, w32c_6, w32c_7, w32c_8, w32c_9, w32c_10, w32c_11, w32c_12, w32c_13, w32c_14, w32c_m1, w32c_m2, w32c_118, Int.reduceAdd, Int.reduceSub, Int.reduceMul, yput_s, yput_n, znl_n, znl_0, znl_1, znl_4, ysum_n, ysum_0, ysum_1, ysum_4, true_and, and_true, Nat.reduceAdd, Nat.reduceLeDiff, true_implies, eq_self, true_or, or_true, or_false, false_or, not_true_eq_false, not_false_eq_true, false_implies, implies_true, yset_s, yset_o, yset_d, ne_eq, Nat.reduceEqDiff, Int.reduceToNat, Int.reduceEq, Int.reduceLE, Int.reduceLT, Classical.not_not, Nat.reduceLT, ↓zvk_s, ↓zvk_n, ↓s_247_0, ↓s_247_1, ↓s_247_2, ↓s_247_5, ↓s_247_6, ↓s_247_7, ↓s_247_10, ↓s_247_13, ↓s_247_14, ↓s_247_15, ↓s_247_16, ↓s_247_19, ↓s_247_20, ↓s_247_23, ↓s_247_24, ↓s_247_25, ↓s_247_28, ↓s_247_29, ↓s_247_30, ↓s_247_31, ↓s_247_32, ↓s_247_33, ↓s_247_36, ↓s_247_39, ↓s_247_40, ↓s_247_43, ↓s_247_44, ↓s_247_45, ↓s_247_46, ↓s_247_47, ↓s_247_48, ↓s_247_49, ↓s_247_50, ↓s_247_51, ↓s_247_54, ↓s_247_55, ↓s_196_0, ↓s_196_1, ↓s_196_4, ↓s_196_5, ↓s_196_6, ↓s_196_9, ↓s_196_10, ↓s_196_11, ↓s_196_14, ↓s_196_15, ↓s_196_18, ↓s_196_19, ↓s_189_0, ↓s_189_1, ↓s_189_2, ↓s_189_5, ↓s_189_8, ↓s_189_9, ↓s_189_12, ↓s_189_13, ↓s_189_14, ↓s_189_17, ↓s_189_18, ↓s_189_19, ↓s_189_22, ↓s_189_23, ↓s_189_26, ↓s_189_27, zar_97, zia_97, zln_97, zit_97, zar_109, zia_109, zln_109, zit_109, zar_110, zia_110, zln_110, zit_110, zio_95]
  have nn := hT.1.1
  refine ⟨fun h => hQ _ (vRs_0 (by omega) w32c_m1), fun h1 => ⟨by decide, fun h => hQ _ (vRs_0 (by omega) w32c_m1), fun h2 => ?_⟩⟩
  have v0 : 0 ≤ w32 v := by omega
  have v1 : w32 v < w32 (mem 97 2) := by omega
  obtain ⟨⟨b1, b2⟩, b3, b4⟩ := eOk_v hT v0 v1
  have n1 : ¬ w32 w = 0 → ¬ (0 ≤ w32 (w - 1) ∧ w32 (w - 1) < ((dPt ve (w32 v).toNat).length : Int)) → _ := fun w0 hq => hQ (-1) (vRs_1 ⟨v0, b1⟩ w0 hq w32c_m1)
  refine ⟨fun w0 => ⟨fun h => absurd h h1, fun _ => ⟨by decide, fun h => absurd h h2, fun _ => ⟨fun q1 => n1 w0 (by omega), fun q1 => ⟨⟨by omega, by omega⟩, fun q2 => n1 w0 (by omega), fun q2 => ?_⟩⟩⟩⟩, fun w0 => ⟨⟨by omega, by omega⟩, hQ _ (vRs_2 ⟨v0, b1⟩ w0 b3)⟩⟩
  have ix : w32 (3 * v + w - 1) = 3 * w32 v + w32 (w - 1) := by rw [Int.add_sub_assoc]; exact ix_c (by decide) (by omega) (by omega) (by omega) (by omega)
  obtain ⟨⟨e1, e2⟩, ⟨e3, e4⟩, e5, e6⟩ := eOk_p hT v0 v1 (show 0 ≤ w32 (w - 1) by omega) (show w32 (w - 1) < w32 (mem 109 (w32 v).toNat) by omega) ix
  exact ⟨⟨by omega, by omega⟩, hQ _ (vRs_3 ⟨v0, b1⟩ w0 ⟨by omega, e3⟩ e5)⟩
theorem x_pitch (hE : yEok E) {D : Nat} (hD : 3 ≤ D) {v p b : Int} {ve : dVe} (hT : eOk ve (w32 (mem 7 1)) (fun j => w32 (mem 18 j)) (fun j => w32 (mem 19 j)) (fun j => w32 (mem 20 j))) (hQ : ∀ r, pRs ve (w32 v) (w32 p) (w32 b) (w32 r) → Q (some (0, r)) mem) : yCon E D xm_25 [(1, 0), (0, v), (0, p), (0, b)] mem Q := by
  obtain ⟨d, rfl⟩ := Nat.exists_eq_add_of_le' hD
  refine e_25 ?_
  refine zvc_ok hE 90 [] _ _ _ _ _ _ _ xmo_25 ?_
  simp only [ynok_30, ynok_31, w32c_0, w32c_1, w32c_2, w32c_3, w32c_4, w32c_5, w32c_6, w32c_7, w32c_8, w32c_9, w32c_10, w32c_11, w32c_12, w32c_13, w32c_14, w32c_m1, w32c_m2, w32c_118, Int.reduceAdd, Int.reduceSub, Int.reduceMul, yput_s, yput_n, znl_n, znl_0, znl_1, znl_4, ysum_n, ysum_0, ysum_1, ysum_4, true_and, and_true, Nat.reduceAdd, Nat.reduceLeDiff, true_implies, eq_self, true_or, or_true, or_false, false_or, not_true_eq_false, not_false_eq_true, false_implies, implies_true, yset_s, yset_o, yset_d, ne_eq, Nat.reduceEqDiff, Int.reduceToNat, Int.reduceEq, Int.reduceLE, Int.reduceLT, Classical.not_not, Nat.reduceLT, ↓zvk_s, ↓zvk_n, ↓s_25_0, ↓s_25_1, ↓s_25_4, ↓s_25_5, ↓s_25_6, ↓s_25_9, ↓s_25_12, ↓s_25_13, ↓s_25_14, ↓s_25_15, ↓s_25_16, ↓s_25_19n, ↓s_25_19i, ↓s_25_19p, ↓s_25_21, ↓s_25_22, ↓s_25_25, ↓s_25_26, ↓s_25_27, ↓s_25_30_2, ↓s_25_30_28, ↓s_25_33, ↓s_25_35, ↓s_25_36, ↓s_25_39, ↓s_25_40, ↓s_25_43, ↓s_25_45, ↓s_25_46, ↓s_25_49, ↓s_25_52, ↓s_25_53, ↓s_78_0, ↓s_78_1_2, ↓s_78_1_28, ↓s_78_4, ↓s_78_5, ↓s_78_8, ↓s_78_11, ↓s_78_12, ↓s_78_15, ↓s_78_16, ↓s_78_17_2, ↓s_78_17_28, ↓s_78_20, ↓s_78_21, ↓s_78_22, ↓s_78_25, ↓s_78_26, ↓s_78_29, ↓s_78_30, ↓s_103_0, ↓s_103_1, ↓s_103_4, ↓s_103_5, ↓s_103_6_3, ↓s_103_6_5, ↓s_103_6_7, ↓s_103_6_9, ↓s_103_6_29, ↓s_103_6_31, ↓s_103_6_33, ↓s_103_6_35, ↓s_103_9, ↓s_103_12, ↓s_103_13, ↓s_103_16, ↓s_103_17, ↓s_34_0, ↓s_34_1, ↓s_34_2, ↓s_34_3, ↓s_34_4, ↓s_34_5, ↓s_82_0, ↓s_82_1_2, ↓s_82_1_28, ↓s_82_4, ↓s_82_5, ↓s_82_7, ↓s_82_8, ↓s_82_9, ↓s_82_10, ↓s_82_11, zio_0, zio_2, zio_3, zio_5, zio_7, zio_9, zar_18, zia_18, zln_18, zit_18, zar_19, zia_19, zln_19, zit_19, zar_20, zia_20, zln_20, zit_20, zio_28, zio_29, zio_31, zio_33, zio_35, zar_44, zia_44, zln_44, zit_44, zar_45, zia_45, zln_45, zit_45, zar_46, zia_46, zln_46, zit_46]
  have nn := hT.1.1
  have n0 : ¬ ((0 ≤ w32 v ∧ w32 v < (ve.length : Int)) ∧ (0 ≤ w32 p ∧ w32 p < ((dPt ve (w32 v).toNat).length : Int)) ∧ (0 ≤ w32 b ∧ w32 b < ((dBr ve (w32 v).toNat (w32 p).toNat).length : Int))) → _ := fun h => hQ (-1) (pRs_0 h w32c_m1)
  refine ⟨fun h => n0 (by omega), fun h1 => ⟨fun h => n0 (by omega), fun h2 => ?_⟩⟩
  have v0 : 0 ≤ w32 v := by omega
  have v1 : w32 v < w32 (mem 7 1) := by omega
  obtain ⟨⟨b1, b2⟩, b3, b4⟩ := eOk_v hT v0 v1
  refine ⟨fun h => n0 (by omega), fun h3 => ⟨⟨by omega, by omega⟩, fun h => n0 (by omega), fun h4 => ?_⟩⟩
  have ix : w32 (v * 3 + p) = 3 * w32 v + w32 p := by rw [Int.mul_comm]; exact ix_c (by decide) (by omega) (by omega) (by omega) (by omega)
  obtain ⟨⟨e1, e2⟩, ⟨e3, e4⟩, e5, e6⟩ := eOk_p hT v0 v1 (show 0 ≤ w32 p by omega) (show w32 p < w32 (mem 18 (w32 v).toNat) by omega) ix
  refine ⟨fun h => n0 (by omega), fun h5 => ⟨⟨by omega, by omega⟩, fun h => n0 (by omega), fun h6 => ?_⟩⟩
  have iy : w32 ((v * 3 + p) * 8 + b) = 8 * w32 (v * 3 + p) + w32 b := by rw [Int.mul_comm (v * 3 + p) 8]; exact ix_c (by decide) (by omega) (by omega) (by omega) (by omega)
  obtain ⟨⟨f1, f2⟩, f3, f4⟩ := eOk_b hT v0 v1 (show 0 ≤ w32 p by omega) (show w32 p < w32 (mem 18 (w32 v).toNat) by omega) ix (show 0 ≤ w32 b by omega) (show w32 b < w32 (mem 19 (w32 (v * 3 + p)).toNat) by omega) iy
  exact ⟨⟨by omega, by omega⟩, hQ _ (pRs_1 ⟨⟨v0, b1⟩, ⟨by omega, e3⟩, ⟨by omega, f3⟩⟩ f4)⟩
theorem r_pitch (hE : yEok E) {D : Nat} (hD : 3 ≤ D) {v p b : Int} {ve : dVe} (hT : eOk ve (w32 (mem 97 2)) (fun j => w32 (mem 109 j)) (fun j => w32 (mem 110 j)) (fun j => w32 (mem 111 j))) (hQ : ∀ r, pRs ve (w32 v) (w32 p) (w32 b) (w32 r) → Q (some (0, r)) (yset mem 95 0 0)) : yCon E D xm_216 [(1, 95), (0, v), (0, p), (0, b)] mem Q := by
  obtain ⟨d, rfl⟩ := Nat.exists_eq_add_of_le' hD
  refine e_216 ?_
  refine zvc_ok hE 90 [] _ _ _ _ _ _ _ xmo_216 ?_
  simp only [ynok_30, ynok_31, w32c_0, w32c_1, w32c_2, w32c_3, w32c_4, w32c_5, w32c_6, w32c_7, w32c_8, w32c_9, w32c_10, w32c_11, w32c_12, w32c_13, w32c_14, w32c_m1, w32c_m2, w32c_118, Int.reduceAdd, Int.reduceSub, Int.reduceMul, yput_s, yput_n, znl_n, znl_0, znl_1, znl_4, ysum_n, ysum_0, ysum_1, ysum_4, true_and, and_true, Nat.reduceAdd, Nat.reduceLeDiff, true_implies, eq_self, true_or, or_true, or_false, false_or, not_true_eq_false, not_false_eq_true, false_implies, implies_true, yset_s, yset_o, yset_d, ne_eq, Nat.reduceEqDiff, Int.reduceToNat, Int.reduceEq, Int.reduceLE, Int.reduceLT, Classical.not_not, Nat.reduceLT, ↓zvk_s, ↓zvk_n, ↓s_216_0, ↓s_216_1, ↓s_216_2, ↓s_216_5, ↓s_216_6, ↓s_216_7, ↓s_216_8, ↓s_216_11, ↓s_216_14, ↓s_216_15, ↓s_216_18, ↓s_216_19, ↓s_216_20, ↓s_216_23, ↓s_216_24, ↓s_216_25, ↓s_216_26, ↓s_216_27, ↓s_216_28, ↓s_216_29, ↓s_216_32, ↓s_216_33, ↓s_216_36, ↓s_216_38, ↓s_216_39, ↓s_216_40, ↓s_216_41, ↓s_216_42, ↓s_216_43, ↓s_216_44, ↓s_216_45, ↓s_216_46, ↓s_216_47, ↓s_216_50, ↓s_216_51, ↓s_196_0, ↓s_196_1, ↓s_196_4, ↓s_196_5, ↓s_196_6, ↓s_196_9, ↓s_196_10, ↓s_196_11, ↓s_196_14, ↓s_196_15, ↓s_196_18, ↓s_196_19, ↓s_189_0, ↓s_189_1, ↓s_189_2, ↓s_189_5, ↓s_189_8, ↓s_189_9, ↓s_189_12, ↓s_189_13, ↓s_189_14, ↓s_189_17, ↓s_189_18, ↓s_189_19, ↓s_189_22, ↓s_189_23, ↓s_189_26, ↓s_189_27, zar_97, zia_97, zln_97, zit_97, zio_95, zar_109, zia_109, zln_109, zit_109, zar_110, zia_110, zln_110, zit_110, zar_111, zia_111, zln_111, zit_111]
  have nn := hT.1.1
  have n0 : ¬ ((0 ≤ w32 v ∧ w32 v < (ve.length : Int)) ∧ (0 ≤ w32 p ∧ w32 p < ((dPt ve (w32 v).toNat).length : Int)) ∧ (0 ≤ w32 b ∧ w32 b < ((dBr ve (w32 v).toNat (w32 p).toNat).length : Int))) → _ := fun h => hQ (-1) (pRs_0 h w32c_m1)
  refine ⟨fun h => n0 (by omega), fun h1 => ⟨by decide, fun h => n0 (by omega), fun h2 => ?_⟩⟩
  have v0 : 0 ≤ w32 v := by omega
  have v1 : w32 v < w32 (mem 97 2) := by omega
  obtain ⟨⟨b1, b2⟩, b3, b4⟩ := eOk_v hT v0 v1
  refine ⟨fun h => n0 (by omega), fun h3 => ⟨⟨by omega, by omega⟩, fun h => n0 (by omega), fun h4 => ?_⟩⟩
  have ix : w32 (3 * v + p) = 3 * w32 v + w32 p := by exact ix_c (by decide) (by omega) (by omega) (by omega) (by omega)
  obtain ⟨⟨e1, e2⟩, ⟨e3, e4⟩, e5, e6⟩ := eOk_p hT v0 v1 (show 0 ≤ w32 p by omega) (show w32 p < w32 (mem 109 (w32 v).toNat) by omega) ix
  refine ⟨fun h => n0 (by omega), fun h5 => ⟨⟨by omega, by omega⟩, fun h => n0 (by omega), fun h6 => ?_⟩⟩
  have iy : w32 (8 * (3 * v + p) + b) = 8 * w32 (3 * v + p) + w32 b := by exact ix_c (by decide) (by omega) (by omega) (by omega) (by omega)
  obtain ⟨⟨f1, f2⟩, f3, f4⟩ := eOk_b hT v0 v1 (show 0 ≤ w32 p by omega) (show w32 p < w32 (mem 109 (w32 v).toNat) by omega) ix (show 0 ≤ w32 b by omega) (show w32 b < w32 (mem 110 (w32 (3 * v + p)).toNat) by omega) iy
  exact ⟨⟨by omega, by omega⟩, hQ _ (pRs_1 ⟨⟨v0, b1⟩, ⟨by omega, e3⟩, ⟨by omega, f3⟩⟩ f4)⟩
theorem lx_verse (hE : yEok E) : LX E 2 xm_44 xm_247 0 := fun X k mem _ hI => by
  obtain ⟨D, W, V, ⟨h1, h2, h3⟩, -⟩ := hI.2.2.2.2.2.2
  exact x_verse hE (by decide) (cEh_ok h1) (fun r e1 => ⟨r, rfl, r_verse hE (by decide) (rEl_ok h2) (fun r2 e2 => ⟨r2, rfl, lx_e0 (e1.trans e2.symm) (LI_95 (Nat.le_add_right k 6) hI)⟩)⟩)
theorem lx_pitch (hE : yEok E) : LX E 3 xm_25 xm_216 0 := fun X k mem _ hI => by
  obtain ⟨D, W, V, ⟨h1, h2, h3⟩, -⟩ := hI.2.2.2.2.2.2
  exact x_pitch hE (by decide) (cEh_ok h1) (fun r e1 => ⟨r, rfl, r_pitch hE (by decide) (rEl_ok h2) (fun r2 e2 => ⟨r2, rfl, lx_e0 (e1.trans e2.symm) (LI_95 (Nat.le_add_right k 6) hI)⟩)⟩)
end VP
end
section
/-! BITS AND COUNTS: pure -/
def nBt (f : Nat → Bool) : Nat → Nat
  | 0 => 0
  | n + 1 => nBt f n + (if f n then 2 ^ n else 0)
def nCt (f : Nat → Bool) : Nat → Nat
  | 0 => 0
  | n + 1 => nCt f n + (if f n then 1 else 0)
def nMx (g : Nat → Int) : Nat → Int
  | 0 => 0
  | n + 1 => max (nMx g n) (g n)
def nSm (g : Nat → Int) : Nat → Int
  | 0 => 0
  | n + 1 => nSm g n + g n
theorem nBt_lt (f : Nat → Bool) : ∀ n, nBt f n < 2 ^ n
  | 0 => by
    show (0 : Nat) < 1
    decide
  | n + 1 => by
    have h := nBt_lt f n
    simp only [nBt]
    rw [Nat.pow_succ]
    revert h
    generalize 2 ^ n = z
    intro h
    split <;> omega
theorem nCt_le (f : Nat → Bool) : ∀ n, nCt f n ≤ n
  | 0 => Nat.le_refl _
  | n + 1 => by
    have h := nCt_le f n
    simp only [nCt]
    split <;> omega
theorem nBt_ext {f g : Nat → Bool} : ∀ n, (∀ j, j < n → f j = g j) → nBt f n = nBt g n
  | 0, _ => rfl
  | n + 1, h => by
    simp only [nBt]
    rw [nBt_ext n (fun j hj => h j (by omega)), h n (Nat.lt_succ_self n)]
theorem nCt_ext {f g : Nat → Bool} : ∀ n, (∀ j, j < n → f j = g j) → nCt f n = nCt g n
  | 0, _ => rfl
  | n + 1, h => by
    simp only [nCt]
    rw [nCt_ext n (fun j hj => h j (by omega)), h n (Nat.lt_succ_self n)]
theorem nSm_ext {f g : Nat → Int} : ∀ n, (∀ j, j < n → f j = g j) → nSm f n = nSm g n
  | 0, _ => rfl
  | n + 1, h => by
    simp only [nSm]
    rw [nSm_ext n (fun j hj => h j (by omega)), h n (Nat.lt_succ_self n)]
theorem nMx_ext {f g : Nat → Int} : ∀ n, (∀ j, j < n → f j = g j) → nMx f n = nMx g n
  | 0, _ => rfl
  | n + 1, h => by
    simp only [nMx]
    rw [nMx_ext n (fun j hj => h j (by omega)), h n (Nat.lt_succ_self n)]
theorem zpc_0 : ∀ m, zpc m 0 = 0
  | 0 => rfl
  | m + 1 => by
    show 0 % 2 + zpc m (0 / 2) = 0
    rw [show (0 : Nat) / 2 = 0 from rfl, zpc_0 m]
theorem zpc_add : ∀ (n m a : Nat), n < m → a < 2 ^ n → zpc m (a + 2 ^ n) = zpc m a + 1
  | n, 0, a, h, _ => absurd h (Nat.not_lt_zero _)
  | 0, m + 1, a, _, ha => by
    have e : a = 0 := by rw [Nat.pow_zero] at ha; omega
    subst e
    show 1 + zpc m 0 = 0 + zpc m 0 + 1
    omega
  | n + 1, m + 1, a, h, ha => by
    have e1 : (a + 2 ^ (n + 1)) % 2 = a % 2 := by
      rw [Nat.pow_succ]
      generalize 2 ^ n = z
      omega
    have e2 : (a + 2 ^ (n + 1)) / 2 = a / 2 + 2 ^ n := by
      rw [Nat.pow_succ]
      generalize 2 ^ n = z
      omega
    have e3 : a / 2 < 2 ^ n := by
      rw [Nat.pow_succ] at ha
      revert ha
      generalize 2 ^ n = z
      omega
    show (a + 2 ^ (n + 1)) % 2 + zpc m ((a + 2 ^ (n + 1)) / 2) = a % 2 + zpc m (a / 2) + 1
    rw [e1, e2, zpc_add n m (a / 2) (by omega) e3]
    omega
theorem zpc_bt {f : Nat → Bool} {m : Nat} : ∀ {n : Nat}, n ≤ m → zpc m (nBt f n) = nCt f n
  | 0, _ => zpc_0 m
  | n + 1, h => by
    have ih := zpc_bt (f := f) (m := m) (n := n) (by omega)
    simp only [nBt, nCt]
    cases f n with
    | true => rw [if_pos rfl, if_pos rfl, zpc_add n m _ (by omega) (nBt_lt f n), ih]
    | false => rw [if_neg (by decide), if_neg (by decide), Nat.add_zero, Nat.add_zero, ih]
theorem tb_add {a n b : Nat} (h : a < 2 ^ n) : (a + 2 ^ n) / 2 ^ b % 2 = if b = n then 1 else a / 2 ^ b % 2 := by
  by_cases e : b = n
  · subst e
    rw [if_pos rfl, Nat.add_div_right _ (Nat.two_pow_pos b), Nat.div_eq_of_lt h]
  · rw [if_neg e]
    rcases Nat.lt_or_gt_of_ne e with l | l
    · have e2 : 2 ^ n = 2 ^ b * (2 * 2 ^ (n - b - 1)) := by
        rw [← Nat.mul_assoc, ← Nat.pow_succ, ← Nat.pow_add]
        congr 1
        omega
      rw [e2, Nat.add_mul_div_left _ _ (Nat.two_pow_pos b)]
      generalize a / 2 ^ b = x
      generalize 2 ^ (n - b - 1) = y
      omega
    · have h1 : 2 ^ (n + 1) ≤ 2 ^ b := Nat.pow_le_pow_right (by decide) l
      rw [Nat.pow_succ] at h1
      rw [Nat.div_eq_of_lt (show a + 2 ^ n < 2 ^ b by omega), Nat.div_eq_of_lt (show a < 2 ^ b by omega)]
theorem nBt_b {f : Nat → Bool} (b : Nat) : ∀ n, nBt f n / 2 ^ b % 2 = if b < n ∧ f b = true then 1 else 0
  | 0 => by
    rw [if_neg (fun h => Nat.not_lt_zero _ h.1)]
    show 0 / 2 ^ b % 2 = 0
    rw [Nat.zero_div]
  | n + 1 => by
    have ih := nBt_b (f := f) b n
    simp only [nBt]
    cases hf : f n with
    | true =>
      rw [if_pos rfl, tb_add (nBt_lt f n)]
      by_cases e : b = n
      · subst e
        rw [if_pos rfl, if_pos ⟨Nat.lt_succ_self _, hf⟩]
      · rw [if_neg e, ih]
        by_cases h : b < n ∧ f b = true
        · rw [if_pos h, if_pos ⟨by omega, h.2⟩]
        · rw [if_neg h, if_neg (fun z => h ⟨by omega, z.2⟩)]
    | false =>
      rw [if_neg (by decide), Nat.add_zero, ih]
      by_cases h : b < n ∧ f b = true
      · rw [if_pos h, if_pos ⟨by omega, h.2⟩]
      · rw [if_neg h, if_neg (fun z => h ⟨by
          have := z.1
          have : b ≠ n := fun e => by
            rw [e, hf] at z
            exact absurd z.2 (by decide)
          omega, z.2⟩)]
/-- zeros and ones, the least first -/
def bnat : List Int → Nat
  | [] => 0
  | b :: r => b.toNat + 2 * bnat r
theorem bnat_i : ∀ {l : List Int}, (∀ b ∈ l, b = 0 ∨ b = 1) → bsum l = ((bnat l : Nat) : Int)
  | [], _ => rfl
  | b :: r, h => by
    have ih := bnat_i (l := r) (fun c hc => h c (List.mem_cons_of_mem _ hc))
    have hb := h b List.mem_cons_self
    show b + 2 * bsum r = ((b.toNat + 2 * bnat r : Nat) : Int)
    omega
theorem bnat_b : ∀ {l : List Int} {v : Nat}, (∀ b ∈ l, b = 0 ∨ b = 1) → bnat l / 2 ^ v % 2 = (l.getD v 0).toNat
  | [], v, _ => by
    show 0 / 2 ^ v % 2 = 0
    rw [Nat.zero_div]
  | b :: r, 0, h => by
    have hb := h b List.mem_cons_self
    show (b.toNat + 2 * bnat r) / 2 ^ 0 % 2 = b.toNat
    rw [Nat.pow_zero, Nat.div_one]
    omega
  | b :: r, v + 1, h => by
    have hb := h b List.mem_cons_self
    show (b.toNat + 2 * bnat r) / 2 ^ (v + 1) % 2 = (r.getD v 0).toNat
    rw [← bnat_b (l := r) (v := v) (fun c hc => h c (List.mem_cons_of_mem _ hc)), show 2 ^ (v + 1) = 2 * 2 ^ v by rw [Nat.pow_succ, Nat.mul_comm], ← Nat.div_div_eq_div_mul, show (b.toNat + 2 * bnat r) / 2 = bnat r by omega]
theorem bnat_lt : ∀ {l : List Int}, (∀ b ∈ l, b = 0 ∨ b = 1) → bnat l < 2 ^ l.length
  | [], _ => by decide
  | b :: r, h => by
    have ih := bnat_lt (l := r) (fun c hc => h c (List.mem_cons_of_mem _ hc))
    have hb := h b List.mem_cons_self
    show b.toNat + 2 * bnat r < 2 ^ (r.length + 1)
    rw [Nat.pow_succ]
    omega
/-- a bit more -/
theorem yb_bt {x r : Int} {f : Nat → Bool} {n : Nat} (hn : n < 9) (hx : w32 x = ((nBt f n : Nat) : Int)) (hr : w32 r = (n : Int)) : w32 (ybin 4 x (ybin 6 1 r)) = ((nBt f n + 2 ^ n : Nat) : Int) := by
  have h2 : 2 ^ n ≤ 256 := (by decide : ∀ l : Nat, l < 9 → 2 ^ l ≤ 256) n hn
  have hl := nBt_lt f n
  have e := yb_orr (x := x) (y := ybin 6 1 r) (a := 1) (b := nBt f n) (k := n) hx (by rw [yb_shl (a := 1) (s := n) w32c_1 hr (by omega) (by omega), Nat.mul_comm]) hl (by omega)
  rw [e, Nat.mul_one, Nat.add_comm]
/-- is a bit set -/
theorem yb_tst {x r : Int} {a b : Nat} (hx : w32 x = (a : Int)) (ha : a < 2147483648) (hr : w32 r = (b : Int)) (hb : b < 32) : w32 (ybin 3 (ybin 7 x r) 1) = ((a / 2 ^ b % 2 : Nat) : Int) := yb_and1 (yb_shr hx hr hb ha) (Nat.lt_of_le_of_lt (Nat.div_le_self _ _) ha)
theorem w32_mx {x y : Int} : w32 (zmxi x y) = max (w32 x) (w32 y) := by
  unfold zmxi
  split <;> omega
theorem w32_mn {x y : Int} : w32 (zmni x y) = min (w32 x) (w32 y) := by
  unfold zmni
  split <;> omega
/-- distinct ones are summed up -/
theorem nSm_up {P : Nat → Bool} {g : Nat → Int} {p : Nat} (hp : ¬ P p = true) : ∀ n, nSm (fun q => if q = p ∨ P q = true then g q else 0) n = nSm (fun q => if P q = true then g q else 0) n + (if p < n then g p else 0)
  | 0 => by
    rw [if_neg (Nat.not_lt_zero _)]
    rfl
  | n + 1 => by
    have ih := nSm_up (P := P) (g := g) hp n
    simp only [nSm]
    rw [ih]
    by_cases e : n = p
    · subst e
      rw [if_neg (Nat.lt_irrefl _), if_pos (Or.inl rfl), if_neg hp, if_pos (Nat.lt_succ_self _)]
    · by_cases hq : P n = true
      · rw [if_pos (Or.inr hq), if_pos hq]
        by_cases hl : p < n
        · rw [if_pos hl, if_pos (by omega)]
          omega
        · rw [if_neg hl, if_neg (by omega)]
          omega
      · rw [if_neg (show ¬ (n = p ∨ P n = true) from fun z => z.elim e hq), if_neg hq]
        by_cases hl : p < n
        · rw [if_pos hl, if_pos (by omega)]
          omega
        · rw [if_neg hl, if_neg (by omega)]
end
