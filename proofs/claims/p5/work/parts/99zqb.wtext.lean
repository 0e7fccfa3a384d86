theorem s_135_0 {E : yE} {n d : Nat} {mem : yMem} {Post : Option yV → yMem → Prop} {st : List yV} {r1 : Option yV} {x : Int} : zvc E (n + 1) [] d xm_135 0 [some (1, x), r1] (st) mem Post = (zvc E n [] d xm_135 1 [some (1, x), r1] ((1, x) :: st) mem Post) := zrf rfl
theorem s_135_1_57 {E : yE} {n d : Nat} {mem : yMem} {Post : Option yV → yMem → Prop} {st : List yV} {r0 r1 : Option yV} : zvc E (n + 1) [] d xm_135 1 [r0, r1] ((1, 57) :: st) mem Post = (zvc E n [] d xm_135 4 [r0, r1] ((1, 58) :: st) mem Post) := zrf rfl
theorem s_135_1_64 {E : yE} {n d : Nat} {mem : yMem} {Post : Option yV → yMem → Prop} {st : List yV} {r0 r1 : Option yV} : zvc E (n + 1) [] d xm_135 1 [r0, r1] ((1, 64) :: st) mem Post = (zvc E n [] d xm_135 4 [r0, r1] ((1, 65) :: st) mem Post) := zrf rfl
theorem s_135_4 {E : yE} {n d : Nat} {mem : yMem} {Post : Option yV → yMem → Prop} {st : List yV} {r0 r1 : Option yV} : zvc E (n + 1) [] d xm_135 4 [r0, r1] (st) mem Post = (zvc E n [] d xm_135 5 [r0, r1] ((0, 0) :: st) mem Post) := zrf rfl
theorem s_135_5 {E : yE} {n d : Nat} {mem : yMem} {Post : Option yV → yMem → Prop} {st : List yV} {r0 r1 : Option yV} {a0 a1 : Int} : zvc E (n + 1) [] d xm_135 5 [r0, r1] ((0, a1) :: (1, a0) :: st) mem Post = (True ∧ ysum st ≤ 8 ∧ yCon E d xm_263 [(1, a0), (0, a1)] mem (fun v mem' => zgk E d xm_135 8 [r0, r1] st v mem' Post)) := zrf rfl
theorem s_135_8 {E : yE} {n d : Nat} {mem : yMem} {Post : Option yV → yMem → Prop} {st : List yV} {r1 : Option yV} {x : Int} : zvc E (n + 1) [] d xm_135 8 [some (1, x), r1] (st) mem Post = (zvc E n [] d xm_135 9 [some (1, x), r1] ((1, x) :: st) mem Post) := zrf rfl
theorem s_135_9_57 {E : yE} {n d : Nat} {mem : yMem} {Post : Option yV → yMem → Prop} {st : List yV} {r0 r1 : Option yV} : zvc E (n + 1) [] d xm_135 9 [r0, r1] ((1, 57) :: st) mem Post = (zvc E n [] d xm_135 12 [r0, r1] ((1, 60) :: st) mem Post) := zrf rfl
theorem s_135_9_64 {E : yE} {n d : Nat} {mem : yMem} {Post : Option yV → yMem → Prop} {st : List yV} {r0 r1 : Option yV} : zvc E (n + 1) [] d xm_135 9 [r0, r1] ((1, 64) :: st) mem Post = (zvc E n [] d xm_135 12 [r0, r1] ((1, 67) :: st) mem Post) := zrf rfl
theorem s_135_12 {E : yE} {n d : Nat} {mem : yMem} {Post : Option yV → yMem → Prop} {st : List yV} {r0 r1 : Option yV} : zvc E (n + 1) [] d xm_135 12 [r0, r1] (st) mem Post = (zvc E n [] d xm_135 13 [r0, r1] ((0, 0) :: st) mem Post) := zrf rfl
theorem s_135_13 {E : yE} {n d : Nat} {mem : yMem} {Post : Option yV → yMem → Prop} {st : List yV} {r0 r1 : Option yV} {a0 a1 : Int} : zvc E (n + 1) [] d xm_135 13 [r0, r1] ((0, a1) :: (1, a0) :: st) mem Post = (True ∧ ysum st ≤ 8 ∧ yCon E d xm_263 [(1, a0), (0, a1)] mem (fun v mem' => zgk E d xm_135 16 [r0, r1] st v mem' Post)) := zrf rfl
theorem s_135_16 {E : yE} {n d : Nat} {mem : yMem} {Post : Option yV → yMem → Prop} {st : List yV} {r1 : Option yV} {x : Int} : zvc E (n + 1) [] d xm_135 16 [some (1, x), r1] (st) mem Post = (zvc E n [] d xm_135 17 [some (1, x), r1] ((1, x) :: st) mem Post) := zrf rfl
theorem s_135_17_57 {E : yE} {n d : Nat} {mem : yMem} {Post : Option yV → yMem → Prop} {st : List yV} {r0 r1 : Option yV} : zvc E (n + 1) [] d xm_135 17 [r0, r1] ((1, 57) :: st) mem Post = (zvc E n [] d xm_135 20 [r0, r1] ((1, 59) :: st) mem Post) := zrf rfl
theorem s_135_17_64 {E : yE} {n d : Nat} {mem : yMem} {Post : Option yV → yMem → Prop} {st : List yV} {r0 r1 : Option yV} : zvc E (n + 1) [] d xm_135 17 [r0, r1] ((1, 64) :: st) mem Post = (zvc E n [] d xm_135 20 [r0, r1] ((1, 66) :: st) mem Post) := zrf rfl
theorem s_135_20 {E : yE} {n d : Nat} {mem : yMem} {Post : Option yV → yMem → Prop} {st : List yV} {r0 r1 : Option yV} : zvc E (n + 1) [] d xm_135 20 [r0, r1] (st) mem Post = (zvc E n [] d xm_135 21 [r0, r1] ((0, 0) :: st) mem Post) := zrf rfl
theorem s_135_21 {E : yE} {n d : Nat} {mem : yMem} {Post : Option yV → yMem → Prop} {st : List yV} {r0 r1 : Option yV} {a0 a1 : Int} : zvc E (n + 1) [] d xm_135 21 [r0, r1] ((0, a1) :: (1, a0) :: st) mem Post = (True ∧ ysum st ≤ 8 ∧ yCon E d xm_263 [(1, a0), (0, a1)] mem (fun v mem' => zgk E d xm_135 24 [r0, r1] st v mem' Post)) := zrf rfl
theorem s_135_24 {E : yE} {n d : Nat} {mem : yMem} {Post : Option yV → yMem → Prop} {st : List yV} {r0 : Option yV} {x : Int} : zvc E (n + 1) [] d xm_135 24 [r0, some (1, x)] (st) mem Post = (zvc E n [] d xm_135 25 [r0, some (1, x)] ((1, x) :: st) mem Post) := zrf rfl
theorem s_135_25_2 {E : yE} {n d : Nat} {mem : yMem} {Post : Option yV → yMem → Prop} {st : List yV} {r0 r1 : Option yV} : zvc E (n + 1) [] d xm_135 25 [r0, r1] ((1, 2) :: st) mem Post = (zvc E n [] d xm_135 28 [r0, r1] ((1, 12) :: st) mem Post) := zrf rfl
theorem s_135_25_28 {E : yE} {n d : Nat} {mem : yMem} {Post : Option yV → yMem → Prop} {st : List yV} {r0 r1 : Option yV} : zvc E (n + 1) [] d xm_135 25 [r0, r1] ((1, 28) :: st) mem Post = (zvc E n [] d xm_135 28 [r0, r1] ((1, 38) :: st) mem Post) := zrf rfl
theorem s_135_28 {E : yE} {n d : Nat} {mem : yMem} {Post : Option yV → yMem → Prop} {st : List yV} {r0 r1 : Option yV} : zvc E (n + 1) [] d xm_135 28 [r0, r1] (st) mem Post = (zvc E n [] d xm_135 29 [r0, r1] ((0, 0) :: st) mem Post) := zrf rfl
theorem s_135_29 {E : yE} {n d : Nat} {mem : yMem} {Post : Option yV → yMem → Prop} {st : List yV} {r1 : Option yV} {x : Int} : zvc E (n + 1) [] d xm_135 29 [some (1, x), r1] (st) mem Post = (zvc E n [] d xm_135 30 [some (1, x), r1] ((1, x) :: st) mem Post) := zrf rfl
theorem s_135_30_57 {E : yE} {n d : Nat} {mem : yMem} {Post : Option yV → yMem → Prop} {st : List yV} {r0 r1 : Option yV} : zvc E (n + 1) [] d xm_135 30 [r0, r1] ((1, 57) :: st) mem Post = (zvc E n [] d xm_135 33 [r0, r1] ((1, 58) :: st) mem Post) := zrf rfl
theorem s_135_30_64 {E : yE} {n d : Nat} {mem : yMem} {Post : Option yV → yMem → Prop} {st : List yV} {r0 r1 : Option yV} : zvc E (n + 1) [] d xm_135 30 [r0, r1] ((1, 64) :: st) mem Post = (zvc E n [] d xm_135 33 [r0, r1] ((1, 65) :: st) mem Post) := zrf rfl
theorem s_135_33 {E : yE} {n d : Nat} {mem : yMem} {Post : Option yV → yMem → Prop} {st : List yV} {r0 r1 : Option yV} : zvc E (n + 1) [] d xm_135 33 [r0, r1] (st) mem Post = (zvc E n [] d xm_135 34 [r0, r1] ((0, 0) :: st) mem Post) := zrf rfl
theorem s_135_34 {E : yE} {n d : Nat} {mem : yMem} {Post : Option yV → yMem → Prop} {st : List yV} {r0 : Option yV} {x : Int} : zvc E (n + 1) [] d xm_135 34 [r0, some (1, x)] (st) mem Post = (zvc E n [] d xm_135 35 [r0, some (1, x)] ((1, x) :: st) mem Post) := zrf rfl
theorem s_135_35_2 {E : yE} {n d : Nat} {mem : yMem} {Post : Option yV → yMem → Prop} {st : List yV} {r0 r1 : Option yV} : zvc E (n + 1) [] d xm_135 35 [r0, r1] ((1, 2) :: st) mem Post = (zvc E n [] d xm_135 38 [r0, r1] ((1, 3) :: st) mem Post) := zrf rfl
theorem s_135_35_28 {E : yE} {n d : Nat} {mem : yMem} {Post : Option yV → yMem → Prop} {st : List yV} {r0 r1 : Option yV} : zvc E (n + 1) [] d xm_135 35 [r0, r1] ((1, 28) :: st) mem Post = (zvc E n [] d xm_135 38 [r0, r1] ((1, 29) :: st) mem Post) := zrf rfl
theorem s_135_38_3 {E : yE} {n d : Nat} {mem : yMem} {Post : Option yV → yMem → Prop} {st : List yV} {r0 r1 : Option yV} : zvc E (n + 1) [] d xm_135 38 [r0, r1] ((1, 3) :: st) mem Post = (zvc E n [] d xm_135 41 [r0, r1] ((0, mem 3 1) :: st) mem Post) := zrf rfl
theorem s_135_38_5 {E : yE} {n d : Nat} {mem : yMem} {Post : Option yV → yMem → Prop} {st : List yV} {r0 r1 : Option yV} : zvc E (n + 1) [] d xm_135 38 [r0, r1] ((1, 5) :: st) mem Post = (zvc E n [] d xm_135 41 [r0, r1] ((0, mem 5 1) :: st) mem Post) := zrf rfl
theorem s_135_38_7 {E : yE} {n d : Nat} {mem : yMem} {Post : Option yV → yMem → Prop} {st : List yV} {r0 r1 : Option yV} : zvc E (n + 1) [] d xm_135 38 [r0, r1] ((1, 7) :: st) mem Post = (zvc E n [] d xm_135 41 [r0, r1] ((0, mem 7 1) :: st) mem Post) := zrf rfl
theorem s_135_38_9 {E : yE} {n d : Nat} {mem : yMem} {Post : Option yV → yMem → Prop} {st : List yV} {r0 r1 : Option yV} : zvc E (n + 1) [] d xm_135 38 [r0, r1] ((1, 9) :: st) mem Post = (zvc E n [] d xm_135 41 [r0, r1] ((0, mem 9 1) :: st) mem Post) := zrf rfl
theorem s_135_38_29 {E : yE} {n d : Nat} {mem : yMem} {Post : Option yV → yMem → Prop} {st : List yV} {r0 r1 : Option yV} : zvc E (n + 1) [] d xm_135 38 [r0, r1] ((1, 29) :: st) mem Post = (zvc E n [] d xm_135 41 [r0, r1] ((0, mem 29 1) :: st) mem Post) := zrf rfl
theorem s_135_38_31 {E : yE} {n d : Nat} {mem : yMem} {Post : Option yV → yMem → Prop} {st : List yV} {r0 r1 : Option yV} : zvc E (n + 1) [] d xm_135 38 [r0, r1] ((1, 31) :: st) mem Post = (zvc E n [] d xm_135 41 [r0, r1] ((0, mem 31 1) :: st) mem Post) := zrf rfl
theorem s_135_38_33 {E : yE} {n d : Nat} {mem : yMem} {Post : Option yV → yMem → Prop} {st : List yV} {r0 r1 : Option yV} : zvc E (n + 1) [] d xm_135 38 [r0, r1] ((1, 33) :: st) mem Post = (zvc E n [] d xm_135 41 [r0, r1] ((0, mem 33 1) :: st) mem Post) := zrf rfl
theorem s_135_38_35 {E : yE} {n d : Nat} {mem : yMem} {Post : Option yV → yMem → Prop} {st : List yV} {r0 r1 : Option yV} : zvc E (n + 1) [] d xm_135 38 [r0, r1] ((1, 35) :: st) mem Post = (zvc E n [] d xm_135 41 [r0, r1] ((0, mem 35 1) :: st) mem Post) := zrf rfl
theorem s_135_41 {E : yE} {n d : Nat} {mem : yMem} {Post : Option yV → yMem → Prop} {st : List yV} {r0 r1 : Option yV} {m dp dd sp ss : Int} : zvc E (n + 1) [] d xm_135 41 [r0, r1] ((0, m) :: (0, dp) :: (1, dd) :: (0, sp) :: (1, ss) :: st) mem Post = (ysum st ≤ 8 ∧ zit ss 0 = true ∧ zit dd 0 = true ∧ 0 ≤ w32 m ∧ 0 ≤ w32 sp ∧ 0 ≤ w32 dp ∧ w32 sp + w32 m ≤ ((zar ss 0 : Nat) : Int) ∧ w32 dp + w32 m ≤ ((zar dd 0 : Nat) : Int) ∧ zvc E n [] d xm_135 44 [r0, r1] (st) (ycpy mem ss.toNat (w32 sp).toNat dd.toNat (w32 dp).toNat (w32 m).toNat) Post) := zrf rfl
theorem s_135_44 {E : yE} {n d : Nat} {mem : yMem} {Post : Option yV → yMem → Prop} {st : List yV} {r0 : Option yV} {x : Int} : zvc E (n + 1) [] d xm_135 44 [r0, some (1, x)] (st) mem Post = (zvc E n [] d xm_135 45 [r0, some (1, x)] ((1, x) :: st) mem Post) := zrf rfl
theorem s_135_45_2 {E : yE} {n d : Nat} {mem : yMem} {Post : Option yV → yMem → Prop} {st : List yV} {r0 r1 : Option yV} : zvc E (n + 1) [] d xm_135 45 [r0, r1] ((1, 2) :: st) mem Post = (zvc E n [] d xm_135 48 [r0, r1] ((1, 21) :: st) mem Post) := zrf rfl
theorem s_135_45_28 {E : yE} {n d : Nat} {mem : yMem} {Post : Option yV → yMem → Prop} {st : List yV} {r0 r1 : Option yV} : zvc E (n + 1) [] d xm_135 45 [r0, r1] ((1, 28) :: st) mem Post = (zvc E n [] d xm_135 48 [r0, r1] ((1, 47) :: st) mem Post) := zrf rfl
theorem s_135_48 {E : yE} {n d : Nat} {mem : yMem} {Post : Option yV → yMem → Prop} {st : List yV} {r0 r1 : Option yV} : zvc E (n + 1) [] d xm_135 48 [r0, r1] (st) mem Post = (zvc E n [] d xm_135 49 [r0, r1] ((0, 0) :: st) mem Post) := zrf rfl
theorem s_135_49 {E : yE} {n d : Nat} {mem : yMem} {Post : Option yV → yMem → Prop} {st : List yV} {r1 : Option yV} {x : Int} : zvc E (n + 1) [] d xm_135 49 [some (1, x), r1] (st) mem Post = (zvc E n [] d xm_135 50 [some (1, x), r1] ((1, x) :: st) mem Post) := zrf rfl
theorem s_135_50_57 {E : yE} {n d : Nat} {mem : yMem} {Post : Option yV → yMem → Prop} {st : List yV} {r0 r1 : Option yV} : zvc E (n + 1) [] d xm_135 50 [r0, r1] ((1, 57) :: st) mem Post = (zvc E n [] d xm_135 53 [r0, r1] ((1, 60) :: st) mem Post) := zrf rfl
theorem s_135_50_64 {E : yE} {n d : Nat} {mem : yMem} {Post : Option yV → yMem → Prop} {st : List yV} {r0 r1 : Option yV} : zvc E (n + 1) [] d xm_135 50 [r0, r1] ((1, 64) :: st) mem Post = (zvc E n [] d xm_135 53 [r0, r1] ((1, 67) :: st) mem Post) := zrf rfl
theorem s_135_53 {E : yE} {n d : Nat} {mem : yMem} {Post : Option yV → yMem → Prop} {st : List yV} {r0 r1 : Option yV} : zvc E (n + 1) [] d xm_135 53 [r0, r1] (st) mem Post = (zvc E n [] d xm_135 54 [r0, r1] ((0, 0) :: st) mem Post) := zrf rfl
theorem s_135_54 {E : yE} {n d : Nat} {mem : yMem} {Post : Option yV → yMem → Prop} {st : List yV} {r0 : Option yV} {x : Int} : zvc E (n + 1) [] d xm_135 54 [r0, some (1, x)] (st) mem Post = (zvc E n [] d xm_135 55 [r0, some (1, x)] ((1, x) :: st) mem Post) := zrf rfl
theorem s_135_55_2 {E : yE} {n d : Nat} {mem : yMem} {Post : Option yV → yMem → Prop} {st : List yV} {r0 r1 : Option yV} : zvc E (n + 1) [] d xm_135 55 [r0, r1] ((1, 2) :: st) mem Post = (zvc E n [] d xm_135 58 [r0, r1] ((1, 9) :: st) mem Post) := zrf rfl
theorem s_135_55_28 {E : yE} {n d : Nat} {mem : yMem} {Post : Option yV → yMem → Prop} {st : List yV} {r0 r1 : Option yV} : zvc E (n + 1) [] d xm_135 55 [r0, r1] ((1, 28) :: st) mem Post = (zvc E n [] d xm_135 58 [r0, r1] ((1, 35) :: st) mem Post) := zrf rfl
theorem s_135_58_3 {E : yE} {n d : Nat} {mem : yMem} {Post : Option yV → yMem → Prop} {st : List yV} {r0 r1 : Option yV} : zvc E (n + 1) [] d xm_135 58 [r0, r1] ((1, 3) :: st) mem Post = (zvc E n [] d xm_135 61 [r0, r1] ((0, mem 3 1) :: st) mem Post) := zrf rfl
theorem s_135_58_5 {E : yE} {n d : Nat} {mem : yMem} {Post : Option yV → yMem → Prop} {st : List yV} {r0 r1 : Option yV} : zvc E (n + 1) [] d xm_135 58 [r0, r1] ((1, 5) :: st) mem Post = (zvc E n [] d xm_135 61 [r0, r1] ((0, mem 5 1) :: st) mem Post) := zrf rfl
theorem s_135_58_7 {E : yE} {n d : Nat} {mem : yMem} {Post : Option yV → yMem → Prop} {st : List yV} {r0 r1 : Option yV} : zvc E (n + 1) [] d xm_135 58 [r0, r1] ((1, 7) :: st) mem Post = (zvc E n [] d xm_135 61 [r0, r1] ((0, mem 7 1) :: st) mem Post) := zrf rfl
theorem s_135_58_9 {E : yE} {n d : Nat} {mem : yMem} {Post : Option yV → yMem → Prop} {st : List yV} {r0 r1 : Option yV} : zvc E (n + 1) [] d xm_135 58 [r0, r1] ((1, 9) :: st) mem Post = (zvc E n [] d xm_135 61 [r0, r1] ((0, mem 9 1) :: st) mem Post) := zrf rfl
theorem s_135_58_29 {E : yE} {n d : Nat} {mem : yMem} {Post : Option yV → yMem → Prop} {st : List yV} {r0 r1 : Option yV} : zvc E (n + 1) [] d xm_135 58 [r0, r1] ((1, 29) :: st) mem Post = (zvc E n [] d xm_135 61 [r0, r1] ((0, mem 29 1) :: st) mem Post) := zrf rfl
theorem s_135_58_31 {E : yE} {n d : Nat} {mem : yMem} {Post : Option yV → yMem → Prop} {st : List yV} {r0 r1 : Option yV} : zvc E (n + 1) [] d xm_135 58 [r0, r1] ((1, 31) :: st) mem Post = (zvc E n [] d xm_135 61 [r0, r1] ((0, mem 31 1) :: st) mem Post) := zrf rfl
theorem s_135_58_33 {E : yE} {n d : Nat} {mem : yMem} {Post : Option yV → yMem → Prop} {st : List yV} {r0 r1 : Option yV} : zvc E (n + 1) [] d xm_135 58 [r0, r1] ((1, 33) :: st) mem Post = (zvc E n [] d xm_135 61 [r0, r1] ((0, mem 33 1) :: st) mem Post) := zrf rfl
theorem s_135_58_35 {E : yE} {n d : Nat} {mem : yMem} {Post : Option yV → yMem → Prop} {st : List yV} {r0 r1 : Option yV} : zvc E (n + 1) [] d xm_135 58 [r0, r1] ((1, 35) :: st) mem Post = (zvc E n [] d xm_135 61 [r0, r1] ((0, mem 35 1) :: st) mem Post) := zrf rfl
theorem s_135_61 {E : yE} {n d : Nat} {mem : yMem} {Post : Option yV → yMem → Prop} {st : List yV} {r0 r1 : Option yV} {m dp dd sp ss : Int} : zvc E (n + 1) [] d xm_135 61 [r0, r1] ((0, m) :: (0, dp) :: (1, dd) :: (0, sp) :: (1, ss) :: st) mem Post = (ysum st ≤ 8 ∧ zit ss 0 = true ∧ zit dd 0 = true ∧ 0 ≤ w32 m ∧ 0 ≤ w32 sp ∧ 0 ≤ w32 dp ∧ w32 sp + w32 m ≤ ((zar ss 0 : Nat) : Int) ∧ w32 dp + w32 m ≤ ((zar dd 0 : Nat) : Int) ∧ zvc E n [] d xm_135 64 [r0, r1] (st) (ycpy mem ss.toNat (w32 sp).toNat dd.toNat (w32 dp).toNat (w32 m).toNat) Post) := zrf rfl
theorem s_135_64 {E : yE} {n d : Nat} {mem : yMem} {Post : Option yV → yMem → Prop} {st : List yV} {r1 : Option yV} {x : Int} : zvc E (n + 1) [] d xm_135 64 [some (1, x), r1] (st) mem Post = (zvc E n [] d xm_135 65 [some (1, x), r1] ((1, x) :: st) mem Post) := zrf rfl
theorem s_135_65 {E : yE} {n d : Nat} {mem : yMem} {Post : Option yV → yMem → Prop} {st : List yV} {r0 r1 : Option yV} {z : Int} : zvc E (n + 1) [] d xm_135 65 [r0, r1] ((1, z) :: st) mem Post = (zio z 10 = true ∧ ysum st ≤ 8 ∧ yCon E d xm_137 [(1, z)] mem (fun v mem' => zgk E d xm_135 68 [r0, r1] st v mem' Post)) := zrf rfl
theorem s_135_68 {E : yE} {n d : Nat} {mem : yMem} {Post : Option yV → yMem → Prop} {st : List yV} {r1 : Option yV} {x : Int} : zvc E (n + 1) [] d xm_135 68 [some (1, x), r1] (st) mem Post = (zvc E n [] d xm_135 69 [some (1, x), r1] ((1, x) :: st) mem Post) := zrf rfl
theorem s_135_69 {E : yE} {n d : Nat} {mem : yMem} {Post : Option yV → yMem → Prop} {st : List yV} {r0 r1 : Option yV} : zvc E (n + 1) [] d xm_135 69 [r0, r1] (st) mem Post = (zvc E n [] d xm_135 70 [r0, r1] ((0, 0) :: st) mem Post) := zrf rfl
theorem s_135_70_57 {E : yE} {n d : Nat} {mem : yMem} {Post : Option yV → yMem → Prop} {st : List yV} {r0 r1 : Option yV} {x : Int} : zvc E (n + 1) [] d xm_135 70 [r0, r1] ((0, x) :: (1, 57) :: st) mem Post = (zvc E n [] d xm_135 73 [r0, r1] (st) (yset mem 57 7 x) Post) := zrf rfl
theorem s_135_70_64 {E : yE} {n d : Nat} {mem : yMem} {Post : Option yV → yMem → Prop} {st : List yV} {r0 r1 : Option yV} {x : Int} : zvc E (n + 1) [] d xm_135 70 [r0, r1] ((0, x) :: (1, 64) :: st) mem Post = (zvc E n [] d xm_135 73 [r0, r1] (st) (yset mem 64 7 x) Post) := zrf rfl
theorem s_135_73 {E : yE} {n d : Nat} {mem : yMem} {Post : Option yV → yMem → Prop} {st : List yV} {r1 : Option yV} {x : Int} : zvc E (n + 1) [] d xm_135 73 [some (1, x), r1] (st) mem Post = (zvc E n [] d xm_135 74 [some (1, x), r1] ((1, x) :: st) mem Post) := zrf rfl
theorem s_135_74 {E : yE} {n d : Nat} {mem : yMem} {Post : Option yV → yMem → Prop} {st : List yV} {r0 : Option yV} {x : Int} : zvc E (n + 1) [] d xm_135 74 [r0, some (1, x)] (st) mem Post = (zvc E n [] d xm_135 75 [r0, some (1, x)] ((1, x) :: st) mem Post) := zrf rfl
theorem s_135_75_2 {E : yE} {n d : Nat} {mem : yMem} {Post : Option yV → yMem → Prop} {st : List yV} {r0 r1 : Option yV} : zvc E (n + 1) [] d xm_135 75 [r0, r1] ((1, 2) :: st) mem Post = (zvc E n [] d xm_135 78 [r0, r1] ((0, mem 2 17) :: st) mem Post) := zrf rfl
theorem s_135_75_28 {E : yE} {n d : Nat} {mem : yMem} {Post : Option yV → yMem → Prop} {st : List yV} {r0 r1 : Option yV} : zvc E (n + 1) [] d xm_135 75 [r0, r1] ((1, 28) :: st) mem Post = (zvc E n [] d xm_135 78 [r0, r1] ((0, mem 28 17) :: st) mem Post) := zrf rfl
theorem s_135_78_57 {E : yE} {n d : Nat} {mem : yMem} {Post : Option yV → yMem → Prop} {st : List yV} {r0 r1 : Option yV} {x : Int} : zvc E (n + 1) [] d xm_135 78 [r0, r1] ((0, x) :: (1, 57) :: st) mem Post = (zvc E n [] d xm_135 81 [r0, r1] (st) (yset mem 57 8 x) Post) := zrf rfl
theorem s_135_78_64 {E : yE} {n d : Nat} {mem : yMem} {Post : Option yV → yMem → Prop} {st : List yV} {r0 r1 : Option yV} {x : Int} : zvc E (n + 1) [] d xm_135 78 [r0, r1] ((0, x) :: (1, 64) :: st) mem Post = (zvc E n [] d xm_135 81 [r0, r1] (st) (yset mem 64 8 x) Post) := zrf rfl
theorem s_135_81 {E : yE} {n d : Nat} {mem : yMem} {Post : Option yV → yMem → Prop} {st : List yV} {r1 : Option yV} {x : Int} : zvc E (n + 1) [] d xm_135 81 [some (1, x), r1] (st) mem Post = (zvc E n [] d xm_135 82 [some (1, x), r1] ((1, x) :: st) mem Post) := zrf rfl
theorem s_135_82 {E : yE} {n d : Nat} {mem : yMem} {Post : Option yV → yMem → Prop} {st : List yV} {r0 r1 : Option yV} : zvc E (n + 1) [] d xm_135 82 [r0, r1] (st) mem Post = (zvc E n [] d xm_135 83 [r0, r1] ((0, 0) :: st) mem Post) := zrf rfl
theorem s_135_83_57 {E : yE} {n d : Nat} {mem : yMem} {Post : Option yV → yMem → Prop} {st : List yV} {r0 r1 : Option yV} {x : Int} : zvc E (n + 1) [] d xm_135 83 [r0, r1] ((0, x) :: (1, 57) :: st) mem Post = (zvc E n [] d xm_135 86 [r0, r1] (st) (yset mem 57 9 x) Post) := zrf rfl
theorem s_135_83_64 {E : yE} {n d : Nat} {mem : yMem} {Post : Option yV → yMem → Prop} {st : List yV} {r0 r1 : Option yV} {x : Int} : zvc E (n + 1) [] d xm_135 83 [r0, r1] ((0, x) :: (1, 64) :: st) mem Post = (zvc E n [] d xm_135 86 [r0, r1] (st) (yset mem 64 9 x) Post) := zrf rfl
theorem s_135_86 {E : yE} {n d : Nat} {mem : yMem} {Post : Option yV → yMem → Prop} {st : List yV} {r1 : Option yV} {x : Int} : zvc E (n + 1) [] d xm_135 86 [some (1, x), r1] (st) mem Post = (zvc E n [] d xm_135 87 [some (1, x), r1] ((1, x) :: st) mem Post) := zrf rfl
theorem s_135_87 {E : yE} {n d : Nat} {mem : yMem} {Post : Option yV → yMem → Prop} {st : List yV} {r0 r1 : Option yV} : zvc E (n + 1) [] d xm_135 87 [r0, r1] (st) mem Post = (zvc E n [] d xm_135 88 [r0, r1] ((0, 0) :: st) mem Post) := zrf rfl
theorem s_135_88_57 {E : yE} {n d : Nat} {mem : yMem} {Post : Option yV → yMem → Prop} {st : List yV} {r0 r1 : Option yV} {x : Int} : zvc E (n + 1) [] d xm_135 88 [r0, r1] ((0, x) :: (1, 57) :: st) mem Post = (zvc E n [] d xm_135 91 [r0, r1] (st) (yset mem 57 10 x) Post) := zrf rfl
theorem s_135_88_64 {E : yE} {n d : Nat} {mem : yMem} {Post : Option yV → yMem → Prop} {st : List yV} {r0 r1 : Option yV} {x : Int} : zvc E (n + 1) [] d xm_135 88 [r0, r1] ((0, x) :: (1, 64) :: st) mem Post = (zvc E n [] d xm_135 91 [r0, r1] (st) (yset mem 64 10 x) Post) := zrf rfl
theorem s_135_91 {E : yE} {n d : Nat} {mem : yMem} {Post : Option yV → yMem → Prop} {st : List yV} {r1 : Option yV} {x : Int} : zvc E (n + 1) [] d xm_135 91 [some (1, x), r1] (st) mem Post = (zvc E n [] d xm_135 92 [some (1, x), r1] ((1, x) :: st) mem Post) := zrf rfl
theorem s_135_92 {E : yE} {n d : Nat} {mem : yMem} {Post : Option yV → yMem → Prop} {st : List yV} {r0 r1 : Option yV} : zvc E (n + 1) [] d xm_135 92 [r0, r1] (st) mem Post = (zvc E n [] d xm_135 93 [r0, r1] ((0, (-1)) :: st) mem Post) := zrf rfl
theorem s_135_93_57 {E : yE} {n d : Nat} {mem : yMem} {Post : Option yV → yMem → Prop} {st : List yV} {r0 r1 : Option yV} {x : Int} : zvc E (n + 1) [] d xm_135 93 [r0, r1] ((0, x) :: (1, 57) :: st) mem Post = (zvc E n [] d xm_135 96 [r0, r1] (st) (yset mem 57 11 x) Post) := zrf rfl
theorem s_135_93_64 {E : yE} {n d : Nat} {mem : yMem} {Post : Option yV → yMem → Prop} {st : List yV} {r0 r1 : Option yV} {x : Int} : zvc E (n + 1) [] d xm_135 93 [r0, r1] ((0, x) :: (1, 64) :: st) mem Post = (zvc E n [] d xm_135 96 [r0, r1] (st) (yset mem 64 11 x) Post) := zrf rfl
theorem s_135_96 {E : yE} {n d : Nat} {mem : yMem} {Post : Option yV → yMem → Prop} {st : List yV} {r1 : Option yV} {x : Int} : zvc E (n + 1) [] d xm_135 96 [some (1, x), r1] (st) mem Post = (zvc E n [] d xm_135 97 [some (1, x), r1] ((1, x) :: st) mem Post) := zrf rfl
theorem s_135_97 {E : yE} {n d : Nat} {mem : yMem} {Post : Option yV → yMem → Prop} {st : List yV} {r0 : Option yV} {x : Int} : zvc E (n + 1) [] d xm_135 97 [r0, some (1, x)] (st) mem Post = (zvc E n [] d xm_135 98 [r0, some (1, x)] ((1, x) :: st) mem Post) := zrf rfl
theorem s_135_98_2 {E : yE} {n d : Nat} {mem : yMem} {Post : Option yV → yMem → Prop} {st : List yV} {r0 r1 : Option yV} : zvc E (n + 1) [] d xm_135 98 [r0, r1] ((1, 2) :: st) mem Post = (zvc E n [] d xm_135 101 [r0, r1] ((0, mem 2 18) :: st) mem Post) := zrf rfl
theorem s_135_98_28 {E : yE} {n d : Nat} {mem : yMem} {Post : Option yV → yMem → Prop} {st : List yV} {r0 r1 : Option yV} : zvc E (n + 1) [] d xm_135 98 [r0, r1] ((1, 28) :: st) mem Post = (zvc E n [] d xm_135 101 [r0, r1] ((0, mem 28 18) :: st) mem Post) := zrf rfl
theorem s_135_101_57 {E : yE} {n d : Nat} {mem : yMem} {Post : Option yV → yMem → Prop} {st : List yV} {r0 r1 : Option yV} {x : Int} : zvc E (n + 1) [] d xm_135 101 [r0, r1] ((0, x) :: (1, 57) :: st) mem Post = (zvc E n [] d xm_135 104 [r0, r1] (st) (yset mem 57 12 x) Post) := zrf rfl
theorem s_135_101_64 {E : yE} {n d : Nat} {mem : yMem} {Post : Option yV → yMem → Prop} {st : List yV} {r0 r1 : Option yV} {x : Int} : zvc E (n + 1) [] d xm_135 101 [r0, r1] ((0, x) :: (1, 64) :: st) mem Post = (zvc E n [] d xm_135 104 [r0, r1] (st) (yset mem 64 12 x) Post) := zrf rfl
theorem s_135_104 {E : yE} {n d : Nat} {mem : yMem} {Post : Option yV → yMem → Prop} {r0 r1 : Option yV} : zvc E (n + 1) [] d xm_135 104 [r0, r1] ([]) mem Post = (Post none mem) := zrf rfl
theorem s_137_0 {E : yE} {n d : Nat} {mem : yMem} {Post : Option yV → yMem → Prop} {st : List yV} {x : Int} : zvc E (n + 1) [] d xm_137 0 [some (1, x)] (st) mem Post = (zvc E n [] d xm_137 1 [some (1, x)] ((1, x) :: st) mem Post) := zrf rfl
theorem s_137_1 {E : yE} {n d : Nat} {mem : yMem} {Post : Option yV → yMem → Prop} {st : List yV} {r0 : Option yV} : zvc E (n + 1) [] d xm_137 1 [r0] (st) mem Post = (zvc E n [] d xm_137 2 [r0] ((0, 0) :: st) mem Post) := zrf rfl
theorem s_137_2_57 {E : yE} {n d : Nat} {mem : yMem} {Post : Option yV → yMem → Prop} {st : List yV} {r0 : Option yV} {x : Int} : zvc E (n + 1) [] d xm_137 2 [r0] ((0, x) :: (1, 57) :: st) mem Post = (zvc E n [] d xm_137 5 [r0] (st) (yset mem 57 6 x) Post) := zrf rfl
theorem s_137_2_64 {E : yE} {n d : Nat} {mem : yMem} {Post : Option yV → yMem → Prop} {st : List yV} {r0 : Option yV} {x : Int} : zvc E (n + 1) [] d xm_137 2 [r0] ((0, x) :: (1, 64) :: st) mem Post = (zvc E n [] d xm_137 5 [r0] (st) (yset mem 64 6 x) Post) := zrf rfl
theorem s_137_5 {E : yE} {n d : Nat} {mem : yMem} {Post : Option yV → yMem → Prop} {st : List yV} {x : Int} : zvc E (n + 1) [] d xm_137 5 [some (1, x)] (st) mem Post = (zvc E n [] d xm_137 6 [some (1, x)] ((1, x) :: st) mem Post) := zrf rfl
theorem s_137_6_57 {E : yE} {n d : Nat} {mem : yMem} {Post : Option yV → yMem → Prop} {st : List yV} {r0 : Option yV} : zvc E (n + 1) [] d xm_137 6 [r0] ((1, 57) :: st) mem Post = (zvc E n [] d xm_137 9 [r0] ((1, 61) :: st) mem Post) := zrf rfl
theorem s_137_6_64 {E : yE} {n d : Nat} {mem : yMem} {Post : Option yV → yMem → Prop} {st : List yV} {r0 : Option yV} : zvc E (n + 1) [] d xm_137 6 [r0] ((1, 64) :: st) mem Post = (zvc E n [] d xm_137 9 [r0] ((1, 68) :: st) mem Post) := zrf rfl
theorem s_137_9 {E : yE} {n d : Nat} {mem : yMem} {Post : Option yV → yMem → Prop} {st : List yV} {r0 : Option yV} : zvc E (n + 1) [] d xm_137 9 [r0] (st) mem Post = (zvc E n [] d xm_137 10 [r0] ((0, (-1)) :: st) mem Post) := zrf rfl
theorem s_137_10 {E : yE} {n d : Nat} {mem : yMem} {Post : Option yV → yMem → Prop} {st : List yV} {r0 : Option yV} {a0 a1 : Int} : zvc E (n + 1) [] d xm_137 10 [r0] ((0, a1) :: (1, a0) :: st) mem Post = (True ∧ ysum st ≤ 8 ∧ yCon E d xm_263 [(1, a0), (0, a1)] mem (fun v mem' => zgk E d xm_137 13 [r0] st v mem' Post)) := zrf rfl
theorem s_137_13 {E : yE} {n d : Nat} {mem : yMem} {Post : Option yV → yMem → Prop} {r0 : Option yV} : zvc E (n + 1) [] d xm_137 13 [r0] ([]) mem Post = (Post none mem) := zrf rfl
theorem e_135 {E : yE} {d : Nat} {mem : yMem} {Q : Option yV → yMem → Prop} {z a0 : Int} (h : zG E d xm_135 0 [some (1, z), some (1, a0)] [] mem Q) : yCon E (d + 1) xm_135 [(1, z), (1, a0)] mem Q := zcon_of xmo_135 (Nat.le_of_ble_eq_true rfl) h
theorem e_137 {E : yE} {d : Nat} {mem : yMem} {Q : Option yV → yMem → Prop} {z : Int} (h : zG E d xm_137 0 [some (1, z)] [] mem Q) : yCon E (d + 1) xm_137 [(1, z)] mem Q := zcon_of xmo_137 (Nat.le_of_ble_eq_true rfl) h

/-! WHAT BECOMES OF THE WORLD behind a TEXT -/
/-- a TEXT's world, told by the class's own memory -/
def cBg (m : yMem) : Prop := (w32 (m 57 6) = 0 ∧ w32 (m 57 7) = 0 ∧ w32 (m 57 8) = w32 (m 2 17) ∧ w32 (m 57 9) = 0 ∧ w32 (m 57 10) = 0 ∧ w32 (m 57 12) = w32 (m 2 18)) ∧ (∀ j : Nat, j < 3 → w32 (m 58 j) = if (j : Int) < w32 (m 3 1) then w32 (m 12 j) else 0) ∧ (∀ j : Nat, j < 6 → w32 (m 59 j) = 0) ∧ (∀ j : Nat, j < 3 → w32 (m 60 j) = if (j : Int) < w32 (m 9 1) then w32 (m 21 j) else 0) ∧ ∀ j : Nat, j < 12 → w32 (m 61 j) = -1
theorem cBg_q {m n : yMem} (h : cBg n) (q : ∀ i j, (2 ≤ i ∧ i ≤ 26) ∨ (57 ≤ i ∧ i ≤ 61) → yRl i j = true → w32 (m i j) = w32 (n i j)) : cBg m := by
  obtain ⟨⟨a1, a2, a3, a4, a5, a6⟩, a7, a8, a9, a10⟩ := h
  refine ⟨⟨?_, ?_, ?_, ?_, ?_, ?_⟩, fun j hj => ?_, fun j hj => ?_, fun j hj => ?_, fun j hj => ?_⟩
  · rw [q 57 6 (by decide) rfl]; exact a1
  · rw [q 57 7 (by decide) rfl]; exact a2
  · rw [q 57 8 (by decide) rfl, q 2 17 (by decide) rfl]; exact a3
  · rw [q 57 9 (by decide) rfl]; exact a4
  · rw [q 57 10 (by decide) rfl]; exact a5
  · rw [q 57 12 (by decide) rfl, q 2 18 (by decide) rfl]; exact a6
  · rw [q 58 j (by decide) ((by decide : ∀ j, j < 3 → yRl 58 j = true) j hj), q 3 1 (by decide) rfl, q 12 j (by decide) ((by decide : ∀ j, j < 3 → yRl 12 j = true) j hj)]; exact a7 j hj
  · rw [q 59 j (by decide) ((by decide : ∀ j, j < 6 → yRl 59 j = true) j hj)]; exact a8 j hj
  · rw [q 60 j (by decide) ((by decide : ∀ j, j < 3 → yRl 60 j = true) j hj), q 9 1 (by decide) rfl, q 21 j (by decide) ((by decide : ∀ j, j < 3 → yRl 21 j = true) j hj)]; exact a9 j hj
  · rw [q 61 j (by decide) ((by decide : ∀ j, j < 12 → yRl 61 j = true) j hj)]; exact a10 j hj
theorem getD_at {α : Type} {l : List α} {j : Nat} (d : α) (h : j < l.length) : l[j]? = some (l.getD j d) := by
  rw [List.getD_eq_getElem?_getD, List.getElem?_eq_getElem h]
  rfl
theorem cBg_W {m : yMem} {D : dDc} {W : dU} (h : cBg m) (hD : cDh m D) (h62 : ∀ j, j < 12 → w32 (m 62 j) = uL W j) (h63 : ∀ j, j < 12 → w32 (m 63 j) = uP W j) : cW m 57 (uBg D W) := by
  obtain ⟨⟨a1, a2, a3, a4, a5, a6⟩, a7, a8, a9, a10⟩ := h
  obtain ⟨⟨t1, t2⟩, -, -, ⟨b1, b2⟩, ⟨p1, p2⟩, -⟩ := hD
  have e3 := t1.1
  have e9 := b1.1
  rw [List.length_map] at e3 e9
  refine ⟨fun j hj => ?_, fun j hj => a8 j hj, fun j hj => ?_, fun j hj => a10 j hj, fun j hj => h62 j hj, fun j hj => h63 j hj, a1, a2, ?_, a4, a5, ?_⟩
  · show w32 (m 58 j) = if j < D.1.length then (D.1.getD j (0, 0, 0)).2.2 else 0
    rw [a7 j hj, e3]
    by_cases hl : j < D.1.length
    · rw [if_pos (by omega), if_pos hl]
      exact (t2 j _ (getD_at (0, 0, 0) hl)).2
    · rw [if_neg (by omega), if_neg hl]
  · show w32 (m 60 j) = if j < D.2.2.2.1.length then (D.2.2.2.1.getD j (0, 0)).2 else 0
    rw [a9 j hj, e9]
    by_cases hl : j < D.2.2.2.1.length
    · rw [if_pos (by omega), if_pos hl]
      exact b2 j _ (getD_at (0, 0) hl)
    · rw [if_neg (by omega), if_neg hl]
  · rw [a3]; exact p1
  · rw [a6]; exact p2
theorem rBw_W {b b0 m : yMem} {D : dDc} {W : dU} (h : rBw b m) (hD : rDl m D) (hb : ∀ i j, 118 ≤ i → i ≤ 129 → b i j = b0 i j) (hW : rW b0 0 W) : rW m 0 (uBg D W) := by
  obtain ⟨⟨a1, a2, a3, a4, a5, a6⟩, a7, a8, a9, a10, a11⟩ := h
  obtain ⟨⟨t1, t2⟩, -, -, ⟨b1, b2⟩, ⟨p1, p2⟩, -⟩ := hD
  have e3 := t1.1
  have e9 := b1.1
  rw [List.length_map] at e3 e9
  obtain ⟨-, -, -, -, w5, w6, -⟩ := rW0 hW
  refine rW0_of ⟨fun j hj => ?_, fun j hj => a9 j hj, fun j hj => ?_, fun j hj => a10 j hj, fun j hj => ?_, fun j hj => ?_, a6, a1, ?_, a4, a5, ?_⟩
  · show w32 (m 123 j) = if j < D.1.length then (D.1.getD j (0, 0, 0)).2.2 else 0
    rw [a7 j hj, e3]
    by_cases hl : j < D.1.length
    · rw [if_pos (by omega), if_pos hl]
      exact (t2 j _ (getD_at (0, 0, 0) hl)).2
    · rw [if_neg (by omega), if_neg hl]
  · show w32 (m 124 j) = if j < D.2.2.2.1.length then (D.2.2.2.1.getD j (0, 0)).2 else 0
    rw [a8 j hj, e9]
    by_cases hl : j < D.2.2.2.1.length
    · rw [if_pos (by omega), if_pos hl]
      exact b2 j _ (getD_at (0, 0) hl)
    · rw [if_neg (by omega), if_neg hl]
  · rw [a11 128 j (by omega) (show j < 24 by omega), hb 128 j (by decide) (by decide)]; exact w5 j hj
  · rw [a11 129 j (by omega) (show j < 24 by omega), hb 129 j (by decide) (by decide)]; exact w6 j hj
  · rw [a2]; exact p1
  · rw [a3]; exact p2
theorem rBw_V {b b0 m : yMem} {V : dU} (h : rBw b m) (hb : ∀ i j, 118 ≤ i → i ≤ 129 → b i j = b0 i j) (hV : rW b0 1 V) : rW m 1 V := by
  have a11 := h.2.2.2.2.2
  obtain ⟨v1, v2, v3, v4, v5, v6, v7, v8, v9, v10, v11, v12⟩ := hV
  have u : ∀ i j : Nat, (118 ≤ i ∧ i ≤ 122 ∧ j ≠ 0) ∨ (i = 123 ∧ 3 ≤ j) ∨ (i = 124 ∧ 3 ≤ j) ∨ (i = 125 ∧ 6 ≤ j) ∨ (i = 126 ∧ 12 ≤ j) ∨ (i = 127 ∧ j ≠ 0) ∨ i = 128 ∨ i = 129 → j < wln i → w32 (m i j) = w32 (b0 i j) := fun i j h1 h2 => by rw [a11 i j h1 h2, hb i j (by omega) (by omega)]
  refine ⟨fun j hj => ?_, fun j hj => ?_, fun j hj => ?_, fun j hj => ?_, fun j hj => ?_, fun j hj => ?_, ?_, ?_, ?_, ?_, ?_, ?_⟩
  · rw [u 123 _ (by omega) (show 3 * 1 + j < 6 by omega)]; exact v1 j hj
  · rw [u 125 _ (by omega) (show 6 * 1 + j < 12 by omega)]; exact v2 j hj
  · rw [u 124 _ (by omega) (show 3 * 1 + j < 6 by omega)]; exact v3 j hj
  · rw [u 126 _ (by omega) (show 12 * 1 + j < 24 by omega)]; exact v4 j hj
  · rw [u 128 _ (by omega) (show 12 * 1 + j < 24 by omega)]; exact v5 j hj
  · rw [u 129 _ (by omega) (show 12 * 1 + j < 24 by omega)]; exact v6 j hj
  · rw [u 127 1 (by omega) (by decide)]; exact v7
  · rw [u 118 1 (by omega) (by decide)]; exact v8
  · rw [u 119 1 (by omega) (by decide)]; exact v9
  · rw [u 121 1 (by omega) (by decide)]; exact v10
  · rw [u 122 1 (by omega) (by decide)]; exact v11
  · rw [u 120 1 (by omega) (by decide)]; exact v12
section XW
variable {E : yE} {mem : yMem} {Q : Option yV → yMem → Prop}
theorem ycp_o {m : yMem} {ss sp dd dp n c j : Nat} (h : c ≠ dd) : ycpy m ss sp dd dp n c j = m c j := if_neg h
theorem ycp_s {m : yMem} {ss sp dd dp n j : Nat} : ycpy m ss sp dd dp n dd j = if dp ≤ j ∧ j < dp + n then m ss (sp + (j - dp)) else m dd j := if_pos rfl
theorem gx_dall (hE : yEok E) {D : Nat} (hD : 2 ≤ D) (hQ : ∀ m', (∀ i j, i ≠ 61 → m' i j = yset mem 57 6 0 i j) → (∀ j, j < 12 → m' 61 j = -1) → Q none m') : yCon E D xm_137 [(1, 57)] mem Q := by
  obtain ⟨d, rfl⟩ := Nat.exists_eq_add_of_le' hD
  refine e_137 ?_
  refine zvc_ok hE 60 [] _ _ _ _ _ _ _ xmo_137 ?_
  simp only [ynok_30, ynok_31, w32c_0, w32c_1, w32c_2, w32c_3, w32c_4, w32c_5, w32c_6, w32c_7, w32c_8, w32c_9, w32c_10, w32c_11, w32c_12, w32c_13, w32c_14, w32c_m1, w32c_m2, w32c_118, Int.reduceAdd, Int.reduceSub, Int.reduceMul, yput_s, yput_n, znl_n, znl_0, znl_1, znl_4, ysum_n, ysum_0, ysum_1, ysum_4, true_and, and_true, Nat.reduceAdd, Nat.reduceLeDiff, true_implies, eq_self, true_or, or_true, or_false, false_or, not_true_eq_false, not_false_eq_true, false_implies, implies_true, yset_s, yset_o, yset_d, ne_eq, Nat.reduceEqDiff, Int.reduceToNat, Int.reduceEq, Int.reduceLE, Int.reduceLT, Classical.not_not, Nat.reduceLT, ↓zvk_s, ↓zvk_n, ↓s_137_0, ↓s_137_1, ↓s_137_2_57, ↓s_137_2_64, ↓s_137_5, ↓s_137_6_57, ↓s_137_6_64, ↓s_137_9, ↓s_137_10, ↓s_137_13, zio_64, zar_68, zia_68, zln_68, zit_68, zio_57, zar_61, zia_61, zln_61, zit_61]
  refine g_fill hE (by omega) (z := 61) (L := 12) (by decide) (by decide) (by decide) (by decide) (fun m1 F1 V1 => ?_)
  refine zgk_n hE xmo_137 60 [] ?_
  simp only [ynok_30, ynok_31, w32c_0, w32c_1, w32c_2, w32c_3, w32c_4, w32c_5, w32c_6, w32c_7, w32c_8, w32c_9, w32c_10, w32c_11, w32c_12, w32c_13, w32c_14, w32c_m1, w32c_m2, w32c_118, Int.reduceAdd, Int.reduceSub, Int.reduceMul, yput_s, yput_n, znl_n, znl_0, znl_1, znl_4, ysum_n, ysum_0, ysum_1, ysum_4, true_and, and_true, Nat.reduceAdd, Nat.reduceLeDiff, true_implies, eq_self, true_or, or_true, or_false, false_or, not_true_eq_false, not_false_eq_true, false_implies, implies_true, yset_s, yset_o, yset_d, ne_eq, Nat.reduceEqDiff, Int.reduceToNat, Int.reduceEq, Int.reduceLE, Int.reduceLT, Classical.not_not, Nat.reduceLT, ↓zvk_s, ↓zvk_n, ↓s_137_0, ↓s_137_1, ↓s_137_2_57, ↓s_137_2_64, ↓s_137_5, ↓s_137_6_57, ↓s_137_6_64, ↓s_137_9, ↓s_137_10, ↓s_137_13, zio_64, zar_68, zia_68, zln_68, zit_68, zio_57, zar_61, zia_61, zln_61, zit_61]
  exact hQ m1 F1 V1
theorem gx_begin (hE : yEok E) {D : Nat} (hD : 3 ≤ D) (h3 : 0 ≤ w32 (mem 3 1) ∧ w32 (mem 3 1) ≤ 3) (h9 : 0 ≤ w32 (mem 9 1) ∧ w32 (mem 9 1) ≤ 3) (hQ : ∀ m, (∀ i j, i < 57 ∨ 61 < i → m i j = mem i j) → cBg m → Q none m) : yCon E D xm_135 [(1, 57), (1, 2)] mem Q := by
  obtain ⟨d, rfl⟩ := Nat.exists_eq_add_of_le' hD
  refine e_135 ?_
  refine zvc_ok hE 90 [] _ _ _ _ _ _ _ xmo_135 ?_
  simp only [ynok_30, ynok_31, w32c_0, w32c_1, w32c_2, w32c_3, w32c_4, w32c_5, w32c_6, w32c_7, w32c_8, w32c_9, w32c_10, w32c_11, w32c_12, w32c_13, w32c_14, w32c_m1, w32c_m2, w32c_118, Int.reduceAdd, Int.reduceSub, Int.reduceMul, yput_s, yput_n, znl_n, znl_0, znl_1, znl_4, ysum_n, ysum_0, ysum_1, ysum_4, true_and, and_true, Nat.reduceAdd, Nat.reduceLeDiff, true_implies, eq_self, true_or, or_true, or_false, false_or, not_true_eq_false, not_false_eq_true, false_implies, implies_true, yset_s, yset_o, yset_d, ne_eq, Nat.reduceEqDiff, Int.reduceToNat, Int.reduceEq, Int.reduceLE, Int.reduceLT, Classical.not_not, Nat.reduceLT, ↓zvk_s, ↓zvk_n, ↓s_135_0, ↓s_135_1_57, ↓s_135_1_64, ↓s_135_4, ↓s_135_5, ↓s_135_8, ↓s_135_9_57, ↓s_135_9_64, ↓s_135_12, ↓s_135_13, ↓s_135_16, ↓s_135_17_57, ↓s_135_17_64, ↓s_135_20, ↓s_135_21, ↓s_135_24, ↓s_135_25_2, ↓s_135_25_28, ↓s_135_28, ↓s_135_29, ↓s_135_30_57, ↓s_135_30_64, ↓s_135_33, ↓s_135_34, ↓s_135_35_2, ↓s_135_35_28, ↓s_135_38_3, ↓s_135_38_5, ↓s_135_38_7, ↓s_135_38_9, ↓s_135_38_29, ↓s_135_38_31, ↓s_135_38_33, ↓s_135_38_35, ↓s_135_41, ↓s_135_44, ↓s_135_45_2, ↓s_135_45_28, ↓s_135_48, ↓s_135_49, ↓s_135_50_57, ↓s_135_50_64, ↓s_135_53, ↓s_135_54, ↓s_135_55_2, ↓s_135_55_28, ↓s_135_58_3, ↓s_135_58_5, ↓s_135_58_7, ↓s_135_58_9, ↓s_135_58_29, ↓s_135_58_31, ↓s_135_58_33, ↓s_135_58_35, ↓s_135_61, ↓s_135_64, ↓s_135_65, ↓s_135_68, ↓s_135_69, ↓s_135_70_57, ↓s_135_70_64, ↓s_135_73, ↓s_135_74, ↓s_135_75_2, ↓s_135_75_28, ↓s_135_78_57, ↓s_135_78_64, ↓s_135_81, ↓s_135_82, ↓s_135_83_57, ↓s_135_83_64, ↓s_135_86, ↓s_135_87, ↓s_135_88_57, ↓s_135_88_64, ↓s_135_91, ↓s_135_92, ↓s_135_93_57, ↓s_135_93_64, ↓s_135_96, ↓s_135_97, ↓s_135_98_2, ↓s_135_98_28, ↓s_135_101_57, ↓s_135_101_64, ↓s_135_104, zio_64, zar_65, zia_65, zln_65, zit_65, zar_66, zia_66, zln_66, zit_66, zar_67, zia_67, zln_67, zit_67, zio_2, zio_3, zio_5, zio_7, zio_9, zar_12, zia_12, zln_12, zit_12, zar_21, zia_21, zln_21, zit_21, zio_28, zio_29, zio_31, zio_33, zio_35, zar_38, zia_38, zln_38, zit_38, zar_47, zia_47, zln_47, zit_47, zio_57, zar_58, zia_58, zln_58, zit_58, zar_59, zia_59, zln_59, zit_59, zar_60, zia_60, zln_60, zit_60]
  refine g_fill hE (by omega) (z := 58) (L := 3) (by decide) (by decide) (by decide) (by decide) (fun m1 F1 V1 => ?_)
  refine zgk_n hE xmo_135 90 [] ?_
  simp only [ynok_30, ynok_31, w32c_0, w32c_1, w32c_2, w32c_3, w32c_4, w32c_5, w32c_6, w32c_7, w32c_8, w32c_9, w32c_10, w32c_11, w32c_12, w32c_13, w32c_14, w32c_m1, w32c_m2, w32c_118, Int.reduceAdd, Int.reduceSub, Int.reduceMul, yput_s, yput_n, znl_n, znl_0, znl_1, znl_4, ysum_n, ysum_0, ysum_1, ysum_4, true_and, and_true, Nat.reduceAdd, Nat.reduceLeDiff, true_implies, eq_self, true_or, or_true, or_false, false_or, not_true_eq_false, not_false_eq_true, false_implies, implies_true, yset_s, yset_o, yset_d, ne_eq, Nat.reduceEqDiff, Int.reduceToNat, Int.reduceEq, Int.reduceLE, Int.reduceLT, Classical.not_not, Nat.reduceLT, ↓zvk_s, ↓zvk_n, ↓s_135_0, ↓s_135_1_57, ↓s_135_1_64, ↓s_135_4, ↓s_135_5, ↓s_135_8, ↓s_135_9_57, ↓s_135_9_64, ↓s_135_12, ↓s_135_13, ↓s_135_16, ↓s_135_17_57, ↓s_135_17_64, ↓s_135_20, ↓s_135_21, ↓s_135_24, ↓s_135_25_2, ↓s_135_25_28, ↓s_135_28, ↓s_135_29, ↓s_135_30_57, ↓s_135_30_64, ↓s_135_33, ↓s_135_34, ↓s_135_35_2, ↓s_135_35_28, ↓s_135_38_3, ↓s_135_38_5, ↓s_135_38_7, ↓s_135_38_9, ↓s_135_38_29, ↓s_135_38_31, ↓s_135_38_33, ↓s_135_38_35, ↓s_135_41, ↓s_135_44, ↓s_135_45_2, ↓s_135_45_28, ↓s_135_48, ↓s_135_49, ↓s_135_50_57, ↓s_135_50_64, ↓s_135_53, ↓s_135_54, ↓s_135_55_2, ↓s_135_55_28, ↓s_135_58_3, ↓s_135_58_5, ↓s_135_58_7, ↓s_135_58_9, ↓s_135_58_29, ↓s_135_58_31, ↓s_135_58_33, ↓s_135_58_35, ↓s_135_61, ↓s_135_64, ↓s_135_65, ↓s_135_68, ↓s_135_69, ↓s_135_70_57, ↓s_135_70_64, ↓s_135_73, ↓s_135_74, ↓s_135_75_2, ↓s_135_75_28, ↓s_135_78_57, ↓s_135_78_64, ↓s_135_81, ↓s_135_82, ↓s_135_83_57, ↓s_135_83_64, ↓s_135_86, ↓s_135_87, ↓s_135_88_57, ↓s_135_88_64, ↓s_135_91, ↓s_135_92, ↓s_135_93_57, ↓s_135_93_64, ↓s_135_96, ↓s_135_97, ↓s_135_98_2, ↓s_135_98_28, ↓s_135_101_57, ↓s_135_101_64, ↓s_135_104, zio_64, zar_65, zia_65, zln_65, zit_65, zar_66, zia_66, zln_66, zit_66, zar_67, zia_67, zln_67, zit_67, zio_2, zio_3, zio_5, zio_7, zio_9, zar_12, zia_12, zln_12, zit_12, zar_21, zia_21, zln_21, zit_21, zio_28, zio_29, zio_31, zio_33, zio_35, zar_38, zia_38, zln_38, zit_38, zar_47, zia_47, zln_47, zit_47, zio_57, zar_58, zia_58, zln_58, zit_58, zar_59, zia_59, zln_59, zit_59, zar_60, zia_60, zln_60, zit_60]
  refine g_fill hE (by omega) (z := 60) (L := 3) (by decide) (by decide) (by decide) (by decide) (fun m2 F2 V2 => ?_)
  refine zgk_n hE xmo_135 90 [] ?_
  simp only [ynok_30, ynok_31, w32c_0, w32c_1, w32c_2, w32c_3, w32c_4, w32c_5, w32c_6, w32c_7, w32c_8, w32c_9, w32c_10, w32c_11, w32c_12, w32c_13, w32c_14, w32c_m1, w32c_m2, w32c_118, Int.reduceAdd, Int.reduceSub, Int.reduceMul, yput_s, yput_n, znl_n, znl_0, znl_1, znl_4, ysum_n, ysum_0, ysum_1, ysum_4, true_and, and_true, Nat.reduceAdd, Nat.reduceLeDiff, true_implies, eq_self, true_or, or_true, or_false, false_or, not_true_eq_false, not_false_eq_true, false_implies, implies_true, yset_s, yset_o, yset_d, ne_eq, Nat.reduceEqDiff, Int.reduceToNat, Int.reduceEq, Int.reduceLE, Int.reduceLT, Classical.not_not, Nat.reduceLT, ↓zvk_s, ↓zvk_n, ↓s_135_0, ↓s_135_1_57, ↓s_135_1_64, ↓s_135_4, ↓s_135_5, ↓s_135_8, ↓s_135_9_57, ↓s_135_9_64, ↓s_135_12, ↓s_135_13, ↓s_135_16, ↓s_135_17_57, ↓s_135_17_64, ↓s_135_20, ↓s_135_21, ↓s_135_24, ↓s_135_25_2, ↓s_135_25_28, ↓s_135_28, ↓s_135_29, ↓s_135_30_57, ↓s_135_30_64, ↓s_135_33, ↓s_135_34, ↓s_135_35_2, ↓s_135_35_28, ↓s_135_38_3, ↓s_135_38_5, ↓s_135_38_7, ↓s_135_38_9, ↓s_135_38_29, ↓s_135_38_31, ↓s_135_38_33, ↓s_135_38_35, ↓s_135_41, ↓s_135_44, ↓s_135_45_2, ↓s_135_45_28, ↓s_135_48, ↓s_135_49, ↓s_135_50_57, ↓s_135_50_64, ↓s_135_53, ↓s_135_54, ↓s_135_55_2, ↓s_135_55_28, ↓s_135_58_3, ↓s_135_58_5, ↓s_135_58_7, ↓s_135_58_9, ↓s_135_58_29, ↓s_135_58_31, ↓s_135_58_33, ↓s_135_58_35, ↓s_135_61, ↓s_135_64, ↓s_135_65, ↓s_135_68, ↓s_135_69, ↓s_135_70_57, ↓s_135_70_64, ↓s_135_73, ↓s_135_74, ↓s_135_75_2, ↓s_135_75_28, ↓s_135_78_57, ↓s_135_78_64, ↓s_135_81, ↓s_135_82, ↓s_135_83_57, ↓s_135_83_64, ↓s_135_86, ↓s_135_87, ↓s_135_88_57, ↓s_135_88_64, ↓s_135_91, ↓s_135_92, ↓s_135_93_57, ↓s_135_93_64, ↓s_135_96, ↓s_135_97, ↓s_135_98_2, ↓s_135_98_28, ↓s_135_101_57, ↓s_135_101_64, ↓s_135_104, zio_64, zar_65, zia_65, zln_65, zit_65, zar_66, zia_66, zln_66, zit_66, zar_67, zia_67, zln_67, zit_67, zio_2, zio_3, zio_5, zio_7, zio_9, zar_12, zia_12, zln_12, zit_12, zar_21, zia_21, zln_21, zit_21, zio_28, zio_29, zio_31, zio_33, zio_35, zar_38, zia_38, zln_38, zit_38, zar_47, zia_47, zln_47, zit_47, zio_57, zar_58, zia_58, zln_58, zit_58, zar_59, zia_59, zln_59, zit_59, zar_60, zia_60, zln_60, zit_60]
  refine g_fill hE (by omega) (z := 59) (L := 6) (by decide) (by decide) (by decide) (by decide) (fun m3 F3 V3 => ?_)
  refine zgk_n hE xmo_135 90 [] ?_
  simp only [ynok_30, ynok_31, w32c_0, w32c_1, w32c_2, w32c_3, w32c_4, w32c_5, w32c_6, w32c_7, w32c_8, w32c_9, w32c_10, w32c_11, w32c_12, w32c_13, w32c_14, w32c_m1, w32c_m2, w32c_118, Int.reduceAdd, Int.reduceSub, Int.reduceMul, yput_s, yput_n, znl_n, znl_0, znl_1, znl_4, ysum_n, ysum_0, ysum_1, ysum_4, true_and, and_true, Nat.reduceAdd, Nat.reduceLeDiff, true_implies, eq_self, true_or, or_true, or_false, false_or, not_true_eq_false, not_false_eq_true, false_implies, implies_true, yset_s, yset_o, yset_d, ne_eq, Nat.reduceEqDiff, Int.reduceToNat, Int.reduceEq, Int.reduceLE, Int.reduceLT, Classical.not_not, Nat.reduceLT, ↓zvk_s, ↓zvk_n, ↓s_135_0, ↓s_135_1_57, ↓s_135_1_64, ↓s_135_4, ↓s_135_5, ↓s_135_8, ↓s_135_9_57, ↓s_135_9_64, ↓s_135_12, ↓s_135_13, ↓s_135_16, ↓s_135_17_57, ↓s_135_17_64, ↓s_135_20, ↓s_135_21, ↓s_135_24, ↓s_135_25_2, ↓s_135_25_28, ↓s_135_28, ↓s_135_29, ↓s_135_30_57, ↓s_135_30_64, ↓s_135_33, ↓s_135_34, ↓s_135_35_2, ↓s_135_35_28, ↓s_135_38_3, ↓s_135_38_5, ↓s_135_38_7, ↓s_135_38_9, ↓s_135_38_29, ↓s_135_38_31, ↓s_135_38_33, ↓s_135_38_35, ↓s_135_41, ↓s_135_44, ↓s_135_45_2, ↓s_135_45_28, ↓s_135_48, ↓s_135_49, ↓s_135_50_57, ↓s_135_50_64, ↓s_135_53, ↓s_135_54, ↓s_135_55_2, ↓s_135_55_28, ↓s_135_58_3, ↓s_135_58_5, ↓s_135_58_7, ↓s_135_58_9, ↓s_135_58_29, ↓s_135_58_31, ↓s_135_58_33, ↓s_135_58_35, ↓s_135_61, ↓s_135_64, ↓s_135_65, ↓s_135_68, ↓s_135_69, ↓s_135_70_57, ↓s_135_70_64, ↓s_135_73, ↓s_135_74, ↓s_135_75_2, ↓s_135_75_28, ↓s_135_78_57, ↓s_135_78_64, ↓s_135_81, ↓s_135_82, ↓s_135_83_57, ↓s_135_83_64, ↓s_135_86, ↓s_135_87, ↓s_135_88_57, ↓s_135_88_64, ↓s_135_91, ↓s_135_92, ↓s_135_93_57, ↓s_135_93_64, ↓s_135_96, ↓s_135_97, ↓s_135_98_2, ↓s_135_98_28, ↓s_135_101_57, ↓s_135_101_64, ↓s_135_104, zio_64, zar_65, zia_65, zln_65, zit_65, zar_66, zia_66, zln_66, zit_66, zar_67, zia_67, zln_67, zit_67, zio_2, zio_3, zio_5, zio_7, zio_9, zar_12, zia_12, zln_12, zit_12, zar_21, zia_21, zln_21, zit_21, zio_28, zio_29, zio_31, zio_33, zio_35, zar_38, zia_38, zln_38, zit_38, zar_47, zia_47, zln_47, zit_47, zio_57, zar_58, zia_58, zln_58, zit_58, zar_59, zia_59, zln_59, zit_59, zar_60, zia_60, zln_60, zit_60]
  have F1 : ∀ i j, i ≠ 58 → m1 i j = mem i j := F1
  have F2 : ∀ i j, i ≠ 60 → m2 i j = m1 i j := F2
  have F3 : ∀ i j, i ≠ 59 → m3 i j = m2 i j := F3
  have V1 : ∀ j, j < 3 → m1 58 j = 0 := V1
  have V2 : ∀ j, j < 3 → m2 60 j = 0 := V2
  have V3 : ∀ j, j < 6 → m3 59 j = 0 := V3
  have up3 : ∀ i j, i ≠ 58 → i ≠ 59 → i ≠ 60 → m3 i j = mem i j := fun i j a b c => by rw [F3 i j b, F2 i j c, F1 i j a]
  have e3 : m3 3 1 = mem 3 1 := up3 3 1 (by decide) (by decide) (by decide)
  have c0 : ∀ i j, i ≠ 58 → ycpy m3 12 0 58 0 (w32 (m3 3 1)).toNat i j = m3 i j := fun i j h => ycp_o h
  have e9 : ycpy m3 12 0 58 0 (w32 (m3 3 1)).toNat 9 1 = mem 9 1 := by rw [c0 9 1 (by decide), up3 9 1 (by decide) (by decide) (by decide)]
  rw [e9, e3]
  rw [e3] at c0
  refine ⟨h3.1, by omega, by omega, h9.1, by omega, by omega, gx_dall hE (by omega) (fun m4 F4 V4 => ?_)⟩
  have c1 : ∀ i j, i ≠ 58 → i ≠ 60 → ycpy (ycpy m3 12 0 58 0 (w32 (mem 3 1)).toNat) 21 0 60 0 (w32 (mem 9 1)).toNat i j = m3 i j := fun i j a b => by
    rw [ycp_o b, c0 i j a]
  have t58 : ∀ j, j < 3 → ycpy (ycpy m3 12 0 58 0 (w32 (mem 3 1)).toNat) 21 0 60 0 (w32 (mem 9 1)).toNat 58 j = if (j : Int) < w32 (mem 3 1) then mem 12 j else 0 := fun j hj => by
    rw [ycp_o (by decide), ycp_s]
    by_cases h : (j : Int) < w32 (mem 3 1)
    · rw [if_pos ⟨Nat.zero_le _, by omega⟩, if_pos h, up3 12 _ (by decide) (by decide) (by decide), show 0 + (j - 0) = j by omega]
    · rw [if_neg (by omega), if_neg h, F3 58 j (by decide), F2 58 j (by decide)]
      exact V1 j hj
  have t60 : ∀ j, j < 3 → ycpy (ycpy m3 12 0 58 0 (w32 (mem 3 1)).toNat) 21 0 60 0 (w32 (mem 9 1)).toNat 60 j = if (j : Int) < w32 (mem 9 1) then mem 21 j else 0 := fun j hj => by
    rw [ycp_s]
    by_cases h : (j : Int) < w32 (mem 9 1)
    · rw [if_pos ⟨Nat.zero_le _, by omega⟩, if_pos h, c0 21 _ (by decide), up3 21 _ (by decide) (by decide) (by decide), show 0 + (j - 0) = j by omega]
    · rw [if_neg (by omega), if_neg h, c0 60 j (by decide), F3 60 j (by decide)]
      exact V2 j hj
  revert c1 t58 t60 F4
  generalize ycpy (ycpy m3 12 0 58 0 (w32 (mem 3 1)).toNat) 21 0 60 0 (w32 (mem 9 1)).toNat = B
  intro F4 c1 t58 t60
  refine zgk_n hE xmo_135 90 [] ?_
  simp only [ynok_30, ynok_31, w32c_0, w32c_1, w32c_2, w32c_3, w32c_4, w32c_5, w32c_6, w32c_7, w32c_8, w32c_9, w32c_10, w32c_11, w32c_12, w32c_13, w32c_14, w32c_m1, w32c_m2, w32c_118, Int.reduceAdd, Int.reduceSub, Int.reduceMul, yput_s, yput_n, znl_n, znl_0, znl_1, znl_4, ysum_n, ysum_0, ysum_1, ysum_4, true_and, and_true, Nat.reduceAdd, Nat.reduceLeDiff, true_implies, eq_self, true_or, or_true, or_false, false_or, not_true_eq_false, not_false_eq_true, false_implies, implies_true, yset_s, yset_o, yset_d, ne_eq, Nat.reduceEqDiff, Int.reduceToNat, Int.reduceEq, Int.reduceLE, Int.reduceLT, Classical.not_not, Nat.reduceLT, ↓zvk_s, ↓zvk_n, ↓s_135_0, ↓s_135_1_57, ↓s_135_1_64, ↓s_135_4, ↓s_135_5, ↓s_135_8, ↓s_135_9_57, ↓s_135_9_64, ↓s_135_12, ↓s_135_13, ↓s_135_16, ↓s_135_17_57, ↓s_135_17_64, ↓s_135_20, ↓s_135_21, ↓s_135_24, ↓s_135_25_2, ↓s_135_25_28, ↓s_135_28, ↓s_135_29, ↓s_135_30_57, ↓s_135_30_64, ↓s_135_33, ↓s_135_34, ↓s_135_35_2, ↓s_135_35_28, ↓s_135_38_3, ↓s_135_38_5, ↓s_135_38_7, ↓s_135_38_9, ↓s_135_38_29, ↓s_135_38_31, ↓s_135_38_33, ↓s_135_38_35, ↓s_135_41, ↓s_135_44, ↓s_135_45_2, ↓s_135_45_28, ↓s_135_48, ↓s_135_49, ↓s_135_50_57, ↓s_135_50_64, ↓s_135_53, ↓s_135_54, ↓s_135_55_2, ↓s_135_55_28, ↓s_135_58_3, ↓s_135_58_5, ↓s_135_58_7, ↓s_135_58_9, ↓s_135_58_29, ↓s_135_58_31, ↓s_135_58_33, ↓s_135_58_35, ↓s_135_61, ↓s_135_64, ↓s_135_65, ↓s_135_68, ↓s_135_69, ↓s_135_70_57, ↓s_135_70_64, ↓s_135_73, ↓s_135_74, ↓s_135_75_2, ↓s_135_75_28, ↓s_135_78_57, ↓s_135_78_64, ↓s_135_81, ↓s_135_82, ↓s_135_83_57, ↓s_135_83_64, ↓s_135_86, ↓s_135_87, ↓s_135_88_57, ↓s_135_88_64, ↓s_135_91, ↓s_135_92, ↓s_135_93_57, ↓s_135_93_64, ↓s_135_96, ↓s_135_97, ↓s_135_98_2, ↓s_135_98_28, ↓s_135_101_57, ↓s_135_101_64, ↓s_135_104, zio_64, zar_65, zia_65, zln_65, zit_65, zar_66, zia_66, zln_66, zit_66, zar_67, zia_67, zln_67, zit_67, zio_2, zio_3, zio_5, zio_7, zio_9, zar_12, zia_12, zln_12, zit_12, zar_21, zia_21, zln_21, zit_21, zio_28, zio_29, zio_31, zio_33, zio_35, zar_38, zia_38, zln_38, zit_38, zar_47, zia_47, zln_47, zit_47, zio_57, zar_58, zia_58, zln_58, zit_58, zar_59, zia_59, zln_59, zit_59, zar_60, zia_60, zln_60, zit_60]
  have o4 : ∀ i j, i ≠ 61 → i ≠ 57 → m4 i j = B i j := fun i j a b => by rw [F4 i j a, yset_o b]
  have o5 : ∀ i j, i < 57 ∨ 61 < i → m4 i j = mem i j := fun i j h => by rw [o4 i j (by omega) (by omega), c1 i j (by omega) (by omega), up3 i j (by omega) (by omega) (by omega)]
  have w6 : ∀ x, w32 (yset (yset (yset (yset (yset (yset m4 57 7 0) 57 8 (m4 2 17)) 57 9 0) 57 10 0) 57 11 (-1)) 57 12 x 57 6) = 0 := fun x => by
    rw [yset_d (by decide), yset_d (by decide), yset_d (by decide), yset_d (by decide), yset_d (by decide), yset_d (by decide), F4 57 6 (by decide), yset_s]
    exact w32c_0
  have oo : ∀ x i j, i ≠ 57 → yset (yset (yset (yset (yset (yset m4 57 7 0) 57 8 (m4 2 17)) 57 9 0) 57 10 0) 57 11 (-1)) 57 12 x i j = m4 i j := fun x i j h => by rw [yset_o h, yset_o h, yset_o h, yset_o h, yset_o h, yset_o h]
  refine hQ _ (fun i j hi => by rw [oo _ i j (by omega), o5 i j hi]) ⟨⟨w6 _, ?_, ?_, ?_, ?_, ?_⟩, fun j hj => ?_, fun j hj => ?_, fun j hj => ?_, fun j hj => ?_⟩
  · rw [yset_d (by decide), yset_d (by decide), yset_d (by decide), yset_d (by decide), yset_d (by decide), yset_s]; exact w32c_0
  · rw [yset_d (by decide), yset_d (by decide), yset_d (by decide), yset_d (by decide), yset_s, oo _ 2 17 (by decide)]
  · rw [yset_d (by decide), yset_d (by decide), yset_d (by decide), yset_s]; exact w32c_0
  · rw [yset_d (by decide), yset_d (by decide), yset_s]; exact w32c_0
  · rw [yset_s, oo _ 2 18 (by decide)]
  · rw [oo _ 58 j (by decide), o4 58 j (by decide) (by decide), t58 j hj, oo _ 3 1 (by decide), o5 3 1 (by decide), oo _ 12 j (by decide), o5 12 j (by decide)]
    split
    · rfl
    · exact w32c_0
  · rw [oo _ 59 j (by decide), o4 59 j (by decide) (by decide), c1 59 j (by decide) (by decide), V3 j hj]; exact w32c_0
  · rw [oo _ 60 j (by decide), o4 60 j (by decide) (by decide), t60 j hj, oo _ 9 1 (by decide), o5 9 1 (by decide), oo _ 21 j (by decide), o5 21 j (by decide)]
    split
    · rfl
    · exact w32c_0
  · rw [oo _ 61 j (by decide), V4 j hj]; exact w32c_m1
def XWQ (mem : yMem) (x : Int) (m : yMem) : Prop := ((¬ (0 ≤ w32 x ∧ w32 x ≤ w32 (mem 0 11)) ∨ ¬ w32 (m 0 12) = 0) → ∀ i j, (57 ≤ i ∧ i ≤ 71) ∨ (i = 0 ∧ j = 14) → m i j = mem i j) ∧ ((0 ≤ w32 x ∧ w32 x ≤ w32 (mem 0 11)) → w32 (m 0 12) = 0 → cBg m ∧ (∀ i j, 62 ≤ i → i ≤ 70 → m i j = mem i j) ∧ w32 (m 0 14) = 0 ∧ w32 (m 71 1) = 0)
theorem wno {w : List (Nat × Nat)} (h : w.all (fun q => Nat.ble 2 q.1 && Nat.ble q.1 26) = true) {i j : Nat} (hi : i < 2 ∨ 26 < i) : amod w i j = false := by
  cases hm : amod w i j with
  | false => rfl
  | true =>
    obtain ⟨q, q1, q2, q3⟩ := amod_ex hm
    have h2 := List.all_eq_true.mp h q q1
    rw [q2] at h2
    simp only [Bool.and_eq_true, Nat.ble_eq] at h2
    omega
theorem x_wtext (hE : yEok E) (hm : yman Om) {D : Nat} (hD : 10 ≤ D) {x : Int} (hG : aGok mem) (hO : Om mem) (hQ : ∀ r m, XWQ mem x m → Q (some (0, r)) m) : yCon E D xm_41 [(1, 0), (0, x)] mem Q := by
  obtain ⟨d, rfl⟩ := Nat.exists_eq_add_of_le' hD
  refine e_41 ?_
  refine zvc_ok hE 90 zc_41 _ _ _ _ _ _ _ xmo_41 ?_
  have g11 := ag hG 0 11 ag_0_11
  have f12 : ¬ (0 ≤ w32 x ∧ w32 x ≤ w32 (mem 0 11)) → zG E (d + 9) xm_41 12 [some (1, 0), some (0, x), none] [] mem Q := fun hx => by
    refine zgo_ok (n := 60) hE xmo_41 (cs := zc_41) ?_
    simp only [ynok_30, ynok_31, w32c_0, w32c_1, w32c_2, w32c_3, w32c_4, w32c_5, w32c_6, w32c_7, w32c_8, w32c_9, w32c_10, w32c_11, w32c_12, w32c_13, w32c_14, w32c_m1, w32c_m2, w32c_118, Int.reduceAdd, Int.reduceSub, Int.reduceMul, yput_s, yput_n, znl_n, znl_0, znl_1, znl_4, ysum_n, ysum_0, ysum_1, ysum_4, true_and, and_true, Nat.reduceAdd, Nat.reduceLeDiff, true_implies, eq_self, true_or, or_true, or_false, false_or, not_true_eq_false, not_false_eq_true, false_implies, implies_true, yset_s, yset_o, yset_d, ne_eq, Nat.reduceEqDiff, Int.reduceToNat, Int.reduceEq, Int.reduceLE, Int.reduceLT, Classical.not_not, Nat.reduceLT, ↓zvk_s, ↓zvk_n, ↓s_41_0, ↓s_41_1, ↓s_41_4, ↓s_41_5, ↓s_41_6, ↓s_41_9, ↓g_41_12, ↓k_41_12, ↓s_41_14, ↓g_41_15, ↓k_41_15, ↓s_41_16, ↓s_41_19, ↓s_41_20, ↓s_41_23n, ↓s_41_23i, ↓s_41_23p, ↓s_41_24, ↓s_41_25, ↓s_41_26, ↓s_41_29, ↓s_41_30, ↓s_41_31, ↓s_41_34, ↓s_41_37, ↓s_41_40, ↓s_41_43, ↓s_41_44, ↓s_41_45, ↓s_41_48, ↓s_41_51, ↓s_41_54, ↓s_41_57, ↓s_41_58, ↓s_41_61, ↓s_41_64, ↓s_41_65, ↓s_41_66, ↓s_41_67, ↓s_41_70, ↓s_41_71, ↓s_41_74, ↓s_41_77, ↓s_41_78, ↓s_41_81, ↓s_41_82, ↓s_41_85, ↓s_41_88, ↓s_41_89, ↓s_41_92, ↓s_41_93, ↓s_41_96, ↓s_41_97, ↓s_41_98, ↓s_41_101, ↓s_41_102, ↓s_41_105, ↓s_41_106, ↓s_41_109, ↓s_41_110, zio_0, zio_64, zio_2, zio_71, zio_76, zio_54, zio_55, zio_57, zio_28]
    exact hQ _ _ ⟨fun _ _ _ _ => rfl, fun z => absurd z hx⟩
  have f15 : 0 ≤ w32 x → w32 x ≤ w32 (mem 0 11) → zG E (d + 9) xm_41 15 [some (1, 0), some (0, x), none] [] mem Q := fun x0 x1 => by
    refine zgo_ok (n := 60) hE xmo_41 (cs := zc_41) ?_
    simp only [ynok_30, ynok_31, w32c_0, w32c_1, w32c_2, w32c_3, w32c_4, w32c_5, w32c_6, w32c_7, w32c_8, w32c_9, w32c_10, w32c_11, w32c_12, w32c_13, w32c_14, w32c_m1, w32c_m2, w32c_118, Int.reduceAdd, Int.reduceSub, Int.reduceMul, yput_s, yput_n, znl_n, znl_0, znl_1, znl_4, ysum_n, ysum_0, ysum_1, ysum_4, true_and, and_true, Nat.reduceAdd, Nat.reduceLeDiff, true_implies, eq_self, true_or, or_true, or_false, false_or, not_true_eq_false, not_false_eq_true, false_implies, implies_true, yset_s, yset_o, yset_d, ne_eq, Nat.reduceEqDiff, Int.reduceToNat, Int.reduceEq, Int.reduceLE, Int.reduceLT, Classical.not_not, Nat.reduceLT, ↓zvk_s, ↓zvk_n, ↓s_41_0, ↓s_41_1, ↓s_41_4, ↓s_41_5, ↓s_41_6, ↓s_41_9, ↓g_41_12, ↓k_41_12, ↓s_41_14, ↓g_41_15, ↓k_41_15, ↓s_41_16, ↓s_41_19, ↓s_41_20, ↓s_41_23n, ↓s_41_23i, ↓s_41_23p, ↓s_41_24, ↓s_41_25, ↓s_41_26, ↓s_41_29, ↓s_41_30, ↓s_41_31, ↓s_41_34, ↓s_41_37, ↓s_41_40, ↓s_41_43, ↓s_41_44, ↓s_41_45, ↓s_41_48, ↓s_41_51, ↓s_41_54, ↓s_41_57, ↓s_41_58, ↓s_41_61, ↓s_41_64, ↓s_41_65, ↓s_41_66, ↓s_41_67, ↓s_41_70, ↓s_41_71, ↓s_41_74, ↓s_41_77, ↓s_41_78, ↓s_41_81, ↓s_41_82, ↓s_41_85, ↓s_41_88, ↓s_41_89, ↓s_41_92, ↓s_41_93, ↓s_41_96, ↓s_41_97, ↓s_41_98, ↓s_41_101, ↓s_41_102, ↓s_41_105, ↓s_41_106, ↓s_41_109, ↓s_41_110, zio_0, zio_64, zio_2, zio_71, zio_76, zio_54, zio_55, zio_57, zio_28]
    refine as_153 yoc_Om hm E hE _ (show 8 ≤ _ by omega) _ rfl _ _ _ ⟨rfl, ⟨rfl, x0, by show w32 x ≤ 800; omega⟩, trivial⟩ hG hO (fun q hq => by cases hq) (fun r m1 he => ?_)
    have R1 := CQ_of he (by decide +kernel)
    have fr1 : ∀ i j, (57 ≤ i ∧ i ≤ 71) ∨ (i = 0 ∧ j = 14) → m1 i j = mem i j := fun i j h => by
      by_cases e : i = 57 ∧ j = 11
      · obtain ⟨rfl, rfl⟩ := e
        exact he.2.2.2.1 57 11 rfl
      · exact he.2.2.2.1 i j (tp3_ok (by decide +kernel) (by unfold tpP; omega))
    obtain ⟨k1, -⟩ := he
    match r, k1 with
    | none, k1 => exact absurd (show (3 : Nat) = 99 from k1) (by decide)
    | some (t, y), k1 =>
      have ht : t = 0 := k1.1
      subst ht
      refine zgk_s hE xmo_41 60 zc_41 ?_
      simp only [ynok_30, ynok_31, w32c_0, w32c_1, w32c_2, w32c_3, w32c_4, w32c_5, w32c_6, w32c_7, w32c_8, w32c_9, w32c_10, w32c_11, w32c_12, w32c_13, w32c_14, w32c_m1, w32c_m2, w32c_118, Int.reduceAdd, Int.reduceSub, Int.reduceMul, yput_s, yput_n, znl_n, znl_0, znl_1, znl_4, ysum_n, ysum_0, ysum_1, ysum_4, true_and, and_true, Nat.reduceAdd, Nat.reduceLeDiff, true_implies, eq_self, true_or, or_true, or_false, false_or, not_true_eq_false, not_false_eq_true, false_implies, implies_true, yset_s, yset_o, yset_d, ne_eq, Nat.reduceEqDiff, Int.reduceToNat, Int.reduceEq, Int.reduceLE, Int.reduceLT, Classical.not_not, Nat.reduceLT, ↓zvk_s, ↓zvk_n, ↓s_41_0, ↓s_41_1, ↓s_41_4, ↓s_41_5, ↓s_41_6, ↓s_41_9, ↓g_41_12, ↓k_41_12, ↓s_41_14, ↓g_41_15, ↓k_41_15, ↓s_41_16, ↓s_41_19, ↓s_41_20, ↓s_41_23n, ↓s_41_23i, ↓s_41_23p, ↓s_41_24, ↓s_41_25, ↓s_41_26, ↓s_41_29, ↓s_41_30, ↓s_41_31, ↓s_41_34, ↓s_41_37, ↓s_41_40, ↓s_41_43, ↓s_41_44, ↓s_41_45, ↓s_41_48, ↓s_41_51, ↓s_41_54, ↓s_41_57, ↓s_41_58, ↓s_41_61, ↓s_41_64, ↓s_41_65, ↓s_41_66, ↓s_41_67, ↓s_41_70, ↓s_41_71, ↓s_41_74, ↓s_41_77, ↓s_41_78, ↓s_41_81, ↓s_41_82, ↓s_41_85, ↓s_41_88, ↓s_41_89, ↓s_41_92, ↓s_41_93, ↓s_41_96, ↓s_41_97, ↓s_41_98, ↓s_41_101, ↓s_41_102, ↓s_41_105, ↓s_41_106, ↓s_41_109, ↓s_41_110, zio_0, zio_64, zio_2, zio_71, zio_76, zio_54, zio_55, zio_57, zio_28]
      have a1 : aGok (yset m1 0 11 0) := aGok_set R1.1 (by rw [ag_0_11]; decide)
      have o1 : Om (yset m1 0 11 0) := yoc_Om m1 _ (fun i j hi => yset_o (fun e => by subst e; exact absurd hi (by decide))) R1.2.1
      have S1 := CQ_set a1 o1 (i := 0) (j := 12) (x := m1 55 7) (by decide) (by decide) (ag_32 ag_0_12)
      have S2 := CQ_tr S1 (CQ_set S1.1 S1.2.1 (i := 0) (j := 13) (x := m1 55 8) (by decide) (by decide) (ag_32 ag_0_13))
      have fr2 : ∀ i j, (57 ≤ i ∧ i ≤ 71) ∨ (i = 0 ∧ j = 14) → yset (yset (yset m1 0 11 0) 0 12 (m1 55 7)) 0 13 (m1 55 8) i j = mem i j := fun i j h => by
        rcases h with h | ⟨rfl, rfl⟩
        · rw [yset_o (by omega), yset_o (by omega), yset_o (by omega)]
          exact fr1 i j (Or.inl h)
        · rw [yset_d (by decide), yset_d (by decide), yset_d (by decide)]
          exact fr1 0 14 (Or.inr ⟨rfl, rfl⟩)
      have v12 : yset (yset (yset m1 0 11 0) 0 12 (m1 55 7)) 0 13 (m1 55 8) 0 12 = m1 55 7 := by rw [yset_d (by decide), yset_s]
      refine ⟨fun h7 => ?_, fun h7 => hQ _ _ ⟨fun _ => fr2, fun _ z => absurd (by rw [v12] at z; exact z) h7⟩⟩
      refine abs_take yoc_Om hm E hE _ (show 2 ≤ _ by omega) _ rfl _ _ _ ⟨rfl, rfl, trivial⟩ S2.1 S2.2.1 (fun q hq => by cases hq) (fun r m2 he => ?_)
      have R2 := CQ_of he (by decide +kernel)
      have fr3 : ∀ i j, i < 2 ∨ 26 < i → m2 i j = yset (yset (yset m1 0 11 0) 0 12 (m1 55 7)) 0 13 (m1 55 8) i j := fun i j h => he.2.2.2.1 i j (wno (by decide +kernel) h)
      obtain ⟨k1, -⟩ := he
      match r, k1 with
      | some y, k1 => exact absurd k1 (fun h => by cases h)
      | none, _ =>
        refine zgk_n hE xmo_41 60 zc_41 ?_
        simp only [ynok_30, ynok_31, w32c_0, w32c_1, w32c_2, w32c_3, w32c_4, w32c_5, w32c_6, w32c_7, w32c_8, w32c_9, w32c_10, w32c_11, w32c_12, w32c_13, w32c_14, w32c_m1, w32c_m2, w32c_118, Int.reduceAdd, Int.reduceSub, Int.reduceMul, yput_s, yput_n, znl_n, znl_0, znl_1, znl_4, ysum_n, ysum_0, ysum_1, ysum_4, true_and, and_true, Nat.reduceAdd, Nat.reduceLeDiff, true_implies, eq_self, true_or, or_true, or_false, false_or, not_true_eq_false, not_false_eq_true, false_implies, implies_true, yset_s, yset_o, yset_d, ne_eq, Nat.reduceEqDiff, Int.reduceToNat, Int.reduceEq, Int.reduceLE, Int.reduceLT, Classical.not_not, Nat.reduceLT, ↓zvk_s, ↓zvk_n, ↓s_41_0, ↓s_41_1, ↓s_41_4, ↓s_41_5, ↓s_41_6, ↓s_41_9, ↓g_41_12, ↓k_41_12, ↓s_41_14, ↓g_41_15, ↓k_41_15, ↓s_41_16, ↓s_41_19, ↓s_41_20, ↓s_41_23n, ↓s_41_23i, ↓s_41_23p, ↓s_41_24, ↓s_41_25, ↓s_41_26, ↓s_41_29, ↓s_41_30, ↓s_41_31, ↓s_41_34, ↓s_41_37, ↓s_41_40, ↓s_41_43, ↓s_41_44, ↓s_41_45, ↓s_41_48, ↓s_41_51, ↓s_41_54, ↓s_41_57, ↓s_41_58, ↓s_41_61, ↓s_41_64, ↓s_41_65, ↓s_41_66, ↓s_41_67, ↓s_41_70, ↓s_41_71, ↓s_41_74, ↓s_41_77, ↓s_41_78, ↓s_41_81, ↓s_41_82, ↓s_41_85, ↓s_41_88, ↓s_41_89, ↓s_41_92, ↓s_41_93, ↓s_41_96, ↓s_41_97, ↓s_41_98, ↓s_41_101, ↓s_41_102, ↓s_41_105, ↓s_41_106, ↓s_41_109, ↓s_41_110, zio_0, zio_64, zio_2, zio_71, zio_76, zio_54, zio_55, zio_57, zio_28]
        refine gx_begin hE (by omega) (ag R2.1 3 1 ag_3_1) (ag R2.1 9 1 ag_9_1) (fun m3 F3 B3 => ?_)
        refine zgk_n hE xmo_41 60 zc_41 ?_
        simp only [ynok_30, ynok_31, w32c_0, w32c_1, w32c_2, w32c_3, w32c_4, w32c_5, w32c_6, w32c_7, w32c_8, w32c_9, w32c_10, w32c_11, w32c_12, w32c_13, w32c_14, w32c_m1, w32c_m2, w32c_118, Int.reduceAdd, Int.reduceSub, Int.reduceMul, yput_s, yput_n, znl_n, znl_0, znl_1, znl_4, ysum_n, ysum_0, ysum_1, ysum_4, true_and, and_true, Nat.reduceAdd, Nat.reduceLeDiff, true_implies, eq_self, true_or, or_true, or_false, false_or, not_true_eq_false, not_false_eq_true, false_implies, implies_true, yset_s, yset_o, yset_d, ne_eq, Nat.reduceEqDiff, Int.reduceToNat, Int.reduceEq, Int.reduceLE, Int.reduceLT, Classical.not_not, Nat.reduceLT, ↓zvk_s, ↓zvk_n, ↓s_41_0, ↓s_41_1, ↓s_41_4, ↓s_41_5, ↓s_41_6, ↓s_41_9, ↓g_41_12, ↓k_41_12, ↓s_41_14, ↓g_41_15, ↓k_41_15, ↓s_41_16, ↓s_41_19, ↓s_41_20, ↓s_41_23n, ↓s_41_23i, ↓s_41_23p, ↓s_41_24, ↓s_41_25, ↓s_41_26, ↓s_41_29, ↓s_41_30, ↓s_41_31, ↓s_41_34, ↓s_41_37, ↓s_41_40, ↓s_41_43, ↓s_41_44, ↓s_41_45, ↓s_41_48, ↓s_41_51, ↓s_41_54, ↓s_41_57, ↓s_41_58, ↓s_41_61, ↓s_41_64, ↓s_41_65, ↓s_41_66, ↓s_41_67, ↓s_41_70, ↓s_41_71, ↓s_41_74, ↓s_41_77, ↓s_41_78, ↓s_41_81, ↓s_41_82, ↓s_41_85, ↓s_41_88, ↓s_41_89, ↓s_41_92, ↓s_41_93, ↓s_41_96, ↓s_41_97, ↓s_41_98, ↓s_41_101, ↓s_41_102, ↓s_41_105, ↓s_41_106, ↓s_41_109, ↓s_41_110, zio_0, zio_64, zio_2, zio_71, zio_76, zio_54, zio_55, zio_57, zio_28]
        have up : ∀ i j, ¬ (i = 71 ∧ j = 1) → ¬ (i = 0 ∧ j = 14) → ¬ (i = 76 ∧ j = 10) → yset (yset (yset m3 71 1 0) 0 14 0) 76 10 0 i j = m3 i j := fun i j h1 h2 h3 => by
          simp only [yset_a]
          repeat' split
          all_goals first | rfl | omega
        have e12 : w32 (yset (yset (yset m3 71 1 0) 0 14 0) 76 10 0 0 12) = 0 := by rw [up 0 12 (by omega) (by omega) (by omega), F3 0 12 (by omega), fr3 0 12 (by omega), v12]; exact h7
        refine hQ _ _ ⟨fun z => z.elim (fun z => absurd ⟨x0, x1⟩ z) (fun z => absurd e12 z), fun _ _ => ⟨cBg_q B3 (fun i j hi hr => ?_), fun i j i1 i2 => ?_, ?_, ?_⟩⟩
        · rw [up i j (by omega) (by omega) (by omega)]
        · rw [up i j (by omega) (by omega) (by omega), F3 i j (by omega), fr3 i j (by omega)]
          exact fr2 i j (by omega)
        · rw [yset_o (by decide), yset_s]; exact w32c_0
        · rw [yset_o (by decide), yset_o (by decide), yset_s]; exact w32c_0
  simp only [ynok_30, ynok_31, w32c_0, w32c_1, w32c_2, w32c_3, w32c_4, w32c_5, w32c_6, w32c_7, w32c_8, w32c_9, w32c_10, w32c_11, w32c_12, w32c_13, w32c_14, w32c_m1, w32c_m2, w32c_118, Int.reduceAdd, Int.reduceSub, Int.reduceMul, yput_s, yput_n, znl_n, znl_0, znl_1, znl_4, ysum_n, ysum_0, ysum_1, ysum_4, true_and, and_true, Nat.reduceAdd, Nat.reduceLeDiff, true_implies, eq_self, true_or, or_true, or_false, false_or, not_true_eq_false, not_false_eq_true, false_implies, implies_true, yset_s, yset_o, yset_d, ne_eq, Nat.reduceEqDiff, Int.reduceToNat, Int.reduceEq, Int.reduceLE, Int.reduceLT, Classical.not_not, Nat.reduceLT, ↓zvk_s, ↓zvk_n, ↓s_41_0, ↓s_41_1, ↓s_41_4, ↓s_41_5, ↓s_41_6, ↓s_41_9, ↓g_41_12, ↓k_41_12, ↓s_41_14, ↓g_41_15, ↓k_41_15, ↓s_41_16, ↓s_41_19, ↓s_41_20, ↓s_41_23n, ↓s_41_23i, ↓s_41_23p, ↓s_41_24, ↓s_41_25, ↓s_41_26, ↓s_41_29, ↓s_41_30, ↓s_41_31, ↓s_41_34, ↓s_41_37, ↓s_41_40, ↓s_41_43, ↓s_41_44, ↓s_41_45, ↓s_41_48, ↓s_41_51, ↓s_41_54, ↓s_41_57, ↓s_41_58, ↓s_41_61, ↓s_41_64, ↓s_41_65, ↓s_41_66, ↓s_41_67, ↓s_41_70, ↓s_41_71, ↓s_41_74, ↓s_41_77, ↓s_41_78, ↓s_41_81, ↓s_41_82, ↓s_41_85, ↓s_41_88, ↓s_41_89, ↓s_41_92, ↓s_41_93, ↓s_41_96, ↓s_41_97, ↓s_41_98, ↓s_41_101, ↓s_41_102, ↓s_41_105, ↓s_41_106, ↓s_41_109, ↓s_41_110, zio_0, zio_64, zio_2, zio_71, zio_76, zio_54, zio_55, zio_57, zio_28]
  repeat' first | exact f12 (by omega) | exact f15 (by omega) (by omega) | omega | refine And.intro ?_ ?_ | intro _
end XW
