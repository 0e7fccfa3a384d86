/-! ONE INSTRUCTION of a frame: what must hold, and what goes on -/
def ybin (o : Nat) (x y : Int) : Int := match o with
  | 0 => x + y
  | 1 => x - y
  | 2 => x * y
  | o => (fbin o (iI x) (iI y)).toInt
theorem ybin_ok (o : Nat) (x y : Int) : iI (ybin o x y) = fbin o (iI x) (iI y) := by
  match o with
  | 0 => exact Int32.ofInt_add x y
  | 1 => exact Int32.ofInt_sub x y
  | 2 => exact Int32.ofInt_mul x y
  | n + 3 => exact iI_t _
def ylbin (o : Nat) (x y : Int) : Int := match o with
  | 0 => x + y
  | 1 => x - y
  | 2 => x * y
  | o => (gbin o (lI x) (lI y)).toInt
theorem ylbin_ok (o : Nat) (x y : Int) : lI (ylbin o x y) = gbin o (lI x) (lI y) := by
  match o with
  | 0 => exact Int64.ofInt_add x y
  | 1 => exact Int64.ofInt_sub x y
  | 2 => exact Int64.ofInt_mul x y
  | n + 3 => exact lI_t _
def ycmp (x y : Int) : Int := if w64 y < w64 x then 1 else if w64 x = w64 y then 0 else -1
theorem ycmp_ok (x y : Int) : iI (ycmp x y) = lg_cmp (lI x) (lI y) := by
  unfold ycmp lg_cmp
  have e1 : (lI x > lI y) ↔ w64 y < w64 x := Int64.lt_iff_toInt_lt
  have e2 : (lI x = lI y) ↔ w64 x = w64 y := lI_inj
  by_cases h1 : w64 y < w64 x
  · rw [if_pos h1, if_pos (e1.mpr h1)]; rfl
  · rw [if_neg h1, if_neg (fun z => h1 (e1.mp z))]
    by_cases h2 : w64 x = w64 y
    · rw [if_pos h2, if_pos (e2.mpr h2)]; rfl
    · rw [if_neg h2, if_neg (fun z => h2 (e2.mp z))]; rfl
/-- comparing: 0 =, 1 not =, 2 <, 3 >=, 4 >, 5 <= -/
def ycp (c : Nat) (x y : Int) : Prop := match c with
  | 0 => w32 x = w32 y
  | 1 => ¬ w32 x = w32 y
  | 2 => w32 x < w32 y
  | 3 => w32 y ≤ w32 x
  | 4 => w32 y < w32 x
  | _ => w32 x ≤ w32 y
theorem ycp_ok (c : Nat) (x y : Int) : xcp c (iI x) (iI y) ↔ ycp c x y := by
  match c with
  | 0 => exact iI_inj
  | 1 => exact not_congr iI_inj
  | 2 => exact Int32.lt_iff_toInt_lt
  | 3 => exact Int32.le_iff_toInt_le
  | 4 => exact Int32.lt_iff_toInt_lt
  | n + 5 => exact Int32.le_iff_toInt_le
def yput (st : List yV) (r : Option yV) : List yV := match r with
  | some v => v :: st
  | none => st
def ycall (E : yE) (d mi n0 : Nat) (st : List yV) (mem : yMem) (k : List yV → yMem → Prop) : Prop := match xmt[mi]? with
  | none => False
  | some M' => xMn M' + n0 ≤ st.length ∧ ysum (st.drop (xMn M' + n0)) ≤ 8 ∧ ysum (st.take (xMn M' + n0)) ≤ xMl M' ∧ xMl M' ≤ 45 ∧ yCon E d M' (st.take (xMn M' + n0)).reverse mem (fun r mem' => k (yput (st.drop (xMn M' + n0)) r) mem')
theorem w32_01 {x : Int} (h : w32 x = 0 ∨ w32 x = 1) : iI x = iI 0 ∨ iI x = iI 1 := by
  rcases h with h | h
  · exact Or.inl (iI_inj.mpr (by rw [h]; decide))
  · exact Or.inr (iI_inj.mpr (by rw [h]; decide))
/-- may a field of this type hold it -/
def yfit (t : Nat) (v w : yV) : Prop := match t with
  | 0 => v.1 = 0 ∧ w.1 = 0
  | 2 => v.1 = 4 ∧ w.1 = 4
  | 3 => v.1 = 0 ∧ (w32 v.2 = 0 ∨ w32 v.2 = 1) ∧ w.1 = 0
  | _ => False
def ynok (t : Nat) (x : Int) : Prop := match t with
  | 0 => True
  | 1 => -128 ≤ w32 x ∧ w32 x ≤ 127
  | 3 => w32 x = 0 ∨ w32 x = 1
  | _ => False
def ystep (E : yE) (R : Room) (d : Nat) (M : xM) (op : xOp) (lv : yL) (st : List yV) (mem : yMem) (Post : Option yV → yMem → Prop) (k : Nat → yL → List yV → yMem → Prop) : Prop := match op.1 with
  | 0 => k op.2.1 lv ((0, cI op.2.2.1) :: st) mem
  | 1 => k op.2.1 lv ((4, cL op.2.2.1) :: st) mem
  | 2 => ∃ v, ylk lv op.2.2.2.1 = some v ∧ ykdb op.2.2.1 v = true ∧ k op.2.1 lv (v :: st) mem
  | 3 => match st with
    | v :: st' => ykdb op.2.2.1 v = true ∧ op.2.2.2.1 + xwd op.2.2.1 < xMl M ∧ k op.2.1 ((op.2.2.2.1, v) :: lv.filter (yflb op.2.2.1 op.2.2.2.1)) st' mem
    | _ => False
  | 4 => ∃ x, ylk lv op.2.2.1 = some (0, x) ∧ op.2.2.1 < xMl M ∧ k op.2.1 ((op.2.2.1, (0, x + cI op.2.2.2.1)) :: lv.filter (yflb 0 op.2.2.1)) st mem
  | 5 => match st with
    | (0, y) :: (0, x) :: st' => ((op.2.2.1 = 9 ∨ op.2.2.1 = 10) → ¬ w32 y = 0) ∧ k op.2.1 lv ((0, ybin op.2.2.1 x y) :: st') mem
    | _ => False
  | 6 => match st with
    | (0, x) :: st' => k op.2.1 lv ((0, (iI x).toInt8.toInt32.toInt) :: st') mem
    | _ => False
  | 8 => match st with
    | (4, y) :: (4, x) :: st' => k op.2.1 lv ((0, ycmp x y) :: st') mem
    | _ => False
  | 9 => match st with
    | v :: st' => ycat v = 1 ∧ k op.2.1 lv (v :: v :: st') mem
    | _ => False
  | 10 => match st with
    | v :: st' => ycat v = 1 ∧ k op.2.1 lv st' mem
    | _ => False
  | 11 => match st with
    | v :: w :: st' => ycat v = 1 ∧ ycat w = 1 ∧ k op.2.1 lv (v :: w :: v :: w :: st') mem
    | _ => False
  | 12 => match st with
    | (0, x) :: st' => (ycp op.2.2.2.1 x 0 → k op.2.2.1 lv st' mem) ∧ (¬ ycp op.2.2.2.1 x 0 → k op.2.1 lv st' mem)
    | _ => False
  | 13 => match st with
    | (0, y) :: (0, x) :: st' => (ycp op.2.2.2.1 x y → k op.2.2.1 lv st' mem) ∧ (¬ ycp op.2.2.2.1 x y → k op.2.1 lv st' mem)
    | _ => False
  | 14 => k op.2.1 lv st mem
  | 15 => match st with
    | (0, x) :: st' => (∀ q ∈ op.2.2.2.2, w32 x = cI q.1 → k q.2 lv st' mem) ∧ ((∀ q ∈ op.2.2.2.2, ¬ w32 x = cI q.1) → k op.2.2.1 lv st' mem) ∧ (∀ q ∈ op.2.2.2.2, q.1 < 4294967296)
    | _ => False
  | 16 => match st with
    | (1, i) :: st' => ∃ fs v, ysh[i.toNat]? = some (.inr (op.2.2.1, fs)) ∧ fs[op.2.2.2.1]? = some v ∧ k op.2.1 lv (yfv v (mem i.toNat op.2.2.2.1) :: st') mem
    | _ => False
  | 17 => match st, op.2.2.2.2 with
    | v :: (1, i) :: st', [q] => ∃ fs w, ysh[i.toNat]? = some (.inr (op.2.2.1, fs)) ∧ fs[op.2.2.2.1]? = some w ∧ yfit q.1 v w ∧ k op.2.1 lv st' (yset mem i.toNat op.2.2.2.1 v.2)
    | _, _ => False
  | 18 => match st with
    | (1, i) :: st' => ∃ t n rs, ysh[i.toNat]? = some (.inl (t, n, rs)) ∧ t < 5 ∧ k op.2.1 lv ((0, (n : Int)) :: st') mem
    | (6, i) :: st' => i.toNat < 3 ∧ k op.2.1 lv ((0, ((xlen.getD i.toNat 0 : Nat) : Int)) :: st') mem
    | _ => False
  | 19 => match st with
    | (0, j) :: (1, i) :: st' => ∃ n rs, ysh[i.toNat]? = some (.inl (op.2.2.1, n, rs)) ∧ 0 ≤ w32 j ∧ w32 j < (n : Int) ∧ k op.2.1 lv ((0, mem i.toNat (w32 j).toNat) :: st') mem
    | _ => False
  | 20 => match st with
    | (0, j) :: (1, i) :: st' => ∃ n rs q, ysh[i.toNat]? = some (.inl (4, n, rs)) ∧ 0 ≤ w32 j ∧ w32 j < (n : Int) ∧ rs[(w32 j).toNat]? = some q ∧ k op.2.1 lv ((1, (q : Int)) :: st') mem
    | _ => False
  | 21 => match st with
    | (0, x) :: (0, j) :: (1, i) :: st' => ∃ n rs, ysh[i.toNat]? = some (.inl (op.2.2.1, n, rs)) ∧ 0 ≤ w32 j ∧ w32 j < (n : Int) ∧ ynok op.2.2.1 x ∧ k op.2.1 lv st' (yset mem i.toNat (w32 j).toNat x)
    | _ => False
  | 26 => match st with
    | (0, n) :: (0, dp) :: (1, dd) :: (0, sp) :: (1, ss) :: st' => ysum st' ≤ 8 ∧ ∃ n0 r0 n1 r1, ysh[ss.toNat]? = some (.inl (0, n0, r0)) ∧ ysh[dd.toNat]? = some (.inl (0, n1, r1)) ∧ 0 ≤ w32 n ∧ 0 ≤ w32 sp ∧ 0 ≤ w32 dp ∧ w32 sp + w32 n ≤ (n0 : Int) ∧ w32 dp + w32 n ≤ (n1 : Int) ∧ k op.2.1 lv st' (ycpy mem ss.toNat (w32 sp).toNat dd.toNat (w32 dp).toNat (w32 n).toNat)
    | _ => False
  | 27 => ycall E d op.2.2.1 0 st mem (fun st' mem' => k op.2.1 lv st' mem')
  | 47 => ycall E d op.2.2.1 0 st mem (fun st' mem' => k op.2.1 lv st' mem')
  | 28 => (match xmt[op.2.2.1]? with
    | some M' => match st.drop (xMn M') with
      | (1, i) :: _ => ∃ fs, ysh[i.toNat]? = some (.inr (op.2.2.2.1, fs))
      | _ => False
    | none => False) ∧ ycall E d op.2.2.1 1 st mem (fun st' mem' => k op.2.1 lv st' mem')
  | 30 => match st with
    | [(0, x)] => (op.2.2.2.1 = 0 ∨ (op.2.2.2.1 = 3 ∧ (w32 x = 0 ∨ w32 x = 1))) ∧ Post (some (0, x)) mem
    | _ => False
  | 31 => match st with
    | [(4, x)] => Post (some (4, x)) mem
    | _ => False
  | 32 => match st with
    | [] => Post none mem
    | _ => False
  | 33 => k op.2.1 lv ((5, (op.2.2.1 : Int)) :: st) mem
  | 34 => k op.2.1 lv ((0, 1) :: st) mem
  | 35 => match st with
    | (5, i) :: st' => i.toNat < 3 ∧ k op.2.1 lv ((if op.2.2.1 = 0 then (6, i) else (0, 0)) :: st') mem
    | _ => False
  | 37 => match st with
    | (0, j) :: (6, i) :: st' => i.toNat < 3 ∧ 0 ≤ w32 j ∧ w32 j < ((xlen.getD i.toNat 0 : Nat) : Int) ∧ k op.2.1 lv ((0, (((xbyt.getD i.toNat []).getD (w32 j).toNat 0 : Nat) : Int)) :: st') mem
    | _ => False
  | 38 => match st with
    | (0, x) :: st' => 0 ≤ x ∧ x < 65536 ∧ k op.2.1 lv ((0, x) :: st') mem
    | _ => False
  | 39 => (match xmt[op.2.2.1]? with
    | some M' => match st.drop (xMn M') with
      | (5, i) :: _ => i.toNat < 3
      | _ => False
    | none => False) ∧ ycall E d op.2.2.1 1 st mem (fun st' mem' => k op.2.1 lv st' mem')
  | 40 => match st with
    | [(0, x)] => 0 ≤ x ∧ x < (if op.2.2.2.1 = 5 then 65536 else 128) ∧ Post (some (0, x)) mem
    | _ => False
  | 41 => k op.2.1 lv ((7, 0) :: st) mem
  | 60 => match st with
    | (4, y) :: (4, x) :: st' => k op.2.1 lv ((4, ylbin op.2.2.1 x y) :: st') mem
    | _ => False
  | 61 => match st with
    | (4, y) :: (4, x) :: st' => ¬ w64 y = 0 ∧ k op.2.1 lv ((4, ylbin op.2.2.1 x y) :: st') mem
    | _ => False
  | 62 => match st with
    | (0, y) :: (4, x) :: st' => k op.2.1 lv ((4, (lI x <<< ((iI y).toInt64 &&& 63)).toInt) :: st') mem
    | _ => False
  | 63 => match st with
    | (0, y) :: (4, x) :: st' => k op.2.1 lv ((4, ((lI x).toUInt64 >>> ((iI y).toInt64.toUInt64 &&& Int64.toUInt64 63)).toInt64.toInt) :: st') mem
    | _ => False
  | 64 => match st with
    | (4, x) :: st' => k op.2.1 lv ((4, -x) :: st') mem
    | _ => False
  | 65 => match st with
    | (0, x) :: st' => k op.2.1 lv ((4, w32 x) :: st') mem
    | _ => False
  | 66 => match st with
    | (4, x) :: st' => k op.2.1 lv ((0, x) :: st') mem
    | _ => False
  | 67 => match st with
    | (0, j) :: (1, i) :: st' => ∃ n rs, ysh[i.toNat]? = some (.inl (2, n, rs)) ∧ 0 ≤ w32 j ∧ w32 j < (n : Int) ∧ k op.2.1 lv ((4, mem i.toNat (w32 j).toNat) :: st') mem
    | _ => False
  | 68 => match st with
    | (4, x) :: (0, j) :: (1, i) :: st' => ∃ n rs, ysh[i.toNat]? = some (.inl (2, n, rs)) ∧ 0 ≤ w32 j ∧ w32 j < (n : Int) ∧ k op.2.1 lv st' (yset mem i.toNat (w32 j).toNat x)
    | _ => False
  | 69 => match st with
    | v :: st' => ycat v = 2 ∧ k op.2.1 lv st' mem
    | _ => False
  | 70 => match st with
    | (0, y) :: (0, x) :: st' => ysum st' ≤ 8 ∧ k op.2.1 lv ((0, if op.2.2.1 = 0 then (if w32 y < w32 x then y else x) else (if w32 x < w32 y then y else x)) :: st') mem
    | _ => False
  | 71 => match st with
    | (4, y) :: (4, x) :: st' => ysum st' ≤ 8 ∧ k op.2.1 lv ((4, if op.2.2.1 = 0 then (if w64 y < w64 x then y else x) else (if w64 y < w64 x then x else y)) :: st') mem
    | _ => False
  | 72 => match st with
    | (4, x) :: st' => ysum st' ≤ 8 ∧ k op.2.1 lv ((4, if 0 < w64 x then x else -x) :: st') mem
    | _ => False
  | _ => False
