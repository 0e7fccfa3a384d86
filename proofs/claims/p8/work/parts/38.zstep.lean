/-- small methods that a symbolic run goes into -/
def zin : List Nat := [143, 170, 173, 178, 181, 183, 184, 185, 188, 189, 190, 191, 192, 194, 196, 197, 198, 200, 202, 219, 220, 221, 254, 160, 34, 17, 20, 139, 62, 63, 64, 66, 72, 78, 79, 81, 82, 103, 104, 101, 123, 124, 125, 119, 258, 259, 260, 262, 264]
def zpop : Nat → List yV → List yV → Option (List yV × List yV)
  | 0, acc, st => some (acc, st)
  | n + 1, acc, v :: st => zpop n (v :: acc) st
  | _ + 1, _, [] => none
theorem zpop_ok : ∀ {n : Nat} {acc st as r : List yV}, zpop n acc st = some (as, r) → n ≤ st.length ∧ as = (st.take n).reverse ++ acc ∧ r = st.drop n
  | 0, acc, st, as, r, h => by
    simp only [zpop, Option.some.injEq, Prod.mk.injEq] at h
    obtain ⟨rfl, rfl⟩ := h
    simp
  | n + 1, acc, [], as, r, h => by cases h
  | n + 1, acc, v :: st, as, r, h => by
    obtain ⟨h1, h2, h3⟩ := zpop_ok (n := n) h
    refine ⟨by rw [List.length_cons]; omega, ?_, by rw [h3]; rfl⟩
    rw [h2, List.take_succ_cons, List.reverse_cons, List.append_assoc]
    rfl
/-- is the cell z an array of type t; an object of class c; how long is the array -/
def zit (z : Int) (t : Nat) : Bool := match ysh[z.toNat]? with
  | some (.inl (t', _, _)) => Nat.beq t' t
  | _ => false
def zio (z : Int) (c : Nat) : Bool := match ysh[z.toNat]? with
  | some (.inr (c', _)) => Nat.beq c' c
  | _ => false
def zia (z : Int) : Bool := match ysh[z.toNat]? with
  | some (.inl (t, _, _)) => Nat.blt t 5
  | _ => false
def zln (z : Int) : Nat := match ysh[z.toNat]? with
  | some (.inl (_, n, _)) => n
  | _ => 0
theorem zit_ok {z : Int} {t : Nat} (h : zit z t = true) : ∃ rs, ysh[z.toNat]? = some (.inl (t, zar z t, rs)) := by
  unfold zit at h
  unfold zar
  split at h
  · next t' n rs e =>
    rw [Nat.beq_eq] at h
    subst h
    refine ⟨rs, ?_⟩
    rw [e]
    simp
  · cases h
theorem zio_ok {z : Int} {c : Nat} (h : zio z c = true) : ∃ fs, ysh[z.toNat]? = some (.inr (c, fs)) := by
  unfold zio at h
  split at h
  · next t' fs e =>
    rw [Nat.beq_eq] at h
    subst h
    exact ⟨fs, e⟩
  · cases h
theorem zia_ok {z : Int} (h : zia z = true) : ∃ t rs, ysh[z.toNat]? = some (.inl (t, zln z, rs)) ∧ t < 5 := by
  unfold zia at h
  unfold zln
  split at h
  · next t n rs e =>
    refine ⟨t, rs, ?_, ?_⟩
    · rw [e]
    · exact Nat.le_of_ble_eq_true h
  · cases h
def zcall (E : yE) (d mi n0 nx : Nat) (rg : zR) (st : List yV) (mem : yMem) (rcv : List yV → Prop) (k : Nat → zR → List yV → yMem → Prop) (kg : Nat → zR → List yV → yMem → Prop) (kin : xM → List yV → yMem → (Option yV → yMem → Prop) → Prop) : Prop := match xmt[mi]? with
  | none => False
  | some M' => match zpop (xMn M' + n0) [] st with
    | none => False
    | some (as, r) => match Nat.ble (xMl M') 45 && Nat.ble (ysum as) (xMl M') with
      | false => False
      | true => rcv as ∧ ysum r ≤ 8 ∧ (match zis zin mi with
        | true => kin M' as mem (fun v mem' => k nx rg (yput r v) mem')
        | false => yCon E d M' as mem (fun v mem' => kg nx rg (yput r v) mem'))
def zsw (x : Int) (k : Nat → Prop) (dflt : Nat) : List (Nat × Nat) → Prop
  | [] => k dflt
  | q :: r => (w32 x = cI q.1 → k q.2) ∧ (¬ w32 x = cI q.1 → zsw x k dflt r)
theorem cI_inj {a b : Nat} (ha : a < 4294967296) (hb : b < 4294967296) (h : cI a = cI b) : a = b := by
  have e : ∀ a : Nat, cI a = if a < 2147483648 then (a : Int) else (a : Int) - 4294967296 := fun a => by
    unfold cI
    by_cases h : a < 2147483648
    · rw [if_pos h, if_pos (show a.blt 2147483648 = true from Nat.ble_eq_true_of_le h)]
    · rw [if_neg h, if_neg (fun z : a.blt 2147483648 = true => h (Nat.le_of_ble_eq_true z))]
  rw [e, e] at h
  split at h <;> split at h <;> omega
theorem zsw_ok {x : Int} {k : Nat → Prop} {dflt : Nat} : ∀ {cs : List (Nat × Nat)}, acsl cs = true → zsw x k dflt cs → (∀ q ∈ cs, w32 x = cI q.1 → k q.2) ∧ ((∀ q ∈ cs, ¬ w32 x = cI q.1) → k dflt) ∧ (∀ q ∈ cs, q.1 < 4294967296)
  | [], _, h => ⟨fun q hq => (by cases hq), fun _ => h, fun q hq => (by cases hq)⟩
  | q :: r, hc, h => by
    simp only [acsl, Bool.and_eq_true, Bool.not_eq_true'] at hc
    obtain ⟨h1, h2, h3⟩ := hc
    have hb : q.1 < 4294967296 := Nat.le_of_ble_eq_true h1
    by_cases e : w32 x = cI q.1
    · refine ⟨fun p hp e2 => ?_, fun h => absurd e (h q List.mem_cons_self), fun p hp => ?_⟩
      · rcases List.mem_cons.mp hp with rfl | hp
        · exact h.1 e
        · exfalso
          rw [List.any_eq_false] at h2
          have hp2 : p.1 < 4294967296 := by
            have : ∀ (l : List (Nat × Nat)), acsl l = true → ∀ p ∈ l, p.1 < 4294967296 := by
              intro l
              induction l with
              | nil => intro _ p hp; cases hp
              | cons a l ih =>
                intro hl p hp
                simp only [acsl, Bool.and_eq_true] at hl
                rcases List.mem_cons.mp hp with rfl | hp
                · exact Nat.le_of_ble_eq_true hl.1
                · exact ih hl.2.2 p hp
            exact this r h3 p hp
          exact h2 p hp (Nat.beq_eq.mpr (cI_inj hp2 hb (by rw [← e2, e])))
      · rcases List.mem_cons.mp hp with rfl | hp
        · exact hb
        · have : ∀ (l : List (Nat × Nat)), acsl l = true → ∀ p ∈ l, p.1 < 4294967296 := by
            intro l
            induction l with
            | nil => intro _ p hp; cases hp
            | cons a l ih =>
              intro hl p hp
              simp only [acsl, Bool.and_eq_true] at hl
              rcases List.mem_cons.mp hp with rfl | hp
              · exact Nat.le_of_ble_eq_true hl.1
              · exact ih hl.2.2 p hp
          exact this r h3 p hp
    · obtain ⟨g1, g2, g3⟩ := zsw_ok h3 (h.2 e)
      refine ⟨fun p hp e2 => ?_, fun h => g2 (fun p hp => h p (List.mem_cons_of_mem _ hp)), fun p hp => ?_⟩
      · rcases List.mem_cons.mp hp with rfl | hp
        · exact absurd e2 e
        · exact g1 p hp e2
      · rcases List.mem_cons.mp hp with rfl | hp
        · exact hb
        · exact g3 p hp
def zstep (E : yE) (d : Nat) (M : xM) (op : xOp) (rg : zR) (st : List yV) (mem : yMem) (Post : Option yV → yMem → Prop) (k : Nat → zR → List yV → yMem → Prop) (kg : Nat → zR → List yV → yMem → Prop) (kin : xM → List yV → yMem → (Option yV → yMem → Prop) → Prop) : Prop := match op.1 with
  | 2 => match rg[op.2.2.2.1]? with
    | some (some v) => (match ykdb op.2.2.1 v with
      | true => k op.2.1 rg (v :: st) mem
      | false => False)
    | _ => False
  | 3 => match st with
    | v :: st' => (match ykdb op.2.2.1 v && Nat.blt (op.2.2.2.1 + xwd op.2.2.1) (xMl M) with
      | true => k op.2.1 (zset op.2.2.1 v rg op.2.2.2.1) st' mem
      | false => False)
    | [] => False
  | 4 => match rg[op.2.2.1]? with
    | some (some (0, x)) => (match Nat.blt op.2.2.1 (xMl M) with
      | true => k op.2.1 (zset 0 (0, x + cI op.2.2.2.1) rg op.2.2.1) st mem
      | false => False)
    | _ => False
  | 5 => match st with
    | (0, y) :: (0, x) :: st' => (match op.2.2.1 with
      | 9 => ¬ w32 y = 0 ∧ k op.2.1 rg ((0, ybin 9 x y) :: st') mem
      | 10 => ¬ w32 y = 0 ∧ k op.2.1 rg ((0, ybin 10 x y) :: st') mem
      | o => k op.2.1 rg ((0, ybin o x y) :: st') mem)
    | _ => False
  | 9 => match st with
    | v :: st' => (match ycat v with
      | 1 => k op.2.1 rg (v :: v :: st') mem
      | _ => False)
    | _ => False
  | 10 => match st with
    | v :: st' => (match ycat v with
      | 1 => k op.2.1 rg st' mem
      | _ => False)
    | _ => False
  | 11 => match st with
    | v :: w :: st' => (match ycat v, ycat w with
      | 1, 1 => k op.2.1 rg (v :: w :: v :: w :: st') mem
      | _, _ => False)
    | _ => False
  | 15 => match st with
    | (0, x) :: st' => (match acsl op.2.2.2.2 with
      | true => zsw x (fun t => k t rg st' mem) op.2.2.1 op.2.2.2.2
      | false => False)
    | _ => False
  | 16 => match st with
    | (1, i) :: st' => (match ysh[i.toNat]? with
      | some (.inr (ci, fs)) => (match Nat.beq ci op.2.2.1, fs[op.2.2.2.1]? with
        | true, some v => k op.2.1 rg (yfv v (mem i.toNat op.2.2.2.1) :: st') mem
        | _, _ => False)
      | _ => False)
    | _ => False
  | 17 => match st, op.2.2.2.2 with
    | v :: (1, i) :: st', [q] => (match ysh[i.toNat]? with
      | some (.inr (ci, fs)) => (match Nat.beq ci op.2.2.1, fs[op.2.2.2.1]? with
        | true, some w => (match q.1, Nat.beq v.1 0 && Nat.beq w.1 0 with
          | 0, true => k op.2.1 rg st' (yset mem i.toNat op.2.2.2.1 v.2)
          | 3, true => (w32 v.2 = 0 ∨ w32 v.2 = 1) ∧ k op.2.1 rg st' (yset mem i.toNat op.2.2.2.1 v.2)
          | _, _ => False)
        | _, _ => False)
      | _ => False)
    | _, _ => False
  | 18 => match st with
    | (1, i) :: st' => zia i = true ∧ k op.2.1 rg ((0, ((zln i : Nat) : Int)) :: st') mem
    | (6, i) :: st' => i.toNat < 3 ∧ k op.2.1 rg ((0, ((xlen.getD i.toNat 0 : Nat) : Int)) :: st') mem
    | _ => False
  | 19 => match st with
    | (0, j) :: (1, i) :: st' => (0 ≤ w32 j ∧ w32 j < ((zar i op.2.2.1 : Nat) : Int)) ∧ k op.2.1 rg ((0, mem i.toNat (w32 j).toNat) :: st') mem
    | _ => False
  | 20 => match st with
    | (0, j) :: (1, i) :: st' => ∃ n rs q, ysh[i.toNat]? = some (.inl (4, n, rs)) ∧ 0 ≤ w32 j ∧ w32 j < (n : Int) ∧ rs[(w32 j).toNat]? = some q ∧ k op.2.1 rg ((1, (q : Int)) :: st') mem
    | _ => False
  | 21 => match st with
    | (0, x) :: (0, j) :: (1, i) :: st' => (0 ≤ w32 j ∧ w32 j < ((zar i op.2.2.1 : Nat) : Int)) ∧ (match op.2.2.1 with
      | 0 => k op.2.1 rg st' (yset mem i.toNat (w32 j).toNat x)
      | t => ynok t x ∧ k op.2.1 rg st' (yset mem i.toNat (w32 j).toNat x))
    | _ => False
  | 26 => match st with
    | (0, n) :: (0, dp) :: (1, dd) :: (0, sp) :: (1, ss) :: st' => ysum st' ≤ 8 ∧ zit ss 0 = true ∧ zit dd 0 = true ∧ 0 ≤ w32 n ∧ 0 ≤ w32 sp ∧ 0 ≤ w32 dp ∧ w32 sp + w32 n ≤ ((zar ss 0 : Nat) : Int) ∧ w32 dp + w32 n ≤ ((zar dd 0 : Nat) : Int) ∧ k op.2.1 rg st' (ycpy mem ss.toNat (w32 sp).toNat dd.toNat (w32 dp).toNat (w32 n).toNat)
    | _ => False
  | 27 => zcall E d op.2.2.1 0 op.2.1 rg st mem (fun _ => True) k kg kin
  | 47 => zcall E d op.2.2.1 0 op.2.1 rg st mem (fun _ => True) k kg kin
  | 28 => zcall E d op.2.2.1 1 op.2.1 rg st mem (fun as => match as with
    | (1, i) :: _ => zio i op.2.2.2.1 = true
    | _ => False) k kg kin
  | 39 => zcall E d op.2.2.1 1 op.2.1 rg st mem (fun as => match as with
    | (5, i) :: _ => i.toNat < 3
    | _ => False) k kg kin
  | 30 => match st with
    | [(0, x)] => (match op.2.2.2.1 with
      | 0 => Post (some (0, x)) mem
      | 3 => (w32 x = 0 ∨ w32 x = 1) ∧ Post (some (0, x)) mem
      | _ => False)
    | _ => False
  | 67 => match st with
    | (0, j) :: (1, i) :: st' => (0 ≤ w32 j ∧ w32 j < ((zar i 2 : Nat) : Int)) ∧ k op.2.1 rg ((4, mem i.toNat (w32 j).toNat) :: st') mem
    | _ => False
  | 68 => match st with
    | (4, x) :: (0, j) :: (1, i) :: st' => (0 ≤ w32 j ∧ w32 j < ((zar i 2 : Nat) : Int)) ∧ k op.2.1 rg st' (yset mem i.toNat (w32 j).toNat x)
    | _ => False
  | 69 => match st with
    | v :: st' => (match ycat v with
      | 2 => k op.2.1 rg st' mem
      | _ => False)
    | _ => False
  | _ => ystep E (yR (d + 1)) d M op [] st mem Post (fun pc' _ st' mem' => k pc' rg st' mem')
def zvc (E : yE) : Nat → List Nat → Nat → xM → Nat → zR → List yV → yMem → (Option yV → yMem → Prop) → Prop
  | 0, _, d, M, pc, rg, st, mem, Post => zG E d M pc rg st mem Post
  | n + 1, cs, d, M, pc, rg, st, mem, Post => match zcut cs pc with
    | true => zG E d M pc rg st mem Post
    | false => match xfind (xMk M) pc with
      | none => False
      | some op => zstep E d M op rg st mem Post (fun pc' rg' st' mem' => zvc E n cs d M pc' rg' st' mem' Post) (fun pc' rg' st' mem' => zG E d M pc' rg' st' mem' Post) (fun M' as mem' P => match d with
        | 0 => False
        | d' + 1 => zvc E n [] d' M' 0 (zarg (xMl M') as) [] mem' P)
/-- from a cut on -/
def zgo (E : yE) (n : Nat) (cs : List Nat) (d : Nat) (M : xM) (pc : Nat) (rg : zR) (st : List yV) (mem : yMem) (Post : Option yV → yMem → Prop) : Prop := match xfind (xMk M) pc with
  | none => False
  | some op => zstep E d M op rg st mem Post (fun pc' rg' st' mem' => zvc E n cs d M pc' rg' st' mem' Post) (fun pc' rg' st' mem' => zG E d M pc' rg' st' mem' Post) (fun M' as mem' P => match d with
    | 0 => False
    | d' + 1 => zvc E n [] d' M' 0 (zarg (xMl M') as) [] mem' P)
/-- Math.min and the like -/
def zmnl (x y : Int) : Int := if w64 y < w64 x then y else x
def zmxl (x y : Int) : Int := if w64 y < w64 x then x else y
def zmni (x y : Int) : Int := if w32 y < w32 x then y else x
def zmxi (x y : Int) : Int := if w32 x < w32 y then y else x
def zabl (x : Int) : Int := if 0 < w64 x then x else -x
theorem zrf {α : Sort _} {a b : α} (h : a = b) : a = b := h
def zvk (E : yE) (n : Nat) (cs : List Nat) (d : Nat) (M : xM) (pc : Nat) (rg : zR) (st : List yV) (v : Option yV) (mem : yMem) (Post : Option yV → yMem → Prop) : Prop := zvc E n cs d M pc rg (yput st v) mem Post
theorem zvk_s {E : yE} {n : Nat} {cs : List Nat} {d : Nat} {M : xM} {pc : Nat} {rg : zR} {st : List yV} {v : yV} {mem : yMem} {Post : Option yV → yMem → Prop} : zvk E n cs d M pc rg st (some v) mem Post = zvc E n cs d M pc rg (v :: st) mem Post := zrf rfl
theorem zvk_n {E : yE} {n : Nat} {cs : List Nat} {d : Nat} {M : xM} {pc : Nat} {rg : zR} {st : List yV} {mem : yMem} {Post : Option yV → yMem → Prop} : zvk E n cs d M pc rg st none mem Post = zvc E n cs d M pc rg st mem Post := zrf rfl
def zgk (E : yE) (d : Nat) (M : xM) (pc : Nat) (rg : zR) (st : List yV) (v : Option yV) (mem : yMem) (Post : Option yV → yMem → Prop) : Prop := zG E d M pc rg (yput st v) mem Post
