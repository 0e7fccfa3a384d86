/-! THE LOGIC: a method's frame over a memory of integers, whose shape is the one of the two objects at the law's loop. A value (tag, number): (0, x) int, (1, i) the cell i, (2, _) null, (4, x) long, (5, k) a constant text, (6, k) its bytes, (7, _) a reference that is passed on alone. Numbers stand for their remainders by 2^32 (2^64). -/
abbrev yE : Type := Nat × (Nat → Nat) × (Nat → ClassId) × va_G × Launch × (State → Prop)
abbrev yb (E : yE) : Nat := E.1
abbrev ysa (E : yE) : Nat → Nat := E.2.1
abbrev yda (E : yE) : Nat → ClassId := E.2.2.1
abbrev yD (E : yE) : va_G := E.2.2.2.1
abbrev yl (E : yE) : Launch := E.2.2.2.2.1
abbrev yEX (E : yE) : State → Prop := E.2.2.2.2.2
def iI (x : Int) : Int32 := Int32.ofInt x
def lI (x : Int) : Int64 := Int64.ofInt x
def w32 (x : Int) : Int := (iI x).toInt
def w64 (x : Int) : Int := (lI x).toInt
theorem iI_w (x : Int) : iI (w32 x) = iI x := Int32.ofInt_toInt _
theorem lI_w (x : Int) : lI (w64 x) = lI x := Int64.ofInt_toInt _
theorem iI_t (x : Int32) : iI x.toInt = x := Int32.ofInt_toInt _
theorem lI_t (x : Int64) : lI x.toInt = x := Int64.ofInt_toInt _
theorem w32_of {x : Int} (h1 : -2147483648 ≤ x) (h2 : x < 2147483648) : w32 x = x := Int32.toInt_ofInt_of_le (by simpa using h1) (by simpa using h2)
theorem w64_of {x : Int} (h1 : -9223372036854775808 ≤ x) (h2 : x < 9223372036854775808) : w64 x = x := Int64.toInt_ofInt_of_le (by simpa using h1) (by simpa using h2)
theorem w32_lo (x : Int) : -2147483648 ≤ w32 x := by have := Int32.le_toInt (iI x); simpa [w32] using this
theorem w32_hi (x : Int) : w32 x < 2147483648 := by have := Int32.toInt_lt (iI x); simpa [w32] using this
theorem w64_lo (x : Int) : -9223372036854775808 ≤ w64 x := by have := Int64.le_toInt (lI x); simpa [w64] using this
theorem w64_hi (x : Int) : w64 x < 9223372036854775808 := by have := Int64.toInt_lt (lI x); simpa [w64] using this
theorem w32_w (x : Int) : w32 (w32 x) = w32 x := w32_of (w32_lo x) (w32_hi x)
theorem iI_inj {x y : Int} : iI x = iI y ↔ w32 x = w32 y := Int32.toInt_inj.symm
theorem lI_inj {x y : Int} : lI x = lI y ↔ w64 x = w64 y := Int64.toInt_inj.symm
theorem iI_n (n : Nat) : iI (n : Int) = nI n := Int32.ofInt_eq_ofNat
/-- a constant -/
def cI (a : Nat) : Int := if Nat.blt a 2147483648 then (a : Int) else (a : Int) - 4294967296
def cL (a : Nat) : Int := if Nat.blt a 9223372036854775808 then (a : Int) else (a : Int) - 18446744073709551616
theorem iI_c (a : Nat) : iI (cI a) = nI a := by
  unfold cI
  split
  · exact iI_n a
  · have : iI ((a : Int) - 4294967296) = iI (a : Int) - iI 4294967296 := Int32.ofInt_sub _ _
    rw [this, iI_n, show iI 4294967296 = 0 by decide]
    exact Int32.sub_zero _
theorem lI_c (a : Nat) : lI (cL a) = lN a := by
  unfold cL
  split
  · exact Int64.ofInt_eq_ofNat
  · have : lI ((a : Int) - 18446744073709551616) = lI (a : Int) - lI 18446744073709551616 := Int64.ofInt_sub _ _
    rw [this, show lI 18446744073709551616 = 0 by decide]
    rw [Int64.sub_zero]
    exact Int64.ofInt_eq_ofNat
def ydv (E : yE) (v : yV) : Value := match v with
  | (0, x) => .int (iI x)
  | (1, i) => .ref (yb E + i.toNat)
  | (2, _) => .null
  | (5, k) => .ref (ysa E k.toNat)
  | (6, k) => .ref (ysa E (k.toNat + 1000))
  | (7, _) => if ysa E 98 = 0 then .null else .ref (ysa E 99)
  | (_, x) => .long (lI x)
def yfv (v : yV) (x : Int) : yV := match v with
  | (0, _) => (0, x)
  | (4, _) => (4, x)
  | v => v
def yfs (E : yE) : Nat → List yV → (Nat → Int) → List Value
  | _, [], _ => []
  | j, v :: r, f => ydv E (yfv v (f j)) :: yfs E (j + 1) r f
theorem yfs_get {E : yE} {f : Nat → Int} : ∀ (fs : List yV) (o k : Nat), (yfs E o fs f)[k]? = fs[k]?.map (fun v => ydv E (yfv v (f (o + k))))
  | [], o, k => by simp [yfs]
  | v :: r, o, 0 => by simp [yfs]
  | v :: r, o, k + 1 => by
    simp only [yfs, List.getElem?_cons_succ]
    rw [yfs_get r (o + 1) k, show o + 1 + k = o + (k + 1) by omega]
theorem yfs_len {E : yE} {f : Nat → Int} : ∀ (fs : List yV) (o : Nat), (yfs E o fs f).length = fs.length
  | [], o => rfl
  | v :: r, o => by simp [yfs, yfs_len r (o + 1)]
theorem yfs_ext {E : yE} {f g : Nat → Int} : ∀ (fs : List yV) (o : Nat), (∀ j, o ≤ j → f j = g j) → yfs E o fs f = yfs E o fs g
  | [], o, h => rfl
  | v :: r, o, h => by
    simp only [yfs]
    rw [h o (Nat.le_refl _), yfs_ext r (o + 1) (fun j hj => h j (by omega))]
theorem yfs_set {E : yE} {f : Nat → Int} {x : Int} : ∀ (fs : List yV) (o k : Nat) (v : yV), fs[k]? = some v → (yfs E o fs f).set k (ydv E (yfv v x)) = yfs E o fs (fun j => if j = o + k then x else f j)
  | [], o, k, v, h => by simp at h
  | w :: r, o, 0, v, h => by
    simp only [List.getElem?_cons_zero, Option.some.injEq] at h
    subst h
    simp only [yfs, List.set_cons_zero, Nat.add_zero, if_true]
    congr 1
    exact yfs_ext r (o + 1) (fun j hj => by rw [if_neg (by omega)])
  | w :: r, o, k + 1, v, h => by
    simp only [List.getElem?_cons_succ] at h
    simp only [yfs, List.set_cons_succ]
    rw [yfs_set r (o + 1) k v h, if_neg (by omega)]
    congr 1
    exact yfs_ext r (o + 1) (fun j hj => by rw [show o + 1 + k = o + (k + 1) by omega])
def yce (E : yE) (S : yS) (f : Nat → Int) : va_E := match S with
  | .inl (2, n, _) => .inl (yda E 2, n, .inr (.inl (fun j => lI (f j))))
  | .inl (4, n, rs) => .inl (yda E 4, n, .inr (.inr (.inr (.inr (fun j => (rs[j]?).map (fun q => yb E + q))))))
  | .inl (k, n, _) => .inl (yda E k, n, .inl (fun j => iI (f j)))
  | .inr (ci, fs) => .inr (ci, yfs E 0 fs f)
def ycx (E : yE) (mem : yMem) : Nat → List yS → va_W
  | _, [] => []
  | i, S :: r => (yb E + i, yce E S (mem i)) :: ycx E mem (i + 1) r
theorem ycx_get {E : yE} {mem : yMem} : ∀ (L : List yS) (o i : Nat), (ycx E mem o L)[i]? = L[i]?.map (fun S => (yb E + (o + i), yce E S (mem (o + i))))
  | [], o, i => by simp [ycx]
  | S :: r, o, 0 => by simp [ycx]
  | S :: r, o, i + 1 => by
    simp only [ycx, List.getElem?_cons_succ]
    rw [ycx_get r (o + 1) i, show o + 1 + i = o + (i + 1) by omega]
theorem ycx_ext {E : yE} {mem mem' : yMem} : ∀ (L : List yS) (o : Nat), (∀ c, o ≤ c → mem c = mem' c) → ycx E mem o L = ycx E mem' o L
  | [], o, h => rfl
  | S :: r, o, h => by
    simp only [ycx]
    rw [h o (Nat.le_refl _), ycx_ext r (o + 1) (fun j hj => h j (by omega))]
theorem ycx_set {E : yE} {mem : yMem} {f : Nat → Int} : ∀ (L : List yS) (o i : Nat) (S : yS), L[i]? = some S → (ycx E mem o L).set i (yb E + (o + i), yce E S f) = ycx E (fun c => if c = o + i then f else mem c) o L
  | [], o, i, S, h => by simp at h
  | T :: r, o, 0, S, h => by
    simp only [List.getElem?_cons_zero, Option.some.injEq] at h
    subst h
    simp only [ycx, List.set_cons_zero, Nat.add_zero, if_true]
    congr 1
    exact ycx_ext r (o + 1) (fun c hc => by rw [if_neg (by omega)])
  | T :: r, o, i + 1, S, h => by
    simp only [List.getElem?_cons_succ] at h
    simp only [ycx, List.set_cons_succ]
    rw [show o + (i + 1) = o + 1 + i by omega, ycx_set r (o + 1) i S h, if_neg (by omega)]
abbrev yW (E : yE) (mem : yMem) : va_W := ycx E mem 0 ysh
def yset (mem : yMem) (i n : Nat) (x : Int) : yMem := fun c j => if c = i then (if j = n then x else mem c j) else mem c j
def ycpy (mem : yMem) (ss sp dd dp n : Nat) : yMem := fun c j => if c = dd then (if dp ≤ j ∧ j < dp + n then mem ss (sp + (j - dp)) else mem c j) else mem c j
theorem yset_eq (mem : yMem) (i n : Nat) (x : Int) : (fun c => if c = 0 + i then (fun j => if j = n then x else mem i j) else mem c) = yset mem i n x := by
  funext c j
  simp only [yset, Nat.zero_add]
  by_cases h : c = i
  · subst h; simp
  · simp [h]
theorem ycpy_eq (mem : yMem) (ss sp dd dp n : Nat) : (fun c => if c = 0 + dd then va_cpy (mem ss) (mem dd) sp dp n else mem c) = ycpy mem ss sp dd dp n := by
  funext c j
  simp only [ycpy, Nat.zero_add]
  by_cases h : c = dd
  · subst h; simp [va_cpy]
  · simp [h]
theorem yW_at {E : yE} {mem : yMem} {i : Nat} {S : yS} (h : ysh[i]? = some S) : (yW E mem)[i]? = some (yb E + i, yce E S (mem i)) := by
  rw [ycx_get, h, Nat.zero_add]
  rfl
theorem yW_put {E : yE} {mem : yMem} {i : Nat} {S : yS} {f : Nat → Int} (h : ysh[i]? = some S) : (yW E mem).set i (yb E + i, yce E S f) = yW E (fun c => if c = 0 + i then f else mem c) := by
  have := ycx_set (E := E) (mem := mem) (f := f) ysh 0 i S h
  rw [Nat.zero_add] at this ⊢
  exact this
theorem yW_D {E : yE} {mem : yMem} {A : Nat → Prop} (h : ∀ i, i < ysh.length → A (yb E + i)) : va_D A (yW E mem) := by
  refine ⟨fun i j p q hi hj hpq => ?_, fun k q hk => ?_⟩
  · rw [ycx_get] at hi hj
    cases h1 : ysh[i]? with
    | none => rw [h1] at hi; cases hi
    | some x =>
      cases h2 : ysh[j]? with
      | none => rw [h2] at hj; cases hj
      | some y =>
        rw [h1] at hi; rw [h2] at hj
        cases hi; cases hj
        dsimp only at hpq
        omega
  · rw [ycx_get] at hk
    cases h1 : ysh[k]? with
    | none => rw [h1] at hk; cases hk
    | some x =>
      rw [h1] at hk
      cases hk
      have := (List.getElem?_eq_some_iff.mp h1).1
      rw [show yb E + (0 + k) = yb E + k by omega]
      exact h k this
/-! locals -/
def ykdb (k : Nat) (v : yV) : Bool := match k with
  | 0 => Nat.beq v.1 0
  | 1 => Nat.beq v.1 1 || (Nat.beq v.1 2 || (Nat.beq v.1 5 || (Nat.beq v.1 6 || Nat.beq v.1 7)))
  | _ => Nat.beq v.1 4
def ycat (v : yV) : Nat := match v with
  | (0, _) => 1
  | (1, _) => 1
  | (2, _) => 1
  | (5, _) => 1
  | (6, _) => 1
  | (7, _) => 1
  | _ => 2
theorem ycat_ok {E : yE} (v : yV) : (ydv E v).category = ycat v := by
  match v with
  | (0, _) | (1, _) | (2, _) | (3, _) | (4, _) | (5, _) | (6, _) => rfl
  | (7, _) =>
    simp only [ydv, ycat]
    split <;> rfl
  | (n + 8, _) => rfl
theorem yk0 {v : yV} (h : ykdb 0 v = true) : v = (0, v.2) := by
  obtain ⟨t, x⟩ := v
  have : t = 0 := Nat.eq_of_beq_eq_true h
  subst this
  rfl
theorem yk1 {E : yE} {v : yV} (h : ykdb 1 v = true) : xkd 1 (ydv E v) := by
  match v, h with
  | (1, _), _ => exact Or.inr ⟨_, rfl⟩
  | (2, _), _ => exact Or.inl rfl
  | (5, _), _ => exact Or.inr ⟨_, rfl⟩
  | (6, _), _ => exact Or.inr ⟨_, rfl⟩
  | (7, _), _ =>
    simp only [ydv]
    split
    · exact Or.inl rfl
    · exact Or.inr ⟨_, rfl⟩
  | (0, _), h | (3, _), h | (4, _), h => cases h
  | (n + 8, _), h => cases h
theorem yk2 {v : yV} (h : ykdb 2 v = true) : v = (4, v.2) := by
  obtain ⟨t, x⟩ := v
  have : t = 4 := Nat.eq_of_beq_eq_true h
  subst this
  rfl
theorem ykk {E : yE} {k : Nat} (hk : k < 3) {v : yV} (h : ykdb k v = true) : xkd k (ydv E v) := by
  match k, hk, h with
  | 0, _, h => rw [yk0 h]; exact ⟨_, rfl⟩
  | 1, _, h => exact yk1 h
  | 2, _, h => rw [yk2 h]; exact ⟨_, rfl⟩
def ylk : yL → Nat → Option yV
  | [], _ => none
  | q :: r, i => if Nat.beq q.1 i then some q.2 else ylk r i
theorem ylk_mem : ∀ {l : yL} {i : Nat} {v : yV}, ylk l i = some v → (i, v) ∈ l
  | q :: r, i, o, h => by
    simp only [ylk] at h
    split at h
    · next he =>
      cases h
      rw [Nat.beq_eq] at he
      subst he
      exact List.mem_cons_self
    · exact List.mem_cons_of_mem _ (ylk_mem h)
def yflb (k i : Nat) (q : Nat × yV) : Bool := match k with
  | 2 => !(Nat.beq q.1 i) && (!(Nat.beq q.1 (i + 1)) && !(Nat.beq (q.1 + 1) i && Nat.beq (ycat q.2) 2))
  | _ => !(Nat.beq q.1 i) && !(Nat.beq (q.1 + 1) i && Nat.beq (ycat q.2) 2)
def ydL (E : yE) (lv : yL) : List (Nat × Value) := lv.map (fun q => (q.1, ydv E q.2))
theorem yflb_ok {E : yE} (k i : Nat) (lv : yL) : (ydL E lv).filter (xfl k i) = ydL E (lv.filter (yflb k i)) := by
  unfold ydL
  rw [List.filter_map]
  congr 1
  apply List.filter_congr
  intro q _
  show xfl k i (q.1, ydv E q.2) = yflb k i q
  match k with
  | 0 | 1 => simp only [xfl, yflb, xbeq, ycat_ok]
  | 2 => simp only [xfl, yflb, xbeq, ycat_ok]
  | n + 3 => simp only [xfl, yflb, xbeq, ycat_ok]
def ysum : List yV → Nat
  | [] => 0
  | v :: r => ycat v + ysum r
theorem ysum_ok {E : yE} : ∀ st : List yV, ((st.map (ydv E)).map fun v => v.category).sum = ysum st
  | [] => rfl
  | v :: r => by
    simp only [List.map_cons, List.sum_cons, ysum, ycat_ok]
    rw [ysum_ok r]
theorem ysum_app (a : List yV) : ∀ c : List yV, ysum (c ++ a) = ysum c + ysum a
  | [] => by simp [ysum]
  | v :: r => by simp [ysum, ysum_app a r, Nat.add_assoc]
theorem ysum_rev : ∀ a : List yV, ysum a.reverse = ysum a
  | [] => rfl
  | v :: r => by
    rw [List.reverse_cons, ysum_app, ysum_rev r]
    simp [ysum, Nat.add_comm]
def yargs : Nat → List yV → yL
  | _, [] => []
  | i, v :: r => (i, v) :: yargs (i + ycat v) r
theorem ycat12 (v : yV) (i : Nat) : (if ycat v = 2 then i + 2 else i + 1) = i + ycat v := by
  match v with
  | (0, _) | (1, _) | (2, _) | (3, _) | (4, _) | (5, _) | (6, _) | (7, _) => rfl
  | (n + 8, _) => rfl
theorem yargs_ok {E : yE} : ∀ (vs : List yV) (i : Nat), lv_args i (vs.map (ydv E)) = ydL E (yargs i vs)
  | [], _ => rfl
  | v :: r, i => by
    simp only [List.map_cons, lv_args, yargs, ydL]
    rw [ycat_ok]
    congr 1
    rw [ycat12]
    exact yargs_ok r (i + ycat v)
theorem ylen_ok {E : yE} : ∀ vs : List yV, (lg_sl (vs.map (ydv E))).length = ysum vs
  | [] => rfl
  | v :: r => by
    have ih := ylen_ok (E := E) r
    simp only [lg_sl, List.map_cons, List.flatMap_cons, List.length_append, ysum] at ih ⊢
    rw [ih, ycat_ok]
    match v with
    | (0, _) | (1, _) | (2, _) | (3, _) | (4, _) | (5, _) | (6, _) | (7, _) => rfl
    | (n + 8, _) => rfl
/-! the judgements -/
def yR (d : Nat) : Room := { frames := d, cells := 0, slots := 0, locals := 64 * d }
def yCtx (E : yE) (M : xM) (p : Program) (s : State) (m : MethodId) (args : Array Value) (meth : Method) (c : Code) (A : Nat → Prop) : Prop := xCtx (yb E) (yda E) (yD E) M p s m args meth c A (yEX E) ∧ ∀ i, i < ysh.length → A (yb E + i)
def yG (E : yE) (R : Room) (M : xM) (pc : Nat) (lv : yL) (st : List yV) (mem : yMem) (ce sl : Nat) (Post : Option yV → yMem → Prop) : Prop :=
  ∀ (p : Program) (e : Env) (s : State) (m : MethodId) (args : Array Value) (below : List Frame) (meth : Method) (c : Code) (A : Nat → Prop) (Qc : Array Value → State → Outcome → State → Prop), yCtx E M p s m args meth c A → (∀ (r : Option yV) (mem' : yMem) (t : State), Post r mem' → va_P (yD E) vwCl (yW E mem') t.heap → va_F A s t → Qc args s (.returned (r.map (ydv E))) t) →
    ∀ (H : Heap) (locs : List Loc) (ls : Array Slot), lv_has ls (xMl M) (ydL E lv) → va_P (yD E) vwCl (yW E mem) H → va_S A s.heap H locs → W p (yl E) e R s m args below meth c H locs ce sl (MQ below Qc args s R.cells R.slots A) (F0 m pc ls (st.map (ydv E)))
def yPp (E : yE) (mem : yMem) (sz : Nat) (U : State) : Prop := U.heap.size = sz ∧ va_P (yD E) vwCl (yW E mem) U.heap ∧ va_K (yD E) vwCl (xtys (yda E)) U ∧ yEX E U
def yQp (E : yE) (sz : Nat) (Post : Option yV → yMem → Prop) : State → Outcome → State → Prop := fun u o t =>
  ∃ (r : Option yV) (mem' : yMem), Post r mem' ∧ o = .returned (r.map (ydv E)) ∧ va_P (yD E) vwCl (yW E mem') t.heap ∧ va_F (xA (yb E) ysh.length sz) u t
def yCon (E : yE) (d : Nat) (M : xM) (avs : List yV) (mem : yMem) (Post : Option yV → yMem → Prop) : Prop :=
  ∀ sz : Nat, yb E + ysh.length ≤ sz → Met (yl E) (xMy M) (xWs M) (yR d) (va_Pc (avs.map (ydv E)) (yPp E mem sz)) (fun _ => yQp E sz Post) 0 0 (xA (yb E) ysh.length sz)
def yEok (E : yE) : Prop := (yl E).stackTraces = false ∧ xEok (yb E) (ysa E) (yEX E)
/-- a method's contract out of the walk of its body -/
theorem yCon_of {E : yE} {d : Nat} {M : xM} (hM : xMok xmt M) {avs : List yV} {mem : yMem} {Post : Option yV → yMem → Prop} (hs : ysum avs ≤ xMl M) (h : yG E (yR d) M 0 (yargs 0 avs) [] mem 0 0 Post) : yCon E d M avs mem Post := by
  intro sz hb
  refine Met.ofW (cc := xMc M) (maxL := xMl M) (ret := xMr M) hM.2.2.2.1 rfl ?_
  intro p e s m args below meth c s₁ B hml hv
  obtain ⟨rfl, hsz, hP, hK, hEX⟩ := hv
  subst hsz
  have hts := atoms_spec (ws := xWs M) B.pre
  have hown : s.vm.findClass (xMy M).cls = some m.cls := findClass_of_methodNamed B.named
  have hC : xCtx (yb E) (yda E) (yD E) M p s m (avs.map (ydv E)).toArray meth c (xA (yb E) ysh.length s.heap.size) (yEX E) :=
    ⟨⟨B.exec, B.bytes, by rw [hM.2.2.2.2.1]; exact hown, fun w hw => hts w (List.mem_cons_of_mem _ hw)⟩, hml, hK, fun q h => Or.inr h, fun q h => by
      rcases h with h | h
      · exact h.1
      · omega, B.returns, B.notSynchronized, (fun h => (name_of_methodNamed B.named B.method).1.trans h), hEX, by omega⟩
  have hl := lv_entry (avs.map (ydv E)) (n := xMl M) (by rw [ylen_ok]; exact hs)
  rw [yargs_ok] at hl
  rw [lg_entry_eq]
  exact h p e s m _ below meth c _ (fun _ => yQp E s.heap.size Post) ⟨hC, fun i hi => Or.inl ⟨by omega, by omega⟩⟩ (fun r mem' t h1 h2 h3 => ⟨r, mem', h1, rfl, h2, h3⟩) _ [] _ hl hP va_S.rf
