/-! SOUNDNESS: what the run says, the machine does -/
def xtys (dA : Nat → ClassId) : List (ClassId × FieldType) := [(dA 0, .int), (dA 1, .byte), (dA 2, .long), (dA 3, .boolean), (dA 4, .array .int)]
theorem xtys_get {dA : Nat → ClassId} : ∀ {t : Nat}, t < 5 → (xtys dA)[t]? = some (dA t, xty t)
  | 0, _ | 1, _ | 2, _ | 3, _ | 4, _ => rfl
  | n + 5, h => absurd h (by omega)
def xcS (M : xM) (pc : Nat) (M' : xM) : Prop := ∃ ix, decode (xMc M) pc = .ok (.invokestatic ix, 3) ∧ Cond.methodLink (xMo M) ix (xMy M') ∈ xgt ∧ Cond.static (xMy M') ∈ xgt
def xcSN (M : xM) (pc : Nat) (M' : xM) : Prop := ∃ ix, decode (xMc M) pc = .ok (.invokestatic ix, 3) ∧ ∃ host, Cond.methodLinkNest (xMo M) ix (xMy M') host ∈ xnw ∧ Cond.static (xMy M') ∈ xgt
def xcV (M : xM) (pc : Nat) (M' : xM) : Prop := ∃ ix, decode (xMc M) pc = .ok (.invokevirtual ix, 3) ∧ Cond.methodLink (xMo M) ix (xMy M') ∈ xgt ∧ Cond.instanceMethod (xMy M') ∈ xgt ∧ Cond.selects (xMy M').cls (xMy M') (xMy M') ∈ xgt
def xcI (M : xM) (pc : Nat) (M' : xM) : Prop := ∃ ix, decode (xMc M) pc = .ok (.invokespecial ix, 3) ∧ (xMy M').name = "<init>" ∧ xMr M' = none ∧ Cond.instanceMethod (xMy M') ∈ xgt ∧ (Cond.methodLink (xMo M) ix (xMy M') ∈ xgt ∨ ∃ host, Cond.methodLinkNest (xMo M) ix (xMy M') host ∈ xnw)
def xok (mt : List xM) (M : xM) (pc : Nat) (op : xOp) : Prop := match op.1 with
  | 0 => xT (xMc M) (xMo M) pc op.2.1 [] [.int (nI op.2.2.1)]
  | 1 => xT (xMc M) (xMo M) pc op.2.1 [] [.long (lN op.2.2.1)]
  | 2 => op.2.2.1 < 3 ∧ xLd (xMc M) (xMo M) pc op.2.1 op.2.2.1 op.2.2.2.1
  | 3 => op.2.2.1 < 3 ∧ xSt (xMc M) (xMo M) pc op.2.1 op.2.2.1 op.2.2.2.1
  | 4 => xIn (xMc M) (xMo M) pc op.2.1 op.2.2.1 op.2.2.2.1
  | 5 => ∀ x y : Int32, ((op.2.2.1 = 9 ∨ op.2.2.1 = 10) → ¬ y = 0) → xT (xMc M) (xMo M) pc op.2.1 [.int y, .int x] [.int (fbin op.2.2.1 x y)]
  | 6 => ∀ x : Int32, xT (xMc M) (xMo M) pc op.2.1 [.int x] [.int x.toInt8.toInt32]
  | 7 => ∀ x y : Int64, xT (xMc M) (xMo M) pc op.2.1 [.long y, .long x] [.long (flb op.2.2.1 x y)]
  | 8 => ∀ x y : Int64, xT (xMc M) (xMo M) pc op.2.1 [.long y, .long x] [.int (lg_cmp x y)]
  | 9 => ∀ v : Value, v.category = 1 → xT (xMc M) (xMo M) pc op.2.1 [v] [v, v]
  | 10 => ∀ v : Value, v.category = 1 → xT (xMc M) (xMo M) pc op.2.1 [v] []
  | 11 => ∀ v w : Value, v.category = 1 → w.category = 1 → xT (xMc M) (xMo M) pc op.2.1 [v, w] [v, w, v, w]
  | 12 => xB0 (xMc M) (xMo M) pc op.2.1 op.2.2.1 op.2.2.2.1
  | 13 => xB (xMc M) (xMo M) pc op.2.1 op.2.2.1 op.2.2.2.1
  | 14 => xT (xMc M) (xMo M) pc op.2.1 [] []
  | 15 => xSw (xMc M) (xMo M) pc op.2.2.1 op.2.2.2.2
  | 16 => xGf (xMc M) (xMo M) pc op.2.1 op.2.2.1 op.2.2.2.1
  | 17 => ∃ (ty : FieldType) (fin : Bool) (z : Nat), op.2.2.2.2 = [(xtc ty, z)] ∧ xPf (xMc M) (xMo M) pc op.2.1 op.2.2.1 op.2.2.2.1 ty fin ∧ (fin = true → (xMy M).name = "<init>")
  | 18 => xAl (xMc M) (xMo M) pc op.2.1 ∧ xSl (xMc M) (xMo M) pc op.2.1
  | 19 => (op.2.2.1 = 0 ∨ op.2.2.1 = 1 ∨ op.2.2.1 = 3) ∧ xRd (xMc M) (xMo M) pc op.2.1 (xty op.2.2.1)
  | 20 => xRr (xMc M) (xMo M) pc op.2.1
  | 21 => xWr (xMc M) (xMo M) pc op.2.1 (xty op.2.2.1)
  | 22 => xNw (xMc M) (xMo M) pc op.2.1 op.2.2.1 op.2.2.2.1 (op.2.2.2.2.map (xdv 0 (fun _ => 0) (fun _ => 0)))
  | 23 => op.2.2.1 < 4 ∧ xNa (xMc M) (xMo M) pc op.2.1 (xty op.2.2.1)
  | 25 => xOi (xMc M) (xMo M) pc op.2.1
  | 26 => xCp (xMc M) (xMo M) pc op.2.1
  | 27 => op.2.1 = pc + 3 ∧ ∃ M', mt[op.2.2.1]? = some M' ∧ xcS M pc M'
  | 28 => op.2.1 = pc + 3 ∧ ∃ M', mt[op.2.2.1]? = some M' ∧ xcV M pc M' ∧ ∃ q, vwCl[op.2.2.2.1]? = some q ∧ q.1 = (xMy M').cls
  | 29 => op.2.1 = pc + 3 ∧ ∃ M', mt[op.2.2.1]? = some M' ∧ xcI M pc M'
  | 30 => decode (xMc M) pc = .ok (.ireturn, 1) ∧ ∃ ty, xMr M = some ty ∧ xtc ty = op.2.2.2.1 ∧ (ty = .int ∨ ty = .boolean)
  | 31 => decode (xMc M) pc = .ok (.lreturn, 1) ∧ xMr M = some .long
  | 32 => decode (xMc M) pc = .ok (.return_, 1) ∧ xMr M = none
  | 24 => xMa (xMc M) (xMo M) pc op.2.1
  | 33 => xLs (xMc M) (xMo M) pc op.2.1 op.2.2.1
  | 34 => xGs (xMc M) (xMo M) pc op.2.1 (fun _ => .int (nI 1))
  | 35 => xSf (xMc M) (xMo M) pc op.2.1 (fun sa k => if op.2.2.1 = 0 then .ref (sa (k + 1000)) else .int (nI 0))
  | 36 => xMi (xMc M) (xMo M) pc op.2.1
  | 37 => xSb (xMc M) (xMo M) pc op.2.1
  | 38 => ∀ x : Int32, xT (xMc M) (xMo M) pc op.2.1 [.int x] [.int (x.toUInt32 % 65536).toInt32]
  | 39 => op.2.1 = pc + 3 ∧ ∃ M', mt[op.2.2.1]? = some M' ∧ xcV M pc M' ∧ (xMy M').cls = "java/lang/String"
  | 40 => decode (xMc M) pc = .ok (.ireturn, 1) ∧ ∃ ty, xMr M = some ty ∧ ((op.2.2.2.1 = 5 ∧ ty = .char) ∨ (op.2.2.2.1 = 1 ∧ ty = .byte))
  | 41 => xGs (xMc M) (xMo M) pc op.2.1 (fun sa => if sa 98 = 0 then .null else .ref (sa 99))
  | 42 => xXl (xMc M) (xMo M) pc op.2.1
  | 43 => xXd (xMc M) (xMo M) pc op.2.1
  | 44 => pc = 6
  | 47 => op.2.1 = pc + 3 ∧ ∃ M', mt[op.2.2.1]? = some M' ∧ xcSN M pc M'
  | 60 => ∀ x y : Int64, xT (xMc M) (xMo M) pc op.2.1 [.long y, .long x] [.long (gbin op.2.2.1 x y)]
  | 61 => ∀ x y : Int64, ¬ y = 0 → xT (xMc M) (xMo M) pc op.2.1 [.long y, .long x] [.long (gbin op.2.2.1 x y)]
  | 62 => ∀ (x : Int64) (y : Int32), xT (xMc M) (xMo M) pc op.2.1 [.int y, .long x] [.long (x <<< (y.toInt64 &&& 63))]
  | 63 => ∀ (x : Int64) (y : Int32), xT (xMc M) (xMo M) pc op.2.1 [.int y, .long x] [.long (x.toUInt64 >>> (y.toInt64.toUInt64 &&& Int64.toUInt64 63)).toInt64]
  | 64 => ∀ x : Int64, xT (xMc M) (xMo M) pc op.2.1 [.long x] [.long (-x)]
  | 65 => ∀ x : Int32, xT (xMc M) (xMo M) pc op.2.1 [.int x] [.long x.toInt64]
  | 66 => ∀ x : Int64, xT (xMc M) (xMo M) pc op.2.1 [.long x] [.int x.toInt32]
  | 67 => xRl (xMc M) (xMo M) pc op.2.1
  | 68 => xWl (xMc M) (xMo M) pc op.2.1
  | 69 => ∀ v : Value, v.category = 2 → xT (xMc M) (xMo M) pc op.2.1 [v] []
  | 70 => ∀ x y : Int32, xMth (xMc M) (xMo M) pc op.2.1 [.int y, .int x] [.int (if op.2.2.1 = 0 then (if y < x then y else x) else (if x < y then y else x))]
  | 71 => ∀ x y : Int64, xMth (xMc M) (xMo M) pc op.2.1 [.long y, .long x] [.long (if op.2.2.1 = 0 then (if y < x then y else x) else (if y < x then x else y))]
  | 72 => ∀ x : Int64, xMth (xMc M) (xMo M) pc op.2.1 [.long x] [.long (if 0 < x then x else -x)]
  | _ => True
/-- a method's own facts -/
def xMok (mt : List xM) (M : xM) : Prop := Cond.code (xMy M) (xMc M) (xMl M) (xMr M) ∈ xgt ∧ Cond.initialized (xMy M).cls ∈ xgt ∧ ((xMy M).cls ≠ "java/lang/invoke/MethodHandle" ∧ (xMy M).cls ≠ "java/lang/invoke/VarHandle" ∧ (parseMethodDescriptor (xMy M).desc).map (fun d => d.parameters.length) = some (xMn M)) ∧ plainName (xMy M).cls = true ∧ xMo M = (xMy M).cls ∧ ∀ q ∈ xMk M, xok mt M q.1 q.2
def xA (b n sz : Nat) : Nat → Prop := fun q => (b ≤ q ∧ q < b + n) ∨ sz ≤ q
section XS
variable {al : Bool} {b : Nat} {ρ : Nat → Int32} {sa : Nat → Nat} {dA : Nat → ClassId} {D : va_G} {M : xM} {p : Program} {l : Launch} {e : Env} {s : State} {m : MethodId} {args : Array Value} {below : List Frame} {meth : Method} {c : Code} {A : Nat → Prop} {Qc : Array Value → State → Outcome → State → Prop} {EX : State → Prop}
variable {mt : List xM} {ds : xD}
def xEnd (al : Bool) (b : Nat) (ρ : Nat → Int32) (sa : Nat → Nat) (dA : Nat → ClassId) (D : va_G) (s : State) (args : Array Value) (A : Nat → Prop) (Qc : Array Value → State → Outcome → State → Prop) (Ls : List xR) : Prop :=
  ∀ lf ∈ Ls, xKok ρ lf.1 → ∀ t : State, va_P D vwCl (xcx b ρ sa dA 0 lf.2.2) t.heap → (al = true → t.heap.size = b + lf.2.2.length) → (∀ i, i < lf.2.2.length → A (b + i)) → va_F A s t → Qc args s (.returned (lf.2.1.map (xdv b ρ sa))) t
def xGood (al : Bool) (b : Nat) (ρ : Nat → Int32) (sa : Nat → Nat) (dA : Nat → ClassId) (D : va_G) (M : xM) (p : Program) (l : Launch) (e : Env) (s : State) (m : MethodId) (args : Array Value) (below : List Frame) (meth : Method) (c : Code) (A : Nat → Prop) (Qc : Array Value → State → Outcome → State → Prop) (pc : Nat) (lv : xL) (st : List xV) (K : xH) (ce sl : Nat) (κ : xK) (Ls : List xR) : Prop :=
  ∀ (H : Heap) (locs : List Loc) (ls : Array Slot), lv_has ls (xMl M) (xdL b ρ sa lv) → va_P D vwCl (xcx b ρ sa dA 0 K) H → va_S A s.heap H locs → (al = true → H.size = b + K.length) → (∀ i, i < K.length → A (b + i)) → xKok ρ κ → xEnd al b ρ sa dA D s args A Qc Ls →
    W p l e (xMm M) s m args below meth c H locs ce sl (MQ below Qc args s (xMm M).cells (xMm M).slots A) (F0 m pc ls (st.map (xdv b ρ sa)))
/-- what holds all through a method's frame -/
def xCtx (b : Nat) (dA : Nat → ClassId) (D : va_G) (M : xM) (p : Program) (s : State) (m : MethodId) (args : Array Value) (meth : Method) (c : Code) (A : Nat → Prop) (EX : State → Prop) : Prop :=
  xCx p s m args c (xMc M) (xMo M) ∧ c.maxLocals = xMl M ∧ va_K D vwCl (xtys dA) s ∧ (∀ q, s.heap.size ≤ q → A q) ∧ (∀ q, A q → b ≤ q) ∧ meth.sig.returnType = xMr M ∧ meth.locks = false ∧ ((xMy M).name = "<init>" → meth.name = "<init>") ∧ EX s ∧ b ≤ s.heap.size
abbrev xSnd (al : Bool) (b : Nat) (ρ : Nat → Int32) (sa : Nat → Nat) (dA : Nat → ClassId) (D : va_G) (M : xM) (p : Program) (l : Launch) (e : Env) (s : State) (m : MethodId) (args : Array Value) (below : List Frame) (meth : Method) (c : Code) (A : Nat → Prop) (Qc : Array Value → State → Outcome → State → Prop) (rec : xRec) : Prop :=
  ∀ pc lv st K ce sl κ Ls, rec pc lv st K ce sl κ = some Ls → xGood al b ρ sa dA D M p l e s m args below meth c A Qc pc lv st K ce sl κ Ls
theorem xEnd.sub {Ls L : List xR} (h : xEnd al b ρ sa dA D s args A Qc Ls) (hs : ∀ q ∈ L, q ∈ Ls) : xEnd al b ρ sa dA D s args A Qc L := fun lf hl => h lf (hs lf hl)
/-- the pure steps -/
theorem xp_T {rec : xRec} (hC : xCtx b dA D M p s m args meth c A EX) (hr : xSnd al b ρ sa dA D M p l e s m args below meth c A Qc rec) {pc nx : Nat} {lv : xL} {st st0 st1 : List xV} {K : xH} {ce sl : Nat} {κ : xK} {Ls : List xR}
    (hT : xT (xMc M) (xMo M) pc nx (st0.map (xdv b ρ sa)) (st1.map (xdv b ρ sa))) (h : rec nx lv (st1 ++ st) K ce sl κ = some Ls) : xGood al b ρ sa dA D M p l e s m args below meth c A Qc pc lv (st0 ++ st) K ce sl κ Ls := by
  intro H locs ls hl hP hS hz hA0 hκ hQ
  have := hr _ _ _ _ _ _ _ _ h H locs ls hl hP hS hz hA0 hκ hQ
  rw [List.map_append] at this ⊢
  exact hT p l e _ s m args below meth c H locs ce sl _ ls _ hC.1 this
end XS
