section
abbrev xCx (p : Program) (s : State) (m : MethodId) (args : Array Value) (c : Code) (cc : ByteArray) (own : String) : Prop := p.tables.exec = Jvm.exec ∧ c.code = cc ∧ s.vm.findClass own = some m.cls ∧ ∀ w ∈ xgt, w.before args s = true
/-- the words of a private method of a nest mate -/
def xnw : List Cond := [.methodLinkNest RX11 15 yX4_init RX11, .methodLinkNest RX11 39 yX10_init RX11, .methodLinkNest RX11 49 yX3_init RX11, .methodLinkNest RX4 65 yX2_init RX11, .methodLinkNest RX8 121 yX11_slotOf RX11, .methodLinkNest RX5 50 yX11_slotOf RX11, .methodLinkNest RX1 98 yX11_slotOf RX11]
/-- the constant texts of the class of tokens: their lengths, their bytes -/
def xlen : List Nat := [68, 48, 118]
def xbyt : List (List Nat) := [[116, 97, 118, 101, 114, 110, 32, 118, 111, 105, 99, 101, 32, 118, 101, 114, 115, 101, 32, 98, 97, 107, 101, 114, 32, 112, 117, 114, 115, 101, 32, 115, 101, 101, 100, 32, 108, 97, 119, 32, 98, 111, 121, 32, 112, 97, 119, 110, 32, 111, 100, 100, 115, 32, 112, 97, 114, 116, 32, 100, 117, 101, 32, 99, 114, 97, 99, 107], [111, 114, 32, 97, 110, 100, 32, 110, 111, 116, 32, 100, 101, 98, 116, 32, 114, 97, 116, 101, 32, 110, 111, 116, 101, 115, 32, 114, 101, 115, 116, 115, 32, 104, 105, 103, 104, 32, 119, 101, 101, 107, 32, 112, 97, 114, 116, 115], [116, 97, 118, 101, 114, 110, 32, 118, 111, 105, 99, 101, 32, 118, 101, 114, 115, 101, 32, 98, 97, 107, 101, 114, 32, 112, 117, 114, 115, 101, 32, 115, 101, 101, 100, 32, 108, 97, 119, 32, 112, 97, 114, 116, 32, 98, 111, 121, 32, 112, 97, 119, 110, 32, 111, 100, 100, 115, 32, 100, 117, 101, 32, 99, 114, 97, 99, 107, 32, 111, 114, 32, 97, 110, 100, 32, 110, 111, 116, 32, 100, 101, 98, 116, 32, 114, 97, 116, 101, 32, 110, 111, 116, 101, 115, 32, 114, 101, 115, 116, 115, 32, 104, 105, 103, 104, 32, 119, 101, 101, 107, 32, 112, 97, 114, 116, 115, 32]]
/-- the words of a throw that no good word says -/
def xthr : List Cond := (vx_atS RX11 153 "java/lang/IndexOutOfBoundsException" ["java/lang/RuntimeException", "java/lang/Exception"]).filter (fun w => !goodWord w)
def xthr2 : List Cond := (vx_atS RX11 182 "java/util/NoSuchElementException" ["java/lang/RuntimeException", "java/lang/Exception"]).filter (fun w => !goodWord w)
/-- what holds beside the world: nest mates, arrays of arrays, constant texts (sa k the text, sa (k + 1000) its bytes), statics -/
def xFx (b : Nat) (sa : Nat → Nat) (s : State) : Prop := (∀ w ∈ xnw, va_Nw w s) ∧ va_Nw (.arrayOver (.array .int)) s ∧
  (∀ k, k < 3 → va_O "java/lang/String" (sa k) (fun q => b ≤ q) s s.heap ∧ va_OF "java/lang/String" "coder" "B" (.int 0) (sa k) (fun q => b ≤ q) s s.heap ∧ va_OF "java/lang/String" "value" "[B" (.ref (sa (k + 1000))) (sa k) (fun q => b ≤ q) s s.heap ∧ va_T .byte (sa (k + 1000)) (xlen.getD k 0) (fun j => .int (nI ((xbyt.getD k []).getD j 0))) (fun q => b ≤ q) s s.heap) ∧
  vk_R RX9 41 "tavern voice verse baker purse seed law boy pawn odds part due crack" (sa 0) s ∧ vk_R RX9 47 "or and not debt rate notes rests high week parts" (sa 1) s ∧
  va_Z "java/lang/String" "COMPACT_STRINGS" "Z" (.int 1) (fun q => b ≤ q) s s.heap ∧ va_Z "jdk/internal/util/Preconditions" "SIOOBE_FORMATTER" "Ljava/util/function/BiFunction;" (if sa 98 = 0 then .null else .ref (sa 99)) (fun q => b ≤ q) s s.heap ∧
  (vx_Zq Bundle.tN "UNASSIGNED_STACK" Bundle.steD (fun q => b ≤ q) s s.heap ∧ vx_Zq Bundle.tN "SUPPRESSED_SENTINEL" Bundle.listD (fun q => b ≤ q) s s.heap ∧ vk_R RX11 151 "no such voice" (sa 60) s ∧ (∀ w ∈ xthr, va_Nw w s) ∧ vk_R RX12 206 "tavern voice verse baker purse seed law part boy pawn odds due crack or and not debt rate notes rests high week parts " (sa 2) s ∧ vk_R RX11 180 "no such what" (sa 61) s ∧ ∀ w ∈ xthr2, va_Nw w s)
def xkd (k : Nat) (v : Value) : Prop := match k with
  | 0 => ∃ x, v = .int x
  | 1 => v = .null ∨ ∃ a, v = .ref a
  | _ => ∃ x, v = .long x
def xT (cc : ByteArray) (own : String) (pc nx : Nat) (st st' : List Value) : Prop := ∀ (p : Program) (l : Launch) (e : Env) (R : Room) (s : State) (m : MethodId) (args : Array Value) (below : List Frame) (meth : Method) (c : Code) (H : Heap) (locs : List Loc) (cells slots : Nat) (Q : State → Prop) (ls : Array Slot) (rest : List Value), xCx p s m args c cc own → W p l e R s m args below meth c H locs cells slots Q (F0 m nx ls (st' ++ rest)) → W p l e R s m args below meth c H locs cells slots Q (F0 m pc ls (st ++ rest))
def xB (cc : ByteArray) (own : String) (pc nx tgt k : Nat) : Prop := ∀ (p : Program) (l : Launch) (e : Env) (R : Room) (s : State) (m : MethodId) (args : Array Value) (below : List Frame) (meth : Method) (c : Code) (H : Heap) (locs : List Loc) (cells slots : Nat) (Q : State → Prop) (ls : Array Slot) (rest : List Value), xCx p s m args c cc own → ∀ x y : Int32, (xcp k x y → W p l e R s m args below meth c H locs cells slots Q (F0 m tgt ls rest)) → (¬ xcp k x y → W p l e R s m args below meth c H locs cells slots Q (F0 m nx ls rest)) → W p l e R s m args below meth c H locs cells slots Q (F0 m pc ls (.int y :: .int x :: rest))
def xB0 (cc : ByteArray) (own : String) (pc nx tgt k : Nat) : Prop := ∀ (p : Program) (l : Launch) (e : Env) (R : Room) (s : State) (m : MethodId) (args : Array Value) (below : List Frame) (meth : Method) (c : Code) (H : Heap) (locs : List Loc) (cells slots : Nat) (Q : State → Prop) (ls : Array Slot) (rest : List Value), xCx p s m args c cc own → ∀ x : Int32, (xcp k x (nI 0) → W p l e R s m args below meth c H locs cells slots Q (F0 m tgt ls rest)) → (¬ xcp k x (nI 0) → W p l e R s m args below meth c H locs cells slots Q (F0 m nx ls rest)) → W p l e R s m args below meth c H locs cells slots Q (F0 m pc ls (.int x :: rest))
def xLd (cc : ByteArray) (own : String) (pc nx k i : Nat) : Prop := ∀ (p : Program) (l : Launch) (e : Env) (R : Room) (s : State) (m : MethodId) (args : Array Value) (below : List Frame) (meth : Method) (c : Code) (H : Heap) (locs : List Loc) (cells slots : Nat) (Q : State → Prop) (ls : Array Slot) (rest : List Value), xCx p s m args c cc own → ∀ v : Value, xkd k v → ls[i]? = some (.val v) → W p l e R s m args below meth c H locs cells slots Q (F0 m nx ls (v :: rest)) → W p l e R s m args below meth c H locs cells slots Q (F0 m pc ls rest)
def xfl (k i : Nat) (q : Nat × Value) : Bool := match k with
  | 2 => !(q.1 == i) && (!(q.1 == i + 1) && !(q.1 + 1 == i && q.2.category == 2))
  | _ => !(q.1 == i) && !(q.1 + 1 == i && q.2.category == 2)
def xwd (k : Nat) : Nat := match k with
  | 2 => 1
  | _ => 0
def xSt (cc : ByteArray) (own : String) (pc nx k i : Nat) : Prop := ∀ (p : Program) (l : Launch) (e : Env) (R : Room) (s : State) (m : MethodId) (args : Array Value) (below : List Frame) (meth : Method) (c : Code) (H : Heap) (locs : List Loc) (cells slots : Nat) (Q : State → Prop) (ls : Array Slot) (rest : List Value), xCx p s m args c cc own → ∀ (nL : Nat) (lv : List (Nat × Value)) (v : Value), xkd k v → lv_has ls nL lv → i + xwd k < nL → (∀ ls' : Array Slot, lv_has ls' nL ((i, v) :: lv.filter (xfl k i)) → W p l e R s m args below meth c H locs cells slots Q (F0 m nx ls' rest)) → W p l e R s m args below meth c H locs cells slots Q (F0 m pc ls (v :: rest))
def xIn (cc : ByteArray) (own : String) (pc nx i n : Nat) : Prop := ∀ (p : Program) (l : Launch) (e : Env) (R : Room) (s : State) (m : MethodId) (args : Array Value) (below : List Frame) (meth : Method) (c : Code) (H : Heap) (locs : List Loc) (cells slots : Nat) (Q : State → Prop) (ls : Array Slot) (rest : List Value), xCx p s m args c cc own → ∀ (nL k : Nat) (lv : List (Nat × Value)) (x : Int32), lv_has ls nL lv → lv[k]? = some (i, .int x) → i < nL → (∀ ls' : Array Slot, lv_has ls' nL ((i, .int (x + nI n)) :: lv.filter (xfl 0 i)) → W p l e R s m args below meth c H locs cells slots Q (F0 m nx ls' rest)) → W p l e R s m args below meth c H locs cells slots Q (F0 m pc ls rest)
def xSw (cc : ByteArray) (own : String) (pc dflt : Nat) (cs : List (Nat × Nat)) : Prop := ∀ (p : Program) (l : Launch) (e : Env) (R : Room) (s : State) (m : MethodId) (args : Array Value) (below : List Frame) (meth : Method) (c : Code) (H : Heap) (locs : List Loc) (cells slots : Nat) (Q : State → Prop) (ls : Array Slot) (rest : List Value), xCx p s m args c cc own → ∀ x : Int32, ((∃ q ∈ cs, x = nI q.1 ∧ W p l e R s m args below meth c H locs cells slots Q (F0 m q.2 ls rest)) ∨ ((∀ q ∈ cs, ¬ x = nI q.1) ∧ W p l e R s m args below meth c H locs cells slots Q (F0 m dflt ls rest))) → W p l e R s m args below meth c H locs cells slots Q (F0 m pc ls (.int x :: rest))
def xGf (cc : ByteArray) (own : String) (pc nx ci k : Nat) : Prop := ∀ (p : Program) (l : Launch) (e : Env) (R : Room) (s : State) (m : MethodId) (args : Array Value) (below : List Frame) (meth : Method) (c : Code) (H : Heap) (locs : List Loc) (cells slots : Nat) (Q : State → Prop) (ls : Array Slot) (rest : List Value), xCx p s m args c cc own → ∀ (D : va_G) (tys : List (ClassId × FieldType)) (ws : va_W) (q0 a : Nat) (fs : List Value) (v : Value), va_K D vwCl tys s → va_P D vwCl ws H → ws[q0]? = some (a, .inr (ci, fs)) → fs[k]? = some v → W p l e R s m args below meth c H locs cells slots Q (F0 m nx ls (v :: rest)) → W p l e R s m args below meth c H locs cells slots Q (F0 m pc ls (.ref a :: rest))
def xPf (cc : ByteArray) (own : String) (pc nx ci k : Nat) (ty : FieldType) (fin : Bool) : Prop := ∀ (p : Program) (l : Launch) (e : Env) (R : Room) (s : State) (m : MethodId) (args : Array Value) (below : List Frame) (meth : Method) (c : Code) (H : Heap) (locs : List Loc) (cells slots : Nat) (Q : State → Prop) (ls : Array Slot) (rest : List Value), xCx p s m args c cc own → ∀ (D : va_G) (tys : List (ClassId × FieldType)) (ws : va_W) (q0 a : Nat) (A : Nat → Prop) (H0 : Heap) (fs : List Value) (v : Value), va_K D vwCl tys s → va_P D vwCl ws H → va_D A ws → va_S A H0 H locs → ws[q0]? = some (a, .inr (ci, fs)) → (fin = true → meth.name = "<init>") → narrow ty v = v → fits ty v = true → k < fs.length → (∀ (H1 : Heap) (locs1 : List Loc), va_P D vwCl (ws.set q0 (a, .inr (ci, fs.set k v))) H1 → va_D A (ws.set q0 (a, .inr (ci, fs.set k v))) → va_S A H0 H1 locs1 → H1.size = H.size → W p l e R s m args below meth c H1 locs1 cells slots Q (F0 m nx ls rest)) → W p l e R s m args below meth c H locs cells slots Q (F0 m pc ls (v :: .ref a :: rest))
def xAl (cc : ByteArray) (own : String) (pc nx : Nat) : Prop := ∀ (p : Program) (l : Launch) (e : Env) (R : Room) (s : State) (m : MethodId) (args : Array Value) (below : List Frame) (meth : Method) (c : Code) (H : Heap) (locs : List Loc) (cells slots : Nat) (Q : State → Prop) (ls : Array Slot) (rest : List Value), xCx p s m args c cc own → ∀ (D : va_G) (tys : List (ClassId × FieldType)) (ws : va_W) (q0 a : Nat) (t0 : Nat) (cA : ClassId) (x : vp_A) (ty : FieldType), va_K D vwCl tys s → va_P D vwCl ws H → ws[q0]? = some (a, .inl (cA, x)) → tys[t0]? = some (cA, ty) → W p l e R s m args below meth c H locs cells slots Q (F0 m nx ls (.int (nI x.1) :: rest)) → W p l e R s m args below meth c H locs cells slots Q (F0 m pc ls (.ref a :: rest))
def xRd (cc : ByteArray) (own : String) (pc nx : Nat) (ty : FieldType) : Prop := ∀ (p : Program) (l : Launch) (e : Env) (R : Room) (s : State) (m : MethodId) (args : Array Value) (below : List Frame) (meth : Method) (c : Code) (H : Heap) (locs : List Loc) (cells slots : Nat) (Q : State → Prop) (ls : Array Slot) (rest : List Value), xCx p s m args c cc own → ∀ (D : va_G) (tys : List (ClassId × FieldType)) (ws : va_W) (q0 a : Nat) (t0 : Nat) (cA : ClassId) (n : Nat) (f : Nat → Int32) (i : Int32), va_K D vwCl tys s → va_P D vwCl ws H → ws[q0]? = some (a, .inl (cA, n, .inl f)) → tys[t0]? = some (cA, ty) → vp_in i n → W p l e R s m args below meth c H locs cells slots Q (F0 m nx ls (.int (f i.toNatClampNeg) :: rest)) → W p l e R s m args below meth c H locs cells slots Q (F0 m pc ls (.int i :: .ref a :: rest))
def xRr (cc : ByteArray) (own : String) (pc nx : Nat) : Prop := ∀ (p : Program) (l : Launch) (e : Env) (R : Room) (s : State) (m : MethodId) (args : Array Value) (below : List Frame) (meth : Method) (c : Code) (H : Heap) (locs : List Loc) (cells slots : Nat) (Q : State → Prop) (ls : Array Slot) (rest : List Value), xCx p s m args c cc own → ∀ (D : va_G) (tys : List (ClassId × FieldType)) (ws : va_W) (q0 a : Nat) (t0 : Nat) (cA : ClassId) (n : Nat) (f : Nat → Option Nat) (i : Int32), va_K D vwCl tys s → va_P D vwCl ws H → ws[q0]? = some (a, .inl (cA, n, .inr (.inr (.inr (.inr f))))) → tys[t0]? = some (cA, .array .int) → vp_in i n → W p l e R s m args below meth c H locs cells slots Q (F0 m nx ls (va_rf (f i.toNatClampNeg) :: rest)) → W p l e R s m args below meth c H locs cells slots Q (F0 m pc ls (.int i :: .ref a :: rest))
def xWr (cc : ByteArray) (own : String) (pc nx : Nat) (ty : FieldType) : Prop := ∀ (p : Program) (l : Launch) (e : Env) (R : Room) (s : State) (m : MethodId) (args : Array Value) (below : List Frame) (meth : Method) (c : Code) (H : Heap) (locs : List Loc) (cells slots : Nat) (Q : State → Prop) (ls : Array Slot) (rest : List Value), xCx p s m args c cc own → ∀ (D : va_G) (tys : List (ClassId × FieldType)) (ws : va_W) (q0 a : Nat) (A : Nat → Prop) (H0 : Heap) (t0 : Nat) (cA : ClassId) (n : Nat) (f : Nat → Int32) (i x : Int32), va_K D vwCl tys s → va_P D vwCl ws H → va_D A ws → va_S A H0 H locs → ws[q0]? = some (a, .inl (cA, n, .inl f)) → tys[t0]? = some (cA, ty) → vp_in i n → (∀ (H1 : Heap) (locs1 : List Loc), va_P D vwCl (ws.set q0 (a, .inl (cA, n, .inl (upd f i.toNatClampNeg (vp_nar ty x))))) H1 → va_D A (ws.set q0 (a, .inl (cA, n, .inl (upd f i.toNatClampNeg (vp_nar ty x))))) → va_S A H0 H1 locs1 → H1.size = H.size → W p l e R s m args below meth c H1 locs1 cells slots Q (F0 m nx ls rest)) → W p l e R s m args below meth c H locs cells slots Q (F0 m pc ls (.int x :: .int i :: .ref a :: rest))
def xRl (cc : ByteArray) (own : String) (pc nx : Nat) : Prop := ∀ (p : Program) (l : Launch) (e : Env) (R : Room) (s : State) (m : MethodId) (args : Array Value) (below : List Frame) (meth : Method) (c : Code) (H : Heap) (locs : List Loc) (cells slots : Nat) (Q : State → Prop) (ls : Array Slot) (rest : List Value), xCx p s m args c cc own → ∀ (D : va_G) (tys : List (ClassId × FieldType)) (ws : va_W) (q0 a : Nat) (t0 : Nat) (cA : ClassId) (n : Nat) (f : Nat → Int64) (i : Int32), va_K D vwCl tys s → va_P D vwCl ws H → ws[q0]? = some (a, .inl (cA, n, .inr (.inl f))) → tys[t0]? = some (cA, .long) → vp_in i n → W p l e R s m args below meth c H locs cells slots Q (F0 m nx ls (.long (f i.toNatClampNeg) :: rest)) → W p l e R s m args below meth c H locs cells slots Q (F0 m pc ls (.int i :: .ref a :: rest))
def xWl (cc : ByteArray) (own : String) (pc nx : Nat) : Prop := ∀ (p : Program) (l : Launch) (e : Env) (R : Room) (s : State) (m : MethodId) (args : Array Value) (below : List Frame) (meth : Method) (c : Code) (H : Heap) (locs : List Loc) (cells slots : Nat) (Q : State → Prop) (ls : Array Slot) (rest : List Value), xCx p s m args c cc own → ∀ (D : va_G) (tys : List (ClassId × FieldType)) (ws : va_W) (q0 a : Nat) (A : Nat → Prop) (H0 : Heap) (t0 : Nat) (cA : ClassId) (n : Nat) (f : Nat → Int64) (i : Int32) (x : Int64), va_K D vwCl tys s → va_P D vwCl ws H → va_D A ws → va_S A H0 H locs → ws[q0]? = some (a, .inl (cA, n, .inr (.inl f))) → tys[t0]? = some (cA, .long) → vp_in i n → (∀ (H1 : Heap) (locs1 : List Loc), va_P D vwCl (ws.set q0 (a, .inl (cA, n, .inr (.inl (vp_updL f i.toNatClampNeg x))))) H1 → va_D A (ws.set q0 (a, .inl (cA, n, .inr (.inl (vp_updL f i.toNatClampNeg x))))) → va_S A H0 H1 locs1 → W p l e R s m args below meth c H1 locs1 cells slots Q (F0 m nx ls rest)) → W p l e R s m args below meth c H locs cells slots Q (F0 m pc ls (.long x :: .int i :: .ref a :: rest))
theorem xouter (c : ClassId) (N h0 : Nat) : ∀ i : Nat, Jvm.Free.Multi.outerC c N h0 i = arrV c N (fun j => va_rf (if j < i then some (h0 + 1 + j) else none))
  | 0 => by
    show ({ cls := c, slots := Array.replicate N .null, vm := .none } : Cell) = _
    rw [arrV_new]
    refine congrArg (arrV c N) (funext fun j => ?_)
    simp [va_rf]
  | i + 1 => by
    show (Jvm.Free.Multi.outerC c N h0 i).setSlot i (.ref (h0 + 1 + i)) = _
    rw [xouter c N h0 i, arrV_store]
    refine congrArg (arrV c N) (funext fun j => ?_)
    by_cases e : j = i
    · rw [e]
      simp [updV, va_rf]
    · by_cases h : j < i
      · simp [updV, e, h, Nat.lt_succ_of_lt h]
      · simp [updV, e, h, show ¬ j < i + 1 by omega]
def gbin (o : Nat) (x y : Int64) : Int64 := match o with
  | 0 => x + y
  | 1 => x - y
  | 2 => x * y
  | 3 => x &&& y
  | 4 => x ||| y
  | 5 => x ^^^ y
  | 9 => x / y
  | 10 => x - x / y * y
  | _ => 0
def xXd (cc : ByteArray) (own : String) (pc nx : Nat) : Prop := ∀ (p : Program) (l : Launch) (e : Env) (R : Room) (s : State) (m : MethodId) (args : Array Value) (below : List Frame) (meth : Method) (c : Code) (H : Heap) (locs : List Loc) (cells slots : Nat) (Q : State → Prop) (ls : Array Slot) (rest : List Value), xCx p s m args c cc own → ∀ (q L : Nat) (xs : Nat → Int32) (A : Nat → Prop), va_X q L xs s s.heap → q < s.heap.size → ¬ A q → va_S A s.heap H locs → ∀ n, n < L → n < 2147483648 → L < 2147483648 → W p l e R s m args below meth c H locs cells slots Q (F0 m nx ls (.int (xs n) :: rest)) → W p l e R s m args below meth c H locs cells slots Q (F0 m pc ls (.int (nI n) :: .ref q :: rest))
def xXl (cc : ByteArray) (own : String) (pc nx : Nat) : Prop := ∀ (p : Program) (l : Launch) (e : Env) (R : Room) (s : State) (m : MethodId) (args : Array Value) (below : List Frame) (meth : Method) (c : Code) (H : Heap) (locs : List Loc) (cells slots : Nat) (Q : State → Prop) (ls : Array Slot) (rest : List Value), xCx p s m args c cc own → ∀ (q L : Nat) (xs : Nat → Int32) (A : Nat → Prop), va_X q L xs s s.heap → q < s.heap.size → ¬ A q → va_S A s.heap H locs → W p l e R s m args below meth c H locs cells slots Q (F0 m nx ls (.int (nI L) :: rest)) → W p l e R s m args below meth c H locs cells slots Q (F0 m pc ls (.ref q :: rest))
def xMth (cc : ByteArray) (own : String) (pc nx : Nat) (st st' : List Value) : Prop := ∀ (p : Program) (l : Launch) (e : Env) (R : Room) (s : State) (m : MethodId) (args : Array Value) (below : List Frame) (meth : Method) (c : Code) (H : Heap) (locs : List Loc) (cells slots : Nat) (Q : State → Prop) (ls : Array Slot) (rest : List Value), xCx p s m args c cc own → c.maxLocals = ls.size → 1 ≤ R.frames → (rest.map fun v => v.category).sum + 15 ≤ R.locals → cells ≤ R.cells → slots ≤ R.slots → W p l e R s m args below meth c H locs cells slots Q (F0 m nx ls (st' ++ rest)) → W p l e R s m args below meth c H locs cells slots Q (F0 m pc ls (st ++ rest))
def xMa (cc : ByteArray) (own : String) (pc nx : Nat) : Prop := ∀ (p : Program) (l : Launch) (e : Env) (R : Room) (s : State) (m : MethodId) (args : Array Value) (below : List Frame) (meth : Method) (c : Code) (H : Heap) (locs : List Loc) (cells slots : Nat) (Q : State → Prop) (ls : Array Slot) (rest : List Value), xCx p s m args c cc own → ∀ (b : Nat) (sa : Nat → Nat) (D : va_G) (tys : List (ClassId × FieldType)) (ws : va_W) (A : Nat → Prop) (H0 : Heap) (n k : Int32) (N' K' : Nat) (cA cI : ClassId), xFx b sa s → va_P D vwCl ws H → va_S A H0 H locs → s.vm.findClass ("[" ++ (FieldType.array .int).toString) = some cA → s.vm.findClass (FieldType.array .int).toString = some cI → ¬ n < 0 → ¬ k < 0 → n.toNatClampNeg = N' → k.toNatClampNeg = K' → N' ≤ 1000 → K' ≤ 1000 → cells + (1 + N') ≤ R.cells → slots + (N' + N' * K') ≤ R.slots → (∀ H1 : Heap, va_P D vwCl (ws ++ (H.size, .inl (cA, N', .inr (.inr (.inr (.inr (fun i => if i < N' then some (H.size + 1 + i) else none)))))) :: (List.range N').map (fun i => (H.size + 1 + i, .inl (cI, K', .inl (fun _ => 0))))) H1 → va_S A H0 H1 locs → H1.size = H.size + 1 + N' → W p l e R s m args below meth c H1 locs (cells + 1 + N') (slots + N' + N' * K') Q (F0 m nx ls (.ref H.size :: rest))) → W p l e R s m args below meth c H locs cells slots Q (F0 m pc ls (.int k :: .int n :: rest))
def xMi (cc : ByteArray) (own : String) (pc nx : Nat) : Prop := ∀ (p : Program) (l : Launch) (e : Env) (R : Room) (s : State) (m : MethodId) (args : Array Value) (below : List Frame) (meth : Method) (c : Code) (H : Heap) (locs : List Loc) (cells slots : Nat) (Q : State → Prop) (ls : Array Slot) (rest : List Value), xCx p s m args c cc own → ∀ x y : Int32, c.maxLocals = ls.size → 1 ≤ R.frames → (rest.map fun v => v.category).sum + 13 ≤ R.locals → cells ≤ R.cells → slots ≤ R.slots → W p l e R s m args below meth c H locs cells slots Q (F0 m nx ls (.int (if y < x then y else x) :: rest)) → W p l e R s m args below meth c H locs cells slots Q (F0 m pc ls (.int y :: .int x :: rest))
def xSb (cc : ByteArray) (own : String) (pc nx : Nat) : Prop := ∀ (p : Program) (l : Launch) (e : Env) (R : Room) (s : State) (m : MethodId) (args : Array Value) (below : List Frame) (meth : Method) (c : Code) (H : Heap) (locs : List Loc) (cells slots : Nat) (Q : State → Prop) (ls : Array Slot) (rest : List Value), xCx p s m args c cc own → ∀ (b : Nat) (sa : Nat → Nat) (A : Nat → Prop), xFx b sa s → va_S A s.heap H locs → (∀ q, A q → b ≤ q) → ∀ k j, k < 3 → j < xlen.getD k 0 → j < 2147483648 → W p l e R s m args below meth c H locs cells slots Q (F0 m nx ls (.int (nI ((xbyt.getD k []).getD j 0)) :: rest)) → W p l e R s m args below meth c H locs cells slots Q (F0 m pc ls (.int (nI j) :: .ref (sa (k + 1000)) :: rest))
def xSl (cc : ByteArray) (own : String) (pc nx : Nat) : Prop := ∀ (p : Program) (l : Launch) (e : Env) (R : Room) (s : State) (m : MethodId) (args : Array Value) (below : List Frame) (meth : Method) (c : Code) (H : Heap) (locs : List Loc) (cells slots : Nat) (Q : State → Prop) (ls : Array Slot) (rest : List Value), xCx p s m args c cc own → ∀ (b : Nat) (sa : Nat → Nat) (A : Nat → Prop), xFx b sa s → va_S A s.heap H locs → (∀ q, A q → b ≤ q) → ∀ k, k < 3 → W p l e R s m args below meth c H locs cells slots Q (F0 m nx ls (.int (nI (xlen.getD k 0)) :: rest)) → W p l e R s m args below meth c H locs cells slots Q (F0 m pc ls (.ref (sa (k + 1000)) :: rest))
def xSf (cc : ByteArray) (own : String) (pc nx : Nat) (g : (Nat → Nat) → Nat → Value) : Prop := ∀ (p : Program) (l : Launch) (e : Env) (R : Room) (s : State) (m : MethodId) (args : Array Value) (below : List Frame) (meth : Method) (c : Code) (H : Heap) (locs : List Loc) (cells slots : Nat) (Q : State → Prop) (ls : Array Slot) (rest : List Value), xCx p s m args c cc own → ∀ (b : Nat) (sa : Nat → Nat) (A : Nat → Prop), xFx b sa s → va_S A s.heap H locs → (∀ q, A q → b ≤ q) → ∀ k, k < 3 → W p l e R s m args below meth c H locs cells slots Q (F0 m nx ls (g sa k :: rest)) → W p l e R s m args below meth c H locs cells slots Q (F0 m pc ls (.ref (sa k) :: rest))
def xGs (cc : ByteArray) (own : String) (pc nx : Nat) (g : (Nat → Nat) → Value) : Prop := ∀ (p : Program) (l : Launch) (e : Env) (R : Room) (s : State) (m : MethodId) (args : Array Value) (below : List Frame) (meth : Method) (c : Code) (H : Heap) (locs : List Loc) (cells slots : Nat) (Q : State → Prop) (ls : Array Slot) (rest : List Value), xCx p s m args c cc own → ∀ (b : Nat) (sa : Nat → Nat) (A : Nat → Prop), xFx b sa s → va_S A s.heap H locs → (∀ q, A q → b ≤ q) → W p l e R s m args below meth c H locs cells slots Q (F0 m nx ls (g sa :: rest)) → W p l e R s m args below meth c H locs cells slots Q (F0 m pc ls rest)
def xLs (cc : ByteArray) (own : String) (pc nx k : Nat) : Prop := ∀ (p : Program) (l : Launch) (e : Env) (R : Room) (s : State) (m : MethodId) (args : Array Value) (below : List Frame) (meth : Method) (c : Code) (H : Heap) (locs : List Loc) (cells slots : Nat) (Q : State → Prop) (ls : Array Slot) (rest : List Value), xCx p s m args c cc own → ∀ (b : Nat) (sa : Nat → Nat), xFx b sa s → W p l e R s m args below meth c H locs cells slots Q (F0 m nx ls (.ref (sa k) :: rest)) → W p l e R s m args below meth c H locs cells slots Q (F0 m pc ls rest)
def xCp (cc : ByteArray) (own : String) (pc nx : Nat) : Prop := ∀ (p : Program) (l : Launch) (e : Env) (R : Room) (s : State) (m : MethodId) (args : Array Value) (below : List Frame) (meth : Method) (c : Code) (H : Heap) (locs : List Loc) (cells slots : Nat) (Q : State → Prop) (ls : Array Slot) (rest : List Value), xCx p s m args c cc own → ∀ (D : va_G) (tys : List (ClassId × FieldType)) (ws : va_W) (A : Nat → Prop) (H0 : Heap) (q0 q1 a0 a t0 : Nat) (cA : ClassId) (n0 n1 : Nat) (f g : Nat → Int32) (sp dp n : Int32), c.maxLocals = ls.size → va_K D vwCl tys s → va_P D vwCl ws H → va_D A ws → va_S A H0 H locs → ws[q0]? = some (a0, .inl (cA, n0, .inl f)) → ws[q1]? = some (a, .inl (cA, n1, .inl g)) → tys[t0]? = some (cA, .int) → ¬ sp < 0 → ¬ dp < 0 → ¬ n < 0 → sp.toNatClampNeg + n.toNatClampNeg ≤ n0 → dp.toNatClampNeg + n.toNatClampNeg ≤ n1 → 1 ≤ R.frames → (rest.map fun v => v.category).sum + (nativeFrameWords "java/lang/System" "arraycopy" 5 + 11) ≤ R.locals → (∀ (H1 : Heap) (locs1 : List Loc), va_P D vwCl (ws.set q1 (a, .inl (cA, n1, .inl (va_cpy f g sp.toNatClampNeg dp.toNatClampNeg n.toNatClampNeg)))) H1 → va_S A H0 H1 locs1 → H1.size = H.size → W p l e R s m args below meth c H1 locs1 cells slots Q (F0 m nx ls rest)) → W p l e R s m args below meth c H locs cells slots Q (F0 m pc ls (.int n :: .int dp :: .ref a :: .int sp :: .ref a0 :: rest))
def xOi (cc : ByteArray) (own : String) (pc nx : Nat) : Prop := ∀ (p : Program) (l : Launch) (e : Env) (R : Room) (s : State) (m : MethodId) (args : Array Value) (below : List Frame) (meth : Method) (c : Code) (H : Heap) (locs : List Loc) (cells slots : Nat) (Q : State → Prop) (ls : Array Slot) (rest : List Value), xCx p s m args c cc own → ∀ a : Nat, c.maxLocals = ls.size → 1 ≤ R.frames → (rest.map fun v => v.category).sum + 12 ≤ R.locals → W p l e R s m args below meth c H locs cells slots Q (F0 m nx ls rest) → W p l e R s m args below meth c H locs cells slots Q (F0 m pc ls (.ref a :: rest))
def xNa (cc : ByteArray) (own : String) (pc nx : Nat) (ty : FieldType) : Prop := ∀ (p : Program) (l : Launch) (e : Env) (R : Room) (s : State) (m : MethodId) (args : Array Value) (below : List Frame) (meth : Method) (c : Code) (H : Heap) (locs : List Loc) (cells slots : Nat) (Q : State → Prop) (ls : Array Slot) (rest : List Value), xCx p s m args c cc own → ∀ (D : va_G) (tys : List (ClassId × FieldType)) (ws : va_W) (A : Nat → Prop) (H0 : Heap) (n : Int32) (N' : Nat) (a0 : vp_A) (cA : ClassId), va_K D vwCl tys s → va_P D vwCl ws H → va_S A H0 H locs → s.vm.findClass ("[" ++ ty.toString) = some cA → vp_cell cA a0 = arrV cA N' (fun _ => defaultValue ty) → ¬ n < 0 → n.toNatClampNeg = N' → N' * componentBytes ty ≤ 536870912 → cells + 1 ≤ R.cells → slots + N' ≤ R.slots → (∀ H1 : Heap, va_P D vwCl (ws ++ [(H.size, .inl (cA, a0))]) H1 → va_S A H0 H1 locs → H1.size = H.size + 1 → W p l e R s m args below meth c H1 locs (cells + 1) (slots + N') Q (F0 m nx ls (.ref H.size :: rest))) → W p l e R s m args below meth c H locs cells slots Q (F0 m pc ls (.int n :: rest))
def xNw (cc : ByteArray) (own : String) (pc nx ci N : Nat) (fs : List Value) : Prop := ∀ (p : Program) (l : Launch) (e : Env) (R : Room) (s : State) (m : MethodId) (args : Array Value) (below : List Frame) (meth : Method) (c : Code) (H : Heap) (locs : List Loc) (cells slots : Nat) (Q : State → Prop) (ls : Array Slot) (rest : List Value), xCx p s m args c cc own → ∀ (D : va_G) (tys : List (ClassId × FieldType)) (ws : va_W) (A : Nat → Prop) (H0 : Heap), va_K D vwCl tys s → va_P D vwCl ws H → va_S A H0 H locs → cells + 1 ≤ R.cells → slots + N ≤ R.slots → (∀ H1 : Heap, va_P D vwCl (ws ++ [(H.size, .inr (ci, fs))]) H1 → va_S A H0 H1 locs → H1.size = H.size + 1 → W p l e R s m args below meth c H1 locs (cells + 1) (slots + N) Q (F0 m nx ls (.ref H.size :: rest))) → W p l e R s m args below meth c H locs cells slots Q (F0 m pc ls rest)
section XR
variable {cc : ByteArray} {own : String} {pc : Nat}
theorem xr_iconst {n : Int} {a : Nat} (d : decode cc pc = .ok (.iconst n, 1)) (h : Int32.ofInt n = nI a) : xT cc own pc (pc + 1) [] [.int (nI a)] := fun p l e R s m args below meth c H locs cells slots Q ls rest C k => lv_iconst C.1 C.2.1 d h k
theorem xr_bipush {n : Int} {a : Nat} (d : decode cc pc = .ok (.bipush n, 2)) (h : (Int8.ofInt n).toInt32 = nI a) : xT cc own pc (pc + 2) [] [.int (nI a)] := fun p l e R s m args below meth c H locs cells slots Q ls rest C k => lv_bipush C.1 C.2.1 d h k
theorem xr_sipush {n : Int} {a : Nat} (d : decode cc pc = .ok (.sipush n, 3)) (h : (Int16.ofInt n).toInt32 = nI a) : xT cc own pc (pc + 3) [] [.int (nI a)] := fun p l e R s m args below meth c H locs cells slots Q ls rest C k => lv_sipush C.1 C.2.1 d h k
theorem xr_lconst {n : Fin 2} {a : Nat} (d : decode cc pc = .ok (.lconst n, 1)) (h : Int64.ofNat (n : Nat) = lN a) : xT cc own pc (pc + 1) [] [.long (lN a)] := fun p l e R s m args below meth c H locs cells slots Q ls rest C k => lv_lconst C.1 C.2.1 d h k
theorem xr_ldc {ix a : Nat} (d : decode cc pc = .ok (.ldc ix, 2)) (h : Cond.constant own ix (nI a) ∈ xgt) : xT cc own pc (pc + 2) [] [.int (nI a)] := fun p l e R s m args below meth c H locs cells slots Q ls rest C k => lv_ldc C.1 C.2.1 C.2.2.1 (C.2.2.2 _ h) d k
theorem xr_ldcw {ix a : Nat} (d : decode cc pc = .ok (.ldc_w ix, 3)) (h : Cond.constant own ix (nI a) ∈ xgt) : xT cc own pc (pc + 3) [] [.int (nI a)] := fun p l e R s m args below meth c H locs cells slots Q ls rest C k => lv_ldcw C.1 C.2.1 C.2.2.1 (C.2.2.2 _ h) d k
theorem xr_ldc2 {ix a : Nat} (d : decode cc pc = .ok (.ldc2_w ix, 3)) (h : Cond.constantLong own ix (lN a) ∈ xgt) : xT cc own pc (pc + 3) [] [.long (lN a)] := fun p l e R s m args below meth c H locs cells slots Q ls rest C k => lv_ldc2 C.1 C.2.1 C.2.2.1 (C.2.2.2 _ h) d k
theorem xr_iadd  (d : decode cc pc = .ok (.iadd, 1)) (x y : Int32) : xT cc own pc (pc + 1) [.int y, .int x] [.int (fbin 0 x y)] := fun p l e R s m args below meth c H locs cells slots Q ls rest C k => lv_iadd C.1 C.2.1 d k
theorem xr_isub  (d : decode cc pc = .ok (.isub, 1)) (x y : Int32) : xT cc own pc (pc + 1) [.int y, .int x] [.int (fbin 1 x y)] := fun p l e R s m args below meth c H locs cells slots Q ls rest C k => lv_isub C.1 C.2.1 d k
theorem xr_imul  (d : decode cc pc = .ok (.imul, 1)) (x y : Int32) : xT cc own pc (pc + 1) [.int y, .int x] [.int (fbin 2 x y)] := fun p l e R s m args below meth c H locs cells slots Q ls rest C k => lv_imul C.1 C.2.1 d k
theorem xr_iand  (d : decode cc pc = .ok (.iand, 1)) (x y : Int32) : xT cc own pc (pc + 1) [.int y, .int x] [.int (fbin 3 x y)] := fun p l e R s m args below meth c H locs cells slots Q ls rest C k => lv_iand C.1 C.2.1 d k
theorem xr_ior  (d : decode cc pc = .ok (.ior, 1)) (x y : Int32) : xT cc own pc (pc + 1) [.int y, .int x] [.int (fbin 4 x y)] := fun p l e R s m args below meth c H locs cells slots Q ls rest C k => lv_ior C.1 C.2.1 d k
theorem xr_ixor  (d : decode cc pc = .ok (.ixor, 1)) (x y : Int32) : xT cc own pc (pc + 1) [.int y, .int x] [.int (fbin 5 x y)] := fun p l e R s m args below meth c H locs cells slots Q ls rest C k => lv_ixor C.1 C.2.1 d k
theorem xr_ishl  (d : decode cc pc = .ok (.ishl, 1)) (x y : Int32) : xT cc own pc (pc + 1) [.int y, .int x] [.int (fbin 6 x y)] := fun p l e R s m args below meth c H locs cells slots Q ls rest C k => lv_ishl C.1 C.2.1 d k
theorem xr_ishr  (d : decode cc pc = .ok (.ishr, 1)) (x y : Int32) : xT cc own pc (pc + 1) [.int y, .int x] [.int (fbin 7 x y)] := fun p l e R s m args below meth c H locs cells slots Q ls rest C k => lv_ishr C.1 C.2.1 d k
theorem xr_iushr  (d : decode cc pc = .ok (.iushr, 1)) (x y : Int32) : xT cc own pc (pc + 1) [.int y, .int x] [.int (fbin 8 x y)] := fun p l e R s m args below meth c H locs cells slots Q ls rest C k => lv_iushr C.1 C.2.1 d rfl k
theorem xr_idiv  (d : decode cc pc = .ok (.idiv, 1)) (x y : Int32) (h : ¬ y = 0) : xT cc own pc (pc + 1) [.int y, .int x] [.int (fbin 9 x y)] := fun p l e R s m args below meth c H locs cells slots Q ls rest C k => lv_idiv C.1 C.2.1 d h k
theorem xr_irem  (d : decode cc pc = .ok (.irem, 1)) (x y : Int32) (h : ¬ y = 0) : xT cc own pc (pc + 1) [.int y, .int x] [.int (fbin 10 x y)] := fun p l e R s m args below meth c H locs cells slots Q ls rest C k => lv_irem C.1 C.2.1 d h k
theorem xr_i2b  (d : decode cc pc = .ok (.i2b, 1)) (x : Int32) : xT cc own pc (pc + 1) [.int x] [.int x.toInt8.toInt32] := fun p l e R s m args below meth c H locs cells slots Q ls rest C k => lv_i2b C.1 C.2.1 d rfl k
theorem xr_lcmp  (d : decode cc pc = .ok (.lcmp, 1)) (x y : Int64) : xT cc own pc (pc + 1) [.long y, .long x] [.int (lg_cmp x y)] := fun p l e R s m args below meth c H locs cells slots Q ls rest C k => W.lcmp C.1 C.2.1 d k
theorem xr_dup  (d : decode cc pc = .ok (.dup, 1)) (v : Value) (h : v.category = 1) : xT cc own pc (pc + 1) [v] [v, v] := fun p l e R s m args below meth c H locs cells slots Q ls rest C k => lv_dup C.1 C.2.1 d h k
theorem xr_pop  (d : decode cc pc = .ok (.pop, 1)) (v : Value) (h : v.category = 1) : xT cc own pc (pc + 1) [v] [] := fun p l e R s m args below meth c H locs cells slots Q ls rest C k => lv_pop C.1 C.2.1 d h k
theorem xr_dup2  (d : decode cc pc = .ok (.dup2, 1)) (v w : Value) (h : v.category = 1) (h2 : w.category = 1) : xT cc own pc (pc + 1) [v, w] [v, w, v, w] := fun p l e R s m args below meth c H locs cells slots Q ls rest C k => lv_dup2_11 C.1 C.2.1 d h h2 k
theorem xr_goto {off : Int} {tgt : Nat} (d : decode cc pc = .ok (.goto off, 3)) (h : (pc : Int) + off = (tgt : Int)) : xT cc own pc tgt [] [] := fun p l e R s m args below meth c H locs cells slots Q ls rest C k => lv_goto C.1 C.2.1 d h k
theorem xr_icmpeq {off : Int} {tgt : Nat} (d : decode cc pc = .ok (.if_icmp .eq off, 3)) (h : (pc : Int) + off = (tgt : Int)) : xB cc own pc (pc + 3) tgt 0 := fun p l e R s m args below meth c H locs cells slots Q ls rest C x y kt kf => lv_icmp_eq C.1 C.2.1 d h kt kf
theorem xr_ifeq {off : Int} {tgt : Nat} (d : decode cc pc = .ok (.ifCond .eq off, 3)) (h : (pc : Int) + off = (tgt : Int)) : xB0 cc own pc (pc + 3) tgt 0 := fun p l e R s m args below meth c H locs cells slots Q ls rest C x kt kf => lv_if_eq C.1 C.2.1 d h kt kf
theorem xr_icmpne {off : Int} {tgt : Nat} (d : decode cc pc = .ok (.if_icmp .ne off, 3)) (h : (pc : Int) + off = (tgt : Int)) : xB cc own pc (pc + 3) tgt 1 := fun p l e R s m args below meth c H locs cells slots Q ls rest C x y kt kf => lv_icmp_ne C.1 C.2.1 d h kt (fun z => kf (fun w => w z))
theorem xr_ifne {off : Int} {tgt : Nat} (d : decode cc pc = .ok (.ifCond .ne off, 3)) (h : (pc : Int) + off = (tgt : Int)) : xB0 cc own pc (pc + 3) tgt 1 := fun p l e R s m args below meth c H locs cells slots Q ls rest C x kt kf => lv_if_ne C.1 C.2.1 d h kt (fun z => kf (fun w => w z))
theorem xr_icmplt {off : Int} {tgt : Nat} (d : decode cc pc = .ok (.if_icmp .lt off, 3)) (h : (pc : Int) + off = (tgt : Int)) : xB cc own pc (pc + 3) tgt 2 := fun p l e R s m args below meth c H locs cells slots Q ls rest C x y kt kf => lv_icmp_lt C.1 C.2.1 d h kt kf
theorem xr_iflt {off : Int} {tgt : Nat} (d : decode cc pc = .ok (.ifCond .lt off, 3)) (h : (pc : Int) + off = (tgt : Int)) : xB0 cc own pc (pc + 3) tgt 2 := fun p l e R s m args below meth c H locs cells slots Q ls rest C x kt kf => lv_if_lt C.1 C.2.1 d h kt kf
theorem xr_icmpge {off : Int} {tgt : Nat} (d : decode cc pc = .ok (.if_icmp .ge off, 3)) (h : (pc : Int) + off = (tgt : Int)) : xB cc own pc (pc + 3) tgt 3 := fun p l e R s m args below meth c H locs cells slots Q ls rest C x y kt kf => lv_icmp_ge C.1 C.2.1 d h kt kf
theorem xr_ifge {off : Int} {tgt : Nat} (d : decode cc pc = .ok (.ifCond .ge off, 3)) (h : (pc : Int) + off = (tgt : Int)) : xB0 cc own pc (pc + 3) tgt 3 := fun p l e R s m args below meth c H locs cells slots Q ls rest C x kt kf => lv_if_ge C.1 C.2.1 d h kt kf
theorem xr_icmpgt {off : Int} {tgt : Nat} (d : decode cc pc = .ok (.if_icmp .gt off, 3)) (h : (pc : Int) + off = (tgt : Int)) : xB cc own pc (pc + 3) tgt 4 := fun p l e R s m args below meth c H locs cells slots Q ls rest C x y kt kf => lv_icmp_gt C.1 C.2.1 d h kt kf
theorem xr_ifgt {off : Int} {tgt : Nat} (d : decode cc pc = .ok (.ifCond .gt off, 3)) (h : (pc : Int) + off = (tgt : Int)) : xB0 cc own pc (pc + 3) tgt 4 := fun p l e R s m args below meth c H locs cells slots Q ls rest C x kt kf => lv_if_gt C.1 C.2.1 d h kt kf
theorem xr_icmple {off : Int} {tgt : Nat} (d : decode cc pc = .ok (.if_icmp .le off, 3)) (h : (pc : Int) + off = (tgt : Int)) : xB cc own pc (pc + 3) tgt 5 := fun p l e R s m args below meth c H locs cells slots Q ls rest C x y kt kf => lv_icmp_le C.1 C.2.1 d h kt kf
theorem xr_ifle {off : Int} {tgt : Nat} (d : decode cc pc = .ok (.ifCond .le off, 3)) (h : (pc : Int) + off = (tgt : Int)) : xB0 cc own pc (pc + 3) tgt 5 := fun p l e R s m args below meth c H locs cells slots Q ls rest C x kt kf => lv_if_le C.1 C.2.1 d h kt kf
theorem xr_iloadn {i : Nat} {j : Fin 4} (d : decode cc pc = .ok (.iload_n j, 1)) (h : (j : Nat) = i) : xLd cc own pc (pc + 1) 0 i := by
  intro p l e R s m args below meth c H locs cells slots Q ls rest C v hv hl k
  obtain ⟨x, rfl⟩ := hv
  exact lv_iload_n C.1 C.2.1 d h hl k
theorem xr_iload {i : Nat} (d : decode cc pc = .ok (.iload i, 2)) : xLd cc own pc (pc + 2) 0 i := by
  intro p l e R s m args below meth c H locs cells slots Q ls rest C v hv hl k
  obtain ⟨x, rfl⟩ := hv
  exact lv_iload C.1 C.2.1 d hl k
theorem xr_lloadn {i : Nat} {j : Fin 4} (d : decode cc pc = .ok (.lload_n j, 1)) (h : (j : Nat) = i) : xLd cc own pc (pc + 1) 2 i := by
  intro p l e R s m args below meth c H locs cells slots Q ls rest C v hv hl k
  obtain ⟨x, rfl⟩ := hv
  exact lv_lload_n C.1 C.2.1 d h hl k
theorem xr_lload {i : Nat} (d : decode cc pc = .ok (.lload i, 2)) : xLd cc own pc (pc + 2) 2 i := by
  intro p l e R s m args below meth c H locs cells slots Q ls rest C v hv hl k
  obtain ⟨x, rfl⟩ := hv
  exact lv_lload C.1 C.2.1 d hl k
theorem xr_aloadn {i : Nat} {j : Fin 4} (d : decode cc pc = .ok (.aload_n j, 1)) (h : (j : Nat) = i) : xLd cc own pc (pc + 1) 1 i := by
  intro p l e R s m args below meth c H locs cells slots Q ls rest C v hv hl k
  rcases hv with rfl | ⟨x, rfl⟩
  · exact lv_aload_nN C.1 C.2.1 d h hl k
  · exact lv_aload_n C.1 C.2.1 d h hl k
theorem xr_aload {i : Nat} (d : decode cc pc = .ok (.aload i, 2)) : xLd cc own pc (pc + 2) 1 i := by
  intro p l e R s m args below meth c H locs cells slots Q ls rest C v hv hl k
  rcases hv with rfl | ⟨x, rfl⟩
  · exact lv_aloadN C.1 C.2.1 d hl k
  · exact lv_aload C.1 C.2.1 d hl k
theorem xr_istoren {i : Nat} {j : Fin 4} (d : decode cc pc = .ok (.istore_n j, 1)) (h : (j : Nat) = i) : xSt cc own pc (pc + 1) 0 i := by
  intro p l e R s m args below meth c H locs cells slots Q ls rest C nL lv v hv hh hn k
  obtain ⟨x, rfl⟩ := hv
  exact lv_istore_n C.1 C.2.1 d h hh hn rfl k
theorem xr_istore {i : Nat} (d : decode cc pc = .ok (.istore i, 2)) : xSt cc own pc (pc + 2) 0 i := by
  intro p l e R s m args below meth c H locs cells slots Q ls rest C nL lv v hv hh hn k
  obtain ⟨x, rfl⟩ := hv
  exact lv_istore C.1 C.2.1 d hh hn rfl k
theorem xr_lstoren {i : Nat} {j : Fin 4} (d : decode cc pc = .ok (.lstore_n j, 1)) (h : (j : Nat) = i) : xSt cc own pc (pc + 1) 2 i := by
  intro p l e R s m args below meth c H locs cells slots Q ls rest C nL lv v hv hh hn k
  obtain ⟨x, rfl⟩ := hv
  exact lv_lstore_n C.1 C.2.1 d h hh hn rfl k
theorem xr_lstore {i : Nat} (d : decode cc pc = .ok (.lstore i, 2)) : xSt cc own pc (pc + 2) 2 i := by
  intro p l e R s m args below meth c H locs cells slots Q ls rest C nL lv v hv hh hn k
  obtain ⟨x, rfl⟩ := hv
  exact lv_lstore C.1 C.2.1 d hh hn rfl k
theorem xr_astoren {i : Nat} {j : Fin 4} (d : decode cc pc = .ok (.astore_n j, 1)) (h : (j : Nat) = i) : xSt cc own pc (pc + 1) 1 i := by
  intro p l e R s m args below meth c H locs cells slots Q ls rest C nL lv v hv hh hn k
  rcases hv with rfl | ⟨x, rfl⟩
  · exact lv_astore_nN C.1 C.2.1 d h hh hn rfl k
  · exact lv_astore_n C.1 C.2.1 d h hh hn rfl k
theorem xr_astore {i : Nat} (d : decode cc pc = .ok (.astore i, 2)) : xSt cc own pc (pc + 2) 1 i := by
  intro p l e R s m args below meth c H locs cells slots Q ls rest C nL lv v hv hh hn k
  rcases hv with rfl | ⟨x, rfl⟩
  · exact lv_astoreN C.1 C.2.1 d hh hn rfl k
  · exact lv_astore C.1 C.2.1 d hh hn rfl k
theorem xr_iinc {i a : Nat} {n : Int} (d : decode cc pc = .ok (.iinc i n, 3)) (h : Int32.ofInt n = nI a) : xIn cc own pc (pc + 3) i a := fun p l e R s m args below meth c H locs cells slots Q ls rest C nL k lv x hh hk hn kk => lv_iinc C.1 C.2.1 d hh hk (by rw [h]) hn rfl kk
theorem xr_getf {ci k ix N : Nat} {K : String} {T : u_T} (d : decode cc pc = .ok (.getfield ix, 3)) (hc : vwCl[ci]? = some (K, T, N)) (hk : k < N) (hin : ∀ w ∈ u_ws K T N, w ∈ xgt) (hl : Cond.fieldLink own ix (T k).1 (T k).2.1 (T k).2.2.1 ∈ xgt) : xGf cc own pc (pc + 3) ci k := fun p l e R s m args below meth c H locs cells slots Q ls rest C D tys ws q0 a fs v hK hP he hv kk => va_get C.1 C.2.1 C.2.2.2 hin C.2.2.1 hK hP q0 he hc k hk (C.2.2.2 _ hl) (fun _ h => h) hv d kk
/-- a field's cell behind a store: the world -/
theorem xw_obj {D : va_G} {tys : List (ClassId × FieldType)} {ws : va_W} {A : Nat → Prop} {s : State} {args : Array Value} {H H1 : Heap} {ci k N q0 a : Nat} {K : String} {T : u_T} {ty0 : Nat → FieldType} {own : String} (hts : ∀ w ∈ xgt, w.before args s = true) (hc : vwCl[ci]? = some (K, T, N)) (hk : k < N) (hin : ∀ w ∈ u_ws K T N, w ∈ xgt) (hty : ∀ k, k < N → parseFieldDescriptor (T k).2.2.1 = some (ty0 k)) (hnm : ∀ a, a < N → ∀ b, b < N → a ≠ b → (T a).2.1 ≠ (T b).2.1)
    (hK : va_K D vwCl tys s) (hP : va_P D vwCl ws H) (hD : va_D A ws) {fs : List Value} (he : ws[q0]? = some (a, .inr (ci, fs))) {v : Value} (hlen : k < fs.length) {cell : Cell} (c1 : cell.cls = D.1 ci) (c2 : cell.vm = .none) (c3 : ∀ j, j < N → cell.slots[D.2 ci j]? = some (vp_V fs j)) (h1 : H1[a]? = some (cell.setSlot (D.2 ci k) v)) (h2 : ∀ q, q ≠ a → H1[q]? = H[q]?) : va_P D vwCl (ws.set q0 (a, .inr (ci, fs.set k v))) H1 :=
  hP.set hD he ⟨_, hc, t_OB.to (V := updV (vp_V fs) k v) ⟨_, h1, c1, c2, t_set c3 (va_apart (own := own) hts hin ty0 hty hnm hK hc) hk v⟩ (fun j _ => vp_updV_set hlen v j)⟩ h2
theorem xr_putf {ci k ix N : Nat} {K : String} {T : u_T} {ty0 : Nat → FieldType} (d : decode cc pc = .ok (.putfield ix, 3)) (hc : vwCl[ci]? = some (K, T, N)) (hk : k < N) (hin : ∀ w ∈ u_ws K T N, w ∈ xgt) (hty : ∀ k, k < N → parseFieldDescriptor (T k).2.2.1 = some (ty0 k)) (hnm : ∀ a, a < N → ∀ b, b < N → a ≠ b → (T a).2.1 ≠ (T b).2.1) (hl : Cond.fieldLink own ix (T k).1 (T k).2.1 (T k).2.2.1 ∈ xgt) (hf : (T k).2.2.2 = false) {ty : FieldType} (et : ty0 k = ty) : xPf cc own pc (pc + 3) ci k ty false := by
  intro p l e R s m args below meth c H locs cells slots Q ls rest C D tys ws q0 a A H0 fs v hK hP hD hS he _ hn hft hlen kk
  obtain ⟨r, g1, cell, q1, q2, q3, q4⟩ := hP q0 _ he
  cases g1.symm.trans hc
  obtain ⟨hSl, hfc, kC, hkC, hkind⟩ := hK.1 ci _ hc
  obtain ⟨cf, kf, fi, f, hi, hsl⟩ := hSl k hk
  have hlay := C.2.2.2 _ (hin _ (u_in_lay hk))
  rw [u_lay, if_neg (by rw [hf]; decide)] at hlay
  refine W.putK C.1 C.2.1 (f := f) ⟨C.2.2.1, C.2.2.2 _ hl, ⟨_, _, _, hi⟩, (u_facts hfc hkC (u_lays C.2.2.2 hin hk) hi).1⟩ (by rw [q2]; exact u_store hfc hkC hkind hlay hi (by rw [← et]; exact hty k hk) hn hft) q1 q3 (by rw [hsl]; exact k2_hasslot (q4 k hk)) rfl rfl d fun H' e1 e2 e3 => ?_
  rw [hsl] at e1 ⊢
  exact kk H' _ (xw_obj (own := own) C.2.2.2 hc hk hin hty hnm hK hP hD he hlen q2 q3 q4 e1 e3) (hD.set he) (hS.put e2 e3 (hD.2 q0 _ he)) e2
theorem xr_putF {ci k ix N : Nat} {K : String} {T : u_T} {ty0 : Nat → FieldType} (d : decode cc pc = .ok (.putfield ix, 3)) (hc : vwCl[ci]? = some (K, T, N)) (hk : k < N) (hin : ∀ w ∈ u_ws K T N, w ∈ xgt) (hty : ∀ k, k < N → parseFieldDescriptor (T k).2.2.1 = some (ty0 k)) (hnm : ∀ a, a < N → ∀ b, b < N → a ≠ b → (T a).2.1 ≠ (T b).2.1) (hl : Cond.fieldLink own ix (T k).1 (T k).2.1 (T k).2.2.1 ∈ xgt) (hf : (T k).2.2.2 = true) {ty : FieldType} (et : ty0 k = ty) (ho : (T k).1 = own) : xPf cc own pc (pc + 3) ci k ty true := by
  intro p l e R s m args below meth c H locs cells slots Q ls rest C D tys ws q0 a A H0 fs v hK hP hD hS he hni hn hft hlen kk
  obtain ⟨r, g1, cell, q1, q2, q3, q4⟩ := hP q0 _ he
  cases g1.symm.trans hc
  obtain ⟨hSl, hfc, kC, hkC, hkind⟩ := hK.1 ci _ hc
  obtain ⟨cf, kf, fi, f, hi, hsl⟩ := hSl k hk
  have hlay := C.2.2.2 _ (hin _ (u_in_lay hk))
  rw [u_lay, if_pos hf] at hlay
  have hcf : m.cls = cf := by
    obtain ⟨_, _, c', _, _, _, -, -, hf', -, -, -, hown2, -⟩ := Cond.laysFinal_spec hlay
    have e1 : c' = cf := by have := hi.symm.trans hf'; simp at this; exact this.1.symm
    rw [ho] at hown2
    rw [← e1]
    exact Option.some.inj (C.2.2.1.symm.trans hown2)
  refine W.putFinK C.1 C.2.1 C.2.2.1 (C.2.2.2 _ hl) hi (u_facts hfc hkC (u_lays C.2.2.2 hin hk) hi).1 hcf (hni rfl) (by rw [q2]; exact u_fits hfc hkC hkind (Or.inr hlay) hi (by rw [← et]; exact hty k hk) hn hft) q1 q3 (by rw [hsl]; exact k2_hasslot (q4 k hk)) rfl rfl d fun H' e1 e2 e3 => ?_
  rw [hsl] at e1 ⊢
  exact kk H' _ (xw_obj (own := own) C.2.2.2 hc hk hin hty hnm hK hP hD he hlen q2 q3 q4 e1 e3) (hD.set he) (hS.put e2 e3 (hD.2 q0 _ he)) e2
/-- a table switch from 0 on: its targets in order -/
theorem xr_table {dflt hi : Int} {offs : Array Int} {len df : Nat} {cs : List (Nat × Nat)} (d : decode cc pc = .ok (.tableswitch dflt 0 hi offs, len)) (h1 : hi + 1 = cs.length ∧ offs.size = cs.length ∧ cs.length < 1000) (h2 : (pc : Int) + dflt = (df : Int)) (h3 : ∀ i, i < cs.length → ((cs.getD i (0, 0)).1 = i ∧ (pc : Int) + offs.getD i 0 = ((cs.getD i (0, 0)).2 : Int))) : xSw cc own pc df cs := by
  intro p l e R s m args below meth c H locs cells slots Q ls rest C x h
  have key : ∀ i, i < cs.length → cs[i]? = some (i, (cs.getD i (0, 0)).2) := fun i hi => by
    have e1 := (h3 i hi).1
    rw [List.getD_eq_getElem?_getD, List.getElem?_eq_getElem hi] at e1 ⊢
    simp only [Option.getD_some] at e1 ⊢
    exact congrArg some (Prod.ext e1 rfl)
  rcases h with ⟨q, hq, rfl, hW⟩ | ⟨hn, hW⟩
  · obtain ⟨i, hi⟩ := List.getElem?_of_mem hq
    have hl : i < cs.length := (List.getElem?_eq_some_iff.mp hi).1
    have hk := key i hl
    rw [hi] at hk
    cases hk
    have ht := (h3 i hl).2
    have e2 : (nI i).toInt = (i : Int) := nI_toInt (by omega)
    refine lv_tableIn C.1 C.2.1 d (off := offs.getD i 0) (by rw [e2]; omega) (by rw [e2]; omega) ?_ ht hW
    rw [e2, show ((i : Int) - 0).toNat = i by omega, Array.getD_eq_getD_getElem?, Array.getElem?_eq_getElem (by omega)]
    rfl
  · refine lv_tableOut C.1 C.2.1 d ?_ h2 hW
    by_cases a : x.toInt < 0
    · exact Or.inl a
    · refine Or.inr ?_
      by_cases b : hi < x.toInt
      · exact b
      · exfalso
        have hlt : x.toInt.toNat < cs.length := by omega
        refine hn _ (List.mem_of_getElem? (key _ hlt)) ?_
        apply Int32.toInt_inj.mp
        rw [nI_toInt (by omega)]
        omega
/-- a lookup switch of two cases -/
theorem xr_look2 {dflt k0 o0 k1 o1 : Int} {len df a0 t0 a1 t1 : Nat} (d : decode cc pc = .ok (.lookupswitch dflt #[(k0, o0), (k1, o1)], len)) (h0 : k0 < k1 ∧ k0 = a0 ∧ k1 = a1 ∧ a1 < 1000) (h1 : (pc : Int) + dflt = (df : Int)) (h2 : (pc : Int) + o0 = (t0 : Int)) (h3 : (pc : Int) + o1 = (t1 : Int)) : xSw cc own pc df [(a0, t0), (a1, t1)] := by
  intro p l e R s m args below meth c H locs cells slots Q ls rest C x h
  obtain ⟨g0, g1, g2, g3⟩ := h0
  have srt : ((#[(k0, o0), (k1, o1)] : Array (Int × Int)).toList.zip ((#[(k0, o0), (k1, o1)] : Array (Int × Int)).toList.drop 1)).all (fun (a, next) => a.1 < next.1) = true := by
    simp [g0]
  have t0' : (nI a0).toInt = (a0 : Int) := nI_toInt (by omega)
  have t1' : (nI a1).toInt = (a1 : Int) := nI_toInt (by omega)
  rcases h with ⟨q, hq, rfl, hW⟩ | ⟨hn, hW⟩
  · rcases List.mem_cons.mp hq with rfl | hq
    · refine lv_lookup C.1 C.2.1 d srt (off := o0) ?_ h2 hW
      simp [Op.lookupswitch.offset, t0', g1]
    · rcases List.mem_cons.mp hq with rfl | hq
      · refine lv_lookup C.1 C.2.1 d srt (off := o1) ?_ h3 hW
        simp [Op.lookupswitch.offset, t1', g2, show ¬ k0 = (a1 : Int) by omega]
      · cases hq
  · have n0 : ¬ x.toInt = k0 := fun z => hn (a0, t0) List.mem_cons_self (Int32.toInt_inj.mp (by rw [t0']; omega))
    have n1 : ¬ x.toInt = k1 := fun z => hn (a1, t1) (List.mem_cons_of_mem _ List.mem_cons_self) (Int32.toInt_inj.mp (by rw [t1']; omega))
    refine lv_lookup C.1 C.2.1 d srt (off := dflt) ?_ h1 hW
    simp [Op.lookupswitch.offset, Ne.symm n0, Ne.symm n1]
    first | done | exact ⟨n0, n1⟩ | omega
theorem xr_alen (d : decode cc pc = .ok (.arraylength, 1)) : xAl cc own pc (pc + 1) := fun p l e R s m args below meth c H locs cells slots Q ls rest C D tys ws q0 a t0 cA x ty hK hP he ht kk => va_alen C.1 C.2.1 hK hP q0 t0 he ht rfl d kk
theorem xr_iald (d : decode cc pc = .ok (.iaload, 1)) : xRd cc own pc (pc + 1) .int := fun p l e R s m args below meth c H locs cells slots Q ls rest C D tys ws q0 a t0 cA n f i hK hP he ht hi kk => va_iald C.1 C.2.1 hK hP q0 t0 he ht hi d kk
theorem xr_bald (d : decode cc pc = .ok (.baload, 1)) : xRd cc own pc (pc + 1) .byte := fun p l e R s m args below meth c H locs cells slots Q ls rest C D tys ws q0 a t0 cA n f i hK hP he ht hi kk => va_bald C.1 C.2.1 hK hP q0 t0 he ht hi d kk
theorem xr_zald (d : decode cc pc = .ok (.baload, 1)) : xRd cc own pc (pc + 1) .boolean := fun p l e R s m args below meth c H locs cells slots Q ls rest C D tys ws q0 a t0 cA n f i hK hP he ht hi kk => va_zald C.1 C.2.1 hK hP q0 t0 he ht hi d kk
theorem xw_arr {f : Nat → Int32} {i x y : Int32} {cA : ClassId} {n : Nat} (h : x = y) : (vp_cell cA (n, .inl f)).setSlot i.toNatClampNeg (.int x) = vp_cell cA (n, .inl (upd f i.toNatClampNeg y)) := by
  rw [vp_cell_i, vp_cell_i, arrV_store, h]
  congr 1
  funext q
  by_cases hq : q = i.toNatClampNeg
  · rw [hq]
    simp [updV, upd]
  · simp [updV, upd, hq]
theorem xr_iast (d : decode cc pc = .ok (.iastore, 1)) : xWr cc own pc (pc + 1) .int := by
  intro p l e R s m args below meth c H locs cells slots Q ls rest C D tys ws q0 a A H0 t0 cA n f i x hK hP hD hS he ht hi kk
  refine W.iast C.1 C.2.1 (hP q0 _ he) ((hK.2 t0 _ ht).1 n (fun j => .int (f j))) (fun q => by cases q) (by show ¬ (i < 0 ∨ (arrV _ _ _).slots.size ≤ _); rw [arrV_size]; exact hi) rfl rfl d fun H1 e1 z oq => ?_
  refine kk H1 _ (hP.set hD he ?_ oq) (hD.set he) (hS.put z oq (hD.2 q0 _ he)) z
  show H1[a]? = some (vp_cell _ _)
  rw [e1]
  exact congrArg some (xw_arr rfl)
theorem xr_bast (d : decode cc pc = .ok (.bastore, 1)) : xWr cc own pc (pc + 1) .byte := by
  intro p l e R s m args below meth c H locs cells slots Q ls rest C D tys ws q0 a A H0 t0 cA n f i x hK hP hD hS he ht hi kk
  refine W.bast C.1 C.2.1 (hP q0 _ he) ((hK.2 t0 _ ht).1 n (fun j => .int (f j))) (fun q => by cases q) (by show ¬ (i < 0 ∨ (arrV _ _ _).slots.size ≤ _); rw [arrV_size]; exact hi) rfl rfl d fun H1 e1 z oq => ?_
  refine kk H1 _ (hP.set hD he ?_ oq) (hD.set he) (hS.put z oq (hD.2 q0 _ he)) z
  show H1[a]? = some (vp_cell _ _)
  rw [e1]
  exact congrArg some (xw_arr rfl)
theorem xr_zast (d : decode cc pc = .ok (.bastore, 1)) : xWr cc own pc (pc + 1) .boolean := by
  intro p l e R s m args below meth c H locs cells slots Q ls rest C D tys ws q0 a A H0 t0 cA n f i x hK hP hD hS he ht hi kk
  refine W.zast C.1 C.2.1 (hP q0 _ he) ((hK.2 t0 _ ht).1 n (fun j => .int (f j))) (fun q => by cases q) (by show ¬ (i < 0 ∨ (arrV _ _ _).slots.size ≤ _); rw [arrV_size]; exact hi) rfl rfl d fun H1 e1 z oq => ?_
  refine kk H1 _ (hP.set hD he ?_ oq) (hD.set he) (hS.put z oq (hD.2 q0 _ he)) z
  show H1[a]? = some (vp_cell _ _)
  rw [e1]
  exact congrArg some (xw_arr rfl)
theorem xr_aald (d : decode cc pc = .ok (.aaload, 1)) : xRr cc own pc (pc + 1) := by
  intro p l e R s m args below meth c H locs cells slots Q ls rest C D tys ws q0 a t0 cA n f i hK hP he ht hi kk
  have hc : H[a]? = some (vp_cell cA (n, .inr (.inr (.inr (.inr f))))) := hP q0 _ he
  exact W.aald C.1 C.2.1 hc ((hK.2 t0 _ ht).1 n (fun j => va_rf (f j))) rfl (by rw [vp_cell_q]; exact fun h => by cases h) (by rw [vp_cell_q, arrV_size]; exact hi) (by
    rw [vp_cell_q]
    exact arrV_read _ _ (by
      have h2 : ¬ n ≤ i.toNatClampNeg := fun z => hi (Or.inr z)
      omega)) rfl rfl d kk
theorem xr_slen (d : decode cc pc = .ok (.arraylength, 1)) : xXl cc own pc (pc + 1) := fun p l e R s m args below meth c H locs cells slots Q ls rest C q L xs A hX hq hA hS k => va_slen C.1 C.2.1 hX hq hA hS d k
theorem xr_sld (d : decode cc pc = .ok (.iaload, 1)) : xXd cc own pc (pc + 1) := fun p l e R s m args below meth c H locs cells slots Q ls rest C q L xs A hX hq hA hS n hn h1 h2 k => va_sld C.1 C.2.1 hX hq hA hS (vp_in_nI hn h2) d (by rw [nI_clamp h1]; exact k)
theorem xr_ldcs0 (d : decode cc pc = .ok (.ldc 41, 2)) : xLs cc RX9 pc (pc + 2) 0 := fun p l e R s m args below meth c H locs cells slots Q ls rest C b sa hF k => va_ldcS C.1 C.2.1 C.2.2.1 hF.2.2.2.1 d k
theorem xr_ldcs1 (d : decode cc pc = .ok (.ldc 47, 2)) : xLs cc RX9 pc (pc + 2) 1 := fun p l e R s m args below meth c H locs cells slots Q ls rest C b sa hF k => va_ldcS C.1 C.2.1 C.2.2.1 hF.2.2.2.2.1 d k
theorem xr_ldcs2 (d : decode cc pc = .ok (.ldc 206, 2)) : xLs cc RX12 pc (pc + 2) 2 := fun p l e R s m args below meth c H locs cells slots Q ls rest C b sa hF k => va_ldcS C.1 C.2.1 C.2.2.1 hF.2.2.2.2.2.2.2.2.2.2.2.1 d k
theorem xr_compact {ix : Nat} (d : decode cc pc = .ok (.getstatic ix, 3)) (h : Cond.fieldLink own ix "java/lang/String" "COMPACT_STRINGS" "Z" ∈ xgt) : xGs cc own pc (pc + 3) (fun _ => .int (nI 1)) := fun p l e R s m args below meth c H locs cells slots Q ls rest C b sa A hF hS hA k => va_gets C.1 C.2.1 (hF.2.2.2.2.2.1.narrow hA) hS C.2.2.1 (C.2.2.2 _ h) (fun _ q => q) d k
theorem xr_sioobe {ix : Nat} (d : decode cc pc = .ok (.getstatic ix, 3)) (h : Cond.fieldLink own ix "jdk/internal/util/Preconditions" "SIOOBE_FORMATTER" "Ljava/util/function/BiFunction;" ∈ xgt) : xGs cc own pc (pc + 3) (fun sa => if sa 98 = 0 then .null else .ref (sa 99)) := fun p l e R s m args below meth c H locs cells slots Q ls rest C b sa A hF hS hA k => va_gets C.1 C.2.1 (hF.2.2.2.2.2.2.1.narrow hA) hS C.2.2.1 (C.2.2.2 _ h) (fun _ q => q) d k
theorem xr_strf_coder {ix : Nat} (d : decode cc pc = .ok (.getfield ix, 3)) (h : Cond.fieldLink own ix "java/lang/String" "coder" "B" ∈ xgt) : xSf cc own pc (pc + 3) (fun _ _ => .int (nI 0)) := fun p l e R s m args below meth c H locs cells slots Q ls rest C b sa A hF hS hA k hk kk => vk_getf C.1 C.2.1 ((hF.2.2.1 k hk).2.1.narrow hA) hS C.2.2.1 (C.2.2.2 _ h) (fun _ q => q) d kk
theorem xr_strf_value {ix : Nat} (d : decode cc pc = .ok (.getfield ix, 3)) (h : Cond.fieldLink own ix "java/lang/String" "value" "[B" ∈ xgt) : xSf cc own pc (pc + 3) (fun sa k => .ref (sa (k + 1000))) := fun p l e R s m args below meth c H locs cells slots Q ls rest C b sa A hF hS hA k hk kk => vk_getf C.1 C.2.1 ((hF.2.2.1 k hk).2.2.1.narrow hA) hS C.2.2.1 (C.2.2.2 _ h) (fun _ q => q) d kk
theorem xr_strl (d : decode cc pc = .ok (.arraylength, 1)) : xSl cc own pc (pc + 1) := fun p l e R s m args below meth c H locs cells slots Q ls rest C b sa A hF hS hA k hk kk => va_tlen C.1 C.2.1 ((hF.2.2.1 k hk).2.2.2.narrow hA) hS rfl d kk
theorem xr_strb (d : decode cc pc = .ok (.baload, 1)) : xSb cc own pc (pc + 1) := fun p l e R s m args below meth c H locs cells slots Q ls rest C b sa A hF hS hA k j hk hj hj2 kk => va_tb C.1 C.2.1 ((hF.2.2.1 k hk).2.2.2.narrow hA) hS (vp_in_nI hj (by have : xlen.getD k 0 < 200 := (by rcases (show k = 0 ∨ k = 1 ∨ k = 2 by omega) with rfl | rfl | rfl <;> decide); omega)) (by rw [nI_clamp hj2]) d kk
theorem xr_i2c  (d : decode cc pc = .ok (.i2c, 1)) (x : Int32) : xT cc own pc (pc + 1) [.int x] [.int (x.toUInt32 % 65536).toInt32] := fun p l e R s m args below meth c H locs cells slots Q ls rest C k => lv_i2c C.1 C.2.1 d rfl k
theorem xr_mna {ix : Nat} (d : decode cc pc = .ok (.multianewarray ix 2, 4)) (h1 : Cond.classLink own ix "[[I" ∈ xgt) (h2 : Cond.arrayClass .int ∈ xgt) : xMa cc own pc (pc + 4) := by
  intro p l e R s m args below meth c H locs cells slots Q ls rest C b sa D tys ws A H0 n k N' K' cA cI hF hP hS fA fI hn hk hN hM b1 b2 hce hsl kk
  subst hN
  subst hM
  intro T hT X
  obtain ⟨vm₁, cB, comp, -, fB, fC, -, -, X', step⟩ := X.multianewarray2F C.1 C.2.2.1 (show (Cond.classLink own ix ("[" ++ (FieldType.array FieldType.int).toString)).before args s = true from C.2.2.2 _ h1) (show (Cond.arrayOver (.array FieldType.int)).before args s = true from hF.2.1) (C.2.2.2 _ h2) (g := F0 m pc ls (.int k :: .int n :: rest)) rfl (by rw [C.2.1]; exact d) rfl hn hk (by omega) (by show _ * 4 ≤ _; omega) (by omega) rfl rfl hce hsl
  cases fA.symm.trans fB
  cases fI.symm.trans fC
  generalize hG : Jvm.Free.Multi.fill (T.setVm vm₁) cA cI n.toNatClampNeg k.toNatClampNeg (defaultValue .int) n.toNatClampNeg = G at X' step
  have hTh : (T.setVm vm₁).heap = H := hT
  obtain ⟨f1, f2, -, -⟩ := Jvm.Free.Multi.fill_facts (T.setVm vm₁) cA cI n.toNatClampNeg k.toNatClampNeg (defaultValue .int) n.toNatClampNeg
  rw [hG, hTh] at f1 f2
  have hold : ∀ x : Nat, x < H.size → G.heap[x]? = H[x]? := fun x hx => by
    have := Jvm.Free.Multi.fill_old (T.setVm vm₁) cA cI n.toNatClampNeg k.toNatClampNeg (defaultValue .int) (a := x) (by rw [hTh]; exact hx) n.toNatClampNeg
    rwa [hG, hTh] at this
  have hrow : ∀ j : Nat, j < n.toNatClampNeg → G.heap[H.size + 1 + j]? = some (vp_cell cI (k.toNatClampNeg, .inl (fun _ => 0))) := fun j hj => by
    have := Jvm.Free.Multi.fill_inner (T.setVm vm₁) cA cI n.toNatClampNeg k.toNatClampNeg (defaultValue .int) n.toNatClampNeg j hj
    rw [hG, hTh] at this
    rw [this, vp_cell_i]
    exact congrArg some (arrV_new cI k.toNatClampNeg (.int 0))
  have hout : G.heap[H.size]? = some (vp_cell cA (n.toNatClampNeg, .inr (.inr (.inr (.inr (fun i => if i < n.toNatClampNeg then some (H.size + 1 + i) else none)))))) := by
    rw [f2, vp_cell_q]
    exact congrArg some (xouter cA n.toNatClampNeg H.size n.toNatClampNeg)
  obtain ⟨t, a1, b1'⟩ := kk G.heap ((hP.kept (fun k9 x hx => hold x.1 ((hP k9 x hx).lt))).app (fun k9 x hx => by
      match k9, hx with
      | 0, hx =>
        cases hx
        exact hout
      | k9 + 1, hx =>
        rw [List.getElem?_cons_succ] at hx
        obtain ⟨i, hi, rfl⟩ := List.mem_map.mp (List.mem_of_getElem? hx)
        exact hrow i (List.mem_range.mp hi))) ⟨by rw [f1]; have := hS.1; omega, fun x h1 h2 => (hold x (Nat.lt_of_lt_of_le h1 hS.1)).trans (hS.2.1 x h1 h2), hS.2.2⟩ (by rw [f1]) G rfl X'
  refine ⟨t, step t ?_, b1'⟩
  rw [show T.heap.size = H.size by rw [hT]]
  exact a1
theorem xr_new {ci ix N : Nat} {K : String} {T : u_T} {ty0 : Nat → FieldType} (d : decode cc pc = .ok (.new ix, 3)) (hc : vwCl[ci]? = some (K, T, N)) (hin : ∀ w ∈ u_ws K T N, w ∈ xgt) (hty : ∀ k, k < N → parseFieldDescriptor (T k).2.2.1 = some (ty0 k)) (h1 : Cond.classLink own ix K ∈ xgt) (h2 : Cond.instantiable K N ∈ xgt) (h3 : Cond.initialized K ∈ xgt) (fs : List Value) (hfs : ∀ j, j < N → defaultValue (ty0 j) = vp_V fs j) : xNw cc own pc (pc + 3) ci N fs := by
  intro p l e R s m args below meth c H locs cells slots Q ls rest C D tys ws A H0 hK hP hS hce hsl kk
  have hKn := hK.1 ci _ hc
  refine W.newcK C.1 C.2.1 C.2.2.1 (C.2.2.2 _ h1) (C.2.2.2 _ h2) (C.2.2.2 _ h3) rfl d hce hsl hKn.2.1 rfl fun H1 kC hkC e1 z1 o1 => ?_
  have hk : ∀ (k : Nat) (x : Nat × va_E), ws[k]? = some x → H1[x.1]? = H[x.1]? := fun k x hx => o1 x.1 ((hP k x hx).lt)
  refine kk H1 ((hP.kept hk).app (fun k x hx => ?_)) ⟨Nat.le_trans hS.1 (by omega), fun x h1 h2 => (o1 x (Nat.lt_of_lt_of_le h1 hS.1)).trans (hS.2.1 x h1 h2), hS.2.2⟩ z1
  have hz : k < 1 := (List.getElem?_eq_some_iff.mp hx).1
  rw [show k = 0 by omega] at hx
  cases hx
  exact ⟨_, hc, (u_born ty0 C.2.2.2 hin hKn hkC e1 hty).to hfs⟩
theorem xr_newa {atype : ArrayType} {ty : FieldType} (d : decode cc pc = .ok (.newarray atype, 2)) (hty : newarray.typeOf atype = ty) (h1 : Cond.arrayClass ty ∈ xgt) : xNa cc own pc (pc + 2) ty := by
  intro p l e R s m args below meth c H locs cells slots Q ls rest C D tys ws A H0 n N' a0 cA hK hP hS hcA ha hn hN hby hce hsl kk
  subst hty
  refine va_newaK C.1 C.2.1 (C.2.2.2 _ h1) rfl d rfl hn hN hby hce hsl rfl fun H1 cB e1 z1 o1 hAr hNm => ?_
  cases hcA.symm.trans hNm
  have hk : ∀ (k : Nat) (x : Nat × va_E), ws[k]? = some x → H1[x.1]? = H[x.1]? := fun k x hx => o1 x.1 ((hP k x hx).lt)
  refine kk H1 ((hP.kept hk).app (fun k x hx => ?_)) ⟨Nat.le_trans hS.1 (by omega), fun x h1 h2 => (o1 x (Nat.lt_of_lt_of_le h1 hS.1)).trans (hS.2.1 x h1 h2), hS.2.2⟩ z1
  have hz : k < 1 := (List.getElem?_eq_some_iff.mp hx).1
  rw [show k = 0 by omega] at hx
  cases hx
  show H1[H.size]? = some (vp_cell _ _)
  rw [ha]
  exact e1
theorem xr_oinit {ix : Nat} (d : decode cc pc = .ok (.invokespecial ix, 3)) (h1 : Cond.methodLink own ix Lib.objectInit ∈ xgt) (h2 : Cond.instanceMethod Lib.objectInit ∈ xgt) (h3 : Cond.code Lib.objectInit ⟨#[0xb1]⟩ 1 none ∈ xgt) : xOi cc own pc (pc + 3) := by
  intro p l e R s m args below meth c H locs cells slots Q ls rest C a hml hfr hlo kk
  exact W.objInit C.1 C.2.1 C.2.2.1 (C.2.2.2 _ h1) (C.2.2.2 _ h2) (C.2.2.2 _ h3) rfl hml.symm rfl d hfr (by show 2 * 0 + _ + 12 ≤ _; omega) kk
theorem xr_copy {ix : Nat} (d : decode cc pc = .ok (.invokestatic ix, 3)) (h1 : Cond.methodLink own ix arraycopyName ∈ xgt) (h2 : Cond.native arraycopyName ∈ xgt) (h3 : Cond.static arraycopyName ∈ xgt) (h4 : Cond.initialized "java/lang/System" ∈ xgt) : xCp cc own pc (pc + 3) := by
  intro p l e R s m args below meth c H locs cells slots Q ls rest C D tys ws A H0 q0 q1 a0 a t0 cA n0 n1 f g sp dp n hml hK hP hD hS e0 e1 ht b1 b2 b3 b4 b5 hfr hlo kk
  have nn : ∀ z : Int32, ¬ z < 0 → z.toInt = (z.toNatClampNeg : Int) := by
    intro z hz
    have hz0 : (0 : Int) ≤ z.toInt := by simpa using Int32.le_iff_toInt_le.mp (Int32.not_lt.mp hz)
    show z.toInt = ((z.toInt.toNat : Nat) : Int)
    omega
  intro T hT X
  have c0 : H[a0]? = some (vp_cell cA (n0, .inl f)) := hP q0 _ e0
  have c1 : H[a]? = some (vp_cell cA (n1, .inl g)) := hP q1 _ e1
  have hl : a < H.size := (Array.getElem?_eq_some_iff.mp c1).1
  obtain ⟨-, k0, hk0, cm0, hkk0⟩ := (hK.2 t0 _ ht).1 n0 (fun j => .int (f j))
  obtain ⟨-, k1, hk1, cm1, hkk1⟩ := (hK.2 t0 _ ht).1 n1 (fun j => .int (g j))
  obtain ⟨vm', X', step⟩ := X.arraycopy C.1 C.2.2.1 (C.2.2.2 _ h1) (C.2.2.2 _ h2) (C.2.2.2 _ h3) (C.2.2.2 _ h4) (src := a0) (dst := a) (cs := vp_cell cA (n0, .inl f)) (cd := vp_cell cA (n1, .inl g)) (srcPos := sp) (destPos := dp) (n := n) (by rw [hT]; exact c0) (by rw [hT]; exact c1)
    (fun _ h => by cases h) (fun _ h => by cases h) (fun h => by cases h) (fun h => by cases h) hk0 hk1 hkk0 hkk1 (by simp [refKind]) b1 b2 b3
    (by rw [nn sp b1, nn n b3]; show ¬ _ > ((arrV cA n0 (fun j => .int (f j))).slots.size : Int); rw [arrV_size]; omega)
    (by rw [nn dp b2, nn n b3]; show ¬ _ > ((arrV cA n1 (fun j => .int (g j))).slots.size : Int); rw [arrV_size]; omega)
    (fun vm₁ _ i hi => by
      have e2 : (vp_cell cA (n0, .inl f)).slots.getD (sp.toNatClampNeg + i) .null = .int (f (sp.toNatClampNeg + i)) := by
        show (arrV cA n0 (fun j => .int (f j))).slots.getD _ _ = _
        rw [Array.getD_eq_getD_getElem?, arrV_read _ _ (by omega)]
        rfl
      rw [e2]
      exact ⟨rfl, trivial⟩)
    (g := F0 m pc ls (.int n :: .int dp :: .ref a :: .int sp :: .ref a0 :: rest)) rfl (by rw [hml]) (rest := rest) rfl (by rw [C.2.1]; exact d) hfr (by show 2 * 0 + _ + _ ≤ _; omega)
  have ecp : copied (vp_cell cA (n0, .inl f)) (vp_cell cA (n1, .inl g)) sp dp n = vp_cell cA (n1, .inl (va_cpy f g sp.toNatClampNeg dp.toNatClampNeg n.toNatClampNeg)) := va_copied (fun z => .int z) cA cA f g b4
  rw [ecp] at X' step
  have oq : ∀ q : Nat, q ≠ a → (H.setIfInBounds a (vp_cell cA (n1, .inl (va_cpy f g sp.toNatClampNeg dp.toNatClampNeg n.toNatClampNeg))))[q]? = H[q]? := fun q hq => by simp [Array.getElem?_setIfInBounds, Ne.symm hq]
  obtain ⟨t, s1, s2⟩ := kk (H.setIfInBounds a (vp_cell cA (n1, .inl (va_cpy f g sp.toNatClampNeg dp.toNatClampNeg n.toNatClampNeg)))) _ (hP.set hD e1 (show (H.setIfInBounds a _)[a]? = some _ by simp [Array.getElem?_setIfInBounds, hl]) oq) ⟨by simp; exact hS.1, fun q g1 g2 => by
      rw [oq q (fun z => g2 (by rw [z]; exact hD.2 q1 _ e1))]
      exact hS.2.1 q g1 g2, fun q hq => by
      rcases List.mem_append.mp hq with h | h
      · exact hS.2.2 q h
      · obtain ⟨z, -, hz⟩ := List.mem_map.mp h
        rw [← hz]
        exact hD.2 q1 _ e1⟩ (by simp) _ (by rw [← hT]; rfl) X'
  exact ⟨t, step t s1, s2⟩
theorem xr_ladd  (d : decode cc pc = .ok (.ladd, 1)) (x y : Int64) : xT cc own pc (pc + 1) [.long y, .long x] [.long (gbin 0 x y)] := fun p l e R s m args below meth c H locs cells slots Q ls rest C k => lv_ladd C.1 C.2.1 d k
theorem xr_lsub  (d : decode cc pc = .ok (.lsub, 1)) (x y : Int64) : xT cc own pc (pc + 1) [.long y, .long x] [.long (gbin 1 x y)] := fun p l e R s m args below meth c H locs cells slots Q ls rest C k => lv_lsub C.1 C.2.1 d k
theorem xr_lmul  (d : decode cc pc = .ok (.lmul, 1)) (x y : Int64) : xT cc own pc (pc + 1) [.long y, .long x] [.long (gbin 2 x y)] := fun p l e R s m args below meth c H locs cells slots Q ls rest C k => lv_lmul C.1 C.2.1 d k
theorem xr_gland  (d : decode cc pc = .ok (.land, 1)) (x y : Int64) : xT cc own pc (pc + 1) [.long y, .long x] [.long (gbin 3 x y)] := fun p l e R s m args below meth c H locs cells slots Q ls rest C k => lv_land C.1 C.2.1 d k
theorem xr_glor  (d : decode cc pc = .ok (.lor, 1)) (x y : Int64) : xT cc own pc (pc + 1) [.long y, .long x] [.long (gbin 4 x y)] := fun p l e R s m args below meth c H locs cells slots Q ls rest C k => lv_lor C.1 C.2.1 d k
theorem xr_glxor  (d : decode cc pc = .ok (.lxor, 1)) (x y : Int64) : xT cc own pc (pc + 1) [.long y, .long x] [.long (gbin 5 x y)] := fun p l e R s m args below meth c H locs cells slots Q ls rest C k => lv_lxor C.1 C.2.1 d k
theorem xr_ldiv  (d : decode cc pc = .ok (.ldiv, 1)) (x y : Int64) (h : ¬ y = 0) : xT cc own pc (pc + 1) [.long y, .long x] [.long (gbin 9 x y)] := fun p l e R s m args below meth c H locs cells slots Q ls rest C k => lv_ldiv C.1 C.2.1 d h k
theorem xr_lrem  (d : decode cc pc = .ok (.lrem, 1)) (x y : Int64) (h : ¬ y = 0) : xT cc own pc (pc + 1) [.long y, .long x] [.long (gbin 10 x y)] := fun p l e R s m args below meth c H locs cells slots Q ls rest C k => lv_lrem C.1 C.2.1 d h k
theorem xr_lneg  (d : decode cc pc = .ok (.lneg, 1)) (x : Int64) : xT cc own pc (pc + 1) [.long x] [.long (-x)] := fun p l e R s m args below meth c H locs cells slots Q ls rest C k => lv_lneg C.1 C.2.1 d k
theorem xr_i2l  (d : decode cc pc = .ok (.i2l, 1)) (x : Int32) : xT cc own pc (pc + 1) [.int x] [.long x.toInt64] := fun p l e R s m args below meth c H locs cells slots Q ls rest C k => lv_i2l C.1 C.2.1 d rfl k
theorem xr_l2i  (d : decode cc pc = .ok (.l2i, 1)) (x : Int64) : xT cc own pc (pc + 1) [.long x] [.int x.toInt32] := fun p l e R s m args below meth c H locs cells slots Q ls rest C k => lv_l2i C.1 C.2.1 d rfl k
theorem xr_lshl  (d : decode cc pc = .ok (.lshl, 1)) (x : Int64) (y : Int32) : xT cc own pc (pc + 1) [.int y, .long x] [.long (x <<< (y.toInt64 &&& 63))] := fun p l e R s m args below meth c H locs cells slots Q ls rest C k => lv_lshl C.1 C.2.1 d rfl k
theorem xr_lushr  (d : decode cc pc = .ok (.lushr, 1)) (x : Int64) (y : Int32) : xT cc own pc (pc + 1) [.int y, .long x] [.long (x.toUInt64 >>> (y.toInt64.toUInt64 &&& Int64.toUInt64 63)).toInt64] := fun p l e R s m args below meth c H locs cells slots Q ls rest C k => lv_lushr C.1 C.2.1 d rfl k
theorem xr_pop2  (d : decode cc pc = .ok (.pop2, 1)) (v : Value) (h : v.category = 2) : xT cc own pc (pc + 1) [v] [] := fun p l e R s m args below meth c H locs cells slots Q ls rest C k => lv_pop2_2 C.1 C.2.1 d h k
theorem xr_lald (d : decode cc pc = .ok (.laload, 1)) : xRl cc own pc (pc + 1) := fun p l e R s m args below meth c H locs cells slots Q ls rest C D tys ws q0 a t0 cA n f i hK hP ha ht hin k => va_lald C.1 C.2.1 hK hP q0 t0 ha ht hin d k
theorem xr_last (d : decode cc pc = .ok (.lastore, 1)) : xWl cc own pc (pc + 1) := fun p l e R s m args below meth c H locs cells slots Q ls rest C D tys ws q0 a A H0 t0 cA n f i x hK hP hD hS ha ht hin k => va_last C.1 C.2.1 hK hP hD hS q0 t0 ha ht hin d k
theorem xr_mmin {ix : Nat} (d : decode cc pc = .ok (.invokestatic ix, 3)) (h1 : Cond.methodLink own ix Lib.Math.min.name ∈ xgt) (h2 : Cond.static Lib.Math.min.name ∈ xgt) (h3 : Cond.initialized "java/lang/Math" ∈ xgt) (h4 : Cond.code Lib.Math.min.name Lib.Math.min.code 2 (some .int) ∈ xgt) (x y : Int32) : xMth cc own pc (pc + 3) [.int y, .int x] [.int (if y < x then y else x)] := fun p l e R s m args below meth c H locs cells slots Q ls rest C hml hf hlo hc hs kk => va_mmin (rest := rest) C.1 C.2.1 hml C.2.2.1 (C.2.2.2 _ h1) (C.2.2.2 _ h2) (C.2.2.2 _ h3) (C.2.2.2 _ h4) hf (by omega) hc hs d kk
theorem xr_mmax {ix : Nat} (d : decode cc pc = .ok (.invokestatic ix, 3)) (h1 : Cond.methodLink own ix Lib.Math.max.name ∈ xgt) (h2 : Cond.static Lib.Math.max.name ∈ xgt) (h3 : Cond.initialized "java/lang/Math" ∈ xgt) (h4 : Cond.code Lib.Math.max.name Lib.Math.max.code 2 (some .int) ∈ xgt) (x y : Int32) : xMth cc own pc (pc + 3) [.int y, .int x] [.int (if x < y then y else x)] := fun p l e R s m args below meth c H locs cells slots Q ls rest C hml hf hlo hc hs kk => va_mmax (rest := rest) C.1 C.2.1 hml C.2.2.1 (C.2.2.2 _ h1) (C.2.2.2 _ h2) (C.2.2.2 _ h3) (C.2.2.2 _ h4) hf (by omega) hc hs d kk
theorem xr_lmin {ix : Nat} (d : decode cc pc = .ok (.invokestatic ix, 3)) (h1 : Cond.methodLink own ix Lib.MathLoose.min_long.x ∈ xgt) (h2 : Cond.static Lib.MathLoose.min_long.x ∈ xgt) (h3 : Cond.initialized "java/lang/Math" ∈ xgt) (h4 : Cond.code Lib.MathLoose.min_long.x Lib.MathLoose.min_long.code 4 (some .long) ∈ xgt) (x y : Int64) : xMth cc own pc (pc + 3) [.long y, .long x] [.long (if y < x then y else x)] := fun p l e R s m args below meth c H locs cells slots Q ls rest C hml hf hlo hc hs kk => va_mmin_long (rest := rest) C.1 C.2.1 hml C.2.2.1 (C.2.2.2 _ h1) (C.2.2.2 _ h2) (C.2.2.2 _ h3) (C.2.2.2 _ h4) hf (by omega) hc hs d kk
theorem xr_lmax {ix : Nat} (d : decode cc pc = .ok (.invokestatic ix, 3)) (h1 : Cond.methodLink own ix Lib.MathLoose.max_long.x ∈ xgt) (h2 : Cond.static Lib.MathLoose.max_long.x ∈ xgt) (h3 : Cond.initialized "java/lang/Math" ∈ xgt) (h4 : Cond.code Lib.MathLoose.max_long.x Lib.MathLoose.max_long.code 4 (some .long) ∈ xgt) (x y : Int64) : xMth cc own pc (pc + 3) [.long y, .long x] [.long (if y < x then x else y)] := fun p l e R s m args below meth c H locs cells slots Q ls rest C hml hf hlo hc hs kk => va_mmax_long (rest := rest) C.1 C.2.1 hml C.2.2.1 (C.2.2.2 _ h1) (C.2.2.2 _ h2) (C.2.2.2 _ h3) (C.2.2.2 _ h4) hf (by omega) hc hs d kk
theorem xr_labs {ix : Nat} (d : decode cc pc = .ok (.invokestatic ix, 3)) (h1 : Cond.methodLink own ix Lib.MathLoose.abs_long.x ∈ xgt) (h2 : Cond.static Lib.MathLoose.abs_long.x ∈ xgt) (h3 : Cond.initialized "java/lang/Math" ∈ xgt) (h4 : Cond.code Lib.MathLoose.abs_long.x Lib.MathLoose.abs_long.code 2 (some .long) ∈ xgt) (x : Int64) : xMth cc own pc (pc + 3) [.long x] [.long (if 0 < x then x else -x)] := fun p l e R s m args below meth c H locs cells slots Q ls rest C hml hf hlo hc hs kk => va_mabs_long (rest := rest) C.1 C.2.1 hml C.2.2.1 (C.2.2.2 _ h1) (C.2.2.2 _ h2) (C.2.2.2 _ h3) (C.2.2.2 _ h4) hf (by omega) hc hs d kk
end XR
end
section
/-! THE RUN of a method over abstract things -/
abbrev xMy (M : xM) : MethodName := M.1
abbrev xMc (M : xM) : ByteArray := M.2.1
abbrev xMl (M : xM) : Nat := M.2.2.1
abbrev xMr (M : xM) : Option FieldType := M.2.2.2.1
abbrev xMn (M : xM) : Nat := M.2.2.2.2.1
abbrev xMo (M : xM) : String := M.2.2.2.2.2.1
abbrev xMm (M : xM) : Room := M.2.2.2.2.2.2.1
abbrev xMk (M : xM) : List (Nat × xOp) := M.2.2.2.2.2.2.2
def xfind : List (Nat × xOp) → Nat → Option xOp
  | [], _ => none
  | q :: r, pc => if Nat.beq q.1 pc then some q.2 else xfind r pc
theorem xfind_mem : ∀ {l : List (Nat × xOp)} {pc : Nat} {o : xOp}, xfind l pc = some o → (pc, o) ∈ l
  | q :: r, pc, o, h => by
    simp only [xfind] at h
    split at h
    · next he =>
      cases h
      rw [Nat.beq_eq] at he
      subst he
      exact List.mem_cons_self
    · exact List.mem_cons_of_mem _ (xfind_mem h)
def xlk : xL → Nat → Option xV
  | [], _ => none
  | q :: r, i => if Nat.beq q.1 i then some q.2 else xlk r i
theorem xlk_mem : ∀ {l : xL} {i : Nat} {v : xV}, xlk l i = some v → (i, v) ∈ l
  | q :: r, i, o, h => by
    simp only [xlk] at h
    split at h
    · next he =>
      cases h
      rw [Nat.beq_eq] at he
      subst he
      exact List.mem_cons_self
    · exact List.mem_cons_of_mem _ (xlk_mem h)
def xkdb (k : Nat) (v : xV) : Bool := match k with
  | 0 => Nat.beq v.1 0 || Nat.beq v.1 3
  | 1 => Nat.beq v.1 1 || (Nat.beq v.1 2 || (Nat.beq v.1 5 || (Nat.beq v.1 6 || Nat.beq v.1 7)))
  | _ => Nat.beq v.1 4
def xcat (v : xV) : Nat := match v with
  | (0, _) => 1
  | (1, _) => 1
  | (2, _) => 1
  | (3, _) => 1
  | (5, _) => 1
  | (6, _) => 1
  | (7, _) => 1
  | _ => 2
theorem xcat_ok {b : Nat} {ρ : Nat → Int32} {sa : Nat → Nat} (v : xV) : (xdv b ρ sa v).category = xcat v := by
  match v with
  | (0, _) | (1, _) | (2, _) | (3, _) | (4, _) | (5, _) | (6, _) => rfl
  | (7, _) =>
    simp only [xdv, xcat]
    split <;> rfl
  | (n + 8, _) => rfl
theorem xk0 {v : xV} (h : xkdb 0 v = true) {b : Nat} {ρ : Nat → Int32} {sa : Nat → Nat} : xdv b ρ sa v = .int (xdi ρ v) := by
  match v, h with
  | (0, _), _ => rfl
  | (3, _), _ => rfl
  | (1, _), h | (2, _), h => cases h
  | (n + 4, _), h => cases h
theorem xk1 {v : xV} (h : xkdb 1 v = true) {b : Nat} {ρ : Nat → Int32} {sa : Nat → Nat} : xkd 1 (xdv b ρ sa v) := by
  match v, h with
  | (1, _), _ => exact Or.inr ⟨_, rfl⟩
  | (2, _), _ => exact Or.inl rfl
  | (5, _), _ => exact Or.inr ⟨_, rfl⟩
  | (6, _), _ => exact Or.inr ⟨_, rfl⟩
  | (7, _), _ =>
    simp only [xdv]
    split
    · exact Or.inl rfl
    · exact Or.inr ⟨_, rfl⟩
  | (0, _), h | (3, _), h | (4, _), h => cases h
  | (n + 8, _), h => cases h
theorem xk2 {v : xV} (h : xkdb 2 v = true) {b : Nat} {ρ : Nat → Int32} {sa : Nat → Nat} : xdv b ρ sa v = .long (lN v.2) := by
  match v, h with
  | (4, _), _ => rfl
  | (0, _), h | (1, _), h | (2, _), h | (3, _), h => cases h
  | (n + 5, _), h => cases h
theorem xkk {k : Nat} (hk : k < 3) {v : xV} (h : xkdb k v = true) {b : Nat} {ρ : Nat → Int32} {sa : Nat → Nat} : xkd k (xdv b ρ sa v) := by
  match k, hk, h with
  | 0, _, h => exact ⟨_, xk0 h⟩
  | 1, _, h => exact xk1 h
  | 2, _, h => exact ⟨_, xk2 h⟩
def xflb (k i : Nat) (q : Nat × xV) : Bool := match k with
  | 2 => !(Nat.beq q.1 i) && (!(Nat.beq q.1 (i + 1)) && !(Nat.beq (q.1 + 1) i && Nat.beq (xcat q.2) 2))
  | _ => !(Nat.beq q.1 i) && !(Nat.beq (q.1 + 1) i && Nat.beq (xcat q.2) 2)
theorem xbeq (a b : Nat) : (a == b) = Nat.beq a b := by
  rw [Bool.eq_iff_iff]
  simp
def xdL (b : Nat) (ρ : Nat → Int32) (sa : Nat → Nat) (lv : xL) : List (Nat × Value) := lv.map (fun q => (q.1, xdv b ρ sa q.2))
theorem xflb_ok {b : Nat} {ρ : Nat → Int32} {sa : Nat → Nat} (k i : Nat) (lv : xL) : (xdL b ρ sa lv).filter (xfl k i) = xdL b ρ sa (lv.filter (xflb k i)) := by
  unfold xdL
  rw [List.filter_map]
  congr 1
  apply List.filter_congr
  intro q _
  show xfl k i (q.1, xdv b ρ sa q.2) = xflb k i q
  match k with
  | 0 | 1 => simp only [xfl, xflb, xbeq, xcat_ok]
  | 2 => simp only [xfl, xflb, xbeq, xcat_ok]
  | n + 3 => simp only [xfl, xflb, xbeq, xcat_ok]
def xeqd (d t : Nat × xV × xV) : Bool := Nat.beq d.1 t.1 && (Nat.beq d.2.1.1 t.2.1.1 && (Nat.beq d.2.1.2 t.2.1.2 && (Nat.beq d.2.2.1 t.2.2.1 && Nat.beq d.2.2.2 t.2.2.2)))
def xidx : xD → Nat × xV × xV → Nat → Option Nat
  | [], _, _ => none
  | d :: r, t, k => if xeqd d t then some k else xidx r t (k + 1)
def xfd (ρ : Nat → Int32) (o : Nat) (x y : xV) : Int32 := if o = 11 then (xdi ρ x).toInt8.toInt32 else fbin o (xdi ρ x) (xdi ρ y)
def xdok (ρ : Nat → Int32) (ds : xD) : Prop := ∀ (k o : Nat) (x y : xV), ds[k]? = some (o, x, y) → o < 90 → ρ k = xfd ρ o x y
theorem xidx_ok : ∀ {ds : xD} {t : Nat × xV × xV} {j k : Nat}, xidx ds t j = some k → ∃ i, k = j + i ∧ ds[i]? = some t
  | d :: r, t, j, k, h => by
    simp only [xidx] at h
    split at h
    · next he =>
      cases h
      simp only [xeqd, Bool.and_eq_true, Nat.beq_eq] at he
      refine ⟨0, rfl, ?_⟩
      obtain ⟨a, ⟨b1, b2⟩, c1, c2⟩ := d
      obtain ⟨a', ⟨b1', b2'⟩, c1', c2'⟩ := t
      simp only at he
      obtain ⟨rfl, rfl, rfl, rfl, rfl⟩ := he
      rfl
    · obtain ⟨i, h1, h2⟩ := xidx_ok h
      exact ⟨i + 1, by omega, by simpa using h2⟩
def xall {α : Type} : List α → (α → Option (List xR)) → Option (List xR)
  | [], _ => some []
  | a :: r, f => xadd (f a) (xall r f)
theorem xall_ok {α : Type} {f : α → Option (List xR)} : ∀ {l : List α} {L : List xR}, xall l f = some L → ∀ a ∈ l, ∃ x, f a = some x ∧ ∀ q ∈ x, q ∈ L
  | a0 :: r, L, h, a, ha => by
    simp only [xall] at h
    cases h1 : f a0 with
    | none => rw [h1] at h; cases h
    | some x1 =>
      cases h2 : xall r f with
      | none => rw [h1, h2] at h; cases h
      | some x2 =>
        rw [h1, h2] at h
        cases h
        rcases List.mem_cons.mp ha with rfl | ha
        · exact ⟨x1, h1, fun q hq => List.mem_append_left _ hq⟩
        · obtain ⟨x, hx, hq⟩ := xall_ok h2 a ha
          exact ⟨x, hx, fun q h => List.mem_append_right _ (hq q h)⟩
abbrev xRec : Type := Nat → xL → List xV → xH → Nat → Nat → xK → Option (List xR)
abbrev xCal : Type := xM → List xV → xH → xK → Option (List xR)
/-- a switch, case by case -/
def xsw (x : xV) (kd : xK → Option (List xR)) (kc : Nat → xK → Option (List xR)) : List (Nat × Nat) → xK → Option (List xR)
  | [], κ => kd κ
  | q :: r, κ => xfork κ 0 x (0, q.1) (kc q.2) (xsw x kd kc r)
theorem xsw_ok {ρ : Nat → Int32} {x : xV} {kd : xK → Option (List xR)} {kc : Nat → xK → Option (List xR)} : ∀ {cs : List (Nat × Nat)} {κ : xK} {Ls : List xR}, xKok ρ κ → xsw x kd kc cs κ = some Ls →
    (∃ q ∈ cs, xdi ρ x = nI q.1 ∧ ∃ κ' L, kc q.2 κ' = some L ∧ xKok ρ κ' ∧ ∀ z ∈ L, z ∈ Ls) ∨ ((∀ q ∈ cs, ¬ xdi ρ x = nI q.1) ∧ ∃ κ' L, kd κ' = some L ∧ xKok ρ κ' ∧ ∀ z ∈ L, z ∈ Ls)
  | [], κ, Ls, hκ, h => Or.inr ⟨fun q hq => (by cases hq), κ, Ls, h, hκ, fun _ z => z⟩
  | q :: r, κ, Ls, hκ, h => by
    simp only [xsw] at h
    obtain ⟨h1, h2⟩ := xfork_ok hκ h
    by_cases hc : xdi ρ x = nI q.1
    · exact Or.inl ⟨q, List.mem_cons_self, hc, h1 hc⟩
    · obtain ⟨κ', L, h3, h4, h5⟩ := h2 hc
      rcases xsw_ok h4 h3 with ⟨q', hq, e, κ2, L2, g1, g2, g3⟩ | ⟨hn, κ2, L2, g1, g2, g3⟩
      · exact Or.inl ⟨q', List.mem_cons_of_mem _ hq, e, κ2, L2, g1, g2, fun z hz => h5 z (g3 z hz)⟩
      · refine Or.inr ⟨fun q' hq => ?_, κ2, L2, g1, g2, fun z hz => h5 z (g3 z hz)⟩
        rcases List.mem_cons.mp hq with rfl | hq
        · exact hc
        · exact hn q' hq
/-- may a field of this type hold it: 0 int, 2 long, 3 boolean, 4 a reference -/
def xfit (t : Nat) (v : xV) : Bool := match t with
  | 0 => xkdb 0 v
  | 2 => xkdb 2 v
  | 3 => Nat.beq v.1 0 && Nat.ble v.2 1
  | 4 => xkdb 1 v
  | _ => false
def xtc (ty : FieldType) : Nat := match ty with
  | .int => 0
  | .long => 2
  | .boolean => 3
  | .object _ => 4
  | .array _ => 4
  | _ => 9
theorem xfit_ok {ty : FieldType} {v : xV} (h : xfit (xtc ty) v = true) {b : Nat} {ρ : Nat → Int32} {sa : Nat → Nat} : narrow ty (xdv b ρ sa v) = xdv b ρ sa v ∧ fits ty (xdv b ρ sa v) = true := by
  cases ty with
  | int => rw [xk0 h]; exact ⟨rfl, rfl⟩
  | long => rw [xk2 h]; exact ⟨rfl, rfl⟩
  | boolean =>
    simp only [xtc, xfit, Bool.and_eq_true, Nat.beq_eq, Nat.ble_eq] at h
    obtain ⟨t, n⟩ := v
    obtain ⟨rfl, h2⟩ := h
    dsimp only at h2
    rcases (show n = 0 ∨ n = 1 by omega) with rfl | rfl
    · show narrow .boolean (.int (nI 0)) = .int (nI 0) ∧ fits .boolean (.int (nI 0)) = true
      decide +kernel
    · show narrow .boolean (.int (nI 1)) = .int (nI 1) ∧ fits .boolean (.int (nI 1)) = true
      decide +kernel
  | object C =>
    rcases xk1 h (b := b) (ρ := ρ) (sa := sa) with e | ⟨a, e⟩ <;> rw [e] <;> exact ⟨rfl, rfl⟩
  | array t =>
    rcases xk1 h (b := b) (ρ := ρ) (sa := sa) with e | ⟨a, e⟩ <;> rw [e] <;> exact ⟨rfl, rfl⟩
  | _ => cases h
/-- may an array of this type take it -/
def xwok (ds : xD) (t : Nat) (v : xV) : Bool := match t with
  | 0 => xkdb 0 v
  | 1 => match v with
    | (3, k) => match ds[k]? with
      | some d => Nat.beq d.1 11
      | none => false
    | _ => false
  | 3 => Nat.beq v.1 0 && Nat.ble v.2 1
  | _ => false
theorem xnarb {n : Nat} (h : n ≤ 1) : vp_nar .boolean (nI n) = nI n := by
  rcases (show n = 0 ∨ n = 1 by omega) with rfl | rfl <;> decide +kernel
theorem xwok_ok {ρ : Nat → Int32} {ds : xD} (hds : xdok ρ ds) {t : Nat} {v : xV} (h : xwok ds t v = true) : (t = 0 ∨ t = 1 ∨ t = 3) ∧ xkdb 0 v = true ∧ vp_nar (xty t) (xdi ρ v) = xdi ρ v := by
  match t, h with
  | 0, h => exact ⟨Or.inl rfl, h, rfl⟩
  | 1, h =>
    match v, h with
    | (3, k), h =>
      simp only [xwok] at h
      cases hk : ds[k]? with
      | none => rw [hk] at h; cases h
      | some q =>
        obtain ⟨o, x, y⟩ := q
        rw [hk] at h
        have ho : o = 11 := Nat.eq_of_beq_eq_true h
        subst ho
        have hd := hds _ _ _ _ hk (by omega)
        rw [xfd, if_pos rfl] at hd
        refine ⟨Or.inr (Or.inl rfl), rfl, ?_⟩
        show vp_nar .byte (ρ k) = ρ k
        rw [hd]
        exact pk_vb _
    | (0, _), h | (1, _), h | (2, _), h => cases h
    | (n + 4, _), h => cases h
  | 3, h =>
    simp only [xwok, Bool.and_eq_true, Nat.beq_eq, Nat.ble_eq] at h
    obtain ⟨v1, v2⟩ := v
    obtain ⟨hv1, hv2⟩ := h
    dsimp only at hv1 hv2
    subst hv1
    exact ⟨Or.inr (Or.inr rfl), rfl, xnarb hv2⟩
  | 2, h => cases h
  | n + 4, h => cases h
def xlb (o x y : Nat) : Option Nat := match o with
  | 3 => some (Nat.land x y)
  | 5 => some (Nat.xor x y)
  | _ => none
def flb (o : Nat) (x y : Int64) : Int64 := match o with
  | 3 => x &&& y
  | 5 => x ^^^ y
  | _ => 0
theorem xlb_ok {o x y z : Nat} (h : xlb o x y = some z) : flb o (lN x) (lN y) = lN z := by
  match o, h with
  | 3, h =>
    cases h
    apply Int64.toBitVec_inj.mp
    show BitVec.ofNat 64 x &&& BitVec.ofNat 64 y = BitVec.ofNat 64 (x &&& y)
    apply BitVec.eq_of_toNat_eq
    simp [Nat.and_mod_two_pow]
  | 5, h =>
    cases h
    apply Int64.toBitVec_inj.mp
    show BitVec.ofNat 64 x ^^^ BitVec.ofNat 64 y = BitVec.ofNat 64 (x ^^^ y)
    apply BitVec.eq_of_toNat_eq
    simp [Nat.xor_mod_two_pow]
def xsum : List xV → Nat
  | [] => 0
  | v :: r => xcat v + xsum r
theorem xsum_ok {b : Nat} {ρ : Nat → Int32} {sa : Nat → Nat} : ∀ st : List xV, ((st.map (xdv b ρ sa)).map fun v => v.category).sum = xsum st
  | [] => rfl
  | v :: r => by
    simp only [List.map_cons, List.sum_cons, xsum, xcat_ok]
    rw [xsum_ok r]
def xargs : Nat → List xV → xL
  | _, [] => []
  | i, v :: r => (i, v) :: xargs (i + xcat v) r
theorem xargs_ok {b : Nat} {ρ : Nat → Int32} {sa : Nat → Nat} : ∀ (vs : List xV) (i : Nat), lv_args i (vs.map (xdv b ρ sa)) = xdL b ρ sa (xargs i vs)
  | [], _ => rfl
  | v :: r, i => by
    simp only [List.map_cons, lv_args, xargs, xdL]
    rw [xcat_ok]
    congr 1
    have e : (if xcat v = 2 then i + 2 else i + 1) = i + xcat v := by
      match v with
      | (0, _) | (1, _) | (2, _) | (3, _) | (4, _) | (5, _) | (6, _) | (7, _) => rfl
      | (n + 8, _) => rfl
    rw [e]
    exact xargs_ok r (i + xcat v)
theorem xlen_ok {b : Nat} {ρ : Nat → Int32} {sa : Nat → Nat} : ∀ vs : List xV, (lg_sl (vs.map (xdv b ρ sa))).length = xsum vs
  | [] => rfl
  | v :: r => by
    have ih := xlen_ok (b := b) (ρ := ρ) (sa := sa) r
    simp only [lg_sl, List.map_cons, List.flatMap_cons, List.length_append, xsum] at ih ⊢
    rw [ih, xcat_ok]
    match v with
    | (0, _) | (1, _) | (2, _) | (3, _) | (4, _) | (5, _) | (6, _) | (7, _) => rfl
    | (n + 8, _) => rfl
/-- a room that holds what a callee asks -/
def xroom (R : Room) (M' : xM) (ce sl : Nat) : Bool := Nat.ble ((xMm M').frames + 1) R.frames && (Nat.ble (8 + (xMl M' + 11) + (xMm M').locals) R.locals && (Nat.ble (ce + (xMm M').cells) R.cells && Nat.ble (sl + (xMm M').slots) R.slots))
def xput (st : List xV) (r : Option xV) : List xV := match r with
  | some v => v :: st
  | none => st
def xh_call (mt : List xM) (M : xM) (rec : xRec) (call : xCal) (n0 nx mi : Nat) (lv : xL) (st : List xV) (K : xH) (ce sl : Nat) (κ : xK) : Option (List xR) := match mt[mi]? with
  | none => none
  | some M' =>
    if Nat.ble (xMn M' + n0) st.length && (xroom (xMm M) M' ce sl && (Nat.ble (xsum (st.drop (xMn M' + n0))) 8 && Nat.ble (xsum (st.take (xMn M' + n0))) (xMl M'))) then
      match call M' (st.take (xMn M' + n0)).reverse K κ with
      | none => none
      | some L => xall L (fun lf => rec nx lv (xput (st.drop (xMn M' + n0)) lf.2.1) lf.2.2 (ce + (xMm M').cells) (sl + (xMm M').slots) lf.1)
    else none
/-- the script's length, where it is told -/
def xSc (ds : xD) : Option Nat := match ds with
  | (98, (0, L), _) :: _ => some L
  | _ => none
def xob (K : xH) (i ci : Nat) : Option (List xV) := match K[i]? with
  | some (.inr (c, fs)) => if Nat.beq c ci then some fs else none
  | _ => none
def xfr (fs : List xV) (k : Nat) : Option Nat := match fs[k]? with
  | some (1, h) => some h
  | _ => none
noncomputable def xnth (l : List xV) : Nat → Option xV := List.rec (motive := fun _ => Nat → Option xV) (fun _ => none) (fun a _ ih n => Nat.rec (motive := fun _ => Option xV) (some a) (fun k _ => ih k) n) l
theorem xnth_ok : ∀ (l : List xV) (n : Nat), xnth l n = l[n]?
  | [], _ => rfl
  | _ :: _, 0 => rfl
  | a :: r, n + 1 => by
    show xnth r n = (a :: r)[n + 1]?
    rw [xnth_ok r n, List.getElem?_cons_succ]
def xeqv (w v : xV) : Bool := Nat.beq w.1 v.1 && Nat.beq w.2 v.2
theorem xeqv_ok {w v : xV} (h : xeqv w v = true) : w = v := by
  simp only [xeqv, Bool.and_eq_true, Nat.beq_eq] at h
  obtain ⟨a, b⟩ := w
  obtain ⟨c, d⟩ := v
  obtain ⟨h1, h2⟩ := h
  dsimp only at h1 h2
  rw [h1, h2]
theorem xset_id {α : Type} {l : List α} {n : Nat} {v : α} (h : l[n]? = some v) : l.set n v = l := by
  apply List.ext_getElem?
  intro j
  by_cases e : n = j
  · subst e
    rw [List.getElem?_set_self (List.getElem?_eq_some_iff.mp h).1, h]
  · rw [List.getElem?_set_ne e]
theorem xset_same {K : xH} {i t n : Nat} {vs : List xV} {v : xV} (hK : K[i]? = some (.inl (t, vs))) (hv : vs[n]? = some v) : K.set i (.inl (t, vs.set n v)) = K := by
  rw [xset_id hv]
  exact xset_id hK
/-- the first n of a list are zeros -/
noncomputable def xzs (n : Nat) : List xV → Bool := Nat.rec (motive := fun _ => List xV → Bool) (fun _ => true) (fun _ ih l => List.rec (motive := fun _ => Bool) false (fun a r _ => xeqv a (0, 0) && ih r) l) n
theorem xzs_ok : ∀ {n : Nat} {l : List xV}, xzs n l = true → ∀ i, i < n → l[i]? = some (0, 0)
  | 0, _, _, i, hi => absurd hi (Nat.not_lt_zero i)
  | n + 1, [], h, _, _ => by
    change false = true at h
    cases h
  | n + 1, a :: r, h, i, hi => by
    change (xeqv a (0, 0) && xzs n r) = true at h
    rw [Bool.and_eq_true] at h
    cases i with
    | zero =>
      rw [xeqv_ok h.1]
      rfl
    | succ i =>
      rw [List.getElem?_cons_succ]
      exact xzs_ok h.2 i (by omega)
noncomputable def xzf (K : xH) (fs : List xV) (k n : Nat) : Bool := match xfr fs k with
  | some a => match K[a]? with
    | some (.inl (0, vs)) => xzs n vs
    | _ => false
  | none => false
theorem xfr_ok {fs : List xV} {k h : Nat} (hh : xfr fs k = some h) : fs[k]? = some (1, h) := by
  simp only [xfr] at hh
  split at hh
  · next q hk =>
    cases hh
    exact hk
  · cases hh
theorem xob_ok {K : xH} {i ci : Nat} {fs : List xV} (h : xob K i ci = some fs) : K[i]? = some (.inr (ci, fs)) := by
  simp only [xob] at h
  split at h
  · next c gs hk =>
    split at h
    · next he =>
      rw [Nat.beq_eq] at he
      cases h
      rw [hk, he]
    · cases h
  · cases h
theorem xzf_ok {K : xH} {fs : List xV} {k n : Nat} (h : xzf K fs k n = true) : ∃ (a : Nat) (vs : List xV), fs[k]? = some (1, a) ∧ K[a]? = some (.inl (0, vs)) ∧ ∀ i, i < n → vs[i]? = some (0, 0) := by
  simp only [xzf] at h
  split at h
  · next a ha =>
    split at h
    · next vs hk => exact ⟨a, vs, xfr_ok ha, hk, xzs_ok h⟩
    · cases h
  · cases h
def xin0 (iv : List (Nat × Nat)) (k : Nat) : Bool := match iv[k]? with
  | some q => Nat.ble 2147483648 q.1 && Nat.blt q.2 2147484648
  | none => false
theorem xin0_ok {ρ : Nat → Int32} {κ : xK} (hκ : xKok ρ κ) {k : Nat} (h : xin0 κ.2 k = true) : ∃ n, n < 1000 ∧ ρ k = nI n := by
  simp only [xin0] at h
  split at h
  · next q hq =>
    obtain ⟨lo, hi⟩ := q
    simp only [Bool.and_eq_true, Nat.ble_eq, Nat.blt_eq] at h
    obtain ⟨h1, h2⟩ := hκ.2 k lo hi hq
    refine ⟨sgI (ρ k) - 2147483648, by omega, ?_⟩
    have e := sgI_eq (x := ρ k) (n := sgI (ρ k)) (sgI_lt _) rfl
    have e2 : xsg (sgI (ρ k)) = sgI (ρ k) - 2147483648 := by
      simp only [xsg]
      omega
    rw [e2] at e
    exact e
  · cases h
def xlv3 (lv : xL) : Option (Nat × Nat) := match lv with
  | [(2, (0, 0)), (0, (1, o)), (1, (3, k))] => some (o, k)
  | _ => none
theorem xlv3_ok {lv : xL} {o k : Nat} (h : xlv3 lv = some (o, k)) : lv = [(2, (0, 0)), (0, (1, o)), (1, (3, k))] := by
  unfold xlv3 at h
  split at h
  · cases h
    rfl
  · cases h
def xnl0 (st : List xV) : Bool := match st with
  | [] => true
  | _ => false
theorem xnl0_ok {st : List xV} (h : xnl0 st = true) : st = [] := by
  cases st with
  | nil => rfl
  | cons a r => cases h
/-- the loop that clears the cells 0 to x of two arrays -/
def xlops : List (Nat × xOp) := [(6, (2, 7, 0, 2, [])), (7, (2, 8, 0, 1, [])), (8, (13, 11, 53, 4, [])), (11, (2, 12, 1, 0, [])), (12, (16, 15, 12, 53, [])), (15, (0, 18, 1000, 0, [])), (18, (2, 19, 1, 0, [])), (19, (16, 22, 12, 3, [])), (22, (0, 23, 2, 0, [])), (23, (19, 24, 0, 0, [])), (24, (5, 25, 2, 0, [])), (25, (2, 26, 0, 2, [])), (26, (5, 27, 0, 0, [])), (27, (0, 28, 0, 0, [])), (28, (21, 29, 0, 0, [])), (29, (2, 30, 1, 0, [])), (30, (16, 33, 12, 54, [])), (33, (0, 36, 1000, 0, [])), (36, (2, 37, 1, 0, [])), (37, (16, 40, 12, 3, [])), (40, (0, 41, 2, 0, [])), (41, (19, 42, 0, 0, [])), (42, (5, 43, 2, 0, [])), (43, (2, 44, 0, 2, [])), (44, (5, 45, 0, 0, [])), (45, (0, 46, 0, 0, [])), (46, (21, 47, 0, 0, [])), (47, (4, 50, 2, 1, [])), (50, (14, 6, 0, 0, []))]
noncomputable def xstep (mt : List xM) (ds : xD) (al : Bool) (M : xM) (rec : xRec) (call : xCal) (op : xOp) (lv : xL) (st : List xV) (K : xH) (ce sl : Nat) (κ : xK) : Option (List xR) := match op.1 with
  | 0 => rec op.2.1 lv ((0, op.2.2.1) :: st) K ce sl κ
  | 1 => rec op.2.1 lv ((4, op.2.2.1) :: st) K ce sl κ
  | 2 => match xlk lv op.2.2.2.1 with
    | none => none
    | some v => if xkdb op.2.2.1 v then rec op.2.1 lv (xnm κ.2 v :: st) K ce sl κ else none
  | 3 => match st with
    | [] => none
    | v :: st' => if xkdb op.2.2.1 v && Nat.blt (op.2.2.2.1 + xwd op.2.2.1) (xMl M) then rec op.2.1 ((op.2.2.2.1, v) :: lv.filter (xflb op.2.2.1 op.2.2.2.1)) st' K ce sl κ else none
  | 4 => match xlk lv op.2.2.1 with
    | some (0, x) => if Nat.blt op.2.2.1 (xMl M) then rec op.2.1 ((op.2.2.1, (0, (x + op.2.2.2.1) % 4294967296)) :: lv.filter (xflb 0 op.2.2.1)) st K ce sl κ else none
    | _ => none
  | 5 => match st with
    | y :: x :: st' => match xnm κ.2 y, xnm κ.2 x with
      | (0, y'), (0, x') => match xbin op.2.2.1 x' y' with
        | none => none
        | some z => rec op.2.1 lv ((0, z) :: st') K ce sl κ
      | y', x' => if xkdb 0 y' && (xkdb 0 x' && Nat.blt op.2.2.1 9) then
          match xidx ds (op.2.2.1, x', y') 0 with
          | none => none
          | some k => rec op.2.1 lv ((3, k) :: st') K ce sl κ
        else none
    | _ => none
  | 6 => match st with
    | x :: st' => if xkdb 0 x then
        match xidx ds (11, x, (0, 0)) 0 with
        | none => none
        | some k => rec op.2.1 lv ((3, k) :: st') K ce sl κ
      else none
    | _ => none
  | 7 => match st with
    | (4, y) :: (4, x) :: st' => match xlb op.2.2.1 x y with
      | none => none
      | some z => rec op.2.1 lv ((4, z) :: st') K ce sl κ
    | _ => none
  | 8 => match st with
    | (4, y) :: (4, x) :: st' => if Nat.beq x y || (Nat.blt x 9223372036854775808 && Nat.blt y 9223372036854775808) then
        rec op.2.1 lv ((0, if Nat.blt y x then 1 else if Nat.beq x y then 0 else 4294967295) :: st') K ce sl κ
      else none
    | _ => none
  | 9 => match st with
    | v :: st' => if Nat.beq (xcat v) 1 then rec op.2.1 lv (v :: v :: st') K ce sl κ else none
    | _ => none
  | 10 => match st with
    | v :: st' => if Nat.beq (xcat v) 1 then rec op.2.1 lv st' K ce sl κ else none
    | _ => none
  | 11 => match st with
    | v :: w :: st' => if Nat.beq (xcat v) 1 && Nat.beq (xcat w) 1 then rec op.2.1 lv (v :: w :: v :: w :: st') K ce sl κ else none
    | _ => none
  | 12 => match st with
    | x :: st' => if xkdb 0 x then xfork κ op.2.2.2.1 x (0, 0) (fun κ' => rec op.2.2.1 lv st' K ce sl κ') (fun κ' => rec op.2.1 lv st' K ce sl κ') else none
    | _ => none
  | 13 => match st with
    | y :: x :: st' => if xkdb 0 x && xkdb 0 y then xfork κ op.2.2.2.1 x y (fun κ' => rec op.2.2.1 lv st' K ce sl κ') (fun κ' => rec op.2.1 lv st' K ce sl κ') else none
    | _ => none
  | 14 => rec op.2.1 lv st K ce sl κ
  | 15 => match st with
    | x :: st' => if xkdb 0 x then xsw x (fun κ' => rec op.2.2.1 lv st' K ce sl κ') (fun t κ' => rec t lv st' K ce sl κ') op.2.2.2.2 κ else none
    | _ => none
  | 16 => match st with
    | (1, i) :: st' => match K[i]? with
      | some (.inr (ci, fs)) => if Nat.beq ci op.2.2.1 then
          match fs[op.2.2.2.1]? with
          | none => none
          | some v => rec op.2.1 lv (v :: st') K ce sl κ
        else none
      | _ => none
    | _ => none
  | 17 => match st with
    | v :: (1, i) :: st' => match K[i]? with
      | some (.inr (ci, fs)) => match op.2.2.2.2 with
        | [q] => if Nat.beq ci op.2.2.1 && (xfit q.1 v && Nat.blt op.2.2.2.1 fs.length) then rec op.2.1 lv st' (K.set i (.inr (ci, fs.set op.2.2.2.1 v))) ce sl κ else none
        | _ => none
      | _ => none
    | _ => none
  | 18 => match st with
    | (1, i) :: st' => match K[i]? with
      | some (.inl (t, vs)) => if Nat.blt t 5 then rec op.2.1 lv ((0, vs.length) :: st') K ce sl κ else none
      | _ => none
    | (6, k) :: st' => if Nat.blt k 3 then rec op.2.1 lv ((0, xlen.getD k 0) :: st') K ce sl κ else none
    | _ => none
  | 19 => match st with
    | j :: (1, i) :: st' => match K[i]?, xnm κ.2 j with
      | some (.inl (t, vs)), (0, n) => if Nat.beq t op.2.2.1 && Nat.blt n 2147483648 then
          match xnth vs n with
          | none => none
          | some v => if xkdb 0 v then rec op.2.1 lv (v :: st') K ce sl κ else none
        else none
      | some (.inl (t, vs)), (3, k) => if Nat.beq t op.2.2.1 && (xin0 κ.2 k && xzs 1000 vs) then rec op.2.1 lv ((0, 0) :: st') K ce sl κ else none
      | _, _ => none
    | _ => none
  | 20 => match st with
    | j :: (1, i) :: st' => match K[i]?, xnm κ.2 j with
      | some (.inl (4, vs)), (0, n) => if Nat.blt n 2147483648 then
          match vs[n]? with
          | some (1, q) => rec op.2.1 lv ((1, q) :: st') K ce sl κ
          | _ => none
        else none
      | _, _ => none
    | _ => none
  | 21 => match st with
    | v :: j :: (1, i) :: st' => match K[i]?, xnm κ.2 j with
      | some (.inl (t, vs)), (0, n) =>
        if Nat.beq t op.2.2.1 && (Nat.blt n 2147483648 && xwok ds t v) then
          match xnth vs n with
          | none => none
          | some w => if xeqv w v then rec op.2.1 lv st' K ce sl κ else rec op.2.1 lv st' (K.set i (.inl (t, vs.set n v))) ce sl κ
        else none
      | _, _ => none
    | _ => none
  | 22 => if al && (Nat.blt ce (xMm M).cells && (Nat.ble (sl + op.2.2.2.1) (xMm M).slots && op.2.2.2.2.all (fun q => Nat.beq q.1 0 || (Nat.beq q.1 2 || Nat.beq q.1 4)))) then rec op.2.1 lv ((1, K.length) :: st) (K ++ [.inr (op.2.2.1, op.2.2.2.2)]) (ce + 1) (sl + op.2.2.2.1) κ else none
  | 23 => match st with
    | (0, n) :: st' => if al && (Nat.blt ce (xMm M).cells && (Nat.ble (sl + n) (xMm M).slots && Nat.blt n 67108864)) then rec op.2.1 lv ((1, K.length) :: st') (K ++ [.inl (op.2.2.1, List.replicate n (xzero op.2.2.1))]) (ce + 1) (sl + n) κ else none
    | _ => none
  | 24 => match st with
    | (0, k) :: (0, n) :: st' => if al && (Nat.ble (ce + (1 + n)) (xMm M).cells && (Nat.ble (sl + (n + n * k)) (xMm M).slots && (Nat.ble n 1000 && Nat.ble k 1000))) then
        rec op.2.1 lv ((1, K.length) :: st') (K ++ (.inl (4, (List.range n).map (fun i => (1, K.length + 1 + i))) :: List.replicate n (.inl (0, List.replicate k (0, 0))))) (ce + 1 + n) (sl + n + n * k) κ
      else none
    | _ => none
  | 25 => match st with
    | (1, _) :: st' => if Nat.ble 1 (xMm M).frames && Nat.ble (xsum st' + 12) (xMm M).locals then rec op.2.1 lv st' K ce sl κ else none
    | _ => none
  | 26 => match st with
    | (0, n) :: (0, dp) :: (1, d) :: (0, sp) :: (1, s) :: st' => match K[s]?, K[d]? with
      | some (.inl (0, vs)), some (.inl (0, ws)) => if Nat.ble (sp + n) vs.length && (Nat.ble (dp + n) ws.length && (Nat.blt (sp + n) 2147483648 && (Nat.blt (dp + n) 2147483648 && (Nat.ble 1 (xMm M).frames && Nat.ble (xsum st' + (nativeFrameWords "java/lang/System" "arraycopy" 5 + 11)) (xMm M).locals)))) then
          rec op.2.1 lv st' (K.set d (.inl (0, ws.take dp ++ ((vs.drop sp).take n ++ ws.drop (dp + n))))) ce sl κ
        else none
      | _, _ => none
    | _ => none
  | 27 => xh_call mt M rec call 0 op.2.1 op.2.2.1 lv st K ce sl κ
  | 28 => match mt[op.2.2.1]? with
    | none => none
    | some M' => match st.drop (xMn M') with
      | (1, i) :: _ => match K[i]? with
        | some (.inr (ci, _)) => if Nat.beq ci op.2.2.2.1 then xh_call mt M rec call 1 op.2.1 op.2.2.1 lv st K ce sl κ else none
        | _ => none
      | _ => none
  | 29 => match mt[op.2.2.1]? with
    | none => none
    | some M' => match st.drop (xMn M') with
      | (1, _) :: _ => xh_call mt M rec call 1 op.2.1 op.2.2.1 lv st K ce sl κ
      | _ => none
  | 30 => match st with
    | [v] => if xfit op.2.2.2.1 v && (Nat.ble ce (xMm M).cells && Nat.ble sl (xMm M).slots) then some [(κ, some (xnm κ.2 v), K)] else none
    | _ => none
  | 31 => match st with
    | [v] => if xkdb 2 v && (Nat.ble ce (xMm M).cells && Nat.ble sl (xMm M).slots) then some [(κ, some v, K)] else none
    | _ => none
  | 32 => match st with
    | [] => if Nat.ble ce (xMm M).cells && Nat.ble sl (xMm M).slots then some [(κ, none, K)] else none
    | _ => none
  | 33 => rec op.2.1 lv ((5, op.2.2.1) :: st) K ce sl κ
  | 34 => rec op.2.1 lv ((0, 1) :: st) K ce sl κ
  | 35 => match st with
    | (5, k) :: st' => if Nat.blt k 3 then rec op.2.1 lv ((if Nat.beq op.2.2.1 0 then (6, k) else (0, 0)) :: st') K ce sl κ else none
    | _ => none
  | 36 => match st with
    | y :: x :: st' => match xnm κ.2 y, xnm κ.2 x with
      | (0, y'), (0, x') => if Nat.blt y' 4294967296 && (Nat.blt x' 4294967296 && (Nat.ble 1 (xMm M).frames && (Nat.ble (xsum st' + 13) (xMm M).locals && (Nat.ble ce (xMm M).cells && Nat.ble sl (xMm M).slots)))) then
          rec op.2.1 lv ((0, if xcb 2 y' x' then y' else x') :: st') K ce sl κ
        else none
      | _, _ => none
    | _ => none
  | 37 => match st with
    | j :: (6, k) :: st' => match xnm κ.2 j with
      | (0, n) => if Nat.blt k 3 && (Nat.blt n (xlen.getD k 0) && Nat.blt n 2147483648) then rec op.2.1 lv ((0, (xbyt.getD k []).getD n 0) :: st') K ce sl κ else none
      | _ => none
    | _ => none
  | 38 => match st with
    | (0, n) :: st' => if Nat.blt n 65536 then rec op.2.1 lv ((0, n) :: st') K ce sl κ else none
    | _ => none
  | 39 => match mt[op.2.2.1]? with
    | none => none
    | some M' => match st.drop (xMn M') with
      | (5, k) :: _ => if Nat.blt k 3 then xh_call mt M rec call 1 op.2.1 op.2.2.1 lv st K ce sl κ else none
      | _ => none
  | 40 => match st with
    | [(0, n)] => if Nat.blt n (if Nat.beq op.2.2.2.1 5 then 65536 else 128) && (Nat.ble ce (xMm M).cells && Nat.ble sl (xMm M).slots) then some [(κ, some (0, n), K)] else none
    | _ => none
  | 41 => rec op.2.1 lv ((7, 0) :: st) K ce sl κ
  | 42 => match st with
    | (5, 50) :: st' => match xSc ds with
      | some L => rec op.2.1 lv ((0, L) :: st') K ce sl κ
      | none => none
    | _ => none
  | 43 => match st with
    | j :: (5, 50) :: st' => match xSc ds, xnm κ.2 j with
      | some L, (0, n) => if Nat.blt n L && Nat.blt L 2147483648 then rec op.2.1 lv (xnm κ.2 (3, n + 1) :: st') K ce sl κ else none
      | _, _ => none
    | _ => none
  | 44 => match xlv3 lv with
    | some q => match xob K q.1 12 with
      | some fs => if xnl0 st && (xin0 κ.2 q.2 && (Nat.blt 2 (xMl M) && (xzf K fs 53 1000 && (xzf K fs 54 1000 && (xzf K fs 3 3 && xlops.all (fun z => decide (z ∈ xMk M))))))) then rec 53 [(0, (1, q.1)), (1, (3, q.2))] st K ce sl κ else none
      | none => none
    | none => none
  | _ => none
noncomputable def xgo (mt : List xM) (ds : xD) (al : Bool) (ih : xM → xRec) (M : xM) : xRec := fun pc lv st K ce sl κ => match xfind (xMk M) pc with
  | none => none
  | some op => xstep mt ds al M (ih M) (fun M' avs K' κ' => ih M' 0 (xargs 0 avs) [] K' 0 0 κ') op lv st K ce sl κ
noncomputable def xe (mt : List xM) (ds : xD) (al : Bool) (n : Nat) : xM → xRec := Nat.rec (fun _ _ _ _ _ _ _ _ => none) (fun _ ih M => xgo mt ds al ih M) n
theorem xe_succ (mt : List xM) (ds : xD) (al : Bool) (n : Nat) (M : xM) : xe mt ds al (n + 1) M = xgo mt ds al (xe mt ds al n) M := rfl
end
section
/-! SOUNDNESS: what the run says, the machine does -/
def xtys (dA : Nat → ClassId) : List (ClassId × FieldType) := [(dA 0, .int), (dA 1, .byte), (dA 2, .long), (dA 3, .boolean), (dA 4, .array .int)]
theorem xtys_get {dA : Nat → ClassId} : ∀ {t : Nat}, t < 5 → (xtys dA)[t]? = some (dA t, xty t)
  | 0, _ | 1, _ | 2, _ | 3, _ | 4, _ => rfl
  | n + 5, h => absurd h (by omega)
def xcS (M : xM) (pc : Nat) (M' : xM) : Prop := ∃ ix, decode (xMc M) pc = .ok (.invokestatic ix, 3) ∧ Cond.methodLink (xMo M) ix (xMy M') ∈ xgt ∧ Cond.static (xMy M') ∈ xgt
def xcSN (M : xM) (pc : Nat) (M' : xM) : Prop := ∃ ix, decode (xMc M) pc = .ok (.invokestatic ix, 3) ∧ ∃ host, Cond.methodLinkNest (xMo M) ix (xMy M') host ∈ xnw ∧ Cond.static (xMy M') ∈ xgt
def xcV (M : xM) (pc : Nat) (M' : xM) : Prop := ∃ ix, decode (xMc M) pc = .ok (.invokevirtual ix, 3) ∧ Cond.methodLink (xMo M) ix (xMy M') ∈ xgt ∧ Cond.instanceMethod (xMy M') ∈ xgt ∧ Cond.selects (xMy M').cls (xMy M') (xMy M') ∈ xgt
def xcI (M : xM) (pc : Nat) (M' : xM) : Prop := ∃ ix, decode (xMc M) pc = .ok (.invokespecial ix, 3) ∧ (xMy M').name = "<init>" ∧ xMr M' = none ∧ Cond.instanceMethod (xMy M') ∈ xgt ∧ (Cond.methodLink (xMo M) ix (xMy M') ∈ xgt ∨ ∃ host, Cond.methodLinkNest (xMo M) ix (xMy M') host ∈ xnw)
def xok (mt : List xM) (M : xM) (pc : Nat) (op : xOp) : Prop := match op.1 with
  | 0 => xT (xMc M) (xMo M) pc op.2.1 [] [.int (nI op.2.2.1)]
  | 1 => xT (xMc M) (xMo M) pc op.2.1 [] [.long (lN op.2.2.1)]
  | 2 => op.2.2.1 < 3 ∧ xLd (xMc M) (xMo M) pc op.2.1 op.2.2.1 op.2.2.2.1
  | 3 => op.2.2.1 < 3 ∧ xSt (xMc M) (xMo M) pc op.2.1 op.2.2.1 op.2.2.2.1
  | 4 => xIn (xMc M) (xMo M) pc op.2.1 op.2.2.1 op.2.2.2.1
  | 5 => ∀ x y : Int32, ((op.2.2.1 = 9 ∨ op.2.2.1 = 10) → ¬ y = 0) → xT (xMc M) (xMo M) pc op.2.1 [.int y, .int x] [.int (fbin op.2.2.1 x y)]
  | 6 => ∀ x : Int32, xT (xMc M) (xMo M) pc op.2.1 [.int x] [.int x.toInt8.toInt32]
  | 7 => ∀ x y : Int64, xT (xMc M) (xMo M) pc op.2.1 [.long y, .long x] [.long (flb op.2.2.1 x y)]
  | 8 => ∀ x y : Int64, xT (xMc M) (xMo M) pc op.2.1 [.long y, .long x] [.int (lg_cmp x y)]
  | 9 => ∀ v : Value, v.category = 1 → xT (xMc M) (xMo M) pc op.2.1 [v] [v, v]
  | 10 => ∀ v : Value, v.category = 1 → xT (xMc M) (xMo M) pc op.2.1 [v] []
  | 11 => ∀ v w : Value, v.category = 1 → w.category = 1 → xT (xMc M) (xMo M) pc op.2.1 [v, w] [v, w, v, w]
  | 12 => xB0 (xMc M) (xMo M) pc op.2.1 op.2.2.1 op.2.2.2.1
  | 13 => xB (xMc M) (xMo M) pc op.2.1 op.2.2.1 op.2.2.2.1
  | 14 => xT (xMc M) (xMo M) pc op.2.1 [] []
  | 15 => xSw (xMc M) (xMo M) pc op.2.2.1 op.2.2.2.2
  | 16 => xGf (xMc M) (xMo M) pc op.2.1 op.2.2.1 op.2.2.2.1
  | 17 => ∃ (ty : FieldType) (fin : Bool) (z : Nat), op.2.2.2.2 = [(xtc ty, z)] ∧ xPf (xMc M) (xMo M) pc op.2.1 op.2.2.1 op.2.2.2.1 ty fin ∧ (fin = true → (xMy M).name = "<init>")
  | 18 => xAl (xMc M) (xMo M) pc op.2.1 ∧ xSl (xMc M) (xMo M) pc op.2.1
  | 19 => (op.2.2.1 = 0 ∨ op.2.2.1 = 1 ∨ op.2.2.1 = 3) ∧ xRd (xMc M) (xMo M) pc op.2.1 (xty op.2.2.1)
  | 20 => xRr (xMc M) (xMo M) pc op.2.1
  | 21 => xWr (xMc M) (xMo M) pc op.2.1 (xty op.2.2.1)
  | 22 => xNw (xMc M) (xMo M) pc op.2.1 op.2.2.1 op.2.2.2.1 (op.2.2.2.2.map (xdv 0 (fun _ => 0) (fun _ => 0)))
  | 23 => op.2.2.1 < 4 ∧ xNa (xMc M) (xMo M) pc op.2.1 (xty op.2.2.1)
  | 25 => xOi (xMc M) (xMo M) pc op.2.1
  | 26 => xCp (xMc M) (xMo M) pc op.2.1
  | 27 => op.2.1 = pc + 3 ∧ ∃ M', mt[op.2.2.1]? = some M' ∧ xcS M pc M'
  | 28 => op.2.1 = pc + 3 ∧ ∃ M', mt[op.2.2.1]? = some M' ∧ xcV M pc M' ∧ ∃ q, vwCl[op.2.2.2.1]? = some q ∧ q.1 = (xMy M').cls
  | 29 => op.2.1 = pc + 3 ∧ ∃ M', mt[op.2.2.1]? = some M' ∧ xcI M pc M'
  | 30 => decode (xMc M) pc = .ok (.ireturn, 1) ∧ ∃ ty, xMr M = some ty ∧ xtc ty = op.2.2.2.1 ∧ (ty = .int ∨ ty = .boolean)
  | 31 => decode (xMc M) pc = .ok (.lreturn, 1) ∧ xMr M = some .long
  | 32 => decode (xMc M) pc = .ok (.return_, 1) ∧ xMr M = none
  | 24 => xMa (xMc M) (xMo M) pc op.2.1
  | 33 => xLs (xMc M) (xMo M) pc op.2.1 op.2.2.1
  | 34 => xGs (xMc M) (xMo M) pc op.2.1 (fun _ => .int (nI 1))
  | 35 => xSf (xMc M) (xMo M) pc op.2.1 (fun sa k => if op.2.2.1 = 0 then .ref (sa (k + 1000)) else .int (nI 0))
  | 36 => xMi (xMc M) (xMo M) pc op.2.1
  | 37 => xSb (xMc M) (xMo M) pc op.2.1
  | 38 => ∀ x : Int32, xT (xMc M) (xMo M) pc op.2.1 [.int x] [.int (x.toUInt32 % 65536).toInt32]
  | 39 => op.2.1 = pc + 3 ∧ ∃ M', mt[op.2.2.1]? = some M' ∧ xcV M pc M' ∧ (xMy M').cls = "java/lang/String"
  | 40 => decode (xMc M) pc = .ok (.ireturn, 1) ∧ ∃ ty, xMr M = some ty ∧ ((op.2.2.2.1 = 5 ∧ ty = .char) ∨ (op.2.2.2.1 = 1 ∧ ty = .byte))
  | 41 => xGs (xMc M) (xMo M) pc op.2.1 (fun sa => if sa 98 = 0 then .null else .ref (sa 99))
  | 42 => xXl (xMc M) (xMo M) pc op.2.1
  | 43 => xXd (xMc M) (xMo M) pc op.2.1
  | 44 => pc = 6
  | 47 => op.2.1 = pc + 3 ∧ ∃ M', mt[op.2.2.1]? = some M' ∧ xcSN M pc M'
  | 60 => ∀ x y : Int64, xT (xMc M) (xMo M) pc op.2.1 [.long y, .long x] [.long (gbin op.2.2.1 x y)]
  | 61 => ∀ x y : Int64, ¬ y = 0 → xT (xMc M) (xMo M) pc op.2.1 [.long y, .long x] [.long (gbin op.2.2.1 x y)]
  | 62 => ∀ (x : Int64) (y : Int32), xT (xMc M) (xMo M) pc op.2.1 [.int y, .long x] [.long (x <<< (y.toInt64 &&& 63))]
  | 63 => ∀ (x : Int64) (y : Int32), xT (xMc M) (xMo M) pc op.2.1 [.int y, .long x] [.long (x.toUInt64 >>> (y.toInt64.toUInt64 &&& Int64.toUInt64 63)).toInt64]
  | 64 => ∀ x : Int64, xT (xMc M) (xMo M) pc op.2.1 [.long x] [.long (-x)]
  | 65 => ∀ x : Int32, xT (xMc M) (xMo M) pc op.2.1 [.int x] [.long x.toInt64]
  | 66 => ∀ x : Int64, xT (xMc M) (xMo M) pc op.2.1 [.long x] [.int x.toInt32]
  | 67 => xRl (xMc M) (xMo M) pc op.2.1
  | 68 => xWl (xMc M) (xMo M) pc op.2.1
  | 69 => ∀ v : Value, v.category = 2 → xT (xMc M) (xMo M) pc op.2.1 [v] []
  | 70 => ∀ x y : Int32, xMth (xMc M) (xMo M) pc op.2.1 [.int y, .int x] [.int (if op.2.2.1 = 0 then (if y < x then y else x) else (if x < y then y else x))]
  | 71 => ∀ x y : Int64, xMth (xMc M) (xMo M) pc op.2.1 [.long y, .long x] [.long (if op.2.2.1 = 0 then (if y < x then y else x) else (if y < x then x else y))]
  | 72 => ∀ x : Int64, xMth (xMc M) (xMo M) pc op.2.1 [.long x] [.long (if 0 < x then x else -x)]
  | _ => True
/-- a method's own facts -/
def xMok (mt : List xM) (M : xM) : Prop := Cond.code (xMy M) (xMc M) (xMl M) (xMr M) ∈ xgt ∧ Cond.initialized (xMy M).cls ∈ xgt ∧ ((xMy M).cls ≠ "java/lang/invoke/MethodHandle" ∧ (xMy M).cls ≠ "java/lang/invoke/VarHandle" ∧ (parseMethodDescriptor (xMy M).desc).map (fun d => d.parameters.length) = some (xMn M)) ∧ plainName (xMy M).cls = true ∧ xMo M = (xMy M).cls ∧ ∀ q ∈ xMk M, xok mt M q.1 q.2
def xA (b n sz : Nat) : Nat → Prop := fun q => (b ≤ q ∧ q < b + n) ∨ sz ≤ q
section XS
variable {al : Bool} {b : Nat} {ρ : Nat → Int32} {sa : Nat → Nat} {dA : Nat → ClassId} {D : va_G} {M : xM} {p : Program} {l : Launch} {e : Env} {s : State} {m : MethodId} {args : Array Value} {below : List Frame} {meth : Method} {c : Code} {A : Nat → Prop} {Qc : Array Value → State → Outcome → State → Prop} {EX : State → Prop}
variable {mt : List xM} {ds : xD}
def xEnd (al : Bool) (b : Nat) (ρ : Nat → Int32) (sa : Nat → Nat) (dA : Nat → ClassId) (D : va_G) (s : State) (args : Array Value) (A : Nat → Prop) (Qc : Array Value → State → Outcome → State → Prop) (Ls : List xR) : Prop :=
  ∀ lf ∈ Ls, xKok ρ lf.1 → ∀ t : State, va_P D vwCl (xcx b ρ sa dA 0 lf.2.2) t.heap → (al = true → t.heap.size = b + lf.2.2.length) → (∀ i, i < lf.2.2.length → A (b + i)) → va_F A s t → Qc args s (.returned (lf.2.1.map (xdv b ρ sa))) t
def xGood (al : Bool) (b : Nat) (ρ : Nat → Int32) (sa : Nat → Nat) (dA : Nat → ClassId) (D : va_G) (M : xM) (p : Program) (l : Launch) (e : Env) (s : State) (m : MethodId) (args : Array Value) (below : List Frame) (meth : Method) (c : Code) (A : Nat → Prop) (Qc : Array Value → State → Outcome → State → Prop) (pc : Nat) (lv : xL) (st : List xV) (K : xH) (ce sl : Nat) (κ : xK) (Ls : List xR) : Prop :=
  ∀ (H : Heap) (locs : List Loc) (ls : Array Slot), lv_has ls (xMl M) (xdL b ρ sa lv) → va_P D vwCl (xcx b ρ sa dA 0 K) H → va_S A s.heap H locs → (al = true → H.size = b + K.length) → (∀ i, i < K.length → A (b + i)) → xKok ρ κ → xEnd al b ρ sa dA D s args A Qc Ls →
    W p l e (xMm M) s m args below meth c H locs ce sl (MQ below Qc args s (xMm M).cells (xMm M).slots A) (F0 m pc ls (st.map (xdv b ρ sa)))
/-- what holds all through a method's frame -/
def xCtx (b : Nat) (dA : Nat → ClassId) (D : va_G) (M : xM) (p : Program) (s : State) (m : MethodId) (args : Array Value) (meth : Method) (c : Code) (A : Nat → Prop) (EX : State → Prop) : Prop :=
  xCx p s m args c (xMc M) (xMo M) ∧ c.maxLocals = xMl M ∧ va_K D vwCl (xtys dA) s ∧ (∀ q, s.heap.size ≤ q → A q) ∧ (∀ q, A q → b ≤ q) ∧ meth.sig.returnType = xMr M ∧ meth.locks = false ∧ ((xMy M).name = "<init>" → meth.name = "<init>") ∧ EX s ∧ b ≤ s.heap.size
abbrev xSnd (al : Bool) (b : Nat) (ρ : Nat → Int32) (sa : Nat → Nat) (dA : Nat → ClassId) (D : va_G) (M : xM) (p : Program) (l : Launch) (e : Env) (s : State) (m : MethodId) (args : Array Value) (below : List Frame) (meth : Method) (c : Code) (A : Nat → Prop) (Qc : Array Value → State → Outcome → State → Prop) (rec : xRec) : Prop :=
  ∀ pc lv st K ce sl κ Ls, rec pc lv st K ce sl κ = some Ls → xGood al b ρ sa dA D M p l e s m args below meth c A Qc pc lv st K ce sl κ Ls
theorem xEnd.sub {Ls L : List xR} (h : xEnd al b ρ sa dA D s args A Qc Ls) (hs : ∀ q ∈ L, q ∈ Ls) : xEnd al b ρ sa dA D s args A Qc L := fun lf hl => h lf (hs lf hl)
/-- the pure steps -/
theorem xp_T {rec : xRec} (hC : xCtx b dA D M p s m args meth c A EX) (hr : xSnd al b ρ sa dA D M p l e s m args below meth c A Qc rec) {pc nx : Nat} {lv : xL} {st st0 st1 : List xV} {K : xH} {ce sl : Nat} {κ : xK} {Ls : List xR}
    (hT : xT (xMc M) (xMo M) pc nx (st0.map (xdv b ρ sa)) (st1.map (xdv b ρ sa))) (h : rec nx lv (st1 ++ st) K ce sl κ = some Ls) : xGood al b ρ sa dA D M p l e s m args below meth c A Qc pc lv (st0 ++ st) K ce sl κ Ls := by
  intro H locs ls hl hP hS hz hA0 hκ hQ
  have := hr _ _ _ _ _ _ _ _ h H locs ls hl hP hS hz hA0 hκ hQ
  rw [List.map_append] at this ⊢
  exact hT p l e _ s m args below meth c H locs ce sl _ ls _ hC.1 this
end XS
end
section
section XC
variable {al : Bool} {b : Nat} {ρ : Nat → Int32} {sa : Nat → Nat} {dA : Nat → ClassId} {D : va_G} {M : xM} {p : Program} {l : Launch} {e : Env} {s : State} {m : MethodId} {args : Array Value} {below : List Frame} {meth : Method} {c : Code} {A : Nat → Prop} {Qc : Array Value → State → Outcome → State → Prop} {EX : State → Prop}
variable {mt : List xM} {ds : xD} {rec : xRec} {pc nx : Nat} {lv : xL} {st : List xV} {K : xH} {ce sl : Nat} {κ : xK} {Ls : List xR}
theorem xp_load (hC : xCtx b dA D M p s m args meth c A EX) (hr : xSnd al b ρ sa dA D M p l e s m args below meth c A Qc rec) {k i : Nat} {v : xV} (hk3 : k < 3) (hT : xLd (xMc M) (xMo M) pc nx k i) (hv : xlk lv i = some v) (hk : xkdb k v = true) (h : rec nx lv (xnm κ.2 v :: st) K ce sl κ = some Ls) : xGood al b ρ sa dA D M p l e s m args below meth c A Qc pc lv st K ce sl κ Ls := by
  intro H locs ls hl hP hS hz hA0 hκ hQ
  have := hr _ _ _ _ _ _ _ _ h H locs ls hl hP hS hz hA0 hκ hQ
  rw [List.map_cons, (xnm_ok hκ v).1] at this
  exact hT p l e _ s m args below meth c H locs ce sl _ ls _ hC.1 _ (xkk hk3 hk) (hl.2.2 _ (List.mem_map.mpr ⟨(i, v), xlk_mem hv, rfl⟩)) this
theorem xp_store (hC : xCtx b dA D M p s m args meth c A EX) (hr : xSnd al b ρ sa dA D M p l e s m args below meth c A Qc rec) {k i : Nat} {v : xV} (hk3 : k < 3) (hT : xSt (xMc M) (xMo M) pc nx k i) (hk : xkdb k v = true) (hi : i + xwd k < xMl M) (h : rec nx ((i, v) :: lv.filter (xflb k i)) st K ce sl κ = some Ls) : xGood al b ρ sa dA D M p l e s m args below meth c A Qc pc lv (v :: st) K ce sl κ Ls := by
  intro H locs ls hl hP hS hz hA0 hκ hQ
  rw [List.map_cons]
  refine hT p l e _ s m args below meth c H locs ce sl _ ls _ hC.1 _ _ _ (xkk hk3 hk) hl hi (fun ls' hl' => ?_)
  rw [xflb_ok] at hl'
  exact hr _ _ _ _ _ _ _ _ h H locs ls' hl' hP hS hz hA0 hκ hQ
theorem xp_iinc (hC : xCtx b dA D M p s m args meth c A EX) (hr : xSnd al b ρ sa dA D M p l e s m args below meth c A Qc rec) {i n x : Nat} (hT : xIn (xMc M) (xMo M) pc nx i n) (hv : xlk lv i = some (0, x)) (hi : i < xMl M) (h : rec nx ((i, (0, (x + n) % 4294967296)) :: lv.filter (xflb 0 i)) st K ce sl κ = some Ls) : xGood al b ρ sa dA D M p l e s m args below meth c A Qc pc lv st K ce sl κ Ls := by
  intro H locs ls hl hP hS hz hA0 hκ hQ
  have hm : (i, xdv b ρ sa (0, x)) ∈ xdL b ρ sa lv := List.mem_map.mpr ⟨(i, (0, x)), xlk_mem hv, rfl⟩
  obtain ⟨k, hk⟩ := List.getElem?_of_mem hm
  refine hT p l e _ s m args below meth c H locs ce sl _ ls _ hC.1 _ k _ (nI x) hl hk hi (fun ls' hl' => ?_)
  rw [xflb_ok, nI_add, ← nI_m] at hl'
  exact hr _ _ _ _ _ _ _ _ h H locs ls' hl' hP hS hz hA0 hκ hQ
theorem xp_bin (hC : xCtx b dA D M p s m args meth c A EX) (hr : xSnd al b ρ sa dA D M p l e s m args below meth c A Qc rec) {o : Nat} {x y w : xV} (hT : ∀ x y : Int32, ((o = 9 ∨ o = 10) → ¬ y = 0) → xT (xMc M) (xMo M) pc nx [.int y, .int x] [.int (fbin o x y)]) (hκ0 : xKok ρ κ → xdv b ρ sa x = .int (xdi ρ x) ∧ xdv b ρ sa y = .int (xdi ρ y) ∧ xdv b ρ sa w = .int (fbin o (xdi ρ x) (xdi ρ y)) ∧ ((o = 9 ∨ o = 10) → ¬ xdi ρ y = 0)) (h : rec nx lv (w :: st) K ce sl κ = some Ls) : xGood al b ρ sa dA D M p l e s m args below meth c A Qc pc lv (y :: x :: st) K ce sl κ Ls := by
  intro H locs ls hl hP hS hz hA0 hκ hQ
  have := hr _ _ _ _ _ _ _ _ h H locs ls hl hP hS hz hA0 hκ hQ
  obtain ⟨e1, e2, e3, e4⟩ := hκ0 hκ
  rw [List.map_cons, e3] at this
  rw [List.map_cons, List.map_cons, e1, e2]
  exact hT _ _ e4 p l e _ s m args below meth c H locs ce sl _ ls _ hC.1 this
theorem xp_fork (hC : xCtx b dA D M p s m args meth c A EX) (hr : xSnd al b ρ sa dA D M p l e s m args below meth c A Qc rec) {k tgt : Nat} {x y : xV} (hT : xB (xMc M) (xMo M) pc nx tgt k) (hx : xkdb 0 x = true) (hy : xkdb 0 y = true) (h : xfork κ k x y (fun κ' => rec tgt lv st K ce sl κ') (fun κ' => rec nx lv st K ce sl κ') = some Ls) : xGood al b ρ sa dA D M p l e s m args below meth c A Qc pc lv (y :: x :: st) K ce sl κ Ls := by
  intro H locs ls hl hP hS hz hA0 hκ hQ
  obtain ⟨h1, h2⟩ := xfork_ok hκ h
  rw [List.map_cons, List.map_cons, xk0 hx, xk0 hy]
  refine hT p l e _ s m args below meth c H locs ce sl _ ls _ hC.1 _ _ (fun hc => ?_) (fun hc => ?_)
  · obtain ⟨κ', L, g1, g2, g3⟩ := h1 hc
    exact hr _ _ _ _ _ _ _ _ g1 H locs ls hl hP hS hz hA0 g2 (hQ.sub g3)
  · obtain ⟨κ', L, g1, g2, g3⟩ := h2 hc
    exact hr _ _ _ _ _ _ _ _ g1 H locs ls hl hP hS hz hA0 g2 (hQ.sub g3)
theorem xp_fork0 (hC : xCtx b dA D M p s m args meth c A EX) (hr : xSnd al b ρ sa dA D M p l e s m args below meth c A Qc rec) {k tgt : Nat} {x : xV} (hT : xB0 (xMc M) (xMo M) pc nx tgt k) (hx : xkdb 0 x = true) (h : xfork κ k x (0, 0) (fun κ' => rec tgt lv st K ce sl κ') (fun κ' => rec nx lv st K ce sl κ') = some Ls) : xGood al b ρ sa dA D M p l e s m args below meth c A Qc pc lv (x :: st) K ce sl κ Ls := by
  intro H locs ls hl hP hS hz hA0 hκ hQ
  obtain ⟨h1, h2⟩ := xfork_ok hκ h
  rw [List.map_cons, xk0 hx]
  refine hT p l e _ s m args below meth c H locs ce sl _ ls _ hC.1 _ (fun hc => ?_) (fun hc => ?_)
  · obtain ⟨κ', L, g1, g2, g3⟩ := h1 hc
    exact hr _ _ _ _ _ _ _ _ g1 H locs ls hl hP hS hz hA0 g2 (hQ.sub g3)
  · obtain ⟨κ', L, g1, g2, g3⟩ := h2 hc
    exact hr _ _ _ _ _ _ _ _ g1 H locs ls hl hP hS hz hA0 g2 (hQ.sub g3)
theorem xp_sw (hC : xCtx b dA D M p s m args meth c A EX) (hr : xSnd al b ρ sa dA D M p l e s m args below meth c A Qc rec) {dflt : Nat} {cs : List (Nat × Nat)} {x : xV} (hT : xSw (xMc M) (xMo M) pc dflt cs) (hx : xkdb 0 x = true) (h : xsw x (fun κ' => rec dflt lv st K ce sl κ') (fun t κ' => rec t lv st K ce sl κ') cs κ = some Ls) : xGood al b ρ sa dA D M p l e s m args below meth c A Qc pc lv (x :: st) K ce sl κ Ls := by
  intro H locs ls hl hP hS hz hA0 hκ hQ
  rw [List.map_cons, xk0 hx]
  refine hT p l e _ s m args below meth c H locs ce sl _ ls _ hC.1 _ ?_
  rcases xsw_ok hκ h with ⟨q, hq, e, κ', L, g1, g2, g3⟩ | ⟨hn, κ', L, g1, g2, g3⟩
  · exact Or.inl ⟨q, hq, e, hr _ _ _ _ _ _ _ _ g1 H locs ls hl hP hS hz hA0 g2 (hQ.sub g3)⟩
  · exact Or.inr ⟨hn, hr _ _ _ _ _ _ _ _ g1 H locs ls hl hP hS hz hA0 g2 (hQ.sub g3)⟩
theorem xcx_at {i : Nat} {x : xC} (h : K[i]? = some x) : (xcx b ρ sa dA 0 K)[i]? = some (b + i, xce b ρ sa dA x) := by
  rw [xcx_get, h, show 0 + i = i by omega]
  rfl
theorem xcx_put (i : Nat) (x : xC) : (xcx b ρ sa dA 0 K).set i (b + i, xce b ρ sa dA x) = xcx b ρ sa dA 0 (K.set i x) := by
  rw [← xcx_set, show 0 + i = i by omega]
theorem xp_getf (hC : xCtx b dA D M p s m args meth c A EX) (hr : xSnd al b ρ sa dA D M p l e s m args below meth c A Qc rec) {ci k i : Nat} {fs : List xV} {v : xV} (hT : xGf (xMc M) (xMo M) pc nx ci k) (hK : K[i]? = some (.inr (ci, fs))) (hv : fs[k]? = some v) (h : rec nx lv (v :: st) K ce sl κ = some Ls) : xGood al b ρ sa dA D M p l e s m args below meth c A Qc pc lv ((1, i) :: st) K ce sl κ Ls := by
  intro H locs ls hl hP hS hz hA0 hκ hQ
  have := hr _ _ _ _ _ _ _ _ h H locs ls hl hP hS hz hA0 hκ hQ
  rw [List.map_cons] at this ⊢
  exact hT p l e _ s m args below meth c H locs ce sl _ ls _ hC.1 D (xtys dA) _ i (b + i) (fs.map (xdv b ρ sa)) _ hC.2.2.1 hP (xcx_at hK) (by rw [List.getElem?_map, hv]; rfl) this
theorem xp_putf (hC : xCtx b dA D M p s m args meth c A EX) (hr : xSnd al b ρ sa dA D M p l e s m args below meth c A Qc rec) {ci k i : Nat} {fs : List xV} {v : xV} {ty : FieldType} {fin : Bool} (hT : xPf (xMc M) (xMo M) pc nx ci k ty fin) (hf : fin = true → (xMy M).name = "<init>") (hft : xfit (xtc ty) v = true) (hk : k < fs.length) (hK : K[i]? = some (.inr (ci, fs))) (h : rec nx lv st (K.set i (.inr (ci, fs.set k v))) ce sl κ = some Ls) : xGood al b ρ sa dA D M p l e s m args below meth c A Qc pc lv (v :: (1, i) :: st) K ce sl κ Ls := by
  intro H locs ls hl hP hS hz hA0 hκ hQ
  rw [List.map_cons, List.map_cons]
  obtain ⟨f1, f2⟩ := xfit_ok hft (b := b) (ρ := ρ) (sa := sa)
  refine hT p l e _ s m args below meth c H locs ce sl _ ls _ hC.1 D (xtys dA) _ i (b + i) A s.heap (fs.map (xdv b ρ sa)) _ hC.2.2.1 hP (xcx_D hA0) hS (xcx_at hK) (fun q => hC.2.2.2.2.2.2.2.1 (hf q)) f1 f2 (by rw [List.length_map]; exact hk) (fun H1 locs1 hP1 _ hS1 z1 => ?_)
  have e1 : (Sum.inr (ci, (fs.map (xdv b ρ sa)).set k (xdv b ρ sa v)) : va_E) = xce b ρ sa dA (.inr (ci, fs.set k v)) := by
    show Sum.inr (ci, _) = Sum.inr (ci, (fs.set k v).map (xdv b ρ sa))
    rw [List.map_set]
  rw [e1, xcx_put] at hP1
  exact hr _ _ _ _ _ _ _ _ h H1 locs1 ls hl hP1 hS1 (fun q => by rw [List.length_set, ← hz q]; exact z1) (fun j hj => hA0 j (by rw [List.length_set] at hj; exact hj)) hκ hQ
theorem xce_arr {t : Nat} (ht : t = 0 ∨ t = 1 ∨ t = 3) (vs : List xV) : xce b ρ sa dA (.inl (t, vs)) = .inl (dA t, vs.length, .inl (fun j => xdi ρ (vs.getD j (0, 0)))) := by
  rcases ht with rfl | rfl | rfl <;> rfl
theorem xce_any {t : Nat} (vs : List xV) : ∃ z, xce b ρ sa dA (.inl (t, vs)) = .inl (dA t, vs.length, z) := by
  match t with
  | 0 | 1 | 2 | 3 | 4 => exact ⟨_, rfl⟩
  | n + 5 => exact ⟨_, rfl⟩
theorem xp_alen (hC : xCtx b dA D M p s m args meth c A EX) (hr : xSnd al b ρ sa dA D M p l e s m args below meth c A Qc rec) {t i : Nat} {vs : List xV} (hT : xAl (xMc M) (xMo M) pc nx) (ht : t < 5) (hK : K[i]? = some (.inl (t, vs))) (h : rec nx lv ((0, vs.length) :: st) K ce sl κ = some Ls) : xGood al b ρ sa dA D M p l e s m args below meth c A Qc pc lv ((1, i) :: st) K ce sl κ Ls := by
  intro H locs ls hl hP hS hz hA0 hκ hQ
  have := hr _ _ _ _ _ _ _ _ h H locs ls hl hP hS hz hA0 hκ hQ
  rw [List.map_cons] at this ⊢
  obtain ⟨z, hz2⟩ := xce_any (b := b) (ρ := ρ) (sa := sa) (dA := dA) (t := t) vs
  have hg := xcx_at (b := b) (ρ := ρ) (sa := sa) (dA := dA) hK
  rw [hz2] at hg
  exact hT p l e _ s m args below meth c H locs ce sl _ ls _ hC.1 D (xtys dA) _ i (b + i) t (dA t) (vs.length, z) (xty t) hC.2.2.1 hP hg (xtys_get ht) this
theorem xin {n N : Nat} (hn : n < 2147483648) (h : n < N) : vp_in (nI n) N := by
  rintro (h1 | h1)
  · exact nI_pos hn h1
  · rw [nI_clamp hn] at h1
    omega
theorem xp_read (hC : xCtx b dA D M p s m args meth c A EX) (hr : xSnd al b ρ sa dA D M p l e s m args below meth c A Qc rec) {t i n : Nat} {vs : List xV} {j v : xV} (ht : t = 0 ∨ t = 1 ∨ t = 3) (hT : xRd (xMc M) (xMo M) pc nx (xty t)) (hj : xnm κ.2 j = (0, n)) (hn : n < 2147483648) (hK : K[i]? = some (.inl (t, vs))) (hv : vs[n]? = some v) (hk : xkdb 0 v = true) (h : rec nx lv (v :: st) K ce sl κ = some Ls) : xGood al b ρ sa dA D M p l e s m args below meth c A Qc pc lv (j :: (1, i) :: st) K ce sl κ Ls := by
  intro H locs ls hl hP hS hz hA0 hκ hQ
  have := hr _ _ _ _ _ _ _ _ h H locs ls hl hP hS hz hA0 hκ hQ
  rw [List.map_cons, xk0 hk] at this
  rw [List.map_cons, List.map_cons]
  have ej := (xnm_ok hκ (b := b) (sa := sa) j).1
  rw [hj] at ej
  rw [← ej]
  have hg := xcx_at (b := b) (ρ := ρ) (sa := sa) (dA := dA) hK
  rw [xce_arr ht] at hg
  refine hT p l e _ s m args below meth c H locs ce sl _ ls _ hC.1 D (xtys dA) _ i (b + i) t (dA t) vs.length _ (nI n) hC.2.2.1 hP hg (xtys_get (by omega)) (xin hn (List.getElem?_eq_some_iff.mp hv).1) ?_
  rw [nI_clamp hn, List.getD_eq_getElem?_getD, hv]
  exact this
theorem xp_readz (hC : xCtx b dA D M p s m args meth c A EX) (hr : xSnd al b ρ sa dA D M p l e s m args below meth c A Qc rec) {t i k : Nat} {vs : List xV} {j : xV} (ht : t = 0 ∨ t = 1 ∨ t = 3) (hT : xRd (xMc M) (xMo M) pc nx (xty t)) (hj : xnm κ.2 j = (3, k)) (hk : xin0 κ.2 k = true) (hK : K[i]? = some (.inl (t, vs))) (hv : xzs 1000 vs = true) (h : rec nx lv ((0, 0) :: st) K ce sl κ = some Ls) : xGood al b ρ sa dA D M p l e s m args below meth c A Qc pc lv (j :: (1, i) :: st) K ce sl κ Ls := by
  intro H locs ls hl hP hS hz hA0 hκ hQ
  have := hr _ _ _ _ _ _ _ _ h H locs ls hl hP hS hz hA0 hκ hQ
  rw [List.map_cons] at this
  rw [List.map_cons, List.map_cons]
  have ej := (xnm_ok hκ (b := b) (sa := sa) j).1
  rw [hj] at ej
  obtain ⟨n, hn, en⟩ := xin0_ok hκ hk
  have ej2 : xdv b ρ sa j = .int (nI n) := by
    rw [← ej, ← en]
    rfl
  rw [ej2]
  have hvn := xzs_ok hv n hn
  have hg := xcx_at (b := b) (ρ := ρ) (sa := sa) (dA := dA) hK
  rw [xce_arr ht] at hg
  refine hT p l e _ s m args below meth c H locs ce sl _ ls _ hC.1 D (xtys dA) _ i (b + i) t (dA t) vs.length _ (nI n) hC.2.2.1 hP hg (xtys_get (by omega)) (xin (by omega) (List.getElem?_eq_some_iff.mp hvn).1) ?_
  rw [nI_clamp (by omega), List.getD_eq_getElem?_getD, hvn]
  exact this
theorem xp_readr (hC : xCtx b dA D M p s m args meth c A EX) (hr : xSnd al b ρ sa dA D M p l e s m args below meth c A Qc rec) {i n q : Nat} {vs : List xV} {j : xV} (hT : xRr (xMc M) (xMo M) pc nx) (hj : xnm κ.2 j = (0, n)) (hn : n < 2147483648) (hK : K[i]? = some (.inl (4, vs))) (hv : vs[n]? = some (1, q)) (h : rec nx lv ((1, q) :: st) K ce sl κ = some Ls) : xGood al b ρ sa dA D M p l e s m args below meth c A Qc pc lv (j :: (1, i) :: st) K ce sl κ Ls := by
  intro H locs ls hl hP hS hz hA0 hκ hQ
  have := hr _ _ _ _ _ _ _ _ h H locs ls hl hP hS hz hA0 hκ hQ
  rw [List.map_cons] at this
  rw [List.map_cons, List.map_cons]
  have ej := (xnm_ok hκ (b := b) (sa := sa) j).1
  rw [hj] at ej
  rw [← ej]
  have hg := xcx_at (b := b) (ρ := ρ) (sa := sa) (dA := dA) hK
  refine hT p l e _ s m args below meth c H locs ce sl _ ls _ hC.1 D (xtys dA) _ i (b + i) 4 (dA 4) vs.length _ (nI n) hC.2.2.1 hP hg rfl (xin hn (List.getElem?_eq_some_iff.mp hv).1) ?_
  rw [nI_clamp hn, List.getD_eq_getElem?_getD, hv]
  exact this
theorem xupd {ρ : Nat → Int32} {vs : List xV} {n : Nat} (h : n < vs.length) (v : xV) : upd (fun j => xdi ρ (vs.getD j (0, 0))) n (xdi ρ v) = fun j => xdi ρ ((vs.set n v).getD j (0, 0)) := by
  funext j
  simp only [upd]
  by_cases e : j = n
  · subst e
    rw [if_pos rfl, List.getD_eq_getElem?_getD, List.getElem?_set_self h]
    rfl
  · rw [if_neg e, List.getD_eq_getElem?_getD, List.getD_eq_getElem?_getD, List.getElem?_set_ne (Ne.symm e)]
theorem xp_write (hC : xCtx b dA D M p s m args meth c A EX) (hr : xSnd al b ρ sa dA D M p l e s m args below meth c A Qc rec) {t i n : Nat} {vs : List xV} {j v : xV} (ht : t = 0 ∨ t = 1 ∨ t = 3) (hT : xWr (xMc M) (xMo M) pc nx (xty t)) (hj : xnm κ.2 j = (0, n)) (hn : n < 2147483648) (hK : K[i]? = some (.inl (t, vs))) (hl2 : n < vs.length) (hk : xkdb 0 v = true) (hnar : vp_nar (xty t) (xdi ρ v) = xdi ρ v) (h : rec nx lv st (K.set i (.inl (t, vs.set n v))) ce sl κ = some Ls) : xGood al b ρ sa dA D M p l e s m args below meth c A Qc pc lv (v :: j :: (1, i) :: st) K ce sl κ Ls := by
  intro H locs ls hl hP hS hz hA0 hκ hQ
  rw [List.map_cons, List.map_cons, List.map_cons, xk0 hk]
  have ej := (xnm_ok hκ (b := b) (sa := sa) j).1
  rw [hj] at ej
  rw [← ej]
  have hg := xcx_at (b := b) (ρ := ρ) (sa := sa) (dA := dA) hK
  rw [xce_arr ht] at hg
  refine hT p l e _ s m args below meth c H locs ce sl _ ls _ hC.1 D (xtys dA) _ i (b + i) A s.heap t (dA t) vs.length _ (nI n) _ hC.2.2.1 hP (xcx_D hA0) hS hg (xtys_get (by omega)) (xin hn hl2) (fun H1 locs1 hP1 _ hS1 z1 => ?_)
  rw [hnar, nI_clamp hn, xupd hl2] at hP1
  have e1 : (Sum.inl (dA t, vs.length, .inl (fun j => xdi ρ ((vs.set n v).getD j (0, 0)))) : va_E) = xce b ρ sa dA (.inl (t, vs.set n v)) := by
    rw [xce_arr ht, List.length_set]
  rw [e1, xcx_put] at hP1
  exact hr _ _ _ _ _ _ _ _ h H1 locs1 ls hl hP1 hS1 (fun q => by rw [List.length_set, ← hz q]; exact z1) (fun j hj => hA0 j (by rw [List.length_set] at hj; exact hj)) hκ hQ
theorem xdz {v : xV} (h : (Nat.beq v.1 0 || (Nat.beq v.1 2 || Nat.beq v.1 4)) = true) : xdv 0 (fun _ => 0) (fun _ => 0) v = xdv b ρ sa v := by
  match v, h with
  | (0, _), _ | (2, _), _ | (4, _), _ => rfl
  | (1, _), h | (3, _), h | (5, _), h | (6, _), h | (7, _), h => cases h
  | (n + 8, _), h => cases h
theorem xp_new (hC : xCtx b dA D M p s m args meth c A EX) (hr : xSnd al b ρ sa dA D M p l e s m args below meth c A Qc rec) {ci N : Nat} {fs : List xV} (hT : xNw (xMc M) (xMo M) pc nx ci N (fs.map (xdv 0 (fun _ => 0) (fun _ => 0)))) (hal : al = true) (hce : ce < (xMm M).cells) (hsl : sl + N ≤ (xMm M).slots) (hfs : fs.all (fun q => Nat.beq q.1 0 || (Nat.beq q.1 2 || Nat.beq q.1 4)) = true) (h : rec nx lv ((1, K.length) :: st) (K ++ [.inr (ci, fs)]) (ce + 1) (sl + N) κ = some Ls) : xGood al b ρ sa dA D M p l e s m args below meth c A Qc pc lv st K ce sl κ Ls := by
  intro H locs ls hl hP hS hz hA0 hκ hQ
  refine hT p l e _ s m args below meth c H locs ce sl _ ls _ hC.1 D (xtys dA) _ A s.heap hC.2.2.1 hP hS hce hsl (fun H1 hP1 hS1 z1 => ?_)
  have e0 : fs.map (xdv 0 (fun _ => 0) (fun _ => 0)) = fs.map (xdv b ρ sa) := List.map_congr_left (fun v hv => xdz (List.all_eq_true.mp hfs v hv))
  rw [e0, hz hal, show b + K.length = b + (0 + K.length) by omega] at hP1
  have e1 : (Sum.inr (ci, fs.map (xdv b ρ sa)) : va_E) = xce b ρ sa dA (.inr (ci, fs)) := rfl
  rw [e1, ← xcx_push] at hP1
  have := hr _ _ _ _ _ _ _ _ h H1 locs ls hl hP1 hS1 (fun q => by rw [List.length_append, z1, hz q]; rfl) (fun j hj => by
    rw [List.length_append] at hj
    by_cases hj2 : j < K.length
    · exact hA0 j hj2
    · refine hC.2.2.2.1 _ ?_
      have e2 : j = K.length := by simp at hj; omega
      rw [e2, ← hz hal]
      exact hS.1) hκ hQ
  rw [List.map_cons] at this
  rw [hz hal]
  exact this
theorem xp_newa (hC : xCtx b dA D M p s m args meth c A EX) (hr : xSnd al b ρ sa dA D M p l e s m args below meth c A Qc rec) {t n : Nat} (ht : t < 4) (hT : xNa (xMc M) (xMo M) pc nx (xty t)) (hal : al = true) (hce : ce < (xMm M).cells) (hsl : sl + n ≤ (xMm M).slots) (hn : n < 67108864) (h : rec nx lv ((1, K.length) :: st) (K ++ [.inl (t, List.replicate n (xzero t))]) (ce + 1) (sl + n) κ = some Ls) : xGood al b ρ sa dA D M p l e s m args below meth c A Qc pc lv ((0, n) :: st) K ce sl κ Ls := by
  intro H locs ls hl hP hS hz hA0 hκ hQ
  rw [List.map_cons]
  obtain ⟨-, hRA⟩ := hC.2.2.1.2 t _ (xtys_get (by omega))
  have hfc : s.vm.findClass ("[" ++ (xty t).toString) = some (dA t) := by
    match t, ht, hRA with
    | 0, _, h | 1, _, h | 2, _, h | 3, _, h => exact h
  obtain ⟨z, hz2⟩ : ∃ z : vp_A, xce b ρ sa dA (.inl (t, List.replicate n (xzero t))) = .inl (dA t, z) ∧ vp_cell (dA t) z = arrV (dA t) n (fun _ => defaultValue (xty t)) := by
    match t, ht with
    | 0, _ | 1, _ | 3, _ =>
      refine ⟨_, rfl, ?_⟩
      rw [vp_cell_i, List.length_replicate]
      congr 1
      funext j
      simp [List.getD_eq_getElem?_getD, List.getElem?_replicate, xzero, defaultValue, xty]
      split <;> rfl
    | 2, _ =>
      refine ⟨_, rfl, ?_⟩
      rw [vp_cell_l, List.length_replicate]
      congr 1
      funext j
      simp [List.getD_eq_getElem?_getD, List.getElem?_replicate, xzero, defaultValue, xty]
      split <;> rfl
  refine hT p l e _ s m args below meth c H locs ce sl _ ls _ hC.1 D (xtys dA) _ A s.heap (nI n) n z (dA t) hC.2.2.1 hP hS hfc hz2.2 (nI_pos (by omega)) (nI_clamp (by omega)) (by
    have hb : componentBytes (xty t) ≤ 8 := by
      match t, ht with
      | 0, _ | 1, _ | 2, _ | 3, _ => decide
    calc n * componentBytes (xty t) ≤ 67108864 * 8 := Nat.mul_le_mul (by omega) hb
      _ ≤ 536870912 := by decide) hce hsl (fun H1 hP1 hS1 z1 => ?_)
  rw [← hz2.1, hz hal, show b + K.length = b + (0 + K.length) by omega, ← xcx_push] at hP1
  have := hr _ _ _ _ _ _ _ _ h H1 locs ls hl hP1 hS1 (fun q => by rw [List.length_append, z1, hz q]; rfl) (fun j hj => by
    rw [List.length_append] at hj
    by_cases hj2 : j < K.length
    · exact hA0 j hj2
    · refine hC.2.2.2.1 _ ?_
      have e2 : j = K.length := by simp at hj; omega
      rw [e2, ← hz hal]
      exact hS.1) hκ hQ
  rw [List.map_cons] at this
  rw [hz hal]
  exact this
theorem xp_oinit (hC : xCtx b dA D M p s m args meth c A EX) (hr : xSnd al b ρ sa dA D M p l e s m args below meth c A Qc rec) {i : Nat} (hT : xOi (xMc M) (xMo M) pc nx) (hf : 1 ≤ (xMm M).frames) (hlo : xsum st + 12 ≤ (xMm M).locals) (h : rec nx lv st K ce sl κ = some Ls) : xGood al b ρ sa dA D M p l e s m args below meth c A Qc pc lv ((1, i) :: st) K ce sl κ Ls := by
  intro H locs ls hl hP hS hz hA0 hκ hQ
  have := hr _ _ _ _ _ _ _ _ h H locs ls hl hP hS hz hA0 hκ hQ
  rw [List.map_cons]
  exact hT p l e _ s m args below meth c H locs ce sl _ ls _ hC.1 (b + i) (by rw [hC.2.1, hl.1]) hf (by rw [xsum_ok]; exact hlo) this
theorem xp_copy (hC : xCtx b dA D M p s m args meth c A EX) (hr : xSnd al b ρ sa dA D M p l e s m args below meth c A Qc rec) {d0 s0 sp dp n : Nat} {vs ws : List xV} (hT : xCp (xMc M) (xMo M) pc nx) (hKs : K[s0]? = some (.inl (0, vs))) (hKd : K[d0]? = some (.inl (0, ws))) (h1 : sp + n ≤ vs.length) (h2 : dp + n ≤ ws.length) (h3 : sp + n < 2147483648) (h4 : dp + n < 2147483648) (hf : 1 ≤ (xMm M).frames) (hlo : xsum st + (nativeFrameWords "java/lang/System" "arraycopy" 5 + 11) ≤ (xMm M).locals) (h : rec nx lv st (K.set d0 (.inl (0, ws.take dp ++ ((vs.drop sp).take n ++ ws.drop (dp + n))))) ce sl κ = some Ls) : xGood al b ρ sa dA D M p l e s m args below meth c A Qc pc lv ((0, n) :: (0, dp) :: (1, d0) :: (0, sp) :: (1, s0) :: st) K ce sl κ Ls := by
  intro H locs ls hl hP hS hz hA0 hκ hQ
  simp only [List.map_cons]
  have hg0 := xcx_at (b := b) (ρ := ρ) (sa := sa) (dA := dA) hKs
  have hg1 := xcx_at (b := b) (ρ := ρ) (sa := sa) (dA := dA) hKd
  rw [xce_arr (Or.inl rfl)] at hg0 hg1
  refine hT p l e _ s m args below meth c H locs ce sl _ ls _ hC.1 D (xtys dA) _ A s.heap s0 d0 (b + s0) (b + d0) 0 (dA 0) vs.length ws.length _ _ (nI sp) (nI dp) (nI n) (by rw [hC.2.1, hl.1]) hC.2.2.1 hP (xcx_D hA0) hS hg0 hg1 rfl (nI_pos (by omega)) (nI_pos (by omega)) (nI_pos (by omega)) (by rw [nI_clamp (by omega), nI_clamp (by omega)]; exact h1) (by rw [nI_clamp (by omega), nI_clamp (by omega)]; exact h2) hf (by rw [xsum_ok]; exact hlo) (fun H1 locs1 hP1 hS1 z1 => ?_)
  rw [nI_clamp (by omega), nI_clamp (by omega), nI_clamp (by omega)] at hP1
  have e1 : (Sum.inl (dA 0, ws.length, .inl (va_cpy (fun j => xdi ρ (vs.getD j (0, 0))) (fun j => xdi ρ (ws.getD j (0, 0))) sp dp n)) : va_E) = xce b ρ sa dA (.inl (0, ws.take dp ++ ((vs.drop sp).take n ++ ws.drop (dp + n)))) := by
    rw [xce_arr (Or.inl rfl)]
    have el : (ws.take dp ++ ((vs.drop sp).take n ++ ws.drop (dp + n))).length = ws.length := by
      simp only [List.length_append, List.length_take, List.length_drop]
      omega
    rw [el]
    congr 4
    funext j
    simp only [va_cpy, List.getD_eq_getElem?_getD]
    by_cases hj : dp ≤ j ∧ j < dp + n
    · rw [if_pos hj, List.getElem?_append_right (by rw [List.length_take]; omega), List.getElem?_append_left (by simp only [List.length_take, List.length_drop]; omega), List.getElem?_take_of_lt (by rw [List.length_take]; omega), List.getElem?_drop]
      rw [List.length_take, Nat.min_eq_left (by omega)]
    · rw [if_neg hj]
      by_cases hj2 : j < dp
      · rw [List.getElem?_append_left (by rw [List.length_take]; omega), List.getElem?_take_of_lt hj2]
      · rw [List.getElem?_append_right (by rw [List.length_take]; omega), List.getElem?_append_right (by simp only [List.length_take, List.length_drop]; omega), List.getElem?_drop]
        congr 3
        simp only [List.length_take, List.length_drop]
        omega
  rw [e1, xcx_put] at hP1
  exact hr _ _ _ _ _ _ _ _ h H1 locs1 ls hl hP1 hS1 (fun q => by rw [List.length_set, ← hz q]; exact z1) (fun j hj => hA0 j (by rw [List.length_set] at hj; exact hj)) hκ hQ
/-- any next state that is good -/
noncomputable def xcl (al : Bool) (b : Nat) (ρ : Nat → Int32) (sa : Nat → Nat) (dA : Nat → ClassId) (D : va_G) (M : xM) (p : Program) (l : Launch) (e : Env) (s : State) (m : MethodId) (args : Array Value) (below : List Frame) (meth : Method) (c : Code) (A : Nat → Prop) (Qc : Array Value → State → Outcome → State → Prop) (Ls : List xR) : xRec := fun pc lv st K ce sl κ => @ite (Option (List xR)) (xGood al b ρ sa dA D M p l e s m args below meth c A Qc pc lv st K ce sl κ Ls) (Classical.propDecidable _) (some Ls) none
theorem xcl_ok : xSnd al b ρ sa dA D M p l e s m args below meth c A Qc (xcl al b ρ sa dA D M p l e s m args below meth c A Qc Ls) := by
  intro pc lv st K ce sl κ L h
  simp only [xcl] at h
  split at h
  · next hg =>
    cases h
    exact hg
  · cases h
theorem xcl_in {pc : Nat} {lv : xL} {st : List xV} {K : xH} {ce sl : Nat} {κ : xK} (h : xGood al b ρ sa dA D M p l e s m args below meth c A Qc pc lv st K ce sl κ Ls) : xcl al b ρ sa dA D M p l e s m args below meth c A Qc Ls pc lv st K ce sl κ = some Ls := if_pos h
theorem xadd0 (i : Nat) : fbin 0 (nI 0) (nI i) = nI i := by
  show nI 0 + nI i = nI i
  rw [show nI 0 = 0 from by decide +kernel, Int32.zero_add]
/-- a turn of the loop -/
theorem xp_turn (hC : xCtx b dA D M p s m args meth c A EX) (hok : ∀ q ∈ xlops, xok mt M q.1 q.2) (hM2 : 2 < xMl M) {o k : Nat} {fs : List xV} (hK : K[o]? = some (.inr (12, fs))) {a1 a2 a3 : Nat} {vs1 vs2 vs3 : List xV} (hf1 : fs[53]? = some (1, a1)) (hf2 : fs[54]? = some (1, a2)) (hf3 : fs[3]? = some (1, a3)) (hK1 : K[a1]? = some (.inl (0, vs1))) (hK2 : K[a2]? = some (.inl (0, vs2))) (hK3 : K[a3]? = some (.inl (0, vs3))) (hv3 : vs3[2]? = some (0, 0)) {i : Nat} (hi : i < 1000) (hv1 : vs1[i]? = some (0, 0)) (hv2 : vs2[i]? = some (0, 0))
    (hnext : xGood al b ρ sa dA D M p l e s m args below meth c A Qc 6 [(2, (0, i + 1)), (0, (1, o)), (1, (3, k))] [] K ce sl κ Ls) : xGood al b ρ sa dA D M p l e s m args below meth c A Qc 11 [(2, (0, i)), (0, (1, o)), (1, (3, k))] [] K ce sl κ Ls := by
  have r11 := hok (11, (2, 12, 1, 0, [])) (by decide)
  have r12 := hok (12, (16, 15, 12, 53, [])) (by decide)
  have r15 := hok (15, (0, 18, 1000, 0, [])) (by decide)
  have r18 := hok (18, (2, 19, 1, 0, [])) (by decide)
  have r19 := hok (19, (16, 22, 12, 3, [])) (by decide)
  have r22 := hok (22, (0, 23, 2, 0, [])) (by decide)
  have r23 := hok (23, (19, 24, 0, 0, [])) (by decide)
  have r24 := hok (24, (5, 25, 2, 0, [])) (by decide)
  have r25 := hok (25, (2, 26, 0, 2, [])) (by decide)
  have r26 := hok (26, (5, 27, 0, 0, [])) (by decide)
  have r27 := hok (27, (0, 28, 0, 0, [])) (by decide)
  have r28 := hok (28, (21, 29, 0, 0, [])) (by decide)
  have r29 := hok (29, (2, 30, 1, 0, [])) (by decide)
  have r30 := hok (30, (16, 33, 12, 54, [])) (by decide)
  have r33 := hok (33, (0, 36, 1000, 0, [])) (by decide)
  have r36 := hok (36, (2, 37, 1, 0, [])) (by decide)
  have r37 := hok (37, (16, 40, 12, 3, [])) (by decide)
  have r40 := hok (40, (0, 41, 2, 0, [])) (by decide)
  have r41 := hok (41, (19, 42, 0, 0, [])) (by decide)
  have r42 := hok (42, (5, 43, 2, 0, [])) (by decide)
  have r43 := hok (43, (2, 44, 0, 2, [])) (by decide)
  have r44 := hok (44, (5, 45, 0, 0, [])) (by decide)
  have r45 := hok (45, (0, 46, 0, 0, [])) (by decide)
  have r46 := hok (46, (21, 47, 0, 0, [])) (by decide)
  have r47 := hok (47, (4, 50, 2, 1, [])) (by decide)
  have r50 := hok (50, (14, 6, 0, 0, [])) (by decide)
  have hm : fbin 2 (nI 1000) (nI 0) = nI 0 := by decide +kernel
  have hl1 := (List.getElem?_eq_some_iff.mp hv1).1
  have hl2 := (List.getElem?_eq_some_iff.mp hv2).1
  refine xp_load hC xcl_ok r11.1 r11.2 (v := (1, o)) rfl rfl (xcl_in ?_)
  refine xp_getf hC xcl_ok r12 hK hf1 (xcl_in ?_)
  refine xp_T hC xcl_ok (st0 := []) (st1 := [(0, 1000)]) r15 (xcl_in ?_)
  refine xp_load hC xcl_ok r18.1 r18.2 (v := (1, o)) rfl rfl (xcl_in ?_)
  refine xp_getf hC xcl_ok r19 hK hf3 (xcl_in ?_)
  refine xp_T hC xcl_ok (st0 := []) (st1 := [(0, 2)]) r22 (xcl_in ?_)
  refine xp_read hC xcl_ok (n := 2) (v := (0, 0)) r23.1 r23.2 rfl (by decide) hK3 hv3 rfl (xcl_in ?_)
  refine xp_bin hC xcl_ok (w := (0, 0)) r24 (fun _ => ⟨rfl, rfl, congrArg Value.int hm.symm, fun z => by rcases z with z | z <;> cases z⟩) (xcl_in ?_)
  refine xp_load hC xcl_ok r25.1 r25.2 (v := (0, i)) rfl rfl (xcl_in ?_)
  refine xp_bin hC xcl_ok (w := (0, i)) r26 (fun _ => ⟨rfl, rfl, congrArg Value.int (xadd0 i).symm, fun z => by rcases z with z | z <;> cases z⟩) (xcl_in ?_)
  refine xp_T hC xcl_ok (st0 := []) (st1 := [(0, 0)]) r27 (xcl_in ?_)
  refine xp_write hC xcl_ok (n := i) (v := (0, 0)) (Or.inl rfl) r28 rfl (by omega) hK1 hl1 rfl rfl (xcl_in ?_)
  rw [xset_same hK1 hv1]
  refine xp_load hC xcl_ok r29.1 r29.2 (v := (1, o)) rfl rfl (xcl_in ?_)
  refine xp_getf hC xcl_ok r30 hK hf2 (xcl_in ?_)
  refine xp_T hC xcl_ok (st0 := []) (st1 := [(0, 1000)]) r33 (xcl_in ?_)
  refine xp_load hC xcl_ok r36.1 r36.2 (v := (1, o)) rfl rfl (xcl_in ?_)
  refine xp_getf hC xcl_ok r37 hK hf3 (xcl_in ?_)
  refine xp_T hC xcl_ok (st0 := []) (st1 := [(0, 2)]) r40 (xcl_in ?_)
  refine xp_read hC xcl_ok (n := 2) (v := (0, 0)) r41.1 r41.2 rfl (by decide) hK3 hv3 rfl (xcl_in ?_)
  refine xp_bin hC xcl_ok (w := (0, 0)) r42 (fun _ => ⟨rfl, rfl, congrArg Value.int hm.symm, fun z => by rcases z with z | z <;> cases z⟩) (xcl_in ?_)
  refine xp_load hC xcl_ok r43.1 r43.2 (v := (0, i)) rfl rfl (xcl_in ?_)
  refine xp_bin hC xcl_ok (w := (0, i)) r44 (fun _ => ⟨rfl, rfl, congrArg Value.int (xadd0 i).symm, fun z => by rcases z with z | z <;> cases z⟩) (xcl_in ?_)
  refine xp_T hC xcl_ok (st0 := []) (st1 := [(0, 0)]) r45 (xcl_in ?_)
  refine xp_write hC xcl_ok (n := i) (v := (0, 0)) (Or.inl rfl) r46 rfl (by omega) hK2 hl2 rfl rfl (xcl_in ?_)
  rw [xset_same hK2 hv2]
  refine xp_iinc hC xcl_ok (x := i) (n := 1) r47 rfl hM2 (xcl_in ?_)
  rw [Nat.mod_eq_of_lt (show i + 1 < 4294967296 by omega)]
  exact xp_T hC xcl_ok (st0 := []) (st1 := []) r50 (xcl_in hnext)
theorem xp_clear (hC : xCtx b dA D M p s m args meth c A EX) (hok : ∀ q ∈ xlops, xok mt M q.1 q.2) (hM2 : 2 < xMl M) {o k : Nat} {fs : List xV} (hK : K[o]? = some (.inr (12, fs))) (hx : xin0 κ.2 k = true) (h1 : xzf K fs 53 1000 = true) (h2 : xzf K fs 54 1000 = true) (h3 : xzf K fs 3 3 = true)
    (hend : xGood al b ρ sa dA D M p l e s m args below meth c A Qc 53 [(0, (1, o)), (1, (3, k))] [] K ce sl κ Ls) : ∀ (d i : Nat), i + d = 1000 → xGood al b ρ sa dA D M p l e s m args below meth c A Qc 6 [(2, (0, i)), (0, (1, o)), (1, (3, k))] [] K ce sl κ Ls := by
  obtain ⟨a1, vs1, hf1, hK1, hv1⟩ := xzf_ok h1
  obtain ⟨a2, vs2, hf2, hK2, hv2⟩ := xzf_ok h2
  obtain ⟨a3, vs3, hf3, hK3, hv3⟩ := xzf_ok h3
  have r6 := hok (6, (2, 7, 0, 2, [])) (by decide)
  have r7 := hok (7, (2, 8, 0, 1, [])) (by decide)
  have r8 := hok (8, (13, 11, 53, 4, [])) (by decide)
  intro d
  induction d with
  | zero =>
    intro i hid H locs ls hl hP hS hz hA0 hκ hQ
    obtain ⟨n, hn, en⟩ := xin0_ok hκ hx
    refine r6.2 p l e _ s m args below meth c H locs ce sl _ ls _ hC.1 (.int (nI i)) ⟨_, rfl⟩ (hl.2.2 (2, .int (nI i)) List.mem_cons_self) ?_
    refine r7.2 p l e _ s m args below meth c H locs ce sl _ ls _ hC.1 (.int (ρ k)) ⟨_, rfl⟩ (hl.2.2 (1, .int (ρ k)) (List.mem_cons_of_mem _ (List.mem_cons_of_mem _ List.mem_cons_self))) ?_
    refine r8 p l e _ s m args below meth c H locs ce sl _ ls _ hC.1 _ _ (fun hc => ?_) (fun hc => ?_)
    · exact hend H locs ls ⟨hl.1, hl.2.1, fun q hq => hl.2.2 q (List.mem_cons_of_mem _ hq)⟩ hP hS hz hA0 hκ hQ
    · refine absurd ?_ hc
      show ρ k < nI i
      rw [sgI_ltI, en, sgI_nI (by omega), sgI_nI (by omega)]
      simp only [xsg]
      omega
  | succ d ih =>
    intro i hid H locs ls hl hP hS hz hA0 hκ hQ
    refine r6.2 p l e _ s m args below meth c H locs ce sl _ ls _ hC.1 (.int (nI i)) ⟨_, rfl⟩ (hl.2.2 (2, .int (nI i)) List.mem_cons_self) ?_
    refine r7.2 p l e _ s m args below meth c H locs ce sl _ ls _ hC.1 (.int (ρ k)) ⟨_, rfl⟩ (hl.2.2 (1, .int (ρ k)) (List.mem_cons_of_mem _ (List.mem_cons_of_mem _ List.mem_cons_self))) ?_
    refine r8 p l e _ s m args below meth c H locs ce sl _ ls _ hC.1 _ _ (fun hc => ?_) (fun hc => ?_)
    · exact hend H locs ls ⟨hl.1, hl.2.1, fun q hq => hl.2.2 q (List.mem_cons_of_mem _ hq)⟩ hP hS hz hA0 hκ hQ
    · exact xp_turn hC hok hM2 hK hf1 hf2 hf3 hK1 hK2 hK3 (hv3 2 (by decide)) (by omega) (hv1 i (by omega)) (hv2 i (by omega)) (ih (i + 1) (by omega)) H locs ls hl hP hS hz hA0 hκ hQ
end XC
end
section
/-- what may be said of a callee's end -/
def xQp (al : Bool) (b : Nat) (ρ : Nat → Int32) (sa : Nat → Nat) (dA : Nat → ClassId) (D : va_G) (n sz : Nat) (Ls : List xR) : State → Outcome → State → Prop := fun u o t =>
  ∃ lf ∈ Ls, xKok ρ lf.1 ∧ o = .returned (lf.2.1.map (xdv b ρ sa)) ∧ va_P D vwCl (xcx b ρ sa dA 0 lf.2.2) t.heap ∧ (al = true → t.heap.size = b + lf.2.2.length) ∧ (∀ i, i < lf.2.2.length → xA b n sz (b + i)) ∧ va_F (xA b n sz) u t
def xPp (al : Bool) (b : Nat) (ρ : Nat → Int32) (sa : Nat → Nat) (dA : Nat → ClassId) (D : va_G) (EX : State → Prop) (K : xH) (sz : Nat) (U : State) : Prop := U.heap.size = sz ∧ va_P D vwCl (xcx b ρ sa dA 0 K) U.heap ∧ va_K D vwCl (xtys dA) U ∧ (al = true → U.heap.size = b + K.length) ∧ EX U
abbrev xWs (M : xM) : List Cond := .code (xMy M) (xMc M) (xMl M) (xMr M) :: xgt
def xMet (al : Bool) (b : Nat) (ρ : Nat → Int32) (sa : Nat → Nat) (dA : Nat → ClassId) (D : va_G) (EX : State → Prop) (l : Launch) (M : xM) (avs : List xV) (K : xH) (Ls : List xR) (sz : Nat) : Prop :=
  Met l (xMy M) (xWs M) (xMm M) (va_Pc (avs.map (xdv b ρ sa)) (xPp al b ρ sa dA D EX K sz)) (fun _ => xQp al b ρ sa dA D K.length sz Ls) (xMm M).cells (xMm M).slots (xA b K.length sz)
/-- facts beside the world, that stay -/
def xEok (b : Nat) (sa : Nat → Nat) (EX : State → Prop) : Prop := (∀ (U : State) (g : JFrame) (mk : MethodId) (a : Array Value), EX U → EX (U.calling g mk a)) ∧ (∀ s U : State, EX s → s.WarmedH U.vm → (∀ q, q < b → U.heap[q]? = s.heap[q]?) → EX U) ∧ ∀ s, EX s → xFx b sa s
section XD
variable {al : Bool} {b : Nat} {ρ : Nat → Int32} {sa : Nat → Nat} {dA : Nat → ClassId} {D : va_G} {M : xM} {p : Program} {l : Launch} {e : Env} {s : State} {m : MethodId} {args : Array Value} {below : List Frame} {meth : Method} {c : Code} {A : Nat → Prop} {Qc : Array Value → State → Outcome → State → Prop} {EX : State → Prop}
variable {mt : List xM} {ds : xD} {rec : xRec} {pc nx : Nat} {lv : xL} {st : List xV} {K : xH} {ce sl : Nat} {κ : xK} {Ls : List xR}
theorem xp_iret (hC : xCtx b dA D M p s m args meth c A EX) {v : xV} {ty : FieldType} (hd : decode (xMc M) pc = .ok (.ireturn, 1)) (hr : xMr M = some ty) (hti : ty = .int ∨ ty = .boolean) (hf : xfit (xtc ty) v = true) (h1 : ce ≤ (xMm M).cells) (h2 : sl ≤ (xMm M).slots) : xGood al b ρ sa dA D M p l e s m args below meth c A Qc pc lv [v] K ce sl κ [(κ, some (xnm κ.2 v), K)] := by
  intro H locs ls hl hP hS hz hA0 hκ hQ
  have hk : xkdb 0 v = true := by
    rcases hti with rfl | rfl
    · exact hf
    · simp only [xtc, xfit, Bool.and_eq_true] at hf
      simp only [xkdb, hf.1, Bool.true_or]
  have e0 : xdv b ρ sa v = .int (xdi ρ v) := xk0 hk
  have hn := (xfit_ok hf (b := b) (ρ := ρ) (sa := sa)).1
  rw [e0] at hn
  refine W.widen (k := (xMm M).cells) (n := (xMm M).slots) h1 h2 ?_
  rw [show [v].map (xdv b ρ sa) = [.int (xdi ρ v)] by rw [← e0]; rfl]
  refine W.zret hC.1.1 hC.1.2.1 (by rw [hC.2.2.2.2.2.1]; exact hr) hn (fun t ht _ => ?_) hS.2.2 hd hC.2.2.2.2.2.2.1
  have := hQ _ List.mem_cons_self hκ t (by rw [ht]; exact hP) (fun q => by rw [ht]; exact hz q) hA0 (hS.F ht)
  dsimp only [Option.map] at this
  rw [(xnm_ok hκ v).1, e0] at this
  exact this
theorem xp_lret (hC : xCtx b dA D M p s m args meth c A EX) {v : xV} (hd : decode (xMc M) pc = .ok (.lreturn, 1)) (hr : xMr M = some .long) (hf : xkdb 2 v = true) (h1 : ce ≤ (xMm M).cells) (h2 : sl ≤ (xMm M).slots) : xGood al b ρ sa dA D M p l e s m args below meth c A Qc pc lv [v] K ce sl κ [(κ, some v, K)] := by
  intro H locs ls hl hP hS hz hA0 hκ hQ
  have e0 : xdv b ρ sa v = .long (lN v.2) := xk2 hf
  refine W.widen (k := (xMm M).cells) (n := (xMm M).slots) h1 h2 ?_
  rw [show [v].map (xdv b ρ sa) = [.long (lN v.2)] by rw [← e0]; rfl]
  refine W.lret hC.1.1 hC.1.2.1 (by rw [hC.2.2.2.2.2.1]; exact hr) (fun t ht _ => ?_) hS.2.2 hd hC.2.2.2.2.2.2.1
  have := hQ _ List.mem_cons_self hκ t (by rw [ht]; exact hP) (fun q => by rw [ht]; exact hz q) hA0 (hS.F ht)
  dsimp only [Option.map] at this
  rw [e0] at this
  exact this
theorem xp_vret (hC : xCtx b dA D M p s m args meth c A EX) (hd : decode (xMc M) pc = .ok (.return_, 1)) (hr : xMr M = none) (h1 : ce ≤ (xMm M).cells) (h2 : sl ≤ (xMm M).slots) : xGood al b ρ sa dA D M p l e s m args below meth c A Qc pc lv [] K ce sl κ [(κ, none, K)] := by
  intro H locs ls hl hP hS hz hA0 hκ hQ
  refine W.widen (k := (xMm M).cells) (n := (xMm M).slots) h1 h2 ?_
  exact W.vret hC.1.1 hC.1.2.1 (by rw [hC.2.2.2.2.2.1]; exact hr) (fun t ht _ => hQ _ List.mem_cons_self hκ t (by rw [ht]; exact hP) (fun q => by rw [ht]; exact hz q) hA0 (hS.F ht)) hS.2.2 hd hC.2.2.2.2.2.2.1
/-- behind a call -/
theorem xp_call (hC : xCtx b dA D M p s m args meth c A EX) (hr : xSnd al b ρ sa dA D M p l e s m args below meth c A Qc rec) {mc ms : Nat} {rest : List xV} {Lc : List xR}
    (hrun : ∀ (H : Heap) (locs : List Loc) (ls : Array Slot), lv_has ls (xMl M) (xdL b ρ sa lv) → va_P D vwCl (xcx b ρ sa dA 0 K) H → va_S A s.heap H locs → (al = true → H.size = b + K.length) → xKok ρ κ → va_Run p l e (xMm M) s m args below meth c H locs ce sl mc ms (F0 m pc ls (st.map (xdv b ρ sa))) (rest.map (xdv b ρ sa)) (xQp al b ρ sa dA D K.length H.size Lc) (xA b K.length H.size))
    (hall : ∀ lf ∈ Lc, ∃ L, rec (pc + 3) lv (xput rest lf.2.1) lf.2.2 (ce + mc) (sl + ms) lf.1 = some L ∧ ∀ q ∈ L, q ∈ Ls) : xGood al b ρ sa dA D M p l e s m args below meth c A Qc pc lv st K ce sl κ Ls := by
  intro H locs ls hl hP hS hz hA0 hκ hQ
  intro T hT X
  obtain ⟨v, st₀, t, T', L, h0, X', hL, e1, e2, ⟨lf, hlf, k1, k2, k3, k4, k5, k6⟩, stp⟩ := hrun H locs ls hl hP hS hz hκ T hT X
  have ev : v = lf.2.1.map (xdv b ρ sa) := by injection k2
  obtain ⟨L2, g1, g2⟩ := hall lf hlf
  have hsub : ∀ q, xA b K.length H.size q → A q := by
    rintro q (⟨a1, a2⟩ | a1)
    · have := hA0 (q - b) (by omega)
      rwa [show b + (q - b) = q by omega] at this
    · exact hC.2.2.2.1 q (Nat.le_trans hS.1 a1)
  obtain ⟨f1, f2⟩ := k6
  rw [h0] at f1 f2
  have hS2 : va_S A s.heap T'.heap (locs ++ L) := ⟨by rw [e1]; exact Nat.le_trans hS.1 f1, fun q q1 q2 => by
    rw [e1, f2 q (Nat.lt_of_lt_of_le q1 hS.1) (fun z => q2 (hsub q z))]
    exact hS.2.1 q q1 q2, fun q hq => by
    rcases List.mem_append.mp hq with h | h
    · exact hS.2.2 q h
    · exact hsub _ (hL q h)⟩
  have W2 := hr _ _ _ _ _ _ _ _ g1 T'.heap (locs ++ L) ls hl (by rw [e1]; exact k3) hS2 (fun q => by rw [e1]; exact k4 q) (fun i hi => hsub _ (k5 i hi)) k1 (hQ.sub g2)
  obtain ⟨t2, a1, b1⟩ := W2 T' rfl X'
  refine ⟨t2, stp t2 ?_, b1⟩
  have es : v.toList ++ rest.map (xdv b ρ sa) = (xput rest lf.2.1).map (xdv b ρ sa) := by
    rw [ev]
    cases lf.2.1 <;> rfl
  rw [es]
  exact a1
theorem xgt_in' {ws : List Cond} (h : ∀ w ∈ ws, w ∈ xgt) : GoodIn xgt ws := fun w hw => ⟨h w hw, xgt_good w (h w hw)⟩
theorem xWs_in {M' : xM} (h : xMok mt M') : ∀ w ∈ xWs M', w ∈ xgt := fun w hw => by
  rcases List.mem_cons.mp hw with rfl | hw
  · exact h.1
  · exact hw
theorem xPp_blind {avs : List Value} {sz : Nat} (hE : xEok b sa EX) : FrameBlind (va_Pc avs (xPp al b ρ sa dA D EX K sz)) := by
  rintro a U g mk ⟨h1, h2, h3, h4, h5, h6⟩
  exact ⟨h1, h2, h3, va_K.moved (u := U) (U := U.calling g mk a) (Vm.Alike.refl U.vm) h4, h5, hE.1 U g mk a h6⟩
theorem xPp_at (hC : xCtx b dA D M p s m args meth c A EX) (hE : xEok b sa EX) {H : Heap} {locs : List Loc} (hP : va_P D vwCl (xcx b ρ sa dA 0 K) H) (hS : va_S A s.heap H locs) (hz : al = true → H.size = b + K.length) (U : State) (hU : U.heap = H) (hW : s.WarmedH U.vm) : xPp al b ρ sa dA D EX K H.size U := by
  refine ⟨by rw [hU], by rw [hU]; exact hP, va_K.moved hW.alike hC.2.2.1, fun q => by rw [hU]; exact hz q, hE.2.1 s U hC.2.2.2.2.2.2.2.2.1 hW (fun q hq => ?_)⟩
  rw [hU]
  have hb := hC.2.2.2.2.2.2.2.2.2
  exact hS.2.1 q (by omega) (fun z => by have := hC.2.2.2.2.1 q z; omega)
theorem xroom_ok {M' : xM} (h : xroom (xMm M) M' ce sl = true) : ((xMm M').frames + 1 ≤ (xMm M).frames ∧ 8 + (xMl M' + 11) + (xMm M').locals ≤ (xMm M).locals) ∧ ce + (xMm M').cells ≤ (xMm M).cells ∧ sl + (xMm M').slots ≤ (xMm M).slots := by
  simp only [xroom, Bool.and_eq_true, Nat.ble_eq] at h
  exact ⟨⟨h.1, h.2.1⟩, h.2.2.1, h.2.2.2⟩
theorem xp_runS (hC : xCtx b dA D M p s m args meth c A EX) (hE : xEok b sa EX) {M' : xM} (hM' : xMok mt M') (hc : xcS M pc M') (hrm : xroom (xMm M) M' ce sl = true) {avs rest : List xV} (hst : st = avs.reverse ++ rest) (hn : avs.length = xMn M') (hrest : xsum rest ≤ 8) {Lc : List xR} (hMet : xKok ρ κ → ∀ sz, b ≤ sz → xMet al b ρ sa dA D EX l M' avs K Lc sz)
    (H : Heap) (locs : List Loc) (ls : Array Slot) (hl : lv_has ls (xMl M) (xdL b ρ sa lv)) (hP : va_P D vwCl (xcx b ρ sa dA 0 K) H) (hS : va_S A s.heap H locs) (hz : al = true → H.size = b + K.length) (hκ : xKok ρ κ) : va_Run p l e (xMm M) s m args below meth c H locs ce sl (xMm M').cells (xMm M').slots (F0 m pc ls (st.map (xdv b ρ sa))) (rest.map (xdv b ρ sa)) (xQp al b ρ sa dA D K.length H.size Lc) (xA b K.length H.size) := by
  obtain ⟨ix, hd, w1, w2⟩ := hc
  obtain ⟨r1, r2⟩ := xroom_ok hrm
  have hts := hC.1.2.2.2
  exact va_runS (As := avs.map (xdv b ρ sa)) (n := xMn M') (bytes := xMc M') (maxL := xMl M') (ret := xMr M') ⟨hC.1.1, hC.1.2.1, hC.2.1, hC.1.2.2.1, hts⟩ (hMet hκ H.size (Nat.le_trans hC.2.2.2.2.2.2.2.2.2 hS.1)) ⟨callB_of (xMn M') hts (xgt_in' (xWs_in hM')) rfl rfl rfl (hts _ hM'.2.1) (hts _ w1) hM'.2.2.1 r1, hts _ w2⟩ ⟨xPp_blind hE, fun U hU hW => ⟨rfl, xPp_at hC hE hP hS hz U hU hW⟩⟩ rfl (by rw [List.length_map]; exact hn) hl.1 (by rw [hst, List.map_append, List.map_reverse]) (lv_room (by rw [xsum_ok]; exact hrest)) hd r2
theorem xp_runV (hC : xCtx b dA D M p s m args meth c A EX) (hE : xEok b sa EX) {M' : xM} (hM' : xMok mt M') (hc : xcV M pc M') (hrm : xroom (xMm M) M' ce sl = true) {avs rest : List xV} {i ci : Nat} {fs : List xV} {q : vw_C} (hKi : K[i]? = some (.inr (ci, fs))) (hq : vwCl[ci]? = some q) (hqn : q.1 = (xMy M').cls) (hst : st = avs.reverse ++ (1, i) :: rest) (hn : avs.length = xMn M') (hrest : xsum rest ≤ 8) {Lc : List xR} (hMet : xKok ρ κ → ∀ sz, b ≤ sz → xMet al b ρ sa dA D EX l M' ((1, i) :: avs) K Lc sz)
    (H : Heap) (locs : List Loc) (ls : Array Slot) (hl : lv_has ls (xMl M) (xdL b ρ sa lv)) (hP : va_P D vwCl (xcx b ρ sa dA 0 K) H) (hS : va_S A s.heap H locs) (hz : al = true → H.size = b + K.length) (hκ : xKok ρ κ) : va_Run p l e (xMm M) s m args below meth c H locs ce sl (xMm M').cells (xMm M').slots (F0 m pc ls (st.map (xdv b ρ sa))) (rest.map (xdv b ρ sa)) (xQp al b ρ sa dA D K.length H.size Lc) (xA b K.length H.size) := by
  obtain ⟨ix, hd, w1, w2, w3⟩ := hc
  obtain ⟨r1, r2⟩ := xroom_ok hrm
  have hts := hC.1.2.2.2
  have hrc := va_recv hC.2.2.1 hP hq (xcx_at hKi)
  rw [hqn] at hrc
  exact va_runV (As := avs.map (xdv b ρ sa)) (b := b + i) (C := (xMy M').cls) (n := xMn M') (bytes := xMc M') (maxL := xMl M') (ret := xMr M') ⟨hC.1.1, hC.1.2.1, hC.2.1, hC.1.2.2.1, hts⟩ (hMet hκ H.size (Nat.le_trans hC.2.2.2.2.2.2.2.2.2 hS.1)) ⟨callB_of (xMn M') hts (xgt_in' (xWs_in hM')) rfl rfl rfl (hts _ hM'.2.1) (hts _ w1) hM'.2.2.1 r1, hts _ w2, hts _ w3⟩ ⟨xPp_blind hE, hrc, fun U hU hW => ⟨rfl, xPp_at hC hE hP hS hz U hU hW⟩⟩ rfl (by rw [List.length_map]; exact hn) hl.1 (by rw [hst, List.map_append, List.map_reverse]; rfl) (lv_room (by rw [xsum_ok]; exact hrest)) hd r2
theorem xp_runI (hC : xCtx b dA D M p s m args meth c A EX) (hE : xEok b sa EX) {M' : xM} (hM' : xMok mt M') (hc : xcI M pc M') (hrm : xroom (xMm M) M' ce sl = true) {avs rest : List xV} {i : Nat} (hst : st = avs.reverse ++ (1, i) :: rest) (hn : avs.length = xMn M') (hrest : xsum rest ≤ 8) {Lc : List xR} (hMet : xKok ρ κ → ∀ sz, b ≤ sz → xMet al b ρ sa dA D EX l M' ((1, i) :: avs) K Lc sz)
    (H : Heap) (locs : List Loc) (ls : Array Slot) (hl : lv_has ls (xMl M) (xdL b ρ sa lv)) (hP : va_P D vwCl (xcx b ρ sa dA 0 K) H) (hS : va_S A s.heap H locs) (hz : al = true → H.size = b + K.length) (hκ : xKok ρ κ) : va_Run p l e (xMm M) s m args below meth c H locs ce sl (xMm M').cells (xMm M').slots (F0 m pc ls (st.map (xdv b ρ sa))) (rest.map (xdv b ρ sa)) (xQp al b ρ sa dA D K.length H.size Lc) (xA b K.length H.size) := by
  obtain ⟨ix, hd, w1, w2, w3, w4⟩ := hc
  obtain ⟨r1, r2⟩ := xroom_ok hrm
  have hts := hC.1.2.2.2
  have hM := hMet hκ H.size (Nat.le_trans hC.2.2.2.2.2.2.2.2.2 hS.1)
  have hpp : PreS s H (va_Pc (((1, i) :: avs).map (xdv b ρ sa)) (xPp al b ρ sa dA D EX K H.size)) (.ref (b + i) :: avs.map (xdv b ρ sa)) := ⟨xPp_blind hE, fun U hU hW => ⟨rfl, xPp_at hC hE hP hS hz U hU hW⟩⟩
  rcases w4 with w4 | ⟨host, w4⟩
  · exact va_runI (As := avs.map (xdv b ρ sa)) (b := b + i) (n := xMn M') (bytes := xMc M') (maxL := xMl M') ⟨hC.1.1, hC.1.2.1, hC.2.1, hC.1.2.2.1, hts⟩ hM ⟨callB_of (ws' := xgt) (xMn M') hts (xgt_in' (xWs_in hM')) (by rw [xWs, w2]) rfl rfl (hts _ hM'.2.1) (hts _ w4) hM'.2.2.1 r1, w1, hts _ w3⟩ hpp rfl (by rw [List.length_map]; exact hn) hl.1 (by rw [hst, List.map_append, List.map_reverse]; rfl) (lv_room (by rw [xsum_ok]; exact hrest)) hd r2
  · exact va_runIN (As := avs.map (xdv b ρ sa)) (b := b + i) (n := xMn M') (bytes := xMc M') (maxL := xMl M') (host := host) ⟨hC.1.1, hC.1.2.1, hC.2.1, hC.1.2.2.1, hts⟩ hM ⟨va_cnB (ws' := xgt) (xMn M') hts (xgt_in' (xWs_in hM')) (by rw [xWs, w2]) rfl rfl ((hE.2.2 s hC.2.2.2.2.2.2.2.2.1).1 _ w4) (hts _ hM'.2.1) hM'.2.2.1 r1, w1, hts _ w3⟩ hpp rfl (by rw [List.length_map]; exact hn) hl.1 (by rw [hst, List.map_append, List.map_reverse]; rfl) (lv_room (by rw [xsum_ok]; exact hrest)) hd r2
theorem xp_zret (hC : xCtx b dA D M p s m args meth c A EX) {n : Nat} {ty : FieldType} (hd : decode (xMc M) pc = .ok (.ireturn, 1)) (hr : xMr M = some ty) (hn : narrow ty (.int (nI n)) = .int (nI n)) (h1 : ce ≤ (xMm M).cells) (h2 : sl ≤ (xMm M).slots) : xGood al b ρ sa dA D M p l e s m args below meth c A Qc pc lv [(0, n)] K ce sl κ [(κ, some (0, n), K)] := by
  intro H locs ls hl hP hS hz hA0 hκ hQ
  refine W.widen (k := (xMm M).cells) (n := (xMm M).slots) h1 h2 ?_
  exact W.zret hC.1.1 hC.1.2.1 (by rw [hC.2.2.2.2.2.1]; exact hr) hn (fun t ht _ => hQ _ List.mem_cons_self hκ t (by rw [ht]; exact hP) (fun q => by rw [ht]; exact hz q) hA0 (hS.F ht)) hS.2.2 hd hC.2.2.2.2.2.2.1
theorem xp_runVs (hC : xCtx b dA D M p s m args meth c A EX) (hE : xEok b sa EX) {M' : xM} (hM' : xMok mt M') (hc : xcV M pc M') (hrm : xroom (xMm M) M' ce sl = true) {avs rest : List xV} {k : Nat} (hk : k < 3) (hcls : (xMy M').cls = "java/lang/String") (hst : st = avs.reverse ++ (5, k) :: rest) (hn : avs.length = xMn M') (hrest : xsum rest ≤ 8) {Lc : List xR} (hMet : xKok ρ κ → ∀ sz, b ≤ sz → xMet al b ρ sa dA D EX l M' ((5, k) :: avs) K Lc sz)
    (H : Heap) (locs : List Loc) (ls : Array Slot) (hl : lv_has ls (xMl M) (xdL b ρ sa lv)) (hP : va_P D vwCl (xcx b ρ sa dA 0 K) H) (hS : va_S A s.heap H locs) (hz : al = true → H.size = b + K.length) (hκ : xKok ρ κ) : va_Run p l e (xMm M) s m args below meth c H locs ce sl (xMm M').cells (xMm M').slots (F0 m pc ls (st.map (xdv b ρ sa))) (rest.map (xdv b ρ sa)) (xQp al b ρ sa dA D K.length H.size Lc) (xA b K.length H.size) := by
  obtain ⟨ix, hd, w1, w2, w3⟩ := hc
  obtain ⟨r1, r2⟩ := xroom_ok hrm
  have hts := hC.1.2.2.2
  have hrc : ∃ cellB : Cell, H[sa k]? = some cellB ∧ cellB.vm.isStatics = false ∧ s.vm.findClass (xMy M').cls = some cellB.cls := by
    obtain ⟨cell, g1, g2, g3, -⟩ := (((hE.2.2 s hC.2.2.2.2.2.2.2.2.1).2.2.1 k hk).1.narrow hC.2.2.2.2.1).kept hS.2.1
    exact ⟨cell, g1, g2, by rw [hcls]; exact g3⟩
  exact va_runV (As := avs.map (xdv b ρ sa)) (b := sa k) (C := (xMy M').cls) (n := xMn M') (bytes := xMc M') (maxL := xMl M') (ret := xMr M') ⟨hC.1.1, hC.1.2.1, hC.2.1, hC.1.2.2.1, hts⟩ (hMet hκ H.size (Nat.le_trans hC.2.2.2.2.2.2.2.2.2 hS.1)) ⟨callB_of (xMn M') hts (xgt_in' (xWs_in hM')) rfl rfl rfl (hts _ hM'.2.1) (hts _ w1) hM'.2.2.1 r1, hts _ w2, hts _ w3⟩ ⟨xPp_blind hE, hrc, fun U hU hW => ⟨rfl, xPp_at hC hE hP hS hz U hU hW⟩⟩ rfl (by rw [List.length_map]; exact hn) hl.1 (by rw [hst, List.map_append, List.map_reverse]; rfl) (lv_room (by rw [xsum_ok]; exact hrest)) hd r2
theorem xcx_app : ∀ (K L : xH) (o : Nat), xcx b ρ sa dA o (K ++ L) = xcx b ρ sa dA o K ++ xcx b ρ sa dA (o + K.length) L
  | [], L, o => by simp [xcx]
  | d :: K, L, o => by
    simp only [List.cons_append, xcx, List.length_cons]
    rw [xcx_app K L (o + 1), show o + 1 + K.length = o + (K.length + 1) by omega]
theorem xcx_rep (x : xC) : ∀ (n o : Nat), xcx b ρ sa dA o (List.replicate n x) = (List.range n).map (fun i => (b + (o + i), xce b ρ sa dA x))
  | 0, o => rfl
  | n + 1, o => by
    rw [List.replicate_succ, xcx, xcx_rep x n (o + 1), List.range_succ_eq_map, List.map_cons, List.map_map]
    congr 1
    apply List.map_congr_left
    intro i _
    simp only [Function.comp]
    rw [show o + 1 + i = o + (i + 1) by omega]
theorem xp_mna (hC : xCtx b dA D M p s m args meth c A EX) (hE : xEok b sa EX) (hr : xSnd al b ρ sa dA D M p l e s m args below meth c A Qc rec) {k n : Nat} (hT : xMa (xMc M) (xMo M) pc nx) (hal : al = true) (hce : ce + (1 + n) ≤ (xMm M).cells) (hsl : sl + (n + n * k) ≤ (xMm M).slots) (hn : n ≤ 1000) (hk : k ≤ 1000) (h : rec nx lv ((1, K.length) :: st) (K ++ (.inl (4, (List.range n).map (fun i => (1, K.length + 1 + i))) :: List.replicate n (.inl (0, List.replicate k (0, 0))))) (ce + 1 + n) (sl + n + n * k) κ = some Ls) : xGood al b ρ sa dA D M p l e s m args below meth c A Qc pc lv ((0, k) :: (0, n) :: st) K ce sl κ Ls := by
  intro H locs ls hl hP hS hz hA0 hκ hQ
  rw [List.map_cons, List.map_cons]
  have hR4 := (hC.2.2.1.2 4 _ rfl).2
  have hR0 := (hC.2.2.1.2 0 _ rfl).2
  refine hT p l e _ s m args below meth c H locs ce sl _ ls _ hC.1 b sa D (xtys dA) _ A s.heap (nI n) (nI k) n k (dA 4) (dA 0) (hE.2.2 s hC.2.2.2.2.2.2.2.2.1) hP hS hR4 hR0 (nI_pos (by omega)) (nI_pos (by omega)) (nI_clamp (by omega)) (nI_clamp (by omega)) hn hk hce hsl (fun H1 hP1 hS1 z1 => ?_)
  have hH := hz hal
  have e1 : xcx b ρ sa dA 0 (K ++ (.inl (4, (List.range n).map (fun i => (1, K.length + 1 + i))) :: List.replicate n (.inl (0, List.replicate k (0, 0))))) = xcx b ρ sa dA 0 K ++ (H.size, .inl (dA 4, n, .inr (.inr (.inr (.inr (fun i => if i < n then some (H.size + 1 + i) else none)))))) :: (List.range n).map (fun i => (H.size + 1 + i, .inl (dA 0, k, .inl (fun _ => 0)))) := by
    rw [xcx_app]
    congr 1
    rw [xcx, xcx_rep]
    congr 1
    · rw [hH, Nat.zero_add]
      congr 1
      show (Sum.inl (dA 4, ((List.range n).map (fun i => ((1, K.length + 1 + i) : xV))).length, _) : va_E) = _
      rw [List.length_map, List.length_range]
      congr 7
      funext j
      simp only [List.getD_eq_getElem?_getD, List.getElem?_map]
      by_cases hj : j < n
      · rw [List.getElem?_range hj, if_pos hj]
        show some (b + (K.length + 1 + j)) = some (b + K.length + 1 + j)
        congr 1
        omega
      · rw [List.getElem?_eq_none (by rw [List.length_range]; omega), if_neg hj]
        rfl
    · apply List.map_congr_left
      intro i _
      rw [hH]
      congr 1
      · omega
      · show (Sum.inl (dA 0, (List.replicate k ((0, 0) : xV)).length, _) : va_E) = _
        rw [List.length_replicate]
        congr 3
        congr 1
        funext j
        simp only [List.getD_eq_getElem?_getD, List.getElem?_replicate]
        split <;> rfl
  rw [← e1] at hP1
  have := hr _ _ _ _ _ _ _ _ h H1 locs ls hl hP1 hS1 (fun q => by
    rw [z1, hH]
    simp only [List.length_append, List.length_cons, List.length_replicate]
    omega) (fun j hj => by
    by_cases hj2 : j < K.length
    · exact hA0 j hj2
    · refine hC.2.2.2.1 _ ?_
      have := hS.1
      omega) hκ hQ
  rw [List.map_cons] at this
  rw [hH]
  exact this
end XD
end
section
section XE
variable {al : Bool} {b : Nat} {ρ : Nat → Int32} {sa : Nat → Nat} {dA : Nat → ClassId} {D : va_G} {M : xM} {p : Program} {l : Launch} {e : Env} {s : State} {m : MethodId} {args : Array Value} {below : List Frame} {meth : Method} {c : Code} {A : Nat → Prop} {Qc : Array Value → State → Outcome → State → Prop} {EX : State → Prop}
variable {mt : List xM} {ds : xD} {rec : xRec} {call : xCal} {pc nx : Nat} {lv : xL} {st : List xV} {K : xH} {ce sl : Nat} {κ : xK} {Ls : List xR}
abbrev xSndC (al : Bool) (b : Nat) (ρ : Nat → Int32) (sa : Nat → Nat) (dA : Nat → ClassId) (D : va_G) (EX : State → Prop) (l : Launch) (mt : List xM) (call : xCal) : Prop :=
  ∀ (mi : Nat) (M' : xM) (avs : List xV) (K : xH) (κ : xK) (Lc : List xR), mt[mi]? = some M' → call M' avs K κ = some Lc → xsum avs ≤ xMl M' → xKok ρ κ → ∀ sz, b ≤ sz → xMet al b ρ sa dA D EX l M' avs K Lc sz
theorem xsum_app (a : List xV) : ∀ c : List xV, xsum (c ++ a) = xsum c + xsum a
  | [] => by simp [xsum]
  | v :: r => by simp [xsum, xsum_app a r, Nat.add_assoc]
theorem xsum_rev : ∀ a : List xV, xsum a.reverse = xsum a
  | [] => rfl
  | v :: r => by
    rw [List.reverse_cons, xsum_app, xsum_rev r]
    simp [xsum, Nat.add_comm]
theorem xcall_un {M' : xM} {n0 mi : Nat} (hmi : mt[mi]? = some M') (h : xh_call mt M rec call n0 nx mi lv st K ce sl κ = some Ls) : xMn M' + n0 ≤ st.length ∧ xroom (xMm M) M' ce sl = true ∧ xsum (st.drop (xMn M' + n0)) ≤ 8 ∧ xsum (st.take (xMn M' + n0)) ≤ xMl M' ∧ ∃ Lc, call M' (st.take (xMn M' + n0)).reverse K κ = some Lc ∧ ∀ lf ∈ Lc, ∃ L, rec nx lv (xput (st.drop (xMn M' + n0)) lf.2.1) lf.2.2 (ce + (xMm M').cells) (sl + (xMm M').slots) lf.1 = some L ∧ ∀ q ∈ L, q ∈ Ls := by
  simp only [xh_call, hmi] at h
  split at h
  · next hc =>
    simp only [Bool.and_eq_true, Nat.ble_eq] at hc
    obtain ⟨h1, h2, h3, h4⟩ := hc
    split at h
    · cases h
    · next L hL => exact ⟨h1, h2, h3, h4, L, hL, fun lf hlf => xall_ok h lf hlf⟩
  · cases h
theorem xcallS_ok (hC : xCtx b dA D M p s m args meth c A EX) (hE : xEok b sa EX) (hmt : ∀ (mi : Nat) (M' : xM), mt[mi]? = some M' → xMok mt M') (hr : xSnd al b ρ sa dA D M p l e s m args below meth c A Qc rec) (hcl : xSndC al b ρ sa dA D EX l mt call) {mi : Nat} {M' : xM} (hmi : mt[mi]? = some M') (hc : xcS M pc M') (h : xh_call mt M rec call 0 (pc + 3) mi lv st K ce sl κ = some Ls) : xGood al b ρ sa dA D M p l e s m args below meth c A Qc pc lv st K ce sl κ Ls := by
  obtain ⟨h1, h2, h3, h4, Lc, h5, h6⟩ := xcall_un hmi h
  rw [Nat.add_zero] at h1 h3 h4 h5 h6
  have hst : st = ((st.take (xMn M')).reverse).reverse ++ st.drop (xMn M') := by rw [List.reverse_reverse, List.take_append_drop]
  exact xp_call hC hr (fun H locs ls hl hP hS hz hκ => xp_runS hC hE (hmt mi M' hmi) hc h2 hst (by rw [List.length_reverse, List.length_take, Nat.min_eq_left h1]) h3 (fun hκ => hcl mi M' _ K κ Lc hmi h5 (by rw [xsum_rev]; exact h4) hκ) H locs ls hl hP hS hz hκ) h6
theorem xsplitG {n : Nat} {v : xV} {r : List xV} (h : st.drop n = v :: r) (hl : n + 1 ≤ st.length) : st = ((st.take n).reverse).reverse ++ v :: r ∧ st.drop (n + 1) = r ∧ (st.take (n + 1)).reverse = v :: (st.take n).reverse ∧ ((st.take n).reverse).length = n := by
  refine ⟨?_, ?_, ?_, ?_⟩
  · rw [List.reverse_reverse, ← h, List.take_append_drop]
  · rw [← List.drop_drop, h]
    rfl
  · have e : st.take (n + 1) = st.take n ++ [v] := by
      rw [List.take_add, h]
      rfl
    rw [e, List.reverse_append]
    rfl
  · rw [List.length_reverse, List.length_take]
    omega
theorem xcallV_ok (hC : xCtx b dA D M p s m args meth c A EX) (hE : xEok b sa EX) (hmt : ∀ (mi : Nat) (M' : xM), mt[mi]? = some M' → xMok mt M') (hr : xSnd al b ρ sa dA D M p l e s m args below meth c A Qc rec) (hcl : xSndC al b ρ sa dA D EX l mt call) {mi i ci : Nat} {M' : xM} {r fs : List xV} {q : vw_C} (hmi : mt[mi]? = some M') (hc : xcV M pc M') (hKi : K[i]? = some (.inr (ci, fs))) (hq : vwCl[ci]? = some q) (hqn : q.1 = (xMy M').cls) (hd : st.drop (xMn M') = (1, i) :: r) (h : xh_call mt M rec call 1 (pc + 3) mi lv st K ce sl κ = some Ls) : xGood al b ρ sa dA D M p l e s m args below meth c A Qc pc lv st K ce sl κ Ls := by
  obtain ⟨h1, h2, h3, h4, Lc, h5, h6⟩ := xcall_un hmi h
  obtain ⟨s1, s2, s3, s4⟩ := xsplitG hd h1
  rw [s2] at h3 h6
  have h7 : xsum (st.take (xMn M' + 1)).reverse ≤ xMl M' := by rw [xsum_rev]; exact h4
  rw [s3] at h5 h7
  exact xp_call hC hr (fun H locs ls hl hP hS hz hκ => xp_runV hC hE (hmt mi M' hmi) hc h2 hKi hq hqn s1 s4 h3 (fun hκ => hcl mi M' _ K κ Lc hmi h5 h7 hκ) H locs ls hl hP hS hz hκ) h6
theorem xcallI_ok (hC : xCtx b dA D M p s m args meth c A EX) (hE : xEok b sa EX) (hmt : ∀ (mi : Nat) (M' : xM), mt[mi]? = some M' → xMok mt M') (hr : xSnd al b ρ sa dA D M p l e s m args below meth c A Qc rec) (hcl : xSndC al b ρ sa dA D EX l mt call) {mi i : Nat} {M' : xM} {r : List xV} (hmi : mt[mi]? = some M') (hc : xcI M pc M') (hd : st.drop (xMn M') = (1, i) :: r) (h : xh_call mt M rec call 1 (pc + 3) mi lv st K ce sl κ = some Ls) : xGood al b ρ sa dA D M p l e s m args below meth c A Qc pc lv st K ce sl κ Ls := by
  obtain ⟨h1, h2, h3, h4, Lc, h5, h6⟩ := xcall_un hmi h
  obtain ⟨s1, s2, s3, s4⟩ := xsplitG hd h1
  rw [s2] at h3 h6
  have h7 : xsum (st.take (xMn M' + 1)).reverse ≤ xMl M' := by rw [xsum_rev]; exact h4
  rw [s3] at h5 h7
  exact xp_call hC hr (fun H locs ls hl hP hS hz hκ => xp_runI hC hE (hmt mi M' hmi) hc h2 s1 s4 h3 (fun hκ => hcl mi M' _ K κ Lc hmi h5 h7 hκ) H locs ls hl hP hS hz hκ) h6
theorem xne0 {n : Nat} (h : 0 < n) (h2 : n < 4294967296) : ¬ nI n = 0 := by
  intro e
  have h3 := sgI_nI h2
  rw [e, show (0 : Int32) = nI 0 from rfl, sgI_nI (by decide)] at h3
  simp only [xsg] at h3
  omega
theorem xdivne {o x y z : Nat} (h : xbin o x y = some z) (ho : o = 9 ∨ o = 10) : ¬ nI y = 0 := by
  rcases ho with rfl | rfl <;>
  · simp only [xbin] at h
    split at h
    · next hc =>
      simp only [Bool.and_eq_true, Nat.blt_eq] at hc
      exact xne0 hc.1.1 (by omega)
    · cases h
theorem xlcmp0 {x y : Nat} (hx : x < 9223372036854775808) (hy : y < 9223372036854775808) : lg_cmp (lN x) (lN y) = nI (if Nat.blt y x then 1 else if Nat.beq x y then 0 else 4294967295) := by
  have h1 := pk_lLT hy hx
  have h2 := pk_lEQ hx hy
  simp only [lg_cmp, gt_iff_lt, h1, h2]
  by_cases a : y < x
  · have e1 : Nat.blt y x = true := by rw [Nat.blt_eq]; exact a
    rw [if_pos a, e1]
    rfl
  · have e1 : Nat.blt y x = false := by rw [← Bool.not_eq_true, Nat.blt_eq]; exact a
    rw [if_neg a, e1]
    by_cases d : x = y
    · have e2 : Nat.beq x y = true := by rw [Nat.beq_eq]; exact d
      rw [if_pos d, e2]
      rfl
    · have e2 : Nat.beq x y = false := by rw [← Bool.not_eq_true, Nat.beq_eq]; exact d
      rw [if_neg d, e2]
      decide +kernel
theorem xlcmp {x y : Nat} (h : x = y ∨ (x < 9223372036854775808 ∧ y < 9223372036854775808)) : lg_cmp (lN x) (lN y) = nI (if Nat.blt y x then 1 else if Nat.beq x y then 0 else 4294967295) := by
  rcases h with h | h
  · subst h
    have e1 : Nat.blt x x = false := by rw [← Bool.not_eq_true, Nat.blt_eq]; omega
    have e2 : Nat.beq x x = true := by rw [Nat.beq_eq]
    rw [e1, e2]
    have e3 : ¬ lN x < lN x := fun z => by
      have := Int64.lt_iff_toInt_lt.mp z
      omega
    simp only [lg_cmp, gt_iff_lt, if_neg e3]
    rfl
  · exact xlcmp0 h.1 h.2
theorem xnarB {n : Nat} (h : n < 128) : narrow .byte (.int (nI n)) = .int (nI n) := (by decide +kernel : ∀ n : Fin 128, narrow .byte (.int (nI n.val)) = .int (nI n.val)) ⟨n, h⟩
set_option maxHeartbeats 4000000 in
theorem xstep_ok (hls : l.stackTraces = false) (hC : xCtx b dA D M p s m args meth c A EX) (hE : xEok b sa EX) (hds : xdok ρ ds) (hsc : ∀ s : State, EX s → ∀ L : Nat, xSc ds = some L → va_X (sa 50) L (fun n => ρ (n + 1)) s s.heap ∧ sa 50 < b) (hmt : ∀ (mi : Nat) (M' : xM), mt[mi]? = some M' → xMok mt M') (hr : xSnd al b ρ sa dA D M p l e s m args below meth c A Qc rec) (hcl : xSndC al b ρ sa dA D EX l mt call) (hMk : ∀ q ∈ xMk M, xok mt M q.1 q.2) {op : xOp} (hok : xok mt M pc op) (h : xstep mt ds al M rec call op lv st K ce sl κ = some Ls) : xGood al b ρ sa dA D M p l e s m args below meth c A Qc pc lv st K ce sl κ Ls := by
  obtain ⟨tg, nx, a, d, cs⟩ := op
  match tg, hok, h with
  | 0, hok, h => exact xp_T hC hr (st0 := []) (st1 := [(0, a)]) hok h
  | 1, hok, h => exact xp_T hC hr (st0 := []) (st1 := [(4, a)]) hok h
  | 2, hok, h =>
    simp only [xstep] at h
    split at h
    · cases h
    · next v hv =>
      split at h
      · next hk => exact xp_load hC hr hok.1 hok.2 hv hk h
      · cases h
  | 3, hok, h =>
    match st, h with
    | v :: st', h =>
      simp only [xstep] at h
      split at h
      · next hc =>
        simp only [Bool.and_eq_true, Nat.blt_eq] at hc
        exact xp_store hC hr hok.1 hok.2 hc.1 hc.2 h
      · cases h
  | 4, hok, h =>
    simp only [xstep] at h
    split at h
    · next x hv =>
      split at h
      · next hi =>
        rw [Nat.blt_eq] at hi
        exact xp_iinc hC hr hok hv hi h
      · cases h
    · cases h
  | 5, hok, h =>
    match st, h with
    | y :: x :: st', h =>
      simp only [xstep] at h
      split at h
      · next y' x' hy hx =>
        split at h
        · cases h
        · next z hz =>
          refine xp_bin hC hr (o := a) hok (fun hκ => ?_) h
          have ex := xnm_ok hκ (b := b) (sa := sa) x
          have ey := xnm_ok hκ (b := b) (sa := sa) y
          rw [hx] at ex
          rw [hy] at ey
          refine ⟨?_, ?_, ?_, fun ho => ?_⟩
          · rw [← ex.1, ← ex.2]; rfl
          · rw [← ey.1, ← ey.2]; rfl
          · rw [← ex.2, ← ey.2]
            show Value.int (nI z) = .int (fbin a (nI x') (nI y'))
            rw [xbin_ok hz]
          · rw [← ey.2]
            exact xdivne hz ho
      · next y' x' _ =>
        split at h
        · next hc =>
          simp only [Bool.and_eq_true, Nat.blt_eq] at hc
          split at h
          · cases h
          · next k hk =>
            refine xp_bin hC hr (o := a) hok (fun hκ => ?_) h
            have ex := xnm_ok hκ (b := b) (sa := sa) x
            have ey := xnm_ok hκ (b := b) (sa := sa) y
            obtain ⟨i, e1, e2⟩ := xidx_ok hk
            rw [Nat.zero_add] at e1
            subst e1
            have hd := hds _ _ _ _ e2 (by omega)
            rw [xfd, if_neg (by omega)] at hd
            refine ⟨?_, ?_, ?_, fun ho => by omega⟩
            · rw [← ex.1, ← ex.2]; exact xk0 hc.2.1
            · rw [← ey.1, ← ey.2]; exact xk0 hc.1
            · rw [← ex.2, ← ey.2]
              show Value.int (ρ k) = _
              rw [hd]
        · cases h
  | 6, hok, h =>
    match st, h with
    | x :: st', h =>
      simp only [xstep] at h
      split at h
      · next hx =>
        split at h
        · cases h
        · next k hk =>
          obtain ⟨i, e1, e2⟩ := xidx_ok hk
          rw [Nat.zero_add] at e1
          subst e1
          have hd := hds _ _ _ _ e2 (by omega)
          rw [xfd, if_pos rfl] at hd
          refine xp_T hC hr (st0 := [x]) (st1 := [(3, k)]) ?_ h
          have := hok (xdi ρ x)
          rw [← hd] at this
          rw [show [x].map (xdv b ρ sa) = [.int (xdi ρ x)] by rw [← xk0 hx (b := b) (sa := sa)]; rfl]
          exact this
      · cases h
  | 7, hok, h =>
    match st, h with
    | (4, y) :: (4, x) :: st', h =>
      simp only [xstep] at h
      split at h
      · cases h
      · next z hz =>
        refine xp_T hC hr (st0 := [(4, y), (4, x)]) (st1 := [(4, z)]) ?_ h
        have := hok (lN x) (lN y)
        dsimp only at this
        rw [xlb_ok hz] at this
        exact this
  | 8, hok, h =>
    match st, h with
    | (4, y) :: (4, x) :: st', h =>
      simp only [xstep] at h
      split at h
      · next hc =>
        simp only [Bool.or_eq_true, Bool.and_eq_true, Nat.blt_eq, Nat.beq_eq] at hc
        refine xp_T hC hr (st0 := [(4, y), (4, x)]) (st1 := [(0, _)]) ?_ h
        have := hok (lN x) (lN y)
        rw [xlcmp hc] at this
        exact this
      · cases h
  | 9, hok, h =>
    match st, h with
    | v :: st', h =>
      simp only [xstep] at h
      split at h
      · next hc =>
        rw [Nat.beq_eq] at hc
        exact xp_T hC hr (st0 := [v]) (st1 := [v, v]) (hok _ (by rw [xcat_ok]; exact hc)) h
      · cases h
  | 10, hok, h =>
    match st, h with
    | v :: st', h =>
      simp only [xstep] at h
      split at h
      · next hc =>
        rw [Nat.beq_eq] at hc
        exact xp_T hC hr (st0 := [v]) (st1 := []) (hok _ (by rw [xcat_ok]; exact hc)) h
      · cases h
  | 11, hok, h =>
    match st, h with
    | v :: w :: st', h =>
      simp only [xstep] at h
      split at h
      · next hc =>
        simp only [Bool.and_eq_true, Nat.beq_eq] at hc
        exact xp_T hC hr (st0 := [v, w]) (st1 := [v, w, v, w]) (hok _ _ (by rw [xcat_ok]; exact hc.1) (by rw [xcat_ok]; exact hc.2)) h
      · cases h
  | 12, hok, h =>
    match st, h with
    | x :: st', h =>
      simp only [xstep] at h
      split at h
      · next hx => exact xp_fork0 hC hr hok hx h
      · cases h
  | 13, hok, h =>
    match st, h with
    | y :: x :: st', h =>
      simp only [xstep] at h
      split at h
      · next hx =>
        simp only [Bool.and_eq_true] at hx
        exact xp_fork hC hr hok hx.1 hx.2 h
      · cases h
  | 14, hok, h => exact xp_T hC hr (st0 := []) (st1 := []) hok h
  | 15, hok, h =>
    match st, h with
    | x :: st', h =>
      simp only [xstep] at h
      split at h
      · next hx => exact xp_sw hC hr hok hx h
      · cases h
  | 16, hok, h =>
    match st, h with
    | (1, i) :: st', h =>
      simp only [xstep] at h
      split at h
      · next ci fs hK =>
        split at h
        · next he =>
          rw [Nat.beq_eq] at he
          rw [he] at hK
          split at h
          · cases h
          · next v hv => exact xp_getf hC hr hok hK hv h
        · cases h
      · cases h
  | 17, hok, h =>
    match st, h with
    | v :: (1, i) :: st', h =>
      obtain ⟨ty, fin, z, e1, e2, e3⟩ := hok
      dsimp only at e1
      subst e1
      simp only [xstep] at h
      split at h
      · next ci fs hK =>
        split at h
        · next he =>
          simp only [Bool.and_eq_true, Nat.beq_eq, Nat.blt_eq] at he
          obtain ⟨h1, h2, h3⟩ := he
          rw [h1] at hK h
          exact xp_putf hC hr e2 e3 h2 h3 hK h
        · cases h
      · cases h
  | 18, hok, h =>
    match st, h with
    | (1, i) :: st', h =>
      simp only [xstep] at h
      split at h
      · next t vs hK =>
        split at h
        · next ht =>
          rw [Nat.blt_eq] at ht
          exact xp_alen hC hr hok.1 ht hK h
        · cases h
      · cases h
    | (6, k) :: st', h =>
      simp only [xstep] at h
      split at h
      · next hk =>
        rw [Nat.blt_eq] at hk
        intro H locs ls hl hP hS hz hA0 hκ hQ
        have := hr _ _ _ _ _ _ _ _ h H locs ls hl hP hS hz hA0 hκ hQ
        rw [List.map_cons] at this ⊢
        exact hok.2 p l e _ s m args below meth c H locs ce sl _ ls _ hC.1 b sa A (hE.2.2 s hC.2.2.2.2.2.2.2.2.1) hS hC.2.2.2.2.1 k hk this
      · cases h
  | 19, hok, h =>
    match st, h with
    | j :: (1, i) :: st', h =>
      simp only [xstep] at h
      split at h
      · next t vs n hK hj =>
        split at h
        · next hc =>
          simp only [Bool.and_eq_true, Nat.beq_eq, Nat.blt_eq] at hc
          obtain ⟨h1, hn⟩ := hc
          rw [h1] at hK
          split at h
          · cases h
          · next v hv =>
            rw [xnth_ok] at hv
            split at h
            · next hk => exact xp_read hC hr hok.1 hok.2 hj hn hK hv hk h
            · cases h
        · cases h
      · next t vs k hK hj =>
        split at h
        · next hc =>
          simp only [Bool.and_eq_true, Nat.beq_eq] at hc
          obtain ⟨h1, hk, hv⟩ := hc
          rw [h1] at hK
          exact xp_readz hC hr hok.1 hok.2 hj hk hK hv h
        · cases h
      · cases h
  | 20, hok, h =>
    match st, h with
    | j :: (1, i) :: st', h =>
      simp only [xstep] at h
      split at h
      · next vs n hK hj =>
        split at h
        · next hn =>
          rw [Nat.blt_eq] at hn
          split at h
          · next q hv => exact xp_readr hC hr hok hj hn hK hv h
          · cases h
        · cases h
      · cases h
  | 21, hok, h =>
    match st, h with
    | v :: j :: (1, i) :: st', h =>
      simp only [xstep] at h
      split at h
      · next t vs n hK hj =>
        split at h
        · next hc =>
          simp only [Bool.and_eq_true, Nat.beq_eq, Nat.blt_eq] at hc
          obtain ⟨h1, hn, hv⟩ := hc
          obtain ⟨w1, w2, w3⟩ := xwok_ok hds hv
          split at h
          · cases h
          · next w hw =>
            rw [xnth_ok] at hw
            have hl := (List.getElem?_eq_some_iff.mp hw).1
            have h : rec nx lv st' (K.set i (.inl (t, vs.set n v))) ce sl κ = some Ls := by
              split at h
              · next he =>
                rw [xeqv_ok he] at hw
                rw [xset_same hK hw]
                exact h
              · exact h
            rw [h1] at hK h w1 w3
            exact xp_write hC hr w1 hok hj hn hK hl w2 w3 h
        · cases h
      · cases h
  | 44, hok, h =>
    simp only [xstep] at h
    split at h
    · next q hq =>
      obtain ⟨o, k⟩ := q
      split at h
      · next fs hfs =>
        split at h
        · next hc =>
          simp only [Bool.and_eq_true, Nat.blt_eq] at hc
          obtain ⟨hs, hx, hM2, h1, h2, h3, hal⟩ := hc
          rw [xlv3_ok hq]
          rw [xnl0_ok hs] at h ⊢
          have hpc : pc = 6 := hok
          rw [hpc]
          exact xp_clear hC (fun q hq => hMk q (of_decide_eq_true (List.all_eq_true.mp hal q hq))) hM2 (xob_ok hfs) hx h1 h2 h3 (hr _ _ _ _ _ _ _ _ h) 1000 0 rfl
        · cases h
      · cases h
    · cases h
  | 22, hok, h =>
    simp only [xstep] at h
    split at h
    · next hc =>
      simp only [Bool.and_eq_true, Nat.blt_eq, Nat.ble_eq] at hc
      exact xp_new hC hr hok hc.1 hc.2.1 hc.2.2.1 hc.2.2.2 h
    · cases h
  | 23, hok, h =>
    match st, h with
    | (0, n) :: st', h =>
      simp only [xstep] at h
      split at h
      · next hc =>
        simp only [Bool.and_eq_true, Nat.blt_eq, Nat.ble_eq] at hc
        exact xp_newa hC hr hok.1 hok.2 hc.1 hc.2.1 hc.2.2.1 hc.2.2.2 h
      · cases h
  | 25, hok, h =>
    match st, h with
    | (1, i) :: st', h =>
      simp only [xstep] at h
      split at h
      · next hc =>
        simp only [Bool.and_eq_true, Nat.ble_eq] at hc
        exact xp_oinit hC hr hok hc.1 hc.2 h
      · cases h
  | 26, hok, h =>
    match st, h with
    | (0, n) :: (0, dp) :: (1, d0) :: (0, sp) :: (1, s0) :: st', h =>
      simp only [xstep] at h
      split at h
      · next vs ws hKs hKd =>
        split at h
        · next hc =>
          simp only [Bool.and_eq_true, Nat.ble_eq, Nat.blt_eq] at hc
          obtain ⟨c1, c2, c3, c4, c5, c6⟩ := hc
          exact xp_copy hC hr hok hKs hKd c1 c2 c3 c4 c5 c6 h
        · cases h
      · cases h
  | 27, hok, h =>
    obtain ⟨e1, M', hmi, hc⟩ := hok
    dsimp only at e1 hmi
    subst e1
    exact xcallS_ok hC hE hmt hr hcl hmi hc h
  | 28, hok, h =>
    obtain ⟨e1, M', hmi, hc, q, hq, hqn⟩ := hok
    dsimp only at e1 hmi hq
    subst e1
    simp only [xstep, hmi] at h
    split at h
    · next i r hd =>
      split at h
      · next ci fs hK =>
        split at h
        · next he =>
          rw [Nat.beq_eq] at he
          rw [he] at hK
          exact xcallV_ok hC hE hmt hr hcl hmi hc hK hq hqn hd h
        · cases h
      · cases h
    · cases h
  | 29, hok, h =>
    obtain ⟨e1, M', hmi, hc⟩ := hok
    dsimp only at e1 hmi
    subst e1
    simp only [xstep, hmi] at h
    split at h
    · next i r hd => exact xcallI_ok hC hE hmt hr hcl hmi hc hd h
    · cases h
  | 30, hok, h =>
    match st, h with
    | [v], h =>
      obtain ⟨hd, ty, h1, h2, h3⟩ := hok
      dsimp only at h2
      simp only [xstep] at h
      split at h
      · next hc =>
        simp only [Bool.and_eq_true, Nat.ble_eq] at hc
        cases h
        rw [← h2] at hc
        exact xp_iret hC hd h1 h3 hc.1 hc.2.1 hc.2.2
      · cases h
  | 31, hok, h =>
    match st, h with
    | [v], h =>
      simp only [xstep] at h
      split at h
      · next hc =>
        simp only [Bool.and_eq_true, Nat.ble_eq] at hc
        cases h
        exact xp_lret hC hok.1 hok.2 hc.1 hc.2.1 hc.2.2
      · cases h
  | 32, hok, h =>
    match st, h with
    | [], h =>
      simp only [xstep] at h
      split at h
      · next hc =>
        simp only [Bool.and_eq_true, Nat.ble_eq] at hc
        cases h
        exact xp_vret hC hok.1 hok.2 hc.1 hc.2
      · cases h
  | 24, hok, h =>
    match st, h with
    | (0, k) :: (0, n) :: st', h =>
      simp only [xstep] at h
      split at h
      · next hc =>
        simp only [Bool.and_eq_true, Nat.ble_eq] at hc
        obtain ⟨c1, c2, c3, c4, c5⟩ := hc
        exact xp_mna hC hE hr hok c1 c2 c3 c4 c5 h
      · cases h
  | 33, hok, h =>
    intro H locs ls hl hP hS hz hA0 hκ hQ
    have := hr _ _ _ _ _ _ _ _ h H locs ls hl hP hS hz hA0 hκ hQ
    rw [List.map_cons] at this
    exact hok p l e _ s m args below meth c H locs ce sl _ ls _ hC.1 b sa (hE.2.2 s hC.2.2.2.2.2.2.2.2.1) this
  | 34, hok, h =>
    intro H locs ls hl hP hS hz hA0 hκ hQ
    have := hr _ _ _ _ _ _ _ _ h H locs ls hl hP hS hz hA0 hκ hQ
    rw [List.map_cons] at this
    exact hok p l e _ s m args below meth c H locs ce sl _ ls _ hC.1 b sa A (hE.2.2 s hC.2.2.2.2.2.2.2.2.1) hS hC.2.2.2.2.1 this
  | 35, hok, h =>
    match st, h with
    | (5, k) :: st', h =>
      simp only [xstep] at h
      split at h
      · next hk =>
        rw [Nat.blt_eq] at hk
        intro H locs ls hl hP hS hz hA0 hκ hQ
        have := hr _ _ _ _ _ _ _ _ h H locs ls hl hP hS hz hA0 hκ hQ
        rw [List.map_cons] at this ⊢
        refine hok p l e _ s m args below meth c H locs ce sl _ ls _ hC.1 b sa A (hE.2.2 s hC.2.2.2.2.2.2.2.2.1) hS hC.2.2.2.2.1 k hk ?_
        dsimp only at this ⊢
        by_cases ha : a = 0
        · rw [if_pos (by rw [Nat.beq_eq]; exact ha)] at this
          rw [if_pos ha]
          exact this
        · rw [if_neg (by rw [Nat.beq_eq]; exact ha)] at this
          rw [if_neg ha]
          exact this
      · cases h
  | 36, hok, h =>
    match st, h with
    | y :: x :: st', h =>
      simp only [xstep] at h
      split at h
      · next y' x' hy hx =>
        split at h
        · next hc =>
          simp only [Bool.and_eq_true, Nat.ble_eq, Nat.blt_eq] at hc
          obtain ⟨c1, c2, c3, c4, c5, c6⟩ := hc
          intro H locs ls hl hP hS hz hA0 hκ hQ
          have := hr _ _ _ _ _ _ _ _ h H locs ls hl hP hS hz hA0 hκ hQ
          have ex := (xnm_ok hκ (b := b) (sa := sa) x).1
          have ey := (xnm_ok hκ (b := b) (sa := sa) y).1
          rw [hx] at ex
          rw [hy] at ey
          rw [List.map_cons] at this
          rw [List.map_cons, List.map_cons, ← ex, ← ey]
          refine hok p l e _ s m args below meth c H locs ce sl _ ls _ hC.1 (nI x') (nI y') (by rw [hC.2.1, hl.1]) c3 (by rw [xsum_ok]; exact c4) c5 c6 ?_
          have hcmp := xcb_ok (c := 2) c1 c2
          simp only [xcp] at hcmp
          by_cases hl : nI y' < nI x'
          · rw [if_pos hl]
            rw [if_pos (hcmp.mpr hl)] at this
            exact this
          · rw [if_neg hl]
            rw [if_neg (fun z => hl (hcmp.mp z))] at this
            exact this
        · cases h
      · cases h
  | 37, hok, h =>
    match st, h with
    | j :: (6, k) :: st', h =>
      simp only [xstep] at h
      split at h
      · next n hj =>
        split at h
        · next hc =>
          simp only [Bool.and_eq_true, Nat.blt_eq] at hc
          intro H locs ls hl hP hS hz hA0 hκ hQ
          have := hr _ _ _ _ _ _ _ _ h H locs ls hl hP hS hz hA0 hκ hQ
          have ej := (xnm_ok hκ (b := b) (sa := sa) j).1
          rw [hj] at ej
          rw [List.map_cons] at this
          rw [List.map_cons, List.map_cons, ← ej]
          exact hok p l e _ s m args below meth c H locs ce sl _ ls _ hC.1 b sa A (hE.2.2 s hC.2.2.2.2.2.2.2.2.1) hS hC.2.2.2.2.1 k n hc.1 hc.2.1 hc.2.2 this
        · cases h
      · cases h
  | 38, hok, h =>
    match st, h with
    | (0, n) :: st', h =>
      simp only [xstep] at h
      split at h
      · next hn =>
        rw [Nat.blt_eq] at hn
        refine xp_T hC hr (st0 := [(0, n)]) (st1 := [(0, n)]) ?_ h
        have := hok (nI n)
        rw [pk_char, pk_tn (by omega), Nat.mod_eq_of_lt hn] at this
        exact this
      · cases h
  | 39, hok, h =>
    obtain ⟨e1, M', hmi, hc, hq⟩ := hok
    dsimp only at e1 hmi
    subst e1
    simp only [xstep, hmi] at h
    split at h
    · next k r hd =>
      split at h
      · next hk =>
        rw [Nat.blt_eq] at hk
        obtain ⟨h1, h2, h3, h4, Lc, h5, h6⟩ := xcall_un hmi h
        obtain ⟨s1, s2, s3, s4⟩ := xsplitG hd h1
        rw [s2] at h3 h6
        have h7 : xsum (st.take (xMn M' + 1)).reverse ≤ xMl M' := by rw [xsum_rev]; exact h4
        rw [s3] at h5 h7
        exact xp_call hC hr (fun H locs ls hl hP hS hz hκ => xp_runVs hC hE (hmt _ M' hmi) hc h2 hk hq s1 s4 h3 (fun hκ => hcl _ M' _ K κ Lc hmi h5 h7 hκ) H locs ls hl hP hS hz hκ) h6
      · cases h
    · cases h
  | 40, hok, h =>
    match st, h with
    | [(0, n)], h =>
      obtain ⟨hd, ty, h1, h2⟩ := hok
      dsimp only at h2
      rcases h2 with ⟨e1, e2⟩ | ⟨e1, e2⟩
      · rw [e1] at h
        change (if (Nat.blt n 65536 && (Nat.ble ce (xMm M).cells && Nat.ble sl (xMm M).slots)) = true then some [(κ, some (0, n), K)] else none) = some Ls at h
        split at h
        · next hc =>
          simp only [Bool.and_eq_true, Nat.ble_eq, Nat.blt_eq] at hc
          cases h
          exact xp_zret hC hd h1 (by rw [e2]; exact (pk_charN hc.1).1) hc.2.1 hc.2.2
        · cases h
      · rw [e1] at h
        change (if (Nat.blt n 128 && (Nat.ble ce (xMm M).cells && Nat.ble sl (xMm M).slots)) = true then some [(κ, some (0, n), K)] else none) = some Ls at h
        split at h
        · next hc =>
          simp only [Bool.and_eq_true, Nat.ble_eq, Nat.blt_eq] at hc
          cases h
          exact xp_zret hC hd h1 (by rw [e2]; exact xnarB hc.1) hc.2.1 hc.2.2
        · cases h
  | 41, hok, h =>
    intro H locs ls hl hP hS hz hA0 hκ hQ
    have := hr _ _ _ _ _ _ _ _ h H locs ls hl hP hS hz hA0 hκ hQ
    rw [List.map_cons] at this
    exact hok p l e _ s m args below meth c H locs ce sl _ ls _ hC.1 b sa A (hE.2.2 s hC.2.2.2.2.2.2.2.2.1) hS hC.2.2.2.2.1 this
  | 42, hok, h =>
    match st, h with
    | (5, 50) :: st', h =>
      simp only [xstep] at h
      split at h
      · next L hL =>
        obtain ⟨hX, hq⟩ := hsc s hC.2.2.2.2.2.2.2.2.1 L hL
        intro H locs ls hl hP hS hz hA0 hκ hQ
        have := hr _ _ _ _ _ _ _ _ h H locs ls hl hP hS hz hA0 hκ hQ
        rw [List.map_cons] at this ⊢
        have hb := hC.2.2.2.2.2.2.2.2.2
        exact hok p l e _ s m args below meth c H locs ce sl _ ls _ hC.1 (sa 50) L _ A hX (by omega) (fun z => by have := hC.2.2.2.2.1 _ z; omega) hS this
      · cases h
  | 43, hok, h =>
    match st, h with
    | j :: (5, 50) :: st', h =>
      simp only [xstep] at h
      split at h
      · next L n hL hj =>
        split at h
        · next hc =>
          simp only [Bool.and_eq_true, Nat.blt_eq] at hc
          obtain ⟨hX, hq⟩ := hsc s hC.2.2.2.2.2.2.2.2.1 L hL
          intro H locs ls hl hP hS hz hA0 hκ hQ
          have := hr _ _ _ _ _ _ _ _ h H locs ls hl hP hS hz hA0 hκ hQ
          have ej := (xnm_ok hκ (b := b) (sa := sa) j).1
          rw [hj] at ej
          rw [List.map_cons, (xnm_ok hκ _).1] at this
          rw [List.map_cons, List.map_cons, ← ej]
          have hb := hC.2.2.2.2.2.2.2.2.2
          exact hok p l e _ s m args below meth c H locs ce sl _ ls _ hC.1 (sa 50) L _ A hX (by omega) (fun z => by have := hC.2.2.2.2.1 _ z; omega) hS n hc.1 (by omega) hc.2 this
        · cases h
      · cases h
  | 50, hok, h | 45, hok, h | 46, hok, h | 47, hok, h | 48, hok, h | 49, hok, h => cases h
  | n + 51, hok, h => cases h
end XE
end
section
section XF
variable {al : Bool} {b : Nat} {ρ : Nat → Int32} {sa : Nat → Nat} {dA : Nat → ClassId} {D : va_G} {l : Launch} {EX : State → Prop} {mt : List xM} {ds : xD}
/-- a method's contract out of the run of its body -/
theorem xMet_of {M : xM} (hM : xMok mt M) {avs : List xV} {K : xH} {κ : xK} {Lc : List xR} (hs : xsum avs ≤ xMl M) (hκ : xKok ρ κ) {sz : Nat} (hb : b ≤ sz)
    (hrun : ∀ (p : Program) (e : Env) (s : State) (m : MethodId) (args : Array Value) (below : List Frame) (meth : Method) (c : Code) (A : Nat → Prop) (Qc : Array Value → State → Outcome → State → Prop), xCtx b dA D M p s m args meth c A EX → xGood al b ρ sa dA D M p l e s m args below meth c A Qc 0 (xargs 0 avs) [] K 0 0 κ Lc) : xMet al b ρ sa dA D EX l M avs K Lc sz := by
  refine Met.ofW (cc := xMc M) (maxL := xMl M) (ret := xMr M) hM.2.2.2.1 rfl ?_
  intro p e s m args below meth c s₁ B hml hv
  obtain ⟨rfl, hsz, hP, hK, hz, hEX⟩ := hv
  subst hsz
  have hts := atoms_spec (ws := xWs M) B.pre
  have hown : s.vm.findClass (xMy M).cls = some m.cls := findClass_of_methodNamed B.named
  have hC : xCtx b dA D M p s m (avs.map (xdv b ρ sa)).toArray meth c (xA b K.length s.heap.size) EX :=
    ⟨⟨B.exec, B.bytes, by rw [hM.2.2.2.2.1]; exact hown, fun w hw => hts w (List.mem_cons_of_mem _ hw)⟩, hml, hK, fun q h => Or.inr h, fun q h => by
      rcases h with h | h
      · exact h.1
      · omega, B.returns, B.notSynchronized, (fun h => (name_of_methodNamed B.named B.method).1.trans h), hEX, hb⟩
  have hl := lv_entry (avs.map (xdv b ρ sa)) (n := xMl M) (by rw [xlen_ok]; exact hs)
  rw [xargs_ok] at hl
  rw [lg_entry_eq]
  exact hrun p e s m _ below meth c _ _ hC _ [] _ hl hP va_S.rf hz (fun i hi => Or.inl ⟨by omega, by omega⟩) hκ (fun lf hlf k1 t k2 k3 k4 k5 => ⟨lf, hlf, k1, rfl, k2, k3, k4, k5⟩)
theorem xe_ok (hls : l.stackTraces = false) (hE : xEok b sa EX) (hds : xdok ρ ds) (hsc : ∀ s : State, EX s → ∀ L : Nat, xSc ds = some L → va_X (sa 50) L (fun n => ρ (n + 1)) s s.heap ∧ sa 50 < b) (hmt : ∀ (mi : Nat) (M' : xM), mt[mi]? = some M' → xMok mt M') : ∀ (n : Nat) (mi : Nat) (M : xM), mt[mi]? = some M → ∀ (p : Program) (e : Env) (s : State) (m : MethodId) (args : Array Value) (below : List Frame) (meth : Method) (c : Code) (A : Nat → Prop) (Qc : Array Value → State → Outcome → State → Prop), xCtx b dA D M p s m args meth c A EX → xSnd al b ρ sa dA D M p l e s m args below meth c A Qc (xe mt ds al n M) := by
  intro n
  induction n with
  | zero =>
    intro mi M hmi p e s m args below meth c A Qc hC pc lv st K ce sl κ Ls h
    cases h
  | succ n ih =>
    intro mi M hmi p e s m args below meth c A Qc hC pc lv st K ce sl κ Ls h
    rw [xe_succ] at h
    simp only [xgo] at h
    split at h
    · cases h
    · next op hop =>
      refine xstep_ok hls hC hE hds hsc hmt (ih mi M hmi p e s m args below meth c A Qc hC) (fun mi' M' avs K κ Lc hmi' hc hs hκ sz hb => ?_) (hmt mi M hmi).2.2.2.2.2 ((hmt mi M hmi).2.2.2.2.2 _ (xfind_mem hop)) h
      exact xMet_of (hmt mi' M' hmi') hs hκ hb (fun p e s m args below meth c A Qc hC => ih mi' M' hmi' p e s m args below meth c A Qc hC _ _ _ _ _ _ _ _ hc)
/-- the run of ONE frame, its callees with N steps; where it knows no instruction it asks stp -/
noncomputable def xeT (mt : List xM) (ds : xD) (al : Bool) (N : Nat) (M : xM) (stp : xRec) (n : Nat) : xRec := Nat.rec (fun _ _ _ _ _ _ _ => none) (fun _ ih pc lv st K ce sl κ => match xfind (xMk M) pc with
  | none => stp pc lv st K ce sl κ
  | some op => xstep mt ds al M ih (fun M' avs K' κ' => xe mt ds al N M' 0 (xargs 0 avs) [] K' 0 0 κ') op lv st K ce sl κ) n
theorem xeT_ok (hls : l.stackTraces = false) (hE : xEok b sa EX) (hds : xdok ρ ds) (hsc : ∀ s : State, EX s → ∀ L : Nat, xSc ds = some L → va_X (sa 50) L (fun n => ρ (n + 1)) s s.heap ∧ sa 50 < b) (hmt : ∀ (mi : Nat) (M' : xM), mt[mi]? = some M' → xMok mt M') {M : xM} (hM : ∀ q ∈ xMk M, xok mt M q.1 q.2) {N : Nat} {stp : xRec} {p : Program} {e : Env} {s : State} {m : MethodId} {args : Array Value} {below : List Frame} {meth : Method} {c : Code} {A : Nat → Prop} {Qc : Array Value → State → Outcome → State → Prop} (hC : xCtx b dA D M p s m args meth c A EX) (hst : xSnd al b ρ sa dA D M p l e s m args below meth c A Qc stp) :
    ∀ n : Nat, xSnd al b ρ sa dA D M p l e s m args below meth c A Qc (xeT mt ds al N M stp n) := by
  intro n
  induction n with
  | zero =>
    intro pc lv st K ce sl κ Ls h
    cases h
  | succ n ih =>
    intro pc lv st K ce sl κ Ls h
    change (match xfind (xMk M) pc with
      | none => stp pc lv st K ce sl κ
      | some op => xstep mt ds al M (xeT mt ds al N M stp n) (fun M' avs K' κ' => xe mt ds al N M' 0 (xargs 0 avs) [] K' 0 0 κ') op lv st K ce sl κ) = some Ls at h
    split at h
    · exact hst _ _ _ _ _ _ _ _ h
    · next op hop =>
      refine xstep_ok hls hC hE hds hsc hmt ih (fun mi' M' avs K κ Lc hmi' hc hs hκ sz hb => ?_) hM (hM _ (xfind_mem hop)) h
      exact xMet_of (hmt mi' M' hmi') hs hκ hb (fun p e s m args below meth c A Qc hC => xe_ok hls hE hds hsc hmt N mi' M' hmi' p e s m args below meth c A Qc hC _ _ _ _ _ _ _ _ hc)
end XF
end
section
theorem W.mono {p : Program} {l : Launch} {e : Env} {R : Room} {s : State} {m : MethodId} {args : Array Value} {below : List Frame} {meth : Method} {c : Code} {H : Heap} {locs : List Loc} {cells slots : Nat} {Q Q' : State → Prop} {g : JFrame} (h : W p l e R s m args below meth c H locs cells slots Q g) (hq : ∀ t, Q t → Q' t) : W p l e R s m args below meth c H locs cells slots Q' g := by
  intro T hT X
  obtain ⟨t, a, b⟩ := h T hT X
  exact ⟨t, a, hq t b⟩
theorem xnw_warm {s U : State} (hW : s.WarmedH U.vm) (h : ∀ w ∈ xnw, va_Nw w s) : ∀ w ∈ xnw, va_Nw w U := by
  intro w hw
  have hs := h w hw
  simp only [xnw, List.mem_cons, List.not_mem_nil, or_false] at hw
  rcases hw with rfl | rfl | rfl | rfl | rfl | rfl | rfl <;> exact va_Nw.warmM hW hs
theorem xao_warm {s U : State} (hW : s.WarmedH U.vm) (h : va_Nw (.arrayOver (.array .int)) s) : va_Nw (.arrayOver (.array .int)) U := by
  have h1 : (Cond.arrayOver (.array .int)).before #[] (s.setVm U.vm) = true := by
    rw [Cond.arrayOver_setVmC hW.alike]
    exact h
  exact h1
def xcd (w : Cond) : Bool := match w with
  | .castable _ _ => true
  | .declares _ => true
  | _ => false
theorem xthr_kind : xthr.all xcd = true := by decide +kernel
theorem xthr_warm {s U : State} (hW : s.WarmedH U.vm) (h : ∀ w ∈ xthr, va_Nw w s) : ∀ w ∈ xthr, va_Nw w U := by
  intro w hw
  have hk := List.all_eq_true.mp xthr_kind w hw
  have hs := h w hw
  cases w <;> first | exact va_Nw.warmC hW hs | exact va_Nw.warmD hW hs | cases hk
theorem xthr2_kind : xthr2.all xcd = true := by decide +kernel
theorem xthr2_warm {s U : State} (hW : s.WarmedH U.vm) (h : ∀ w ∈ xthr2, va_Nw w s) : ∀ w ∈ xthr2, va_Nw w U := by
  intro w hw
  have hk := List.all_eq_true.mp xthr2_kind w hw
  have hs := h w hw
  cases w <;> first | exact va_Nw.warmC hW hs | exact va_Nw.warmD hW hs | cases hk
theorem xkeep {b : Nat} {s U : State} (hq : ∀ q, q < b → U.heap[q]? = s.heap[q]?) : ∀ a : Nat, a < s.heap.size → ¬ (fun q => b ≤ q) a → U.heap[a]? = s.heap[a]? := fun a _ h => hq a (by
  have : ¬ b ≤ a := h
  omega)
theorem xFx_warm {b : Nat} {sa : Nat → Nat} {s U : State} (h : xFx b sa s) (hW : s.WarmedH U.vm) (hq : ∀ q, q < b → U.heap[q]? = s.heap[q]?) : xFx b sa U := by
  obtain ⟨h1, h2, h3, h4, h5, h6, h7, h8, h9, h10, h11, h12, h13, h14⟩ := h
  refine ⟨xnw_warm hW h1, xao_warm hW h2, fun k hk => ?_, vk_R.warm hW h4, vk_R.warm hW h5, (va_Z.moved hW.alike h6).kept (xkeep hq), (va_Z.moved hW.alike h7).kept (xkeep hq), (vx_Zq.moved hW.alike h8).kept (xkeep hq), (vx_Zq.moved hW.alike h9).kept (xkeep hq), vk_R.warm hW h10, xthr_warm hW h11, vk_R.warm hW h12, vk_R.warm hW h13, xthr2_warm hW h14⟩
  obtain ⟨g1, g2, g3, g4⟩ := h3 k hk
  exact ⟨(va_O.moved hW.alike g1).kept (xkeep hq), (va_OF.moved hW.alike g2).kept (xkeep hq), (va_OF.moved hW.alike g3).kept (xkeep hq), (va_T.moved hW.alike g4).kept (xkeep hq)⟩
end
section
/-- what the law's start gives -/
theorem xclasses {args : Array Value} {s : State} (hts : ∀ w ∈ lw_tbl, w.before args s = true) : ∃ (dC : Nat → ClassId) (dI : Nat → Nat → Nat), ∀ (k : Nat) (q : vw_C), vwCl[k]? = some q → u_Kn s q.1 q.2.1 q.2.2 (dC k) (dI k) := by
  obtain ⟨c0, i0, h0⟩ := u_known (C := RX0) (T := TX0) (N := 10) (n := 10) hts (fun w h => xgt_in w (xin_X0 w h)) (hts (.instantiable RX0 10) (xgt_in _ (wm_3 24 rfl rfl)))
  obtain ⟨c1, i1, h1⟩ := u_known (C := RX1) (T := TX1) (N := 11) (n := 11) hts (fun w h => xgt_in w (xin_X1 w h)) (hts (.instantiable RX1 11) (xgt_in _ (wm_2 192 rfl rfl)))
  obtain ⟨c2, i2, h2⟩ := u_known (C := RX2) (T := TX2) (N := 10) (n := 10) hts (fun w h => xgt_in w (xin_X2 w h)) (hts (.instantiable RX2 10) (xgt_in _ (wm_1 64 rfl rfl)))
  obtain ⟨c3, i3, h3⟩ := u_known (C := RX3) (T := TX3) (N := 2) (n := 2) hts (fun w h => xgt_in w (xin_X3 w h)) (hts (.instantiable RX3 2) (xgt_in _ (wm_2 152 rfl rfl)))
  obtain ⟨c4, i4, h4⟩ := u_known (C := RX4) (T := TX4) (N := 19) (n := 19) hts (fun w h => xgt_in w (xin_X4 w h)) (hts (.instantiable RX4 19) (xgt_in _ (wm_1 37 rfl rfl)))
  obtain ⟨c5, i5, h5⟩ := u_known (C := RX5) (T := TX5) (N := 6) (n := 6) hts (fun w h => xgt_in w (xin_X5 w h)) (hts (.instantiable RX5 6) (xgt_in _ (wm_2 166 rfl rfl)))
  obtain ⟨c6, i6, h6⟩ := u_known (C := RX6) (T := TX6) (N := 2) (n := 2) hts (fun w h => xgt_in w (xin_X6 w h)) (hts (.instantiable RX6 2) (xgt_in _ (wm_1 43 rfl rfl)))
  obtain ⟨c7, i7, h7⟩ := u_known (C := RX7) (T := TX7) (N := 6) (n := 6) hts (fun w h => xgt_in w (xin_X7 w h)) (hts (.instantiable RX7 6) (xgt_in _ (wm_2 236 rfl rfl)))
  obtain ⟨c8, i8, h8⟩ := u_known (C := RX8) (T := TX8) (N := 4) (n := 4) hts (fun w h => xgt_in w (xin_X8 w h)) (hts (.instantiable RX8 4) (xgt_in _ (wm_1 216 rfl rfl)))
  obtain ⟨c9, i9, h9⟩ := u_known (C := RX9) (T := TX9) (N := 9) (n := 9) hts (fun w h => xgt_in w (xin_X9 w h)) (hts (.instantiable RX9 9) (xgt_in _ (wm_1 218 rfl rfl)))
  obtain ⟨c10, i10, h10⟩ := u_known (C := RX10) (T := TX10) (N := 13) (n := 13) hts (fun w h => xgt_in w (xin_X10 w h)) (hts (.instantiable RX10 13) (xgt_in _ (wm_2 90 rfl rfl)))
  obtain ⟨c11, i11, h11⟩ := u_known (C := RX11) (T := TX11) (N := 15) (n := 15) hts (fun w h => xgt_in w (xin_X11 w h)) (hts (.instantiable RX11 15) (xgt_in _ (wm_1 29 rfl rfl)))
  obtain ⟨c12, i12, h12⟩ := u_known (C := RX12) (T := TX12) (N := 69) (n := 69) hts (fun w h => xgt_in w (xin_X12 w h)) (hts (.instantiable RX12 69) (xgt_in _ (wm_6 71 rfl rfl)))
  refine ⟨fun k => if k = 0 then c0 else if k = 1 then c1 else if k = 2 then c2 else if k = 3 then c3 else if k = 4 then c4 else if k = 5 then c5 else if k = 6 then c6 else if k = 7 then c7 else if k = 8 then c8 else if k = 9 then c9 else if k = 10 then c10 else if k = 11 then c11 else c12, fun k => if k = 0 then i0 else if k = 1 then i1 else if k = 2 then i2 else if k = 3 then i3 else if k = 4 then i4 else if k = 5 then i5 else if k = 6 then i6 else if k = 7 then i7 else if k = 8 then i8 else if k = 9 then i9 else if k = 10 then i10 else if k = 11 then i11 else i12, ?_⟩
  intro k q hq
  match k, hq with
  | 0, hq => cases hq; exact h0
  | 1, hq => cases hq; exact h1
  | 2, hq => cases hq; exact h2
  | 3, hq => cases hq; exact h3
  | 4, hq => cases hq; exact h4
  | 5, hq => cases hq; exact h5
  | 6, hq => cases hq; exact h6
  | 7, hq => cases hq; exact h7
  | 8, hq => cases hq; exact h8
  | 9, hq => cases hq; exact h9
  | 10, hq => cases hq; exact h10
  | 11, hq => cases hq; exact h11
  | 12, hq => cases hq; exact h12
  | k + 13, hq => simp [vwCl] at hq
theorem xarrT {args : Array Value} {s : State} {ty : FieldType} (h : (Cond.arrayClass ty).before args s = true) : ∃ cA : ClassId, ArrOfT s cA ty ∧ s.vm.findClass ("[" ++ ty.toString) = some cA := by
  obtain ⟨cA, k, comp, h1, h2, h3⟩ := Cond.arrayClass_spec h
  exact ⟨cA, fun n z => ⟨(fun q hq => by cases hq), k, h2, comp, h3⟩, h1⟩
theorem xarrA {args : Array Value} {s : State} (h : (Cond.arrayOver (.array .int)).before args s = true) : ∃ cA : ClassId, ArrOfT s cA (.array .int) ∧ s.vm.findClass ("[" ++ (FieldType.array .int).toString) = some cA := by
  obtain ⟨comp, cA, k, h1, h2, h3, h4⟩ := Cond.arrayOver_specA h
  exact ⟨cA, fun n z => ⟨(fun q hq => by cases hq), k, h2, comp, h3⟩, h4⟩
theorem xworld {args : Array Value} {s : State} (hts : ∀ w ∈ lw_tbl, w.before args s = true) : ∃ (D : va_G) (dA : Nat → ClassId), va_K D vwCl (xtys dA) s := by
  obtain ⟨dC, dI, hK⟩ := xclasses hts
  obtain ⟨a0, g0, f0⟩ := xarrT (hts (.arrayClass .int) (by decide +kernel))
  obtain ⟨a1, g1, f1⟩ := xarrT (hts (.arrayClass .byte) (by decide +kernel))
  obtain ⟨a2, g2, f2⟩ := xarrT (hts (.arrayClass .long) (by decide +kernel))
  obtain ⟨a3, g3, f3⟩ := xarrT (hts (.arrayClass .boolean) (by decide +kernel))
  obtain ⟨a4, g4, f4⟩ := xarrA (hts (.arrayOver (.array .int)) (by decide +kernel))
  refine ⟨(dC, dI), fun k => if k = 0 then a0 else if k = 1 then a1 else if k = 2 then a2 else if k = 3 then a3 else a4, hK, fun k q hq => ?_⟩
  match k, hq with
  | 0, hq => cases hq; exact ⟨g0, f0⟩
  | 1, hq => cases hq; exact ⟨g1, f1⟩
  | 2, hq => cases hq; exact ⟨g2, f2⟩
  | 3, hq => cases hq; exact ⟨g3, f3⟩
  | 4, hq => cases hq; exact ⟨g4, f4⟩
  | k + 5, hq => simp [xtys] at hq
theorem xgetm (l : List Nat) (j : Nat) : (l.map nI).getD j 0 = nI (l.getD j 0) := by
  rw [List.getD_eq_getElem?_getD, List.getD_eq_getElem?_getD, List.getElem?_map]
  cases l[j]? <;> rfl
end
section
theorem xtext0 {args : Array Value} {s : State} (hgv : (Jvm.Cond.and given_1 narrow_1).before args s = true) : ∃ a v : Nat, (Term.string RX9 41).eval args s none [] s = some (.ref a) ∧ va_O "java/lang/String" a (fun q => s.heap.size ≤ q) s s.heap ∧ va_OF "java/lang/String" "coder" "B" (.int 0) a (fun q => s.heap.size ≤ q) s s.heap ∧ va_OF "java/lang/String" "value" "[B" (.ref v) a (fun q => s.heap.size ≤ q) s s.heap ∧ va_T .byte v (xlen.getD 0 0) (fun j => .int (nI ((xbyt.getD 0 []).getD j 0))) (fun q => s.heap.size ≤ q) s s.heap := by
  have hs := flat_of_before _ hgv
  have hm0 : ((flatC (Jvm.Cond.and given_1 narrow_1)).drop 43).take 68 = (List.range 68).map (fun j => Cond.eq (.elem (.field (Term.string RX9 41) "java/lang/String" "value" "[B") (.int (Int32.ofNat j))) (.int (((xbyt.getD 0 []).map nI).getD j 0))) := by decide +kernel
  have hm : ∀ j, j < 68 → Cond.eq (.elem (.field (Term.string RX9 41) "java/lang/String" "value" "[B") (.int (Int32.ofNat j))) (.int (((xbyt.getD 0 []).map nI).getD j 0)) ∈ flatC (Jvm.Cond.and given_1 narrow_1) := fun j hj => List.mem_of_mem_drop (List.mem_of_mem_take (by rw [hm0]; exact List.mem_map.mpr ⟨j, List.mem_range.mpr hj, rfl⟩))
  obtain ⟨aK, aV, hk, he⟩ := vk_Sof (args := args) (s := s) (N := 1) (tm := fun _ => Term.string RX9 41) (len := [68]) (byt := [(xbyt.getD 0 []).map nI]) (A := fun q => s.heap.size ≤ q)
    (fun i hi => by rw [show i = 0 by omega]; decide) (fun i hi => hs _ (by decide +kernel)) (fun i hi => hs _ (by decide +kernel)) (fun i hi => hs _ (by decide +kernel)) (fun i hi => by rw [show i = 0 by omega]; exact hs _ (by decide +kernel)) (fun i hi j hj => by
      have e : i = 0 := by omega
      subst e
      exact hs _ (hm j hj)) (fun i j hi hj hne => absurd (show i = j by omega) hne) (fun a ha => by show ¬ s.heap.size ≤ a; omega)
  obtain ⟨h1, h2, h3, h4⟩ := hk.1 0 (by omega)
  refine ⟨aK 0, aV 0, he 0 (by omega), h1, h2, h3, ?_⟩
  have e2 : (fun j => Value.int ((([(xbyt.getD 0 []).map nI] : List (List Int32)).getD 0 []).getD j 0)) = fun j => Value.int (nI ((xbyt.getD 0 []).getD j 0)) := funext fun j => congrArg Value.int (xgetm _ j)
  rw [e2] at h4
  exact h4
theorem xtext1 {args : Array Value} {s : State} (hgv : (Jvm.Cond.and given_1 narrow_1).before args s = true) : ∃ a v : Nat, (Term.string RX9 47).eval args s none [] s = some (.ref a) ∧ va_O "java/lang/String" a (fun q => s.heap.size ≤ q) s s.heap ∧ va_OF "java/lang/String" "coder" "B" (.int 0) a (fun q => s.heap.size ≤ q) s s.heap ∧ va_OF "java/lang/String" "value" "[B" (.ref v) a (fun q => s.heap.size ≤ q) s s.heap ∧ va_T .byte v (xlen.getD 1 0) (fun j => .int (nI ((xbyt.getD 1 []).getD j 0))) (fun q => s.heap.size ≤ q) s s.heap := by
  have hs := flat_of_before _ hgv
  have hm0 : ((flatC (Jvm.Cond.and given_1 narrow_1)).drop 115).take 48 = (List.range 48).map (fun j => Cond.eq (.elem (.field (Term.string RX9 47) "java/lang/String" "value" "[B") (.int (Int32.ofNat j))) (.int (((xbyt.getD 1 []).map nI).getD j 0))) := by decide +kernel
  have hm : ∀ j, j < 48 → Cond.eq (.elem (.field (Term.string RX9 47) "java/lang/String" "value" "[B") (.int (Int32.ofNat j))) (.int (((xbyt.getD 1 []).map nI).getD j 0)) ∈ flatC (Jvm.Cond.and given_1 narrow_1) := fun j hj => List.mem_of_mem_drop (List.mem_of_mem_take (by rw [hm0]; exact List.mem_map.mpr ⟨j, List.mem_range.mpr hj, rfl⟩))
  obtain ⟨aK, aV, hk, he⟩ := vk_Sof (args := args) (s := s) (N := 1) (tm := fun _ => Term.string RX9 47) (len := [48]) (byt := [(xbyt.getD 1 []).map nI]) (A := fun q => s.heap.size ≤ q)
    (fun i hi => by rw [show i = 0 by omega]; decide) (fun i hi => hs _ (by decide +kernel)) (fun i hi => hs _ (by decide +kernel)) (fun i hi => hs _ (by decide +kernel)) (fun i hi => by rw [show i = 0 by omega]; exact hs _ (by decide +kernel)) (fun i hi j hj => by
      have e : i = 0 := by omega
      subst e
      exact hs _ (hm j hj)) (fun i j hi hj hne => absurd (show i = j by omega) hne) (fun a ha => by show ¬ s.heap.size ≤ a; omega)
  obtain ⟨h1, h2, h3, h4⟩ := hk.1 0 (by omega)
  refine ⟨aK 0, aV 0, he 0 (by omega), h1, h2, h3, ?_⟩
  have e2 : (fun j => Value.int ((([(xbyt.getD 1 []).map nI] : List (List Int32)).getD 0 []).getD j 0)) = fun j => Value.int (nI ((xbyt.getD 1 []).getD j 0)) := funext fun j => congrArg Value.int (xgetm _ j)
  rw [e2] at h4
  exact h4
theorem xtext2 {args : Array Value} {s : State} (hgv : (Jvm.Cond.and given_1 narrow_1).before args s = true) : ∃ a v : Nat, (Term.string RX12 206).eval args s none [] s = some (.ref a) ∧ va_O "java/lang/String" a (fun q => s.heap.size ≤ q) s s.heap ∧ va_OF "java/lang/String" "coder" "B" (.int 0) a (fun q => s.heap.size ≤ q) s s.heap ∧ va_OF "java/lang/String" "value" "[B" (.ref v) a (fun q => s.heap.size ≤ q) s s.heap ∧ va_T .byte v (xlen.getD 2 0) (fun j => .int (nI ((xbyt.getD 2 []).getD j 0))) (fun q => s.heap.size ≤ q) s s.heap := by
  have hs := flat_of_before _ hgv
  have hm0 : ((flatC (Jvm.Cond.and given_1 narrow_1)).drop 206).take 118 = (List.range 118).map (fun j => Cond.eq (.elem (.field (Term.string RX12 206) "java/lang/String" "value" "[B") (.int (Int32.ofNat j))) (.int (((xbyt.getD 2 []).map nI).getD j 0))) := by decide +kernel
  have hm : ∀ j, j < 118 → Cond.eq (.elem (.field (Term.string RX12 206) "java/lang/String" "value" "[B") (.int (Int32.ofNat j))) (.int (((xbyt.getD 2 []).map nI).getD j 0)) ∈ flatC (Jvm.Cond.and given_1 narrow_1) := fun j hj => List.mem_of_mem_drop (List.mem_of_mem_take (by rw [hm0]; exact List.mem_map.mpr ⟨j, List.mem_range.mpr hj, rfl⟩))
  obtain ⟨aK, aV, hk, he⟩ := vk_Sof (args := args) (s := s) (N := 1) (tm := fun _ => Term.string RX12 206) (len := [118]) (byt := [(xbyt.getD 2 []).map nI]) (A := fun q => s.heap.size ≤ q)
    (fun i hi => by rw [show i = 0 by omega]; decide) (fun i hi => hs _ (by decide +kernel)) (fun i hi => hs _ (by decide +kernel)) (fun i hi => hs _ (by decide +kernel)) (fun i hi => by rw [show i = 0 by omega]; exact hs _ (by decide +kernel)) (fun i hi j hj => by
      have e : i = 0 := by omega
      subst e
      exact hs _ (hm j hj)) (fun i j hi hj hne => absurd (show i = j by omega) hne) (fun a ha => by show ¬ s.heap.size ≤ a; omega)
  obtain ⟨h1, h2, h3, h4⟩ := hk.1 0 (by omega)
  refine ⟨aK 0, aV 0, he 0 (by omega), h1, h2, h3, ?_⟩
  have e2 : (fun j => Value.int ((([(xbyt.getD 2 []).map nI] : List (List Int32)).getD 0 []).getD j 0)) = fun j => Value.int (nI ((xbyt.getD 2 []).getD j 0)) := funext fun j => congrArg Value.int (xgetm _ j)
  rw [e2] at h4
  exact h4
end
section
theorem xstr60 {args : Array Value} {s : State} (hgv : (Jvm.Cond.and given_1 narrow_1).before args s = true) : ∃ a : Nat, (Term.string RX11 151).eval args s none [] s = some (.ref a) := by
  have hs := flat_of_before _ hgv
  obtain ⟨a, c, cA, kA, q1, -⟩ := Cond.exactly_spec (args := args) (first := s) (o := none) (s := s) (idx := []) (t := Term.string RX11 151) (cls := "java/lang/String") (hs _ (by decide +kernel))
  exact ⟨a, q1⟩
theorem xstr61 {args : Array Value} {s : State} (hgv : (Jvm.Cond.and given_1 narrow_1).before args s = true) : ∃ a : Nat, (Term.string RX11 180).eval args s none [] s = some (.ref a) := by
  have hs := flat_of_before _ hgv
  obtain ⟨a, c, cA, kA, q1, -⟩ := Cond.exactly_spec (args := args) (first := s) (o := none) (s := s) (idx := []) (t := Term.string RX11 180) (cls := "java/lang/String") (hs _ (by decide +kernel))
  exact ⟨a, q1⟩
theorem xfacts {b : Nat} {s : State} (hts : ∀ w ∈ lw_tbl, w.before #[Value.ref b] s = true) (hgv : (Jvm.Cond.and given_1 narrow_1).before #[Value.ref b] s = true) : ∃ sa : Nat → Nat, xFx s.heap.size sa s ∧ sa 50 = b := by
  have hs := flat_of_before _ hgv
  have hA : ∀ a : Nat, a < s.heap.size → ¬ (fun q => s.heap.size ≤ q) a := fun a ha => by show ¬ s.heap.size ≤ a; omega
  obtain ⟨s0, v0, e0, t0⟩ := xtext0 hgv
  obtain ⟨s1, v1, e1, t1⟩ := xtext1 hgv
  obtain ⟨s2, v2, e2, t2⟩ := xtext2 hgv
  obtain ⟨u, eu⟩ := xstr60 hgv
  obtain ⟨u1, eu1⟩ := xstr61 hgv
  have hc : va_Z "java/lang/String" "COMPACT_STRINGS" "Z" (.int 1) (fun q => s.heap.size ≤ q) s s.heap := va_Zof (hts _ (by decide +kernel)) (hts _ (by decide +kernel)) (va_eqt (hs (.eq (.static "java/lang/String" "COMPACT_STRINGS" "Z") (.int 1)) (by decide +kernel))) hA
  have hz := va_Zqof (C := "jdk/internal/util/Preconditions") (n := "SIOOBE_FORMATTER") (d := "Ljava/util/function/BiFunction;") (A := fun q => s.heap.size ≤ q) (hts _ (by decide +kernel)) (hts _ (by decide +kernel)) (hs _ (by decide +kernel)) hA
  have hU : vx_Zq Bundle.tN "UNASSIGNED_STACK" Bundle.steD (fun q => s.heap.size ≤ q) s s.heap := vx_Zqof (hts _ (by decide +kernel)) (hts _ (by decide +kernel)) (hs _ (by decide +kernel)) hA
  have hN : vx_Zq Bundle.tN "SUPPRESSED_SENTINEL" Bundle.listD (fun q => s.heap.size ≤ q) s s.heap := vx_Zqof (hts _ (by decide +kernel)) (hts _ (by decide +kernel)) (hs _ (by decide +kernel)) hA
  have hnw : ∀ w ∈ xnw, va_Nw w s := by
    intro w hw
    have h1 : w ∈ lw_tbl := (by decide +kernel : ∀ w ∈ xnw, w ∈ lw_tbl) w hw
    have h2 : w.onTables = true := (by decide +kernel : ∀ w ∈ xnw, w.onTables = true) w hw
    exact va_Nw.of h2 (hts w h1)
  have hth : ∀ w ∈ xthr, va_Nw w s := by
    intro w hw
    have h1 : w ∈ lw_tbl := (by decide +kernel : ∀ w ∈ xthr, w ∈ lw_tbl) w hw
    have h2 : w.onTables = true := (by decide +kernel : ∀ w ∈ xthr, w.onTables = true) w hw
    exact va_Nw.of h2 (hts w h1)
  have hth2 : ∀ w ∈ xthr2, va_Nw w s := by
    intro w hw
    have h1 : w ∈ lw_tbl := (by decide +kernel : ∀ w ∈ xthr2, w ∈ lw_tbl) w hw
    have h2 : w.onTables = true := (by decide +kernel : ∀ w ∈ xthr2, w.onTables = true) w hw
    exact va_Nw.of h2 (hts w h1)
  obtain ⟨fl, t, hzz⟩ : ∃ fl t : Nat, va_Z "jdk/internal/util/Preconditions" "SIOOBE_FORMATTER" "Ljava/util/function/BiFunction;" (if fl = 0 then .null else .ref t) (fun q => s.heap.size ≤ q) s s.heap := by
    rcases hz with hz | ⟨t, hz⟩
    · exact ⟨0, 0, hz⟩
    · exact ⟨1, t, hz⟩
  refine ⟨fun k => if k = 0 then s0 else if k = 1 then s1 else if k = 2 then s2 else if k = 1002 then v2 else if k = 61 then u1 else if k = 1000 then v0 else if k = 1001 then v1 else if k = 98 then fl else if k = 99 then t else if k = 60 then u else b, ⟨hnw, (show va_Nw (.arrayOver (.array .int)) s from hts (.arrayOver (.array .int)) (by decide +kernel)), fun k hk => ?_, vk_R.of (hts _ (by decide +kernel)) e0, vk_R.of (hts _ (by decide +kernel)) e1, hc, hzz, hU, hN, vk_R.of (hts _ (by decide +kernel)) eu, hth, vk_R.of (hts _ (by decide +kernel)) e2, vk_R.of (hts _ (by decide +kernel)) eu1, hth2⟩, rfl⟩
  rcases (show k = 0 ∨ k = 1 ∨ k = 2 by omega) with rfl | rfl | rfl
  · exact t0
  · exact t1
  · exact t2
end
section
set_option maxRecDepth 20000 in
theorem xv_0 : Cond.methodLink RX11 344 Lib.Math.min.name ∈ xgt := wm_5 189 rfl rfl
set_option maxRecDepth 20000 in
theorem xv_1 : Cond.static Lib.Math.min.name ∈ xgt := wm_3 152 rfl rfl
set_option maxRecDepth 20000 in
theorem xv_2 : Cond.initialized "java/lang/Math" ∈ xgt := wm_1 20 rfl rfl
set_option maxRecDepth 20000 in
theorem xv_3 : Cond.code Lib.Math.min.name Lib.Math.min.code 2 (some .int) ∈ xgt := wm_3 153 rfl rfl
set_option maxRecDepth 20000 in
theorem xv_4 : Cond.methodLink RX1 119 Lib.Math.min.name ∈ xgt := wm_5 56 rfl rfl
set_option maxRecDepth 20000 in
theorem xv_5 : Cond.methodLink RX3 19 Lib.Math.min.name ∈ xgt := wm_5 129 rfl rfl
set_option maxRecDepth 20000 in
theorem xv_6 : Cond.methodLink RX4 107 Lib.Math.max.name ∈ xgt := wm_4 141 rfl rfl
set_option maxRecDepth 20000 in
theorem xv_7 : Cond.static Lib.Math.max.name ∈ xgt := wm_4 142 rfl rfl
set_option maxRecDepth 20000 in
theorem xv_8 : Cond.code Lib.Math.max.name Lib.Math.max.code 2 (some .int) ∈ xgt := wm_4 143 rfl rfl
set_option maxRecDepth 20000 in
theorem xv_9 : Cond.methodLink RX5 98 Lib.Math.max.name ∈ xgt := wm_4 197 rfl rfl
set_option maxRecDepth 20000 in
theorem xv_10 : Cond.methodLink RX5 103 Lib.Math.min.name ∈ xgt := wm_4 198 rfl rfl
set_option maxRecDepth 20000 in
theorem xv_11 : Cond.methodLink RX5 135 Lib.MathLoose.min_long.x ∈ xgt := wm_4 177 rfl rfl
set_option maxRecDepth 20000 in
theorem xv_12 : Cond.static Lib.MathLoose.min_long.x ∈ xgt := wm_4 178 rfl rfl
set_option maxRecDepth 20000 in
theorem xv_13 : Cond.code Lib.MathLoose.min_long.x Lib.MathLoose.min_long.code 4 (some .long) ∈ xgt := wm_4 179 rfl rfl
set_option maxRecDepth 20000 in
theorem xv_14 : Cond.methodLink RX5 138 Lib.MathLoose.max_long.x ∈ xgt := wm_4 180 rfl rfl
set_option maxRecDepth 20000 in
theorem xv_15 : Cond.static Lib.MathLoose.max_long.x ∈ xgt := wm_4 181 rfl rfl
set_option maxRecDepth 20000 in
theorem xv_16 : Cond.code Lib.MathLoose.max_long.x Lib.MathLoose.max_long.code 4 (some .long) ∈ xgt := wm_4 182 rfl rfl
set_option maxRecDepth 20000 in
theorem xv_17 : Cond.methodLink RX5 151 Lib.MathLoose.abs_long.x ∈ xgt := wm_4 171 rfl rfl
set_option maxRecDepth 20000 in
theorem xv_18 : Cond.static Lib.MathLoose.abs_long.x ∈ xgt := wm_4 172 rfl rfl
set_option maxRecDepth 20000 in
theorem xv_19 : Cond.code Lib.MathLoose.abs_long.x Lib.MathLoose.abs_long.code 2 (some .long) ∈ xgt := wm_4 173 rfl rfl
set_option maxRecDepth 20000 in
theorem xv_20 : Cond.methodLink RX7 69 Lib.Math.max.name ∈ xgt := wm_5 96 rfl rfl
set_option maxRecDepth 20000 in
theorem xv_21 : Cond.methodLink RX9 59 Lib.Math.min.name ∈ xgt := wm_3 151 rfl rfl
set_option maxRecDepth 20000 in
theorem xv_22 : Cond.methodLink RX12 375 Lib.MathLoose.max_long.x ∈ xgt := wm_8 45 rfl rfl
set_option maxRecDepth 20000 in
theorem xv_23 : Cond.methodLink RX12 403 Lib.Math.min.name ∈ xgt := wm_8 58 rfl rfl
set_option maxRecDepth 20000 in
theorem xv_24 : Cond.methodLink RX12 385 Lib.Math.max.name ∈ xgt := wm_8 25 rfl rfl
set_option maxRecDepth 20000 in
theorem xv_25 : Cond.methodLink RX12 371 Lib.MathLoose.min_long.x ∈ xgt := wm_8 44 rfl rfl
set_option maxRecDepth 20000 in
theorem xv_26 : Cond.methodLink RX12 355 Lib.MathLoose.abs_long.x ∈ xgt := wm_8 41 rfl rfl
end
