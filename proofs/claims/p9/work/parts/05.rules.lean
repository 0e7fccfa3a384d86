abbrev xCx (p : Program) (s : State) (m : MethodId) (args : Array Value) (c : Code) (cc : ByteArray) (own : String) : Prop := p.tables.exec = Jvm.exec ∧ c.code = cc ∧ s.vm.findClass own = some m.cls ∧ ∀ w ∈ xgt, w.before args s = true
/-- the words of a private method of a nest mate -/
def xnw : List Cond := [.methodLinkNest RX11 15 yX4_init RX11, .methodLinkNest RX11 39 yX10_init RX11, .methodLinkNest RX11 49 yX3_init RX11, .methodLinkNest RX4 65 yX2_init RX11, .methodLinkNest RX8 121 yX11_slotOf RX11, .methodLinkNest RX5 50 yX11_slotOf RX11, .methodLinkNest RX1 98 yX11_slotOf RX11]
/-- the constant texts of the class of tokens: their lengths, their bytes -/
def xlen : List Nat := [68, 48, 118]
def xbyt : List (List Nat) := [[116, 97, 118, 101, 114, 110, 32, 118, 111, 105, 99, 101, 32, 118, 101, 114, 115, 101, 32, 98, 97, 107, 101, 114, 32, 112, 117, 114, 115, 101, 32, 115, 101, 101, 100, 32, 108, 97, 119, 32, 98, 111, 121, 32, 112, 97, 119, 110, 32, 111, 100, 100, 115, 32, 112, 97, 114, 116, 32, 100, 117, 101, 32, 99, 114, 97, 99, 107], [111, 114, 32, 97, 110, 100, 32, 110, 111, 116, 32, 100, 101, 98, 116, 32, 114, 97, 116, 101, 32, 110, 111, 116, 101, 115, 32, 114, 101, 115, 116, 115, 32, 104, 105, 103, 104, 32, 119, 101, 101, 107, 32, 112, 97, 114, 116, 115], [116, 97, 118, 101, 114, 110, 32, 118, 111, 105, 99, 101, 32, 118, 101, 114, 115, 101, 32, 98, 97, 107, 101, 114, 32, 112, 117, 114, 115, 101, 32, 115, 101, 101, 100, 32, 108, 97, 119, 32, 112, 97, 114, 116, 32, 98, 111, 121, 32, 112, 97, 119, 110, 32, 111, 100, 100, 115, 32, 100, 117, 101, 32, 99, 114, 97, 99, 107, 32, 111, 114, 32, 97, 110, 100, 32, 110, 111, 116, 32, 100, 101, 98, 116, 32, 114, 97, 116, 101, 32, 110, 111, 116, 101, 115, 32, 114, 101, 115, 116, 115, 32, 104, 105, 103, 104, 32, 119, 101, 101, 107, 32, 112, 97, 114, 116, 115, 32]]
/-- the words of a throw that no good word says -/
def xthr : List Cond := (vx_atS RX11 153 "java/lang/IndexOutOfBoundsException" ["java/lang/RuntimeException", "java/lang/Exception"]).filter (fun w => !goodWord w)
def xthr2 : List Cond := (vx_atS RX11 182 "java/util/NoSuchElementException" ["java/lang/RuntimeException", "java/lang/Exception"]).filter (fun w => !goodWord w)
/-- what holds beside the world: nest mates, arrays of arrays, constant texts (sa k the text, sa (k + 1000) its bytes), statics -/
def xFx (b : Nat) (sa : Nat → Nat) (s : State) : Prop := (∀ w ∈ xnw, va_Nw w s) ∧ va_Nw (.arrayOver (.array .int)) s ∧
  (∀ k, k < 3 → va_O "java/lang/String" (sa k) (fun q => b ≤ q) s s.heap ∧ va_OF "java/lang/String" "coder" "B" (.int 0) (sa k) (fun q => b ≤ q) s s.heap ∧ va_OF "java/lang/String" "value" "[B" (.ref (sa (k + 1000))) (sa k) (fun q => b ≤ q) s s.heap ∧ va_T .byte (sa (k + 1000)) (xlen.getD k 0) (fun j => .int (nI ((xbyt.getD k []).getD j 0))) (fun q => b ≤ q) s s.heap) ∧
  vk_R RX9 41 "tavern voice verse baker purse seed law boy pawn odds part due crack" (sa 0) s ∧ vk_R RX9 47 "or and not debt rate notes rests high week parts" (sa 1) s ∧
  va_Z "java/lang/String" "COMPACT_STRINGS" "Z" (.int 1) (fun q => b ≤ q) s s.heap ∧ va_Z "jdk/internal/util/Preconditions" "SIOOBE_FORMATTER" "Ljava/util/function/BiFunction;" (if sa 98 = 0 then .null else .ref (sa 99)) (fun q => b ≤ q) s s.heap ∧
  (vx_Zq Bundle.tN "UNASSIGNED_STACK" Bundle.steD (fun q => b ≤ q) s s.heap ∧ vx_Zq Bundle.tN "SUPPRESSED_SENTINEL" Bundle.listD (fun q => b ≤ q) s s.heap ∧ vk_R RX11 151 "no such voice" (sa 60) s ∧ (∀ w ∈ xthr, va_Nw w s) ∧ vk_R RX12 206 "tavern voice verse baker purse seed law part boy pawn odds due crack or and not debt rate notes rests high week parts " (sa 2) s ∧ vk_R RX11 180 "no such what" (sa 61) s ∧ ∀ w ∈ xthr2, va_Nw w s)
def xkd (k : Nat) (v : Value) : Prop := match k with
  | 0 => ∃ x, v = .int x
  | 1 => v = .null ∨ ∃ a, v = .ref a
  | _ => ∃ x, v = .long x
def xT (cc : ByteArray) (own : String) (pc nx : Nat) (st st' : List Value) : Prop := ∀ (p : Program) (l : Launch) (e : Env) (R : Room) (s : State) (m : MethodId) (args : Array Value) (below : List Frame) (meth : Method) (c : Code) (H : Heap) (locs : List Loc) (cells slots : Nat) (Q : State → Prop) (ls : Array Slot) (rest : List Value), xCx p s m args c cc own → W p l e R s m args below meth c H locs cells slots Q (F0 m nx ls (st' ++ rest)) → W p l e R s m args below meth c H locs cells slots Q (F0 m pc ls (st ++ rest))
def xB (cc : ByteArray) (own : String) (pc nx tgt k : Nat) : Prop := ∀ (p : Program) (l : Launch) (e : Env) (R : Room) (s : State) (m : MethodId) (args : Array Value) (below : List Frame) (meth : Method) (c : Code) (H : Heap) (locs : List Loc) (cells slots : Nat) (Q : State → Prop) (ls : Array Slot) (rest : List Value), xCx p s m args c cc own → ∀ x y : Int32, (xcp k x y → W p l e R s m args below meth c H locs cells slots Q (F0 m tgt ls rest)) → (¬ xcp k x y → W p l e R s m args below meth c H locs cells slots Q (F0 m nx ls rest)) → W p l e R s m args below meth c H locs cells slots Q (F0 m pc ls (.int y :: .int x :: rest))
def xB0 (cc : ByteArray) (own : String) (pc nx tgt k : Nat) : Prop := ∀ (p : Program) (l : Launch) (e : Env) (R : Room) (s : State) (m : MethodId) (args : Array Value) (below : List Frame) (meth : Method) (c : Code) (H : Heap) (locs : List Loc) (cells slots : Nat) (Q : State → Prop) (ls : Array Slot) (rest : List Value), xCx p s m args c cc own → ∀ x : Int32, (xcp k x (nI 0) → W p l e R s m args below meth c H locs cells slots Q (F0 m tgt ls rest)) → (¬ xcp k x (nI 0) → W p l e R s m args below meth c H locs cells slots Q (F0 m nx ls rest)) → W p l e R s m args below meth c H locs cells slots Q (F0 m pc ls (.int x :: rest))
def xLd (cc : ByteArray) (own : String) (pc nx k i : Nat) : Prop := ∀ (p : Program) (l : Launch) (e : Env) (R : Room) (s : State) (m : MethodId) (args : Array Value) (below : List Frame) (meth : Method) (c : Code) (H : Heap) (locs : List Loc) (cells slots : Nat) (Q : State → Prop) (ls : Array Slot) (rest : List Value), xCx p s m args c cc own → ∀ v : Value, xkd k v → ls[i]? = some (.val v) → W p l e R s m args below meth c H locs cells slots Q (F0 m nx ls (v :: rest)) → W p l e R s m args below meth c H locs cells slots Q (F0 m pc ls rest)
def xfl (k i : Nat) (q : Nat × Value) : Bool := match k with
  | 2 => !(q.1 == i) && (!(q.1 == i + 1) && !(q.1 + 1 == i && q.2.category == 2))
  | _ => !(q.1 == i) && !(q.1 + 1 == i && q.2.category == 2)
def xwd (k : Nat) : Nat := match k with
  | 2 => 1
  | _ => 0
def xSt (cc : ByteArray) (own : String) (pc nx k i : Nat) : Prop := ∀ (p : Program) (l : Launch) (e : Env) (R : Room) (s : State) (m : MethodId) (args : Array Value) (below : List Frame) (meth : Method) (c : Code) (H : Heap) (locs : List Loc) (cells slots : Nat) (Q : State → Prop) (ls : Array Slot) (rest : List Value), xCx p s m args c cc own → ∀ (nL : Nat) (lv : List (Nat × Value)) (v : Value), xkd k v → lv_has ls nL lv → i + xwd k < nL → (∀ ls' : Array Slot, lv_has ls' nL ((i, v) :: lv.filter (xfl k i)) → W p l e R s m args below meth c H locs cells slots Q (F0 m nx ls' rest)) → W p l e R s m args below meth c H locs cells slots Q (F0 m pc ls (v :: rest))
def xIn (cc : ByteArray) (own : String) (pc nx i n : Nat) : Prop := ∀ (p : Program) (l : Launch) (e : Env) (R : Room) (s : State) (m : MethodId) (args : Array Value) (below : List Frame) (meth : Method) (c : Code) (H : Heap) (locs : List Loc) (cells slots : Nat) (Q : State → Prop) (ls : Array Slot) (rest : List Value), xCx p s m args c cc own → ∀ (nL k : Nat) (lv : List (Nat × Value)) (x : Int32), lv_has ls nL lv → lv[k]? = some (i, .int x) → i < nL → (∀ ls' : Array Slot, lv_has ls' nL ((i, .int (x + nI n)) :: lv.filter (xfl 0 i)) → W p l e R s m args below meth c H locs cells slots Q (F0 m nx ls' rest)) → W p l e R s m args below meth c H locs cells slots Q (F0 m pc ls rest)
def xSw (cc : ByteArray) (own : String) (pc dflt : Nat) (cs : List (Nat × Nat)) : Prop := ∀ (p : Program) (l : Launch) (e : Env) (R : Room) (s : State) (m : MethodId) (args : Array Value) (below : List Frame) (meth : Method) (c : Code) (H : Heap) (locs : List Loc) (cells slots : Nat) (Q : State → Prop) (ls : Array Slot) (rest : List Value), xCx p s m args c cc own → ∀ x : Int32, ((∃ q ∈ cs, x = nI q.1 ∧ W p l e R s m args below meth c H locs cells slots Q (F0 m q.2 ls rest)) ∨ ((∀ q ∈ cs, ¬ x = nI q.1) ∧ W p l e R s m args below meth c H locs cells slots Q (F0 m dflt ls rest))) → W p l e R s m args below meth c H locs cells slots Q (F0 m pc ls (.int x :: rest))
def xGf (cc : ByteArray) (own : String) (pc nx ci k : Nat) : Prop := ∀ (p : Program) (l : Launch) (e : Env) (R : Room) (s : State) (m : MethodId) (args : Array Value) (below : List Frame) (meth : Method) (c : Code) (H : Heap) (locs : List Loc) (cells slots : Nat) (Q : State → Prop) (ls : Array Slot) (rest : List Value), xCx p s m args c cc own → ∀ (D : va_G) (tys : List (ClassId × FieldType)) (ws : va_W) (q0 a : Nat) (fs : List Value) (v : Value), va_K D vwCl tys s → va_P D vwCl ws H → ws[q0]? = some (a, .inr (ci, fs)) → fs[k]? = some v → W p l e R s m args below meth c H locs cells slots Q (F0 m nx ls (v :: rest)) → W p l e R s m args below meth c H locs cells slots Q (F0 m pc ls (.ref a :: rest))
def xPf (cc : ByteArray) (own : String) (pc nx ci k : Nat) (ty : FieldType) (fin : Bool) : Prop := ∀ (p : Program) (l : Launch) (e : Env) (R : Room) (s : State) (m : MethodId) (args : Array Value) (below : List Frame) (meth : Method) (c : Code) (H : Heap) (locs : List Loc) (cells slots : Nat) (Q : State → Prop) (ls : Array Slot) (rest : List Value), xCx p s m args c cc own → ∀ (D : va_G) (tys : List (ClassId × FieldType)) (ws : va_W) (q0 a : Nat) (A : Nat → Prop) (H0 : Heap) (fs : List Value) (v : Value), va_K D vwCl tys s → va_P D vwCl ws H → va_D A ws → va_S A H0 H locs → ws[q0]? = some (a, .inr (ci, fs)) → (fin = true → meth.name = "<init>") → narrow ty v = v → fits ty v = true → k < fs.length → (∀ (H1 : Heap) (locs1 : List Loc), va_P D vwCl (ws.set q0 (a, .inr (ci, fs.set k v))) H1 → va_D A (ws.set q0 (a, .inr (ci, fs.set k v))) → va_S A H0 H1 locs1 → H1.size = H.size → W p l e R s m args below meth c H1 locs1 cells slots Q (F0 m nx ls rest)) → W p l e R s m args below meth c H locs cells slots Q (F0 m pc ls (v :: .ref a :: rest))
def xAl (cc : ByteArray) (own : String) (pc nx : Nat) : Prop := ∀ (p : Program) (l : Launch) (e : Env) (R : Room) (s : State) (m : MethodId) (args : Array Value) (below : List Frame) (meth : Method) (c : Code) (H : Heap) (locs : List Loc) (cells slots : Nat) (Q : State → Prop) (ls : Array Slot) (rest : List Value), xCx p s m args c cc own → ∀ (D : va_G) (tys : List (ClassId × FieldType)) (ws : va_W) (q0 a : Nat) (t0 : Nat) (cA : ClassId) (x : vp_A) (ty : FieldType), va_K D vwCl tys s → va_P D vwCl ws H → ws[q0]? = some (a, .inl (cA, x)) → tys[t0]? = some (cA, ty) → W p l e R s m args below meth c H locs cells slots Q (F0 m nx ls (.int (nI x.1) :: rest)) → W p l e R s m args below meth c H locs cells slots Q (F0 m pc ls (.ref a :: rest))
def xRd (cc : ByteArray) (own : String) (pc nx : Nat) (ty : FieldType) : Prop := ∀ (p : Program) (l : Launch) (e : Env) (R : Room) (s : State) (m : MethodId) (args : Array Value) (below : List Frame) (meth : Method) (c : Code) (H : Heap) (locs : List Loc) (cells slots : Nat) (Q : State → Prop) (ls : Array Slot) (rest : List Value), xCx p s m args c cc own → ∀ (D : va_G) (tys : List (ClassId × FieldType)) (ws : va_W) (q0 a : Nat) (t0 : Nat) (cA : ClassId) (n : Nat) (f : Nat → Int32) (i : Int32), va_K D vwCl tys s → va_P D vwCl ws H → ws[q0]? = some (a, .inl (cA, n, .inl f)) → tys[t0]? = some (cA, ty) → vp_in i n → W p l e R s m args below meth c H locs cells slots Q (F0 m nx ls (.int (f i.toNatClampNeg) :: rest)) → W p l e R s m args below meth c H locs cells slots Q (F0 m pc ls (.int i :: .ref a :: rest))
def xRr (cc : ByteArray) (own : String) (pc nx : Nat) : Prop := ∀ (p : Program) (l : Launch) (e : Env) (R : Room) (s : State) (m : MethodId) (args : Array Value) (below : List Frame) (meth : Method) (c : Code) (H : Heap) (locs : List Loc) (cells slots : Nat) (Q : State → Prop) (ls : Array Slot) (rest : List Value), xCx p s m args c cc own → ∀ (D : va_G) (tys : List (ClassId × FieldType)) (ws : va_W) (q0 a : Nat) (t0 : Nat) (cA : ClassId) (n : Nat) (f : Nat → Option Nat) (i : Int32), va_K D vwCl tys s → va_P D vwCl ws H → ws[q0]? = some (a, .inl (cA, n, .inr (.inr (.inr (.inr f))))) → tys[t0]? = some (cA, .array .int) → vp_in i n → W p l e R s m args below meth c H locs cells slots Q (F0 m nx ls (va_rf (f i.toNatClampNeg) :: rest)) → W p l e R s m args below meth c H locs cells slots Q (F0 m pc ls (.int i :: .ref a :: rest))
def xWr (cc : ByteArray) (own : String) (pc nx : Nat) (ty : FieldType) : Prop := ∀ (p : Program) (l : Launch) (e : Env) (R : Room) (s : State) (m : MethodId) (args : Array Value) (below : List Frame) (meth : Method) (c : Code) (H : Heap) (locs : List Loc) (cells slots : Nat) (Q : State → Prop) (ls : Array Slot) (rest : List Value), xCx p s m args c cc own → ∀ (D : va_G) (tys : List (ClassId × FieldType)) (ws : va_W) (q0 a : Nat) (A : Nat → Prop) (H0 : Heap) (t0 : Nat) (cA : ClassId) (n : Nat) (f : Nat → Int32) (i x : Int32), va_K D vwCl tys s → va_P D vwCl ws H → va_D A ws → va_S A H0 H locs → ws[q0]? = some (a, .inl (cA, n, .inl f)) → tys[t0]? = some (cA, ty) → vp_in i n → (∀ (H1 : Heap) (locs1 : List Loc), va_P D vwCl (ws.set q0 (a, .inl (cA, n, .inl (upd f i.toNatClampNeg (vp_nar ty x))))) H1 → va_D A (ws.set q0 (a, .inl (cA, n, .inl (upd f i.toNatClampNeg (vp_nar ty x))))) → va_S A H0 H1 locs1 → H1.size = H.size → W p l e R s m args below meth c H1 locs1 cells slots Q (F0 m nx ls rest)) → W p l e R s m args below meth c H locs cells slots Q (F0 m pc ls (.int x :: .int i :: .ref a :: rest))
def xRl (cc : ByteArray) (own : String) (pc nx : Nat) : Prop := ∀ (p : Program) (l : Launch) (e : Env) (R : Room) (s : State) (m : MethodId) (args : Array Value) (below : List Frame) (meth : Method) (c : Code) (H : Heap) (locs : List Loc) (cells slots : Nat) (Q : State → Prop) (ls : Array Slot) (rest : List Value), xCx p s m args c cc own → ∀ (D : va_G) (tys : List (ClassId × FieldType)) (ws : va_W) (q0 a : Nat) (t0 : Nat) (cA : ClassId) (n : Nat) (f : Nat → Int64) (i : Int32), va_K D vwCl tys s → va_P D vwCl ws H → ws[q0]? = some (a, .inl (cA, n, .inr (.inl f))) → tys[t0]? = some (cA, .long) → vp_in i n → W p l e R s m args below meth c H locs cells slots Q (F0 m nx ls (.long (f i.toNatClampNeg) :: rest)) → W p l e R s m args below meth c H locs cells slots Q (F0 m pc ls (.int i :: .ref a :: rest))
def xWl (cc : ByteArray) (own : String) (pc nx : Nat) : Prop := ∀ (p : Program) (l : Launch) (e : Env) (R : Room) (s : State) (m : MethodId) (args : Array Value) (below : List Frame) (meth : Method) (c : Code) (H : Heap) (locs : List Loc) (cells slots : Nat) (Q : State → Prop) (ls : Array Slot) (rest : List Value), xCx p s m args c cc own → ∀ (D : va_G) (tys : List (ClassId × FieldType)) (ws : va_W) (q0 a : Nat) (A : Nat → Prop) (H0 : Heap) (t0 : Nat) (cA : ClassId) (n : Nat) (f : Nat → Int64) (i : Int32) (x : Int64), va_K D vwCl tys s → va_P D vwCl ws H → va_D A ws → va_S A H0 H locs → ws[q0]? = some (a, .inl (cA, n, .inr (.inl f))) → tys[t0]? = some (cA, .long) → vp_in i n → (∀ (H1 : Heap) (locs1 : List Loc), va_P D vwCl (ws.set q0 (a, .inl (cA, n, .inr (.inl (vp_updL f i.toNatClampNeg x))))) H1 → va_D A (ws.set q0 (a, .inl (cA, n, .inr (.inl (vp_updL f i.toNatClampNeg x))))) → va_S A H0 H1 locs1 → W p l e R s m args below meth c H1 locs1 cells slots Q (F0 m nx ls rest)) → W p l e R s m args below meth c H locs cells slots Q (F0 m pc ls (.long x :: .int i :: .ref a :: rest))
theorem xouter (c : ClassId) (N h0 : Nat) : ∀ i : Nat, Jvm.Free.Multi.outerC c N h0 i = arrV c N (fun j => va_rf (if j < i then some (h0 + 1 + j) else none))
  | 0 => by
    show ({ cls := c, slots := Array.replicate N .null, vm := .none } : Cell) = _
    rw [arrV_new]
    refine congrArg (arrV c N) (funext fun j => ?_)
    simp [va_rf]
  | i + 1 => by
    show (Jvm.Free.Multi.outerC c N h0 i).setSlot i (.ref (h0 + 1 + i)) = _
    rw [xouter c N h0 i, arrV_store]
    refine congrArg (arrV c N) (funext fun j => ?_)
    by_cases e : j = i
    · rw [e]
      simp [updV, va_rf]
    · by_cases h : j < i
      · simp [updV, e, h, Nat.lt_succ_of_lt h]
      · simp [updV, e, h, show ¬ j < i + 1 by omega]
def gbin (o : Nat) (x y : Int64) : Int64 := match o with
  | 0 => x + y
  | 1 => x - y
  | 2 => x * y
  | 3 => x &&& y
  | 4 => x ||| y
  | 5 => x ^^^ y
  | 9 => x / y
  | 10 => x - x / y * y
  | _ => 0
def xXd (cc : ByteArray) (own : String) (pc nx : Nat) : Prop := ∀ (p : Program) (l : Launch) (e : Env) (R : Room) (s : State) (m : MethodId) (args : Array Value) (below : List Frame) (meth : Method) (c : Code) (H : Heap) (locs : List Loc) (cells slots : Nat) (Q : State → Prop) (ls : Array Slot) (rest : List Value), xCx p s m args c cc own → ∀ (q L : Nat) (xs : Nat → Int32) (A : Nat → Prop), va_X q L xs s s.heap → q < s.heap.size → ¬ A q → va_S A s.heap H locs → ∀ n, n < L → n < 2147483648 → L < 2147483648 → W p l e R s m args below meth c H locs cells slots Q (F0 m nx ls (.int (xs n) :: rest)) → W p l e R s m args below meth c H locs cells slots Q (F0 m pc ls (.int (nI n) :: .ref q :: rest))
def xXl (cc : ByteArray) (own : String) (pc nx : Nat) : Prop := ∀ (p : Program) (l : Launch) (e : Env) (R : Room) (s : State) (m : MethodId) (args : Array Value) (below : List Frame) (meth : Method) (c : Code) (H : Heap) (locs : List Loc) (cells slots : Nat) (Q : State → Prop) (ls : Array Slot) (rest : List Value), xCx p s m args c cc own → ∀ (q L : Nat) (xs : Nat → Int32) (A : Nat → Prop), va_X q L xs s s.heap → q < s.heap.size → ¬ A q → va_S A s.heap H locs → W p l e R s m args below meth c H locs cells slots Q (F0 m nx ls (.int (nI L) :: rest)) → W p l e R s m args below meth c H locs cells slots Q (F0 m pc ls (.ref q :: rest))
def xMth (cc : ByteArray) (own : String) (pc nx : Nat) (st st' : List Value) : Prop := ∀ (p : Program) (l : Launch) (e : Env) (R : Room) (s : State) (m : MethodId) (args : Array Value) (below : List Frame) (meth : Method) (c : Code) (H : Heap) (locs : List Loc) (cells slots : Nat) (Q : State → Prop) (ls : Array Slot) (rest : List Value), xCx p s m args c cc own → c.maxLocals = ls.size → 1 ≤ R.frames → (rest.map fun v => v.category).sum + 15 ≤ R.locals → cells ≤ R.cells → slots ≤ R.slots → W p l e R s m args below meth c H locs cells slots Q (F0 m nx ls (st' ++ rest)) → W p l e R s m args below meth c H locs cells slots Q (F0 m pc ls (st ++ rest))
def xMa (cc : ByteArray) (own : String) (pc nx : Nat) : Prop := ∀ (p : Program) (l : Launch) (e : Env) (R : Room) (s : State) (m : MethodId) (args : Array Value) (below : List Frame) (meth : Method) (c : Code) (H : Heap) (locs : List Loc) (cells slots : Nat) (Q : State → Prop) (ls : Array Slot) (rest : List Value), xCx p s m args c cc own → ∀ (b : Nat) (sa : Nat → Nat) (D : va_G) (tys : List (ClassId × FieldType)) (ws : va_W) (A : Nat → Prop) (H0 : Heap) (n k : Int32) (N' K' : Nat) (cA cI : ClassId), xFx b sa s → va_P D vwCl ws H → va_S A H0 H locs → s.vm.findClass ("[" ++ (FieldType.array .int).toString) = some cA → s.vm.findClass (FieldType.array .int).toString = some cI → ¬ n < 0 → ¬ k < 0 → n.toNatClampNeg = N' → k.toNatClampNeg = K' → N' ≤ 1000 → K' ≤ 1000 → cells + (1 + N') ≤ R.cells → slots + (N' + N' * K') ≤ R.slots → (∀ H1 : Heap, va_P D vwCl (ws ++ (H.size, .inl (cA, N', .inr (.inr (.inr (.inr (fun i => if i < N' then some (H.size + 1 + i) else none)))))) :: (List.range N').map (fun i => (H.size + 1 + i, .inl (cI, K', .inl (fun _ => 0))))) H1 → va_S A H0 H1 locs → H1.size = H.size + 1 + N' → W p l e R s m args below meth c H1 locs (cells + 1 + N') (slots + N' + N' * K') Q (F0 m nx ls (.ref H.size :: rest))) → W p l e R s m args below meth c H locs cells slots Q (F0 m pc ls (.int k :: .int n :: rest))
def xMi (cc : ByteArray) (own : String) (pc nx : Nat) : Prop := ∀ (p : Program) (l : Launch) (e : Env) (R : Room) (s : State) (m : MethodId) (args : Array Value) (below : List Frame) (meth : Method) (c : Code) (H : Heap) (locs : List Loc) (cells slots : Nat) (Q : State → Prop) (ls : Array Slot) (rest : List Value), xCx p s m args c cc own → ∀ x y : Int32, c.maxLocals = ls.size → 1 ≤ R.frames → (rest.map fun v => v.category).sum + 13 ≤ R.locals → cells ≤ R.cells → slots ≤ R.slots → W p l e R s m args below meth c H locs cells slots Q (F0 m nx ls (.int (if y < x then y else x) :: rest)) → W p l e R s m args below meth c H locs cells slots Q (F0 m pc ls (.int y :: .int x :: rest))
def xSb (cc : ByteArray) (own : String) (pc nx : Nat) : Prop := ∀ (p : Program) (l : Launch) (e : Env) (R : Room) (s : State) (m : MethodId) (args : Array Value) (below : List Frame) (meth : Method) (c : Code) (H : Heap) (locs : List Loc) (cells slots : Nat) (Q : State → Prop) (ls : Array Slot) (rest : List Value), xCx p s m args c cc own → ∀ (b : Nat) (sa : Nat → Nat) (A : Nat → Prop), xFx b sa s → va_S A s.heap H locs → (∀ q, A q → b ≤ q) → ∀ k j, k < 3 → j < xlen.getD k 0 → j < 2147483648 → W p l e R s m args below meth c H locs cells slots Q (F0 m nx ls (.int (nI ((xbyt.getD k []).getD j 0)) :: rest)) → W p l e R s m args below meth c H locs cells slots Q (F0 m pc ls (.int (nI j) :: .ref (sa (k + 1000)) :: rest))
def xSl (cc : ByteArray) (own : String) (pc nx : Nat) : Prop := ∀ (p : Program) (l : Launch) (e : Env) (R : Room) (s : State) (m : MethodId) (args : Array Value) (below : List Frame) (meth : Method) (c : Code) (H : Heap) (locs : List Loc) (cells slots : Nat) (Q : State → Prop) (ls : Array Slot) (rest : List Value), xCx p s m args c cc own → ∀ (b : Nat) (sa : Nat → Nat) (A : Nat → Prop), xFx b sa s → va_S A s.heap H locs → (∀ q, A q → b ≤ q) → ∀ k, k < 3 → W p l e R s m args below meth c H locs cells slots Q (F0 m nx ls (.int (nI (xlen.getD k 0)) :: rest)) → W p l e R s m args below meth c H locs cells slots Q (F0 m pc ls (.ref (sa (k + 1000)) :: rest))
def xSf (cc : ByteArray) (own : String) (pc nx : Nat) (g : (Nat → Nat) → Nat → Value) : Prop := ∀ (p : Program) (l : Launch) (e : Env) (R : Room) (s : State) (m : MethodId) (args : Array Value) (below : List Frame) (meth : Method) (c : Code) (H : Heap) (locs : List Loc) (cells slots : Nat) (Q : State → Prop) (ls : Array Slot) (rest : List Value), xCx p s m args c cc own → ∀ (b : Nat) (sa : Nat → Nat) (A : Nat → Prop), xFx b sa s → va_S A s.heap H locs → (∀ q, A q → b ≤ q) → ∀ k, k < 3 → W p l e R s m args below meth c H locs cells slots Q (F0 m nx ls (g sa k :: rest)) → W p l e R s m args below meth c H locs cells slots Q (F0 m pc ls (.ref (sa k) :: rest))
def xGs (cc : ByteArray) (own : String) (pc nx : Nat) (g : (Nat → Nat) → Value) : Prop := ∀ (p : Program) (l : Launch) (e : Env) (R : Room) (s : State) (m : MethodId) (args : Array Value) (below : List Frame) (meth : Method) (c : Code) (H : Heap) (locs : List Loc) (cells slots : Nat) (Q : State → Prop) (ls : Array Slot) (rest : List Value), xCx p s m args c cc own → ∀ (b : Nat) (sa : Nat → Nat) (A : Nat → Prop), xFx b sa s → va_S A s.heap H locs → (∀ q, A q → b ≤ q) → W p l e R s m args below meth c H locs cells slots Q (F0 m nx ls (g sa :: rest)) → W p l e R s m args below meth c H locs cells slots Q (F0 m pc ls rest)
def xLs (cc : ByteArray) (own : String) (pc nx k : Nat) : Prop := ∀ (p : Program) (l : Launch) (e : Env) (R : Room) (s : State) (m : MethodId) (args : Array Value) (below : List Frame) (meth : Method) (c : Code) (H : Heap) (locs : List Loc) (cells slots : Nat) (Q : State → Prop) (ls : Array Slot) (rest : List Value), xCx p s m args c cc own → ∀ (b : Nat) (sa : Nat → Nat), xFx b sa s → W p l e R s m args below meth c H locs cells slots Q (F0 m nx ls (.ref (sa k) :: rest)) → W p l e R s m args below meth c H locs cells slots Q (F0 m pc ls rest)
def xCp (cc : ByteArray) (own : String) (pc nx : Nat) : Prop := ∀ (p : Program) (l : Launch) (e : Env) (R : Room) (s : State) (m : MethodId) (args : Array Value) (below : List Frame) (meth : Method) (c : Code) (H : Heap) (locs : List Loc) (cells slots : Nat) (Q : State → Prop) (ls : Array Slot) (rest : List Value), xCx p s m args c cc own → ∀ (D : va_G) (tys : List (ClassId × FieldType)) (ws : va_W) (A : Nat → Prop) (H0 : Heap) (q0 q1 a0 a t0 : Nat) (cA : ClassId) (n0 n1 : Nat) (f g : Nat → Int32) (sp dp n : Int32), c.maxLocals = ls.size → va_K D vwCl tys s → va_P D vwCl ws H → va_D A ws → va_S A H0 H locs → ws[q0]? = some (a0, .inl (cA, n0, .inl f)) → ws[q1]? = some (a, .inl (cA, n1, .inl g)) → tys[t0]? = some (cA, .int) → ¬ sp < 0 → ¬ dp < 0 → ¬ n < 0 → sp.toNatClampNeg + n.toNatClampNeg ≤ n0 → dp.toNatClampNeg + n.toNatClampNeg ≤ n1 → 1 ≤ R.frames → (rest.map fun v => v.category).sum + (nativeFrameWords "java/lang/System" "arraycopy" 5 + 11) ≤ R.locals → (∀ (H1 : Heap) (locs1 : List Loc), va_P D vwCl (ws.set q1 (a, .inl (cA, n1, .inl (va_cpy f g sp.toNatClampNeg dp.toNatClampNeg n.toNatClampNeg)))) H1 → va_S A H0 H1 locs1 → H1.size = H.size → W p l e R s m args below meth c H1 locs1 cells slots Q (F0 m nx ls rest)) → W p l e R s m args below meth c H locs cells slots Q (F0 m pc ls (.int n :: .int dp :: .ref a :: .int sp :: .ref a0 :: rest))
def xOi (cc : ByteArray) (own : String) (pc nx : Nat) : Prop := ∀ (p : Program) (l : Launch) (e : Env) (R : Room) (s : State) (m : MethodId) (args : Array Value) (below : List Frame) (meth : Method) (c : Code) (H : Heap) (locs : List Loc) (cells slots : Nat) (Q : State → Prop) (ls : Array Slot) (rest : List Value), xCx p s m args c cc own → ∀ a : Nat, c.maxLocals = ls.size → 1 ≤ R.frames → (rest.map fun v => v.category).sum + 12 ≤ R.locals → W p l e R s m args below meth c H locs cells slots Q (F0 m nx ls rest) → W p l e R s m args below meth c H locs cells slots Q (F0 m pc ls (.ref a :: rest))
def xNa (cc : ByteArray) (own : String) (pc nx : Nat) (ty : FieldType) : Prop := ∀ (p : Program) (l : Launch) (e : Env) (R : Room) (s : State) (m : MethodId) (args : Array Value) (below : List Frame) (meth : Method) (c : Code) (H : Heap) (locs : List Loc) (cells slots : Nat) (Q : State → Prop) (ls : Array Slot) (rest : List Value), xCx p s m args c cc own → ∀ (D : va_G) (tys : List (ClassId × FieldType)) (ws : va_W) (A : Nat → Prop) (H0 : Heap) (n : Int32) (N' : Nat) (a0 : vp_A) (cA : ClassId), va_K D vwCl tys s → va_P D vwCl ws H → va_S A H0 H locs → s.vm.findClass ("[" ++ ty.toString) = some cA → vp_cell cA a0 = arrV cA N' (fun _ => defaultValue ty) → ¬ n < 0 → n.toNatClampNeg = N' → N' * componentBytes ty ≤ 536870912 → cells + 1 ≤ R.cells → slots + N' ≤ R.slots → (∀ H1 : Heap, va_P D vwCl (ws ++ [(H.size, .inl (cA, a0))]) H1 → va_S A H0 H1 locs → H1.size = H.size + 1 → W p l e R s m args below meth c H1 locs (cells + 1) (slots + N') Q (F0 m nx ls (.ref H.size :: rest))) → W p l e R s m args below meth c H locs cells slots Q (F0 m pc ls (.int n :: rest))
def xNw (cc : ByteArray) (own : String) (pc nx ci N : Nat) (fs : List Value) : Prop := ∀ (p : Program) (l : Launch) (e : Env) (R : Room) (s : State) (m : MethodId) (args : Array Value) (below : List Frame) (meth : Method) (c : Code) (H : Heap) (locs : List Loc) (cells slots : Nat) (Q : State → Prop) (ls : Array Slot) (rest : List Value), xCx p s m args c cc own → ∀ (D : va_G) (tys : List (ClassId × FieldType)) (ws : va_W) (A : Nat → Prop) (H0 : Heap), va_K D vwCl tys s → va_P D vwCl ws H → va_S A H0 H locs → cells + 1 ≤ R.cells → slots + N ≤ R.slots → (∀ H1 : Heap, va_P D vwCl (ws ++ [(H.size, .inr (ci, fs))]) H1 → va_S A H0 H1 locs → H1.size = H.size + 1 → W p l e R s m args below meth c H1 locs (cells + 1) (slots + N) Q (F0 m nx ls (.ref H.size :: rest))) → W p l e R s m args below meth c H locs cells slots Q (F0 m pc ls rest)
section XR
variable {cc : ByteArray} {own : String} {pc : Nat}
theorem xr_iconst {n : Int} {a : Nat} (d : decode cc pc = .ok (.iconst n, 1)) (h : Int32.ofInt n = nI a) : xT cc own pc (pc + 1) [] [.int (nI a)] := fun p l e R s m args below meth c H locs cells slots Q ls rest C k => lv_iconst C.1 C.2.1 d h k
theorem xr_bipush {n : Int} {a : Nat} (d : decode cc pc = .ok (.bipush n, 2)) (h : (Int8.ofInt n).toInt32 = nI a) : xT cc own pc (pc + 2) [] [.int (nI a)] := fun p l e R s m args below meth c H locs cells slots Q ls rest C k => lv_bipush C.1 C.2.1 d h k
theorem xr_sipush {n : Int} {a : Nat} (d : decode cc pc = .ok (.sipush n, 3)) (h : (Int16.ofInt n).toInt32 = nI a) : xT cc own pc (pc + 3) [] [.int (nI a)] := fun p l e R s m args below meth c H locs cells slots Q ls rest C k => lv_sipush C.1 C.2.1 d h k
theorem xr_lconst {n : Fin 2} {a : Nat} (d : decode cc pc = .ok (.lconst n, 1)) (h : Int64.ofNat (n : Nat) = lN a) : xT cc own pc (pc + 1) [] [.long (lN a)] := fun p l e R s m args below meth c H locs cells slots Q ls rest C k => lv_lconst C.1 C.2.1 d h k
theorem xr_ldc {ix a : Nat} (d : decode cc pc = .ok (.ldc ix, 2)) (h : Cond.constant own ix (nI a) ∈ xgt) : xT cc own pc (pc + 2) [] [.int (nI a)] := fun p l e R s m args below meth c H locs cells slots Q ls rest C k => lv_ldc C.1 C.2.1 C.2.2.1 (C.2.2.2 _ h) d k
theorem xr_ldcw {ix a : Nat} (d : decode cc pc = .ok (.ldc_w ix, 3)) (h : Cond.constant own ix (nI a) ∈ xgt) : xT cc own pc (pc + 3) [] [.int (nI a)] := fun p l e R s m args below meth c H locs cells slots Q ls rest C k => lv_ldcw C.1 C.2.1 C.2.2.1 (C.2.2.2 _ h) d k
theorem xr_ldc2 {ix a : Nat} (d : decode cc pc = .ok (.ldc2_w ix, 3)) (h : Cond.constantLong own ix (lN a) ∈ xgt) : xT cc own pc (pc + 3) [] [.long (lN a)] := fun p l e R s m args below meth c H locs cells slots Q ls rest C k => lv_ldc2 C.1 C.2.1 C.2.2.1 (C.2.2.2 _ h) d k
theorem xr_iadd  (d : decode cc pc = .ok (.iadd, 1)) (x y : Int32) : xT cc own pc (pc + 1) [.int y, .int x] [.int (fbin 0 x y)] := fun p l e R s m args below meth c H locs cells slots Q ls rest C k => lv_iadd C.1 C.2.1 d k
theorem xr_isub  (d : decode cc pc = .ok (.isub, 1)) (x y : Int32) : xT cc own pc (pc + 1) [.int y, .int x] [.int (fbin 1 x y)] := fun p l e R s m args below meth c H locs cells slots Q ls rest C k => lv_isub C.1 C.2.1 d k
theorem xr_imul  (d : decode cc pc = .ok (.imul, 1)) (x y : Int32) : xT cc own pc (pc + 1) [.int y, .int x] [.int (fbin 2 x y)] := fun p l e R s m args below meth c H locs cells slots Q ls rest C k => lv_imul C.1 C.2.1 d k
theorem xr_iand  (d : decode cc pc = .ok (.iand, 1)) (x y : Int32) : xT cc own pc (pc + 1) [.int y, .int x] [.int (fbin 3 x y)] := fun p l e R s m args below meth c H locs cells slots Q ls rest C k => lv_iand C.1 C.2.1 d k
theorem xr_ior  (d : decode cc pc = .ok (.ior, 1)) (x y : Int32) : xT cc own pc (pc + 1) [.int y, .int x] [.int (fbin 4 x y)] := fun p l e R s m args below meth c H locs cells slots Q ls rest C k => lv_ior C.1 C.2.1 d k
theorem xr_ixor  (d : decode cc pc = .ok (.ixor, 1)) (x y : Int32) : xT cc own pc (pc + 1) [.int y, .int x] [.int (fbin 5 x y)] := fun p l e R s m args below meth c H locs cells slots Q ls rest C k => lv_ixor C.1 C.2.1 d k
theorem xr_ishl  (d : decode cc pc = .ok (.ishl, 1)) (x y : Int32) : xT cc own pc (pc + 1) [.int y, .int x] [.int (fbin 6 x y)] := fun p l e R s m args below meth c H locs cells slots Q ls rest C k => lv_ishl C.1 C.2.1 d k
theorem xr_ishr  (d : decode cc pc = .ok (.ishr, 1)) (x y : Int32) : xT cc own pc (pc + 1) [.int y, .int x] [.int (fbin 7 x y)] := fun p l e R s m args below meth c H locs cells slots Q ls rest C k => lv_ishr C.1 C.2.1 d k
theorem xr_iushr  (d : decode cc pc = .ok (.iushr, 1)) (x y : Int32) : xT cc own pc (pc + 1) [.int y, .int x] [.int (fbin 8 x y)] := fun p l e R s m args below meth c H locs cells slots Q ls rest C k => lv_iushr C.1 C.2.1 d rfl k
theorem xr_idiv  (d : decode cc pc = .ok (.idiv, 1)) (x y : Int32) (h : ¬ y = 0) : xT cc own pc (pc + 1) [.int y, .int x] [.int (fbin 9 x y)] := fun p l e R s m args below meth c H locs cells slots Q ls rest C k => lv_idiv C.1 C.2.1 d h k
theorem xr_irem  (d : decode cc pc = .ok (.irem, 1)) (x y : Int32) (h : ¬ y = 0) : xT cc own pc (pc + 1) [.int y, .int x] [.int (fbin 10 x y)] := fun p l e R s m args below meth c H locs cells slots Q ls rest C k => lv_irem C.1 C.2.1 d h k
theorem xr_i2b  (d : decode cc pc = .ok (.i2b, 1)) (x : Int32) : xT cc own pc (pc + 1) [.int x] [.int x.toInt8.toInt32] := fun p l e R s m args below meth c H locs cells slots Q ls rest C k => lv_i2b C.1 C.2.1 d rfl k
theorem xr_land  (d : decode cc pc = .ok (.land, 1)) (x y : Int64) : xT cc own pc (pc + 1) [.long y, .long x] [.long (x &&& y)] := fun p l e R s m args below meth c H locs cells slots Q ls rest C k => lv_land C.1 C.2.1 d k
theorem xr_lxor  (d : decode cc pc = .ok (.lxor, 1)) (x y : Int64) : xT cc own pc (pc + 1) [.long y, .long x] [.long (x ^^^ y)] := fun p l e R s m args below meth c H locs cells slots Q ls rest C k => lv_lxor C.1 C.2.1 d k
theorem xr_lcmp  (d : decode cc pc = .ok (.lcmp, 1)) (x y : Int64) : xT cc own pc (pc + 1) [.long y, .long x] [.int (lg_cmp x y)] := fun p l e R s m args below meth c H locs cells slots Q ls rest C k => W.lcmp C.1 C.2.1 d k
theorem xr_dup  (d : decode cc pc = .ok (.dup, 1)) (v : Value) (h : v.category = 1) : xT cc own pc (pc + 1) [v] [v, v] := fun p l e R s m args below meth c H locs cells slots Q ls rest C k => lv_dup C.1 C.2.1 d h k
theorem xr_pop  (d : decode cc pc = .ok (.pop, 1)) (v : Value) (h : v.category = 1) : xT cc own pc (pc + 1) [v] [] := fun p l e R s m args below meth c H locs cells slots Q ls rest C k => lv_pop C.1 C.2.1 d h k
theorem xr_dup2  (d : decode cc pc = .ok (.dup2, 1)) (v w : Value) (h : v.category = 1) (h2 : w.category = 1) : xT cc own pc (pc + 1) [v, w] [v, w, v, w] := fun p l e R s m args below meth c H locs cells slots Q ls rest C k => lv_dup2_11 C.1 C.2.1 d h h2 k
theorem xr_goto {off : Int} {tgt : Nat} (d : decode cc pc = .ok (.goto off, 3)) (h : (pc : Int) + off = (tgt : Int)) : xT cc own pc tgt [] [] := fun p l e R s m args below meth c H locs cells slots Q ls rest C k => lv_goto C.1 C.2.1 d h k
theorem xr_icmpeq {off : Int} {tgt : Nat} (d : decode cc pc = .ok (.if_icmp .eq off, 3)) (h : (pc : Int) + off = (tgt : Int)) : xB cc own pc (pc + 3) tgt 0 := fun p l e R s m args below meth c H locs cells slots Q ls rest C x y kt kf => lv_icmp_eq C.1 C.2.1 d h kt kf
theorem xr_ifeq {off : Int} {tgt : Nat} (d : decode cc pc = .ok (.ifCond .eq off, 3)) (h : (pc : Int) + off = (tgt : Int)) : xB0 cc own pc (pc + 3) tgt 0 := fun p l e R s m args below meth c H locs cells slots Q ls rest C x kt kf => lv_if_eq C.1 C.2.1 d h kt kf
theorem xr_icmpne {off : Int} {tgt : Nat} (d : decode cc pc = .ok (.if_icmp .ne off, 3)) (h : (pc : Int) + off = (tgt : Int)) : xB cc own pc (pc + 3) tgt 1 := fun p l e R s m args below meth c H locs cells slots Q ls rest C x y kt kf => lv_icmp_ne C.1 C.2.1 d h kt (fun z => kf (fun w => w z))
theorem xr_ifne {off : Int} {tgt : Nat} (d : decode cc pc = .ok (.ifCond .ne off, 3)) (h : (pc : Int) + off = (tgt : Int)) : xB0 cc own pc (pc + 3) tgt 1 := fun p l e R s m args below meth c H locs cells slots Q ls rest C x kt kf => lv_if_ne C.1 C.2.1 d h kt (fun z => kf (fun w => w z))
theorem xr_icmplt {off : Int} {tgt : Nat} (d : decode cc pc = .ok (.if_icmp .lt off, 3)) (h : (pc : Int) + off = (tgt : Int)) : xB cc own pc (pc + 3) tgt 2 := fun p l e R s m args below meth c H locs cells slots Q ls rest C x y kt kf => lv_icmp_lt C.1 C.2.1 d h kt kf
theorem xr_iflt {off : Int} {tgt : Nat} (d : decode cc pc = .ok (.ifCond .lt off, 3)) (h : (pc : Int) + off = (tgt : Int)) : xB0 cc own pc (pc + 3) tgt 2 := fun p l e R s m args below meth c H locs cells slots Q ls rest C x kt kf => lv_if_lt C.1 C.2.1 d h kt kf
theorem xr_icmpge {off : Int} {tgt : Nat} (d : decode cc pc = .ok (.if_icmp .ge off, 3)) (h : (pc : Int) + off = (tgt : Int)) : xB cc own pc (pc + 3) tgt 3 := fun p l e R s m args below meth c H locs cells slots Q ls rest C x y kt kf => lv_icmp_ge C.1 C.2.1 d h kt kf
theorem xr_ifge {off : Int} {tgt : Nat} (d : decode cc pc = .ok (.ifCond .ge off, 3)) (h : (pc : Int) + off = (tgt : Int)) : xB0 cc own pc (pc + 3) tgt 3 := fun p l e R s m args below meth c H locs cells slots Q ls rest C x kt kf => lv_if_ge C.1 C.2.1 d h kt kf
theorem xr_icmpgt {off : Int} {tgt : Nat} (d : decode cc pc = .ok (.if_icmp .gt off, 3)) (h : (pc : Int) + off = (tgt : Int)) : xB cc own pc (pc + 3) tgt 4 := fun p l e R s m args below meth c H locs cells slots Q ls rest C x y kt kf => lv_icmp_gt C.1 C.2.1 d h kt kf
theorem xr_ifgt {off : Int} {tgt : Nat} (d : decode cc pc = .ok (.ifCond .gt off, 3)) (h : (pc : Int) + off = (tgt : Int)) : xB0 cc own pc (pc + 3) tgt 4 := fun p l e R s m args below meth c H locs cells slots Q ls rest C x kt kf => lv_if_gt C.1 C.2.1 d h kt kf
theorem xr_icmple {off : Int} {tgt : Nat} (d : decode cc pc = .ok (.if_icmp .le off, 3)) (h : (pc : Int) + off = (tgt : Int)) : xB cc own pc (pc + 3) tgt 5 := fun p l e R s m args below meth c H locs cells slots Q ls rest C x y kt kf => lv_icmp_le C.1 C.2.1 d h kt kf
theorem xr_ifle {off : Int} {tgt : Nat} (d : decode cc pc = .ok (.ifCond .le off, 3)) (h : (pc : Int) + off = (tgt : Int)) : xB0 cc own pc (pc + 3) tgt 5 := fun p l e R s m args below meth c H locs cells slots Q ls rest C x kt kf => lv_if_le C.1 C.2.1 d h kt kf
theorem xr_iloadn {i : Nat} {j : Fin 4} (d : decode cc pc = .ok (.iload_n j, 1)) (h : (j : Nat) = i) : xLd cc own pc (pc + 1) 0 i := by
  intro p l e R s m args below meth c H locs cells slots Q ls rest C v hv hl k
  obtain ⟨x, rfl⟩ := hv
  exact lv_iload_n C.1 C.2.1 d h hl k
theorem xr_iload {i : Nat} (d : decode cc pc = .ok (.iload i, 2)) : xLd cc own pc (pc + 2) 0 i := by
  intro p l e R s m args below meth c H locs cells slots Q ls rest C v hv hl k
  obtain ⟨x, rfl⟩ := hv
  exact lv_iload C.1 C.2.1 d hl k
theorem xr_lloadn {i : Nat} {j : Fin 4} (d : decode cc pc = .ok (.lload_n j, 1)) (h : (j : Nat) = i) : xLd cc own pc (pc + 1) 2 i := by
  intro p l e R s m args below meth c H locs cells slots Q ls rest C v hv hl k
  obtain ⟨x, rfl⟩ := hv
  exact lv_lload_n C.1 C.2.1 d h hl k
theorem xr_lload {i : Nat} (d : decode cc pc = .ok (.lload i, 2)) : xLd cc own pc (pc + 2) 2 i := by
  intro p l e R s m args below meth c H locs cells slots Q ls rest C v hv hl k
  obtain ⟨x, rfl⟩ := hv
  exact lv_lload C.1 C.2.1 d hl k
theorem xr_aloadn {i : Nat} {j : Fin 4} (d : decode cc pc = .ok (.aload_n j, 1)) (h : (j : Nat) = i) : xLd cc own pc (pc + 1) 1 i := by
  intro p l e R s m args below meth c H locs cells slots Q ls rest C v hv hl k
  rcases hv with rfl | ⟨x, rfl⟩
  · exact lv_aload_nN C.1 C.2.1 d h hl k
  · exact lv_aload_n C.1 C.2.1 d h hl k
theorem xr_aload {i : Nat} (d : decode cc pc = .ok (.aload i, 2)) : xLd cc own pc (pc + 2) 1 i := by
  intro p l e R s m args below meth c H locs cells slots Q ls rest C v hv hl k
  rcases hv with rfl | ⟨x, rfl⟩
  · exact lv_aloadN C.1 C.2.1 d hl k
  · exact lv_aload C.1 C.2.1 d hl k
theorem xr_istoren {i : Nat} {j : Fin 4} (d : decode cc pc = .ok (.istore_n j, 1)) (h : (j : Nat) = i) : xSt cc own pc (pc + 1) 0 i := by
  intro p l e R s m args below meth c H locs cells slots Q ls rest C nL lv v hv hh hn k
  obtain ⟨x, rfl⟩ := hv
  exact lv_istore_n C.1 C.2.1 d h hh hn rfl k
theorem xr_istore {i : Nat} (d : decode cc pc = .ok (.istore i, 2)) : xSt cc own pc (pc + 2) 0 i := by
  intro p l e R s m args below meth c H locs cells slots Q ls rest C nL lv v hv hh hn k
  obtain ⟨x, rfl⟩ := hv
  exact lv_istore C.1 C.2.1 d hh hn rfl k
theorem xr_lstoren {i : Nat} {j : Fin 4} (d : decode cc pc = .ok (.lstore_n j, 1)) (h : (j : Nat) = i) : xSt cc own pc (pc + 1) 2 i := by
  intro p l e R s m args below meth c H locs cells slots Q ls rest C nL lv v hv hh hn k
  obtain ⟨x, rfl⟩ := hv
  exact lv_lstore_n C.1 C.2.1 d h hh hn rfl k
theorem xr_lstore {i : Nat} (d : decode cc pc = .ok (.lstore i, 2)) : xSt cc own pc (pc + 2) 2 i := by
  intro p l e R s m args below meth c H locs cells slots Q ls rest C nL lv v hv hh hn k
  obtain ⟨x, rfl⟩ := hv
  exact lv_lstore C.1 C.2.1 d hh hn rfl k
theorem xr_astoren {i : Nat} {j : Fin 4} (d : decode cc pc = .ok (.astore_n j, 1)) (h : (j : Nat) = i) : xSt cc own pc (pc + 1) 1 i := by
  intro p l e R s m args below meth c H locs cells slots Q ls rest C nL lv v hv hh hn k
  rcases hv with rfl | ⟨x, rfl⟩
  · exact lv_astore_nN C.1 C.2.1 d h hh hn rfl k
  · exact lv_astore_n C.1 C.2.1 d h hh hn rfl k
theorem xr_astore {i : Nat} (d : decode cc pc = .ok (.astore i, 2)) : xSt cc own pc (pc + 2) 1 i := by
  intro p l e R s m args below meth c H locs cells slots Q ls rest C nL lv v hv hh hn k
  rcases hv with rfl | ⟨x, rfl⟩
  · exact lv_astoreN C.1 C.2.1 d hh hn rfl k
  · exact lv_astore C.1 C.2.1 d hh hn rfl k
theorem xr_iinc {i a : Nat} {n : Int} (d : decode cc pc = .ok (.iinc i n, 3)) (h : Int32.ofInt n = nI a) : xIn cc own pc (pc + 3) i a := fun p l e R s m args below meth c H locs cells slots Q ls rest C nL k lv x hh hk hn kk => lv_iinc C.1 C.2.1 d hh hk (by rw [h]) hn rfl kk
theorem xr_getf {ci k ix N : Nat} {K : String} {T : u_T} (d : decode cc pc = .ok (.getfield ix, 3)) (hc : vwCl[ci]? = some (K, T, N)) (hk : k < N) (hin : ∀ w ∈ u_ws K T N, w ∈ xgt) (hl : Cond.fieldLink own ix (T k).1 (T k).2.1 (T k).2.2.1 ∈ xgt) : xGf cc own pc (pc + 3) ci k := fun p l e R s m args below meth c H locs cells slots Q ls rest C D tys ws q0 a fs v hK hP he hv kk => va_get C.1 C.2.1 C.2.2.2 hin C.2.2.1 hK hP q0 he hc k hk (C.2.2.2 _ hl) (fun _ h => h) hv d kk
/-- a field's cell behind a store: the world -/
theorem xw_obj {D : va_G} {tys : List (ClassId × FieldType)} {ws : va_W} {A : Nat → Prop} {s : State} {args : Array Value} {H H1 : Heap} {ci k N q0 a : Nat} {K : String} {T : u_T} {ty0 : Nat → FieldType} {own : String} (hts : ∀ w ∈ xgt, w.before args s = true) (hc : vwCl[ci]? = some (K, T, N)) (hk : k < N) (hin : ∀ w ∈ u_ws K T N, w ∈ xgt) (hty : ∀ k, k < N → parseFieldDescriptor (T k).2.2.1 = some (ty0 k)) (hnm : ∀ a, a < N → ∀ b, b < N → a ≠ b → (T a).2.1 ≠ (T b).2.1)
    (hK : va_K D vwCl tys s) (hP : va_P D vwCl ws H) (hD : va_D A ws) {fs : List Value} (he : ws[q0]? = some (a, .inr (ci, fs))) {v : Value} (hlen : k < fs.length) {cell : Cell} (c1 : cell.cls = D.1 ci) (c2 : cell.vm = .none) (c3 : ∀ j, j < N → cell.slots[D.2 ci j]? = some (vp_V fs j)) (h1 : H1[a]? = some (cell.setSlot (D.2 ci k) v)) (h2 : ∀ q, q ≠ a → H1[q]? = H[q]?) : va_P D vwCl (ws.set q0 (a, .inr (ci, fs.set k v))) H1 :=
  hP.set hD he ⟨_, hc, t_OB.to (V := updV (vp_V fs) k v) ⟨_, h1, c1, c2, t_set c3 (va_apart (own := own) hts hin ty0 hty hnm hK hc) hk v⟩ (fun j _ => vp_updV_set hlen v j)⟩ h2
theorem xr_putf {ci k ix N : Nat} {K : String} {T : u_T} {ty0 : Nat → FieldType} (d : decode cc pc = .ok (.putfield ix, 3)) (hc : vwCl[ci]? = some (K, T, N)) (hk : k < N) (hin : ∀ w ∈ u_ws K T N, w ∈ xgt) (hty : ∀ k, k < N → parseFieldDescriptor (T k).2.2.1 = some (ty0 k)) (hnm : ∀ a, a < N → ∀ b, b < N → a ≠ b → (T a).2.1 ≠ (T b).2.1) (hl : Cond.fieldLink own ix (T k).1 (T k).2.1 (T k).2.2.1 ∈ xgt) (hf : (T k).2.2.2 = false) {ty : FieldType} (et : ty0 k = ty) : xPf cc own pc (pc + 3) ci k ty false := by
  intro p l e R s m args below meth c H locs cells slots Q ls rest C D tys ws q0 a A H0 fs v hK hP hD hS he _ hn hft hlen kk
  obtain ⟨r, g1, cell, q1, q2, q3, q4⟩ := hP q0 _ he
  cases g1.symm.trans hc
  obtain ⟨hSl, hfc, kC, hkC, hkind⟩ := hK.1 ci _ hc
  obtain ⟨cf, kf, fi, f, hi, hsl⟩ := hSl k hk
  have hlay := C.2.2.2 _ (hin _ (u_in_lay hk))
  rw [u_lay, if_neg (by rw [hf]; decide)] at hlay
  refine W.putK C.1 C.2.1 (f := f) ⟨C.2.2.1, C.2.2.2 _ hl, ⟨_, _, _, hi⟩, (u_facts hfc hkC (u_lays C.2.2.2 hin hk) hi).1⟩ (by rw [q2]; exact u_store hfc hkC hkind hlay hi (by rw [← et]; exact hty k hk) hn hft) q1 q3 (by rw [hsl]; exact k2_hasslot (q4 k hk)) rfl rfl d fun H' e1 e2 e3 => ?_
  rw [hsl] at e1 ⊢
  exact kk H' _ (xw_obj (own := own) C.2.2.2 hc hk hin hty hnm hK hP hD he hlen q2 q3 q4 e1 e3) (hD.set he) (hS.put e2 e3 (hD.2 q0 _ he)) e2
theorem xr_putF {ci k ix N : Nat} {K : String} {T : u_T} {ty0 : Nat → FieldType} (d : decode cc pc = .ok (.putfield ix, 3)) (hc : vwCl[ci]? = some (K, T, N)) (hk : k < N) (hin : ∀ w ∈ u_ws K T N, w ∈ xgt) (hty : ∀ k, k < N → parseFieldDescriptor (T k).2.2.1 = some (ty0 k)) (hnm : ∀ a, a < N → ∀ b, b < N → a ≠ b → (T a).2.1 ≠ (T b).2.1) (hl : Cond.fieldLink own ix (T k).1 (T k).2.1 (T k).2.2.1 ∈ xgt) (hf : (T k).2.2.2 = true) {ty : FieldType} (et : ty0 k = ty) (ho : (T k).1 = own) : xPf cc own pc (pc + 3) ci k ty true := by
  intro p l e R s m args below meth c H locs cells slots Q ls rest C D tys ws q0 a A H0 fs v hK hP hD hS he hni hn hft hlen kk
  obtain ⟨r, g1, cell, q1, q2, q3, q4⟩ := hP q0 _ he
  cases g1.symm.trans hc
  obtain ⟨hSl, hfc, kC, hkC, hkind⟩ := hK.1 ci _ hc
  obtain ⟨cf, kf, fi, f, hi, hsl⟩ := hSl k hk
  have hlay := C.2.2.2 _ (hin _ (u_in_lay hk))
  rw [u_lay, if_pos hf] at hlay
  have hcf : m.cls = cf := by
    obtain ⟨_, _, c', _, _, _, -, -, hf', -, -, -, hown2, -⟩ := Cond.laysFinal_spec hlay
    have e1 : c' = cf := by have := hi.symm.trans hf'; simp at this; exact this.1.symm
    rw [ho] at hown2
    rw [← e1]
    exact Option.some.inj (C.2.2.1.symm.trans hown2)
  refine W.putFinK C.1 C.2.1 C.2.2.1 (C.2.2.2 _ hl) hi (u_facts hfc hkC (u_lays C.2.2.2 hin hk) hi).1 hcf (hni rfl) (by rw [q2]; exact u_fits hfc hkC hkind (Or.inr hlay) hi (by rw [← et]; exact hty k hk) hn hft) q1 q3 (by rw [hsl]; exact k2_hasslot (q4 k hk)) rfl rfl d fun H' e1 e2 e3 => ?_
  rw [hsl] at e1 ⊢
  exact kk H' _ (xw_obj (own := own) C.2.2.2 hc hk hin hty hnm hK hP hD he hlen q2 q3 q4 e1 e3) (hD.set he) (hS.put e2 e3 (hD.2 q0 _ he)) e2
/-- a table switch from 0 on: its targets in order -/
theorem xr_table {dflt hi : Int} {offs : Array Int} {len df : Nat} {cs : List (Nat × Nat)} (d : decode cc pc = .ok (.tableswitch dflt 0 hi offs, len)) (h1 : hi + 1 = cs.length ∧ offs.size = cs.length ∧ cs.length < 1000) (h2 : (pc : Int) + dflt = (df : Int)) (h3 : ∀ i, i < cs.length → ((cs.getD i (0, 0)).1 = i ∧ (pc : Int) + offs.getD i 0 = ((cs.getD i (0, 0)).2 : Int))) : xSw cc own pc df cs := by
  intro p l e R s m args below meth c H locs cells slots Q ls rest C x h
  have key : ∀ i, i < cs.length → cs[i]? = some (i, (cs.getD i (0, 0)).2) := fun i hi => by
    have e1 := (h3 i hi).1
    rw [List.getD_eq_getElem?_getD, List.getElem?_eq_getElem hi] at e1 ⊢
    simp only [Option.getD_some] at e1 ⊢
    exact congrArg some (Prod.ext e1 rfl)
  rcases h with ⟨q, hq, rfl, hW⟩ | ⟨hn, hW⟩
  · obtain ⟨i, hi⟩ := List.getElem?_of_mem hq
    have hl : i < cs.length := (List.getElem?_eq_some_iff.mp hi).1
    have hk := key i hl
    rw [hi] at hk
    cases hk
    have ht := (h3 i hl).2
    have e2 : (nI i).toInt = (i : Int) := nI_toInt (by omega)
    refine lv_tableIn C.1 C.2.1 d (off := offs.getD i 0) (by rw [e2]; omega) (by rw [e2]; omega) ?_ ht hW
    rw [e2, show ((i : Int) - 0).toNat = i by omega, Array.getD_eq_getD_getElem?, Array.getElem?_eq_getElem (by omega)]
    rfl
  · refine lv_tableOut C.1 C.2.1 d ?_ h2 hW
    by_cases a : x.toInt < 0
    · exact Or.inl a
    · refine Or.inr ?_
      by_cases b : hi < x.toInt
      · exact b
      · exfalso
        have hlt : x.toInt.toNat < cs.length := by omega
        refine hn _ (List.mem_of_getElem? (key _ hlt)) ?_
        apply Int32.toInt_inj.mp
        rw [nI_toInt (by omega)]
        omega
/-- a lookup switch of two cases -/
theorem xr_look2 {dflt k0 o0 k1 o1 : Int} {len df a0 t0 a1 t1 : Nat} (d : decode cc pc = .ok (.lookupswitch dflt #[(k0, o0), (k1, o1)], len)) (h0 : k0 < k1 ∧ k0 = a0 ∧ k1 = a1 ∧ a1 < 1000) (h1 : (pc : Int) + dflt = (df : Int)) (h2 : (pc : Int) + o0 = (t0 : Int)) (h3 : (pc : Int) + o1 = (t1 : Int)) : xSw cc own pc df [(a0, t0), (a1, t1)] := by
  intro p l e R s m args below meth c H locs cells slots Q ls rest C x h
  obtain ⟨g0, g1, g2, g3⟩ := h0
  have srt : ((#[(k0, o0), (k1, o1)] : Array (Int × Int)).toList.zip ((#[(k0, o0), (k1, o1)] : Array (Int × Int)).toList.drop 1)).all (fun (a, next) => a.1 < next.1) = true := by
    simp [g0]
  have t0' : (nI a0).toInt = (a0 : Int) := nI_toInt (by omega)
  have t1' : (nI a1).toInt = (a1 : Int) := nI_toInt (by omega)
  rcases h with ⟨q, hq, rfl, hW⟩ | ⟨hn, hW⟩
  · rcases List.mem_cons.mp hq with rfl | hq
    · refine lv_lookup C.1 C.2.1 d srt (off := o0) ?_ h2 hW
      simp [Op.lookupswitch.offset, t0', g1]
    · rcases List.mem_cons.mp hq with rfl | hq
      · refine lv_lookup C.1 C.2.1 d srt (off := o1) ?_ h3 hW
        simp [Op.lookupswitch.offset, t1', g2, show ¬ k0 = (a1 : Int) by omega]
      · cases hq
  · have n0 : ¬ x.toInt = k0 := fun z => hn (a0, t0) List.mem_cons_self (Int32.toInt_inj.mp (by rw [t0']; omega))
    have n1 : ¬ x.toInt = k1 := fun z => hn (a1, t1) (List.mem_cons_of_mem _ List.mem_cons_self) (Int32.toInt_inj.mp (by rw [t1']; omega))
    refine lv_lookup C.1 C.2.1 d srt (off := dflt) ?_ h1 hW
    simp [Op.lookupswitch.offset, Ne.symm n0, Ne.symm n1]
    first | done | exact ⟨n0, n1⟩ | omega
theorem xr_alen (d : decode cc pc = .ok (.arraylength, 1)) : xAl cc own pc (pc + 1) := fun p l e R s m args below meth c H locs cells slots Q ls rest C D tys ws q0 a t0 cA x ty hK hP he ht kk => va_alen C.1 C.2.1 hK hP q0 t0 he ht rfl d kk
theorem xr_iald (d : decode cc pc = .ok (.iaload, 1)) : xRd cc own pc (pc + 1) .int := fun p l e R s m args below meth c H locs cells slots Q ls rest C D tys ws q0 a t0 cA n f i hK hP he ht hi kk => va_iald C.1 C.2.1 hK hP q0 t0 he ht hi d kk
theorem xr_bald (d : decode cc pc = .ok (.baload, 1)) : xRd cc own pc (pc + 1) .byte := fun p l e R s m args below meth c H locs cells slots Q ls rest C D tys ws q0 a t0 cA n f i hK hP he ht hi kk => va_bald C.1 C.2.1 hK hP q0 t0 he ht hi d kk
theorem xr_zald (d : decode cc pc = .ok (.baload, 1)) : xRd cc own pc (pc + 1) .boolean := fun p l e R s m args below meth c H locs cells slots Q ls rest C D tys ws q0 a t0 cA n f i hK hP he ht hi kk => va_zald C.1 C.2.1 hK hP q0 t0 he ht hi d kk
theorem xw_arr {f : Nat → Int32} {i x y : Int32} {cA : ClassId} {n : Nat} (h : x = y) : (vp_cell cA (n, .inl f)).setSlot i.toNatClampNeg (.int x) = vp_cell cA (n, .inl (upd f i.toNatClampNeg y)) := by
  rw [vp_cell_i, vp_cell_i, arrV_store, h]
  congr 1
  funext q
  by_cases hq : q = i.toNatClampNeg
  · rw [hq]
    simp [updV, upd]
  · simp [updV, upd, hq]
theorem xr_iast (d : decode cc pc = .ok (.iastore, 1)) : xWr cc own pc (pc + 1) .int := by
  intro p l e R s m args below meth c H locs cells slots Q ls rest C D tys ws q0 a A H0 t0 cA n f i x hK hP hD hS he ht hi kk
  refine W.iast C.1 C.2.1 (hP q0 _ he) ((hK.2 t0 _ ht).1 n (fun j => .int (f j))) (fun q => by cases q) (by show ¬ (i < 0 ∨ (arrV _ _ _).slots.size ≤ _); rw [arrV_size]; exact hi) rfl rfl d fun H1 e1 z oq => ?_
  refine kk H1 _ (hP.set hD he ?_ oq) (hD.set he) (hS.put z oq (hD.2 q0 _ he)) z
  show H1[a]? = some (vp_cell _ _)
  rw [e1]
  exact congrArg some (xw_arr rfl)
theorem xr_bast (d : decode cc pc = .ok (.bastore, 1)) : xWr cc own pc (pc + 1) .byte := by
  intro p l e R s m args below meth c H locs cells slots Q ls rest C D tys ws q0 a A H0 t0 cA n f i x hK hP hD hS he ht hi kk
  refine W.bast C.1 C.2.1 (hP q0 _ he) ((hK.2 t0 _ ht).1 n (fun j => .int (f j))) (fun q => by cases q) (by show ¬ (i < 0 ∨ (arrV _ _ _).slots.size ≤ _); rw [arrV_size]; exact hi) rfl rfl d fun H1 e1 z oq => ?_
  refine kk H1 _ (hP.set hD he ?_ oq) (hD.set he) (hS.put z oq (hD.2 q0 _ he)) z
  show H1[a]? = some (vp_cell _ _)
  rw [e1]
  exact congrArg some (xw_arr rfl)
theorem xr_zast (d : decode cc pc = .ok (.bastore, 1)) : xWr cc own pc (pc + 1) .boolean := by
  intro p l e R s m args below meth c H locs cells slots Q ls rest C D tys ws q0 a A H0 t0 cA n f i x hK hP hD hS he ht hi kk
  refine W.zast C.1 C.2.1 (hP q0 _ he) ((hK.2 t0 _ ht).1 n (fun j => .int (f j))) (fun q => by cases q) (by show ¬ (i < 0 ∨ (arrV _ _ _).slots.size ≤ _); rw [arrV_size]; exact hi) rfl rfl d fun H1 e1 z oq => ?_
  refine kk H1 _ (hP.set hD he ?_ oq) (hD.set he) (hS.put z oq (hD.2 q0 _ he)) z
  show H1[a]? = some (vp_cell _ _)
  rw [e1]
  exact congrArg some (xw_arr rfl)
theorem xr_aald (d : decode cc pc = .ok (.aaload, 1)) : xRr cc own pc (pc + 1) := by
  intro p l e R s m args below meth c H locs cells slots Q ls rest C D tys ws q0 a t0 cA n f i hK hP he ht hi kk
  have hc : H[a]? = some (vp_cell cA (n, .inr (.inr (.inr (.inr f))))) := hP q0 _ he
  exact W.aald C.1 C.2.1 hc ((hK.2 t0 _ ht).1 n (fun j => va_rf (f j))) rfl (by rw [vp_cell_q]; exact fun h => by cases h) (by rw [vp_cell_q, arrV_size]; exact hi) (by
    rw [vp_cell_q]
    exact arrV_read _ _ (by
      have h2 : ¬ n ≤ i.toNatClampNeg := fun z => hi (Or.inr z)
      omega)) rfl rfl d kk
theorem xr_slen (d : decode cc pc = .ok (.arraylength, 1)) : xXl cc own pc (pc + 1) := fun p l e R s m args below meth c H locs cells slots Q ls rest C q L xs A hX hq hA hS k => va_slen C.1 C.2.1 hX hq hA hS d k
theorem xr_sld (d : decode cc pc = .ok (.iaload, 1)) : xXd cc own pc (pc + 1) := fun p l e R s m args below meth c H locs cells slots Q ls rest C q L xs A hX hq hA hS n hn h1 h2 k => va_sld C.1 C.2.1 hX hq hA hS (vp_in_nI hn h2) d (by rw [nI_clamp h1]; exact k)
theorem xr_ldcs0 (d : decode cc pc = .ok (.ldc 41, 2)) : xLs cc RX9 pc (pc + 2) 0 := fun p l e R s m args below meth c H locs cells slots Q ls rest C b sa hF k => va_ldcS C.1 C.2.1 C.2.2.1 hF.2.2.2.1 d k
theorem xr_ldcs1 (d : decode cc pc = .ok (.ldc 47, 2)) : xLs cc RX9 pc (pc + 2) 1 := fun p l e R s m args below meth c H locs cells slots Q ls rest C b sa hF k => va_ldcS C.1 C.2.1 C.2.2.1 hF.2.2.2.2.1 d k
theorem xr_ldcs2 (d : decode cc pc = .ok (.ldc 206, 2)) : xLs cc RX12 pc (pc + 2) 2 := fun p l e R s m args below meth c H locs cells slots Q ls rest C b sa hF k => va_ldcS C.1 C.2.1 C.2.2.1 hF.2.2.2.2.2.2.2.2.2.2.2.1 d k
theorem xr_compact {ix : Nat} (d : decode cc pc = .ok (.getstatic ix, 3)) (h : Cond.fieldLink own ix "java/lang/String" "COMPACT_STRINGS" "Z" ∈ xgt) : xGs cc own pc (pc + 3) (fun _ => .int (nI 1)) := fun p l e R s m args below meth c H locs cells slots Q ls rest C b sa A hF hS hA k => va_gets C.1 C.2.1 (hF.2.2.2.2.2.1.narrow hA) hS C.2.2.1 (C.2.2.2 _ h) (fun _ q => q) d k
theorem xr_sioobe {ix : Nat} (d : decode cc pc = .ok (.getstatic ix, 3)) (h : Cond.fieldLink own ix "jdk/internal/util/Preconditions" "SIOOBE_FORMATTER" "Ljava/util/function/BiFunction;" ∈ xgt) : xGs cc own pc (pc + 3) (fun sa => if sa 98 = 0 then .null else .ref (sa 99)) := fun p l e R s m args below meth c H locs cells slots Q ls rest C b sa A hF hS hA k => va_gets C.1 C.2.1 (hF.2.2.2.2.2.2.1.narrow hA) hS C.2.2.1 (C.2.2.2 _ h) (fun _ q => q) d k
theorem xr_strf_coder {ix : Nat} (d : decode cc pc = .ok (.getfield ix, 3)) (h : Cond.fieldLink own ix "java/lang/String" "coder" "B" ∈ xgt) : xSf cc own pc (pc + 3) (fun _ _ => .int (nI 0)) := fun p l e R s m args below meth c H locs cells slots Q ls rest C b sa A hF hS hA k hk kk => vk_getf C.1 C.2.1 ((hF.2.2.1 k hk).2.1.narrow hA) hS C.2.2.1 (C.2.2.2 _ h) (fun _ q => q) d kk
theorem xr_strf_value {ix : Nat} (d : decode cc pc = .ok (.getfield ix, 3)) (h : Cond.fieldLink own ix "java/lang/String" "value" "[B" ∈ xgt) : xSf cc own pc (pc + 3) (fun sa k => .ref (sa (k + 1000))) := fun p l e R s m args below meth c H locs cells slots Q ls rest C b sa A hF hS hA k hk kk => vk_getf C.1 C.2.1 ((hF.2.2.1 k hk).2.2.1.narrow hA) hS C.2.2.1 (C.2.2.2 _ h) (fun _ q => q) d kk
theorem xr_strl (d : decode cc pc = .ok (.arraylength, 1)) : xSl cc own pc (pc + 1) := fun p l e R s m args below meth c H locs cells slots Q ls rest C b sa A hF hS hA k hk kk => va_tlen C.1 C.2.1 ((hF.2.2.1 k hk).2.2.2.narrow hA) hS rfl d kk
theorem xr_strb (d : decode cc pc = .ok (.baload, 1)) : xSb cc own pc (pc + 1) := fun p l e R s m args below meth c H locs cells slots Q ls rest C b sa A hF hS hA k j hk hj hj2 kk => va_tb C.1 C.2.1 ((hF.2.2.1 k hk).2.2.2.narrow hA) hS (vp_in_nI hj (by have : xlen.getD k 0 < 200 := (by rcases (show k = 0 ∨ k = 1 ∨ k = 2 by omega) with rfl | rfl | rfl <;> decide); omega)) (by rw [nI_clamp hj2]) d kk
theorem xr_i2c  (d : decode cc pc = .ok (.i2c, 1)) (x : Int32) : xT cc own pc (pc + 1) [.int x] [.int (x.toUInt32 % 65536).toInt32] := fun p l e R s m args below meth c H locs cells slots Q ls rest C k => lv_i2c C.1 C.2.1 d rfl k
theorem xr_min {ix : Nat} (d : decode cc pc = .ok (.invokestatic ix, 3)) (h1 : Cond.methodLink own ix Lib.Math.min.name ∈ xgt) (h2 : Cond.static Lib.Math.min.name ∈ xgt) (h3 : Cond.initialized "java/lang/Math" ∈ xgt) (h4 : Cond.code Lib.Math.min.name Lib.Math.min.code 2 (some .int) ∈ xgt) : xMi cc own pc (pc + 3) := fun p l e R s m args below meth c H locs cells slots Q ls rest C x y hml hf hlo hc hs kk => va_mmin C.1 C.2.1 hml C.2.2.1 (C.2.2.2 _ h1) (C.2.2.2 _ h2) (C.2.2.2 _ h3) (C.2.2.2 _ h4) hf hlo hc hs d kk
theorem xr_mna {ix : Nat} (d : decode cc pc = .ok (.multianewarray ix 2, 4)) (h1 : Cond.classLink own ix "[[I" ∈ xgt) (h2 : Cond.arrayClass .int ∈ xgt) : xMa cc own pc (pc + 4) := by
  intro p l e R s m args below meth c H locs cells slots Q ls rest C b sa D tys ws A H0 n k N' K' cA cI hF hP hS fA fI hn hk hN hM b1 b2 hce hsl kk
  subst hN
  subst hM
  intro T hT X
  obtain ⟨vm₁, cB, comp, -, fB, fC, -, -, X', step⟩ := X.multianewarray2F C.1 C.2.2.1 (show (Cond.classLink own ix ("[" ++ (FieldType.array FieldType.int).toString)).before args s = true from C.2.2.2 _ h1) (show (Cond.arrayOver (.array FieldType.int)).before args s = true from hF.2.1) (C.2.2.2 _ h2) (g := F0 m pc ls (.int k :: .int n :: rest)) rfl (by rw [C.2.1]; exact d) rfl hn hk (by omega) (by show _ * 4 ≤ _; omega) (by omega) rfl rfl hce hsl
  cases fA.symm.trans fB
  cases fI.symm.trans fC
  generalize hG : Jvm.Free.Multi.fill (T.setVm vm₁) cA cI n.toNatClampNeg k.toNatClampNeg (defaultValue .int) n.toNatClampNeg = G at X' step
  have hTh : (T.setVm vm₁).heap = H := hT
  obtain ⟨f1, f2, -, -⟩ := Jvm.Free.Multi.fill_facts (T.setVm vm₁) cA cI n.toNatClampNeg k.toNatClampNeg (defaultValue .int) n.toNatClampNeg
  rw [hG, hTh] at f1 f2
  have hold : ∀ x : Nat, x < H.size → G.heap[x]? = H[x]? := fun x hx => by
    have := Jvm.Free.Multi.fill_old (T.setVm vm₁) cA cI n.toNatClampNeg k.toNatClampNeg (defaultValue .int) (a := x) (by rw [hTh]; exact hx) n.toNatClampNeg
    rwa [hG, hTh] at this
  have hrow : ∀ j : Nat, j < n.toNatClampNeg → G.heap[H.size + 1 + j]? = some (vp_cell cI (k.toNatClampNeg, .inl (fun _ => 0))) := fun j hj => by
    have := Jvm.Free.Multi.fill_inner (T.setVm vm₁) cA cI n.toNatClampNeg k.toNatClampNeg (defaultValue .int) n.toNatClampNeg j hj
    rw [hG, hTh] at this
    rw [this, vp_cell_i]
    exact congrArg some (arrV_new cI k.toNatClampNeg (.int 0))
  have hout : G.heap[H.size]? = some (vp_cell cA (n.toNatClampNeg, .inr (.inr (.inr (.inr (fun i => if i < n.toNatClampNeg then some (H.size + 1 + i) else none)))))) := by
    rw [f2, vp_cell_q]
    exact congrArg some (xouter cA n.toNatClampNeg H.size n.toNatClampNeg)
  obtain ⟨t, a1, b1'⟩ := kk G.heap ((hP.kept (fun k9 x hx => hold x.1 ((hP k9 x hx).lt))).app (fun k9 x hx => by
      match k9, hx with
      | 0, hx =>
        cases hx
        exact hout
      | k9 + 1, hx =>
        rw [List.getElem?_cons_succ] at hx
        obtain ⟨i, hi, rfl⟩ := List.mem_map.mp (List.mem_of_getElem? hx)
        exact hrow i (List.mem_range.mp hi))) ⟨by rw [f1]; have := hS.1; omega, fun x h1 h2 => (hold x (Nat.lt_of_lt_of_le h1 hS.1)).trans (hS.2.1 x h1 h2), hS.2.2⟩ (by rw [f1]) G rfl X'
  refine ⟨t, step t ?_, b1'⟩
  rw [show T.heap.size = H.size by rw [hT]]
  exact a1
theorem xr_new {ci ix N : Nat} {K : String} {T : u_T} {ty0 : Nat → FieldType} (d : decode cc pc = .ok (.new ix, 3)) (hc : vwCl[ci]? = some (K, T, N)) (hin : ∀ w ∈ u_ws K T N, w ∈ xgt) (hty : ∀ k, k < N → parseFieldDescriptor (T k).2.2.1 = some (ty0 k)) (h1 : Cond.classLink own ix K ∈ xgt) (h2 : Cond.instantiable K N ∈ xgt) (h3 : Cond.initialized K ∈ xgt) (fs : List Value) (hfs : ∀ j, j < N → defaultValue (ty0 j) = vp_V fs j) : xNw cc own pc (pc + 3) ci N fs := by
  intro p l e R s m args below meth c H locs cells slots Q ls rest C D tys ws A H0 hK hP hS hce hsl kk
  have hKn := hK.1 ci _ hc
  refine W.newcK C.1 C.2.1 C.2.2.1 (C.2.2.2 _ h1) (C.2.2.2 _ h2) (C.2.2.2 _ h3) rfl d hce hsl hKn.2.1 rfl fun H1 kC hkC e1 z1 o1 => ?_
  have hk : ∀ (k : Nat) (x : Nat × va_E), ws[k]? = some x → H1[x.1]? = H[x.1]? := fun k x hx => o1 x.1 ((hP k x hx).lt)
  refine kk H1 ((hP.kept hk).app (fun k x hx => ?_)) ⟨Nat.le_trans hS.1 (by omega), fun x h1 h2 => (o1 x (Nat.lt_of_lt_of_le h1 hS.1)).trans (hS.2.1 x h1 h2), hS.2.2⟩ z1
  have hz : k < 1 := (List.getElem?_eq_some_iff.mp hx).1
  rw [show k = 0 by omega] at hx
  cases hx
  exact ⟨_, hc, (u_born ty0 C.2.2.2 hin hKn hkC e1 hty).to hfs⟩
theorem xr_newa {atype : ArrayType} {ty : FieldType} (d : decode cc pc = .ok (.newarray atype, 2)) (hty : newarray.typeOf atype = ty) (h1 : Cond.arrayClass ty ∈ xgt) : xNa cc own pc (pc + 2) ty := by
  intro p l e R s m args below meth c H locs cells slots Q ls rest C D tys ws A H0 n N' a0 cA hK hP hS hcA ha hn hN hby hce hsl kk
  subst hty
  refine va_newaK C.1 C.2.1 (C.2.2.2 _ h1) rfl d rfl hn hN hby hce hsl rfl fun H1 cB e1 z1 o1 hAr hNm => ?_
  cases hcA.symm.trans hNm
  have hk : ∀ (k : Nat) (x : Nat × va_E), ws[k]? = some x → H1[x.1]? = H[x.1]? := fun k x hx => o1 x.1 ((hP k x hx).lt)
  refine kk H1 ((hP.kept hk).app (fun k x hx => ?_)) ⟨Nat.le_trans hS.1 (by omega), fun x h1 h2 => (o1 x (Nat.lt_of_lt_of_le h1 hS.1)).trans (hS.2.1 x h1 h2), hS.2.2⟩ z1
  have hz : k < 1 := (List.getElem?_eq_some_iff.mp hx).1
  rw [show k = 0 by omega] at hx
  cases hx
  show H1[H.size]? = some (vp_cell _ _)
  rw [ha]
  exact e1
theorem xr_oinit {ix : Nat} (d : decode cc pc = .ok (.invokespecial ix, 3)) (h1 : Cond.methodLink own ix Lib.objectInit ∈ xgt) (h2 : Cond.instanceMethod Lib.objectInit ∈ xgt) (h3 : Cond.code Lib.objectInit ⟨#[0xb1]⟩ 1 none ∈ xgt) : xOi cc own pc (pc + 3) := by
  intro p l e R s m args below meth c H locs cells slots Q ls rest C a hml hfr hlo kk
  exact W.objInit C.1 C.2.1 C.2.2.1 (C.2.2.2 _ h1) (C.2.2.2 _ h2) (C.2.2.2 _ h3) rfl hml.symm rfl d hfr (by show 2 * 0 + _ + 12 ≤ _; omega) kk
theorem xr_copy {ix : Nat} (d : decode cc pc = .ok (.invokestatic ix, 3)) (h1 : Cond.methodLink own ix arraycopyName ∈ xgt) (h2 : Cond.native arraycopyName ∈ xgt) (h3 : Cond.static arraycopyName ∈ xgt) (h4 : Cond.initialized "java/lang/System" ∈ xgt) : xCp cc own pc (pc + 3) := by
  intro p l e R s m args below meth c H locs cells slots Q ls rest C D tys ws A H0 q0 q1 a0 a t0 cA n0 n1 f g sp dp n hml hK hP hD hS e0 e1 ht b1 b2 b3 b4 b5 hfr hlo kk
  have nn : ∀ z : Int32, ¬ z < 0 → z.toInt = (z.toNatClampNeg : Int) := by
    intro z hz
    have hz0 : (0 : Int) ≤ z.toInt := by simpa using Int32.le_iff_toInt_le.mp (Int32.not_lt.mp hz)
    show z.toInt = ((z.toInt.toNat : Nat) : Int)
    omega
  intro T hT X
  have c0 : H[a0]? = some (vp_cell cA (n0, .inl f)) := hP q0 _ e0
  have c1 : H[a]? = some (vp_cell cA (n1, .inl g)) := hP q1 _ e1
  have hl : a < H.size := (Array.getElem?_eq_some_iff.mp c1).1
  obtain ⟨-, k0, hk0, cm0, hkk0⟩ := (hK.2 t0 _ ht).1 n0 (fun j => .int (f j))
  obtain ⟨-, k1, hk1, cm1, hkk1⟩ := (hK.2 t0 _ ht).1 n1 (fun j => .int (g j))
  obtain ⟨vm', X', step⟩ := X.arraycopy C.1 C.2.2.1 (C.2.2.2 _ h1) (C.2.2.2 _ h2) (C.2.2.2 _ h3) (C.2.2.2 _ h4) (src := a0) (dst := a) (cs := vp_cell cA (n0, .inl f)) (cd := vp_cell cA (n1, .inl g)) (srcPos := sp) (destPos := dp) (n := n) (by rw [hT]; exact c0) (by rw [hT]; exact c1)
    (fun _ h => by cases h) (fun _ h => by cases h) (fun h => by cases h) (fun h => by cases h) hk0 hk1 hkk0 hkk1 (by simp [refKind]) b1 b2 b3
    (by rw [nn sp b1, nn n b3]; show ¬ _ > ((arrV cA n0 (fun j => .int (f j))).slots.size : Int); rw [arrV_size]; omega)
    (by rw [nn dp b2, nn n b3]; show ¬ _ > ((arrV cA n1 (fun j => .int (g j))).slots.size : Int); rw [arrV_size]; omega)
    (fun vm₁ _ i hi => by
      have e2 : (vp_cell cA (n0, .inl f)).slots.getD (sp.toNatClampNeg + i) .null = .int (f (sp.toNatClampNeg + i)) := by
        show (arrV cA n0 (fun j => .int (f j))).slots.getD _ _ = _
        rw [Array.getD_eq_getD_getElem?, arrV_read _ _ (by omega)]
        rfl
      rw [e2]
      exact ⟨rfl, trivial⟩)
    (g := F0 m pc ls (.int n :: .int dp :: .ref a :: .int sp :: .ref a0 :: rest)) rfl (by rw [hml]) (rest := rest) rfl (by rw [C.2.1]; exact d) hfr (by show 2 * 0 + _ + _ ≤ _; omega)
  have ecp : copied (vp_cell cA (n0, .inl f)) (vp_cell cA (n1, .inl g)) sp dp n = vp_cell cA (n1, .inl (va_cpy f g sp.toNatClampNeg dp.toNatClampNeg n.toNatClampNeg)) := va_copied (fun z => .int z) cA cA f g b4
  rw [ecp] at X' step
  have oq : ∀ q : Nat, q ≠ a → (H.setIfInBounds a (vp_cell cA (n1, .inl (va_cpy f g sp.toNatClampNeg dp.toNatClampNeg n.toNatClampNeg))))[q]? = H[q]? := fun q hq => by simp [Array.getElem?_setIfInBounds, Ne.symm hq]
  obtain ⟨t, s1, s2⟩ := kk (H.setIfInBounds a (vp_cell cA (n1, .inl (va_cpy f g sp.toNatClampNeg dp.toNatClampNeg n.toNatClampNeg)))) _ (hP.set hD e1 (show (H.setIfInBounds a _)[a]? = some _ by simp [Array.getElem?_setIfInBounds, hl]) oq) ⟨by simp; exact hS.1, fun q g1 g2 => by
      rw [oq q (fun z => g2 (by rw [z]; exact hD.2 q1 _ e1))]
      exact hS.2.1 q g1 g2, fun q hq => by
      rcases List.mem_append.mp hq with h | h
      · exact hS.2.2 q h
      · obtain ⟨z, -, hz⟩ := List.mem_map.mp h
        rw [← hz]
        exact hD.2 q1 _ e1⟩ (by simp) _ (by rw [← hT]; rfl) X'
  exact ⟨t, step t s1, s2⟩
theorem xr_ladd  (d : decode cc pc = .ok (.ladd, 1)) (x y : Int64) : xT cc own pc (pc + 1) [.long y, .long x] [.long (gbin 0 x y)] := fun p l e R s m args below meth c H locs cells slots Q ls rest C k => lv_ladd C.1 C.2.1 d k
theorem xr_lsub  (d : decode cc pc = .ok (.lsub, 1)) (x y : Int64) : xT cc own pc (pc + 1) [.long y, .long x] [.long (gbin 1 x y)] := fun p l e R s m args below meth c H locs cells slots Q ls rest C k => lv_lsub C.1 C.2.1 d k
theorem xr_lmul  (d : decode cc pc = .ok (.lmul, 1)) (x y : Int64) : xT cc own pc (pc + 1) [.long y, .long x] [.long (gbin 2 x y)] := fun p l e R s m args below meth c H locs cells slots Q ls rest C k => lv_lmul C.1 C.2.1 d k
theorem xr_gland  (d : decode cc pc = .ok (.land, 1)) (x y : Int64) : xT cc own pc (pc + 1) [.long y, .long x] [.long (gbin 3 x y)] := fun p l e R s m args below meth c H locs cells slots Q ls rest C k => lv_land C.1 C.2.1 d k
theorem xr_glor  (d : decode cc pc = .ok (.lor, 1)) (x y : Int64) : xT cc own pc (pc + 1) [.long y, .long x] [.long (gbin 4 x y)] := fun p l e R s m args below meth c H locs cells slots Q ls rest C k => lv_lor C.1 C.2.1 d k
theorem xr_glxor  (d : decode cc pc = .ok (.lxor, 1)) (x y : Int64) : xT cc own pc (pc + 1) [.long y, .long x] [.long (gbin 5 x y)] := fun p l e R s m args below meth c H locs cells slots Q ls rest C k => lv_lxor C.1 C.2.1 d k
theorem xr_ldiv  (d : decode cc pc = .ok (.ldiv, 1)) (x y : Int64) (h : ¬ y = 0) : xT cc own pc (pc + 1) [.long y, .long x] [.long (gbin 9 x y)] := fun p l e R s m args below meth c H locs cells slots Q ls rest C k => lv_ldiv C.1 C.2.1 d h k
theorem xr_lrem  (d : decode cc pc = .ok (.lrem, 1)) (x y : Int64) (h : ¬ y = 0) : xT cc own pc (pc + 1) [.long y, .long x] [.long (gbin 10 x y)] := fun p l e R s m args below meth c H locs cells slots Q ls rest C k => lv_lrem C.1 C.2.1 d h k
theorem xr_lneg  (d : decode cc pc = .ok (.lneg, 1)) (x : Int64) : xT cc own pc (pc + 1) [.long x] [.long (-x)] := fun p l e R s m args below meth c H locs cells slots Q ls rest C k => lv_lneg C.1 C.2.1 d k
theorem xr_i2l  (d : decode cc pc = .ok (.i2l, 1)) (x : Int32) : xT cc own pc (pc + 1) [.int x] [.long x.toInt64] := fun p l e R s m args below meth c H locs cells slots Q ls rest C k => lv_i2l C.1 C.2.1 d rfl k
theorem xr_l2i  (d : decode cc pc = .ok (.l2i, 1)) (x : Int64) : xT cc own pc (pc + 1) [.long x] [.int x.toInt32] := fun p l e R s m args below meth c H locs cells slots Q ls rest C k => lv_l2i C.1 C.2.1 d rfl k
theorem xr_lshl  (d : decode cc pc = .ok (.lshl, 1)) (x : Int64) (y : Int32) : xT cc own pc (pc + 1) [.int y, .long x] [.long (x <<< (y.toInt64 &&& 63))] := fun p l e R s m args below meth c H locs cells slots Q ls rest C k => lv_lshl C.1 C.2.1 d rfl k
theorem xr_lushr  (d : decode cc pc = .ok (.lushr, 1)) (x : Int64) (y : Int32) : xT cc own pc (pc + 1) [.int y, .long x] [.long (x.toUInt64 >>> (y.toInt64.toUInt64 &&& Int64.toUInt64 63)).toInt64] := fun p l e R s m args below meth c H locs cells slots Q ls rest C k => lv_lushr C.1 C.2.1 d rfl k
theorem xr_pop2  (d : decode cc pc = .ok (.pop2, 1)) (v : Value) (h : v.category = 2) : xT cc own pc (pc + 1) [v] [] := fun p l e R s m args below meth c H locs cells slots Q ls rest C k => lv_pop2_2 C.1 C.2.1 d h k
theorem xr_lald (d : decode cc pc = .ok (.laload, 1)) : xRl cc own pc (pc + 1) := fun p l e R s m args below meth c H locs cells slots Q ls rest C D tys ws q0 a t0 cA n f i hK hP ha ht hin k => va_lald C.1 C.2.1 hK hP q0 t0 ha ht hin d k
theorem xr_last (d : decode cc pc = .ok (.lastore, 1)) : xWl cc own pc (pc + 1) := fun p l e R s m args below meth c H locs cells slots Q ls rest C D tys ws q0 a A H0 t0 cA n f i x hK hP hD hS ha ht hin k => va_last C.1 C.2.1 hK hP hD hS q0 t0 ha ht hin d k
theorem xr_mmin {ix : Nat} (d : decode cc pc = .ok (.invokestatic ix, 3)) (h1 : Cond.methodLink own ix Lib.Math.min.name ∈ xgt) (h2 : Cond.static Lib.Math.min.name ∈ xgt) (h3 : Cond.initialized "java/lang/Math" ∈ xgt) (h4 : Cond.code Lib.Math.min.name Lib.Math.min.code 2 (some .int) ∈ xgt) (x y : Int32) : xMth cc own pc (pc + 3) [.int y, .int x] [.int (if y < x then y else x)] := fun p l e R s m args below meth c H locs cells slots Q ls rest C hml hf hlo hc hs kk => va_mmin (rest := rest) C.1 C.2.1 hml C.2.2.1 (C.2.2.2 _ h1) (C.2.2.2 _ h2) (C.2.2.2 _ h3) (C.2.2.2 _ h4) hf (by omega) hc hs d kk
theorem xr_mmax {ix : Nat} (d : decode cc pc = .ok (.invokestatic ix, 3)) (h1 : Cond.methodLink own ix Lib.Math.max.name ∈ xgt) (h2 : Cond.static Lib.Math.max.name ∈ xgt) (h3 : Cond.initialized "java/lang/Math" ∈ xgt) (h4 : Cond.code Lib.Math.max.name Lib.Math.max.code 2 (some .int) ∈ xgt) (x y : Int32) : xMth cc own pc (pc + 3) [.int y, .int x] [.int (if x < y then y else x)] := fun p l e R s m args below meth c H locs cells slots Q ls rest C hml hf hlo hc hs kk => va_mmax (rest := rest) C.1 C.2.1 hml C.2.2.1 (C.2.2.2 _ h1) (C.2.2.2 _ h2) (C.2.2.2 _ h3) (C.2.2.2 _ h4) hf (by omega) hc hs d kk
theorem xr_lmin {ix : Nat} (d : decode cc pc = .ok (.invokestatic ix, 3)) (h1 : Cond.methodLink own ix Lib.MathLoose.min_long.x ∈ xgt) (h2 : Cond.static Lib.MathLoose.min_long.x ∈ xgt) (h3 : Cond.initialized "java/lang/Math" ∈ xgt) (h4 : Cond.code Lib.MathLoose.min_long.x Lib.MathLoose.min_long.code 4 (some .long) ∈ xgt) (x y : Int64) : xMth cc own pc (pc + 3) [.long y, .long x] [.long (if y < x then y else x)] := fun p l e R s m args below meth c H locs cells slots Q ls rest C hml hf hlo hc hs kk => va_mmin_long (rest := rest) C.1 C.2.1 hml C.2.2.1 (C.2.2.2 _ h1) (C.2.2.2 _ h2) (C.2.2.2 _ h3) (C.2.2.2 _ h4) hf (by omega) hc hs d kk
theorem xr_lmax {ix : Nat} (d : decode cc pc = .ok (.invokestatic ix, 3)) (h1 : Cond.methodLink own ix Lib.MathLoose.max_long.x ∈ xgt) (h2 : Cond.static Lib.MathLoose.max_long.x ∈ xgt) (h3 : Cond.initialized "java/lang/Math" ∈ xgt) (h4 : Cond.code Lib.MathLoose.max_long.x Lib.MathLoose.max_long.code 4 (some .long) ∈ xgt) (x y : Int64) : xMth cc own pc (pc + 3) [.long y, .long x] [.long (if y < x then x else y)] := fun p l e R s m args below meth c H locs cells slots Q ls rest C hml hf hlo hc hs kk => va_mmax_long (rest := rest) C.1 C.2.1 hml C.2.2.1 (C.2.2.2 _ h1) (C.2.2.2 _ h2) (C.2.2.2 _ h3) (C.2.2.2 _ h4) hf (by omega) hc hs d kk
theorem xr_labs {ix : Nat} (d : decode cc pc = .ok (.invokestatic ix, 3)) (h1 : Cond.methodLink own ix Lib.MathLoose.abs_long.x ∈ xgt) (h2 : Cond.static Lib.MathLoose.abs_long.x ∈ xgt) (h3 : Cond.initialized "java/lang/Math" ∈ xgt) (h4 : Cond.code Lib.MathLoose.abs_long.x Lib.MathLoose.abs_long.code 2 (some .long) ∈ xgt) (x : Int64) : xMth cc own pc (pc + 3) [.long x] [.long (if 0 < x then x else -x)] := fun p l e R s m args below meth c H locs cells slots Q ls rest C hml hf hlo hc hs kk => va_mabs_long (rest := rest) C.1 C.2.1 hml C.2.2.1 (C.2.2.2 _ h1) (C.2.2.2 _ h2) (C.2.2.2 _ h3) (C.2.2.2 _ h4) hf (by omega) hc hs d kk
end XR
