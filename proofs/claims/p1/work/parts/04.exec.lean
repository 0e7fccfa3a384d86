/-! A machine of my own over numbers, that a program can run: abstract values (tag, number): (0, n) int, (1, i) the cell number i, (2, _) null, (3, k) the unknown int number k, (4, n) long.
A cell: inl (type, contents) an array, inr (class, fields) an object. -/
abbrev xV : Type := Nat × Nat
abbrev xC : Type := (Nat × List xV) ⊕ (Nat × List xV)
abbrev xH : Type := List xC
abbrev xL : Type := List (Nat × xV)
abbrev xOp : Type := Nat × Nat × Nat × Nat × List (Nat × Nat)
abbrev xM : Type := MethodName × ByteArray × Nat × Option FieldType × Nat × String × Room × List (Nat × xOp)
abbrev xQ : Type := Nat × xV × xV × Bool
abbrev xR : Type := List xQ × Option xV × xH
abbrev xS : Type := Nat × xL × List xV × xH × Nat × Nat
abbrev xD : Type := List (Nat × xV × xV)
/-! what an abstract thing means -/
def xdi (ρ : Nat → Int32) (v : xV) : Int32 := match v with
  | (0, n) => nI n
  | (3, k) => ρ k
  | _ => 0
def xdl (v : xV) : Int64 := lN v.2
def xdv (b : Nat) (ρ : Nat → Int32) (v : xV) : Value := match v with
  | (0, n) => .int (nI n)
  | (1, i) => .ref (b + i)
  | (2, _) => .null
  | (3, k) => .int (ρ k)
  | (_, n) => .long (lN n)
def xdr (b : Nat) (v : xV) : Option Nat := match v with
  | (1, i) => some (b + i)
  | _ => none
def xty (k : Nat) : FieldType := match k with
  | 0 => .int
  | 1 => .byte
  | 2 => .long
  | 3 => .boolean
  | _ => .array .int
def xzero (k : Nat) : xV := match k with
  | 2 => (4, 0)
  | 4 => (2, 0)
  | _ => (0, 0)
def xce (b : Nat) (ρ : Nat → Int32) (dA : Nat → ClassId) (c : xC) : va_E := match c with
  | .inl (2, vs) => .inl (dA 2, vs.length, .inr (.inl (fun j => xdl (vs.getD j (4, 0)))))
  | .inl (4, vs) => .inl (dA 4, vs.length, .inr (.inr (.inr (.inr (fun j => xdr b (vs.getD j (2, 0)))))))
  | .inl (k, vs) => .inl (dA k, vs.length, .inl (fun j => xdi ρ (vs.getD j (0, 0))))
  | .inr (ci, fs) => .inr (ci, fs.map (xdv b ρ))
def xcx (b : Nat) (ρ : Nat → Int32) (dA : Nat → ClassId) : Nat → xH → va_W
  | _, [] => []
  | i, c :: K => (b + i, xce b ρ dA c) :: xcx b ρ dA (i + 1) K
theorem xcx_get {b : Nat} {ρ : Nat → Int32} {dA : Nat → ClassId} : ∀ (K : xH) (o i : Nat), (xcx b ρ dA o K)[i]? = K[i]?.map (fun c => (b + (o + i), xce b ρ dA c))
  | [], o, i => by simp [xcx]
  | c :: K, o, 0 => by simp [xcx]
  | c :: K, o, i + 1 => by
    simp only [xcx, List.getElem?_cons_succ]
    rw [xcx_get K (o + 1) i, show o + 1 + i = o + (i + 1) by omega]
theorem xcx_set {b : Nat} {ρ : Nat → Int32} {dA : Nat → ClassId} : ∀ (K : xH) (o i : Nat) (c : xC), (xcx b ρ dA o K).set i (b + (o + i), xce b ρ dA c) = xcx b ρ dA o (K.set i c)
  | [], o, i, c => by simp [xcx]
  | d :: K, o, 0, c => by simp [xcx]
  | d :: K, o, i + 1, c => by
    simp only [xcx, List.set_cons_succ]
    rw [← xcx_set K (o + 1) i c, show o + 1 + i = o + (i + 1) by omega]
theorem xcx_push {b : Nat} {ρ : Nat → Int32} {dA : Nat → ClassId} : ∀ (K : xH) (o : Nat) (c : xC), xcx b ρ dA o (K ++ [c]) = xcx b ρ dA o K ++ [(b + (o + K.length), xce b ρ dA c)]
  | [], o, c => by simp [xcx]
  | d :: K, o, c => by
    simp only [List.cons_append, xcx, List.length_cons]
    rw [xcx_push K (o + 1) c, show o + 1 + K.length = o + (K.length + 1) by omega]
theorem xcx_D {b : Nat} {ρ : Nat → Int32} {dA : Nat → ClassId} {A : Nat → Prop} {K : xH} (h : ∀ i, i < K.length → A (b + i)) : va_D A (xcx b ρ dA 0 K) := by
  refine ⟨fun i j p q hi hj hpq => ?_, fun k q hk => ?_⟩
  · rw [xcx_get] at hi hj
    cases h1 : K[i]? with
    | none => rw [h1] at hi; cases hi
    | some x =>
      cases h2 : K[j]? with
      | none => rw [h2] at hj; cases hj
      | some y =>
        rw [h1] at hi; rw [h2] at hj
        cases hi; cases hj
        dsimp only at hpq
        omega
  · rw [xcx_get] at hk
    cases h1 : K[k]? with
    | none => rw [h1] at hk; cases hk
    | some x =>
      rw [h1] at hk
      cases hk
      have := (List.getElem?_eq_some_iff.mp h1).1
      rw [show b + (0 + k) = b + k by omega]
      exact h k this
/-! the numbers -/
def xbin (o x y : Nat) : Option Nat := match o with
  | 0 => some ((x + y) % 4294967296)
  | 1 => some ((x + (4294967296 - y % 4294967296)) % 4294967296)
  | 2 => some ((x * y) % 4294967296)
  | 3 => some (Nat.land x y)
  | 4 => some (Nat.lor x y)
  | 5 => some (Nat.xor x y)
  | 6 => if Nat.blt y 32 && Nat.blt (x * 2 ^ y) 4294967296 then some (x * 2 ^ y) else none
  | 7 => if Nat.blt y 32 && Nat.blt x 2147483648 then some (x / 2 ^ y) else none
  | 8 => if Nat.blt y 32 && Nat.blt x 4294967296 then some (x / 2 ^ y) else none
  | 9 => if Nat.blt 0 y && Nat.blt y 2147483648 && Nat.blt x 2147483648 then some (x / y) else none
  | 10 => if Nat.blt 0 y && Nat.blt y 2147483648 && Nat.blt x 2147483648 then some (x % y) else none
  | _ => none
def fbin (o : Nat) (x y : Int32) : Int32 := match o with
  | 0 => x + y
  | 1 => x - y
  | 2 => x * y
  | 3 => x &&& y
  | 4 => x ||| y
  | 5 => x ^^^ y
  | 6 => x <<< (y &&& 31)
  | 7 => x >>> (y &&& 31)
  | 8 => (x.toUInt32 >>> (y.toUInt32 &&& Int32.toUInt32 31)).toInt32
  | 9 => x / y
  | 10 => x - x / y * y
  | _ => 0
theorem nI_m (n : Nat) : nI (n % 4294967296) = nI n := by
  apply Int32.toBitVec_inj.mp
  show BitVec.ofNat 32 _ = BitVec.ofNat 32 _
  apply BitVec.eq_of_toNat_eq
  simp
theorem nI_bv (n : Nat) : (nI n).toBitVec = BitVec.ofNat 32 n := rfl
theorem xs_l : ∀ n, n < 32 → ((nI n &&& 31).toBitVec.smod 32).toNat = n := by decide +kernel
theorem xs_u : ∀ n, n < 32 → (((nI n).toUInt32 &&& Int32.toUInt32 31).toBitVec % 32).toNat = n := by decide +kernel
theorem xbin_ok {o x y z : Nat} (h : xbin o x y = some z) : fbin o (nI x) (nI y) = nI z := by
  match o, h with
  | 0, h => cases h; rw [nI_m]; exact nI_add x y
  | 1, h =>
    cases h
    rw [nI_m, ← nI_add]
    show nI x - nI y = _
    have e : nI (4294967296 - y % 4294967296) + nI y = 0 := by
      rw [← nI_m y, nI_add, show 4294967296 - y % 4294967296 + y % 4294967296 = 4294967296 by omega]
      decide +kernel
    have e2 : nI (4294967296 - y % 4294967296) = - nI y := by
      rw [← Int32.add_zero (-nI y), ← e, Int32.add_comm, Int32.add_assoc, Int32.add_right_neg, Int32.add_zero]
    rw [e2, Int32.sub_eq_add_neg]
  | 2, h => cases h; rw [nI_m]; exact pk_mul x y
  | 3, h =>
    cases h
    apply Int32.toBitVec_inj.mp
    show BitVec.ofNat 32 x &&& BitVec.ofNat 32 y = BitVec.ofNat 32 (x &&& y)
    apply BitVec.eq_of_toNat_eq
    simp [Nat.and_mod_two_pow]
  | 4, h =>
    cases h
    apply Int32.toBitVec_inj.mp
    show BitVec.ofNat 32 x ||| BitVec.ofNat 32 y = BitVec.ofNat 32 (x ||| y)
    apply BitVec.eq_of_toNat_eq
    simp [Nat.or_mod_two_pow]
  | 5, h =>
    cases h
    apply Int32.toBitVec_inj.mp
    show BitVec.ofNat 32 x ^^^ BitVec.ofNat 32 y = BitVec.ofNat 32 (x ^^^ y)
    apply BitVec.eq_of_toNat_eq
    simp [Nat.xor_mod_two_pow]
  | 6, h =>
    simp only [xbin] at h
    split at h
    · next hc =>
      simp only [Bool.and_eq_true, Nat.blt_eq] at hc
      cases h
      exact pk_shlN _ y (xs_l y hc.1) hc.2
    · cases h
  | 7, h =>
    simp only [xbin] at h
    split at h
    · next hc =>
      simp only [Bool.and_eq_true, Nat.blt_eq] at hc
      cases h
      exact pk_shrN hc.2 _ y (xs_l y hc.1)
    · cases h
  | 8, h =>
    simp only [xbin] at h
    split at h
    · next hc =>
      simp only [Bool.and_eq_true, Nat.blt_eq] at hc
      cases h
      exact pk_ushrN hc.2 _ y (xs_u y hc.1)
    · cases h
  | 9, h =>
    simp only [xbin] at h
    split at h
    · next hc =>
      simp only [Bool.and_eq_true, Nat.blt_eq] at hc
      cases h
      exact pk_div hc.2 hc.1.1 hc.1.2
    · cases h
  | 10, h =>
    simp only [xbin] at h
    split at h
    · next hc =>
      simp only [Bool.and_eq_true, Nat.blt_eq] at hc
      cases h
      exact pk_rem hc.2 hc.1.1 hc.1.2
    · cases h
/-- comparing: 0 =, 1 not =, 2 <, 3 >=, 4 >, 5 <= -/
def xcp (c : Nat) (x y : Int32) : Prop := match c with
  | 0 => x = y
  | 1 => ¬ x = y
  | 2 => x < y
  | 3 => y ≤ x
  | 4 => y < x
  | _ => x ≤ y
def xsg (n : Nat) : Nat := (n + 2147483648) % 4294967296
def xcb (c x y : Nat) : Bool := match c with
  | 0 => Nat.beq x y
  | 1 => !(Nat.beq x y)
  | 2 => Nat.blt (xsg x) (xsg y)
  | 3 => Nat.ble (xsg y) (xsg x)
  | 4 => Nat.blt (xsg y) (xsg x)
  | _ => Nat.ble (xsg x) (xsg y)
theorem xti {n : Nat} (h : n < 4294967296) : (nI n).toInt = (xsg n : Int) - 2147483648 := by
  show (BitVec.ofNat 32 n).toInt = _
  rw [BitVec.toInt_eq_toNat_cond]
  simp only [BitVec.toNat_ofNat, xsg]
  have e : n % 2 ^ 32 = n := Nat.mod_eq_of_lt h
  rw [e]
  split <;> omega
theorem xcb_ok {c x y : Nat} (hx : x < 4294967296) (hy : y < 4294967296) : xcb c x y = true ↔ xcp c (nI x) (nI y) := by
  have ex := xti hx
  have ey := xti hy
  have eq : nI x = nI y ↔ x = y := by
    refine ⟨fun h => ?_, fun h => by rw [h]⟩
    have h2 : (nI x).toInt = (nI y).toInt := by rw [h]
    rw [ex, ey] at h2
    simp only [xsg] at h2
    omega
  match c with
  | 0 =>
    show Nat.beq x y = true ↔ nI x = nI y
    rw [eq, Nat.beq_eq]
  | 1 =>
    show (!(Nat.beq x y)) = true ↔ ¬ nI x = nI y
    rw [eq, ← Nat.beq_eq]
    cases Nat.beq x y <;> simp
  | 2 =>
    show Nat.blt (xsg x) (xsg y) = true ↔ nI x < nI y
    rw [Nat.blt_eq, Int32.lt_iff_toInt_lt, ex, ey]; omega
  | 3 =>
    show Nat.ble (xsg y) (xsg x) = true ↔ nI y ≤ nI x
    rw [Nat.ble_eq, Int32.le_iff_toInt_le, ex, ey]; omega
  | 4 =>
    show Nat.blt (xsg y) (xsg x) = true ↔ nI y < nI x
    rw [Nat.blt_eq, Int32.lt_iff_toInt_lt, ex, ey]; omega
  | c + 5 =>
    show Nat.ble (xsg x) (xsg y) = true ↔ nI x ≤ nI y
    rw [Nat.ble_eq, Int32.le_iff_toInt_le, ex, ey]; omega
