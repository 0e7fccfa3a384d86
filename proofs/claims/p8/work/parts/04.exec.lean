/-! A machine of my own over numbers, that a program can run: abstract values (tag, number): (0, n) int, (1, i) the cell number i, (2, _) null, (3, k) the unknown int number k, (4, n) long, (5, k) the constant text number k, (6, k) its bytes, (7, _) a reference that is passed on alone.
A cell: inl (type, contents) an array, inr (class, fields) an object. -/
abbrev xV : Type := Nat × Nat
abbrev xC : Type := (Nat × List xV) ⊕ (Nat × List xV)
abbrev xH : Type := List xC
abbrev xL : Type := List (Nat × xV)
abbrev xOp : Type := Nat × Nat × Nat × Nat × List (Nat × Nat)
abbrev xM : Type := MethodName × ByteArray × Nat × Option FieldType × Nat × String × Room × List (Nat × xOp)
/-- what is known of the unknown ints: pairs that differ; bounds (moved by 2^31) -/
abbrev xK : Type := List (xV × xV) × List (Nat × Nat)
abbrev xR : Type := xK × Option xV × xH
abbrev xD : Type := List (Nat × xV × xV)
/-! what an abstract thing means -/
def xdi (ρ : Nat → Int32) (v : xV) : Int32 := match v with
  | (0, n) => nI n
  | (3, k) => ρ k
  | _ => 0
def xdl (v : xV) : Int64 := lN v.2
def xdv (b : Nat) (ρ : Nat → Int32) (sa : Nat → Nat) (v : xV) : Value := match v with
  | (0, n) => .int (nI n)
  | (1, i) => .ref (b + i)
  | (2, _) => .null
  | (3, k) => .int (ρ k)
  | (5, k) => .ref (sa k)
  | (6, k) => .ref (sa (k + 1000))
  | (7, _) => if sa 98 = 0 then .null else .ref (sa 99)
  | (_, n) => .long (lN n)
def xdr (b : Nat) (v : xV) : Option Nat := match v with
  | (1, i) => some (b + i)
  | _ => none
def xty (k : Nat) : FieldType := match k with
  | 0 => .int
  | 1 => .byte
  | 2 => .long
  | 3 => .boolean
  | _ => .array .int
def xzero (k : Nat) : xV := match k with
  | 2 => (4, 0)
  | 4 => (2, 0)
  | _ => (0, 0)
def xce (b : Nat) (ρ : Nat → Int32) (sa : Nat → Nat) (dA : Nat → ClassId) (c : xC) : va_E := match c with
  | .inl (2, vs) => .inl (dA 2, vs.length, .inr (.inl (fun j => xdl (vs.getD j (4, 0)))))
  | .inl (4, vs) => .inl (dA 4, vs.length, .inr (.inr (.inr (.inr (fun j => xdr b (vs.getD j (2, 0)))))))
  | .inl (k, vs) => .inl (dA k, vs.length, .inl (fun j => xdi ρ (vs.getD j (0, 0))))
  | .inr (ci, fs) => .inr (ci, fs.map (xdv b ρ sa))
def xcx (b : Nat) (ρ : Nat → Int32) (sa : Nat → Nat) (dA : Nat → ClassId) : Nat → xH → va_W
  | _, [] => []
  | i, c :: K => (b + i, xce b ρ sa dA c) :: xcx b ρ sa dA (i + 1) K
theorem xcx_get {b : Nat} {ρ : Nat → Int32} {sa : Nat → Nat} {dA : Nat → ClassId} : ∀ (K : xH) (o i : Nat), (xcx b ρ sa dA o K)[i]? = K[i]?.map (fun c => (b + (o + i), xce b ρ sa dA c))
  | [], o, i => by simp [xcx]
  | c :: K, o, 0 => by simp [xcx]
  | c :: K, o, i + 1 => by
    simp only [xcx, List.getElem?_cons_succ]
    rw [xcx_get K (o + 1) i, show o + 1 + i = o + (i + 1) by omega]
theorem xcx_set {b : Nat} {ρ : Nat → Int32} {sa : Nat → Nat} {dA : Nat → ClassId} : ∀ (K : xH) (o i : Nat) (c : xC), (xcx b ρ sa dA o K).set i (b + (o + i), xce b ρ sa dA c) = xcx b ρ sa dA o (K.set i c)
  | [], o, i, c => by simp [xcx]
  | d :: K, o, 0, c => by simp [xcx]
  | d :: K, o, i + 1, c => by
    simp only [xcx, List.set_cons_succ]
    rw [← xcx_set K (o + 1) i c, show o + 1 + i = o + (i + 1) by omega]
theorem xcx_push {b : Nat} {ρ : Nat → Int32} {sa : Nat → Nat} {dA : Nat → ClassId} : ∀ (K : xH) (o : Nat) (c : xC), xcx b ρ sa dA o (K ++ [c]) = xcx b ρ sa dA o K ++ [(b + (o + K.length), xce b ρ sa dA c)]
  | [], o, c => by simp [xcx]
  | d :: K, o, c => by
    simp only [List.cons_append, xcx, List.length_cons]
    rw [xcx_push K (o + 1) c, show o + 1 + K.length = o + (K.length + 1) by omega]
theorem xcx_D {b : Nat} {ρ : Nat → Int32} {sa : Nat → Nat} {dA : Nat → ClassId} {A : Nat → Prop} {K : xH} (h : ∀ i, i < K.length → A (b + i)) : va_D A (xcx b ρ sa dA 0 K) := by
  refine ⟨fun i j p q hi hj hpq => ?_, fun k q hk => ?_⟩
  · rw [xcx_get] at hi hj
    cases h1 : K[i]? with
    | none => rw [h1] at hi; cases hi
    | some x =>
      cases h2 : K[j]? with
      | none => rw [h2] at hj; cases hj
      | some y =>
        rw [h1] at hi; rw [h2] at hj
        cases hi; cases hj
        dsimp only at hpq
        omega
  · rw [xcx_get] at hk
    cases h1 : K[k]? with
    | none => rw [h1] at hk; cases hk
    | some x =>
      rw [h1] at hk
      cases hk
      have := (List.getElem?_eq_some_iff.mp h1).1
      rw [show b + (0 + k) = b + k by omega]
      exact h k this
/-! the numbers -/
def xbin (o x y : Nat) : Option Nat := match o with
  | 0 => some ((x + y) % 4294967296)
  | 1 => some ((x + (4294967296 - y % 4294967296)) % 4294967296)
  | 2 => some ((x * y) % 4294967296)
  | 3 => some (Nat.land x y)
  | 4 => some (Nat.lor x y)
  | 5 => some (Nat.xor x y)
  | 6 => if Nat.blt y 32 && Nat.blt (x * 2 ^ y) 4294967296 then some (x * 2 ^ y) else none
  | 7 => if Nat.blt y 32 && Nat.blt x 2147483648 then some (x / 2 ^ y) else none
  | 8 => if Nat.blt y 32 && Nat.blt x 4294967296 then some (x / 2 ^ y) else none
  | 9 => if Nat.blt 0 y && Nat.blt y 2147483648 && Nat.blt x 2147483648 then some (x / y) else none
  | 10 => if Nat.blt 0 y && Nat.blt y 2147483648 && Nat.blt x 2147483648 then some (x % y) else none
  | _ => none
def fbin (o : Nat) (x y : Int32) : Int32 := match o with
  | 0 => x + y
  | 1 => x - y
  | 2 => x * y
  | 3 => x &&& y
  | 4 => x ||| y
  | 5 => x ^^^ y
  | 6 => x <<< (y &&& 31)
  | 7 => x >>> (y &&& 31)
  | 8 => (x.toUInt32 >>> (y.toUInt32 &&& Int32.toUInt32 31)).toInt32
  | 9 => x / y
  | 10 => x - x / y * y
  | _ => 0
theorem nI_m (n : Nat) : nI (n % 4294967296) = nI n := by
  apply Int32.toBitVec_inj.mp
  show BitVec.ofNat 32 _ = BitVec.ofNat 32 _
  apply BitVec.eq_of_toNat_eq
  simp
theorem nI_bv (n : Nat) : (nI n).toBitVec = BitVec.ofNat 32 n := rfl
theorem xs_l : ∀ n, n < 32 → ((nI n &&& 31).toBitVec.smod 32).toNat = n := by decide +kernel
theorem xs_u : ∀ n, n < 32 → (((nI n).toUInt32 &&& Int32.toUInt32 31).toBitVec % 32).toNat = n := by decide +kernel
theorem xbin_ok {o x y z : Nat} (h : xbin o x y = some z) : fbin o (nI x) (nI y) = nI z := by
  match o, h with
  | 0, h => cases h; rw [nI_m]; exact nI_add x y
  | 1, h =>
    cases h
    rw [nI_m, ← nI_add]
    show nI x - nI y = _
    have e : nI (4294967296 - y % 4294967296) + nI y = 0 := by
      rw [← nI_m y, nI_add, show 4294967296 - y % 4294967296 + y % 4294967296 = 4294967296 by omega]
      decide +kernel
    have e2 : nI (4294967296 - y % 4294967296) = - nI y := by
      rw [← Int32.add_zero (-nI y), ← e, Int32.add_comm, Int32.add_assoc, Int32.add_right_neg, Int32.add_zero]
    rw [e2, Int32.sub_eq_add_neg]
  | 2, h => cases h; rw [nI_m]; exact pk_mul x y
  | 3, h =>
    cases h
    apply Int32.toBitVec_inj.mp
    show BitVec.ofNat 32 x &&& BitVec.ofNat 32 y = BitVec.ofNat 32 (x &&& y)
    apply BitVec.eq_of_toNat_eq
    simp [Nat.and_mod_two_pow]
  | 4, h =>
    cases h
    apply Int32.toBitVec_inj.mp
    show BitVec.ofNat 32 x ||| BitVec.ofNat 32 y = BitVec.ofNat 32 (x ||| y)
    apply BitVec.eq_of_toNat_eq
    simp [Nat.or_mod_two_pow]
  | 5, h =>
    cases h
    apply Int32.toBitVec_inj.mp
    show BitVec.ofNat 32 x ^^^ BitVec.ofNat 32 y = BitVec.ofNat 32 (x ^^^ y)
    apply BitVec.eq_of_toNat_eq
    simp [Nat.xor_mod_two_pow]
  | 6, h =>
    simp only [xbin] at h
    split at h
    · next hc =>
      simp only [Bool.and_eq_true, Nat.blt_eq] at hc
      cases h
      exact pk_shlN _ y (xs_l y hc.1) hc.2
    · cases h
  | 7, h =>
    simp only [xbin] at h
    split at h
    · next hc =>
      simp only [Bool.and_eq_true, Nat.blt_eq] at hc
      cases h
      exact pk_shrN hc.2 _ y (xs_l y hc.1)
    · cases h
  | 8, h =>
    simp only [xbin] at h
    split at h
    · next hc =>
      simp only [Bool.and_eq_true, Nat.blt_eq] at hc
      cases h
      exact pk_ushrN hc.2 _ y (xs_u y hc.1)
    · cases h
  | 9, h =>
    simp only [xbin] at h
    split at h
    · next hc =>
      simp only [Bool.and_eq_true, Nat.blt_eq] at hc
      cases h
      exact pk_div hc.2 hc.1.1 hc.1.2
    · cases h
  | 10, h =>
    simp only [xbin] at h
    split at h
    · next hc =>
      simp only [Bool.and_eq_true, Nat.blt_eq] at hc
      cases h
      exact pk_rem hc.2 hc.1.1 hc.1.2
    · cases h
/-- comparing: 0 =, 1 not =, 2 <, 3 >=, 4 >, 5 <= -/
def xcp (c : Nat) (x y : Int32) : Prop := match c with
  | 0 => x = y
  | 1 => ¬ x = y
  | 2 => x < y
  | 3 => y ≤ x
  | 4 => y < x
  | _ => x ≤ y
def xsg (n : Nat) : Nat := (n + 2147483648) % 4294967296
def xcb (c x y : Nat) : Bool := match c with
  | 0 => Nat.beq x y
  | 1 => !(Nat.beq x y)
  | 2 => Nat.blt (xsg x) (xsg y)
  | 3 => Nat.ble (xsg y) (xsg x)
  | 4 => Nat.blt (xsg y) (xsg x)
  | _ => Nat.ble (xsg x) (xsg y)
theorem xti {n : Nat} (h : n < 4294967296) : (nI n).toInt = (xsg n : Int) - 2147483648 := by
  show (BitVec.ofNat 32 n).toInt = _
  rw [BitVec.toInt_eq_toNat_cond]
  simp only [BitVec.toNat_ofNat, xsg]
  have e : n % 2 ^ 32 = n := Nat.mod_eq_of_lt h
  rw [e]
  split <;> omega
theorem xcb_ok {c x y : Nat} (hx : x < 4294967296) (hy : y < 4294967296) : xcb c x y = true ↔ xcp c (nI x) (nI y) := by
  have ex := xti hx
  have ey := xti hy
  have eq : nI x = nI y ↔ x = y := by
    refine ⟨fun h => ?_, fun h => by rw [h]⟩
    have h2 : (nI x).toInt = (nI y).toInt := by rw [h]
    rw [ex, ey] at h2
    simp only [xsg] at h2
    omega
  match c with
  | 0 =>
    show Nat.beq x y = true ↔ nI x = nI y
    rw [eq, Nat.beq_eq]
  | 1 =>
    show (!(Nat.beq x y)) = true ↔ ¬ nI x = nI y
    rw [eq, ← Nat.beq_eq]
    cases Nat.beq x y <;> simp
  | 2 =>
    show Nat.blt (xsg x) (xsg y) = true ↔ nI x < nI y
    rw [Nat.blt_eq, Int32.lt_iff_toInt_lt, ex, ey]; omega
  | 3 =>
    show Nat.ble (xsg y) (xsg x) = true ↔ nI y ≤ nI x
    rw [Nat.ble_eq, Int32.le_iff_toInt_le, ex, ey]; omega
  | 4 =>
    show Nat.blt (xsg y) (xsg x) = true ↔ nI y < nI x
    rw [Nat.blt_eq, Int32.lt_iff_toInt_lt, ex, ey]; omega
  | c + 5 =>
    show Nat.ble (xsg x) (xsg y) = true ↔ nI x ≤ nI y
    rw [Nat.ble_eq, Int32.le_iff_toInt_le, ex, ey]; omega
/-! what is known of the unknown ints -/
def sgI (x : Int32) : Nat := (x.toInt + 2147483648).toNat
theorem sgI_i (x : Int32) : (sgI x : Int) = x.toInt + 2147483648 := by
  have h := Int32.le_toInt x
  simp only [sgI]
  omega
theorem sgI_lt (x : Int32) : sgI x < 4294967296 := by
  have h := Int32.toInt_lt x
  have h2 := sgI_i x
  omega
theorem sgI_nI {n : Nat} (h : n < 4294967296) : sgI (nI n) = xsg n := by
  have h1 := sgI_i (nI n)
  rw [xti h] at h1
  omega
theorem xsg2 {n : Nat} (h : n < 4294967296) : xsg (xsg n) = n := by
  simp only [xsg]
  omega
theorem xsg_lt (n : Nat) : xsg n < 4294967296 := Nat.mod_lt _ (by decide)
theorem sgI_inj {x y : Int32} (h : sgI x = sgI y) : x = y := by
  apply Int32.toInt_inj.mp
  have h1 := sgI_i x
  have h2 := sgI_i y
  omega
theorem sgI_eq {x : Int32} {n : Nat} (hn : n < 4294967296) (h : sgI x = n) : x = nI (xsg n) := sgI_inj (by rw [sgI_nI (xsg_lt n), xsg2 hn]; exact h)
theorem sgI_ltI (x y : Int32) : x < y ↔ sgI x < sgI y := by
  have h1 := sgI_i x
  have h2 := sgI_i y
  rw [Int32.lt_iff_toInt_lt]
  omega
def xKok (ρ : Nat → Int32) (κ : xK) : Prop := (∀ q ∈ κ.1, ¬ xdi ρ q.1 = xdi ρ q.2) ∧ ∀ (k lo hi : Nat), κ.2[k]? = some (lo, hi) → lo ≤ sgI (ρ k) ∧ sgI (ρ k) ≤ hi
/-- an int -/
def xint (v : xV) : Bool := match v with
  | (0, n) => Nat.blt n 4294967296
  | (3, _) => true
  | _ => false
def xrng (iv : List (Nat × Nat)) (v : xV) : Nat × Nat := match v with
  | (0, n) => (xsg n, xsg n)
  | (3, k) => iv.getD k (0, 4294967295)
  | _ => (0, 4294967295)
theorem xrng_ok {ρ : Nat → Int32} {κ : xK} (h : xKok ρ κ) {v : xV} (hv : xint v = true) : (xrng κ.2 v).1 ≤ sgI (xdi ρ v) ∧ sgI (xdi ρ v) ≤ (xrng κ.2 v).2 := by
  match v, hv with
  | (0, n), hv =>
    have hn : n < 4294967296 := by simpa [xint, Nat.blt_eq] using hv
    simp only [xrng, xdi]
    rw [sgI_nI hn]
    exact ⟨Nat.le_refl _, Nat.le_refl _⟩
  | (3, k), _ =>
    simp only [xrng, xdi]
    rw [List.getD_eq_getElem?_getD]
    cases hk : κ.2[k]? with
    | none =>
      have := sgI_lt (ρ k)
      exact ⟨Nat.zero_le _, by simp; omega⟩
    | some q => exact h.2 k q.1 q.2 hk
/-- a known unknown -/
def xnm (iv : List (Nat × Nat)) (v : xV) : xV := match v with
  | (3, k) => match iv[k]? with
    | some (lo, hi) => if Nat.beq lo hi then (0, xsg lo) else (3, k)
    | none => (3, k)
  | v => v
theorem xnm_ok {ρ : Nat → Int32} {κ : xK} (h : xKok ρ κ) {b : Nat} {sa : Nat → Nat} (v : xV) : xdv b ρ sa (xnm κ.2 v) = xdv b ρ sa v ∧ xdi ρ (xnm κ.2 v) = xdi ρ v := by
  match v with
  | (0, _) | (1, _) | (2, _) | (4, _) | (5, _) | (6, _) | (7, _) => exact ⟨rfl, rfl⟩
  | (n + 8, _) => exact ⟨rfl, rfl⟩
  | (3, k) =>
    simp only [xnm]
    cases hk : κ.2[k]? with
    | none => exact ⟨rfl, rfl⟩
    | some q =>
      obtain ⟨lo, hi⟩ := q
      dsimp only
      split
      · next he =>
        have he : lo = hi := Nat.eq_of_beq_eq_true he
        subst he
        obtain ⟨h1, h2⟩ := h.2 k lo lo hk
        have e : sgI (ρ k) = lo := by omega
        have := sgI_eq (by have := sgI_lt (ρ k); omega) e
        simp only [xdv, xdi]
        rw [← this]
        exact ⟨rfl, rfl⟩
      · exact ⟨rfl, rfl⟩
def xsetr (iv : List (Nat × Nat)) (v : xV) (lo hi : Nat) : List (Nat × Nat) := match v with
  | (3, k) => match iv[k]? with
    | some (l, h) => iv.set k (Nat.max l lo, Nat.min h hi)
    | none => iv
  | _ => iv
theorem xsetr_ok {ρ : Nat → Int32} {cs : List (xV × xV)} {iv : List (Nat × Nat)} (h : xKok ρ (cs, iv)) {v : xV} {lo hi : Nat} (h1 : lo ≤ sgI (xdi ρ v)) (h2 : sgI (xdi ρ v) ≤ hi) : xKok ρ (cs, xsetr iv v lo hi) := by
  refine ⟨h.1, ?_⟩
  match v, h1, h2 with
  | (0, _), _, _ | (1, _), _, _ | (2, _), _, _ => exact h.2
  | (n + 4, _), _, _ => exact h.2
  | (3, k), h1, h2 =>
    simp only [xsetr]
    cases hk : iv[k]? with
    | none => exact h.2
    | some q =>
      obtain ⟨l, u⟩ := q
      intro j lo' hi' hj
      dsimp only at hj
      by_cases e : j = k
      · subst e
        have hl := (List.getElem?_eq_some_iff.mp hk).1
        rw [List.getElem?_set_self hl] at hj
        cases hj
        have h3 := h.2 j l u hk
        simp only [xdi] at h1 h2
        exact ⟨Nat.max_le.mpr ⟨h3.1, h1⟩, Nat.le_min.mpr ⟨h3.2, h2⟩⟩
      · rw [List.getElem?_set_ne (Ne.symm e)] at hj
        exact h.2 j lo' hi' hj
def xcons (iv : List (Nat × Nat)) : Bool := iv.all (fun q => Nat.ble q.1 q.2)
theorem xcons_ok {ρ : Nat → Int32} {κ : xK} (h : xKok ρ κ) : xcons κ.2 = true := by
  refine List.all_eq_true.mpr (fun q hq => ?_)
  obtain ⟨k, hk⟩ := List.getElem?_of_mem hq
  have := h.2 k q.1 q.2 hk
  exact Nat.ble_eq.mpr (by omega)
/-- the base compare: k 0 '=', 1 '<' -/
def xbp (k : Nat) (x y : Int32) : Prop := if k = 0 then x = y else x < y
def xdec (κ : xK) (k : Nat) (x y : xV) : Option Bool :=
  let a := xrng κ.2 x
  let b := xrng κ.2 y
  if Nat.beq k 0 then
    if Nat.beq a.1 a.2 && (Nat.beq b.1 b.2 && Nat.beq a.1 b.1) then some true
    else if Nat.blt a.2 b.1 || Nat.blt b.2 a.1 then some false
    else if κ.1.any (fun q => Nat.beq q.1.1 x.1 && Nat.beq q.1.2 x.2 && (Nat.beq q.2.1 y.1 && Nat.beq q.2.2 y.2)) then some false
    else none
  else if Nat.blt a.2 b.1 then some true
  else if Nat.ble b.2 a.1 then some false
  else none
theorem xdec_ok {ρ : Nat → Int32} {κ : xK} (h : xKok ρ κ) {k : Nat} {x y : xV} (hx : xint x = true) (hy : xint y = true) {r : Bool} (hd : xdec κ k x y = some r) : r = true ↔ xbp k (xdi ρ x) (xdi ρ y) := by
  have h1 := xrng_ok h hx
  have h2 := xrng_ok h hy
  simp only [xdec] at hd
  by_cases hk : k = 0
  · subst hk
    rw [if_pos (by rfl)] at hd
    simp only [xbp, if_pos]
    split at hd
    · next hc =>
      simp only [Bool.and_eq_true, Nat.beq_eq] at hc
      cases hd
      exact ⟨fun _ => sgI_inj (by omega), fun _ => rfl⟩
    · split at hd
      · next hc =>
        simp only [Bool.or_eq_true, Nat.blt_eq] at hc
        cases hd
        refine ⟨fun q => (by cases q), fun e => ?_⟩
        rw [e] at h1
        omega
      · split at hd
        · next hc =>
          cases hd
          refine ⟨fun q => (by cases q), fun e => ?_⟩
          obtain ⟨q, hq, hh⟩ := List.any_eq_true.mp hc
          simp only [Bool.and_eq_true, Nat.beq_eq] at hh
          obtain ⟨⟨e1, e2⟩, e3, e4⟩ := hh
          have ex : q.1 = x := Prod.ext e1 e2
          have ey : q.2 = y := Prod.ext e3 e4
          exact absurd (by rw [ex, ey]; exact e) (h.1 q hq)
        · cases hd
  · rw [if_neg (by rw [Nat.beq_eq]; exact hk)] at hd
    simp only [xbp, if_neg hk]
    rw [sgI_ltI]
    split at hd
    · next hc =>
      simp only [Nat.blt_eq] at hc
      cases hd
      exact ⟨fun _ => by omega, fun _ => rfl⟩
    · split at hd
      · next hc =>
        simp only [Nat.ble_eq] at hc
        cases hd
        exact ⟨fun q => (by cases q), fun _ => by omega⟩
      · cases hd
/-- what a branch teaches -/
def xlrn (κ : xK) (k : Nat) (x y : xV) (r : Bool) : xK :=
  let a := xrng κ.2 x
  let b := xrng κ.2 y
  if Nat.beq k 0 then (if r then (κ.1, xsetr (xsetr κ.2 x b.1 b.2) y a.1 a.2) else ((x, y) :: κ.1, κ.2))
  else if r then (κ.1, xsetr (xsetr κ.2 x 0 (b.2 - 1)) y (a.1 + 1) 4294967295)
  else (κ.1, xsetr (xsetr κ.2 x b.1 4294967295) y 0 a.2)
theorem xlrn_ok {ρ : Nat → Int32} {κ : xK} (h : xKok ρ κ) {k : Nat} {x y : xV} (hx : xint x = true) (hy : xint y = true) {r : Bool} (hb : r = true ↔ xbp k (xdi ρ x) (xdi ρ y)) : xKok ρ (xlrn κ k x y r) := by
  have h1 := xrng_ok h hx
  have h2 := xrng_ok h hy
  have l1 := sgI_lt (xdi ρ x)
  have l2 := sgI_lt (xdi ρ y)
  simp only [xlrn]
  by_cases hk : k = 0
  · subst hk
    simp only [xbp, if_pos] at hb
    rw [if_pos (by rfl)]
    cases r with
    | true =>
      have e := hb.mp rfl
      rw [if_pos rfl]
      exact xsetr_ok (xsetr_ok (cs := κ.1) (iv := κ.2) h (by rw [e]; exact h2.1) (by rw [e]; exact h2.2)) (by rw [← e]; exact h1.1) (by rw [← e]; exact h1.2)
    | false =>
      rw [if_neg (by decide)]
      refine ⟨fun q hq => ?_, h.2⟩
      rcases List.mem_cons.mp hq with e | hq
      · rw [e]
        exact fun z => by have := hb.mpr z; cases this
      · exact h.1 q hq
  · simp only [xbp, if_neg hk] at hb
    rw [if_neg (by rw [Nat.beq_eq]; exact hk)]
    rw [sgI_ltI] at hb
    cases r with
    | true =>
      have e := hb.mp rfl
      rw [if_pos rfl]
      exact xsetr_ok (xsetr_ok (cs := κ.1) (iv := κ.2) h (Nat.zero_le _) (by omega)) (by omega) (by omega)
    | false =>
      have e : ¬ sgI (xdi ρ x) < sgI (xdi ρ y) := fun z => by have := hb.mpr z; cases this
      rw [if_neg (by decide)]
      exact xsetr_ok (xsetr_ok (cs := κ.1) (iv := κ.2) h (by omega) (by omega)) (Nat.zero_le _) (by omega)
/-- the normal form of a compare: base, left, right, negated -/
def xnf (c : Nat) (x y : xV) : Nat × xV × xV × Bool := match c with
  | 0 => (0, x, y, false)
  | 1 => (0, x, y, true)
  | 2 => (1, x, y, false)
  | 3 => (1, x, y, true)
  | 4 => (1, y, x, false)
  | _ => (1, y, x, true)
theorem xnf_ok {ρ : Nat → Int32} (c : Nat) (x y : xV) : xcp c (xdi ρ x) (xdi ρ y) ↔ (xbp (xnf c x y).1 (xdi ρ (xnf c x y).2.1) (xdi ρ (xnf c x y).2.2.1) ↔ (xnf c x y).2.2.2 = false) := by
  match c with
  | 0 => simp [xcp, xnf, xbp]
  | 1 => simp [xcp, xnf, xbp]
  | 2 => simp [xcp, xnf, xbp]
  | 3 => simp [xcp, xnf, xbp, Int32.not_lt]
  | 4 => simp [xcp, xnf, xbp]
  | c + 5 => simp [xcp, xnf, xbp, Int32.not_lt]
def xadd (x y : Option (List xR)) : Option (List xR) := match x, y with
  | some a, some b => some (a ++ b)
  | _, _ => none
/-- a compare: one way where it is known, else both, each with what it teaches -/
def xfork (κ : xK) (c : Nat) (x y : xV) (kt kf : xK → Option (List xR)) : Option (List xR) :=
  let q := xnf c (xnm κ.2 x) (xnm κ.2 y)
  if xint q.2.1 && xint q.2.2.1 then
    match xdec κ q.1 q.2.1 q.2.2.1 with
    | some r => if Bool.xor r q.2.2.2 then kt κ else kf κ
    | none =>
      let k1 := xlrn κ q.1 q.2.1 q.2.2.1 true
      let k2 := xlrn κ q.1 q.2.1 q.2.2.1 false
      xadd (if xcons k1.2 then (if q.2.2.2 then kf k1 else kt k1) else some []) (if xcons k2.2 then (if q.2.2.2 then kt k2 else kf k2) else some [])
  else none
theorem xfork_ok {ρ : Nat → Int32} {κ : xK} (h : xKok ρ κ) {c : Nat} {x y : xV} {kt kf : xK → Option (List xR)} {Ls : List xR} (hf : xfork κ c x y kt kf = some Ls) :
    (xcp c (xdi ρ x) (xdi ρ y) → ∃ κ' L, kt κ' = some L ∧ xKok ρ κ' ∧ ∀ q ∈ L, q ∈ Ls) ∧ (¬ xcp c (xdi ρ x) (xdi ρ y) → ∃ κ' L, kf κ' = some L ∧ xKok ρ κ' ∧ ∀ q ∈ L, q ∈ Ls) := by
  simp only [xfork] at hf
  have hn := xnf_ok (ρ := ρ) c (xnm κ.2 x) (xnm κ.2 y)
  rw [(xnm_ok h (b := 0) (sa := fun _ => 0) x).2, (xnm_ok h (b := 0) (sa := fun _ => 0) y).2] at hn
  generalize xnf c (xnm κ.2 x) (xnm κ.2 y) = q at hf hn
  obtain ⟨k, u, w, ng⟩ := q
  dsimp only at hf hn
  split at hf
  · next hi =>
    simp only [Bool.and_eq_true] at hi
    cases hd : xdec κ k u w with
    | some r =>
      rw [hd] at hf
      dsimp only at hf
      have hr := xdec_ok h hi.1 hi.2 hd
      rw [← hr] at hn
      refine ⟨fun hc => ⟨κ, Ls, ?_, h, fun _ z => z⟩, fun hc => ⟨κ, Ls, ?_, h, fun _ z => z⟩⟩
      · have := hn.mp hc
        cases r <;> cases ng <;> simp_all
      · have := fun z => hc (hn.mpr z)
        cases r <;> cases ng <;> simp_all
    | none =>
      rw [hd] at hf
      dsimp only at hf
      generalize ha : (if xcons (xlrn κ k u w true).2 = true then (if ng = true then kf (xlrn κ k u w true) else kt (xlrn κ k u w true)) else some []) = a at hf
      generalize hb : (if xcons (xlrn κ k u w false).2 = true then (if ng = true then kt (xlrn κ k u w false) else kf (xlrn κ k u w false)) else some []) = b at hf
      cases a with
      | none => cases hf
      | some La =>
        cases b with
        | none => cases hf
        | some Lb =>
          cases hf
          by_cases hbp : xbp k (xdi ρ u) (xdi ρ w)
          · have hK := xlrn_ok h hi.1 hi.2 (r := true) (k := k) ⟨fun _ => hbp, fun _ => rfl⟩
            rw [if_pos (xcons_ok hK)] at ha
            refine ⟨fun hc => ⟨_, La, ?_, hK, fun q hq => List.mem_append_left _ hq⟩, fun hc => ⟨_, La, ?_, hK, fun q hq => List.mem_append_left _ hq⟩⟩
            · have := (hn.mp hc).mp hbp
              subst this
              simpa using ha
            · have : ng = true := by
                cases ng
                · exact absurd (hn.mpr ⟨fun _ => rfl, fun _ => hbp⟩) hc
                · rfl
              subst this
              simpa using ha
          · have hK := xlrn_ok h hi.1 hi.2 (r := false) (k := k) ⟨fun z => (by cases z), fun z => absurd z hbp⟩
            rw [if_pos (xcons_ok hK)] at hb
            refine ⟨fun hc => ⟨_, Lb, ?_, hK, fun q hq => List.mem_append_right _ hq⟩, fun hc => ⟨_, Lb, ?_, hK, fun q hq => List.mem_append_right _ hq⟩⟩
            · have : ng = true := by
                cases ng
                · exact absurd ((hn.mp hc).mpr rfl) hbp
                · rfl
              subst this
              simpa using hb
            · have : ng = false := by
                cases ng
                · rfl
                · exact absurd (hn.mpr ⟨fun z => absurd z hbp, fun z => by cases z⟩) hc
              subst this
              simpa using hb
  · cases hf
