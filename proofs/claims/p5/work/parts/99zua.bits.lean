/-! BITS AND COUNTS: pure -/
def nBt (f : Nat → Bool) : Nat → Nat
  | 0 => 0
  | n + 1 => nBt f n + (if f n then 2 ^ n else 0)
def nCt (f : Nat → Bool) : Nat → Nat
  | 0 => 0
  | n + 1 => nCt f n + (if f n then 1 else 0)
def nMx (g : Nat → Int) : Nat → Int
  | 0 => 0
  | n + 1 => max (nMx g n) (g n)
def nSm (g : Nat → Int) : Nat → Int
  | 0 => 0
  | n + 1 => nSm g n + g n
theorem nBt_lt (f : Nat → Bool) : ∀ n, nBt f n < 2 ^ n
  | 0 => by
    show (0 : Nat) < 1
    decide
  | n + 1 => by
    have h := nBt_lt f n
    simp only [nBt]
    rw [Nat.pow_succ]
    revert h
    generalize 2 ^ n = z
    intro h
    split <;> omega
theorem nCt_le (f : Nat → Bool) : ∀ n, nCt f n ≤ n
  | 0 => Nat.le_refl _
  | n + 1 => by
    have h := nCt_le f n
    simp only [nCt]
    split <;> omega
theorem nBt_ext {f g : Nat → Bool} : ∀ n, (∀ j, j < n → f j = g j) → nBt f n = nBt g n
  | 0, _ => rfl
  | n + 1, h => by
    simp only [nBt]
    rw [nBt_ext n (fun j hj => h j (by omega)), h n (Nat.lt_succ_self n)]
theorem nCt_ext {f g : Nat → Bool} : ∀ n, (∀ j, j < n → f j = g j) → nCt f n = nCt g n
  | 0, _ => rfl
  | n + 1, h => by
    simp only [nCt]
    rw [nCt_ext n (fun j hj => h j (by omega)), h n (Nat.lt_succ_self n)]
theorem nSm_ext {f g : Nat → Int} : ∀ n, (∀ j, j < n → f j = g j) → nSm f n = nSm g n
  | 0, _ => rfl
  | n + 1, h => by
    simp only [nSm]
    rw [nSm_ext n (fun j hj => h j (by omega)), h n (Nat.lt_succ_self n)]
theorem nMx_ext {f g : Nat → Int} : ∀ n, (∀ j, j < n → f j = g j) → nMx f n = nMx g n
  | 0, _ => rfl
  | n + 1, h => by
    simp only [nMx]
    rw [nMx_ext n (fun j hj => h j (by omega)), h n (Nat.lt_succ_self n)]
theorem zpc_0 : ∀ m, zpc m 0 = 0
  | 0 => rfl
  | m + 1 => by
    show 0 % 2 + zpc m (0 / 2) = 0
    rw [show (0 : Nat) / 2 = 0 from rfl, zpc_0 m]
theorem zpc_add : ∀ (n m a : Nat), n < m → a < 2 ^ n → zpc m (a + 2 ^ n) = zpc m a + 1
  | n, 0, a, h, _ => absurd h (Nat.not_lt_zero _)
  | 0, m + 1, a, _, ha => by
    have e : a = 0 := by rw [Nat.pow_zero] at ha; omega
    subst e
    show 1 + zpc m 0 = 0 + zpc m 0 + 1
    omega
  | n + 1, m + 1, a, h, ha => by
    have e1 : (a + 2 ^ (n + 1)) % 2 = a % 2 := by
      rw [Nat.pow_succ]
      generalize 2 ^ n = z
      omega
    have e2 : (a + 2 ^ (n + 1)) / 2 = a / 2 + 2 ^ n := by
      rw [Nat.pow_succ]
      generalize 2 ^ n = z
      omega
    have e3 : a / 2 < 2 ^ n := by
      rw [Nat.pow_succ] at ha
      revert ha
      generalize 2 ^ n = z
      omega
    show (a + 2 ^ (n + 1)) % 2 + zpc m ((a + 2 ^ (n + 1)) / 2) = a % 2 + zpc m (a / 2) + 1
    rw [e1, e2, zpc_add n m (a / 2) (by omega) e3]
    omega
theorem zpc_bt {f : Nat → Bool} {m : Nat} : ∀ {n : Nat}, n ≤ m → zpc m (nBt f n) = nCt f n
  | 0, _ => zpc_0 m
  | n + 1, h => by
    have ih := zpc_bt (f := f) (m := m) (n := n) (by omega)
    simp only [nBt, nCt]
    cases f n with
    | true => rw [if_pos rfl, if_pos rfl, zpc_add n m _ (by omega) (nBt_lt f n), ih]
    | false => rw [if_neg (by decide), if_neg (by decide), Nat.add_zero, Nat.add_zero, ih]
theorem tb_add {a n b : Nat} (h : a < 2 ^ n) : (a + 2 ^ n) / 2 ^ b % 2 = if b = n then 1 else a / 2 ^ b % 2 := by
  by_cases e : b = n
  · subst e
    rw [if_pos rfl, Nat.add_div_right _ (Nat.two_pow_pos b), Nat.div_eq_of_lt h]
  · rw [if_neg e]
    rcases Nat.lt_or_gt_of_ne e with l | l
    · have e2 : 2 ^ n = 2 ^ b * (2 * 2 ^ (n - b - 1)) := by
        rw [← Nat.mul_assoc, ← Nat.pow_succ, ← Nat.pow_add]
        congr 1
        omega
      rw [e2, Nat.add_mul_div_left _ _ (Nat.two_pow_pos b)]
      generalize a / 2 ^ b = x
      generalize 2 ^ (n - b - 1) = y
      omega
    · have h1 : 2 ^ (n + 1) ≤ 2 ^ b := Nat.pow_le_pow_right (by decide) l
      rw [Nat.pow_succ] at h1
      rw [Nat.div_eq_of_lt (show a + 2 ^ n < 2 ^ b by omega), Nat.div_eq_of_lt (show a < 2 ^ b by omega)]
theorem nBt_b {f : Nat → Bool} (b : Nat) : ∀ n, nBt f n / 2 ^ b % 2 = if b < n ∧ f b = true then 1 else 0
  | 0 => by
    rw [if_neg (fun h => Nat.not_lt_zero _ h.1)]
    show 0 / 2 ^ b % 2 = 0
    rw [Nat.zero_div]
  | n + 1 => by
    have ih := nBt_b (f := f) b n
    simp only [nBt]
    cases hf : f n with
    | true =>
      rw [if_pos rfl, tb_add (nBt_lt f n)]
      by_cases e : b = n
      · subst e
        rw [if_pos rfl, if_pos ⟨Nat.lt_succ_self _, hf⟩]
      · rw [if_neg e, ih]
        by_cases h : b < n ∧ f b = true
        · rw [if_pos h, if_pos ⟨by omega, h.2⟩]
        · rw [if_neg h, if_neg (fun z => h ⟨by omega, z.2⟩)]
    | false =>
      rw [if_neg (by decide), Nat.add_zero, ih]
      by_cases h : b < n ∧ f b = true
      · rw [if_pos h, if_pos ⟨by omega, h.2⟩]
      · rw [if_neg h, if_neg (fun z => h ⟨by
          have := z.1
          have : b ≠ n := fun e => by
            rw [e, hf] at z
            exact absurd z.2 (by decide)
          omega, z.2⟩)]
/-- zeros and ones, the least first -/
def bnat : List Int → Nat
  | [] => 0
  | b :: r => b.toNat + 2 * bnat r
theorem bnat_i : ∀ {l : List Int}, (∀ b ∈ l, b = 0 ∨ b = 1) → bsum l = ((bnat l : Nat) : Int)
  | [], _ => rfl
  | b :: r, h => by
    have ih := bnat_i (l := r) (fun c hc => h c (List.mem_cons_of_mem _ hc))
    have hb := h b List.mem_cons_self
    show b + 2 * bsum r = ((b.toNat + 2 * bnat r : Nat) : Int)
    omega
theorem bnat_b : ∀ {l : List Int} {v : Nat}, (∀ b ∈ l, b = 0 ∨ b = 1) → bnat l / 2 ^ v % 2 = (l.getD v 0).toNat
  | [], v, _ => by
    show 0 / 2 ^ v % 2 = 0
    rw [Nat.zero_div]
  | b :: r, 0, h => by
    have hb := h b List.mem_cons_self
    show (b.toNat + 2 * bnat r) / 2 ^ 0 % 2 = b.toNat
    rw [Nat.pow_zero, Nat.div_one]
    omega
  | b :: r, v + 1, h => by
    have hb := h b List.mem_cons_self
    show (b.toNat + 2 * bnat r) / 2 ^ (v + 1) % 2 = (r.getD v 0).toNat
    rw [← bnat_b (l := r) (v := v) (fun c hc => h c (List.mem_cons_of_mem _ hc)), show 2 ^ (v + 1) = 2 * 2 ^ v by rw [Nat.pow_succ, Nat.mul_comm], ← Nat.div_div_eq_div_mul, show (b.toNat + 2 * bnat r) / 2 = bnat r by omega]
theorem bnat_lt : ∀ {l : List Int}, (∀ b ∈ l, b = 0 ∨ b = 1) → bnat l < 2 ^ l.length
  | [], _ => by decide
  | b :: r, h => by
    have ih := bnat_lt (l := r) (fun c hc => h c (List.mem_cons_of_mem _ hc))
    have hb := h b List.mem_cons_self
    show b.toNat + 2 * bnat r < 2 ^ (r.length + 1)
    rw [Nat.pow_succ]
    omega
/-- a bit more -/
theorem yb_bt {x r : Int} {f : Nat → Bool} {n : Nat} (hn : n < 9) (hx : w32 x = ((nBt f n : Nat) : Int)) (hr : w32 r = (n : Int)) : w32 (ybin 4 x (ybin 6 1 r)) = ((nBt f n + 2 ^ n : Nat) : Int) := by
  have h2 : 2 ^ n ≤ 256 := (by decide : ∀ l : Nat, l < 9 → 2 ^ l ≤ 256) n hn
  have hl := nBt_lt f n
  have e := yb_orr (x := x) (y := ybin 6 1 r) (a := 1) (b := nBt f n) (k := n) hx (by rw [yb_shl (a := 1) (s := n) w32c_1 hr (by omega) (by omega), Nat.mul_comm]) hl (by omega)
  rw [e, Nat.mul_one, Nat.add_comm]
/-- is a bit set -/
theorem yb_tst {x r : Int} {a b : Nat} (hx : w32 x = (a : Int)) (ha : a < 2147483648) (hr : w32 r = (b : Int)) (hb : b < 32) : w32 (ybin 3 (ybin 7 x r) 1) = ((a / 2 ^ b % 2 : Nat) : Int) := yb_and1 (yb_shr hx hr hb ha) (Nat.lt_of_le_of_lt (Nat.div_le_self _ _) ha)
theorem w32_mx {x y : Int} : w32 (zmxi x y) = max (w32 x) (w32 y) := by
  unfold zmxi
  split <;> omega
theorem w32_mn {x y : Int} : w32 (zmni x y) = min (w32 x) (w32 y) := by
  unfold zmni
  split <;> omega
/-- distinct ones are summed up -/
theorem nSm_up {P : Nat → Bool} {g : Nat → Int} {p : Nat} (hp : ¬ P p = true) : ∀ n, nSm (fun q => if q = p ∨ P q = true then g q else 0) n = nSm (fun q => if P q = true then g q else 0) n + (if p < n then g p else 0)
  | 0 => by
    rw [if_neg (Nat.not_lt_zero _)]
    rfl
  | n + 1 => by
    have ih := nSm_up (P := P) (g := g) hp n
    simp only [nSm]
    rw [ih]
    by_cases e : n = p
    · subst e
      rw [if_neg (Nat.lt_irrefl _), if_pos (Or.inl rfl), if_neg hp, if_pos (Nat.lt_succ_self _)]
    · by_cases hq : P n = true
      · rw [if_pos (Or.inr hq), if_pos hq]
        by_cases hl : p < n
        · rw [if_pos hl, if_pos (by omega)]
          omega
        · rw [if_neg hl, if_neg (by omega)]
          omega
      · rw [if_neg (show ¬ (n = p ∨ P n = true) from fun z => z.elim e hq), if_neg hq]
        by_cases hl : p < n
        · rw [if_pos hl, if_pos (by omega)]
          omega
        · rw [if_neg hl, if_neg (by omega)]
