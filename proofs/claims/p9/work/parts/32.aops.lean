/-! the operations -/
def aGets (ρ : List Int) (mem : yMem) (y : yV) (k : aV → aSt → Bool) : Prop := ∃ (σ : List Int) (v : aV) (S' : aSt), k v S' = true ∧ aSat (ρ ++ σ) S' mem ∧ aok (ρ ++ σ) v y
theorem aGets.here {ρ : List Int} {S : aSt} {mem : yMem} {y : yV} {k : aV → aSt → Bool} {v : aV} (h : k v S = true) (hS : aSat ρ S mem) (hv : aok ρ v y) : aGets ρ mem y k := ⟨[], v, S, h, by rw [List.append_nil]; exact hS, by rw [List.append_nil]; exact hv⟩
theorem afr_ok {ρ : List Int} {S : aSt} {mem : yMem} {q : Int × Int} {k : aV → aSt → Bool} {z : Int} (h : afr S q k = true) (hS : aSat ρ S mem) (h1 : q.1 ≤ w32 z) (h2 : w32 z ≤ q.2) : aGets ρ mem (0, z) k := by
  obtain ⟨g1, g2⟩ := aS_new hS h1 h2
  exact ⟨[w32 z], _, _, h, g1, rfl, w32 z, g2, by show w32 z = w32 z + 0; omega⟩
theorem afr32_ok {ρ : List Int} {S : aSt} {mem : yMem} {k : aV → aSt → Bool} {z : Int} (h : afr S a32 k = true) (hS : aSat ρ S mem) : aGets ρ mem (0, z) k := by
  have h1 := w32_lo z
  have h2 := w32_hi z
  exact afr_ok h hS h1 (by show w32 z ≤ 2147483647; omega)
theorem afit_ok {ρ : List Int} {S : aSt} {mem : yMem} {q : Int × Int} {k : aV → aSt → Bool} {z : Int} (h : afit S q k = true) (hS : aSat ρ S mem) (h1 : ain q a32 = true → q.1 ≤ w32 z ∧ w32 z ≤ q.2) : aGets ρ mem (0, z) k := by
  unfold afit at h
  split at h
  · next hc => exact afr_ok h hS (h1 hc).1 (h1 hc).2
  · exact afr32_ok h hS
theorem afrL_ok {ρ : List Int} {S : aSt} {mem : yMem} {k : aV → aSt → Bool} {z : Int} (h : afrL S k = true) (hS : aSat ρ S mem) : aGets ρ mem (4, z) k := by
  have h1 := w64_lo z
  have h2 := w64_hi z
  obtain ⟨g1, g2⟩ := aS_new hS (q := a64) (x := w64 z) h1 (by show w64 z ≤ 9223372036854775807; omega)
  exact ⟨[w64 z], _, _, h, g1, rfl, g2⟩
theorem amlk_ok {mp : aMp} {i j : Nat} {v : aV} (h : amlk mp i j = some v) : ((i, j), v) ∈ mp := by
  induction mp with
  | nil => cases h
  | cons q r ih =>
    simp only [amlk] at h
    split at h
    · next he =>
      simp only [Bool.and_eq_true, Nat.beq_eq] at he
      cases h
      obtain ⟨⟨a, b⟩, w⟩ := q
      obtain ⟨rfl, rfl⟩ := he
      exact List.mem_cons_self
    · exact List.mem_cons_of_mem _ (ih h)
theorem ardS_ok {ρ : List Int} {S : aSt} {mem : yMem} {i j : Nat} {k : aV → aSt → Bool} (h : ardS S i j k = true) (hS : aSat ρ S mem) : aGets ρ mem (0, mem i j) k := by
  unfold ardS at h
  split at h
  · next v hv => exact aGets.here h hS (hS.2.1 _ (amlk_ok hv))
  · have hg := hS.1 i j
    obtain ⟨g1, g2⟩ := aS_new hS (q := agam i j) (x := w32 (mem i j)) hg.1 hg.2
    have hv : aok (ρ ++ [w32 (mem i j)]) (3, S.2.1.length, 0) (0, mem i j) := ⟨rfl, _, g2, by show w32 (mem i j) = w32 (mem i j) + 0; omega⟩
    refine ⟨[w32 (mem i j)], _, _, h, ⟨g1.1, fun q hq => ?_, g1.2.2⟩, hv⟩
    rcases List.mem_cons.mp hq with rfl | hq
    · exact hv
    · exact g1.2.1 q hq
theorem w32_add (x y : Int) : w32 (x + y) = w32 (w32 x + w32 y) := by
  show (iI (x + y)).toInt = (iI (w32 x + w32 y)).toInt
  rw [show iI (x + y) = iI x + iI y from Int32.ofInt_add x y, show iI (w32 x + w32 y) = iI (w32 x) + iI (w32 y) from Int32.ofInt_add _ _, iI_w, iI_w]
theorem w32_sub (x y : Int) : w32 (x - y) = w32 (w32 x - w32 y) := by
  show (iI (x - y)).toInt = (iI (w32 x - w32 y)).toInt
  rw [show iI (x - y) = iI x - iI y from Int32.ofInt_sub x y, show iI (w32 x - w32 y) = iI (w32 x) - iI (w32 y) from Int32.ofInt_sub _ _, iI_w, iI_w]
theorem w32_mul (x y : Int) : w32 (x * y) = w32 (w32 x * w32 y) := by
  show (iI (x * y)).toInt = (iI (w32 x * w32 y)).toInt
  rw [show iI (x * y) = iI x * iI y from Int32.ofInt_mul x y, show iI (w32 x * w32 y) = iI (w32 x) * iI (w32 y) from Int32.ofInt_mul _ _, iI_w, iI_w]
theorem iI_nat {x : Int} (h : 0 ≤ w32 x) : iI x = nI (w32 x).toNat := by
  rw [← iI_n, Int.toNat_of_nonneg h, iI_w]
theorem nI_t {n : Nat} (h : n < 2147483648) : (nI n).toInt = (n : Int) := nI_toInt (by omega)
theorem y_and {x y : Int} (h : 0 ≤ w32 y) : 0 ≤ (fbin 3 (iI x) (iI y)).toInt ∧ (fbin 3 (iI x) (iI y)).toInt ≤ w32 y := by
  have h2 := w32_hi y
  have e1 : iI x = nI ((iI x).toBitVec.toNat) := by
    apply Int32.toBitVec_inj.mp
    rw [nI_bv]
    simp
  rw [e1, iI_nat h]
  have e2 : fbin 3 (nI (iI x).toBitVec.toNat) (nI (w32 y).toNat) = nI (Nat.land (iI x).toBitVec.toNat (w32 y).toNat) := xbin_ok (o := 3) rfl
  rw [e2]
  have h3 : Nat.land (iI x).toBitVec.toNat (w32 y).toNat ≤ (w32 y).toNat := Nat.and_le_right
  rw [nI_t (by omega)]
  omega
theorem fbin3_comm (a b : Int32) : fbin 3 a b = fbin 3 b a := Int32.and_comm a b
theorem a2p_ok : ∀ (n : Nat) (b : Int), a2p n b = b * 2 ^ n
  | 0, b => by simp [a2p]
  | n + 1, b => by
    rw [a2p, a2p_ok n (b + b), Int.pow_succ]
    rw [← Int.two_mul, Int.mul_comm (2 ^ n : Int) 2, ← Int.mul_assoc, Int.mul_comm b 2]
theorem aones_ok {h : Int} : ∀ (n : Nat) (k : Nat) (b : Int) {r : Int}, b = 2 ^ k → aones h n b = some r → k + n ≤ 31 → ∃ j, j < 31 ∧ r = 2 ^ j - 1 ∧ h ≤ r
  | 0, k, b, r, hb, e, hk => by cases e
  | n + 1, k, b, r, hb, e, hk => by
    simp only [aones] at e
    split at e
    · next hc =>
      rw [zlt_ok] at hc
      cases e
      exact ⟨k, by omega, by rw [hb], by omega⟩
    · refine aones_ok n (k + 1) (b + b) ?_ e (by omega)
      rw [hb, Int.pow_succ]
      omega
theorem y_or {x y : Int} {k : Nat} (hk : k < 31) (hx : 0 ≤ w32 x) (hy : 0 ≤ w32 y) (h1 : w32 x ≤ 2 ^ k - 1) (h2 : w32 y ≤ 2 ^ k - 1) : 0 ≤ (fbin 4 (iI x) (iI y)).toInt ∧ (fbin 4 (iI x) (iI y)).toInt ≤ 2 ^ k - 1 := by
  rw [iI_nat hx, iI_nat hy]
  have e2 : fbin 4 (nI (w32 x).toNat) (nI (w32 y).toNat) = nI (Nat.lor (w32 x).toNat (w32 y).toNat) := xbin_ok (o := 4) rfl
  rw [e2]
  have hp : ((2 ^ k : Nat) : Int) = 2 ^ k := by simp
  have h3 : Nat.lor (w32 x).toNat (w32 y).toNat < 2 ^ k := Nat.or_lt_two_pow (by omega) (by omega)
  have h4 : 2 ^ k ≤ 2 ^ 30 := Nat.pow_le_pow_right (by omega) (by omega)
  rw [nI_t (by omega)]
  omega
theorem y_shl1 {x y : Int} (hx : w32 x = 1) (h1 : 0 ≤ w32 y) (h2 : w32 y ≤ 20) : (fbin 6 (iI x) (iI y)).toInt = 2 ^ (w32 y).toNat := by
  have e1 : iI x = nI 1 := by rw [iI_nat (by omega), hx]; rfl
  rw [e1, iI_nat h1]
  have key : ∀ n : Fin 21, (fbin 6 (nI 1) (nI n.val)).toInt = 2 ^ n.val := by decide +kernel
  exact key ⟨(w32 y).toNat, by omega⟩
theorem y_shr {x y : Int} (hx : 0 ≤ w32 x) : 0 ≤ (fbin 7 (iI x) (iI y)).toInt ∧ (fbin 7 (iI x) (iI y)).toInt ≤ w32 x := by
  have h2 := w32_hi x
  rw [iI_nat hx]
  have e : fbin 7 (nI (w32 x).toNat) (iI y) = nI ((w32 x).toNat / 2 ^ ((iI y &&& 31).toBitVec.smod 32).toNat) := pk_shrN (by omega) _ _ rfl
  rw [e]
  have h3 : (w32 x).toNat / 2 ^ ((iI y &&& 31).toBitVec.smod 32).toNat ≤ (w32 x).toNat := Nat.div_le_self _ _
  generalize (w32 x).toNat / 2 ^ ((iI y &&& 31).toBitVec.smod 32).toNat = q at h3 ⊢
  rw [nI_t (by omega)]
  omega
theorem y_div {x y : Int} (hx : 0 ≤ w32 x) (hy : 1 ≤ w32 y) : (fbin 9 (iI x) (iI y)).toInt = w32 x / w32 y := by
  have h2 := w32_hi x
  have h3 := w32_hi y
  rw [iI_nat hx, iI_nat (show 0 ≤ w32 y by omega)]
  have e : fbin 9 (nI (w32 x).toNat) (nI (w32 y).toNat) = nI ((w32 x).toNat / (w32 y).toNat) := pk_div (by omega) (by omega) (by omega)
  rw [e]
  have h4 : (w32 x).toNat / (w32 y).toNat ≤ (w32 x).toNat := Nat.div_le_self _ _
  rw [nI_t (by omega), Int.natCast_ediv]
  congr 1 <;> omega
theorem y_rem {x y : Int} (hx : 0 ≤ w32 x) (hy : 1 ≤ w32 y) : (fbin 10 (iI x) (iI y)).toInt = w32 x % w32 y := by
  have h2 := w32_hi x
  have h3 := w32_hi y
  rw [iI_nat hx, iI_nat (show 0 ≤ w32 y by omega)]
  have e : fbin 10 (nI (w32 x).toNat) (nI (w32 y).toNat) = nI ((w32 x).toNat % (w32 y).toNat) := pk_rem (by omega) (by omega) (by omega)
  rw [e]
  have h4 : (w32 x).toNat % (w32 y).toNat < (w32 y).toNat := Nat.mod_lt _ (by omega)
  rw [nI_t (by omega), Int.natCast_emod]
  congr 1 <;> omega
theorem ain_ok {q r : Int × Int} : ain q r = true ↔ r.1 ≤ q.1 ∧ q.2 ≤ r.2 := by
  unfold ain
  rw [Bool.and_eq_true, zle_ok, zle_ok]
theorem a64_no : ¬ ain a64 a32 = true := by decide
/-- a result is within its interval -/
theorem abinr_ok {o : Nat} {a b : Int × Int} {x y : Int} (ha1 : a.1 ≤ w32 x) (ha2 : w32 x ≤ a.2) (hb1 : b.1 ≤ w32 y) (hb2 : w32 y ≤ b.2) (h : ain (abinr o a b) a32 = true) : (abinr o a b).1 ≤ w32 (ybin o x y) ∧ w32 (ybin o x y) ≤ (abinr o a b).2 := by
  have wt : ∀ z : Int32, w32 z.toInt = z.toInt := fun z => by
    have h1 := Int32.le_toInt z
    have h2 := Int32.toInt_lt z
    exact w32_of (by simpa using h1) (by simpa using h2)
  match o, h with
  | 0, h =>
    rw [ain_ok] at h
    simp only [abinr, a32] at h ⊢
    show _ ≤ w32 (x + y) ∧ w32 (x + y) ≤ _
    rw [w32_add, w32_of (by omega) (by omega)]
    omega
  | 1, h =>
    rw [ain_ok] at h
    simp only [abinr, a32] at h ⊢
    show _ ≤ w32 (x - y) ∧ w32 (x - y) ≤ _
    rw [w32_sub, w32_of (by omega) (by omega)]
    omega
  | 2, h =>
    simp only [abinr] at h ⊢
    split
    · next hc =>
      rw [if_pos hc, ain_ok] at h
      simp only [Bool.and_eq_true, zle_ok] at hc
      simp only [a32] at h
      show a.1 * b.1 ≤ w32 (x * y) ∧ w32 (x * y) ≤ a.2 * b.2
      have m1 : a.1 * b.1 ≤ w32 x * w32 y := Int.mul_le_mul ha1 hb1 hc.2 (by omega)
      have m2 : w32 x * w32 y ≤ a.2 * b.2 := Int.mul_le_mul ha2 hb2 (by omega) (by omega)
      rw [w32_mul, w32_of (by omega) (by omega)]
      exact ⟨m1, m2⟩
    · next hc =>
      rw [if_neg hc] at h
      exact absurd h a64_no
  | 3, h =>
    simp only [abinr] at h ⊢
    rw [show w32 (ybin 3 x y) = (fbin 3 (iI x) (iI y)).toInt from wt _]
    split
    · next hc =>
      rw [zle_ok] at hc
      have := y_and (x := x) (y := y) (by omega)
      exact ⟨this.1, by omega⟩
    · next hc =>
      rw [if_neg hc] at h
      split
      · next hc2 =>
        rw [zle_ok] at hc2
        have := y_and (x := y) (y := x) (by omega)
        rw [fbin3_comm]
        exact ⟨this.1, by omega⟩
      · next hc2 =>
        rw [if_neg hc2] at h
        exact absurd h a64_no
  | 4, h =>
    simp only [abinr] at h ⊢
    rw [show w32 (ybin 4 x y) = (fbin 4 (iI x) (iI y)).toInt from wt _]
    split
    · next hc =>
      rw [if_pos hc] at h
      simp only [Bool.and_eq_true, zle_ok] at hc
      cases hr : aones (zmax a.2 b.2) 21 1 with
      | none =>
        rw [hr] at h
        exact absurd h a64_no
      | some r =>
        dsimp only
        obtain ⟨j, hj, e, hm⟩ := aones_ok 21 0 1 (by simp) hr (by omega)
        rw [zmax_ok] at hm
        rw [e] at hm ⊢
        exact y_or (x := x) (y := y) hj (by omega) (by omega) (by omega) (by omega)
    · next hc =>
      rw [if_neg hc] at h
      exact absurd h a64_no
  | 6, h =>
    simp only [abinr] at h ⊢
    rw [show w32 (ybin 6 x y) = (fbin 6 (iI x) (iI y)).toInt from wt _]
    split
    · next hc =>
      simp only [Bool.and_eq_true, zle_ok, zeq_ok] at hc
      rw [y_shl1 (by omega) (by omega) (by omega), a2p_ok, Int.one_mul]
      have h1 : (2 : Nat) ^ (w32 y).toNat ≤ 2 ^ b.2.toNat := Nat.pow_le_pow_right (by omega) (by omega)
      have h2 : 1 ≤ (2 : Nat) ^ (w32 y).toNat := Nat.one_le_two_pow
      have e1 : ((2 : Nat) ^ (w32 y).toNat : Nat) = ((2 : Int) ^ (w32 y).toNat) := by simp
      have e2 : ((2 : Nat) ^ b.2.toNat : Nat) = ((2 : Int) ^ b.2.toNat) := by simp
      rw [← e1, ← e2]
      dsimp only
      omega
    · next hc =>
      rw [if_neg hc] at h
      exact absurd h a64_no
  | 7, h =>
    simp only [abinr] at h ⊢
    rw [show w32 (ybin 7 x y) = (fbin 7 (iI x) (iI y)).toInt from wt _]
    split
    · next hc =>
      rw [zle_ok] at hc
      have := y_shr (x := x) (y := y) (by omega)
      exact ⟨this.1, by dsimp only; omega⟩
    · next hc =>
      rw [if_neg hc] at h
      exact absurd h a64_no
  | 9, h =>
    simp only [abinr] at h ⊢
    rw [show w32 (ybin 9 x y) = (fbin 9 (iI x) (iI y)).toInt from wt _]
    split
    · next hc =>
      simp only [Bool.and_eq_true, zle_ok] at hc
      rw [y_div (by omega) (by omega)]
      have h1 : 0 ≤ w32 x / w32 y := Int.ediv_nonneg (by omega) (by omega)
      have h2 : w32 x / w32 y ≤ w32 x := Int.ediv_le_self _ (by omega)
      refine ⟨h1, ?_⟩
      dsimp only
      split
      · next he =>
        rw [zeq_ok] at he
        have e : w32 y = b.1 := by omega
        rw [e]
        exact Int.ediv_le_ediv (by omega) ha2
      · omega
    · next hc =>
      rw [if_neg hc] at h
      exact absurd h a64_no
  | 10, h =>
    simp only [abinr] at h ⊢
    rw [show w32 (ybin 10 x y) = (fbin 10 (iI x) (iI y)).toInt from wt _]
    split
    · next hc =>
      simp only [Bool.and_eq_true, zle_ok] at hc
      rw [y_rem (by omega) (by omega)]
      have h1 : 0 ≤ w32 x % w32 y := Int.emod_nonneg _ (by omega)
      have h2 : w32 x % w32 y < w32 y := Int.emod_lt_of_pos _ (by omega)
      exact ⟨h1, by dsimp only; omega⟩
    · next hc =>
      rw [if_neg hc] at h
      exact absurd h a64_no
  | 5, h => exact absurd h a64_no
  | 8, h => exact absurd h a64_no
  | n + 11, h => exact absurd h a64_no
theorem aneq_ok {ρ : List Int} {ne : aN} (hn : aNok ρ ne) {t : aT} {x c : Int} (ht : tv ρ t x) (h : aneq ne t (none, c) = true) : x ≠ c := by
  obtain ⟨tk, tc⟩ := t
  cases tk with
  | none => cases h
  | some k =>
    simp only [aneq, List.any_eq_true, Bool.and_eq_true, Nat.beq_eq, zeq_ok] at h
    obtain ⟨q, hq, e1, e2⟩ := h
    obtain ⟨w, g1, g2⟩ := hn q hq
    obtain ⟨w', g3, g4⟩ := ht
    rw [e1, g3] at g1
    cases g1
    dsimp only at g4
    intro z
    exact g2 (by omega)
theorem abin_ok {ρ : List Int} {S : aSt} {mem : yMem} {o : Nat} {x y : aV} {zx zy : Int} {k : aV → aSt → Bool} (h : abin S o x y k = true) (hS : aSat ρ S mem) {yx yy : yV} (hx : aok ρ x yx) (hy : aok ρ y yy) (ex : yx.2 = zx) (ey : yy.2 = zy) : yx.1 = 0 ∧ yy.1 = 0 ∧ ((o = 9 ∨ o = 10) → ¬ w32 zy = 0) ∧ aGets ρ mem (0, ybin o zx zy) k := by
  subst ex
  subst ey
  unfold abin at h
  split at h
  · next t u ht hu =>
    obtain ⟨x1, x2⟩ := aterm_ok ht hx
    obtain ⟨y1, y2⟩ := aterm_ok hu hy
    have ha := trng_ok hS.2.2.1 x2
    have hb := trng_ok hS.2.2.1 y2
    refine ⟨x1, y1, ?_⟩
    dsimp only at h
    split at h
    · cases h
    · next hd =>
      refine ⟨fun ho z => hd ?_, ?_⟩
      · simp only [Bool.and_eq_true, Bool.or_eq_true, Nat.beq_eq, zle_ok, Bool.not_eq_true']
        refine ⟨⟨ho, by omega, by omega⟩, ?_⟩
        cases hh : aneq S.2.2 u (none, 0) with
        | false => rfl
        | true => exact absurd z (aneq_ok hS.2.2.2 y2 hh)
      · split at h
        · next hu1 =>
          obtain ⟨uk, uc⟩ := u
          dsimp only at hu1
          subst hu1
          have ey : w32 yy.2 = uc := y2
          dsimp only at h
          split at h
          · next hc =>
            rw [ain_ok] at hc
            simp only [a32] at hc
            have ev : w32 (ybin 0 yx.2 yy.2) = w32 yx.2 + uc := by
              show w32 (yx.2 + yy.2) = _
              rw [w32_add, ey, w32_of (by omega) (by omega)]
            obtain ⟨tk, tc⟩ := t
            cases tk with
            | none =>
              have et : w32 yx.2 = tc := x2
              exact aGets.here h hS ⟨rfl, by rw [ev, et]⟩
            | some s =>
              obtain ⟨z, g1, g2⟩ := x2
              exact aGets.here h hS ⟨rfl, z, g1, by rw [ev, g2]; dsimp only; omega⟩
          · exact afr32_ok h hS
        · next hu1 =>
          obtain ⟨uk, uc⟩ := u
          dsimp only at hu1
          subst hu1
          have ey : w32 yy.2 = uc := y2
          dsimp only at h
          split at h
          · next hc =>
            rw [ain_ok] at hc
            simp only [a32] at hc
            have ev : w32 (ybin 1 yx.2 yy.2) = w32 yx.2 - uc := by
              show w32 (yx.2 - yy.2) = _
              rw [w32_sub, ey, w32_of (by omega) (by omega)]
            obtain ⟨tk, tc⟩ := t
            cases tk with
            | none =>
              have et : w32 yx.2 = tc := x2
              exact aGets.here h hS ⟨rfl, by rw [ev, et]⟩
            | some s =>
              obtain ⟨z, g1, g2⟩ := x2
              exact aGets.here h hS ⟨rfl, z, g1, by rw [ev, g2]; dsimp only; omega⟩
          · exact afr32_ok h hS
        · exact afit_ok h hS (fun hc => abinr_ok ha.1 ha.2 hb.1 hb.2 hc)
  · cases h
