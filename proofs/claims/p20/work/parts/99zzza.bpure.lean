/-! BEST, pure: rows of a VERSE as numbers, what they sound and cost, two ways to the best -/
theorem ck_or3 : ∀ a : Nat, a < 64 → ∀ v : Nat, v < 6 → (a / 2 ^ v % 2 = 1 ∨ (a + 2 ^ v) / 2 ^ v % 2 = 1) := by decide +kernel
theorem used_up {U v : Nat} (hU : U < 64) (hv : v < 6) (h : ¬ U / 2 ^ v % 2 = 1) : U + 2 ^ v < 64 ∧ ∀ u, u < 6 → ((U + 2 ^ v) / 2 ^ u % 2 = 1 ↔ (U / 2 ^ u % 2 = 1 ∨ u = v)) := by
  obtain ⟨-, o2, o3⟩ := ck_or U hU v hv h
  refine ⟨o2, fun u hu => ?_⟩
  by_cases e : u = v
  · subst e
    exact ⟨fun _ => Or.inr rfl, fun _ => (ck_or3 U hU u hu).resolve_left h⟩
  · rw [o3 u hu e]
    exact ⟨Or.inl, fun z => z.resolve_right e⟩
def bNb (D : dDc) : Nat := D.2.1.length + 1
/-- the VOICE of PART q in the row w of a VERSE of P PARTS (the last one: nobody) -/
def bDg (nb P w q : Nat) : Nat := w / nb ^ (P - 1 - q) % nb
def bOk (D : dDc) (X : Int) (e w : Nat) : Prop := ∀ q, q < sPs D e → bDg (bNb D) (sPs D e) w q < D.2.1.length → ¬ uCk X (bDg (bNb D) (sPs D e) w q) ∧ ∀ r, r < q → ¬ bDg (bNb D) (sPs D e) w r = bDg (bNb D) (sPs D e) w q
def bGf (D : dDc) (X : Int) (e w q : Nat) : Int := if bDg (bNb D) (sPs D e) w q < D.2.1.length then ((sNo D X (3 * e + q) (bDg (bNb D) (sPs D e) w q) : Nat) : Int) else 0
def bCf (D : dDc) (X wk : Int) (e w q : Nat) : Int := if bDg (bNb D) (sPs D e) w q < D.2.1.length then sDu D X wk (3 * e + q) (bDg (bNb D) (sPs D e) w q) else 0
def bGa (D : dDc) (X : Int) (e w : Nat) : Int := nSm (bGf D X e w) (sPs D e)
def bCo (D : dDc) (X wk : Int) (e w : Nat) : Int := nSm (bCf D X wk e w) (sPs D e)
/-- what the last j VERSES can come to: notes, crowns -/
def bAc (D : dDc) (X wk : Int) : Nat → Int → Int → Prop
  | 0, n, c => n = 0 ∧ c = 0
  | j + 1, n, c => ∃ w, w < bNb D ^ sPs D (D.2.2.1.length - (j + 1)) ∧ bOk D X (D.2.2.1.length - (j + 1)) w ∧ bAc D X wk j (n - bGa D X (D.2.2.1.length - (j + 1)) w) (c - bCo D X wk (D.2.2.1.length - (j + 1)) w)
def bF (D : dDc) (X wk : Int) (j : Nat) (n x : Int) : Prop := (x = 1000000 ∧ ∀ c, ¬ bAc D X wk j n c) ∨ (bAc D X wk j n x ∧ ∀ c, bAc D X wk j n c → x ≤ c)
def bB (D : dDc) (X wk : Int) (j : Nat) (b n c : Int) : Prop := bAc D X wk j n c ∧ c ≤ b ∧ ∀ n' c', bAc D X wk j n' c' → c' ≤ b → n' < n ∨ (n' = n ∧ c ≤ c')
theorem acl (a b : Int) : a + b - a = b := by omega
section BP
variable {D : dDc} {X wk : Int} {j e w : Nat} {b n c n' c' x : Int}
theorem bB_u (h : bB D X wk j b n c) (h2 : bB D X wk j b n' c') : n = n' ∧ c = c' := by
  have a1 := h.2.2 n' c' h2.1 h2.2.1
  have a2 := h2.2.2 n c h.1 h.2.1
  omega
theorem bF_u {y : Int} (hb : ∀ c, bAc D X wk j n c → c < 1000000) (h : bF D X wk j n x) (h2 : bF D X wk j n y) : x = y := by
  rcases h with ⟨h, h'⟩ | ⟨h, h'⟩ <;> rcases h2 with ⟨g, g'⟩ | ⟨g, g'⟩
  · omega
  · exact absurd g (h' y)
  · exact absurd h (g' x)
  · have := h' y g
    have := g' x h
    omega
theorem bB_F (h : bB D X wk j b n c) (h2 : bF D X wk j n x) : x = c := by
  rcases h2 with ⟨_, g⟩ | ⟨g, g'⟩
  · exact absurd h.1 (g c)
  · have a1 := g' c h.1
    have a2 := h.2.2 n x g (by have := h.2.1; omega)
    omega
theorem bB_hi (hb : b < 1000000) (h : bB D X wk j b n c) {m : Int} (h2 : bF D X wk j m x) (hm : n < m) : ¬ x ≤ b := fun hx => by
  rcases h2 with ⟨g, _⟩ | ⟨g, _⟩
  · omega
  · have := h.2.2 m x g hx
    omega
theorem bDg_lt {nb P q : Nat} (hn : 0 < nb) : bDg nb P w q < nb := Nat.mod_lt _ hn
theorem nSm_nn {f : Nat → Int} : ∀ m, (∀ q, q < m → 0 ≤ f q) → 0 ≤ nSm f m
  | 0, _ => Int.le_refl _
  | m + 1, h => by
    have := nSm_nn m (fun q hq => h q (by omega))
    have := h m (Nat.lt_succ_self m)
    simp only [nSm]
    omega
theorem bGa_nn : 0 ≤ bGa D X e w := nSm_nn _ (fun q _ => by
  unfold bGf
  split
  · exact Int.natCast_nonneg _
  · exact Int.le_refl _)
theorem bCo_nn (hk : dOk D) : 0 ≤ bCo D X wk e w := nSm_nn _ (fun q _ => by
  unfold bCf
  split
  · next h => exact (sDu_bd hk h).1
  · exact Int.le_refl _)
theorem bAc_nn (hk : dOk D) : ∀ j n c, bAc D X wk j n c → 0 ≤ n ∧ 0 ≤ c
  | 0, n, c, h => by
    have h : n = 0 ∧ c = 0 := h
    omega
  | j + 1, n, c, h => by
    obtain ⟨w, _, _, h3⟩ := h
    have ih := bAc_nn hk j _ _ h3
    have g := bGa_nn (D := D) (X := X) (e := D.2.2.1.length - (j + 1)) (w := w)
    have k := bCo_nn (D := D) (X := X) (wk := wk) (e := D.2.2.1.length - (j + 1)) (w := w) hk
    omega
/-- the reference's step -/
theorem bB_st (hk : dOk D) (he : e = D.2.2.1.length - (j + 1)) (h1 : ∃ w n0 c0, w < bNb D ^ sPs D e ∧ bOk D X e w ∧ bCo D X wk e w ≤ b ∧ bB D X wk j (b - bCo D X wk e w) n0 c0 ∧ n = bGa D X e w + n0 ∧ c = bCo D X wk e w + c0) (h2 : ∀ w n0 c0, w < bNb D ^ sPs D e → bOk D X e w → bCo D X wk e w ≤ b → bB D X wk j (b - bCo D X wk e w) n0 c0 → bGa D X e w + n0 < n ∨ (bGa D X e w + n0 = n ∧ c ≤ bCo D X wk e w + c0)) (hB : ∀ b', 0 ≤ b' → b' ≤ b → ∃ n0 c0, bB D X wk j b' n0 c0) : bB D X wk (j + 1) b n c := by
  subst he
  obtain ⟨w, n0, c0, w1, w2, w3, w4, rfl, rfl⟩ := h1
  refine ⟨⟨w, w1, w2, ?_⟩, by have := w4.2.1; omega, fun n' c' ha hc => ?_⟩
  · rw [acl, acl]
    exact w4.1
  · obtain ⟨v, v1, v2, v3⟩ := ha
    have nn := bAc_nn hk j _ _ v3
    have k := bCo_nn (D := D) (X := X) (wk := wk) (e := D.2.2.1.length - (j + 1)) (w := v) hk
    obtain ⟨n1, c1, B1⟩ := hB (b - bCo D X wk (D.2.2.1.length - (j + 1)) v) (by omega) (by omega)
    have a1 := h2 v n1 c1 v1 v2 (by omega) B1
    have a2 := B1.2.2 _ _ v3 (by omega)
    omega
/-- the class's step -/
theorem bF_st (he : e = D.2.2.1.length - (j + 1)) (h1 : x = 1000000 ∨ ∃ w y, w < bNb D ^ sPs D e ∧ bOk D X e w ∧ bAc D X wk j (n - bGa D X e w) y ∧ x = bCo D X wk e w + y) (h2 : ∀ w y, w < bNb D ^ sPs D e → bOk D X e w → bAc D X wk j (n - bGa D X e w) y → x ≤ bCo D X wk e w + y) (hb : ∀ c, bAc D X wk (j + 1) n c → c < 1000000) : bF D X wk (j + 1) n x := by
  subst he
  have dom : ∀ c, bAc D X wk (j + 1) n c → x ≤ c := fun c h => by
    obtain ⟨w, w1, w2, w3⟩ := h
    have := h2 w _ w1 w2 w3
    omega
  rcases h1 with h1 | ⟨w, y, w1, w2, w3, rfl⟩
  · refine Or.inl ⟨h1, fun c h => ?_⟩
    have := dom c h
    have := hb c h
    omega
  · refine Or.inr ⟨⟨w, w1, w2, ?_⟩, dom⟩
    rw [acl]
    exact w3
/-- a row that the reference takes is one that the class takes, and the other way about -/
theorem bCh (hk : dOk D) (he : e = D.2.2.1.length - (j + 1)) (hb0 : b < 1000000) (hw : w < bNb D ^ sPs D e) (ho : bOk D X e w) (hB : bB D X wk (j + 1) b n c) (hBj : bCo D X wk e w ≤ b → bB D X wk j (b - bCo D X wk e w) n' c') (hF : bGa D X e w ≤ n → bF D X wk j (n - bGa D X e w) x) : (bCo D X wk e w ≤ b ∧ bGa D X e w + n' = n ∧ bCo D X wk e w + c' = c) ↔ (bGa D X e w ≤ n ∧ bCo D X wk e w + x = c) := by
  subst he
  constructor
  · rintro ⟨k1, k2, k3⟩
    have B := hBj k1
    have nn := bAc_nn hk j _ _ B.1
    refine ⟨by omega, ?_⟩
    have F := hF (by omega)
    rw [show n - bGa D X (D.2.2.1.length - (j + 1)) w = n' by omega] at F
    rw [bB_F B F]
    exact k3
  · rintro ⟨k1, k2⟩
    have F := hF k1
    have cb := hB.2.1
    rcases F with ⟨F, _⟩ | ⟨F, _⟩
    · have k := bCo_nn (D := D) (X := X) (wk := wk) (e := D.2.2.1.length - (j + 1)) (w := w) hk
      omega
    · have nn := bAc_nn hk j _ _ F
      have k3 : bCo D X wk (D.2.2.1.length - (j + 1)) w ≤ b := by omega
      have B := hBj k3
      refine ⟨k3, ?_⟩
      have a1 := B.2.2 _ _ F (by omega)
      have up : bAc D X wk (j + 1) (bGa D X (D.2.2.1.length - (j + 1)) w + n') (bCo D X wk (D.2.2.1.length - (j + 1)) w + c') := ⟨w, hw, ho, by rw [acl, acl]; exact B.1⟩
      have a2 := hB.2.2 _ _ up (by have := B.2.1; omega)
      omega
end BP
