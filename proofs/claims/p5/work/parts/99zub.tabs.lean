/-! WHAT THE TABLES HOLD -/
abbrev vAt (D : dDc) (v : Nat) : tVo := D.2.1.getD v (0, 0, 0, 0, 0, 0, 0)
abbrev vLo (D : dDc) (v : Nat) : Int := (vAt D v).2.1
abbrev vHi (D : dDc) (v : Nat) : Int := (vAt D v).2.2.1
abbrev vBo (D : dDc) (v : Nat) : Int := (vAt D v).2.2.2.1
abbrev vHo (D : dDc) (v : Nat) : Int := (vAt D v).2.2.2.2.1
abbrev vDe (D : dDc) (v : Nat) : Int := (vAt D v).2.2.2.2.2.1
abbrev tAt (D : dDc) (t : Nat) : Int × Int × Int := D.1.getD t (0, 0, 0)
/-- the bars of a PART, by its slot; the PARTS of a VERSE -/
abbrev sBr (D : dDc) (p : Nat) : List Int := dBr D.2.2.1 (p / 3) (p % 3)
abbrev sPs (D : dDc) (v : Nat) : Nat := (dPt D.2.2.1 v).length
section TT
variable {m : yMem} {D : dDc} {v p : Nat}
theorem cTb_n (h : cDh m D) : (w32 (m 3 1) = (D.1.length : Int) ∧ D.1.length ≤ 3) ∧ (w32 (m 5 1) = (D.2.1.length : Int) ∧ D.2.1.length ≤ 6) ∧ (w32 (m 7 1) = (D.2.2.1.length : Int) ∧ D.2.2.1.length ≤ 4) ∧ (w32 (m 9 1) = (D.2.2.2.1.length : Int) ∧ D.2.2.2.1.length ≤ 3) := by
  obtain ⟨a, b, c, e, -⟩ := h
  have a1 := a.1.1
  have a2 := a.1.2.1
  have b1 := b.1.1
  have b2 := b.1.2.1
  have c1 := c.1.1
  have c2 := c.1.2.1
  have e1 := e.1.1
  have e2 := e.1.2.1
  rw [List.length_map] at a1 a2 b1 b2 c1 c2 e1 e2
  exact ⟨⟨a1, a2⟩, ⟨b1, b2⟩, ⟨c1, c2⟩, e1, e2⟩
theorem rTb_n (h : rDl m D) : (w32 (m 97 0) = (D.1.length : Int) ∧ D.1.length ≤ 3) ∧ (w32 (m 97 1) = (D.2.1.length : Int) ∧ D.2.1.length ≤ 6) ∧ (w32 (m 97 2) = (D.2.2.1.length : Int) ∧ D.2.2.1.length ≤ 4) ∧ (w32 (m 97 3) = (D.2.2.2.1.length : Int) ∧ D.2.2.2.1.length ≤ 3) := by
  obtain ⟨a, b, c, e, -⟩ := h
  have a1 := a.1.1
  have a2 := a.1.2.1
  have b1 := b.1.1
  have b2 := b.1.2.1
  have c1 := c.1.1
  have c2 := c.1.2.1
  have e1 := e.1.1
  have e2 := e.1.2.1
  rw [List.length_map] at a1 a2 b1 b2 c1 c2 e1 e2
  exact ⟨⟨a1, a2⟩, ⟨b1, b2⟩, ⟨c1, c2⟩, e1, e2⟩
theorem cTb_v (h : cDh m D) (hv : v < D.2.1.length) : w32 (m 13 v) = vLo D v ∧ w32 (m 14 v) = vHi D v ∧ w32 (m 15 v) = vHo D v ∧ w32 (m 16 v) = vDe D v := by
  obtain ⟨a1, a2, a3, a4, _⟩ := h.2.1.2.2.2 v _ (getD_at (0, 0, 0, 0, 0, 0, 0) hv)
  exact ⟨a1, a2, a3, a4⟩
theorem cTb_b (h : cDh m D) (hv : v < D.2.1.length) : ∃ K : Nat, w32 (m 2 16) = (K : Int) ∧ K < 64 ∧ K / 2 ^ v % 2 = (vBo D v).toNat ∧ (vBo D v = 0 ∨ vBo D v = 1) := by
  have h1 := h.2.1.2.1
  have h2 := h.2.1.2.2.1
  have h3 : ∀ b ∈ D.2.1.map (fun t => t.2.2.2.1), b = 0 ∨ b = 1 := fun b hb => by
    obtain ⟨t, ht, rfl⟩ := List.mem_map.mp hb
    exact h2 t ht
  have hn := (cTb_n h).2.1.2
  refine ⟨bnat (D.2.1.map (fun t => t.2.2.2.1)), by rw [h1, bnat_i h3], ?_, ?_, ?_⟩
  · have := bnat_lt h3
    rw [List.length_map] at this
    have h6 : 2 ^ D.2.1.length ≤ 2 ^ 6 := Nat.pow_le_pow_right (by decide) hn
    exact Nat.lt_of_lt_of_le this h6
  · rw [bnat_b h3]
    congr 1
    rw [List.getD_eq_getElem?_getD, List.getElem?_map, getD_at (0, 0, 0, 0, 0, 0, 0) hv]
    rfl
  · have hm : vAt D v ∈ D.2.1 := by
      show D.2.1.getD v _ ∈ D.2.1
      rw [List.getD_eq_getElem?_getD, List.getElem?_eq_getElem hv]
      exact List.getElem_mem hv
    exact h2 _ hm
theorem rTb_v (h : rDl m D) (hv : v < D.2.1.length) : w32 (m 102 v) = vLo D v ∧ w32 (m 103 v) = vHi D v ∧ w32 (m 104 v) = vBo D v ∧ w32 (m 105 v) = vHo D v ∧ w32 (m 106 v) = vDe D v := by
  obtain ⟨-, a2, a3, a4, a5, a6, _⟩ := h.2.1.2 v _ (getD_at (0, 0, 0, 0, 0, 0, 0) hv)
  exact ⟨a2, a3, a4, a5, a6⟩
theorem dOk_v (h : dOk D) (hv : v < D.2.1.length) : dVk D.1.length (vAt D v) := by
  refine h.2.1 _ ?_
  show D.2.1.getD v _ ∈ D.2.1
  rw [List.getD_eq_getElem?_getD, List.getElem?_eq_getElem hv]
  exact List.getElem_mem hv
theorem cTb_t (h : cDh m D) {t : Nat} (ht : t < D.1.length) : w32 (m 11 t) = (tAt D t).2.1 := (h.1.2 t _ (getD_at (0, 0, 0) ht)).1
theorem rTb_t (h : rDl m D) {t : Nat} (ht : t < D.1.length) : w32 (m 99 t) = (tAt D t).2.1 := (h.1.2 t _ (getD_at (0, 0, 0) ht)).1
theorem uPv_lt (h : cDh m D) (hp : uPv D p) : p < 12 ∧ p / 3 < 4 := by
  have := (cTb_n h).2.2.1.2
  have := hp.1
  omega
theorem uPv_ltr (h : rDl m D) (hp : uPv D p) : p < 12 ∧ p / 3 < 4 := by
  have := (rTb_n h).2.2.1.2
  have := hp.1
  omega
theorem cTb_e (h : cDh m D) {e : Nat} (he : e < D.2.2.1.length) : w32 (m 18 e) = (sPs D e : Int) ∧ sPs D e ≤ 3 := ((cEh_ok h).2 e he).1
theorem rTb_e (h : rDl m D) {e : Nat} (he : e < D.2.2.1.length) : w32 (m 109 e) = (sPs D e : Int) ∧ sPs D e ≤ 3 := ((rEl_ok h).2 e he).1
theorem cTb_p (h : cDh m D) (hp : uPv D p) : (w32 (m 19 p) = ((sBr D p).length : Int) ∧ (sBr D p).length ≤ 8) ∧ ∀ j, j < (sBr D p).length → w32 (m 20 (p * 8 + j)) = (sBr D p).getD j 0 := by
  have a := ((cEh_ok h).2 (p / 3) hp.1).2 (p % 3) hp.2
  rw [show p / 3 * 3 + p % 3 = p by omega] at a
  exact a
theorem rTb_p (h : rDl m D) (hp : uPv D p) : (w32 (m 110 p) = ((sBr D p).length : Int) ∧ (sBr D p).length ≤ 8) ∧ ∀ j, j < (sBr D p).length → w32 (m 111 (p * 8 + j)) = (sBr D p).getD j 0 := by
  have a := ((rEl_ok h).2 (p / 3) hp.1).2 (p % 3) hp.2
  rw [show p / 3 * 3 + p % 3 = p by omega] at a
  exact a
/-- a PART by VERSE and number -/
theorem uPv_of {e q : Nat} (he : e < D.2.2.1.length) (hq : q < sPs D e) (hn : sPs D e ≤ 3) : uPv D (3 * e + q) := by
  unfold uPv
  rw [show (3 * e + q) / 3 = e by omega, show (3 * e + q) % 3 = q by omega]
  exact ⟨he, hq⟩
end TT
/-- a note that SOUNDS: within low and high -/
def fSo (l : List Int) (lo hi : Int) (j : Nat) : Bool := decide (lo ≤ l.getD j 0 ∧ l.getD j 0 ≤ hi)
def fRe (l : List Int) (j : Nat) : Bool := decide (l.getD j 0 = 0)
/-- is a VOICE CRACKED -/
abbrev uCk (X : Int) (v : Nat) : Prop := X.toNat / 2 ^ v % 2 = 1
/-- which bars of a PART a VOICE SOUNDS -/
def sSo (D : dDc) (p v : Nat) : Nat → Bool := fSo (sBr D p) (vLo D v) (vHi D v)
def sBits (D : dDc) (p v : Nat) : Nat := nBt (sSo D p v) (sBr D p).length
def sCnt (D : dDc) (p v : Nat) : Nat := nCt (sSo D p v) (sBr D p).length
def sRes (D : dDc) (p : Nat) : Nat := nCt (fRe (sBr D p)) (sBr D p).length
def sHig (D : dDc) (p : Nat) : Int := nMx (fun j => (sBr D p).getD j 0) (sBr D p).length
def sNo (D : dDc) (X : Int) (p v : Nat) : Nat := if uCk X v then 0 else sCnt D p v
/-- the names of an E -/
def nm7 (a b c d e f g : Int) : Nat → Int := fun i => [a, b, c, d, e, f, g].getD i 0
