section
/-! A DOCUMENT THAT STANDS: in the class's hymn, in the reference's lower halves -/
def cTh (m : yMem) (tav : dTv) : Prop := cNm m 3 3 (tav.map (fun t => t.1)) ∧ ∀ j t, tav[j]? = some t → w32 (m 11 j) = t.2.1 ∧ w32 (m 12 j) = t.2.2
def cVh (m : yMem) (vo : dVo) : Prop := cNm m 5 6 (vo.map (fun t => t.1)) ∧ w32 (m 2 16) = bsum (vo.map (fun t => t.2.2.2.1)) ∧ (∀ t ∈ vo, t.2.2.2.1 = 0 ∨ t.2.2.2.1 = 1) ∧ ∀ j t, vo[j]? = some t → w32 (m 13 j) = t.2.1 ∧ w32 (m 14 j) = t.2.2.1 ∧ w32 (m 15 j) = t.2.2.2.2.1 ∧ w32 (m 16 j) = t.2.2.2.2.2.1 ∧ w32 (m 17 j) = t.2.2.2.2.2.2
def cPh (m : yMem) (v : Nat) (l : List (List Int)) : Prop := ∀ p q, l[p]? = some q → q.length ≤ 8 ∧ w32 (m 19 (v * 3 + p)) = (q.length : Int) ∧ ∀ j w, q[j]? = some w → w32 (m 20 ((v * 3 + p) * 8 + j)) = w
def cEh (m : yMem) (ve : dVe) : Prop := cNm m 7 4 (ve.map (fun t => t.1)) ∧ ∀ j t, ve[j]? = some t → t.2.length ≤ 3 ∧ w32 (m 18 j) = (t.2.length : Int) ∧ cPh m j t.2
def cBh (m : yMem) (bk : dBk) : Prop := cNm m 9 3 (bk.map (fun t => t.1)) ∧ ∀ j t, bk[j]? = some t → w32 (m 21 j) = t.2
def cKh (m : yMem) : sK → Prop
  | [] => True
  | t :: o => w32 (m 23 o.length) = (t.1 : Int) ∧ (t.1 = 2 → w32 (m 24 o.length) = t.2) ∧ cKh m o
def cFh (m : yMem) (fs : dFs) : Prop := (∀ j, j < 5 → w32 (m 25 j) = (fs.1 j).1 ∧ w32 (m 26 j) = (fs.1 j).2) ∧ (w32 (m 22 4) = (fs.2.2.length : Int) ∧ fs.2.2.length ≤ 64) ∧ cKh m fs.2.2
def cDh (m : yMem) (D : dDc) : Prop := cTh m D.1 ∧ cVh m D.2.1 ∧ cEh m D.2.2.1 ∧ cBh m D.2.2.2.1 ∧ (w32 (m 2 17) = D.2.2.2.2.1.2 ∧ w32 (m 2 18) = D.2.2.2.2.2.1.2) ∧ cFh m D.2.2.2.2.2.2
section TB
variable {m m' : yMem}
theorem tkS_i {c j : Nat} (h : (2 = c ∧ 16 ≤ j ∧ j ≤ 18) ∨ ((c = 3 ∨ c = 5 ∨ c = 7 ∨ c = 9) ∧ j = 1) ∨ (c = 22 ∧ j = 4) ∨ (4 ≤ c ∧ c ≤ 26 ∧ c ≠ 5 ∧ c ≠ 7 ∧ c ≠ 9 ∧ c ≠ 22 ∧ j < [0, 0, 0, 0, 3, 0, 6, 0, 4, 0, 3, 3, 3, 6, 6, 6, 6, 6, 4, 12, 96, 3, 0, 64, 64, 5, 5].getD c 0)) : tkS c j := by
  rcases h with h | h | h | ⟨h1, h2, h3, h4, h5, h6, h7⟩
  · exact Or.inl h
  · exact Or.inr (Or.inl h)
  · exact Or.inr (Or.inr (Or.inl h))
  · have hc : c = 4 ∨ c = 6 ∨ c = 8 ∨ c = 10 ∨ c = 11 ∨ c = 12 ∨ c = 13 ∨ c = 14 ∨ c = 15 ∨ c = 16 ∨ c = 17 ∨ c = 18 ∨ c = 19 ∨ c = 20 ∨ c = 21 ∨ c = 23 ∨ c = 24 ∨ c = 25 ∨ c = 26 := by omega
    unfold tkS
    rcases hc with rfl | rfl | rfl | rfl | rfl | rfl | rfl | rfl | rfl | rfl | rfl | rfl | rfl | rfl | rfl | rfl | rfl | rfl | rfl <;> simp only [List.getD_cons_succ, List.getD_cons_zero] at h7 <;> simp [h7]
theorem tkS_a {c j n : Nat} (hc : 4 ≤ c ∧ c ≤ 26 ∧ c ≠ 5 ∧ c ≠ 7 ∧ c ≠ 9 ∧ c ≠ 22) (hn : [0, 0, 0, 0, 3, 0, 6, 0, 4, 0, 3, 3, 3, 6, 6, 6, 6, 6, 4, 12, 96, 3, 0, 64, 64, 5, 5].getD c 0 = n) (hj : j < n) : tkS c j := tkS_i (Or.inr (Or.inr (Or.inr ⟨hc.1, hc.2.1, hc.2.2.1, hc.2.2.2.1, hc.2.2.2.2.1, hc.2.2.2.2.2, by rw [hn]; exact hj⟩)))
theorem cNm_tk {z mx : Nat} {nm : List Int} (h : cNm m (z + 26) mx nm) (h1 : w32 (m' z 1) = w32 (m (z + 26) 1)) (h2 : ∀ j, j < mx → w32 (m' (z + 1) j) = w32 (m (z + 1 + 26) j)) : cNm m' z mx nm := ⟨by rw [h1]; exact h.1, h.2.1, fun j hj => by rw [h2 j (Nat.lt_of_lt_of_le hj h.2.1), show z + 1 + 26 = z + 26 + 1 by omega]; exact h.2.2 j hj⟩
theorem cKh_tk : ∀ {o : sK}, cKs m o → (∀ j, j < o.length → w32 (m' 23 j) = w32 (m 49 j)) → (∀ j, j < o.length → w32 (m' 24 j) = w32 (m 50 j)) → cKh m' o
  | [], _, _, _ => trivial
  | t :: o, h, h1, h2 => ⟨by rw [h1 _ (Nat.lt_succ_self _)]; exact h.1, fun q => by rw [h2 _ (Nat.lt_succ_self _)]; exact h.2.1 q, cKh_tk h.2.2 (fun j hj => h1 j (Nat.lt_succ_of_lt hj)) (fun j hj => h2 j (Nat.lt_succ_of_lt hj))⟩
/-- a draft that is taken -/
theorem cDh_tk {D : dDc} (h : cDc m D) (ht : ∀ c j, tkS c j → w32 (m' c j) = w32 (m (c + 26) j)) : cDh m' D := by
  obtain ⟨c1, c2, c3, c4, c5, c6, c7⟩ := h
  have b7 : D.1.length ≤ 3 := by have := c1.1.2.1; rw [List.length_map] at this; exact this
  have b8 : D.2.1.length ≤ 6 := by have := c2.1.2.1; rw [List.length_map] at this; exact this
  have b9 : D.2.2.1.length ≤ 4 := by have := c3.1.2.1; rw [List.length_map] at this; exact this
  have b10 : D.2.2.2.1.length ≤ 3 := by have := c4.1.2.1; rw [List.length_map] at this; exact this
  have t1 : ∀ c, c = 3 ∨ c = 5 ∨ c = 7 ∨ c = 9 → w32 (m' c 1) = w32 (m (c + 26) 1) := fun c hc => ht c 1 (tkS_i (Or.inr (Or.inl ⟨hc, rfl⟩)))
  have t2 : ∀ j, 16 ≤ j → j ≤ 18 → w32 (m' 2 j) = w32 (m 28 j) := fun j j1 j2 => ht 2 j (tkS_i (Or.inl ⟨rfl, j1, j2⟩))
  refine ⟨⟨cNm_tk c1.1 (t1 3 (by decide)) (fun j hj => ht 4 j (tkS_a (by decide) rfl hj)), fun j t hjt => ?_⟩, ⟨cNm_tk c2.1 (t1 5 (by decide)) (fun j hj => ht 6 j (tkS_a (by decide) rfl hj)), by rw [t2 16 (by decide) (by decide)]; exact c2.2.1, c2.2.2.1, fun j t hjt => ?_⟩, ⟨cNm_tk c3.1 (t1 7 (by decide)) (fun j hj => ht 8 j (tkS_a (by decide) rfl hj)), fun j t hjt => ?_⟩, ⟨cNm_tk c4.1 (t1 9 (by decide)) (fun j hj => ht 10 j (tkS_a (by decide) rfl hj)), fun j t hjt => ?_⟩, ⟨by rw [t2 17 (by decide) (by decide)]; exact c5.2, by rw [t2 18 (by decide) (by decide)]; exact c6.2⟩, fun j hj => ?_, ⟨by rw [ht 22 4 (tkS_i (Or.inr (Or.inr (Or.inl ⟨rfl, rfl⟩))))]; exact c7.2.1.1, ?_⟩, ?_⟩
  · have := get_lt hjt
    rw [ht 11 j (tkS_a (n := 3) (by decide) rfl (by omega)), ht 12 j (tkS_a (n := 3) (by decide) rfl (by omega))]
    exact c1.2 j t hjt
  · have := get_lt hjt
    rw [ht 13 j (tkS_a (n := 6) (by decide) rfl (by omega)), ht 14 j (tkS_a (n := 6) (by decide) rfl (by omega)), ht 15 j (tkS_a (n := 6) (by decide) rfl (by omega)), ht 16 j (tkS_a (n := 6) (by decide) rfl (by omega)), ht 17 j (tkS_a (n := 6) (by decide) rfl (by omega))]
    exact c2.2.2.2 j t hjt
  · have hj := get_lt hjt
    obtain ⟨a1, a2, a3⟩ := c3.2 j t hjt
    refine ⟨a1, by rw [ht 18 j (tkS_a (n := 4) (by decide) rfl (by omega))]; exact a2, fun p q hq => ?_⟩
    have hp := get_lt hq
    obtain ⟨g1, g2, g3⟩ := a3 p q hq
    refine ⟨g1, by rw [ht 19 _ (tkS_a (by decide) rfl (show j * 3 + p < 12 by omega))]; exact g2, fun i w hw => ?_⟩
    have hi := get_lt hw
    rw [ht 20 _ (tkS_a (by decide) rfl (show (j * 3 + p) * 8 + i < 96 by omega))]
    exact g3 i w hw
  · have := get_lt hjt
    rw [ht 21 j (tkS_a (n := 3) (by decide) rfl (by omega))]
    exact c4.2 j t hjt
  · rw [ht 25 j (tkS_a (by decide) rfl hj), ht 26 j (tkS_a (by decide) rfl hj)]
    exact c7.1 j hj
  · have := c7.2.2.2
    omega
  · have hl : D.2.2.2.2.2.2.2.2.length ≤ 64 := by have := c7.2.2.2; omega
    exact cKh_tk c7.2.1.2 (fun j hj => ht 23 j (tkS_a (n := 64) (by decide) rfl (by omega))) (fun j hj => ht 24 j (tkS_a (n := 64) (by decide) rfl (by omega)))
end TB
/-! the reference's lower halves -/
def rNl (m : yMem) (z q mx : Nat) (nm : List Int) : Prop := w32 (m 97 q) = (nm.length : Int) ∧ nm.length ≤ mx ∧ ∀ j, j < nm.length → w32 (m z j) = nm.getD j 0
def rPl (m : yMem) (v : Nat) (l : List (List Int)) : Prop := ∀ p q, l[p]? = some q → q.length ≤ 8 ∧ w32 (m 110 (v * 3 + p)) = (q.length : Int) ∧ ∀ j w, q[j]? = some w → w32 (m 111 ((v * 3 + p) * 8 + j)) = w
def rKl (m : yMem) : sK → Prop
  | [] => True
  | q :: o => (w32 (m 116 o.length) = rKt q.1 ∧ w32 (m 117 o.length) = rKv q.1 q.2) ∧ rKl m o
def rDl (m : yMem) (D : dDc) : Prop := (rNl m 98 0 3 (D.1.map (fun t => t.1)) ∧ ∀ j t, D.1[j]? = some t → w32 (m 99 j) = t.2.1 ∧ w32 (m 100 j) = t.2.2) ∧ (rNl m 101 1 6 (D.2.1.map (fun t => t.1)) ∧ ∀ j t, D.2.1[j]? = some t → rVs m j t) ∧ (rNl m 108 2 4 (D.2.2.1.map (fun t => t.1)) ∧ ∀ j t, D.2.2.1[j]? = some t → t.2.length ≤ 3 ∧ w32 (m 109 j) = (t.2.length : Int) ∧ rPl m j t.2) ∧ (rNl m 112 3 3 (D.2.2.2.1.map (fun t => t.1)) ∧ ∀ j t, D.2.2.2.1[j]? = some t → w32 (m 113 j) = t.2) ∧ (w32 (m 97 4) = D.2.2.2.2.1.2 ∧ w32 (m 97 5) = D.2.2.2.2.2.1.2) ∧ (∀ j, j < 5 → w32 (m 114 j) = (D.2.2.2.2.2.2.1 j).1 ∧ w32 (m 115 j) = (D.2.2.2.2.2.2.1 j).2) ∧ (w32 (m 97 6) = (D.2.2.2.2.2.2.2.2.length : Int) ∧ D.2.2.2.2.2.2.2.2.length ≤ 64) ∧ rKl m D.2.2.2.2.2.2.2.2
section TC
variable {m s : yMem}
theorem rNl_h {z q off : Nat} {nm : List Int} (h : rNm s z q off nm) (h1 : w32 (m 97 q) = w32 (s 97 (7 + q))) (h2 : ∀ j, j < off → w32 (m z j) = w32 (s z (off + j))) : rNl m z q off nm := ⟨by rw [h1]; exact h.1, h.2.1, fun j hj => by rw [h2 j (Nat.lt_of_lt_of_le hj h.2.1)]; exact h.2.2 j hj⟩
theorem rKl_h : ∀ {o : sK}, rKs s o → (∀ j, j < o.length → w32 (m 116 j) = w32 (s 116 (64 + j)) ∧ w32 (m 117 j) = w32 (s 117 (64 + j))) → rKl m o
  | [], _, _ => trivial
  | q :: o, h, hh => by
    have e := hh o.length (Nat.lt_succ_self _)
    exact ⟨by rw [e.1, e.2]; exact h.1, rKl_h h.2 (fun j hj => hh j (Nat.lt_succ_of_lt hj))⟩
/-- the upper halves are copied to the lower ones -/
theorem rDl_h {D : dDc} (h : rDp s D) (hh : ∀ i j n, zhf.getD (i - 97) 0 = n → 97 ≤ i → i ≤ 117 → j < n → w32 (m i j) = w32 (s i (n + j))) : rDl m D := by
  obtain ⟨c1, c2, c3, c4, c5, c6⟩ := h
  have b7 : D.1.length ≤ 3 := by have := c1.1.2.1; rw [List.length_map] at this; exact this
  have b8 : D.2.1.length ≤ 6 := by have := c2.1.2.1; rw [List.length_map] at this; exact this
  have b9 : D.2.2.1.length ≤ 4 := by have := c3.1.2.1; rw [List.length_map] at this; exact this
  have b10 : D.2.2.2.1.length ≤ 3 := by have := c4.1.2.1; rw [List.length_map] at this; exact this
  have h7 : ∀ q, q < 7 → w32 (m 97 q) = w32 (s 97 (7 + q)) := fun q hq => hh 97 q 7 rfl (by decide) (by decide) hq
  obtain ⟨d1, ⟨d2, d3, d4, d5⟩, d6, d7⟩ := c6
  refine ⟨⟨rNl_h c1.1 (h7 0 (by decide)) (fun j hj => hh 98 j 3 rfl (by decide) (by decide) hj), fun j t ht => ?_⟩, ⟨rNl_h c2.1 (h7 1 (by decide)) (fun j hj => hh 101 j 6 rfl (by decide) (by decide) hj), fun j t ht => ?_⟩, ⟨rNl_h c3.1 (h7 2 (by decide)) (fun j hj => hh 108 j 4 rfl (by decide) (by decide) hj), fun j t ht => ?_⟩, ⟨rNl_h c4.1 (h7 3 (by decide)) (fun j hj => hh 112 j 3 rfl (by decide) (by decide) hj), fun j t ht => ?_⟩, ⟨by rw [h7 4 (by decide)]; exact c5.1, by rw [h7 5 (by decide)]; exact c5.2⟩, fun j hj => ?_, ⟨by rw [h7 6 (by decide)]; exact d2, by omega⟩, rKl_h d6 (fun j hj => ⟨hh 116 j 64 rfl (by decide) (by decide) (by omega), hh 117 j 64 rfl (by decide) (by decide) (by omega)⟩)⟩
  · have := get_lt ht
    rw [hh 99 j 3 rfl (by decide) (by decide) (by omega), hh 100 j 3 rfl (by decide) (by decide) (by omega)]
    exact c1.2 j t ht
  · have := get_lt ht
    obtain ⟨e1, e2, e3, e4, e5, e6, e7⟩ := c2.2 j t ht
    exact ⟨by rw [hh 101 j 6 rfl (by decide) (by decide) (by omega)]; exact e1, by rw [hh 102 j 6 rfl (by decide) (by decide) (by omega)]; exact e2, by rw [hh 103 j 6 rfl (by decide) (by decide) (by omega)]; exact e3, by rw [hh 104 j 6 rfl (by decide) (by decide) (by omega)]; exact e4, by rw [hh 105 j 6 rfl (by decide) (by decide) (by omega)]; exact e5, by rw [hh 106 j 6 rfl (by decide) (by decide) (by omega)]; exact e6, by rw [hh 107 j 6 rfl (by decide) (by decide) (by omega)]; exact e7⟩
  · have hj := get_lt ht
    obtain ⟨a1, a2, a3⟩ := c3.2 j t ht
    refine ⟨a1, by rw [hh 109 j 4 rfl (by decide) (by decide) (by omega)]; exact a2, fun p q hq => ?_⟩
    have hp := get_lt hq
    obtain ⟨g1, g2, g3⟩ := a3 p q hq
    refine ⟨g1, by rw [hh 110 (j * 3 + p) 12 rfl (by decide) (by decide) (by omega)]; exact g2, fun i w hw => ?_⟩
    have hi := get_lt hw
    rw [hh 111 ((j * 3 + p) * 8 + i) 96 rfl (by decide) (by decide) (by omega), show 96 + ((j * 3 + p) * 8 + i) = (12 + (j * 3 + p)) * 8 + i by omega]
    exact g3 i w hw
  · have := get_lt ht
    rw [hh 113 j 3 rfl (by decide) (by decide) (by omega)]
    exact c4.2 j t ht
  · rw [hh 114 j 5 rfl (by decide) (by decide) hj, hh 115 j 5 rfl (by decide) (by decide) hj]
    exact d1 j hj
end TC
/-- both hold the same document -/
def LId (m : yMem) : Prop := ∃ D, cDh m D ∧ rDl m D
section TD
variable {b m : yMem}
theorem cNm_w {z mx : Nat} {nm : List Int} (h : cNm b z mx nm) (h1 : w32 (m z 1) = w32 (b z 1)) (h2 : ∀ j, j < mx → w32 (m (z + 1) j) = w32 (b (z + 1) j)) : cNm m z mx nm := ⟨by rw [h1]; exact h.1, h.2.1, fun j hj => by rw [h2 j (Nat.lt_of_lt_of_le hj h.2.1)]; exact h.2.2 j hj⟩
theorem cKh_w : ∀ {o : sK}, cKh b o → (∀ j, j < o.length → w32 (m 23 j) = w32 (b 23 j)) → (∀ j, j < o.length → w32 (m 24 j) = w32 (b 24 j)) → cKh m o
  | [], _, _, _ => trivial
  | t :: o, h, h1, h2 => ⟨by rw [h1 _ (Nat.lt_succ_self _)]; exact h.1, fun q => by rw [h2 _ (Nat.lt_succ_self _)]; exact h.2.1 q, cKh_w h.2.2 (fun j hj => h1 j (Nat.lt_succ_of_lt hj)) (fun j hj => h2 j (Nat.lt_succ_of_lt hj))⟩
theorem cDh_w {D : dDc} (h : cDh b D) (ht : ∀ c j, tkS c j → w32 (m c j) = w32 (b c j)) : cDh m D := by
  obtain ⟨c1, c2, c3, c4, c5, c7⟩ := h
  have b7 : D.1.length ≤ 3 := by have := c1.1.2.1; rw [List.length_map] at this; exact this
  have b8 : D.2.1.length ≤ 6 := by have := c2.1.2.1; rw [List.length_map] at this; exact this
  have b9 : D.2.2.1.length ≤ 4 := by have := c3.1.2.1; rw [List.length_map] at this; exact this
  have b10 : D.2.2.2.1.length ≤ 3 := by have := c4.1.2.1; rw [List.length_map] at this; exact this
  have t1 : ∀ c, c = 3 ∨ c = 5 ∨ c = 7 ∨ c = 9 → w32 (m c 1) = w32 (b c 1) := fun c hc => ht c 1 (tkS_i (Or.inr (Or.inl ⟨hc, rfl⟩)))
  have t2 : ∀ j, 16 ≤ j → j ≤ 18 → w32 (m 2 j) = w32 (b 2 j) := fun j j1 j2 => ht 2 j (tkS_i (Or.inl ⟨rfl, j1, j2⟩))
  refine ⟨⟨cNm_w c1.1 (t1 3 (by decide)) (fun j hj => ht 4 j (tkS_a (by decide) rfl hj)), fun j t hjt => ?_⟩, ⟨cNm_w c2.1 (t1 5 (by decide)) (fun j hj => ht 6 j (tkS_a (by decide) rfl hj)), by rw [t2 16 (by decide) (by decide)]; exact c2.2.1, c2.2.2.1, fun j t hjt => ?_⟩, ⟨cNm_w c3.1 (t1 7 (by decide)) (fun j hj => ht 8 j (tkS_a (by decide) rfl hj)), fun j t hjt => ?_⟩, ⟨cNm_w c4.1 (t1 9 (by decide)) (fun j hj => ht 10 j (tkS_a (by decide) rfl hj)), fun j t hjt => ?_⟩, ⟨by rw [t2 17 (by decide) (by decide)]; exact c5.1, by rw [t2 18 (by decide) (by decide)]; exact c5.2⟩, fun j hj => ?_, ⟨by rw [ht 22 4 (tkS_i (Or.inr (Or.inr (Or.inl ⟨rfl, rfl⟩))))]; exact c7.2.1.1, c7.2.1.2⟩, ?_⟩
  · have := get_lt hjt
    rw [ht 11 j (tkS_a (n := 3) (by decide) rfl (by omega)), ht 12 j (tkS_a (n := 3) (by decide) rfl (by omega))]
    exact c1.2 j t hjt
  · have := get_lt hjt
    rw [ht 13 j (tkS_a (n := 6) (by decide) rfl (by omega)), ht 14 j (tkS_a (n := 6) (by decide) rfl (by omega)), ht 15 j (tkS_a (n := 6) (by decide) rfl (by omega)), ht 16 j (tkS_a (n := 6) (by decide) rfl (by omega)), ht 17 j (tkS_a (n := 6) (by decide) rfl (by omega))]
    exact c2.2.2.2 j t hjt
  · have hj := get_lt hjt
    obtain ⟨a1, a2, a3⟩ := c3.2 j t hjt
    refine ⟨a1, by rw [ht 18 j (tkS_a (n := 4) (by decide) rfl (by omega))]; exact a2, fun p q hq => ?_⟩
    have hp := get_lt hq
    obtain ⟨g1, g2, g3⟩ := a3 p q hq
    refine ⟨g1, by rw [ht 19 _ (tkS_a (by decide) rfl (show j * 3 + p < 12 by omega))]; exact g2, fun i w hw => ?_⟩
    have hi := get_lt hw
    rw [ht 20 _ (tkS_a (by decide) rfl (show (j * 3 + p) * 8 + i < 96 by omega))]
    exact g3 i w hw
  · have := get_lt hjt
    rw [ht 21 j (tkS_a (n := 3) (by decide) rfl (by omega))]
    exact c4.2 j t hjt
  · rw [ht 25 j (tkS_a (by decide) rfl hj), ht 26 j (tkS_a (by decide) rfl hj)]
    exact c7.1 j hj
  · have hl := c7.2.1.2
    exact cKh_w c7.2.2 (fun j hj => ht 23 j (tkS_a (n := 64) (by decide) rfl (by omega))) (fun j hj => ht 24 j (tkS_a (n := 64) (by decide) rfl (by omega)))
/-- the lower halves are alike -/
def lwW (b m : yMem) : Prop := ∀ i j n, zhf.getD (i - 97) 0 = n → 97 ≤ i → i ≤ 117 → j < n → w32 (m i j) = w32 (b i j)
theorem rNl_w {z q mx : Nat} {nm : List Int} (h : rNl b z q mx nm) (h1 : w32 (m 97 q) = w32 (b 97 q)) (h2 : ∀ j, j < mx → w32 (m z j) = w32 (b z j)) : rNl m z q mx nm := ⟨by rw [h1]; exact h.1, h.2.1, fun j hj => by rw [h2 j (Nat.lt_of_lt_of_le hj h.2.1)]; exact h.2.2 j hj⟩
theorem rKl_w : ∀ {o : sK}, rKl b o → (∀ j, j < o.length → w32 (m 116 j) = w32 (b 116 j) ∧ w32 (m 117 j) = w32 (b 117 j)) → rKl m o
  | [], _, _ => trivial
  | q :: o, h, hh => by
    have e := hh o.length (Nat.lt_succ_self _)
    exact ⟨by rw [e.1, e.2]; exact h.1, rKl_w h.2 (fun j hj => hh j (Nat.lt_succ_of_lt hj))⟩
theorem rDl_w {D : dDc} (h : rDl b D) (hh : lwW b m) : rDl m D := by
  obtain ⟨c1, c2, c3, c4, c5, d1, d2, d6⟩ := h
  have b7 : D.1.length ≤ 3 := by have := c1.1.2.1; rw [List.length_map] at this; exact this
  have b8 : D.2.1.length ≤ 6 := by have := c2.1.2.1; rw [List.length_map] at this; exact this
  have b9 : D.2.2.1.length ≤ 4 := by have := c3.1.2.1; rw [List.length_map] at this; exact this
  have b10 : D.2.2.2.1.length ≤ 3 := by have := c4.1.2.1; rw [List.length_map] at this; exact this
  have h7 : ∀ q, q < 7 → w32 (m 97 q) = w32 (b 97 q) := fun q hq => hh 97 q 7 rfl (by decide) (by decide) hq
  refine ⟨⟨rNl_w c1.1 (h7 0 (by decide)) (fun j hj => hh 98 j 3 rfl (by decide) (by decide) hj), fun j t ht => ?_⟩, ⟨rNl_w c2.1 (h7 1 (by decide)) (fun j hj => hh 101 j 6 rfl (by decide) (by decide) hj), fun j t ht => ?_⟩, ⟨rNl_w c3.1 (h7 2 (by decide)) (fun j hj => hh 108 j 4 rfl (by decide) (by decide) hj), fun j t ht => ?_⟩, ⟨rNl_w c4.1 (h7 3 (by decide)) (fun j hj => hh 112 j 3 rfl (by decide) (by decide) hj), fun j t ht => ?_⟩, ⟨by rw [h7 4 (by decide)]; exact c5.1, by rw [h7 5 (by decide)]; exact c5.2⟩, fun j hj => ?_, ⟨by rw [h7 6 (by decide)]; exact d2.1, d2.2⟩, rKl_w d6 (fun j hj => ⟨hh 116 j 64 rfl (by decide) (by decide) (by omega), hh 117 j 64 rfl (by decide) (by decide) (by omega)⟩)⟩
  · have := get_lt ht
    rw [hh 99 j 3 rfl (by decide) (by decide) (by omega), hh 100 j 3 rfl (by decide) (by decide) (by omega)]
    exact c1.2 j t ht
  · have := get_lt ht
    obtain ⟨e1, e2, e3, e4, e5, e6, e7⟩ := c2.2 j t ht
    exact ⟨by rw [hh 101 j 6 rfl (by decide) (by decide) (by omega)]; exact e1, by rw [hh 102 j 6 rfl (by decide) (by decide) (by omega)]; exact e2, by rw [hh 103 j 6 rfl (by decide) (by decide) (by omega)]; exact e3, by rw [hh 104 j 6 rfl (by decide) (by decide) (by omega)]; exact e4, by rw [hh 105 j 6 rfl (by decide) (by decide) (by omega)]; exact e5, by rw [hh 106 j 6 rfl (by decide) (by decide) (by omega)]; exact e6, by rw [hh 107 j 6 rfl (by decide) (by decide) (by omega)]; exact e7⟩
  · have hj := get_lt ht
    obtain ⟨a1, a2, a3⟩ := c3.2 j t ht
    refine ⟨a1, by rw [hh 109 j 4 rfl (by decide) (by decide) (by omega)]; exact a2, fun p q hq => ?_⟩
    have hp := get_lt hq
    obtain ⟨g1, g2, g3⟩ := a3 p q hq
    refine ⟨g1, by rw [hh 110 (j * 3 + p) 12 rfl (by decide) (by decide) (by omega)]; exact g2, fun i w hw => ?_⟩
    have hi := get_lt hw
    rw [hh 111 ((j * 3 + p) * 8 + i) 96 rfl (by decide) (by decide) (by omega)]
    exact g3 i w hw
  · have := get_lt ht
    rw [hh 113 j 3 rfl (by decide) (by decide) (by omega)]
    exact c4.2 j t ht
  · rw [hh 114 j 5 rfl (by decide) (by decide) hj, hh 115 j 5 rfl (by decide) (by decide) hj]
    exact d1 j hj
theorem LId_w (h : LId b) (h1 : ∀ c j, tkS c j → w32 (m c j) = w32 (b c j)) (h2 : lwW b m) : LId m := by
  obtain ⟨D, a, c⟩ := h
  exact ⟨D, cDh_w a h1, rDl_w c h2⟩
theorem tkS_c {c j : Nat} (h : tkS c j) : 2 ≤ c ∧ c ≤ 26 := by
  unfold tkS at h
  omega
end TD
theorem yRl_tc : (List.range 27).all (fun c => (List.range ([0, 0, 0, 0, 3, 0, 6, 0, 4, 0, 3, 3, 3, 6, 6, 6, 6, 6, 4, 12, 96, 3, 0, 64, 64, 5, 5].getD c 0)).all (fun j => yRl c j && yRl (c + 26) j)) = true := by decide +kernel
theorem yRl_tx {c j : Nat} (hc : c < 27) (hj : j < [0, 0, 0, 0, 3, 0, 6, 0, 4, 0, 3, 3, 3, 6, 6, 6, 6, 6, 4, 12, 96, 3, 0, 64, 64, 5, 5].getD c 0) : yRl c j = true ∧ yRl (c + 26) j = true := by
  have := List.all_eq_true.mp (List.all_eq_true.mp yRl_tc c (List.mem_range.mpr hc)) j (List.mem_range.mpr hj)
  simpa using this
theorem yRl_t {c j : Nat} (h : tkS c j) : yRl c j = true ∧ yRl (c + 26) j = true := by
  rcases h with ⟨rfl, h1, h2⟩ | ⟨h1, rfl⟩ | ⟨rfl, rfl⟩ | ⟨rfl, hj⟩ | ⟨rfl, hj⟩ | ⟨rfl, hj⟩ | ⟨rfl, hj⟩ | ⟨rfl, hj⟩ | ⟨rfl, hj⟩ | ⟨rfl, hj⟩ | ⟨rfl, hj⟩ | ⟨rfl, hj⟩ | ⟨rfl, hj⟩ | ⟨rfl, hj⟩ | ⟨rfl, hj⟩ | ⟨rfl, hj⟩ | ⟨rfl, hj⟩ | ⟨rfl, hj⟩ | ⟨rfl, hj⟩ | ⟨rfl, hj⟩ | ⟨rfl, hj⟩ | ⟨rfl, hj⟩
  · have hj : j = 16 ∨ j = 17 ∨ j = 18 := by omega
    rcases hj with rfl | rfl | rfl <;> exact ⟨rfl, rfl⟩
  · rcases h1 with rfl | rfl | rfl | rfl <;> exact ⟨rfl, rfl⟩
  · exact ⟨rfl, rfl⟩
  · exact yRl_tx (by decide) hj
  · exact yRl_tx (by decide) hj
  · exact yRl_tx (by decide) hj
  · exact yRl_tx (by decide) hj
  · exact yRl_tx (by decide) hj
  · exact yRl_tx (by decide) hj
  · exact yRl_tx (by decide) hj
  · exact yRl_tx (by decide) hj
  · exact yRl_tx (by decide) hj
  · exact yRl_tx (by decide) hj
  · exact yRl_tx (by decide) hj
  · exact yRl_tx (by decide) hj
  · exact yRl_tx (by decide) hj
  · exact yRl_tx (by decide) hj
  · exact yRl_tx (by decide) hj
  · exact yRl_tx (by decide) hj
  · exact yRl_tx (by decide) hj
  · exact yRl_tx (by decide) hj
  · exact yRl_tx (by decide) hj
/-- the class's document is as it was -/
def hyS (b m : yMem) : Prop := ∀ c j, tkS c j → w32 (m c j) = w32 (b c j)
theorem hyS_f {b m : yMem} (h : ∀ c j, 2 ≤ c → c ≤ 26 → m c j = b c j) : hyS b m := fun c j ht => by rw [h c j (tkS_c ht).1 (tkS_c ht).2]
def hyw (w : List (Nat × Nat)) : Bool := w.all (fun q => !(Nat.ble 2 q.1 && Nat.ble q.1 26))
theorem hyw_ok {w : List (Nat × Nat)} (h : hyw w = true) {i j : Nat} (h1 : 2 ≤ i) (h2 : i ≤ 26) : amod w i j = false := by
  cases hm : amod w i j with
  | false => rfl
  | true =>
    obtain ⟨q, q1, q2, q3⟩ := amod_ex hm
    have h3 := List.all_eq_true.mp h q q1
    rw [q2, Bool.not_eq_true', Bool.and_eq_false_iff] at h3
    rcases h3 with h3 | h3
    · rw [Nat.ble_eq_true_of_le h1] at h3; cases h3
    · rw [Nat.ble_eq_true_of_le h2] at h3; cases h3
theorem lwW_tr {a b c : yMem} (h1 : lwW a b) (h2 : lwW b c) : lwW a c := fun i j n hn i1 i2 hj => by rw [h2 i j n hn i1 i2 hj, h1 i j n hn i1 i2 hj]
theorem lwW_s {b m : yMem} {c k : Nat} {z : Int} (h : lwW b m) (hv : zhf.getD (c - 97) 0 ≤ k) : lwW b (yset m c k z) := fun i j n hn i1 i2 hj => by
  rw [yset_n2 (fun z => by rw [z.1] at hn; omega)]
  exact h i j n hn i1 i2 hj
theorem zS2 : ∀ i, i < 118 → 97 ≤ i → zis S2 i = true := by decide +kernel
end
section
/-! THE REFERENCE'S text: its answer -/
def tAn (x : sY) (k : Int) : Int := match x with
  | .inl _ => -1
  | .inr _ => k
/-- the FAULT that is kept -/
def tFk (x : sY) : Int × Int := match x with
  | .inl e => ((e.1 : Int), (e.2 : Int))
  | .inr _ => (0, -1)
theorem pTx_s {f : Nat} {x : sY} {D : dDc} {k : Int} (h : ¬ yKd x = 0) : pTx (f + 1) x D k = pTx f (pEnd (pLine x D).1) (pLine x D).2 (if yKd (pLine x D).1 = 4 then k + 1 else k) := by
  show (if yKd x = 0 then (x, D, k) else if yKd (pLine x D).1 = 4 then pTx f (yNx (pLine x D).1) (pLine x D).2 (k + 1) else pTx f (yFl 1 (pLine x D).1) (pLine x D).2 k) = _
  rw [if_neg h]
  unfold pEnd
  by_cases h4 : yKd (pLine x D).1 = 4
  · rw [if_pos h4, if_pos h4, if_pos h4]
  · rw [if_neg h4, if_neg h4, if_neg h4]
theorem pTx_e {f : Nat} {x : sY} {D : dDc} {k : Int} (h : yKd x = 0) : pTx f x D k = (x, D, k) := by
  cases f with
  | zero => rfl
  | succ f =>
    show (if yKd x = 0 then (x, D, k) else _) = _
    rw [if_pos h]
section RR
variable {E : yE} {Q : Option yV → yMem → Prop} {ch : Nat → Int} {n d : Nat} {x : Int} {r2 : Option yV}
theorem rt333 (hE : yEok E) {s : yMem} (hG : aGok s) (hQ : ∀ r (m : yMem), w32 r = w32 (s 95 25) → m 95 33 = s 95 33 → m 95 34 = s 95 34 → (∀ i j n, zhf.getD (i - 97) 0 = n → 97 ≤ i → i ≤ 117 → j < n → m i j = s i (n + j)) → Q (some (0, r)) m) : zG E (d + 1) xm_242 333 [some (1, 95), some (0, x), r2] [] (Hm S2 s) Q := by
  refine zgo_ok (n := 40) hE xmo_242 (cs := zc_242) ?_
  simp only [ynok_30, ynok_31, w32c_0, w32c_1, w32c_2, w32c_3, w32c_4, w32c_5, w32c_6, w32c_7, w32c_8, w32c_9, w32c_10, w32c_11, w32c_12, w32c_13, w32c_14, w32c_m1, w32c_m2, w32c_118, Int.reduceAdd, Int.reduceSub, Int.reduceMul, yput_s, yput_n, znl_n, znl_0, znl_1, znl_4, ysum_n, ysum_0, ysum_1, ysum_4, true_and, and_true, Nat.reduceAdd, Nat.reduceLeDiff, true_implies, eq_self, true_or, or_true, or_false, false_or, not_true_eq_false, not_false_eq_true, false_implies, implies_true, yset_s, yset_o, yset_d, ne_eq, Nat.reduceEqDiff, Int.reduceToNat, Int.reduceEq, Int.reduceLE, Int.reduceLT, Classical.not_not, Nat.reduceLT, ↓zvk_s, ↓zvk_n, ↓s_242_0, ↓s_242_1, ↓s_242_2, ↓s_242_5, ↓s_242_6, ↓s_242_9, ↓s_242_10, ↓s_242_11, ↓s_242_14, ↓s_242_17, ↓s_242_19, ↓s_242_20, ↓s_242_21, ↓s_242_22, ↓s_242_25, ↓s_242_26, ↓s_242_27, ↓s_242_30, ↓s_242_31, ↓s_242_32, ↓s_242_35, ↓s_242_36, ↓s_242_37, ↓s_242_40, ↓s_242_41, ↓s_242_42, ↓s_242_45, ↓s_242_46n, ↓s_242_46i, ↓s_242_46p, ↓g_242_47, ↓k_242_47, ↓s_242_48, ↓s_242_50, ↓s_242_53, ↓s_242_54, ↓s_242_55, ↓s_242_56, ↓s_242_59n, ↓s_242_59i, ↓s_242_59p, ↓s_242_62, ↓s_242_65, ↓s_242_66n, ↓s_242_66i, ↓s_242_66p, ↓g_242_67, ↓k_242_67, ↓s_242_68, ↓s_242_70, ↓s_242_73, ↓s_242_74, ↓s_242_77, ↓s_242_78, ↓s_242_79, ↓s_242_80, ↓s_242_81, ↓s_242_84, ↓s_242_85, ↓s_242_86, ↓s_242_87n, ↓s_242_87i, ↓s_242_87p, ↓s_242_90, ↓g_242_93, ↓k_242_93, ↓s_242_94, ↓s_242_95, ↓s_242_98, ↓s_242_99, ↓s_242_100, ↓s_242_103, ↓s_242_104, ↓s_242_105, ↓s_242_108, ↓s_242_109, ↓s_242_110, ↓s_242_113, ↓s_242_114, ↓g_242_117, ↓k_242_117, ↓s_242_118, ↓s_242_121, ↓s_242_124, ↓s_242_125, ↓s_242_128, ↓s_242_129, ↓s_242_132, ↓s_242_133, ↓s_242_136, ↓g_242_139, ↓k_242_139, ↓s_242_140, ↓s_242_141, ↓s_242_144, ↓s_242_147, ↓s_242_148, ↓s_242_149, ↓s_242_152, ↓s_242_155, ↓s_242_156, ↓s_242_159, ↓s_242_162, ↓s_242_163, ↓g_242_164, ↓k_242_164, ↓s_242_165, ↓s_242_168, ↓s_242_171, ↓s_242_172, ↓s_242_175, ↓s_242_178, ↓s_242_179, ↓s_242_182, ↓s_242_185, ↓s_242_186, ↓s_242_189, ↓s_242_192, ↓s_242_193, ↓s_242_196, ↓s_242_199, ↓s_242_200, ↓s_242_203, ↓s_242_206, ↓s_242_207, ↓s_242_210, ↓s_242_213, ↓s_242_214n, ↓s_242_214i, ↓s_242_214p, ↓g_242_215, ↓k_242_215, ↓s_242_216, ↓s_242_218, ↓s_242_221, ↓s_242_222, ↓s_242_225, ↓s_242_226, ↓s_242_227, ↓s_242_230, ↓s_242_232, ↓s_242_233, ↓s_242_234, ↓s_242_235, ↓s_242_236n, ↓s_242_236i, ↓s_242_236p, ↓s_242_239, ↓g_242_242, ↓k_242_242, ↓s_242_243, ↓s_242_246, ↓s_242_249, ↓s_242_250, ↓s_242_253, ↓s_242_256, ↓s_242_257, ↓s_242_260, ↓s_242_263, ↓s_242_264, ↓s_242_267, ↓s_242_270, ↓s_242_271, ↓s_242_274, ↓s_242_277, ↓s_242_278, ↓s_242_281, ↓s_242_284, ↓s_242_285, ↓s_242_288, ↓s_242_291, ↓s_242_292, ↓s_242_295, ↓s_242_298, ↓s_242_299, ↓s_242_302, ↓s_242_305, ↓s_242_306, ↓s_242_309, ↓s_242_312, ↓s_242_313, ↓s_242_316, ↓s_242_319, ↓s_242_320, ↓s_242_323, ↓s_242_326, ↓s_242_327, ↓s_242_330, ↓g_242_333, ↓k_242_333, ↓s_242_334, ↓s_242_335, ↓s_242_338, ↓s_242_339, ↓s_242_340, ↓s_242_343, ↓s_242_344, ↓s_242_345, ↓s_242_348, ↓s_242_349, ↓s_242_352, ↓s_242_353, ↓s_242_356, zio_95, zar_97, zia_97, zln_97, zit_97, zar_98, zia_98, zln_98, zit_98, zar_99, zia_99, zln_99, zit_99, zar_100, zia_100, zln_100, zit_100, zar_101, zia_101, zln_101, zit_101, zar_102, zia_102, zln_102, zit_102, zar_103, zia_103, zln_103, zit_103, zar_104, zia_104, zln_104, zit_104, zar_105, zia_105, zln_105, zit_105, zar_106, zia_106, zln_106, zit_106, zar_107, zia_107, zln_107, zit_107, zar_108, zia_108, zln_108, zit_108, zar_109, zia_109, zln_109, zit_109, zar_110, zia_110, zln_110, zit_110, zar_111, zia_111, zln_111, zit_111, zar_112, zia_112, zln_112, zit_112, zar_113, zia_113, zln_113, zit_113, zar_114, zia_114, zln_114, zit_114, zar_115, zia_115, zln_115, zit_115, zar_116, zia_116, zln_116, zit_116, zar_117, zia_117, zln_117, zit_117]
  have hG2 : aGok (yset (yset (yset (Hm S2 s) 95 61 0) 95 62 (-1)) 95 49 0) := aGok_set (aGok_set (aGok_set (aGok_Hm hG) (by rw [ag_95_61]; decide)) (by rw [ag_95_62]; decide)) (by rw [ag_95_49]; decide)
  refine abs_begins E hE _ (show 1 ≤ _ by omega) _ rfl _ _ _ ⟨rfl, trivial⟩ hG2 trivial (fun q hq => by cases hq) (fun r m he => ?_)
  obtain ⟨e1, e2, -, e3, e4⟩ := he
  have hr : r = none := by
    cases r with
    | none => rfl
    | some y => exact absurd e1 (fun h => h)
  subst hr
  refine zgk_n hE xmo_242 40 zc_242 ?_
  simp only [ynok_30, ynok_31, w32c_0, w32c_1, w32c_2, w32c_3, w32c_4, w32c_5, w32c_6, w32c_7, w32c_8, w32c_9, w32c_10, w32c_11, w32c_12, w32c_13, w32c_14, w32c_m1, w32c_m2, w32c_118, Int.reduceAdd, Int.reduceSub, Int.reduceMul, yput_s, yput_n, znl_n, znl_0, znl_1, znl_4, ysum_n, ysum_0, ysum_1, ysum_4, true_and, and_true, Nat.reduceAdd, Nat.reduceLeDiff, true_implies, eq_self, true_or, or_true, or_false, false_or, not_true_eq_false, not_false_eq_true, false_implies, implies_true, yset_s, yset_o, yset_d, ne_eq, Nat.reduceEqDiff, Int.reduceToNat, Int.reduceEq, Int.reduceLE, Int.reduceLT, Classical.not_not, Nat.reduceLT, ↓zvk_s, ↓zvk_n, ↓s_242_0, ↓s_242_1, ↓s_242_2, ↓s_242_5, ↓s_242_6, ↓s_242_9, ↓s_242_10, ↓s_242_11, ↓s_242_14, ↓s_242_17, ↓s_242_19, ↓s_242_20, ↓s_242_21, ↓s_242_22, ↓s_242_25, ↓s_242_26, ↓s_242_27, ↓s_242_30, ↓s_242_31, ↓s_242_32, ↓s_242_35, ↓s_242_36, ↓s_242_37, ↓s_242_40, ↓s_242_41, ↓s_242_42, ↓s_242_45, ↓s_242_46n, ↓s_242_46i, ↓s_242_46p, ↓g_242_47, ↓k_242_47, ↓s_242_48, ↓s_242_50, ↓s_242_53, ↓s_242_54, ↓s_242_55, ↓s_242_56, ↓s_242_59n, ↓s_242_59i, ↓s_242_59p, ↓s_242_62, ↓s_242_65, ↓s_242_66n, ↓s_242_66i, ↓s_242_66p, ↓g_242_67, ↓k_242_67, ↓s_242_68, ↓s_242_70, ↓s_242_73, ↓s_242_74, ↓s_242_77, ↓s_242_78, ↓s_242_79, ↓s_242_80, ↓s_242_81, ↓s_242_84, ↓s_242_85, ↓s_242_86, ↓s_242_87n, ↓s_242_87i, ↓s_242_87p, ↓s_242_90, ↓g_242_93, ↓k_242_93, ↓s_242_94, ↓s_242_95, ↓s_242_98, ↓s_242_99, ↓s_242_100, ↓s_242_103, ↓s_242_104, ↓s_242_105, ↓s_242_108, ↓s_242_109, ↓s_242_110, ↓s_242_113, ↓s_242_114, ↓g_242_117, ↓k_242_117, ↓s_242_118, ↓s_242_121, ↓s_242_124, ↓s_242_125, ↓s_242_128, ↓s_242_129, ↓s_242_132, ↓s_242_133, ↓s_242_136, ↓g_242_139, ↓k_242_139, ↓s_242_140, ↓s_242_141, ↓s_242_144, ↓s_242_147, ↓s_242_148, ↓s_242_149, ↓s_242_152, ↓s_242_155, ↓s_242_156, ↓s_242_159, ↓s_242_162, ↓s_242_163, ↓g_242_164, ↓k_242_164, ↓s_242_165, ↓s_242_168, ↓s_242_171, ↓s_242_172, ↓s_242_175, ↓s_242_178, ↓s_242_179, ↓s_242_182, ↓s_242_185, ↓s_242_186, ↓s_242_189, ↓s_242_192, ↓s_242_193, ↓s_242_196, ↓s_242_199, ↓s_242_200, ↓s_242_203, ↓s_242_206, ↓s_242_207, ↓s_242_210, ↓s_242_213, ↓s_242_214n, ↓s_242_214i, ↓s_242_214p, ↓g_242_215, ↓k_242_215, ↓s_242_216, ↓s_242_218, ↓s_242_221, ↓s_242_222, ↓s_242_225, ↓s_242_226, ↓s_242_227, ↓s_242_230, ↓s_242_232, ↓s_242_233, ↓s_242_234, ↓s_242_235, ↓s_242_236n, ↓s_242_236i, ↓s_242_236p, ↓s_242_239, ↓g_242_242, ↓k_242_242, ↓s_242_243, ↓s_242_246, ↓s_242_249, ↓s_242_250, ↓s_242_253, ↓s_242_256, ↓s_242_257, ↓s_242_260, ↓s_242_263, ↓s_242_264, ↓s_242_267, ↓s_242_270, ↓s_242_271, ↓s_242_274, ↓s_242_277, ↓s_242_278, ↓s_242_281, ↓s_242_284, ↓s_242_285, ↓s_242_288, ↓s_242_291, ↓s_242_292, ↓s_242_295, ↓s_242_298, ↓s_242_299, ↓s_242_302, ↓s_242_305, ↓s_242_306, ↓s_242_309, ↓s_242_312, ↓s_242_313, ↓s_242_316, ↓s_242_319, ↓s_242_320, ↓s_242_323, ↓s_242_326, ↓s_242_327, ↓s_242_330, ↓g_242_333, ↓k_242_333, ↓s_242_334, ↓s_242_335, ↓s_242_338, ↓s_242_339, ↓s_242_340, ↓s_242_343, ↓s_242_344, ↓s_242_345, ↓s_242_348, ↓s_242_349, ↓s_242_352, ↓s_242_353, ↓s_242_356, zio_95, zar_97, zia_97, zln_97, zit_97, zar_98, zia_98, zln_98, zit_98, zar_99, zia_99, zln_99, zit_99, zar_100, zia_100, zln_100, zit_100, zar_101, zia_101, zln_101, zit_101, zar_102, zia_102, zln_102, zit_102, zar_103, zia_103, zln_103, zit_103, zar_104, zia_104, zln_104, zit_104, zar_105, zia_105, zln_105, zit_105, zar_106, zia_106, zln_106, zit_106, zar_107, zia_107, zln_107, zit_107, zar_108, zia_108, zln_108, zit_108, zar_109, zia_109, zln_109, zit_109, zar_110, zia_110, zln_110, zit_110, zar_111, zia_111, zln_111, zit_111, zar_112, zia_112, zln_112, zit_112, zar_113, zia_113, zln_113, zit_113, zar_114, zia_114, zln_114, zit_114, zar_115, zia_115, zln_115, zit_115, zar_116, zia_116, zln_116, zit_116, zar_117, zia_117, zln_117, zit_117]
  refine hQ _ m ?_ ?_ ?_ (fun i j n hn h1 h2 hj => ?_)
  · rw [e3 95 25 rfl, yset_d (by decide), yset_d (by decide), yset_d (by decide), Hm_no rfl]
  · rw [e3 95 33 rfl, yset_d (by decide), yset_d (by decide), yset_d (by decide), Hm_no rfl]
  · rw [e3 95 34 rfl, yset_d (by decide), yset_d (by decide), yset_d (by decide), Hm_no rfl]
  · have hm : amod (acW abc_begins) i j = false := by
      cases hm : amod (acW abc_begins) i j with
      | false => rfl
      | true =>
        obtain ⟨q, q1, q2, q3⟩ := amod_ex hm
        have hall : (acW abc_begins).all (fun q => Nat.beq q.1 95 || Nat.ble 118 q.1) = true := by decide +kernel
        have := List.all_eq_true.mp hall q q1
        rw [q2] at this
        simp only [Bool.or_eq_true, Nat.beq_eq, Nat.ble_eq] at this
        omega
    rw [e3 i j hm, yset_o (by omega), yset_o (by omega), yset_o (by omega), Hm_lo (n := n) (zS2 i (by omega) h1) hn hj]
theorem rt139 (hE : yEok E) {s : yMem} (hG : aGok s) {X : sY} {D : dDc} {k : Int} (hT : rTk ch n s X) (hDp : yOk X → rDp s D) (hk : yOk X → w32 (s 95 25) = k) (hQ : ∀ r (m : yMem), w32 r = tAn X k → (w32 (m 95 33), w32 (m 95 34)) = tFk X → ((yOk X → rDl m D) ∧ (¬ yOk X → lwW s m)) → Q (some (0, r)) m) : zG E (d + 1) xm_242 139 [some (1, 95), some (0, x), r2] [] s Q := by
  refine zgo_ok (n := 40) hE xmo_242 (cs := zc_242) ?_
  have hG2 : aGok (yset (yset s 95 33 (s 95 31)) 95 34 (s 95 32)) := aGok_set (aGok_set hG (ag_32 ag_95_33)) (ag_32 ag_95_34)
  cases X with
  | inl e =>
    have hf := rTk_f hT
    simp only [ynok_30, ynok_31, w32c_0, w32c_1, w32c_2, w32c_3, w32c_4, w32c_5, w32c_6, w32c_7, w32c_8, w32c_9, w32c_10, w32c_11, w32c_12, w32c_13, w32c_14, w32c_m1, w32c_m2, w32c_118, Int.reduceAdd, Int.reduceSub, Int.reduceMul, yput_s, yput_n, znl_n, znl_0, znl_1, znl_4, ysum_n, ysum_0, ysum_1, ysum_4, true_and, and_true, Nat.reduceAdd, Nat.reduceLeDiff, true_implies, eq_self, true_or, or_true, or_false, false_or, not_true_eq_false, not_false_eq_true, false_implies, implies_true, yset_s, yset_o, yset_d, ne_eq, Nat.reduceEqDiff, Int.reduceToNat, Int.reduceEq, Int.reduceLE, Int.reduceLT, Classical.not_not, Nat.reduceLT, ↓zvk_s, ↓zvk_n, ↓s_242_0, ↓s_242_1, ↓s_242_2, ↓s_242_5, ↓s_242_6, ↓s_242_9, ↓s_242_10, ↓s_242_11, ↓s_242_14, ↓s_242_17, ↓s_242_19, ↓s_242_20, ↓s_242_21, ↓s_242_22, ↓s_242_25, ↓s_242_26, ↓s_242_27, ↓s_242_30, ↓s_242_31, ↓s_242_32, ↓s_242_35, ↓s_242_36, ↓s_242_37, ↓s_242_40, ↓s_242_41, ↓s_242_42, ↓s_242_45, ↓s_242_46n, ↓s_242_46i, ↓s_242_46p, ↓g_242_47, ↓k_242_47, ↓s_242_48, ↓s_242_50, ↓s_242_53, ↓s_242_54, ↓s_242_55, ↓s_242_56, ↓s_242_59n, ↓s_242_59i, ↓s_242_59p, ↓s_242_62, ↓s_242_65, ↓s_242_66n, ↓s_242_66i, ↓s_242_66p, ↓g_242_67, ↓k_242_67, ↓s_242_68, ↓s_242_70, ↓s_242_73, ↓s_242_74, ↓s_242_77, ↓s_242_78, ↓s_242_79, ↓s_242_80, ↓s_242_81, ↓s_242_84, ↓s_242_85, ↓s_242_86, ↓s_242_87n, ↓s_242_87i, ↓s_242_87p, ↓s_242_90, ↓g_242_93, ↓k_242_93, ↓s_242_94, ↓s_242_95, ↓s_242_98, ↓s_242_99, ↓s_242_100, ↓s_242_103, ↓s_242_104, ↓s_242_105, ↓s_242_108, ↓s_242_109, ↓s_242_110, ↓s_242_113, ↓s_242_114, ↓g_242_117, ↓k_242_117, ↓s_242_118, ↓s_242_121, ↓s_242_124, ↓s_242_125, ↓s_242_128, ↓s_242_129, ↓s_242_132, ↓s_242_133, ↓s_242_136, ↓g_242_139, ↓k_242_139, ↓s_242_140, ↓s_242_141, ↓s_242_144, ↓s_242_147, ↓s_242_148, ↓s_242_149, ↓s_242_152, ↓s_242_155, ↓s_242_156, ↓s_242_159, ↓s_242_162, ↓s_242_163, ↓g_242_164, ↓k_242_164, ↓s_242_165, ↓s_242_168, ↓s_242_171, ↓s_242_172, ↓s_242_175, ↓s_242_178, ↓s_242_179, ↓s_242_182, ↓s_242_185, ↓s_242_186, ↓s_242_189, ↓s_242_192, ↓s_242_193, ↓s_242_196, ↓s_242_199, ↓s_242_200, ↓s_242_203, ↓s_242_206, ↓s_242_207, ↓s_242_210, ↓s_242_213, ↓s_242_214n, ↓s_242_214i, ↓s_242_214p, ↓g_242_215, ↓k_242_215, ↓s_242_216, ↓s_242_218, ↓s_242_221, ↓s_242_222, ↓s_242_225, ↓s_242_226, ↓s_242_227, ↓s_242_230, ↓s_242_232, ↓s_242_233, ↓s_242_234, ↓s_242_235, ↓s_242_236n, ↓s_242_236i, ↓s_242_236p, ↓s_242_239, ↓g_242_242, ↓k_242_242, ↓s_242_243, ↓s_242_246, ↓s_242_249, ↓s_242_250, ↓s_242_253, ↓s_242_256, ↓s_242_257, ↓s_242_260, ↓s_242_263, ↓s_242_264, ↓s_242_267, ↓s_242_270, ↓s_242_271, ↓s_242_274, ↓s_242_277, ↓s_242_278, ↓s_242_281, ↓s_242_284, ↓s_242_285, ↓s_242_288, ↓s_242_291, ↓s_242_292, ↓s_242_295, ↓s_242_298, ↓s_242_299, ↓s_242_302, ↓s_242_305, ↓s_242_306, ↓s_242_309, ↓s_242_312, ↓s_242_313, ↓s_242_316, ↓s_242_319, ↓s_242_320, ↓s_242_323, ↓s_242_326, ↓s_242_327, ↓s_242_330, ↓g_242_333, ↓k_242_333, ↓s_242_334, ↓s_242_335, ↓s_242_338, ↓s_242_339, ↓s_242_340, ↓s_242_343, ↓s_242_344, ↓s_242_345, ↓s_242_348, ↓s_242_349, ↓s_242_352, ↓s_242_353, ↓s_242_356, zio_95, zar_97, zia_97, zln_97, zit_97, zar_98, zia_98, zln_98, zit_98, zar_99, zia_99, zln_99, zit_99, zar_100, zia_100, zln_100, zit_100, zar_101, zia_101, zln_101, zit_101, zar_102, zia_102, zln_102, zit_102, zar_103, zia_103, zln_103, zit_103, zar_104, zia_104, zln_104, zit_104, zar_105, zia_105, zln_105, zit_105, zar_106, zia_106, zln_106, zit_106, zar_107, zia_107, zln_107, zit_107, zar_108, zia_108, zln_108, zit_108, zar_109, zia_109, zln_109, zit_109, zar_110, zia_110, zln_110, zit_110, zar_111, zia_111, zln_111, zit_111, zar_112, zia_112, zln_112, zit_112, zar_113, zia_113, zln_113, zit_113, zar_114, zia_114, zln_114, zit_114, zar_115, zia_115, zln_115, zit_115, zar_116, zia_116, zln_116, zit_116, zar_117, zia_117, zln_117, zit_117, hf]
    refine hQ _ _ w32c_m1 ?_ ⟨fun z => absurd z yOk_in, fun _ i j n _ h1 _ _ => by rw [yset_o (by omega), yset_o (by omega)]⟩
    rw [yset_d (by decide), yset_s, yset_s]
    exact Prod.ext hT.2.2.2.1 hT.2.2.2.2.2
  | inr l =>
    have hf := rTk_0 hT
    simp only [ynok_30, ynok_31, w32c_0, w32c_1, w32c_2, w32c_3, w32c_4, w32c_5, w32c_6, w32c_7, w32c_8, w32c_9, w32c_10, w32c_11, w32c_12, w32c_13, w32c_14, w32c_m1, w32c_m2, w32c_118, Int.reduceAdd, Int.reduceSub, Int.reduceMul, yput_s, yput_n, znl_n, znl_0, znl_1, znl_4, ysum_n, ysum_0, ysum_1, ysum_4, true_and, and_true, Nat.reduceAdd, Nat.reduceLeDiff, true_implies, eq_self, true_or, or_true, or_false, false_or, not_true_eq_false, not_false_eq_true, false_implies, implies_true, yset_s, yset_o, yset_d, ne_eq, Nat.reduceEqDiff, Int.reduceToNat, Int.reduceEq, Int.reduceLE, Int.reduceLT, Classical.not_not, Nat.reduceLT, ↓zvk_s, ↓zvk_n, ↓s_242_0, ↓s_242_1, ↓s_242_2, ↓s_242_5, ↓s_242_6, ↓s_242_9, ↓s_242_10, ↓s_242_11, ↓s_242_14, ↓s_242_17, ↓s_242_19, ↓s_242_20, ↓s_242_21, ↓s_242_22, ↓s_242_25, ↓s_242_26, ↓s_242_27, ↓s_242_30, ↓s_242_31, ↓s_242_32, ↓s_242_35, ↓s_242_36, ↓s_242_37, ↓s_242_40, ↓s_242_41, ↓s_242_42, ↓s_242_45, ↓s_242_46n, ↓s_242_46i, ↓s_242_46p, ↓g_242_47, ↓k_242_47, ↓s_242_48, ↓s_242_50, ↓s_242_53, ↓s_242_54, ↓s_242_55, ↓s_242_56, ↓s_242_59n, ↓s_242_59i, ↓s_242_59p, ↓s_242_62, ↓s_242_65, ↓s_242_66n, ↓s_242_66i, ↓s_242_66p, ↓g_242_67, ↓k_242_67, ↓s_242_68, ↓s_242_70, ↓s_242_73, ↓s_242_74, ↓s_242_77, ↓s_242_78, ↓s_242_79, ↓s_242_80, ↓s_242_81, ↓s_242_84, ↓s_242_85, ↓s_242_86, ↓s_242_87n, ↓s_242_87i, ↓s_242_87p, ↓s_242_90, ↓g_242_93, ↓k_242_93, ↓s_242_94, ↓s_242_95, ↓s_242_98, ↓s_242_99, ↓s_242_100, ↓s_242_103, ↓s_242_104, ↓s_242_105, ↓s_242_108, ↓s_242_109, ↓s_242_110, ↓s_242_113, ↓s_242_114, ↓g_242_117, ↓k_242_117, ↓s_242_118, ↓s_242_121, ↓s_242_124, ↓s_242_125, ↓s_242_128, ↓s_242_129, ↓s_242_132, ↓s_242_133, ↓s_242_136, ↓g_242_139, ↓k_242_139, ↓s_242_140, ↓s_242_141, ↓s_242_144, ↓s_242_147, ↓s_242_148, ↓s_242_149, ↓s_242_152, ↓s_242_155, ↓s_242_156, ↓s_242_159, ↓s_242_162, ↓s_242_163, ↓g_242_164, ↓k_242_164, ↓s_242_165, ↓s_242_168, ↓s_242_171, ↓s_242_172, ↓s_242_175, ↓s_242_178, ↓s_242_179, ↓s_242_182, ↓s_242_185, ↓s_242_186, ↓s_242_189, ↓s_242_192, ↓s_242_193, ↓s_242_196, ↓s_242_199, ↓s_242_200, ↓s_242_203, ↓s_242_206, ↓s_242_207, ↓s_242_210, ↓s_242_213, ↓s_242_214n, ↓s_242_214i, ↓s_242_214p, ↓g_242_215, ↓k_242_215, ↓s_242_216, ↓s_242_218, ↓s_242_221, ↓s_242_222, ↓s_242_225, ↓s_242_226, ↓s_242_227, ↓s_242_230, ↓s_242_232, ↓s_242_233, ↓s_242_234, ↓s_242_235, ↓s_242_236n, ↓s_242_236i, ↓s_242_236p, ↓s_242_239, ↓g_242_242, ↓k_242_242, ↓s_242_243, ↓s_242_246, ↓s_242_249, ↓s_242_250, ↓s_242_253, ↓s_242_256, ↓s_242_257, ↓s_242_260, ↓s_242_263, ↓s_242_264, ↓s_242_267, ↓s_242_270, ↓s_242_271, ↓s_242_274, ↓s_242_277, ↓s_242_278, ↓s_242_281, ↓s_242_284, ↓s_242_285, ↓s_242_288, ↓s_242_291, ↓s_242_292, ↓s_242_295, ↓s_242_298, ↓s_242_299, ↓s_242_302, ↓s_242_305, ↓s_242_306, ↓s_242_309, ↓s_242_312, ↓s_242_313, ↓s_242_316, ↓s_242_319, ↓s_242_320, ↓s_242_323, ↓s_242_326, ↓s_242_327, ↓s_242_330, ↓g_242_333, ↓k_242_333, ↓s_242_334, ↓s_242_335, ↓s_242_338, ↓s_242_339, ↓s_242_340, ↓s_242_343, ↓s_242_344, ↓s_242_345, ↓s_242_348, ↓s_242_349, ↓s_242_352, ↓s_242_353, ↓s_242_356, zio_95, zar_97, zia_97, zln_97, zit_97, zar_98, zia_98, zln_98, zit_98, zar_99, zia_99, zln_99, zit_99, zar_100, zia_100, zln_100, zit_100, zar_101, zia_101, zln_101, zit_101, zar_102, zia_102, zln_102, zit_102, zar_103, zia_103, zln_103, zit_103, zar_104, zia_104, zln_104, zit_104, zar_105, zia_105, zln_105, zit_105, zar_106, zia_106, zln_106, zit_106, zar_107, zia_107, zln_107, zit_107, zar_108, zia_108, zln_108, zit_108, zar_109, zia_109, zln_109, zit_109, zar_110, zia_110, zln_110, zit_110, zar_111, zia_111, zln_111, zit_111, zar_112, zia_112, zln_112, zit_112, zar_113, zia_113, zln_113, zit_113, zar_114, zia_114, zln_114, zit_114, zar_115, zia_115, zln_115, zit_115, zar_116, zia_116, zln_116, zit_116, zar_117, zia_117, zln_117, zit_117, hf]
    refine tx164 hE hG2 (fun r2 => rt333 hE hG2 (fun r m hr h33 h34 hlw => hQ r m ?_ ?_ ⟨fun _ => rDl_h (hDp ⟨l, rfl⟩) (fun i j n hn h1 h2 hj => by rw [hlw i j n hn h1 h2 hj, yset_o (by omega), yset_o (by omega)]), fun z => absurd ⟨l, rfl⟩ z⟩))
    · rw [hr, yset_d (by decide), yset_d (by decide)]
      exact hk ⟨l, rfl⟩
    · rw [h33, h34, yset_d (by decide), yset_s, yset_s]
      obtain ⟨_, _, _, _, e, b2, _⟩ := hT
      exact Prod.ext hf b2.2
/-- the LINES -/
theorem rt117 (hE : yEok E) (hd : 686 ≤ d) {b : yMem} : ∀ (f : Nat) (X : sY) (D : dDc) (k : Int) (s : yMem), ySz X < f → PI s → lwW b s → rTk ch n s X → (yOk X → rDc s D ∧ w32 (s 95 25) = k ∧ 0 ≤ k ∧ k + (ySz X : Int) ≤ 802) → (∀ r (m : yMem), w32 r = tAn (pTx f X D k).1 (pTx f X D k).2.2 → (w32 (m 95 33), w32 (m 95 34)) = tFk (pTx f X D k).1 → ((yOk (pTx f X D k).1 → rDl m (pTx f X D k).2.1) ∧ (¬ yOk (pTx f X D k).1 → lwW b m)) → Q (some (0, r)) m) → zG E (d + 1) xm_242 117 [some (1, 95), some (0, x), r2] [] s Q := by
  intro f
  induction f with
  | zero => intro X D k s h; exact absurd h (Nat.not_lt_zero _)
  | succ f ih =>
    intro X D k s hf hP hLw hT hD hQ
    refine zgo_ok (n := 40) hE xmo_242 (cs := zc_242) ?_
    by_cases h0 : yKd X = 0
    · rw [pTx_e h0] at hQ
      have f0 := rt139 (d := d) (x := x) (r2 := r2) hE hP.1 hT (fun z => (hD z).1.1) (fun z => (hD z).2.1) (fun r m a1 a2 a3 => hQ r m a1 a2 ⟨a3.1, fun z => lwW_tr hLw (a3.2 z)⟩)
      cases X with
      | inl e =>
        have hfl := rTk_f hT
        simp only [ynok_30, ynok_31, w32c_0, w32c_1, w32c_2, w32c_3, w32c_4, w32c_5, w32c_6, w32c_7, w32c_8, w32c_9, w32c_10, w32c_11, w32c_12, w32c_13, w32c_14, w32c_m1, w32c_m2, w32c_118, Int.reduceAdd, Int.reduceSub, Int.reduceMul, yput_s, yput_n, znl_n, znl_0, znl_1, znl_4, ysum_n, ysum_0, ysum_1, ysum_4, true_and, and_true, Nat.reduceAdd, Nat.reduceLeDiff, true_implies, eq_self, true_or, or_true, or_false, false_or, not_true_eq_false, not_false_eq_true, false_implies, implies_true, yset_s, yset_o, yset_d, ne_eq, Nat.reduceEqDiff, Int.reduceToNat, Int.reduceEq, Int.reduceLE, Int.reduceLT, Classical.not_not, Nat.reduceLT, ↓zvk_s, ↓zvk_n, ↓s_242_0, ↓s_242_1, ↓s_242_2, ↓s_242_5, ↓s_242_6, ↓s_242_9, ↓s_242_10, ↓s_242_11, ↓s_242_14, ↓s_242_17, ↓s_242_19, ↓s_242_20, ↓s_242_21, ↓s_242_22, ↓s_242_25, ↓s_242_26, ↓s_242_27, ↓s_242_30, ↓s_242_31, ↓s_242_32, ↓s_242_35, ↓s_242_36, ↓s_242_37, ↓s_242_40, ↓s_242_41, ↓s_242_42, ↓s_242_45, ↓s_242_46n, ↓s_242_46i, ↓s_242_46p, ↓g_242_47, ↓k_242_47, ↓s_242_48, ↓s_242_50, ↓s_242_53, ↓s_242_54, ↓s_242_55, ↓s_242_56, ↓s_242_59n, ↓s_242_59i, ↓s_242_59p, ↓s_242_62, ↓s_242_65, ↓s_242_66n, ↓s_242_66i, ↓s_242_66p, ↓g_242_67, ↓k_242_67, ↓s_242_68, ↓s_242_70, ↓s_242_73, ↓s_242_74, ↓s_242_77, ↓s_242_78, ↓s_242_79, ↓s_242_80, ↓s_242_81, ↓s_242_84, ↓s_242_85, ↓s_242_86, ↓s_242_87n, ↓s_242_87i, ↓s_242_87p, ↓s_242_90, ↓g_242_93, ↓k_242_93, ↓s_242_94, ↓s_242_95, ↓s_242_98, ↓s_242_99, ↓s_242_100, ↓s_242_103, ↓s_242_104, ↓s_242_105, ↓s_242_108, ↓s_242_109, ↓s_242_110, ↓s_242_113, ↓s_242_114, ↓g_242_117, ↓k_242_117, ↓s_242_118, ↓s_242_121, ↓s_242_124, ↓s_242_125, ↓s_242_128, ↓s_242_129, ↓s_242_132, ↓s_242_133, ↓s_242_136, ↓g_242_139, ↓k_242_139, ↓s_242_140, ↓s_242_141, ↓s_242_144, ↓s_242_147, ↓s_242_148, ↓s_242_149, ↓s_242_152, ↓s_242_155, ↓s_242_156, ↓s_242_159, ↓s_242_162, ↓s_242_163, ↓g_242_164, ↓k_242_164, ↓s_242_165, ↓s_242_168, ↓s_242_171, ↓s_242_172, ↓s_242_175, ↓s_242_178, ↓s_242_179, ↓s_242_182, ↓s_242_185, ↓s_242_186, ↓s_242_189, ↓s_242_192, ↓s_242_193, ↓s_242_196, ↓s_242_199, ↓s_242_200, ↓s_242_203, ↓s_242_206, ↓s_242_207, ↓s_242_210, ↓s_242_213, ↓s_242_214n, ↓s_242_214i, ↓s_242_214p, ↓g_242_215, ↓k_242_215, ↓s_242_216, ↓s_242_218, ↓s_242_221, ↓s_242_222, ↓s_242_225, ↓s_242_226, ↓s_242_227, ↓s_242_230, ↓s_242_232, ↓s_242_233, ↓s_242_234, ↓s_242_235, ↓s_242_236n, ↓s_242_236i, ↓s_242_236p, ↓s_242_239, ↓g_242_242, ↓k_242_242, ↓s_242_243, ↓s_242_246, ↓s_242_249, ↓s_242_250, ↓s_242_253, ↓s_242_256, ↓s_242_257, ↓s_242_260, ↓s_242_263, ↓s_242_264, ↓s_242_267, ↓s_242_270, ↓s_242_271, ↓s_242_274, ↓s_242_277, ↓s_242_278, ↓s_242_281, ↓s_242_284, ↓s_242_285, ↓s_242_288, ↓s_242_291, ↓s_242_292, ↓s_242_295, ↓s_242_298, ↓s_242_299, ↓s_242_302, ↓s_242_305, ↓s_242_306, ↓s_242_309, ↓s_242_312, ↓s_242_313, ↓s_242_316, ↓s_242_319, ↓s_242_320, ↓s_242_323, ↓s_242_326, ↓s_242_327, ↓s_242_330, ↓g_242_333, ↓k_242_333, ↓s_242_334, ↓s_242_335, ↓s_242_338, ↓s_242_339, ↓s_242_340, ↓s_242_343, ↓s_242_344, ↓s_242_345, ↓s_242_348, ↓s_242_349, ↓s_242_352, ↓s_242_353, ↓s_242_356, zio_95, zar_97, zia_97, zln_97, zit_97, zar_98, zia_98, zln_98, zit_98, zar_99, zia_99, zln_99, zit_99, zar_100, zia_100, zln_100, zit_100, zar_101, zia_101, zln_101, zit_101, zar_102, zia_102, zln_102, zit_102, zar_103, zia_103, zln_103, zit_103, zar_104, zia_104, zln_104, zit_104, zar_105, zia_105, zln_105, zit_105, zar_106, zia_106, zln_106, zit_106, zar_107, zia_107, zln_107, zit_107, zar_108, zia_108, zln_108, zit_108, zar_109, zia_109, zln_109, zit_109, zar_110, zia_110, zln_110, zit_110, zar_111, zia_111, zln_111, zit_111, zar_112, zia_112, zln_112, zit_112, zar_113, zia_113, zln_113, zit_113, zar_114, zia_114, zln_114, zit_114, zar_115, zia_115, zln_115, zit_115, zar_116, zia_116, zln_116, zit_116, zar_117, zia_117, zln_117, zit_117, hfl]
        exact f0
      | inr l =>
        have hfl := rTk_0 hT
        have q2 : w32 (s 95 29) = 4 := by
          have hR := rTk_rk hT
          have h0 : (sHd l).1 = 0 := h0
          unfold sRk at hR
          omega
        simp only [ynok_30, ynok_31, w32c_0, w32c_1, w32c_2, w32c_3, w32c_4, w32c_5, w32c_6, w32c_7, w32c_8, w32c_9, w32c_10, w32c_11, w32c_12, w32c_13, w32c_14, w32c_m1, w32c_m2, w32c_118, Int.reduceAdd, Int.reduceSub, Int.reduceMul, yput_s, yput_n, znl_n, znl_0, znl_1, znl_4, ysum_n, ysum_0, ysum_1, ysum_4, true_and, and_true, Nat.reduceAdd, Nat.reduceLeDiff, true_implies, eq_self, true_or, or_true, or_false, false_or, not_true_eq_false, not_false_eq_true, false_implies, implies_true, yset_s, yset_o, yset_d, ne_eq, Nat.reduceEqDiff, Int.reduceToNat, Int.reduceEq, Int.reduceLE, Int.reduceLT, Classical.not_not, Nat.reduceLT, ↓zvk_s, ↓zvk_n, ↓s_242_0, ↓s_242_1, ↓s_242_2, ↓s_242_5, ↓s_242_6, ↓s_242_9, ↓s_242_10, ↓s_242_11, ↓s_242_14, ↓s_242_17, ↓s_242_19, ↓s_242_20, ↓s_242_21, ↓s_242_22, ↓s_242_25, ↓s_242_26, ↓s_242_27, ↓s_242_30, ↓s_242_31, ↓s_242_32, ↓s_242_35, ↓s_242_36, ↓s_242_37, ↓s_242_40, ↓s_242_41, ↓s_242_42, ↓s_242_45, ↓s_242_46n, ↓s_242_46i, ↓s_242_46p, ↓g_242_47, ↓k_242_47, ↓s_242_48, ↓s_242_50, ↓s_242_53, ↓s_242_54, ↓s_242_55, ↓s_242_56, ↓s_242_59n, ↓s_242_59i, ↓s_242_59p, ↓s_242_62, ↓s_242_65, ↓s_242_66n, ↓s_242_66i, ↓s_242_66p, ↓g_242_67, ↓k_242_67, ↓s_242_68, ↓s_242_70, ↓s_242_73, ↓s_242_74, ↓s_242_77, ↓s_242_78, ↓s_242_79, ↓s_242_80, ↓s_242_81, ↓s_242_84, ↓s_242_85, ↓s_242_86, ↓s_242_87n, ↓s_242_87i, ↓s_242_87p, ↓s_242_90, ↓g_242_93, ↓k_242_93, ↓s_242_94, ↓s_242_95, ↓s_242_98, ↓s_242_99, ↓s_242_100, ↓s_242_103, ↓s_242_104, ↓s_242_105, ↓s_242_108, ↓s_242_109, ↓s_242_110, ↓s_242_113, ↓s_242_114, ↓g_242_117, ↓k_242_117, ↓s_242_118, ↓s_242_121, ↓s_242_124, ↓s_242_125, ↓s_242_128, ↓s_242_129, ↓s_242_132, ↓s_242_133, ↓s_242_136, ↓g_242_139, ↓k_242_139, ↓s_242_140, ↓s_242_141, ↓s_242_144, ↓s_242_147, ↓s_242_148, ↓s_242_149, ↓s_242_152, ↓s_242_155, ↓s_242_156, ↓s_242_159, ↓s_242_162, ↓s_242_163, ↓g_242_164, ↓k_242_164, ↓s_242_165, ↓s_242_168, ↓s_242_171, ↓s_242_172, ↓s_242_175, ↓s_242_178, ↓s_242_179, ↓s_242_182, ↓s_242_185, ↓s_242_186, ↓s_242_189, ↓s_242_192, ↓s_242_193, ↓s_242_196, ↓s_242_199, ↓s_242_200, ↓s_242_203, ↓s_242_206, ↓s_242_207, ↓s_242_210, ↓s_242_213, ↓s_242_214n, ↓s_242_214i, ↓s_242_214p, ↓g_242_215, ↓k_242_215, ↓s_242_216, ↓s_242_218, ↓s_242_221, ↓s_242_222, ↓s_242_225, ↓s_242_226, ↓s_242_227, ↓s_242_230, ↓s_242_232, ↓s_242_233, ↓s_242_234, ↓s_242_235, ↓s_242_236n, ↓s_242_236i, ↓s_242_236p, ↓s_242_239, ↓g_242_242, ↓k_242_242, ↓s_242_243, ↓s_242_246, ↓s_242_249, ↓s_242_250, ↓s_242_253, ↓s_242_256, ↓s_242_257, ↓s_242_260, ↓s_242_263, ↓s_242_264, ↓s_242_267, ↓s_242_270, ↓s_242_271, ↓s_242_274, ↓s_242_277, ↓s_242_278, ↓s_242_281, ↓s_242_284, ↓s_242_285, ↓s_242_288, ↓s_242_291, ↓s_242_292, ↓s_242_295, ↓s_242_298, ↓s_242_299, ↓s_242_302, ↓s_242_305, ↓s_242_306, ↓s_242_309, ↓s_242_312, ↓s_242_313, ↓s_242_316, ↓s_242_319, ↓s_242_320, ↓s_242_323, ↓s_242_326, ↓s_242_327, ↓s_242_330, ↓g_242_333, ↓k_242_333, ↓s_242_334, ↓s_242_335, ↓s_242_338, ↓s_242_339, ↓s_242_340, ↓s_242_343, ↓s_242_344, ↓s_242_345, ↓s_242_348, ↓s_242_349, ↓s_242_352, ↓s_242_353, ↓s_242_356, zio_95, zar_97, zia_97, zln_97, zit_97, zar_98, zia_98, zln_98, zit_98, zar_99, zia_99, zln_99, zit_99, zar_100, zia_100, zln_100, zit_100, zar_101, zia_101, zln_101, zit_101, zar_102, zia_102, zln_102, zit_102, zar_103, zia_103, zln_103, zit_103, zar_104, zia_104, zln_104, zit_104, zar_105, zia_105, zln_105, zit_105, zar_106, zia_106, zln_106, zit_106, zar_107, zia_107, zln_107, zit_107, zar_108, zia_108, zln_108, zit_108, zar_109, zia_109, zln_109, zit_109, zar_110, zia_110, zln_110, zit_110, zar_111, zia_111, zln_111, zit_111, zar_112, zia_112, zln_112, zit_112, zar_113, zia_113, zln_113, zit_113, zar_114, zia_114, zln_114, zit_114, zar_115, zia_115, zln_115, zit_115, zar_116, zia_116, zln_116, zit_116, zar_117, zia_117, zln_117, zit_117, hfl, q2]
        exact f0
    · obtain ⟨l, rfl⟩ := yOk_kd h0
      obtain ⟨hD1, hD2, hD3, hD4⟩ := hD ⟨l, rfl⟩
      have hfl := rTk_0 hT
      have q2 : ¬ w32 (s 95 29) = 4 := by
        have hR := rTk_rk hT
        have h0 : ¬ (sHd l).1 = 0 := h0
        unfold sRk at hR
        omega
      have hsz := ySz_1 h0
      rw [pTx_s h0] at hQ
      simp only [ynok_30, ynok_31, w32c_0, w32c_1, w32c_2, w32c_3, w32c_4, w32c_5, w32c_6, w32c_7, w32c_8, w32c_9, w32c_10, w32c_11, w32c_12, w32c_13, w32c_14, w32c_m1, w32c_m2, w32c_118, Int.reduceAdd, Int.reduceSub, Int.reduceMul, yput_s, yput_n, znl_n, znl_0, znl_1, znl_4, ysum_n, ysum_0, ysum_1, ysum_4, true_and, and_true, Nat.reduceAdd, Nat.reduceLeDiff, true_implies, eq_self, true_or, or_true, or_false, false_or, not_true_eq_false, not_false_eq_true, false_implies, implies_true, yset_s, yset_o, yset_d, ne_eq, Nat.reduceEqDiff, Int.reduceToNat, Int.reduceEq, Int.reduceLE, Int.reduceLT, Classical.not_not, Nat.reduceLT, ↓zvk_s, ↓zvk_n, ↓s_242_0, ↓s_242_1, ↓s_242_2, ↓s_242_5, ↓s_242_6, ↓s_242_9, ↓s_242_10, ↓s_242_11, ↓s_242_14, ↓s_242_17, ↓s_242_19, ↓s_242_20, ↓s_242_21, ↓s_242_22, ↓s_242_25, ↓s_242_26, ↓s_242_27, ↓s_242_30, ↓s_242_31, ↓s_242_32, ↓s_242_35, ↓s_242_36, ↓s_242_37, ↓s_242_40, ↓s_242_41, ↓s_242_42, ↓s_242_45, ↓s_242_46n, ↓s_242_46i, ↓s_242_46p, ↓g_242_47, ↓k_242_47, ↓s_242_48, ↓s_242_50, ↓s_242_53, ↓s_242_54, ↓s_242_55, ↓s_242_56, ↓s_242_59n, ↓s_242_59i, ↓s_242_59p, ↓s_242_62, ↓s_242_65, ↓s_242_66n, ↓s_242_66i, ↓s_242_66p, ↓g_242_67, ↓k_242_67, ↓s_242_68, ↓s_242_70, ↓s_242_73, ↓s_242_74, ↓s_242_77, ↓s_242_78, ↓s_242_79, ↓s_242_80, ↓s_242_81, ↓s_242_84, ↓s_242_85, ↓s_242_86, ↓s_242_87n, ↓s_242_87i, ↓s_242_87p, ↓s_242_90, ↓g_242_93, ↓k_242_93, ↓s_242_94, ↓s_242_95, ↓s_242_98, ↓s_242_99, ↓s_242_100, ↓s_242_103, ↓s_242_104, ↓s_242_105, ↓s_242_108, ↓s_242_109, ↓s_242_110, ↓s_242_113, ↓s_242_114, ↓g_242_117, ↓k_242_117, ↓s_242_118, ↓s_242_121, ↓s_242_124, ↓s_242_125, ↓s_242_128, ↓s_242_129, ↓s_242_132, ↓s_242_133, ↓s_242_136, ↓g_242_139, ↓k_242_139, ↓s_242_140, ↓s_242_141, ↓s_242_144, ↓s_242_147, ↓s_242_148, ↓s_242_149, ↓s_242_152, ↓s_242_155, ↓s_242_156, ↓s_242_159, ↓s_242_162, ↓s_242_163, ↓g_242_164, ↓k_242_164, ↓s_242_165, ↓s_242_168, ↓s_242_171, ↓s_242_172, ↓s_242_175, ↓s_242_178, ↓s_242_179, ↓s_242_182, ↓s_242_185, ↓s_242_186, ↓s_242_189, ↓s_242_192, ↓s_242_193, ↓s_242_196, ↓s_242_199, ↓s_242_200, ↓s_242_203, ↓s_242_206, ↓s_242_207, ↓s_242_210, ↓s_242_213, ↓s_242_214n, ↓s_242_214i, ↓s_242_214p, ↓g_242_215, ↓k_242_215, ↓s_242_216, ↓s_242_218, ↓s_242_221, ↓s_242_222, ↓s_242_225, ↓s_242_226, ↓s_242_227, ↓s_242_230, ↓s_242_232, ↓s_242_233, ↓s_242_234, ↓s_242_235, ↓s_242_236n, ↓s_242_236i, ↓s_242_236p, ↓s_242_239, ↓g_242_242, ↓k_242_242, ↓s_242_243, ↓s_242_246, ↓s_242_249, ↓s_242_250, ↓s_242_253, ↓s_242_256, ↓s_242_257, ↓s_242_260, ↓s_242_263, ↓s_242_264, ↓s_242_267, ↓s_242_270, ↓s_242_271, ↓s_242_274, ↓s_242_277, ↓s_242_278, ↓s_242_281, ↓s_242_284, ↓s_242_285, ↓s_242_288, ↓s_242_291, ↓s_242_292, ↓s_242_295, ↓s_242_298, ↓s_242_299, ↓s_242_302, ↓s_242_305, ↓s_242_306, ↓s_242_309, ↓s_242_312, ↓s_242_313, ↓s_242_316, ↓s_242_319, ↓s_242_320, ↓s_242_323, ↓s_242_326, ↓s_242_327, ↓s_242_330, ↓g_242_333, ↓k_242_333, ↓s_242_334, ↓s_242_335, ↓s_242_338, ↓s_242_339, ↓s_242_340, ↓s_242_343, ↓s_242_344, ↓s_242_345, ↓s_242_348, ↓s_242_349, ↓s_242_352, ↓s_242_353, ↓s_242_356, zio_95, zar_97, zia_97, zln_97, zit_97, zar_98, zia_98, zln_98, zit_98, zar_99, zia_99, zln_99, zit_99, zar_100, zia_100, zln_100, zit_100, zar_101, zia_101, zln_101, zit_101, zar_102, zia_102, zln_102, zit_102, zar_103, zia_103, zln_103, zit_103, zar_104, zia_104, zln_104, zit_104, zar_105, zia_105, zln_105, zit_105, zar_106, zia_106, zln_106, zit_106, zar_107, zia_107, zln_107, zit_107, zar_108, zia_108, zln_108, zit_108, zar_109, zia_109, zln_109, zit_109, zar_110, zia_110, zln_110, zit_110, zar_111, zia_111, zln_111, zit_111, zar_112, zia_112, zln_112, zit_112, zar_113, zia_113, zln_113, zit_113, zar_114, zia_114, zln_114, zit_114, zar_115, zia_115, zln_115, zit_115, zar_116, zia_116, zln_116, zit_116, zar_117, zia_117, zln_117, zit_117, hfl, q2]
      have C1 : yCon E (d + 1) xm_206 [(1, 95)] s (fun r m => r = none ∧ PI m ∧ (∀ j, m 96 j = s 96 j) ∧ lwW s m) := c_line hE (by omega) hP hfl (fun m hL _ => ⟨rfl, hL.1, fun j => hL.2.1 96 j rfl, fun i j n hn h1 h2 hj => by rw [hL.2.1 i j (lnA_lo (by omega) (Or.inr (Or.inr (by rw [hn]; exact hj))))]⟩)
      have C2 : yCon E (d + 1) xm_206 [(1, 95)] s (fun r m => r = none ∧ rlR s m ∧ rTk ch n m (pEnd (pLine (.inr l) D).1) ∧ (yOk (pEnd (pLine (.inr l) D).1) → rDc m (pLine (.inr l) D).2 ∧ w32 (m 95 25) = w32 (s 95 25) + 1)) := rf_line hE (by omega) hT hD1 (by rw [hD2]; omega) (fun m g1 g2 g3 => ⟨rfl, g1, g2, g3⟩)
      refine yCon_mono (yCon_and C1 C2) (fun r m hm => ?_)
      obtain ⟨⟨rfl, P1, h96, hw1⟩, r', m2, ⟨_, g1, g2, g3⟩, al, _⟩ := hm
      refine zgk_n hE xmo_242 40 zc_242 ?_
      simp only [ynok_30, ynok_31, w32c_0, w32c_1, w32c_2, w32c_3, w32c_4, w32c_5, w32c_6, w32c_7, w32c_8, w32c_9, w32c_10, w32c_11, w32c_12, w32c_13, w32c_14, w32c_m1, w32c_m2, w32c_118, Int.reduceAdd, Int.reduceSub, Int.reduceMul, yput_s, yput_n, znl_n, znl_0, znl_1, znl_4, ysum_n, ysum_0, ysum_1, ysum_4, true_and, and_true, Nat.reduceAdd, Nat.reduceLeDiff, true_implies, eq_self, true_or, or_true, or_false, false_or, not_true_eq_false, not_false_eq_true, false_implies, implies_true, yset_s, yset_o, yset_d, ne_eq, Nat.reduceEqDiff, Int.reduceToNat, Int.reduceEq, Int.reduceLE, Int.reduceLT, Classical.not_not, Nat.reduceLT, ↓zvk_s, ↓zvk_n, ↓s_242_0, ↓s_242_1, ↓s_242_2, ↓s_242_5, ↓s_242_6, ↓s_242_9, ↓s_242_10, ↓s_242_11, ↓s_242_14, ↓s_242_17, ↓s_242_19, ↓s_242_20, ↓s_242_21, ↓s_242_22, ↓s_242_25, ↓s_242_26, ↓s_242_27, ↓s_242_30, ↓s_242_31, ↓s_242_32, ↓s_242_35, ↓s_242_36, ↓s_242_37, ↓s_242_40, ↓s_242_41, ↓s_242_42, ↓s_242_45, ↓s_242_46n, ↓s_242_46i, ↓s_242_46p, ↓g_242_47, ↓k_242_47, ↓s_242_48, ↓s_242_50, ↓s_242_53, ↓s_242_54, ↓s_242_55, ↓s_242_56, ↓s_242_59n, ↓s_242_59i, ↓s_242_59p, ↓s_242_62, ↓s_242_65, ↓s_242_66n, ↓s_242_66i, ↓s_242_66p, ↓g_242_67, ↓k_242_67, ↓s_242_68, ↓s_242_70, ↓s_242_73, ↓s_242_74, ↓s_242_77, ↓s_242_78, ↓s_242_79, ↓s_242_80, ↓s_242_81, ↓s_242_84, ↓s_242_85, ↓s_242_86, ↓s_242_87n, ↓s_242_87i, ↓s_242_87p, ↓s_242_90, ↓g_242_93, ↓k_242_93, ↓s_242_94, ↓s_242_95, ↓s_242_98, ↓s_242_99, ↓s_242_100, ↓s_242_103, ↓s_242_104, ↓s_242_105, ↓s_242_108, ↓s_242_109, ↓s_242_110, ↓s_242_113, ↓s_242_114, ↓g_242_117, ↓k_242_117, ↓s_242_118, ↓s_242_121, ↓s_242_124, ↓s_242_125, ↓s_242_128, ↓s_242_129, ↓s_242_132, ↓s_242_133, ↓s_242_136, ↓g_242_139, ↓k_242_139, ↓s_242_140, ↓s_242_141, ↓s_242_144, ↓s_242_147, ↓s_242_148, ↓s_242_149, ↓s_242_152, ↓s_242_155, ↓s_242_156, ↓s_242_159, ↓s_242_162, ↓s_242_163, ↓g_242_164, ↓k_242_164, ↓s_242_165, ↓s_242_168, ↓s_242_171, ↓s_242_172, ↓s_242_175, ↓s_242_178, ↓s_242_179, ↓s_242_182, ↓s_242_185, ↓s_242_186, ↓s_242_189, ↓s_242_192, ↓s_242_193, ↓s_242_196, ↓s_242_199, ↓s_242_200, ↓s_242_203, ↓s_242_206, ↓s_242_207, ↓s_242_210, ↓s_242_213, ↓s_242_214n, ↓s_242_214i, ↓s_242_214p, ↓g_242_215, ↓k_242_215, ↓s_242_216, ↓s_242_218, ↓s_242_221, ↓s_242_222, ↓s_242_225, ↓s_242_226, ↓s_242_227, ↓s_242_230, ↓s_242_232, ↓s_242_233, ↓s_242_234, ↓s_242_235, ↓s_242_236n, ↓s_242_236i, ↓s_242_236p, ↓s_242_239, ↓g_242_242, ↓k_242_242, ↓s_242_243, ↓s_242_246, ↓s_242_249, ↓s_242_250, ↓s_242_253, ↓s_242_256, ↓s_242_257, ↓s_242_260, ↓s_242_263, ↓s_242_264, ↓s_242_267, ↓s_242_270, ↓s_242_271, ↓s_242_274, ↓s_242_277, ↓s_242_278, ↓s_242_281, ↓s_242_284, ↓s_242_285, ↓s_242_288, ↓s_242_291, ↓s_242_292, ↓s_242_295, ↓s_242_298, ↓s_242_299, ↓s_242_302, ↓s_242_305, ↓s_242_306, ↓s_242_309, ↓s_242_312, ↓s_242_313, ↓s_242_316, ↓s_242_319, ↓s_242_320, ↓s_242_323, ↓s_242_326, ↓s_242_327, ↓s_242_330, ↓g_242_333, ↓k_242_333, ↓s_242_334, ↓s_242_335, ↓s_242_338, ↓s_242_339, ↓s_242_340, ↓s_242_343, ↓s_242_344, ↓s_242_345, ↓s_242_348, ↓s_242_349, ↓s_242_352, ↓s_242_353, ↓s_242_356, zio_95, zar_97, zia_97, zln_97, zit_97, zar_98, zia_98, zln_98, zit_98, zar_99, zia_99, zln_99, zit_99, zar_100, zia_100, zln_100, zit_100, zar_101, zia_101, zln_101, zit_101, zar_102, zia_102, zln_102, zit_102, zar_103, zia_103, zln_103, zit_103, zar_104, zia_104, zln_104, zit_104, zar_105, zia_105, zln_105, zit_105, zar_106, zia_106, zln_106, zit_106, zar_107, zia_107, zln_107, zit_107, zar_108, zia_108, zln_108, zit_108, zar_109, zia_109, zln_109, zit_109, zar_110, zia_110, zln_110, zit_110, zar_111, zia_111, zln_111, zit_111, zar_112, zia_112, zln_112, zit_112, zar_113, zia_113, zln_113, zit_113, zar_114, zia_114, zln_114, zit_114, zar_115, zia_115, zln_115, zit_115, zar_116, zia_116, zln_116, zit_116, zar_117, zia_117, zln_117, zit_117]
      have T1 : rTk ch n m (pEnd (pLine (.inr l) D).1) := rTk_al al (fun j => by rw [h96, g1 96 j (by unfold rlF; omega)]) g2
      refine ih _ _ _ m ?_ P1 (lwW_tr hLw hw1) T1 (fun z => ?_) hQ
      · by_cases h4 : yKd (pLine (.inr l) D).1 = 4
        · have e : pEnd (pLine (.inr l) D).1 = yNx (pLine (.inr l) D).1 := if_pos h4
          rw [e]
          have := ySz_nl (x := (pLine (.inr l) D).1) (by omega)
          have := ySz_line (.inr l) D
          omega
        · have e : pEnd (pLine (.inr l) D).1 = yFl 1 (pLine (.inr l) D).1 := if_neg h4
          rw [e]
          obtain ⟨e2, he2⟩ := yFl_inl 1 (pLine (.inr l) D).1
          rw [he2]
          show 0 < f
          omega
      · obtain ⟨k1, k2⟩ := g3 z
        obtain ⟨z4, _⟩ := pEnd_ok z
        rw [if_pos z4]
        have e : pEnd (pLine (.inr l) D).1 = yNx (pLine (.inr l) D).1 := if_pos z4
        rw [e]
        have := ySz_nl (x := (pLine (.inr l) D).1) (by omega)
        have := ySz_line (.inr l) D
        refine ⟨rDc_al al k1, by rw [al 95 25 rfl, k2, hD2], by omega, by omega⟩
/-- all is made ready -/
theorem rt93 (hE : yEok E) (hd : 686 ≤ d) {b m : yMem} (hLw : lwW b m) (hGm : aGok m) (h26 : w32 (m 95 26) = (n : Int)) (hn8 : n ≤ 800) (h27 : w32 (m 95 27) = 0) (h31 : w32 (m 95 31) = 0) (h32 : w32 (m 95 32) = -1) (hch : ∀ j, w32 (m 96 j) = ch j ∧ 0 ≤ ch j ∧ ch j ≤ 255) (hn : ∀ j : Nat, (j : Int) < 7 → w32 (m 97 (7 + j)) = 0) (hs : ∀ j : Nat, 5 ≤ j → (j : Int) < 10 → w32 (m 114 j) = 0 ∧ w32 (m 115 j) = 0) (hQ : ∀ r (m : yMem) l, sTl ch n l 0 → w32 r = tAn (pTx (l.length + 1) (.inr l) dD0 0).1 (pTx (l.length + 1) (.inr l) dD0 0).2.2 → (w32 (m 95 33), w32 (m 95 34)) = tFk (pTx (l.length + 1) (.inr l) dD0 0).1 → ((yOk (pTx (l.length + 1) (.inr l) dD0 0).1 → rDl m (pTx (l.length + 1) (.inr l) dD0 0).2.1) ∧ (¬ yOk (pTx (l.length + 1) (.inr l) dD0 0).1 → lwW b m)) → Q (some (0, r)) m) : zG E (d + 1) xm_242 93 [some (1, 95), some (0, x), r2] [] m Q := by
  refine zgo_ok (n := 40) hE xmo_242 (cs := zc_242) ?_
  simp only [ynok_30, ynok_31, w32c_0, w32c_1, w32c_2, w32c_3, w32c_4, w32c_5, w32c_6, w32c_7, w32c_8, w32c_9, w32c_10, w32c_11, w32c_12, w32c_13, w32c_14, w32c_m1, w32c_m2, w32c_118, Int.reduceAdd, Int.reduceSub, Int.reduceMul, yput_s, yput_n, znl_n, znl_0, znl_1, znl_4, ysum_n, ysum_0, ysum_1, ysum_4, true_and, and_true, Nat.reduceAdd, Nat.reduceLeDiff, true_implies, eq_self, true_or, or_true, or_false, false_or, not_true_eq_false, not_false_eq_true, false_implies, implies_true, yset_s, yset_o, yset_d, ne_eq, Nat.reduceEqDiff, Int.reduceToNat, Int.reduceEq, Int.reduceLE, Int.reduceLT, Classical.not_not, Nat.reduceLT, ↓zvk_s, ↓zvk_n, ↓s_242_0, ↓s_242_1, ↓s_242_2, ↓s_242_5, ↓s_242_6, ↓s_242_9, ↓s_242_10, ↓s_242_11, ↓s_242_14, ↓s_242_17, ↓s_242_19, ↓s_242_20, ↓s_242_21, ↓s_242_22, ↓s_242_25, ↓s_242_26, ↓s_242_27, ↓s_242_30, ↓s_242_31, ↓s_242_32, ↓s_242_35, ↓s_242_36, ↓s_242_37, ↓s_242_40, ↓s_242_41, ↓s_242_42, ↓s_242_45, ↓s_242_46n, ↓s_242_46i, ↓s_242_46p, ↓g_242_47, ↓k_242_47, ↓s_242_48, ↓s_242_50, ↓s_242_53, ↓s_242_54, ↓s_242_55, ↓s_242_56, ↓s_242_59n, ↓s_242_59i, ↓s_242_59p, ↓s_242_62, ↓s_242_65, ↓s_242_66n, ↓s_242_66i, ↓s_242_66p, ↓g_242_67, ↓k_242_67, ↓s_242_68, ↓s_242_70, ↓s_242_73, ↓s_242_74, ↓s_242_77, ↓s_242_78, ↓s_242_79, ↓s_242_80, ↓s_242_81, ↓s_242_84, ↓s_242_85, ↓s_242_86, ↓s_242_87n, ↓s_242_87i, ↓s_242_87p, ↓s_242_90, ↓g_242_93, ↓k_242_93, ↓s_242_94, ↓s_242_95, ↓s_242_98, ↓s_242_99, ↓s_242_100, ↓s_242_103, ↓s_242_104, ↓s_242_105, ↓s_242_108, ↓s_242_109, ↓s_242_110, ↓s_242_113, ↓s_242_114, ↓g_242_117, ↓k_242_117, ↓s_242_118, ↓s_242_121, ↓s_242_124, ↓s_242_125, ↓s_242_128, ↓s_242_129, ↓s_242_132, ↓s_242_133, ↓s_242_136, ↓g_242_139, ↓k_242_139, ↓s_242_140, ↓s_242_141, ↓s_242_144, ↓s_242_147, ↓s_242_148, ↓s_242_149, ↓s_242_152, ↓s_242_155, ↓s_242_156, ↓s_242_159, ↓s_242_162, ↓s_242_163, ↓g_242_164, ↓k_242_164, ↓s_242_165, ↓s_242_168, ↓s_242_171, ↓s_242_172, ↓s_242_175, ↓s_242_178, ↓s_242_179, ↓s_242_182, ↓s_242_185, ↓s_242_186, ↓s_242_189, ↓s_242_192, ↓s_242_193, ↓s_242_196, ↓s_242_199, ↓s_242_200, ↓s_242_203, ↓s_242_206, ↓s_242_207, ↓s_242_210, ↓s_242_213, ↓s_242_214n, ↓s_242_214i, ↓s_242_214p, ↓g_242_215, ↓k_242_215, ↓s_242_216, ↓s_242_218, ↓s_242_221, ↓s_242_222, ↓s_242_225, ↓s_242_226, ↓s_242_227, ↓s_242_230, ↓s_242_232, ↓s_242_233, ↓s_242_234, ↓s_242_235, ↓s_242_236n, ↓s_242_236i, ↓s_242_236p, ↓s_242_239, ↓g_242_242, ↓k_242_242, ↓s_242_243, ↓s_242_246, ↓s_242_249, ↓s_242_250, ↓s_242_253, ↓s_242_256, ↓s_242_257, ↓s_242_260, ↓s_242_263, ↓s_242_264, ↓s_242_267, ↓s_242_270, ↓s_242_271, ↓s_242_274, ↓s_242_277, ↓s_242_278, ↓s_242_281, ↓s_242_284, ↓s_242_285, ↓s_242_288, ↓s_242_291, ↓s_242_292, ↓s_242_295, ↓s_242_298, ↓s_242_299, ↓s_242_302, ↓s_242_305, ↓s_242_306, ↓s_242_309, ↓s_242_312, ↓s_242_313, ↓s_242_316, ↓s_242_319, ↓s_242_320, ↓s_242_323, ↓s_242_326, ↓s_242_327, ↓s_242_330, ↓g_242_333, ↓k_242_333, ↓s_242_334, ↓s_242_335, ↓s_242_338, ↓s_242_339, ↓s_242_340, ↓s_242_343, ↓s_242_344, ↓s_242_345, ↓s_242_348, ↓s_242_349, ↓s_242_352, ↓s_242_353, ↓s_242_356, zio_95, zar_97, zia_97, zln_97, zit_97, zar_98, zia_98, zln_98, zit_98, zar_99, zia_99, zln_99, zit_99, zar_100, zia_100, zln_100, zit_100, zar_101, zia_101, zln_101, zit_101, zar_102, zia_102, zln_102, zit_102, zar_103, zia_103, zln_103, zit_103, zar_104, zia_104, zln_104, zit_104, zar_105, zia_105, zln_105, zit_105, zar_106, zia_106, zln_106, zit_106, zar_107, zia_107, zln_107, zit_107, zar_108, zia_108, zln_108, zit_108, zar_109, zia_109, zln_109, zit_109, zar_110, zia_110, zln_110, zit_110, zar_111, zia_111, zln_111, zit_111, zar_112, zia_112, zln_112, zit_112, zar_113, zia_113, zln_113, zit_113, zar_114, zia_114, zln_114, zit_114, zar_115, zia_115, zln_115, zit_115, zar_116, zia_116, zln_116, zit_116, zar_117, zia_117, zln_117, zit_117]
  have e9 : ∀ i j, i ≠ 95 → yset (yset (yset (yset m 95 24 0) 95 25 0) 95 35 0) 95 36 0 i j = m i j := fun i j h => by rw [yset_o h, yset_o h, yset_o h, yset_o h]
  have e5 : ∀ j, j ≠ 24 → j ≠ 25 → j ≠ 35 → j ≠ 36 → yset (yset (yset (yset m 95 24 0) 95 25 0) 95 35 0) 95 36 0 95 j = m 95 j := fun j h1 h2 h3 h4 => by rw [yset_d h4, yset_d h3, yset_d h2, yset_d h1]
  have hG1 : aGok (yset (yset (yset (yset m 95 24 0) 95 25 0) 95 35 0) 95 36 0) := aGok_set (aGok_set (aGok_set (aGok_set hGm (ag_32 ag_95_24)) (ag_32 ag_95_25)) (by rw [ag_95_35]; decide)) (by rw [ag_95_36]; decide)
  have v24 : yset (yset (yset (yset m 95 24 0) 95 25 0) 95 35 0) 95 36 0 95 24 = 0 := by rw [yset_d (by decide), yset_d (by decide), yset_d (by decide), yset_s]
  have v25 : yset (yset (yset (yset m 95 24 0) 95 25 0) 95 35 0) 95 36 0 95 25 = 0 := by rw [yset_d (by decide), yset_d (by decide), yset_s]
  have v35 : yset (yset (yset (yset m 95 24 0) 95 25 0) 95 35 0) 95 36 0 95 35 = 0 := by rw [yset_d (by decide), yset_s]
  have v36 : yset (yset (yset (yset m 95 24 0) 95 25 0) 95 35 0) 95 36 0 95 36 = 0 := yset_s
  have n13 := hn 6 (by decide)
  have m26 : w32 (yset (yset (yset (yset m 95 24 0) 95 25 0) 95 35 0) 95 36 0 95 26) = (n : Int) := by rw [e5 26 (by decide) (by decide) (by decide) (by decide)]; exact h26
  have m27 : w32 (yset (yset (yset (yset m 95 24 0) 95 25 0) 95 35 0) 95 36 0 95 27) = 0 := by rw [e5 27 (by decide) (by decide) (by decide) (by decide)]; exact h27
  have m31 : w32 (yset (yset (yset (yset m 95 24 0) 95 25 0) 95 35 0) 95 36 0 95 31) = 0 := by rw [e5 31 (by decide) (by decide) (by decide) (by decide)]; exact h31
  have m32 : w32 (yset (yset (yset (yset m 95 24 0) 95 25 0) 95 35 0) 95 36 0 95 32) = -1 := by rw [e5 32 (by decide) (by decide) (by decide) (by decide)]; exact h32
  have lwM : lwW b (yset (yset (yset (yset m 95 24 0) 95 25 0) 95 35 0) 95 36 0) := fun i j n hn h1 h2 hj => by rw [e9 i j (by omega)]; exact hLw i j n hn h1 h2 hj
  have m13 : w32 (yset (yset (yset (yset m 95 24 0) 95 25 0) 95 35 0) 95 36 0 97 13) ≤ w32 (yset (yset (yset (yset m 95 24 0) 95 25 0) 95 35 0) 95 36 0 95 36) := by rw [e9 97 13 (by decide), v36, show w32 (m 97 13) = 0 from n13]; decide
  have hnn : ∀ j : Nat, (j : Int) < 7 → w32 (yset (yset (yset (yset m 95 24 0) 95 25 0) 95 35 0) 95 36 0 97 (7 + j)) = 0 := fun j hj => by rw [e9 97 _ (by decide)]; exact hn j hj
  have hss : ∀ j : Nat, 5 ≤ j → (j : Int) < 10 → w32 (yset (yset (yset (yset m 95 24 0) 95 25 0) 95 35 0) 95 36 0 114 j) = 0 ∧ w32 (yset (yset (yset (yset m 95 24 0) 95 25 0) 95 35 0) 95 36 0 115 j) = 0 := fun j j1 j2 => by rw [e9 114 _ (by decide), e9 115 _ (by decide)]; exact hs j j1 j2
  have hcc : ∀ j, w32 (yset (yset (yset (yset m 95 24 0) 95 25 0) 95 35 0) 95 36 0 96 j) = ch j ∧ 0 ≤ ch j ∧ ch j ≤ 255 := fun j => by rw [e9 96 j (by decide)]; exact hch j
  revert hG1 v24 v25 v35 v36 m26 m27 m31 m32 lwM m13 hnn hss hcc
  generalize yset (yset (yset (yset m 95 24 0) 95 25 0) 95 35 0) 95 36 0 = M
  intro hG1 v24 v25 v35 v36 m26 m27 m31 m32 lwM m13 hnn hss hcc
  have b8 : ∀ j, 0 ≤ w32 (M 96 j) ∧ w32 (M 96 j) ≤ 255 := fun j => by rw [(hcc j).1]; exact (hcc j).2
  obtain ⟨l, hl, hlen⟩ := sTl_ex ch n n 0 rfl (Nat.zero_le n)
  have C1 : yCon E (d + 1) xm_244 [(1, 95)] M (fun r m => r = none ∧ TkQ M m) := c_token hE (by omega) (by omega) (by omega) (by omega) b8 (fun m hK => ⟨rfl, hK⟩)
  have C2 : yCon E (d + 1) xm_244 [(1, 95)] M (fun r m => r = none ∧ aFrm tkF M m ∧ rTk ch n m (.inr l)) := by
    refine f_token hE (by omega) (by omega) (by omega) (by omega) b8 (fun m k p v e F ht h7 h8 h9 => ?_)
    have ec : rsz M = n := by show (w32 (M 95 26)).toNat = n; rw [m26]; exact Int.toNat_natCast _
    have ea : rat M = 0 := by show (w32 (M 95 27)).toNat = 0; rw [m27]; rfl
    have eh : rch M = ch := funext fun j => (hcc j).1
    rw [ec, ea, eh] at ht
    obtain ⟨t1, t2⟩ := sTl_cu hl ht
    exact ⟨rfl, F, by rw [F 95 26 rfl]; exact m26, hn8, fun j => by rw [F 96 j rfl]; exact hcc j, by rw [F 95 31 rfl]; exact m31, e, ⟨h7, by rw [F 95 32 rfl]; exact m32⟩, t2, by rw [t1]; exact h8, by rw [t1]; exact h9⟩
  refine yCon_mono (yCon_and C1 C2) (fun r s hm => ?_)
  obtain ⟨⟨rfl, hK⟩, r', s2, ⟨_, F2, T2⟩, al, _⟩ := hm
  have hP : PI s := TkQ_PI hG1 m13 hK
  have hF := hK.1
  refine zgk_n hE xmo_242 40 zc_242 ?_
  simp only [ynok_30, ynok_31, w32c_0, w32c_1, w32c_2, w32c_3, w32c_4, w32c_5, w32c_6, w32c_7, w32c_8, w32c_9, w32c_10, w32c_11, w32c_12, w32c_13, w32c_14, w32c_m1, w32c_m2, w32c_118, Int.reduceAdd, Int.reduceSub, Int.reduceMul, yput_s, yput_n, znl_n, znl_0, znl_1, znl_4, ysum_n, ysum_0, ysum_1, ysum_4, true_and, and_true, Nat.reduceAdd, Nat.reduceLeDiff, true_implies, eq_self, true_or, or_true, or_false, false_or, not_true_eq_false, not_false_eq_true, false_implies, implies_true, yset_s, yset_o, yset_d, ne_eq, Nat.reduceEqDiff, Int.reduceToNat, Int.reduceEq, Int.reduceLE, Int.reduceLT, Classical.not_not, Nat.reduceLT, ↓zvk_s, ↓zvk_n, ↓s_242_0, ↓s_242_1, ↓s_242_2, ↓s_242_5, ↓s_242_6, ↓s_242_9, ↓s_242_10, ↓s_242_11, ↓s_242_14, ↓s_242_17, ↓s_242_19, ↓s_242_20, ↓s_242_21, ↓s_242_22, ↓s_242_25, ↓s_242_26, ↓s_242_27, ↓s_242_30, ↓s_242_31, ↓s_242_32, ↓s_242_35, ↓s_242_36, ↓s_242_37, ↓s_242_40, ↓s_242_41, ↓s_242_42, ↓s_242_45, ↓s_242_46n, ↓s_242_46i, ↓s_242_46p, ↓g_242_47, ↓k_242_47, ↓s_242_48, ↓s_242_50, ↓s_242_53, ↓s_242_54, ↓s_242_55, ↓s_242_56, ↓s_242_59n, ↓s_242_59i, ↓s_242_59p, ↓s_242_62, ↓s_242_65, ↓s_242_66n, ↓s_242_66i, ↓s_242_66p, ↓g_242_67, ↓k_242_67, ↓s_242_68, ↓s_242_70, ↓s_242_73, ↓s_242_74, ↓s_242_77, ↓s_242_78, ↓s_242_79, ↓s_242_80, ↓s_242_81, ↓s_242_84, ↓s_242_85, ↓s_242_86, ↓s_242_87n, ↓s_242_87i, ↓s_242_87p, ↓s_242_90, ↓g_242_93, ↓k_242_93, ↓s_242_94, ↓s_242_95, ↓s_242_98, ↓s_242_99, ↓s_242_100, ↓s_242_103, ↓s_242_104, ↓s_242_105, ↓s_242_108, ↓s_242_109, ↓s_242_110, ↓s_242_113, ↓s_242_114, ↓g_242_117, ↓k_242_117, ↓s_242_118, ↓s_242_121, ↓s_242_124, ↓s_242_125, ↓s_242_128, ↓s_242_129, ↓s_242_132, ↓s_242_133, ↓s_242_136, ↓g_242_139, ↓k_242_139, ↓s_242_140, ↓s_242_141, ↓s_242_144, ↓s_242_147, ↓s_242_148, ↓s_242_149, ↓s_242_152, ↓s_242_155, ↓s_242_156, ↓s_242_159, ↓s_242_162, ↓s_242_163, ↓g_242_164, ↓k_242_164, ↓s_242_165, ↓s_242_168, ↓s_242_171, ↓s_242_172, ↓s_242_175, ↓s_242_178, ↓s_242_179, ↓s_242_182, ↓s_242_185, ↓s_242_186, ↓s_242_189, ↓s_242_192, ↓s_242_193, ↓s_242_196, ↓s_242_199, ↓s_242_200, ↓s_242_203, ↓s_242_206, ↓s_242_207, ↓s_242_210, ↓s_242_213, ↓s_242_214n, ↓s_242_214i, ↓s_242_214p, ↓g_242_215, ↓k_242_215, ↓s_242_216, ↓s_242_218, ↓s_242_221, ↓s_242_222, ↓s_242_225, ↓s_242_226, ↓s_242_227, ↓s_242_230, ↓s_242_232, ↓s_242_233, ↓s_242_234, ↓s_242_235, ↓s_242_236n, ↓s_242_236i, ↓s_242_236p, ↓s_242_239, ↓g_242_242, ↓k_242_242, ↓s_242_243, ↓s_242_246, ↓s_242_249, ↓s_242_250, ↓s_242_253, ↓s_242_256, ↓s_242_257, ↓s_242_260, ↓s_242_263, ↓s_242_264, ↓s_242_267, ↓s_242_270, ↓s_242_271, ↓s_242_274, ↓s_242_277, ↓s_242_278, ↓s_242_281, ↓s_242_284, ↓s_242_285, ↓s_242_288, ↓s_242_291, ↓s_242_292, ↓s_242_295, ↓s_242_298, ↓s_242_299, ↓s_242_302, ↓s_242_305, ↓s_242_306, ↓s_242_309, ↓s_242_312, ↓s_242_313, ↓s_242_316, ↓s_242_319, ↓s_242_320, ↓s_242_323, ↓s_242_326, ↓s_242_327, ↓s_242_330, ↓g_242_333, ↓k_242_333, ↓s_242_334, ↓s_242_335, ↓s_242_338, ↓s_242_339, ↓s_242_340, ↓s_242_343, ↓s_242_344, ↓s_242_345, ↓s_242_348, ↓s_242_349, ↓s_242_352, ↓s_242_353, ↓s_242_356, zio_95, zar_97, zia_97, zln_97, zit_97, zar_98, zia_98, zln_98, zit_98, zar_99, zia_99, zln_99, zit_99, zar_100, zia_100, zln_100, zit_100, zar_101, zia_101, zln_101, zit_101, zar_102, zia_102, zln_102, zit_102, zar_103, zia_103, zln_103, zit_103, zar_104, zia_104, zln_104, zit_104, zar_105, zia_105, zln_105, zit_105, zar_106, zia_106, zln_106, zit_106, zar_107, zia_107, zln_107, zit_107, zar_108, zia_108, zln_108, zit_108, zar_109, zia_109, zln_109, zit_109, zar_110, zia_110, zln_110, zit_110, zar_111, zia_111, zln_111, zit_111, zar_112, zia_112, zln_112, zit_112, zar_113, zia_113, zln_113, zit_113, zar_114, zia_114, zln_114, zit_114, zar_115, zia_115, zln_115, zit_115, zar_116, zia_116, zln_116, zit_116, zar_117, zia_117, zln_117, zit_117]
  have T1 : rTk ch n s (.inr l) := rTk_al al (fun j => by rw [hF 96 j rfl, F2 96 j rfl]) T2
  refine rt117 (b := b) hE hd (l.length + 1) (.inr l) dD0 0 s (Nat.lt_succ_self _) hP (lwW_tr lwM (fun i j n _ h1 _ _ => by rw [hF i j (amod_sub (w := tkF) (w' := rnF) (by decide) (amod_r5 (by omega)))])) T1 (fun _ => ⟨⟨⟨⟨⟨?_, Nat.zero_le _, fun j hj => absurd hj (Nat.not_lt_zero _)⟩, fun j t ht => (by cases ht)⟩, ⟨⟨?_, Nat.zero_le _, fun j hj => absurd hj (Nat.not_lt_zero _)⟩, fun j t ht => (by cases ht)⟩, ⟨⟨?_, Nat.zero_le _, fun j hj => absurd hj (Nat.not_lt_zero _)⟩, fun j t ht => (by cases ht)⟩, ⟨⟨?_, Nat.zero_le _, fun j hj => absurd hj (Nat.not_lt_zero _)⟩, fun j t ht => (by cases ht)⟩, ⟨?_, ?_⟩, fun j hj => ⟨?_, ?_⟩, ⟨?_, ?_, Nat.le_refl 0, Nat.zero_le _⟩, trivial, ?_⟩, 0, ?_, by decide, rfl, rfl, rfl, rfl⟩, ?_, Int.le_refl 0, ?_⟩) (fun r m hr hf hd => hQ r m l hl hr hf hd)
  · rw [hF 97 _ rfl]; exact hnn 0 (by decide)
  · rw [hF 97 _ rfl]; exact hnn 1 (by decide)
  · rw [hF 97 _ rfl]; exact hnn 2 (by decide)
  · rw [hF 97 _ rfl]; exact hnn 3 (by decide)
  · rw [hF 97 _ rfl]; exact hnn 4 (by decide)
  · rw [hF 97 _ rfl]; exact hnn 5 (by decide)
  · rw [hF 114 _ rfl]; exact (hss (5 + j) (by omega) (by omega)).1
  · rw [hF 115 _ rfl]; exact (hss (5 + j) (by omega) (by omega)).2
  · rw [hF 97 _ rfl]; exact hnn 6 (by decide)
  · rw [hF 95 36 rfl, v36]; exact w32c_0
  · rw [hF 95 35 rfl, v35]; exact w32c_0
  · rw [hF 95 24 rfl, v24]; exact w32c_0
  · rw [hF 95 25 rfl, v25]; exact w32c_0
  · show (0 : Int) + ((l.length : Nat) : Int) ≤ 802
    omega
theorem rt67 (hE : yEok E) (hd : 686 ≤ d) {b : yMem} (hn8 : n ≤ 800) (hQ : ∀ r (m : yMem) l, sTl ch n l 0 → w32 r = tAn (pTx (l.length + 1) (.inr l) dD0 0).1 (pTx (l.length + 1) (.inr l) dD0 0).2.2 → (w32 (m 95 33), w32 (m 95 34)) = tFk (pTx (l.length + 1) (.inr l) dD0 0).1 → ((yOk (pTx (l.length + 1) (.inr l) dD0 0).1 → rDl m (pTx (l.length + 1) (.inr l) dD0 0).2.1) ∧ (¬ yOk (pTx (l.length + 1) (.inr l) dD0 0).1 → lwW b m)) → Q (some (0, r)) m) : ∀ (c : Nat) (k : Int) (m : yMem), (10 - w32 k).toNat = c → 5 ≤ w32 k → w32 k ≤ 10 → lwW b m → aGok m → w32 (m 95 26) = (n : Int) → w32 (m 95 27) = 0 → w32 (m 95 31) = 0 → w32 (m 95 32) = -1 → (∀ j, w32 (m 96 j) = ch j ∧ 0 ≤ ch j ∧ ch j ≤ 255) → (∀ j : Nat, (j : Int) < 7 → w32 (m 97 (7 + j)) = 0) → (∀ j : Nat, 5 ≤ j → (j : Int) < w32 k → w32 (m 114 j) = 0 ∧ w32 (m 115 j) = 0) → zG E (d + 1) xm_242 67 [some (1, 95), some (0, x), some (0, k)] [] m Q := by
  intro c
  induction c with
  | zero =>
    intro k m hc h5 h10 hLw hGm h26 h27 h31 h32 hch hn hs
    refine zgo_ok (n := 40) hE xmo_242 (cs := zc_242) ?_
    simp only [ynok_30, ynok_31, w32c_0, w32c_1, w32c_2, w32c_3, w32c_4, w32c_5, w32c_6, w32c_7, w32c_8, w32c_9, w32c_10, w32c_11, w32c_12, w32c_13, w32c_14, w32c_m1, w32c_m2, w32c_118, Int.reduceAdd, Int.reduceSub, Int.reduceMul, yput_s, yput_n, znl_n, znl_0, znl_1, znl_4, ysum_n, ysum_0, ysum_1, ysum_4, true_and, and_true, Nat.reduceAdd, Nat.reduceLeDiff, true_implies, eq_self, true_or, or_true, or_false, false_or, not_true_eq_false, not_false_eq_true, false_implies, implies_true, yset_s, yset_o, yset_d, ne_eq, Nat.reduceEqDiff, Int.reduceToNat, Int.reduceEq, Int.reduceLE, Int.reduceLT, Classical.not_not, Nat.reduceLT, ↓zvk_s, ↓zvk_n, ↓s_242_0, ↓s_242_1, ↓s_242_2, ↓s_242_5, ↓s_242_6, ↓s_242_9, ↓s_242_10, ↓s_242_11, ↓s_242_14, ↓s_242_17, ↓s_242_19, ↓s_242_20, ↓s_242_21, ↓s_242_22, ↓s_242_25, ↓s_242_26, ↓s_242_27, ↓s_242_30, ↓s_242_31, ↓s_242_32, ↓s_242_35, ↓s_242_36, ↓s_242_37, ↓s_242_40, ↓s_242_41, ↓s_242_42, ↓s_242_45, ↓s_242_46n, ↓s_242_46i, ↓s_242_46p, ↓g_242_47, ↓k_242_47, ↓s_242_48, ↓s_242_50, ↓s_242_53, ↓s_242_54, ↓s_242_55, ↓s_242_56, ↓s_242_59n, ↓s_242_59i, ↓s_242_59p, ↓s_242_62, ↓s_242_65, ↓s_242_66n, ↓s_242_66i, ↓s_242_66p, ↓g_242_67, ↓k_242_67, ↓s_242_68, ↓s_242_70, ↓s_242_73, ↓s_242_74, ↓s_242_77, ↓s_242_78, ↓s_242_79, ↓s_242_80, ↓s_242_81, ↓s_242_84, ↓s_242_85, ↓s_242_86, ↓s_242_87n, ↓s_242_87i, ↓s_242_87p, ↓s_242_90, ↓g_242_93, ↓k_242_93, ↓s_242_94, ↓s_242_95, ↓s_242_98, ↓s_242_99, ↓s_242_100, ↓s_242_103, ↓s_242_104, ↓s_242_105, ↓s_242_108, ↓s_242_109, ↓s_242_110, ↓s_242_113, ↓s_242_114, ↓g_242_117, ↓k_242_117, ↓s_242_118, ↓s_242_121, ↓s_242_124, ↓s_242_125, ↓s_242_128, ↓s_242_129, ↓s_242_132, ↓s_242_133, ↓s_242_136, ↓g_242_139, ↓k_242_139, ↓s_242_140, ↓s_242_141, ↓s_242_144, ↓s_242_147, ↓s_242_148, ↓s_242_149, ↓s_242_152, ↓s_242_155, ↓s_242_156, ↓s_242_159, ↓s_242_162, ↓s_242_163, ↓g_242_164, ↓k_242_164, ↓s_242_165, ↓s_242_168, ↓s_242_171, ↓s_242_172, ↓s_242_175, ↓s_242_178, ↓s_242_179, ↓s_242_182, ↓s_242_185, ↓s_242_186, ↓s_242_189, ↓s_242_192, ↓s_242_193, ↓s_242_196, ↓s_242_199, ↓s_242_200, ↓s_242_203, ↓s_242_206, ↓s_242_207, ↓s_242_210, ↓s_242_213, ↓s_242_214n, ↓s_242_214i, ↓s_242_214p, ↓g_242_215, ↓k_242_215, ↓s_242_216, ↓s_242_218, ↓s_242_221, ↓s_242_222, ↓s_242_225, ↓s_242_226, ↓s_242_227, ↓s_242_230, ↓s_242_232, ↓s_242_233, ↓s_242_234, ↓s_242_235, ↓s_242_236n, ↓s_242_236i, ↓s_242_236p, ↓s_242_239, ↓g_242_242, ↓k_242_242, ↓s_242_243, ↓s_242_246, ↓s_242_249, ↓s_242_250, ↓s_242_253, ↓s_242_256, ↓s_242_257, ↓s_242_260, ↓s_242_263, ↓s_242_264, ↓s_242_267, ↓s_242_270, ↓s_242_271, ↓s_242_274, ↓s_242_277, ↓s_242_278, ↓s_242_281, ↓s_242_284, ↓s_242_285, ↓s_242_288, ↓s_242_291, ↓s_242_292, ↓s_242_295, ↓s_242_298, ↓s_242_299, ↓s_242_302, ↓s_242_305, ↓s_242_306, ↓s_242_309, ↓s_242_312, ↓s_242_313, ↓s_242_316, ↓s_242_319, ↓s_242_320, ↓s_242_323, ↓s_242_326, ↓s_242_327, ↓s_242_330, ↓g_242_333, ↓k_242_333, ↓s_242_334, ↓s_242_335, ↓s_242_338, ↓s_242_339, ↓s_242_340, ↓s_242_343, ↓s_242_344, ↓s_242_345, ↓s_242_348, ↓s_242_349, ↓s_242_352, ↓s_242_353, ↓s_242_356, zio_95, zar_97, zia_97, zln_97, zit_97, zar_98, zia_98, zln_98, zit_98, zar_99, zia_99, zln_99, zit_99, zar_100, zia_100, zln_100, zit_100, zar_101, zia_101, zln_101, zit_101, zar_102, zia_102, zln_102, zit_102, zar_103, zia_103, zln_103, zit_103, zar_104, zia_104, zln_104, zit_104, zar_105, zia_105, zln_105, zit_105, zar_106, zia_106, zln_106, zit_106, zar_107, zia_107, zln_107, zit_107, zar_108, zia_108, zln_108, zit_108, zar_109, zia_109, zln_109, zit_109, zar_110, zia_110, zln_110, zit_110, zar_111, zia_111, zln_111, zit_111, zar_112, zia_112, zln_112, zit_112, zar_113, zia_113, zln_113, zit_113, zar_114, zia_114, zln_114, zit_114, zar_115, zia_115, zln_115, zit_115, zar_116, zia_116, zln_116, zit_116, zar_117, zia_117, zln_117, zit_117]
    exact ⟨fun _ => rt93 hE hd hLw hGm h26 hn8 h27 h31 h32 hch hn (fun j j1 j2 => hs j j1 (by omega)) hQ, fun h => absurd (show 10 ≤ w32 k by omega) h⟩
  | succ c ih =>
    intro k m hc h5 h10 hLw hGm h26 h27 h31 h32 hch hn hs
    have hk1 : w32 (k + 1) = w32 k + 1 := by rw [w32_ad (by rw [w32c_1]; omega) (by rw [w32c_1]; omega), w32c_1]
    refine zgo_ok (n := 40) hE xmo_242 (cs := zc_242) ?_
    simp only [ynok_30, ynok_31, w32c_0, w32c_1, w32c_2, w32c_3, w32c_4, w32c_5, w32c_6, w32c_7, w32c_8, w32c_9, w32c_10, w32c_11, w32c_12, w32c_13, w32c_14, w32c_m1, w32c_m2, w32c_118, Int.reduceAdd, Int.reduceSub, Int.reduceMul, yput_s, yput_n, znl_n, znl_0, znl_1, znl_4, ysum_n, ysum_0, ysum_1, ysum_4, true_and, and_true, Nat.reduceAdd, Nat.reduceLeDiff, true_implies, eq_self, true_or, or_true, or_false, false_or, not_true_eq_false, not_false_eq_true, false_implies, implies_true, yset_s, yset_o, yset_d, ne_eq, Nat.reduceEqDiff, Int.reduceToNat, Int.reduceEq, Int.reduceLE, Int.reduceLT, Classical.not_not, Nat.reduceLT, ↓zvk_s, ↓zvk_n, ↓s_242_0, ↓s_242_1, ↓s_242_2, ↓s_242_5, ↓s_242_6, ↓s_242_9, ↓s_242_10, ↓s_242_11, ↓s_242_14, ↓s_242_17, ↓s_242_19, ↓s_242_20, ↓s_242_21, ↓s_242_22, ↓s_242_25, ↓s_242_26, ↓s_242_27, ↓s_242_30, ↓s_242_31, ↓s_242_32, ↓s_242_35, ↓s_242_36, ↓s_242_37, ↓s_242_40, ↓s_242_41, ↓s_242_42, ↓s_242_45, ↓s_242_46n, ↓s_242_46i, ↓s_242_46p, ↓g_242_47, ↓k_242_47, ↓s_242_48, ↓s_242_50, ↓s_242_53, ↓s_242_54, ↓s_242_55, ↓s_242_56, ↓s_242_59n, ↓s_242_59i, ↓s_242_59p, ↓s_242_62, ↓s_242_65, ↓s_242_66n, ↓s_242_66i, ↓s_242_66p, ↓g_242_67, ↓k_242_67, ↓s_242_68, ↓s_242_70, ↓s_242_73, ↓s_242_74, ↓s_242_77, ↓s_242_78, ↓s_242_79, ↓s_242_80, ↓s_242_81, ↓s_242_84, ↓s_242_85, ↓s_242_86, ↓s_242_87n, ↓s_242_87i, ↓s_242_87p, ↓s_242_90, ↓g_242_93, ↓k_242_93, ↓s_242_94, ↓s_242_95, ↓s_242_98, ↓s_242_99, ↓s_242_100, ↓s_242_103, ↓s_242_104, ↓s_242_105, ↓s_242_108, ↓s_242_109, ↓s_242_110, ↓s_242_113, ↓s_242_114, ↓g_242_117, ↓k_242_117, ↓s_242_118, ↓s_242_121, ↓s_242_124, ↓s_242_125, ↓s_242_128, ↓s_242_129, ↓s_242_132, ↓s_242_133, ↓s_242_136, ↓g_242_139, ↓k_242_139, ↓s_242_140, ↓s_242_141, ↓s_242_144, ↓s_242_147, ↓s_242_148, ↓s_242_149, ↓s_242_152, ↓s_242_155, ↓s_242_156, ↓s_242_159, ↓s_242_162, ↓s_242_163, ↓g_242_164, ↓k_242_164, ↓s_242_165, ↓s_242_168, ↓s_242_171, ↓s_242_172, ↓s_242_175, ↓s_242_178, ↓s_242_179, ↓s_242_182, ↓s_242_185, ↓s_242_186, ↓s_242_189, ↓s_242_192, ↓s_242_193, ↓s_242_196, ↓s_242_199, ↓s_242_200, ↓s_242_203, ↓s_242_206, ↓s_242_207, ↓s_242_210, ↓s_242_213, ↓s_242_214n, ↓s_242_214i, ↓s_242_214p, ↓g_242_215, ↓k_242_215, ↓s_242_216, ↓s_242_218, ↓s_242_221, ↓s_242_222, ↓s_242_225, ↓s_242_226, ↓s_242_227, ↓s_242_230, ↓s_242_232, ↓s_242_233, ↓s_242_234, ↓s_242_235, ↓s_242_236n, ↓s_242_236i, ↓s_242_236p, ↓s_242_239, ↓g_242_242, ↓k_242_242, ↓s_242_243, ↓s_242_246, ↓s_242_249, ↓s_242_250, ↓s_242_253, ↓s_242_256, ↓s_242_257, ↓s_242_260, ↓s_242_263, ↓s_242_264, ↓s_242_267, ↓s_242_270, ↓s_242_271, ↓s_242_274, ↓s_242_277, ↓s_242_278, ↓s_242_281, ↓s_242_284, ↓s_242_285, ↓s_242_288, ↓s_242_291, ↓s_242_292, ↓s_242_295, ↓s_242_298, ↓s_242_299, ↓s_242_302, ↓s_242_305, ↓s_242_306, ↓s_242_309, ↓s_242_312, ↓s_242_313, ↓s_242_316, ↓s_242_319, ↓s_242_320, ↓s_242_323, ↓s_242_326, ↓s_242_327, ↓s_242_330, ↓g_242_333, ↓k_242_333, ↓s_242_334, ↓s_242_335, ↓s_242_338, ↓s_242_339, ↓s_242_340, ↓s_242_343, ↓s_242_344, ↓s_242_345, ↓s_242_348, ↓s_242_349, ↓s_242_352, ↓s_242_353, ↓s_242_356, zio_95, zar_97, zia_97, zln_97, zit_97, zar_98, zia_98, zln_98, zit_98, zar_99, zia_99, zln_99, zit_99, zar_100, zia_100, zln_100, zit_100, zar_101, zia_101, zln_101, zit_101, zar_102, zia_102, zln_102, zit_102, zar_103, zia_103, zln_103, zit_103, zar_104, zia_104, zln_104, zit_104, zar_105, zia_105, zln_105, zit_105, zar_106, zia_106, zln_106, zit_106, zar_107, zia_107, zln_107, zit_107, zar_108, zia_108, zln_108, zit_108, zar_109, zia_109, zln_109, zit_109, zar_110, zia_110, zln_110, zit_110, zar_111, zia_111, zln_111, zit_111, zar_112, zia_112, zln_112, zit_112, zar_113, zia_113, zln_113, zit_113, zar_114, zia_114, zln_114, zit_114, zar_115, zia_115, zln_115, zit_115, zar_116, zia_116, zln_116, zit_116, zar_117, zia_117, zln_117, zit_117]
    have e9 : ∀ i j, i ≠ 114 → i ≠ 115 → yset (yset m 114 (w32 k).toNat 0) 115 (w32 k).toNat 0 i j = m i j := fun i j h1 h2 => by rw [yset_o h2, yset_o h1]
    refine ⟨fun h => absurd h (by omega), fun _ => ⟨⟨by omega, by omega⟩, ⟨by omega, by omega⟩, ih (k + 1) _ (by omega) (by omega) (by omega) (lwW_s (lwW_s hLw (show 5 ≤ _ by omega)) (show 5 ≤ _ by omega)) (aGok_set (aGok_set hGm (by rw [agam_A ae_114]; decide)) (by rw [agam_A ae_115]; decide)) (by rw [e9 95 26 (by decide) (by decide)]; exact h26) (by rw [e9 95 27 (by decide) (by decide)]; exact h27) (by rw [e9 95 31 (by decide) (by decide)]; exact h31) (by rw [e9 95 32 (by decide) (by decide)]; exact h32) (fun j => by rw [e9 96 j (by decide) (by decide)]; exact hch j) (fun j hj => by rw [e9 97 _ (by decide) (by decide)]; exact hn j hj) (fun j j1 j2 => ?_)⟩⟩
    by_cases hj : j = (w32 k).toNat
    · subst hj
      exact ⟨by rw [yset_o (by decide), yset_s]; decide, by rw [yset_s]; decide⟩
    · obtain ⟨z1, z2⟩ := hs j j1 (by omega)
      exact ⟨by rw [yset_o (by decide), yset_d hj]; exact z1, by rw [yset_d hj, yset_o (by decide)]; exact z2⟩
theorem rt47 (hE : yEok E) (hd : 686 ≤ d) {b : yMem} (hn8 : n ≤ 800) (hQ : ∀ r (m : yMem) l, sTl ch n l 0 → w32 r = tAn (pTx (l.length + 1) (.inr l) dD0 0).1 (pTx (l.length + 1) (.inr l) dD0 0).2.2 → (w32 (m 95 33), w32 (m 95 34)) = tFk (pTx (l.length + 1) (.inr l) dD0 0).1 → ((yOk (pTx (l.length + 1) (.inr l) dD0 0).1 → rDl m (pTx (l.length + 1) (.inr l) dD0 0).2.1) ∧ (¬ yOk (pTx (l.length + 1) (.inr l) dD0 0).1 → lwW b m)) → Q (some (0, r)) m) : ∀ (c : Nat) (k : Int) (m : yMem), (7 - w32 k).toNat = c → 0 ≤ w32 k → w32 k ≤ 7 → lwW b m → aGok m → w32 (m 95 26) = (n : Int) → w32 (m 95 27) = 0 → w32 (m 95 31) = 0 → w32 (m 95 32) = -1 → (∀ j, w32 (m 96 j) = ch j ∧ 0 ≤ ch j ∧ ch j ≤ 255) → (∀ j : Nat, (j : Int) < w32 k → w32 (m 97 (7 + j)) = 0) → zG E (d + 1) xm_242 47 [some (1, 95), some (0, x), some (0, k)] [] m Q := by
  intro c
  induction c with
  | zero =>
    intro k m hc h5 h10 hLw hGm h26 h27 h31 h32 hch hn
    refine zgo_ok (n := 40) hE xmo_242 (cs := zc_242) ?_
    simp only [ynok_30, ynok_31, w32c_0, w32c_1, w32c_2, w32c_3, w32c_4, w32c_5, w32c_6, w32c_7, w32c_8, w32c_9, w32c_10, w32c_11, w32c_12, w32c_13, w32c_14, w32c_m1, w32c_m2, w32c_118, Int.reduceAdd, Int.reduceSub, Int.reduceMul, yput_s, yput_n, znl_n, znl_0, znl_1, znl_4, ysum_n, ysum_0, ysum_1, ysum_4, true_and, and_true, Nat.reduceAdd, Nat.reduceLeDiff, true_implies, eq_self, true_or, or_true, or_false, false_or, not_true_eq_false, not_false_eq_true, false_implies, implies_true, yset_s, yset_o, yset_d, ne_eq, Nat.reduceEqDiff, Int.reduceToNat, Int.reduceEq, Int.reduceLE, Int.reduceLT, Classical.not_not, Nat.reduceLT, ↓zvk_s, ↓zvk_n, ↓s_242_0, ↓s_242_1, ↓s_242_2, ↓s_242_5, ↓s_242_6, ↓s_242_9, ↓s_242_10, ↓s_242_11, ↓s_242_14, ↓s_242_17, ↓s_242_19, ↓s_242_20, ↓s_242_21, ↓s_242_22, ↓s_242_25, ↓s_242_26, ↓s_242_27, ↓s_242_30, ↓s_242_31, ↓s_242_32, ↓s_242_35, ↓s_242_36, ↓s_242_37, ↓s_242_40, ↓s_242_41, ↓s_242_42, ↓s_242_45, ↓s_242_46n, ↓s_242_46i, ↓s_242_46p, ↓g_242_47, ↓k_242_47, ↓s_242_48, ↓s_242_50, ↓s_242_53, ↓s_242_54, ↓s_242_55, ↓s_242_56, ↓s_242_59n, ↓s_242_59i, ↓s_242_59p, ↓s_242_62, ↓s_242_65, ↓s_242_66n, ↓s_242_66i, ↓s_242_66p, ↓g_242_67, ↓k_242_67, ↓s_242_68, ↓s_242_70, ↓s_242_73, ↓s_242_74, ↓s_242_77, ↓s_242_78, ↓s_242_79, ↓s_242_80, ↓s_242_81, ↓s_242_84, ↓s_242_85, ↓s_242_86, ↓s_242_87n, ↓s_242_87i, ↓s_242_87p, ↓s_242_90, ↓g_242_93, ↓k_242_93, ↓s_242_94, ↓s_242_95, ↓s_242_98, ↓s_242_99, ↓s_242_100, ↓s_242_103, ↓s_242_104, ↓s_242_105, ↓s_242_108, ↓s_242_109, ↓s_242_110, ↓s_242_113, ↓s_242_114, ↓g_242_117, ↓k_242_117, ↓s_242_118, ↓s_242_121, ↓s_242_124, ↓s_242_125, ↓s_242_128, ↓s_242_129, ↓s_242_132, ↓s_242_133, ↓s_242_136, ↓g_242_139, ↓k_242_139, ↓s_242_140, ↓s_242_141, ↓s_242_144, ↓s_242_147, ↓s_242_148, ↓s_242_149, ↓s_242_152, ↓s_242_155, ↓s_242_156, ↓s_242_159, ↓s_242_162, ↓s_242_163, ↓g_242_164, ↓k_242_164, ↓s_242_165, ↓s_242_168, ↓s_242_171, ↓s_242_172, ↓s_242_175, ↓s_242_178, ↓s_242_179, ↓s_242_182, ↓s_242_185, ↓s_242_186, ↓s_242_189, ↓s_242_192, ↓s_242_193, ↓s_242_196, ↓s_242_199, ↓s_242_200, ↓s_242_203, ↓s_242_206, ↓s_242_207, ↓s_242_210, ↓s_242_213, ↓s_242_214n, ↓s_242_214i, ↓s_242_214p, ↓g_242_215, ↓k_242_215, ↓s_242_216, ↓s_242_218, ↓s_242_221, ↓s_242_222, ↓s_242_225, ↓s_242_226, ↓s_242_227, ↓s_242_230, ↓s_242_232, ↓s_242_233, ↓s_242_234, ↓s_242_235, ↓s_242_236n, ↓s_242_236i, ↓s_242_236p, ↓s_242_239, ↓g_242_242, ↓k_242_242, ↓s_242_243, ↓s_242_246, ↓s_242_249, ↓s_242_250, ↓s_242_253, ↓s_242_256, ↓s_242_257, ↓s_242_260, ↓s_242_263, ↓s_242_264, ↓s_242_267, ↓s_242_270, ↓s_242_271, ↓s_242_274, ↓s_242_277, ↓s_242_278, ↓s_242_281, ↓s_242_284, ↓s_242_285, ↓s_242_288, ↓s_242_291, ↓s_242_292, ↓s_242_295, ↓s_242_298, ↓s_242_299, ↓s_242_302, ↓s_242_305, ↓s_242_306, ↓s_242_309, ↓s_242_312, ↓s_242_313, ↓s_242_316, ↓s_242_319, ↓s_242_320, ↓s_242_323, ↓s_242_326, ↓s_242_327, ↓s_242_330, ↓g_242_333, ↓k_242_333, ↓s_242_334, ↓s_242_335, ↓s_242_338, ↓s_242_339, ↓s_242_340, ↓s_242_343, ↓s_242_344, ↓s_242_345, ↓s_242_348, ↓s_242_349, ↓s_242_352, ↓s_242_353, ↓s_242_356, ↓s_221_0, ↓s_221_1, ↓s_221_4, ↓s_221_6, ↓s_221_7, ↓s_221_8, ↓s_221_9, ↓s_221_10, zio_95, zar_97, zia_97, zln_97, zit_97, zar_98, zia_98, zln_98, zit_98, zar_99, zia_99, zln_99, zit_99, zar_100, zia_100, zln_100, zit_100, zar_101, zia_101, zln_101, zit_101, zar_102, zia_102, zln_102, zit_102, zar_103, zia_103, zln_103, zit_103, zar_104, zia_104, zln_104, zit_104, zar_105, zia_105, zln_105, zit_105, zar_106, zia_106, zln_106, zit_106, zar_107, zia_107, zln_107, zit_107, zar_108, zia_108, zln_108, zit_108, zar_109, zia_109, zln_109, zit_109, zar_110, zia_110, zln_110, zit_110, zar_111, zia_111, zln_111, zit_111, zar_112, zia_112, zln_112, zit_112, zar_113, zia_113, zln_113, zit_113, zar_114, zia_114, zln_114, zit_114, zar_115, zia_115, zln_115, zit_115, zar_116, zia_116, zln_116, zit_116, zar_117, zia_117, zln_117, zit_117]
    exact ⟨fun _ => rt67 hE hd hn8 hQ _ _ m rfl (by decide) (by decide) hLw hGm h26 h27 h31 h32 hch (fun j hj => hn j (by omega)) (fun j j1 j2 => absurd j2 (by rw [w32c_5]; omega)), fun h => absurd (show 7 ≤ w32 k by omega) h⟩
  | succ c ih =>
    intro k m hc h5 h10 hLw hGm h26 h27 h31 h32 hch hn
    have hk1 : w32 (k + 1) = w32 k + 1 := by rw [w32_ad (by rw [w32c_1]; omega) (by rw [w32c_1]; omega), w32c_1]
    have h7k : w32 (7 + k) = 7 + w32 k := by rw [w32_ad (by rw [w32c_7]; omega) (by rw [w32c_7]; omega), w32c_7]
    refine zgo_ok (n := 40) hE xmo_242 (cs := zc_242) ?_
    simp only [ynok_30, ynok_31, w32c_0, w32c_1, w32c_2, w32c_3, w32c_4, w32c_5, w32c_6, w32c_7, w32c_8, w32c_9, w32c_10, w32c_11, w32c_12, w32c_13, w32c_14, w32c_m1, w32c_m2, w32c_118, Int.reduceAdd, Int.reduceSub, Int.reduceMul, yput_s, yput_n, znl_n, znl_0, znl_1, znl_4, ysum_n, ysum_0, ysum_1, ysum_4, true_and, and_true, Nat.reduceAdd, Nat.reduceLeDiff, true_implies, eq_self, true_or, or_true, or_false, false_or, not_true_eq_false, not_false_eq_true, false_implies, implies_true, yset_s, yset_o, yset_d, ne_eq, Nat.reduceEqDiff, Int.reduceToNat, Int.reduceEq, Int.reduceLE, Int.reduceLT, Classical.not_not, Nat.reduceLT, ↓zvk_s, ↓zvk_n, ↓s_242_0, ↓s_242_1, ↓s_242_2, ↓s_242_5, ↓s_242_6, ↓s_242_9, ↓s_242_10, ↓s_242_11, ↓s_242_14, ↓s_242_17, ↓s_242_19, ↓s_242_20, ↓s_242_21, ↓s_242_22, ↓s_242_25, ↓s_242_26, ↓s_242_27, ↓s_242_30, ↓s_242_31, ↓s_242_32, ↓s_242_35, ↓s_242_36, ↓s_242_37, ↓s_242_40, ↓s_242_41, ↓s_242_42, ↓s_242_45, ↓s_242_46n, ↓s_242_46i, ↓s_242_46p, ↓g_242_47, ↓k_242_47, ↓s_242_48, ↓s_242_50, ↓s_242_53, ↓s_242_54, ↓s_242_55, ↓s_242_56, ↓s_242_59n, ↓s_242_59i, ↓s_242_59p, ↓s_242_62, ↓s_242_65, ↓s_242_66n, ↓s_242_66i, ↓s_242_66p, ↓g_242_67, ↓k_242_67, ↓s_242_68, ↓s_242_70, ↓s_242_73, ↓s_242_74, ↓s_242_77, ↓s_242_78, ↓s_242_79, ↓s_242_80, ↓s_242_81, ↓s_242_84, ↓s_242_85, ↓s_242_86, ↓s_242_87n, ↓s_242_87i, ↓s_242_87p, ↓s_242_90, ↓g_242_93, ↓k_242_93, ↓s_242_94, ↓s_242_95, ↓s_242_98, ↓s_242_99, ↓s_242_100, ↓s_242_103, ↓s_242_104, ↓s_242_105, ↓s_242_108, ↓s_242_109, ↓s_242_110, ↓s_242_113, ↓s_242_114, ↓g_242_117, ↓k_242_117, ↓s_242_118, ↓s_242_121, ↓s_242_124, ↓s_242_125, ↓s_242_128, ↓s_242_129, ↓s_242_132, ↓s_242_133, ↓s_242_136, ↓g_242_139, ↓k_242_139, ↓s_242_140, ↓s_242_141, ↓s_242_144, ↓s_242_147, ↓s_242_148, ↓s_242_149, ↓s_242_152, ↓s_242_155, ↓s_242_156, ↓s_242_159, ↓s_242_162, ↓s_242_163, ↓g_242_164, ↓k_242_164, ↓s_242_165, ↓s_242_168, ↓s_242_171, ↓s_242_172, ↓s_242_175, ↓s_242_178, ↓s_242_179, ↓s_242_182, ↓s_242_185, ↓s_242_186, ↓s_242_189, ↓s_242_192, ↓s_242_193, ↓s_242_196, ↓s_242_199, ↓s_242_200, ↓s_242_203, ↓s_242_206, ↓s_242_207, ↓s_242_210, ↓s_242_213, ↓s_242_214n, ↓s_242_214i, ↓s_242_214p, ↓g_242_215, ↓k_242_215, ↓s_242_216, ↓s_242_218, ↓s_242_221, ↓s_242_222, ↓s_242_225, ↓s_242_226, ↓s_242_227, ↓s_242_230, ↓s_242_232, ↓s_242_233, ↓s_242_234, ↓s_242_235, ↓s_242_236n, ↓s_242_236i, ↓s_242_236p, ↓s_242_239, ↓g_242_242, ↓k_242_242, ↓s_242_243, ↓s_242_246, ↓s_242_249, ↓s_242_250, ↓s_242_253, ↓s_242_256, ↓s_242_257, ↓s_242_260, ↓s_242_263, ↓s_242_264, ↓s_242_267, ↓s_242_270, ↓s_242_271, ↓s_242_274, ↓s_242_277, ↓s_242_278, ↓s_242_281, ↓s_242_284, ↓s_242_285, ↓s_242_288, ↓s_242_291, ↓s_242_292, ↓s_242_295, ↓s_242_298, ↓s_242_299, ↓s_242_302, ↓s_242_305, ↓s_242_306, ↓s_242_309, ↓s_242_312, ↓s_242_313, ↓s_242_316, ↓s_242_319, ↓s_242_320, ↓s_242_323, ↓s_242_326, ↓s_242_327, ↓s_242_330, ↓g_242_333, ↓k_242_333, ↓s_242_334, ↓s_242_335, ↓s_242_338, ↓s_242_339, ↓s_242_340, ↓s_242_343, ↓s_242_344, ↓s_242_345, ↓s_242_348, ↓s_242_349, ↓s_242_352, ↓s_242_353, ↓s_242_356, ↓s_221_0, ↓s_221_1, ↓s_221_4, ↓s_221_6, ↓s_221_7, ↓s_221_8, ↓s_221_9, ↓s_221_10, zio_95, zar_97, zia_97, zln_97, zit_97, zar_98, zia_98, zln_98, zit_98, zar_99, zia_99, zln_99, zit_99, zar_100, zia_100, zln_100, zit_100, zar_101, zia_101, zln_101, zit_101, zar_102, zia_102, zln_102, zit_102, zar_103, zia_103, zln_103, zit_103, zar_104, zia_104, zln_104, zit_104, zar_105, zia_105, zln_105, zit_105, zar_106, zia_106, zln_106, zit_106, zar_107, zia_107, zln_107, zit_107, zar_108, zia_108, zln_108, zit_108, zar_109, zia_109, zln_109, zit_109, zar_110, zia_110, zln_110, zit_110, zar_111, zia_111, zln_111, zit_111, zar_112, zia_112, zln_112, zit_112, zar_113, zia_113, zln_113, zit_113, zar_114, zia_114, zln_114, zit_114, zar_115, zia_115, zln_115, zit_115, zar_116, zia_116, zln_116, zit_116, zar_117, zia_117, zln_117, zit_117]
    have g97 : (agam 97 (w32 (7 + k)).toNat).1 ≤ w32 0 ∧ w32 0 ≤ (agam 97 (w32 (7 + k)).toNat).2 := gam97_0 _ (by omega)
    refine ⟨fun h => absurd h (by omega), fun _ => ⟨⟨by omega, by omega⟩, ih (k + 1) _ (by omega) (by omega) (by omega) (lwW_s hLw (show 7 ≤ _ by omega)) (aGok_set hGm g97) (by rw [yset_o (by decide)]; exact h26) (by rw [yset_o (by decide)]; exact h27) (by rw [yset_o (by decide)]; exact h31) (by rw [yset_o (by decide)]; exact h32) (fun j => by rw [yset_o (by decide)]; exact hch j) (fun j hj => ?_)⟩⟩
    by_cases hj2 : 7 + j = (w32 (7 + k)).toNat
    · rw [hj2, yset_s]; decide
    · rw [yset_d hj2]
      exact hn j (by omega)
/-- what text answers, which FAULT it keeps (fo: the one before, fn: the one behind), what becomes of the document (P0: no such text, P: this one) -/
def tRs (ch : Nat → Int) (taped N r : Int) (fo fn : Int × Int) (P0 : Prop) (P : sY → dDc → Prop) : Prop := (¬ (0 ≤ N ∧ N ≤ taped) → r = -2 ∧ fn = fo ∧ P0) ∧ (0 ≤ N ∧ N ≤ taped → ∃ l, sTl ch N.toNat l 0 ∧ r = tAn (pTx (l.length + 1) (.inr l) dD0 0).1 (pTx (l.length + 1) (.inr l) dD0 0).2.2 ∧ fn = tFk (pTx (l.length + 1) (.inr l) dD0 0).1 ∧ P (pTx (l.length + 1) (.inr l) dD0 0).1 (pTx (l.length + 1) (.inr l) dD0 0).2.1)
theorem tRs_u {ch : Nat → Int} {taped N r r' : Int} {fo fn fn' : Int × Int} {P0 P0' : Prop} {P P' : sY → dDc → Prop} (h : tRs ch taped N r fo fn P0 P) (h' : tRs ch taped N r' fo fn' P0' P') : r = r' ∧ fn = fn' ∧ ((¬ (0 ≤ N ∧ N ≤ taped) ∧ P0 ∧ P0') ∨ ((0 ≤ N ∧ N ≤ taped) ∧ ∃ l : List sT, fn = tFk (pTx (l.length + 1) (.inr l) dD0 0).1 ∧ P (pTx (l.length + 1) (.inr l) dD0 0).1 (pTx (l.length + 1) (.inr l) dD0 0).2.1 ∧ P' (pTx (l.length + 1) (.inr l) dD0 0).1 (pTx (l.length + 1) (.inr l) dD0 0).2.1)) := by
  by_cases hN : 0 ≤ N ∧ N ≤ taped
  · obtain ⟨l, h1, h2, h3, h4⟩ := h.2 hN
    obtain ⟨l', h1', h2', h3', h4'⟩ := h'.2 hN
    have e := sTl_u h1 h1'
    subst e
    rw [h2, h2', h3, h3']
    exact ⟨rfl, rfl, Or.inr ⟨hN, _, rfl, h4, h4'⟩⟩
  · obtain ⟨a1, a2, a3⟩ := h.1 hN
    obtain ⟨b1, b2, b3⟩ := h'.1 hN
    rw [a1, b1, a2, b2]
    exact ⟨rfl, rfl, Or.inl ⟨hN, a3, b3⟩⟩
theorem rf_text (hE : yEok E) {D0 : Nat} (hD : 688 ≤ D0) {mem : yMem} (hG : aGok mem) (hch : ∀ j, w32 (mem 96 j) = ch j ∧ 0 ≤ ch j ∧ ch j ≤ 255) (hQ : ∀ r (m : yMem), tRs ch (w32 (mem 95 2)) (w32 x) (w32 r) (w32 (mem 95 33), w32 (mem 95 34)) (w32 (m 95 33), w32 (m 95 34)) (lwW mem m) (fun X D => (yOk X → rDl m D) ∧ (¬ yOk X → lwW mem m)) → Q (some (0, r)) m) : yCon E D0 xm_242 [(1, 95), (0, x)] mem Q := by
  obtain ⟨d, rfl⟩ := Nat.exists_eq_add_of_le' (show 2 ≤ D0 by omega)
  refine e_242 ?_
  refine zvc_ok hE 60 zc_242 _ _ _ _ _ _ _ xmo_242 ?_
  have g2 := ag hG 95 2 ag_95_2
  have bad : ¬ (0 ≤ w32 x ∧ w32 x ≤ w32 (mem 95 2)) → Q (some (0, -2)) (yset mem 95 0 0) := fun h => hQ _ _ ⟨fun _ => ⟨by decide, by rw [yset_d (by decide), yset_d (by decide)], fun i j n _ h1 _ _ => by rw [yset_o (by omega)]⟩, fun z => absurd z h⟩
  simp only [ynok_30, ynok_31, w32c_0, w32c_1, w32c_2, w32c_3, w32c_4, w32c_5, w32c_6, w32c_7, w32c_8, w32c_9, w32c_10, w32c_11, w32c_12, w32c_13, w32c_14, w32c_m1, w32c_m2, w32c_118, Int.reduceAdd, Int.reduceSub, Int.reduceMul, yput_s, yput_n, znl_n, znl_0, znl_1, znl_4, ysum_n, ysum_0, ysum_1, ysum_4, true_and, and_true, Nat.reduceAdd, Nat.reduceLeDiff, true_implies, eq_self, true_or, or_true, or_false, false_or, not_true_eq_false, not_false_eq_true, false_implies, implies_true, yset_s, yset_o, yset_d, ne_eq, Nat.reduceEqDiff, Int.reduceToNat, Int.reduceEq, Int.reduceLE, Int.reduceLT, Classical.not_not, Nat.reduceLT, ↓zvk_s, ↓zvk_n, ↓s_242_0, ↓s_242_1, ↓s_242_2, ↓s_242_5, ↓s_242_6, ↓s_242_9, ↓s_242_10, ↓s_242_11, ↓s_242_14, ↓s_242_17, ↓s_242_19, ↓s_242_20, ↓s_242_21, ↓s_242_22, ↓s_242_25, ↓s_242_26, ↓s_242_27, ↓s_242_30, ↓s_242_31, ↓s_242_32, ↓s_242_35, ↓s_242_36, ↓s_242_37, ↓s_242_40, ↓s_242_41, ↓s_242_42, ↓s_242_45, ↓s_242_46n, ↓s_242_46i, ↓s_242_46p, ↓g_242_47, ↓k_242_47, ↓s_242_48, ↓s_242_50, ↓s_242_53, ↓s_242_54, ↓s_242_55, ↓s_242_56, ↓s_242_59n, ↓s_242_59i, ↓s_242_59p, ↓s_242_62, ↓s_242_65, ↓s_242_66n, ↓s_242_66i, ↓s_242_66p, ↓g_242_67, ↓k_242_67, ↓s_242_68, ↓s_242_70, ↓s_242_73, ↓s_242_74, ↓s_242_77, ↓s_242_78, ↓s_242_79, ↓s_242_80, ↓s_242_81, ↓s_242_84, ↓s_242_85, ↓s_242_86, ↓s_242_87n, ↓s_242_87i, ↓s_242_87p, ↓s_242_90, ↓g_242_93, ↓k_242_93, ↓s_242_94, ↓s_242_95, ↓s_242_98, ↓s_242_99, ↓s_242_100, ↓s_242_103, ↓s_242_104, ↓s_242_105, ↓s_242_108, ↓s_242_109, ↓s_242_110, ↓s_242_113, ↓s_242_114, ↓g_242_117, ↓k_242_117, ↓s_242_118, ↓s_242_121, ↓s_242_124, ↓s_242_125, ↓s_242_128, ↓s_242_129, ↓s_242_132, ↓s_242_133, ↓s_242_136, ↓g_242_139, ↓k_242_139, ↓s_242_140, ↓s_242_141, ↓s_242_144, ↓s_242_147, ↓s_242_148, ↓s_242_149, ↓s_242_152, ↓s_242_155, ↓s_242_156, ↓s_242_159, ↓s_242_162, ↓s_242_163, ↓g_242_164, ↓k_242_164, ↓s_242_165, ↓s_242_168, ↓s_242_171, ↓s_242_172, ↓s_242_175, ↓s_242_178, ↓s_242_179, ↓s_242_182, ↓s_242_185, ↓s_242_186, ↓s_242_189, ↓s_242_192, ↓s_242_193, ↓s_242_196, ↓s_242_199, ↓s_242_200, ↓s_242_203, ↓s_242_206, ↓s_242_207, ↓s_242_210, ↓s_242_213, ↓s_242_214n, ↓s_242_214i, ↓s_242_214p, ↓g_242_215, ↓k_242_215, ↓s_242_216, ↓s_242_218, ↓s_242_221, ↓s_242_222, ↓s_242_225, ↓s_242_226, ↓s_242_227, ↓s_242_230, ↓s_242_232, ↓s_242_233, ↓s_242_234, ↓s_242_235, ↓s_242_236n, ↓s_242_236i, ↓s_242_236p, ↓s_242_239, ↓g_242_242, ↓k_242_242, ↓s_242_243, ↓s_242_246, ↓s_242_249, ↓s_242_250, ↓s_242_253, ↓s_242_256, ↓s_242_257, ↓s_242_260, ↓s_242_263, ↓s_242_264, ↓s_242_267, ↓s_242_270, ↓s_242_271, ↓s_242_274, ↓s_242_277, ↓s_242_278, ↓s_242_281, ↓s_242_284, ↓s_242_285, ↓s_242_288, ↓s_242_291, ↓s_242_292, ↓s_242_295, ↓s_242_298, ↓s_242_299, ↓s_242_302, ↓s_242_305, ↓s_242_306, ↓s_242_309, ↓s_242_312, ↓s_242_313, ↓s_242_316, ↓s_242_319, ↓s_242_320, ↓s_242_323, ↓s_242_326, ↓s_242_327, ↓s_242_330, ↓g_242_333, ↓k_242_333, ↓s_242_334, ↓s_242_335, ↓s_242_338, ↓s_242_339, ↓s_242_340, ↓s_242_343, ↓s_242_344, ↓s_242_345, ↓s_242_348, ↓s_242_349, ↓s_242_352, ↓s_242_353, ↓s_242_356, zio_95, zar_97, zia_97, zln_97, zit_97, zar_98, zia_98, zln_98, zit_98, zar_99, zia_99, zln_99, zit_99, zar_100, zia_100, zln_100, zit_100, zar_101, zia_101, zln_101, zit_101, zar_102, zia_102, zln_102, zit_102, zar_103, zia_103, zln_103, zit_103, zar_104, zia_104, zln_104, zit_104, zar_105, zia_105, zln_105, zit_105, zar_106, zia_106, zln_106, zit_106, zar_107, zia_107, zln_107, zit_107, zar_108, zia_108, zln_108, zit_108, zar_109, zia_109, zln_109, zit_109, zar_110, zia_110, zln_110, zit_110, zar_111, zia_111, zln_111, zit_111, zar_112, zia_112, zln_112, zit_112, zar_113, zia_113, zln_113, zit_113, zar_114, zia_114, zln_114, zit_114, zar_115, zia_115, zln_115, zit_115, zar_116, zia_116, zln_116, zit_116, zar_117, zia_117, zln_117, zit_117]
  refine ⟨fun h => bad (by omega), fun h0 => ⟨fun h1 => ?_, fun h1 => bad (by omega)⟩⟩
  have g2b : w32 (mem 95 2) ≤ 800 := g2.2
  refine rt47 (n := (w32 x).toNat) (ch := ch) (b := mem) hE (by omega) (by omega) (fun r m l hl hr hf hd => hQ r m ⟨fun z => absurd ⟨by omega, h1⟩ z, fun _ => ⟨l, hl, hr, hf, hd⟩⟩) _ _ _ rfl (by decide) (by decide) (fun i j n _ h1 _ _ => by rw [yset_o (by omega), yset_o (by omega), yset_o (by omega), yset_o (by omega), yset_o (by omega), yset_o (by omega)]) (aGok_set (aGok_set (aGok_set (aGok_set (aGok_set (aGok_set hG (ag_32 ag_95_0)) (by rw [ag_95_26]; exact ⟨by dsimp only; omega, by dsimp only; omega⟩)) (by rw [ag_95_2]; decide)) (by rw [ag_95_27]; decide)) (ag_32 ag_95_31)) (ag_32 ag_95_32)) ?_ ?_ ?_ ?_ (fun j => by rw [yset_o (by decide), yset_o (by decide), yset_o (by decide), yset_o (by decide), yset_o (by decide), yset_o (by decide)]; exact hch j) (fun j hj => absurd hj (by rw [w32c_0]; omega))
  · rw [yset_d (by decide), yset_d (by decide), yset_d (by decide), yset_d (by decide), yset_s]; omega
  · rw [yset_d (by decide), yset_d (by decide), yset_s]; decide
  · rw [yset_d (by decide), yset_s]; decide
  · rw [yset_s]; exact w32c_m1
end RR
end
section
/-! THE CLASS'S text: its answer -/
def TP (mem m : yMem) : Prop := (∀ j, m 1 j = mem 1 j) ∧ (∀ j, m 56 j = mem 56 j)
def tpw (w : List (Nat × Nat)) : Bool := w.all (fun q => !(Nat.beq q.1 1) && !(Nat.beq q.1 56))
theorem tpw_ok {w : List (Nat × Nat)} (h : tpw w = true) {i j : Nat} (hi : i = 1 ∨ i = 56) : amod w i j = false := by
  cases hm : amod w i j with
  | false => rfl
  | true =>
    obtain ⟨q, q1, q2, q3⟩ := amod_ex hm
    have h2 := List.all_eq_true.mp h q q1
    rw [q2] at h2
    rcases hi with rfl | rfl <;> cases h2
theorem TP_of {w : List (Nat × Nat)} {mem m : yMem} (h : aFrm w mem m) (hw : tpw w = true) : TP mem m := ⟨fun j => h 1 j (tpw_ok hw (Or.inl rfl)), fun j => h 56 j (tpw_ok hw (Or.inr rfl))⟩
theorem TP_tr {a b c : yMem} (h1 : TP a b) (h2 : TP b c) : TP a c := ⟨fun j => by rw [h2.1 j, h1.1 j], fun j => by rw [h2.2 j, h1.2 j]⟩
theorem TP_set {a b : yMem} {i j : Nat} {x : Int} (h : TP a b) (hi : i ≠ 1 ∧ i ≠ 56) : TP a (yset b i j x) := ⟨fun k => by rw [yset_o (fun e => hi.1 e.symm)]; exact h.1 k, fun k => by rw [yset_o (fun e => hi.2 e.symm)]; exact h.2 k⟩
theorem ydv_0 {E : yE} {y z : Int} (h : (some ((0 : Nat), y)).map (ydv E) = (some ((0 : Nat), z)).map (ydv E)) : w32 y = w32 z := w32_iI (Value.int.inj (Option.some.inj h))
theorem g_xtext {E : yE} (hE : yEok E) (hm : yman Om) {D : Nat} (hD : 16 ≤ D) {mem : yMem} {Q : Option yV → yMem → Prop} {x : Int} {ch : Nat → Int} (hG : aGok mem) (hO : Om mem) (hB : cBy mem ch) (hW : cWd mem) (hQ : ∀ r m, XTQ mem x m → TP mem m → tRs ch (w32 (mem 0 11)) (w32 x) (w32 r) (w32 (mem 0 12), w32 (mem 0 13)) (w32 (m 0 12), w32 (m 0 13)) (hyS mem m) (fun X D => (yOk X → cDh m D) ∧ (¬ yOk X → hyS mem m ∧ ¬ w32 (m 0 12) = 0)) → Q (some (0, r)) m) : yCon E D xm_41 [(1, 0), (0, x)] mem Q := by
  obtain ⟨d, rfl⟩ := Nat.exists_eq_add_of_le' hD
  refine e_41 ?_
  refine zvc_ok hE 90 zc_41 _ _ _ _ _ _ _ xmo_41 ?_
  have g11 := ag hG 0 11 ag_0_11
  have f12 : ¬ (0 ≤ w32 x ∧ w32 x ≤ w32 (mem 0 11)) → zG E (d + 15) xm_41 12 [some (1, 0), some (0, x), none] [] mem Q := fun hx => by
    refine zgo_ok (n := 60) hE xmo_41 (cs := zc_41) ?_
    simp only [ynok_30, ynok_31, w32c_0, w32c_1, w32c_2, w32c_3, w32c_4, w32c_5, w32c_6, w32c_7, w32c_8, w32c_9, w32c_10, w32c_11, w32c_12, w32c_13, w32c_14, w32c_m1, w32c_m2, w32c_118, Int.reduceAdd, Int.reduceSub, Int.reduceMul, yput_s, yput_n, znl_n, znl_0, znl_1, znl_4, ysum_n, ysum_0, ysum_1, ysum_4, true_and, and_true, Nat.reduceAdd, Nat.reduceLeDiff, true_implies, eq_self, true_or, or_true, or_false, false_or, not_true_eq_false, not_false_eq_true, false_implies, implies_true, yset_s, yset_o, yset_d, ne_eq, Nat.reduceEqDiff, Int.reduceToNat, Int.reduceEq, Int.reduceLE, Int.reduceLT, Classical.not_not, Nat.reduceLT, ↓zvk_s, ↓zvk_n, ↓s_41_0, ↓s_41_1, ↓s_41_4, ↓s_41_5, ↓s_41_6, ↓s_41_9, ↓g_41_12, ↓k_41_12, ↓s_41_14, ↓g_41_15, ↓k_41_15, ↓s_41_16, ↓s_41_19, ↓s_41_20, ↓s_41_23n, ↓s_41_23i, ↓s_41_23p, ↓s_41_24, ↓s_41_25, ↓s_41_26, ↓s_41_29, ↓s_41_30, ↓s_41_31, ↓s_41_34, ↓s_41_37, ↓s_41_40, ↓s_41_43, ↓s_41_44, ↓s_41_45, ↓s_41_48, ↓s_41_51, ↓s_41_54, ↓s_41_57, ↓s_41_58, ↓s_41_61, ↓s_41_64, ↓s_41_65, ↓s_41_66, ↓s_41_67, ↓s_41_70, ↓s_41_71, ↓s_41_74, ↓s_41_77, ↓s_41_78, ↓s_41_81, ↓s_41_82, ↓s_41_85, ↓s_41_88, ↓s_41_89, ↓s_41_92, ↓s_41_93, ↓s_41_96, ↓s_41_97, ↓s_41_98, ↓s_41_101, ↓s_41_102, ↓s_41_105, ↓s_41_106, ↓s_41_109, ↓s_41_110, zio_0, zio_64, zio_2, zio_71, zio_76, zio_54, zio_55, zio_57, zio_28]
    exact hQ _ _ ⟨hG, hO, fun _ _ _ => rfl, by rw [if_neg hx]⟩ ⟨fun _ => rfl, fun _ => rfl⟩ ⟨fun _ => ⟨by decide, rfl, fun _ _ _ => rfl⟩, fun z => absurd z hx⟩
  have f15 : 0 ≤ w32 x → w32 x ≤ w32 (mem 0 11) → zG E (d + 15) xm_41 15 [some (1, 0), some (0, x), none] [] mem Q := fun x0 x1 => by
    have g800 : w32 (mem 0 11) ≤ 800 := g11.2
    have C1 : yCon E (d + 15) xm_120 [(1, 54), (0, x)] mem (fun r m => (∃ y, r = some (0, y)) ∧ CQ mem m ∧ TP mem m ∧ ∀ c j, 2 ≤ c → c ≤ 26 → m c j = mem c j) := by
      refine as_153 yoc_Om hm E hE _ (show 8 ≤ _ by omega) _ rfl _ _ _ ⟨rfl, ⟨rfl, x0, by show w32 x ≤ 800; omega⟩, trivial⟩ hG hO (fun q hq => by cases hq) (fun r m1 he => ?_)
      have R1 := CQ_of he (by decide +kernel)
      have R2 := TP_of he.2.2.2.1 (by decide +kernel)
      have R3 : ∀ c j, 2 ≤ c → c ≤ 26 → m1 c j = mem c j := fun c j c1 c2 => he.2.2.2.1 c j (hyw_ok (by decide +kernel) c1 c2)
      obtain ⟨k1, -⟩ := he
      match r, k1 with
      | none, k1 => exact absurd (show (3 : Nat) = 99 from k1) (by decide)
      | some (t, y), k1 =>
        have ht : t = 0 := k1.1
        subst ht
        exact ⟨⟨y, rfl⟩, R1, R2, R3⟩
    have C2 : yCon E (d + 15) xm_120 [(1, 54), (0, x)] mem (fun r m => ∃ y l, r = some (0, y) ∧ sTl ch (w32 x).toNat l 0 ∧ cAt ch (w32 x).toNat m (pTx (l.length + 1) (.inr l) dD0 0).1 (pTx (l.length + 1) (.inr l) dD0 0).2.1 ∧ w32 y = (pTx (l.length + 1) (.inr l) dD0 0).2.2) := g_tell hE (by omega) hB hW (n := (w32 x).toNat) (by omega) (by omega) (fun m l r _ h1 h2 h3 => ⟨r, l, rfl, h1, h2, h3⟩)
    refine zgo_ok (n := 60) hE xmo_41 (cs := zc_41) ?_
    simp only [ynok_30, ynok_31, w32c_0, w32c_1, w32c_2, w32c_3, w32c_4, w32c_5, w32c_6, w32c_7, w32c_8, w32c_9, w32c_10, w32c_11, w32c_12, w32c_13, w32c_14, w32c_m1, w32c_m2, w32c_118, Int.reduceAdd, Int.reduceSub, Int.reduceMul, yput_s, yput_n, znl_n, znl_0, znl_1, znl_4, ysum_n, ysum_0, ysum_1, ysum_4, true_and, and_true, Nat.reduceAdd, Nat.reduceLeDiff, true_implies, eq_self, true_or, or_true, or_false, false_or, not_true_eq_false, not_false_eq_true, false_implies, implies_true, yset_s, yset_o, yset_d, ne_eq, Nat.reduceEqDiff, Int.reduceToNat, Int.reduceEq, Int.reduceLE, Int.reduceLT, Classical.not_not, Nat.reduceLT, ↓zvk_s, ↓zvk_n, ↓s_41_0, ↓s_41_1, ↓s_41_4, ↓s_41_5, ↓s_41_6, ↓s_41_9, ↓g_41_12, ↓k_41_12, ↓s_41_14, ↓g_41_15, ↓k_41_15, ↓s_41_16, ↓s_41_19, ↓s_41_20, ↓s_41_23n, ↓s_41_23i, ↓s_41_23p, ↓s_41_24, ↓s_41_25, ↓s_41_26, ↓s_41_29, ↓s_41_30, ↓s_41_31, ↓s_41_34, ↓s_41_37, ↓s_41_40, ↓s_41_43, ↓s_41_44, ↓s_41_45, ↓s_41_48, ↓s_41_51, ↓s_41_54, ↓s_41_57, ↓s_41_58, ↓s_41_61, ↓s_41_64, ↓s_41_65, ↓s_41_66, ↓s_41_67, ↓s_41_70, ↓s_41_71, ↓s_41_74, ↓s_41_77, ↓s_41_78, ↓s_41_81, ↓s_41_82, ↓s_41_85, ↓s_41_88, ↓s_41_89, ↓s_41_92, ↓s_41_93, ↓s_41_96, ↓s_41_97, ↓s_41_98, ↓s_41_101, ↓s_41_102, ↓s_41_105, ↓s_41_106, ↓s_41_109, ↓s_41_110, zio_0, zio_64, zio_2, zio_71, zio_76, zio_54, zio_55, zio_57, zio_28]
    refine yCon_mono (yCon_and C1 C2) (fun r m1 hm1 => ?_)
    obtain ⟨⟨⟨y, rfl⟩, R1, P1, Y1⟩, r', m2, ⟨y2, l, rfl, hl, hA, hy2⟩, al, er⟩ := hm1
    have ey : w32 y = w32 y2 := ydv_0 er
    have fin : ∀ r m, aGok m → Om m → (∀ i j, 95 ≤ i → m i j = mem i j) → w32 (m 0 11) = 0 → TP mem m → w32 r = tAn (pTx (l.length + 1) (.inr l) dD0 0).1 (pTx (l.length + 1) (.inr l) dD0 0).2.2 → (w32 (m 0 12), w32 (m 0 13)) = tFk (pTx (l.length + 1) (.inr l) dD0 0).1 → ((yOk (pTx (l.length + 1) (.inr l) dD0 0).1 → cDh m (pTx (l.length + 1) (.inr l) dD0 0).2.1) ∧ (¬ yOk (pTx (l.length + 1) (.inr l) dD0 0).1 → hyS mem m ∧ ¬ w32 (m 0 12) = 0)) → Q (some (0, r)) m := fun r m h1 h2 h3 h4 h5 h6 h7 h8 => hQ r m ⟨h1, h2, h3, by rw [if_pos ⟨x0, x1⟩]; exact h4⟩ h5 ⟨fun z => absurd ⟨x0, x1⟩ z, fun _ => ⟨l, hl, h6, h7, h8⟩⟩
    refine zgk_s hE xmo_41 60 zc_41 ?_
    simp only [ynok_30, ynok_31, w32c_0, w32c_1, w32c_2, w32c_3, w32c_4, w32c_5, w32c_6, w32c_7, w32c_8, w32c_9, w32c_10, w32c_11, w32c_12, w32c_13, w32c_14, w32c_m1, w32c_m2, w32c_118, Int.reduceAdd, Int.reduceSub, Int.reduceMul, yput_s, yput_n, znl_n, znl_0, znl_1, znl_4, ysum_n, ysum_0, ysum_1, ysum_4, true_and, and_true, Nat.reduceAdd, Nat.reduceLeDiff, true_implies, eq_self, true_or, or_true, or_false, false_or, not_true_eq_false, not_false_eq_true, false_implies, implies_true, yset_s, yset_o, yset_d, ne_eq, Nat.reduceEqDiff, Int.reduceToNat, Int.reduceEq, Int.reduceLE, Int.reduceLT, Classical.not_not, Nat.reduceLT, ↓zvk_s, ↓zvk_n, ↓s_41_0, ↓s_41_1, ↓s_41_4, ↓s_41_5, ↓s_41_6, ↓s_41_9, ↓g_41_12, ↓k_41_12, ↓s_41_14, ↓g_41_15, ↓k_41_15, ↓s_41_16, ↓s_41_19, ↓s_41_20, ↓s_41_23n, ↓s_41_23i, ↓s_41_23p, ↓s_41_24, ↓s_41_25, ↓s_41_26, ↓s_41_29, ↓s_41_30, ↓s_41_31, ↓s_41_34, ↓s_41_37, ↓s_41_40, ↓s_41_43, ↓s_41_44, ↓s_41_45, ↓s_41_48, ↓s_41_51, ↓s_41_54, ↓s_41_57, ↓s_41_58, ↓s_41_61, ↓s_41_64, ↓s_41_65, ↓s_41_66, ↓s_41_67, ↓s_41_70, ↓s_41_71, ↓s_41_74, ↓s_41_77, ↓s_41_78, ↓s_41_81, ↓s_41_82, ↓s_41_85, ↓s_41_88, ↓s_41_89, ↓s_41_92, ↓s_41_93, ↓s_41_96, ↓s_41_97, ↓s_41_98, ↓s_41_101, ↓s_41_102, ↓s_41_105, ↓s_41_106, ↓s_41_109, ↓s_41_110, zio_0, zio_64, zio_2, zio_71, zio_76, zio_54, zio_55, zio_57, zio_28]
    have a1 : aGok (yset m1 0 11 0) := aGok_set R1.1 (by rw [ag_0_11]; decide)
    have o1 : Om (yset m1 0 11 0) := yoc_Om m1 _ (fun i j hi => yset_o (fun e => by subst e; exact absurd hi (by decide))) R1.2.1
    have S1 := CQ_set a1 o1 (i := 0) (j := 12) (x := m1 55 7) (by decide) (by decide) (ag_32 ag_0_12)
    have S2 := CQ_tr S1 (CQ_set S1.1 S1.2.1 (i := 0) (j := 13) (x := m1 55 8) (by decide) (by decide) (ag_32 ag_0_13))
    have P2 : TP mem (yset (yset (yset m1 0 11 0) 0 12 (m1 55 7)) 0 13 (m1 55 8)) := TP_set (TP_set (TP_set P1 (by decide)) (by decide)) (by decide)
    have e11 : w32 (yset (yset (yset m1 0 11 0) 0 12 (m1 55 7)) 0 13 (m1 55 8) 0 11) = 0 := by rw [yset_d (by decide), yset_d (by decide), yset_s]; decide
    have eup : ∀ i j, 95 ≤ i → yset (yset (yset m1 0 11 0) 0 12 (m1 55 7)) 0 13 (m1 55 8) i j = mem i j := fun i j hi => by rw [S2.2.2.1 i j hi, yset_o (by omega)]; exact R1.2.2.1 i j hi
    have e7 : w32 (m1 55 7) = w32 (m2 55 7) := al 55 7 rfl
    have e8 : w32 (m1 55 8) = w32 (m2 55 8) := al 55 8 rfl
    have v12 : yset (yset (yset m1 0 11 0) 0 12 (m1 55 7)) 0 13 (m1 55 8) 0 12 = m1 55 7 := by rw [yset_d (by decide), yset_s]
    have v13 : yset (yset (yset m1 0 11 0) 0 12 (m1 55 7)) 0 13 (m1 55 8) 0 13 = m1 55 8 := yset_s
    have hfk : (w32 (m1 55 7), w32 (m1 55 8)) = tFk (pTx (l.length + 1) (.inr l) dD0 0).1 := by
      rw [e7, e8]
      have hT := hA.1
      revert hT
      generalize (pTx (l.length + 1) (.inr l) dD0 0).1 = X
      intro hT
      cases X with
      | inl e => exact Prod.ext hT.2.2.2.2.1 hT.2.2.2.2.2.2.1
      | inr l' =>
        obtain ⟨_, _, _, _, g1, e, g2, _⟩ := hT
        exact Prod.ext g1 g2.2
    have sS : ∀ c j, 1 ≤ c → yset (yset (yset m1 0 11 0) 0 12 (m1 55 7)) 0 13 (m1 55 8) c j = m1 c j := fun c j hc => by rw [yset_o (by omega), yset_o (by omega), yset_o (by omega)]
    have hox : w32 (m1 55 7) = 0 ↔ yOk (pTx (l.length + 1) (.inr l) dD0 0).1 := by
      rw [e7]
      have hT := hA.1
      revert hT
      generalize (pTx (l.length + 1) (.inr l) dD0 0).1 = X
      intro hT
      cases X with
      | inl e => exact ⟨fun z => absurd z (by have := hT.2.2.2.2.1; have := hT.2.2.2.2.2.1; omega), fun z => absurd z yOk_in⟩
      | inr l' => exact ⟨fun _ => ⟨l', rfl⟩, fun _ => hT.2.2.2.2.1⟩
    refine ⟨fun h7 => ?_, fun h7 => fin _ _ S2.1 S2.2.1 eup e11 P2 ?_ (by rw [v12, v13]; exact hfk) ⟨fun z => absurd (hox.mpr z) h7, fun _ => ⟨hyS_f (fun c j c1 c2 => by rw [sS c j (by omega)]; exact Y1 c j c1 c2), by rw [v12]; exact h7⟩⟩⟩
    · have hok : tAn (pTx (l.length + 1) (.inr l) dD0 0).1 (pTx (l.length + 1) (.inr l) dD0 0).2.2 = (pTx (l.length + 1) (.inr l) dD0 0).2.2 := by
        have hT := hA.1
        revert hT
        generalize (pTx (l.length + 1) (.inr l) dD0 0).1 = X
        intro hT
        cases X with
        | inl e => exact absurd (show w32 (m2 55 7) = 0 by rw [← e7]; exact h7) (by have := hT.2.2.2.2.1; have := hT.2.2.2.2.2.1; omega)
        | inr l' => rfl
      have C3 : yCon E (d + 15) xm_86 [(1, 2), (1, 28)] (yset (yset (yset m1 0 11 0) 0 12 (m1 55 7)) 0 13 (m1 55 8)) (fun r m3 => r = none ∧ CQ (yset (yset (yset m1 0 11 0) 0 12 (m1 55 7)) 0 13 (m1 55 8)) m3 ∧ TP mem m3 ∧ m3 0 12 = m1 55 7 ∧ m3 0 13 = m1 55 8) := by
        refine abs_take yoc_Om hm E hE _ (show 2 ≤ _ by omega) _ rfl _ _ _ ⟨rfl, rfl, trivial⟩ S2.1 S2.2.1 (fun q hq => by cases hq) (fun r m3 he => ?_)
        have R2 := CQ_of he (by decide +kernel)
        have P3 := TP_tr P2 (TP_of he.2.2.2.1 (by decide +kernel))
        have w12 := he.2.2.2.1 0 12 rfl
        have w13 := he.2.2.2.1 0 13 rfl
        rw [v12] at w12
        rw [v13] at w13
        obtain ⟨k1, -⟩ := he
        match r, k1 with
        | some y, k1 => exact absurd k1 (fun h => by cases h)
        | none, _ => exact ⟨rfl, R2, P3, w12, w13⟩
      have C4 : yCon E (d + 15) xm_86 [(1, 2), (1, 28)] (yset (yset (yset m1 0 11 0) 0 12 (m1 55 7)) 0 13 (m1 55 8)) (fun r m3 => ∀ c j, tkS c j → m3 c j = yset (yset (yset m1 0 11 0) 0 12 (m1 55 7)) 0 13 (m1 55 8) (c + 26) j) := g_take hE (by omega) (fun m' h1 _ => h1)
      refine yCon_mono (yCon_and C3 C4) (fun r m3 hm3 => ?_)
      obtain ⟨⟨rfl, R2, P3, w12, w13⟩, _, m3x, tk, al3, _⟩ := hm3
      have hcd : cDh m3 (pTx (l.length + 1) (.inr l) dD0 0).2.1 := by
        obtain ⟨lx, hlx⟩ := hox.mp h7
        exact cDh_tk (hA.2 lx hlx) (fun c j ht => by rw [al3 c j (yRl_t ht).1, tk c j ht, sS (c + 26) j (by omega), al (c + 26) j (yRl_t ht).2])
      refine zgk_n hE xmo_41 60 zc_41 ?_
      simp only [ynok_30, ynok_31, w32c_0, w32c_1, w32c_2, w32c_3, w32c_4, w32c_5, w32c_6, w32c_7, w32c_8, w32c_9, w32c_10, w32c_11, w32c_12, w32c_13, w32c_14, w32c_m1, w32c_m2, w32c_118, Int.reduceAdd, Int.reduceSub, Int.reduceMul, yput_s, yput_n, znl_n, znl_0, znl_1, znl_4, ysum_n, ysum_0, ysum_1, ysum_4, true_and, and_true, Nat.reduceAdd, Nat.reduceLeDiff, true_implies, eq_self, true_or, or_true, or_false, false_or, not_true_eq_false, not_false_eq_true, false_implies, implies_true, yset_s, yset_o, yset_d, ne_eq, Nat.reduceEqDiff, Int.reduceToNat, Int.reduceEq, Int.reduceLE, Int.reduceLT, Classical.not_not, Nat.reduceLT, ↓zvk_s, ↓zvk_n, ↓s_41_0, ↓s_41_1, ↓s_41_4, ↓s_41_5, ↓s_41_6, ↓s_41_9, ↓g_41_12, ↓k_41_12, ↓s_41_14, ↓g_41_15, ↓k_41_15, ↓s_41_16, ↓s_41_19, ↓s_41_20, ↓s_41_23n, ↓s_41_23i, ↓s_41_23p, ↓s_41_24, ↓s_41_25, ↓s_41_26, ↓s_41_29, ↓s_41_30, ↓s_41_31, ↓s_41_34, ↓s_41_37, ↓s_41_40, ↓s_41_43, ↓s_41_44, ↓s_41_45, ↓s_41_48, ↓s_41_51, ↓s_41_54, ↓s_41_57, ↓s_41_58, ↓s_41_61, ↓s_41_64, ↓s_41_65, ↓s_41_66, ↓s_41_67, ↓s_41_70, ↓s_41_71, ↓s_41_74, ↓s_41_77, ↓s_41_78, ↓s_41_81, ↓s_41_82, ↓s_41_85, ↓s_41_88, ↓s_41_89, ↓s_41_92, ↓s_41_93, ↓s_41_96, ↓s_41_97, ↓s_41_98, ↓s_41_101, ↓s_41_102, ↓s_41_105, ↓s_41_106, ↓s_41_109, ↓s_41_110, zio_0, zio_64, zio_2, zio_71, zio_76, zio_54, zio_55, zio_57, zio_28]
      refine abs_begin yoc_Om hm E hE _ (show 3 ≤ _ by omega) _ rfl _ _ _ ⟨rfl, rfl, trivial⟩ R2.1 R2.2.1 (fun q hq => by cases hq) (fun r m4 he => ?_)
      have R3 := CQ_tr R2 (CQ_of he (by decide +kernel))
      have P4 := TP_tr P3 (TP_of he.2.2.2.1 (by decide +kernel))
      have Y4 : ∀ c j, 2 ≤ c → c ≤ 26 → m4 c j = m3 c j := fun c j c1 c2 => he.2.2.2.1 c j (hyw_ok (by decide +kernel) c1 c2)
      have x12 := he.2.2.2.1 0 12 rfl
      have x13 := he.2.2.2.1 0 13 rfl
      rw [w12] at x12
      rw [w13] at x13
      obtain ⟨k1, -⟩ := he
      match r, k1 with
      | some y, k1 => exact absurd k1 (fun h => by cases h)
      | none, _ =>
        refine zgk_n hE xmo_41 60 zc_41 ?_
        simp only [ynok_30, ynok_31, w32c_0, w32c_1, w32c_2, w32c_3, w32c_4, w32c_5, w32c_6, w32c_7, w32c_8, w32c_9, w32c_10, w32c_11, w32c_12, w32c_13, w32c_14, w32c_m1, w32c_m2, w32c_118, Int.reduceAdd, Int.reduceSub, Int.reduceMul, yput_s, yput_n, znl_n, znl_0, znl_1, znl_4, ysum_n, ysum_0, ysum_1, ysum_4, true_and, and_true, Nat.reduceAdd, Nat.reduceLeDiff, true_implies, eq_self, true_or, or_true, or_false, false_or, not_true_eq_false, not_false_eq_true, false_implies, implies_true, yset_s, yset_o, yset_d, ne_eq, Nat.reduceEqDiff, Int.reduceToNat, Int.reduceEq, Int.reduceLE, Int.reduceLT, Classical.not_not, Nat.reduceLT, ↓zvk_s, ↓zvk_n, ↓s_41_0, ↓s_41_1, ↓s_41_4, ↓s_41_5, ↓s_41_6, ↓s_41_9, ↓g_41_12, ↓k_41_12, ↓s_41_14, ↓g_41_15, ↓k_41_15, ↓s_41_16, ↓s_41_19, ↓s_41_20, ↓s_41_23n, ↓s_41_23i, ↓s_41_23p, ↓s_41_24, ↓s_41_25, ↓s_41_26, ↓s_41_29, ↓s_41_30, ↓s_41_31, ↓s_41_34, ↓s_41_37, ↓s_41_40, ↓s_41_43, ↓s_41_44, ↓s_41_45, ↓s_41_48, ↓s_41_51, ↓s_41_54, ↓s_41_57, ↓s_41_58, ↓s_41_61, ↓s_41_64, ↓s_41_65, ↓s_41_66, ↓s_41_67, ↓s_41_70, ↓s_41_71, ↓s_41_74, ↓s_41_77, ↓s_41_78, ↓s_41_81, ↓s_41_82, ↓s_41_85, ↓s_41_88, ↓s_41_89, ↓s_41_92, ↓s_41_93, ↓s_41_96, ↓s_41_97, ↓s_41_98, ↓s_41_101, ↓s_41_102, ↓s_41_105, ↓s_41_106, ↓s_41_109, ↓s_41_110, zio_0, zio_64, zio_2, zio_71, zio_76, zio_54, zio_55, zio_57, zio_28]
        have T1 := CQ_tr R3 (CQ_set R3.1 R3.2.1 (i := 71) (j := 1) (x := 0) (by decide) (by decide) (by rw [ag_71_1]; decide))
        have T2 := CQ_tr T1 (CQ_set T1.1 T1.2.1 (i := 0) (j := 14) (x := 0) (by decide) (by decide) (by rw [ag_0_14]; decide))
        have T3 := CQ_tr T2 (CQ_set T2.1 T2.2.1 (i := 76) (j := 10) (x := 0) (by decide) (by decide) (by rw [ag_76_10]; decide))
        exact fin _ _ T3.1 T3.2.1 (fun i j hi => by rw [T3.2.2.1 i j hi]; exact eup i j hi) (by rw [T3.2.2.2]; exact e11) (TP_set (TP_set (TP_set P4 (by decide)) (by decide)) (by decide)) (by rw [hok, ey]; exact hy2) (by rw [yset_o (by decide), yset_d (by decide), yset_o (by decide), yset_o (by decide), yset_d (by decide), yset_o (by decide), x12, x13]; exact hfk) ⟨fun _ => cDh_w hcd (fun c j ht => by rw [yset_o (by have := tkS_c ht; omega), yset_o (by have := tkS_c ht; omega), yset_o (by have := tkS_c ht; omega), Y4 c j (tkS_c ht).1 (tkS_c ht).2]), fun z => absurd (hox.mp h7) z⟩
    · have hT := hA.1
      revert hT
      generalize (pTx (l.length + 1) (.inr l) dD0 0).1 = X
      intro hT
      cases X with
      | inl e => exact w32c_m1
      | inr l' => exact absurd (show w32 (m1 55 7) = 0 by rw [e7]; exact hT.2.2.2.2.1) h7
  simp only [ynok_30, ynok_31, w32c_0, w32c_1, w32c_2, w32c_3, w32c_4, w32c_5, w32c_6, w32c_7, w32c_8, w32c_9, w32c_10, w32c_11, w32c_12, w32c_13, w32c_14, w32c_m1, w32c_m2, w32c_118, Int.reduceAdd, Int.reduceSub, Int.reduceMul, yput_s, yput_n, znl_n, znl_0, znl_1, znl_4, ysum_n, ysum_0, ysum_1, ysum_4, true_and, and_true, Nat.reduceAdd, Nat.reduceLeDiff, true_implies, eq_self, true_or, or_true, or_false, false_or, not_true_eq_false, not_false_eq_true, false_implies, implies_true, yset_s, yset_o, yset_d, ne_eq, Nat.reduceEqDiff, Int.reduceToNat, Int.reduceEq, Int.reduceLE, Int.reduceLT, Classical.not_not, Nat.reduceLT, ↓zvk_s, ↓zvk_n, ↓s_41_0, ↓s_41_1, ↓s_41_4, ↓s_41_5, ↓s_41_6, ↓s_41_9, ↓g_41_12, ↓k_41_12, ↓s_41_14, ↓g_41_15, ↓k_41_15, ↓s_41_16, ↓s_41_19, ↓s_41_20, ↓s_41_23n, ↓s_41_23i, ↓s_41_23p, ↓s_41_24, ↓s_41_25, ↓s_41_26, ↓s_41_29, ↓s_41_30, ↓s_41_31, ↓s_41_34, ↓s_41_37, ↓s_41_40, ↓s_41_43, ↓s_41_44, ↓s_41_45, ↓s_41_48, ↓s_41_51, ↓s_41_54, ↓s_41_57, ↓s_41_58, ↓s_41_61, ↓s_41_64, ↓s_41_65, ↓s_41_66, ↓s_41_67, ↓s_41_70, ↓s_41_71, ↓s_41_74, ↓s_41_77, ↓s_41_78, ↓s_41_81, ↓s_41_82, ↓s_41_85, ↓s_41_88, ↓s_41_89, ↓s_41_92, ↓s_41_93, ↓s_41_96, ↓s_41_97, ↓s_41_98, ↓s_41_101, ↓s_41_102, ↓s_41_105, ↓s_41_106, ↓s_41_109, ↓s_41_110, zio_0, zio_64, zio_2, zio_71, zio_76, zio_54, zio_55, zio_57, zio_28]
  repeat' first | exact f12 (by omega) | exact f15 (by omega) (by omega) | omega | refine And.intro ?_ ?_ | intro _
end
section
/-! feed: the bytes, on both sides -/
theorem bm8 (a : Nat) (h : a < 4294967296) : ((a : Int).bmod (2^32)).bmod (2^8) = (if ((a % 256 : Nat) : Int) < 128 then ((a % 256 : Nat) : Int) else ((a % 256 : Nat) : Int) - 256) := by
  have e1 : (a : Int).bmod (2^32) = (a : Int) ∨ (a : Int).bmod (2^32) = (a : Int) - 4294967296 := by
    simp only [Int.bmod]
    split <;> omega
  have e2 : ∀ x : Int, x.bmod (2^8) = (if x % 256 < 128 then x % 256 else x % 256 - 256) := fun x => by
    simp only [Int.bmod]
    rfl
  rw [e2]
  rcases e1 with e | e <;> rw [e]
  · rw [show (a : Int) % 256 = ((a % 256 : Nat) : Int) by omega]
  · rw [show ((a : Int) - 4294967296) % 256 = ((a % 256 : Nat) : Int) by omega]
theorem i8_sBs (y : Int) : w32 ((iI y).toInt8.toInt32.toInt) = sBs (w32 (ybin 3 y 255)) := by
  have e : w32 ((iI y).toInt8.toInt32.toInt) = (iI y).toInt8.toInt := by
    show (Int32.ofInt ((iI y).toInt8.toInt32.toInt)).toInt = _
    rw [Int32.ofInt_toInt, Int8.toInt_toInt32]
  have hb : (iI y).toBitVec.toNat < 4294967296 := (iI y).toBitVec.isLt
  have e1 : iI y = nI ((iI y).toBitVec.toNat) := by
    apply Int32.toBitVec_inj.mp
    rw [nI_bv]
    simp
  have e3 : (iI y).toInt = ((iI y).toBitVec.toNat : Int).bmod (2^32) := BitVec.toInt_eq_toNat_bmod _
  have e4 : w32 (ybin 3 y 255) = (((iI y).toBitVec.toNat % 256 : Nat) : Int) := by
    show w32 (fbin 3 (iI y) (iI 255)).toInt = _
    have e5 : fbin 3 (iI y) (iI 255) = nI (Nat.land (iI y).toBitVec.toNat 255) := by
      rw [show iI 255 = nI 255 from iI_n 255]
      have : fbin 3 (nI (iI y).toBitVec.toNat) (nI 255) = nI (Nat.land (iI y).toBitVec.toNat 255) := xbin_ok (o := 3) rfl
      rw [← e1] at this
      exact this
    rw [e5, show Nat.land (iI y).toBitVec.toNat 255 = (iI y).toBitVec.toNat % 256 from Nat.and_two_pow_sub_one_eq_mod _ 8, w32_nI (by omega)]
  rw [e, Int32.toInt_toInt8, e3, bm8 _ hb, e4]
  rfl
def fb (v : Int) (q : Nat) : Int := w32 (ybin 3 (ybin 7 v (24 - 8 * (q : Int))) 255)
theorem fb_of {v s : Int} {q : Nat} (hq : q < 4) (h : w32 s = 24 - 8 * (q : Int)) : w32 (ybin 3 (ybin 7 v s) 255) = fb v q := by
  unfold fb
  rw [ybin7_ext (y' := 24 - 8 * (q : Int)) (h.trans (w32_of (by omega) (by omega)).symm)]
/-- so many bytes more, these -/
def FcX (mem : yMem) (k : Nat) (g : Nat → Int) (m : yMem) : Prop := TnQ mem (k : Int) m ∧ (∀ j, (j < (w32 (mem 0 11)).toNat ∨ (w32 (mem 0 11)).toNat + k ≤ j) → m 1 j = mem 1 j) ∧ (∀ q, q < k → w32 (m 1 ((w32 (mem 0 11)).toNat + q)) = sBs (g q))
theorem FcX_tr {mem m m' : yMem} {k : Nat} {g h : Nat → Int} (h0 : 0 ≤ w32 (mem 0 11)) (h1 : FcX mem k g m) (h2 : FcX m 4 h m') : FcX mem (k + 4) (fun q => if q < k then g q else h (q - k)) m' := by
  obtain ⟨a1, a2, a3⟩ := h1
  obtain ⟨b1, b2, b3⟩ := h2
  have e : (w32 (m 0 11)).toNat = (w32 (mem 0 11)).toNat + k := by rw [a1.2.2]; omega
  have T := TnQ_tr a1 b1
  refine ⟨⟨T.1, T.2.1, by rw [T.2.2]; push_cast; omega⟩, fun j hj => ?_, fun q hq => ?_⟩
  · rw [b2 j (by omega), a2 j (by omega)]
  · dsimp only
    by_cases hqk : q < k
    · rw [if_pos hqk, b2 _ (by omega)]
      exact a3 q hqk
    · rw [if_neg hqk]
      have := b3 (q - k) (by omega)
      rw [e, show (w32 (mem 0 11)).toNat + k + (q - k) = (w32 (mem 0 11)).toNat + q by omega] at this
      exact this
theorem tnx_loop {E : yE} (hE : yEok E) {d : Nat} {mem : yMem} {Q : Option yV → yMem → Prop} {x : Int} (h0 : 0 ≤ w32 (mem 0 11)) (h7 : w32 (mem 0 11) ≤ 796) (hQ : ∀ m, FcX mem 4 (fb x) m → Q none m) : ∀ (n : Nat) (s : Int) (k : Nat) (m : yMem), k + n = 4 → w32 s = 8 * (n : Int) - 8 → FcX mem k (fb x) m → zG E d xm_39 3 [some (1, 0), some (0, x), some (0, s)] [] m Q := by
  intro n
  induction n with
  | zero =>
    intro s k m h4 hs hT
    refine zgo_ok (n := 60) hE xmo_39 (cs := zc_39) ?_
    simp only [ynok_30, ynok_31, w32c_0, w32c_1, w32c_2, w32c_3, w32c_4, w32c_5, w32c_6, w32c_7, w32c_8, w32c_9, w32c_10, w32c_11, w32c_12, w32c_13, w32c_14, w32c_m1, w32c_m2, w32c_118, Int.reduceAdd, Int.reduceSub, Int.reduceMul, yput_s, yput_n, znl_n, znl_0, znl_1, znl_4, ysum_n, ysum_0, ysum_1, ysum_4, true_and, and_true, Nat.reduceAdd, Nat.reduceLeDiff, true_implies, eq_self, true_or, or_true, or_false, false_or, not_true_eq_false, not_false_eq_true, false_implies, implies_true, yset_s, yset_o, yset_d, ne_eq, Nat.reduceEqDiff, Int.reduceToNat, Int.reduceEq, Int.reduceLE, Int.reduceLT, Classical.not_not, Nat.reduceLT, ↓zvk_s, ↓zvk_n, ↓s_39_0, ↓s_39_2n, ↓s_39_2i, ↓s_39_2p, ↓g_39_3, ↓k_39_3, ↓s_39_4, ↓s_39_7, ↓s_39_8, ↓s_39_11, ↓s_39_14, ↓s_39_17, ↓s_39_18, ↓s_39_21, ↓s_39_22, ↓s_39_25, ↓s_39_26, ↓s_39_27, ↓s_39_28, ↓s_39_29, ↓s_39_30, ↓s_39_31a, ↓s_39_31b, ↓s_39_32, ↓s_39_35, ↓s_39_36, ↓s_39_37, ↓s_39_40n, ↓s_39_40i, ↓s_39_40p, ↓s_39_43, ↓s_39_46, w32c_24, w32c_800, zio_0, zar_1, zia_1, zln_1, zit_1]
    have e4 : k = 4 := by omega
    subst e4
    repeat' first | exact hQ _ hT | omega | refine And.intro ?_ ?_ | intro _
  | succ n ih =>
    intro s k m h4 hs hT
    have e11 := hT.1.2.2
    have e8 : w32 (s + -8) = w32 s - 8 := by rw [w32_ad (by rw [w32_of (x := -8) (by decide) (by decide)]; omega) (by rw [w32_of (x := -8) (by decide) (by decide)]; omega), w32_of (x := -8) (by decide) (by decide)]; omega
    have e1 : w32 (m 0 11 + 1) = w32 (m 0 11) + 1 := by rw [w32_ad (by rw [w32c_1]; omega) (by rw [w32c_1]; omega), w32c_1]
    have hb := i8_b (ybin 7 x s)
    have hv : w32 ((iI (ybin 7 x s)).toInt8.toInt32.toInt) = sBs (fb x k) := by
      rw [i8_sBs, fb_of (q := k) (by omega) (by omega)]
    have et : (w32 (m 0 11)).toNat = (w32 (mem 0 11)).toNat + k := by rw [e11]; omega
    have hT' : ∀ y, -128 ≤ w32 y → w32 y ≤ 127 → w32 y = sBs (fb x k) → FcX mem (k + 1) (fb x) (yset (yset m 1 (w32 (m 0 11)).toNat y) 0 11 (m 0 11 + 1)) := fun y y1 y2 y3 => by
      refine ⟨⟨aGok_set (aGok_set hT.1.1 (by rw [agam_A ae_1]; exact ⟨y1, y2⟩)) (by rw [ag_0_11, e1]; exact ⟨by dsimp only; omega, by dsimp only; omega⟩), fun i j h h' => ?_, by rw [yset_s, e1]; push_cast; omega⟩, fun j hj => ?_, fun q hq => ?_⟩
      · rw [yset_a]
        split
        · next e =>
          subst e
          rw [if_neg (by omega), yset_o h]
          exact hT.1.2.1 0 j h h'
        · rw [yset_o h]
          exact hT.1.2.1 i j h h'
      · rw [yset_o (by decide), yset_d (by omega)]
        exact hT.2.1 j (by omega)
      · rw [yset_o (by decide), et]
        by_cases hqk : q = k
        · subst hqk
          rw [yset_s]
          exact y3
        · rw [yset_d (by omega)]
          exact hT.2.2 q (by omega)
    refine zgo_ok (n := 60) hE xmo_39 (cs := zc_39) ?_
    simp only [ynok_30, ynok_31, w32c_0, w32c_1, w32c_2, w32c_3, w32c_4, w32c_5, w32c_6, w32c_7, w32c_8, w32c_9, w32c_10, w32c_11, w32c_12, w32c_13, w32c_14, w32c_m1, w32c_m2, w32c_118, Int.reduceAdd, Int.reduceSub, Int.reduceMul, yput_s, yput_n, znl_n, znl_0, znl_1, znl_4, ysum_n, ysum_0, ysum_1, ysum_4, true_and, and_true, Nat.reduceAdd, Nat.reduceLeDiff, true_implies, eq_self, true_or, or_true, or_false, false_or, not_true_eq_false, not_false_eq_true, false_implies, implies_true, yset_s, yset_o, yset_d, ne_eq, Nat.reduceEqDiff, Int.reduceToNat, Int.reduceEq, Int.reduceLE, Int.reduceLT, Classical.not_not, Nat.reduceLT, ↓zvk_s, ↓zvk_n, ↓s_39_0, ↓s_39_2n, ↓s_39_2i, ↓s_39_2p, ↓g_39_3, ↓k_39_3, ↓s_39_4, ↓s_39_7, ↓s_39_8, ↓s_39_11, ↓s_39_14, ↓s_39_17, ↓s_39_18, ↓s_39_21, ↓s_39_22, ↓s_39_25, ↓s_39_26, ↓s_39_27, ↓s_39_28, ↓s_39_29, ↓s_39_30, ↓s_39_31a, ↓s_39_31b, ↓s_39_32, ↓s_39_35, ↓s_39_36, ↓s_39_37, ↓s_39_40n, ↓s_39_40i, ↓s_39_40p, ↓s_39_43, ↓s_39_46, w32c_24, w32c_800, zio_0, zar_1, zia_1, zln_1, zit_1]
    exact ⟨fun h => absurd h (by omega), fun _ => ⟨fun h => absurd h (by omega), fun _ => ⟨⟨by omega, by omega⟩, hb, ih (s + -8) (k + 1) _ (by omega) (by omega) (hT' _ hb.1 hb.2 hv)⟩⟩⟩
theorem x_tapeNumber {E : yE} (hE : yEok E) {D : Nat} (hD : 1 ≤ D) {mem : yMem} {Q : Option yV → yMem → Prop} {x : Int} (hG : aGok mem) (h7 : w32 (mem 0 11) ≤ 796) (hQ : ∀ m, FcX mem 4 (fb x) m → Q none m) : yCon E D xm_39 [(1, 0), (0, x)] mem Q := by
  obtain ⟨d, rfl⟩ := Nat.exists_eq_add_of_le' hD
  refine e_39 ?_
  refine zvc_ok hE 90 zc_39 _ _ _ _ _ _ _ xmo_39 ?_
  have g11 := ag hG 0 11 ag_0_11
  simp only [ynok_30, ynok_31, w32c_0, w32c_1, w32c_2, w32c_3, w32c_4, w32c_5, w32c_6, w32c_7, w32c_8, w32c_9, w32c_10, w32c_11, w32c_12, w32c_13, w32c_14, w32c_m1, w32c_m2, w32c_118, Int.reduceAdd, Int.reduceSub, Int.reduceMul, yput_s, yput_n, znl_n, znl_0, znl_1, znl_4, ysum_n, ysum_0, ysum_1, ysum_4, true_and, and_true, Nat.reduceAdd, Nat.reduceLeDiff, true_implies, eq_self, true_or, or_true, or_false, false_or, not_true_eq_false, not_false_eq_true, false_implies, implies_true, yset_s, yset_o, yset_d, ne_eq, Nat.reduceEqDiff, Int.reduceToNat, Int.reduceEq, Int.reduceLE, Int.reduceLT, Classical.not_not, Nat.reduceLT, ↓zvk_s, ↓zvk_n, ↓s_39_0, ↓s_39_2n, ↓s_39_2i, ↓s_39_2p, ↓g_39_3, ↓k_39_3, ↓s_39_4, ↓s_39_7, ↓s_39_8, ↓s_39_11, ↓s_39_14, ↓s_39_17, ↓s_39_18, ↓s_39_21, ↓s_39_22, ↓s_39_25, ↓s_39_26, ↓s_39_27, ↓s_39_28, ↓s_39_29, ↓s_39_30, ↓s_39_31a, ↓s_39_31b, ↓s_39_32, ↓s_39_35, ↓s_39_36, ↓s_39_37, ↓s_39_40n, ↓s_39_40i, ↓s_39_40p, ↓s_39_43, ↓s_39_46, w32c_24, w32c_800, zio_0, zar_1, zia_1, zln_1, zit_1]
  exact tnx_loop hE g11.1 h7 hQ 4 _ 0 mem rfl (by decide) ⟨⟨hG, fun _ _ _ _ => rfl, by show w32 (mem 0 11) = w32 (mem 0 11) + 0; omega⟩, fun _ _ => rfl, fun q hq => absurd hq (Nat.not_lt_zero _)⟩
/-- the twenty bytes -/
def gx (a b c e f : Int) (q : Nat) : Int := if q < 16 then (if q < 12 then (if q < 8 then (if q < 4 then fb a q else fb b (q - 4)) else fb c (q - 8)) else fb e (q - 12)) else fb f (q - 16)
def FxX (mem : yMem) (g : Nat → Int) (r : Int) (m : yMem) : Prop := FxQ mem r m ∧ (∀ i j, i ≠ 1 → (i ≠ 0 ∨ j ≠ 11) → m i j = mem i j) ∧ (w32 (mem 0 11) ≤ 780 → (∀ j, (j < (w32 (mem 0 11)).toNat ∨ (w32 (mem 0 11)).toNat + 20 ≤ j) → m 1 j = mem 1 j) ∧ (∀ q, q < 20 → w32 (m 1 ((w32 (mem 0 11)).toNat + q)) = sBs (g q))) ∧ (¬ w32 (mem 0 11) ≤ 780 → ∀ j, m 1 j = mem 1 j)
theorem x_feed {E : yE} (hE : yEok E) {D : Nat} (hD : 2 ≤ D) {mem : yMem} {Q : Option yV → yMem → Prop} {a b c e f : Int} (hG : aGok mem) (hQ : ∀ r m, FxX mem (gx a b c e f) r m → Q (some (0, r)) m) : yCon E D xm_14 [(1, 0), (0, a), (0, b), (0, c), (0, e), (0, f)] mem Q := by
  obtain ⟨d, rfl⟩ := Nat.exists_eq_add_of_le' hD
  refine e_14 ?_
  refine zvc_ok hE 90 [] _ _ _ _ _ _ _ xmo_14 ?_
  have g11 := ag hG 0 11 ag_0_11
  have h0 : 0 ≤ w32 (mem 0 11) := g11.1
  have e20 : w32 (mem 0 11 + 20) = w32 (mem 0 11) + 20 := by rw [w32_ad (by rw [w32c_20]; omega) (by rw [w32c_20]; omega), w32c_20]
  simp only [ynok_30, ynok_31, w32c_0, w32c_1, w32c_2, w32c_3, w32c_4, w32c_5, w32c_6, w32c_7, w32c_8, w32c_9, w32c_10, w32c_11, w32c_12, w32c_13, w32c_14, w32c_m1, w32c_m2, w32c_118, Int.reduceAdd, Int.reduceSub, Int.reduceMul, yput_s, yput_n, znl_n, znl_0, znl_1, znl_4, ysum_n, ysum_0, ysum_1, ysum_4, true_and, and_true, Nat.reduceAdd, Nat.reduceLeDiff, true_implies, eq_self, true_or, or_true, or_false, false_or, not_true_eq_false, not_false_eq_true, false_implies, implies_true, yset_s, yset_o, yset_d, ne_eq, Nat.reduceEqDiff, Int.reduceToNat, Int.reduceEq, Int.reduceLE, Int.reduceLT, Classical.not_not, Nat.reduceLT, ↓zvk_s, ↓zvk_n, ↓s_14_0, ↓s_14_1, ↓s_14_4, ↓s_14_6, ↓s_14_7, ↓s_14_10, ↓s_14_13, ↓s_14_14, ↓s_14_15, ↓s_14_16, ↓s_14_17, ↓s_14_20, ↓s_14_21, ↓s_14_22, ↓s_14_25, ↓s_14_26, ↓s_14_27, ↓s_14_30, ↓s_14_31, ↓s_14_33, ↓s_14_36, ↓s_14_37, ↓s_14_39, ↓s_14_42, ↓s_14_43, ↓s_14_46, w32c_20, w32c_800, zio_0]
  refine ⟨fun h => ?_, fun h => hQ _ _ ⟨⟨hG, fun _ _ _ => rfl, by rw [if_neg (by omega)]; exact ⟨by decide, rfl⟩⟩, fun _ _ _ _ => rfl, fun z => absurd z (by omega), fun _ _ => rfl⟩⟩
  refine x_tapeNumber hE (by omega) hG (by omega) (fun m1 T1 => ?_)
  refine zgk_n hE xmo_14 60 [] ?_
  simp only [ynok_30, ynok_31, w32c_0, w32c_1, w32c_2, w32c_3, w32c_4, w32c_5, w32c_6, w32c_7, w32c_8, w32c_9, w32c_10, w32c_11, w32c_12, w32c_13, w32c_14, w32c_m1, w32c_m2, w32c_118, Int.reduceAdd, Int.reduceSub, Int.reduceMul, yput_s, yput_n, znl_n, znl_0, znl_1, znl_4, ysum_n, ysum_0, ysum_1, ysum_4, true_and, and_true, Nat.reduceAdd, Nat.reduceLeDiff, true_implies, eq_self, true_or, or_true, or_false, false_or, not_true_eq_false, not_false_eq_true, false_implies, implies_true, yset_s, yset_o, yset_d, ne_eq, Nat.reduceEqDiff, Int.reduceToNat, Int.reduceEq, Int.reduceLE, Int.reduceLT, Classical.not_not, Nat.reduceLT, ↓zvk_s, ↓zvk_n, ↓s_14_0, ↓s_14_1, ↓s_14_4, ↓s_14_6, ↓s_14_7, ↓s_14_10, ↓s_14_13, ↓s_14_14, ↓s_14_15, ↓s_14_16, ↓s_14_17, ↓s_14_20, ↓s_14_21, ↓s_14_22, ↓s_14_25, ↓s_14_26, ↓s_14_27, ↓s_14_30, ↓s_14_31, ↓s_14_33, ↓s_14_36, ↓s_14_37, ↓s_14_39, ↓s_14_42, ↓s_14_43, ↓s_14_46, w32c_20, w32c_800, zio_0]
  refine x_tapeNumber hE (by omega) T1.1.1 (by have := T1.1.2.2; omega) (fun m2 T2 => ?_)
  have T2 := FcX_tr h0 T1 T2
  refine zgk_n hE xmo_14 60 [] ?_
  simp only [ynok_30, ynok_31, w32c_0, w32c_1, w32c_2, w32c_3, w32c_4, w32c_5, w32c_6, w32c_7, w32c_8, w32c_9, w32c_10, w32c_11, w32c_12, w32c_13, w32c_14, w32c_m1, w32c_m2, w32c_118, Int.reduceAdd, Int.reduceSub, Int.reduceMul, yput_s, yput_n, znl_n, znl_0, znl_1, znl_4, ysum_n, ysum_0, ysum_1, ysum_4, true_and, and_true, Nat.reduceAdd, Nat.reduceLeDiff, true_implies, eq_self, true_or, or_true, or_false, false_or, not_true_eq_false, not_false_eq_true, false_implies, implies_true, yset_s, yset_o, yset_d, ne_eq, Nat.reduceEqDiff, Int.reduceToNat, Int.reduceEq, Int.reduceLE, Int.reduceLT, Classical.not_not, Nat.reduceLT, ↓zvk_s, ↓zvk_n, ↓s_14_0, ↓s_14_1, ↓s_14_4, ↓s_14_6, ↓s_14_7, ↓s_14_10, ↓s_14_13, ↓s_14_14, ↓s_14_15, ↓s_14_16, ↓s_14_17, ↓s_14_20, ↓s_14_21, ↓s_14_22, ↓s_14_25, ↓s_14_26, ↓s_14_27, ↓s_14_30, ↓s_14_31, ↓s_14_33, ↓s_14_36, ↓s_14_37, ↓s_14_39, ↓s_14_42, ↓s_14_43, ↓s_14_46, w32c_20, w32c_800, zio_0]
  refine x_tapeNumber hE (by omega) T2.1.1 (by have := T2.1.2.2; omega) (fun m3 T3 => ?_)
  have T3 := FcX_tr h0 T2 T3
  refine zgk_n hE xmo_14 60 [] ?_
  simp only [ynok_30, ynok_31, w32c_0, w32c_1, w32c_2, w32c_3, w32c_4, w32c_5, w32c_6, w32c_7, w32c_8, w32c_9, w32c_10, w32c_11, w32c_12, w32c_13, w32c_14, w32c_m1, w32c_m2, w32c_118, Int.reduceAdd, Int.reduceSub, Int.reduceMul, yput_s, yput_n, znl_n, znl_0, znl_1, znl_4, ysum_n, ysum_0, ysum_1, ysum_4, true_and, and_true, Nat.reduceAdd, Nat.reduceLeDiff, true_implies, eq_self, true_or, or_true, or_false, false_or, not_true_eq_false, not_false_eq_true, false_implies, implies_true, yset_s, yset_o, yset_d, ne_eq, Nat.reduceEqDiff, Int.reduceToNat, Int.reduceEq, Int.reduceLE, Int.reduceLT, Classical.not_not, Nat.reduceLT, ↓zvk_s, ↓zvk_n, ↓s_14_0, ↓s_14_1, ↓s_14_4, ↓s_14_6, ↓s_14_7, ↓s_14_10, ↓s_14_13, ↓s_14_14, ↓s_14_15, ↓s_14_16, ↓s_14_17, ↓s_14_20, ↓s_14_21, ↓s_14_22, ↓s_14_25, ↓s_14_26, ↓s_14_27, ↓s_14_30, ↓s_14_31, ↓s_14_33, ↓s_14_36, ↓s_14_37, ↓s_14_39, ↓s_14_42, ↓s_14_43, ↓s_14_46, w32c_20, w32c_800, zio_0]
  refine x_tapeNumber hE (by omega) T3.1.1 (by have := T3.1.2.2; omega) (fun m4 T4 => ?_)
  have T4 := FcX_tr h0 T3 T4
  refine zgk_n hE xmo_14 60 [] ?_
  simp only [ynok_30, ynok_31, w32c_0, w32c_1, w32c_2, w32c_3, w32c_4, w32c_5, w32c_6, w32c_7, w32c_8, w32c_9, w32c_10, w32c_11, w32c_12, w32c_13, w32c_14, w32c_m1, w32c_m2, w32c_118, Int.reduceAdd, Int.reduceSub, Int.reduceMul, yput_s, yput_n, znl_n, znl_0, znl_1, znl_4, ysum_n, ysum_0, ysum_1, ysum_4, true_and, and_true, Nat.reduceAdd, Nat.reduceLeDiff, true_implies, eq_self, true_or, or_true, or_false, false_or, not_true_eq_false, not_false_eq_true, false_implies, implies_true, yset_s, yset_o, yset_d, ne_eq, Nat.reduceEqDiff, Int.reduceToNat, Int.reduceEq, Int.reduceLE, Int.reduceLT, Classical.not_not, Nat.reduceLT, ↓zvk_s, ↓zvk_n, ↓s_14_0, ↓s_14_1, ↓s_14_4, ↓s_14_6, ↓s_14_7, ↓s_14_10, ↓s_14_13, ↓s_14_14, ↓s_14_15, ↓s_14_16, ↓s_14_17, ↓s_14_20, ↓s_14_21, ↓s_14_22, ↓s_14_25, ↓s_14_26, ↓s_14_27, ↓s_14_30, ↓s_14_31, ↓s_14_33, ↓s_14_36, ↓s_14_37, ↓s_14_39, ↓s_14_42, ↓s_14_43, ↓s_14_46, w32c_20, w32c_800, zio_0]
  refine x_tapeNumber hE (by omega) T4.1.1 (by have := T4.1.2.2; omega) (fun m5 T5 => ?_)
  have T5 := FcX_tr h0 T4 T5
  refine zgk_n hE xmo_14 60 [] ?_
  simp only [ynok_30, ynok_31, w32c_0, w32c_1, w32c_2, w32c_3, w32c_4, w32c_5, w32c_6, w32c_7, w32c_8, w32c_9, w32c_10, w32c_11, w32c_12, w32c_13, w32c_14, w32c_m1, w32c_m2, w32c_118, Int.reduceAdd, Int.reduceSub, Int.reduceMul, yput_s, yput_n, znl_n, znl_0, znl_1, znl_4, ysum_n, ysum_0, ysum_1, ysum_4, true_and, and_true, Nat.reduceAdd, Nat.reduceLeDiff, true_implies, eq_self, true_or, or_true, or_false, false_or, not_true_eq_false, not_false_eq_true, false_implies, implies_true, yset_s, yset_o, yset_d, ne_eq, Nat.reduceEqDiff, Int.reduceToNat, Int.reduceEq, Int.reduceLE, Int.reduceLT, Classical.not_not, Nat.reduceLT, ↓zvk_s, ↓zvk_n, ↓s_14_0, ↓s_14_1, ↓s_14_4, ↓s_14_6, ↓s_14_7, ↓s_14_10, ↓s_14_13, ↓s_14_14, ↓s_14_15, ↓s_14_16, ↓s_14_17, ↓s_14_20, ↓s_14_21, ↓s_14_22, ↓s_14_25, ↓s_14_26, ↓s_14_27, ↓s_14_30, ↓s_14_31, ↓s_14_33, ↓s_14_36, ↓s_14_37, ↓s_14_39, ↓s_14_42, ↓s_14_43, ↓s_14_46, w32c_20, w32c_800, zio_0]
  have e5 := T5.1.2.2
  exact hQ _ _ ⟨⟨T5.1.1, fun i j hi => T5.1.2.1 i j (by omega) (Or.inl (by omega)), by rw [if_pos (by omega)]; omega⟩, T5.1.2.1, fun _ => ⟨T5.2.1, T5.2.2⟩, fun z => absurd (show w32 (mem 0 11) ≤ 780 by omega) z⟩
/-- feed of the reference, its bytes -/
def FrX (mem : yMem) (g : Nat → Int) (r : Int) (m : yMem) : Prop := FrQ mem r m ∧ (w32 (mem 95 2) ≤ 780 → (∀ j, (j < (w32 (mem 95 2)).toNat ∨ (w32 (mem 95 2)).toNat + 20 ≤ j) → m 96 j = mem 96 j) ∧ (∀ q, q < 20 → w32 (m 96 ((w32 (mem 95 2)).toNat + q)) = g q)) ∧ (¬ w32 (mem 95 2) ≤ 780 → ∀ j, m 96 j = mem 96 j) ∧ (∀ j, j ≠ 0 → j ≠ 2 → m 95 j = mem 95 j)
theorem fex_loop {E : yE} (hE : yEok E) {d : Nat} {mem : yMem} {Q : Option yV → yMem → Prop} {a b c e f : Int} (hG : aGok mem) (h7 : w32 (mem 95 2) ≤ 780) (hQ : ∀ r m, FrX mem (gx a b c e f) r m → Q (some (0, r)) m) : ∀ (n : Nat) (k : Int) (r7 : Option yV) (m : yMem), (20 - w32 k).toNat = n → 0 ≤ w32 k → w32 k ≤ 20 → aGok m → (∀ i j, i ≠ 96 → m i j = mem i j) → (∀ j, (j < (w32 (mem 95 2)).toNat ∨ (w32 (mem 95 2)).toNat + (w32 k).toNat ≤ j) → m 96 j = mem 96 j) → (∀ q, q < (w32 k).toNat → w32 (m 96 ((w32 (mem 95 2)).toNat + q)) = gx a b c e f q) → zG E d xm_167 20 [some (1, 95), some (0, a), some (0, b), some (0, c), some (0, e), some (0, f), some (0, k), r7] [] m Q := by
  have g2 := ag hG 95 2 ag_95_2
  have g20 : 0 ≤ w32 (mem 95 2) := g2.1
  intro n
  induction n with
  | zero =>
    intro k r7 m hn h0 h1 hGm hF hO hC
    have e2 : m 95 2 = mem 95 2 := hF 95 2 (by decide)
    have e20 : w32 (mem 95 2 + 20) = w32 (mem 95 2) + 20 := by rw [w32_ad (by rw [w32c_20]; omega) (by rw [w32c_20]; omega), w32c_20]
    have ek : (w32 k).toNat = 20 := by omega
    rw [ek] at hO hC
    refine zgo_ok (n := 60) hE xmo_167 (cs := zc_167) ?_
    simp only [ynok_30, ynok_31, w32c_0, w32c_1, w32c_2, w32c_3, w32c_4, w32c_5, w32c_6, w32c_7, w32c_8, w32c_9, w32c_10, w32c_11, w32c_12, w32c_13, w32c_14, w32c_m1, w32c_m2, w32c_118, Int.reduceAdd, Int.reduceSub, Int.reduceMul, yput_s, yput_n, znl_n, znl_0, znl_1, znl_4, ysum_n, ysum_0, ysum_1, ysum_4, true_and, and_true, Nat.reduceAdd, Nat.reduceLeDiff, true_implies, eq_self, true_or, or_true, or_false, false_or, not_true_eq_false, not_false_eq_true, false_implies, implies_true, yset_s, yset_o, yset_d, ne_eq, Nat.reduceEqDiff, Int.reduceToNat, Int.reduceEq, Int.reduceLE, Int.reduceLT, Classical.not_not, Nat.reduceLT, ↓zvk_s, ↓zvk_n, ↓s_167_0, ↓s_167_1, ↓s_167_2, ↓s_167_5, ↓s_167_6, ↓s_167_9, ↓s_167_12, ↓s_167_15, ↓s_167_16, ↓s_167_17, ↓s_167_18n, ↓s_167_18i, ↓s_167_18p, ↓g_167_20, ↓k_167_20, ↓s_167_22, ↓s_167_24, ↓s_167_27, ↓s_167_29, ↓s_167_30, ↓s_167_33, ↓s_167_34, ↓s_167_37, ↓s_167_39, ↓s_167_41, ↓s_167_44, ↓s_167_45, ↓s_167_48, ↓s_167_50, ↓s_167_52, ↓s_167_55, ↓s_167_56, ↓s_167_59, ↓s_167_61, ↓s_167_63, ↓s_167_66, ↓s_167_68, ↓s_167_71, ↓g_167_73n, ↓g_167_73i, ↓g_167_73p, ↓k_167_73, ↓s_167_75, ↓s_167_76, ↓s_167_79, ↓s_167_80, ↓s_167_83, ↓s_167_85, ↓s_167_86, ↓s_167_88, ↓s_167_90, ↓s_167_92, ↓s_167_94, ↓s_167_95, ↓s_167_96, ↓s_167_97, ↓s_167_98, ↓s_167_99, ↓s_167_102, ↓s_167_103, ↓s_167_104n, ↓s_167_104i, ↓s_167_104p, ↓s_167_107, ↓s_167_110, ↓s_167_111a, ↓s_167_111b, ↓s_167_112, ↓s_167_115, ↓s_167_117, ↓s_167_118, ↓s_167_121, ↓s_167_122, ↓s_167_125, w32c_780, w32c_20, w32c_16, w32c_24, w32c_255, zar_96, zia_96, zln_96, zit_96, zio_95]
    rw [e2]
    refine ⟨fun _ => hQ _ _ ⟨⟨aGok_set hGm (by rw [ag_95_2, e20]; exact ⟨by dsimp only; omega, by dsimp only; omega⟩), fun i j i1 i2 => by rw [yset_o i1]; exact hF i j i2, by rw [if_pos h7]; exact ⟨e20, by rw [yset_s]; exact e20⟩⟩, fun _ => ⟨fun j hj => by rw [yset_o (by decide)]; exact hO j hj, fun q hq => by rw [yset_o (by decide)]; exact hC q hq⟩, fun z => absurd h7 z, fun j _ j2 => by rw [yset_d j2]; exact hF 95 j (by decide)⟩, fun h => absurd (show (20 : Int) ≤ w32 k by omega) h⟩
  | succ n ih =>
    intro k r7 m hn h0 h1 hGm hF hO hC
    have e2 : m 95 2 = mem 95 2 := hF 95 2 (by decide)
    have e1 : w32 (k + 1) = w32 k + 1 := by rw [w32_ad (by rw [w32c_1]; omega) (by rw [w32c_1]; omega), w32c_1]
    have e1n : (w32 (k + 1)).toNat = (w32 k).toNat + 1 := by rw [e1]; omega
    have ek : w32 (mem 95 2 + k) = w32 (mem 95 2) + w32 k := w32_ad (by omega) (by omega)
    have ekn : (w32 (mem 95 2 + k)).toNat = (w32 (mem 95 2)).toNat + (w32 k).toNat := by rw [ek]; omega
    have e4 : w32 4 = 4 := by decide
    have er : w32 (ybin 10 k 4) = (((w32 k).toNat % 4 : Nat) : Int) := by
      have wt : w32 (ybin 10 k 4) = (fbin 10 (iI k) (iI 4)).toInt := by
        show (Int32.ofInt (fbin 10 (iI k) (iI 4)).toInt).toInt = _
        rw [Int32.ofInt_toInt]
      rw [wt, y_rem h0 (by rw [e4]; decide), e4]
      omega
    have e8r : w32 (8 * ybin 10 k 4) = 8 * (((w32 k).toNat % 4 : Nat) : Int) := by rw [w32_k (by decide) (by rw [er]; omega) (by rw [er]; omega), er]
    have es : w32 (24 - 8 * ybin 10 k 4) = 24 - 8 * (((w32 k).toNat % 4 : Nat) : Int) := by
      rw [w32_sb (by rw [show w32 24 = 24 by decide, e8r]; omega) (by rw [show w32 24 = 24 by decide, e8r]; omega), show w32 24 = 24 by decide, e8r]
    have f73 : ∀ (v : Int) (r7 : Option yV), fb v ((w32 k).toNat % 4) = gx a b c e f (w32 k).toNat → zG E d xm_167 73 [some (1, 95), some (0, a), some (0, b), some (0, c), some (0, e), some (0, f), some (0, k), r7] [(0, v)] m Q := fun v r7 hv => by
      refine zgo_ok (n := 60) hE xmo_167 (cs := zc_167) ?_
      simp only [ynok_30, ynok_31, w32c_0, w32c_1, w32c_2, w32c_3, w32c_4, w32c_5, w32c_6, w32c_7, w32c_8, w32c_9, w32c_10, w32c_11, w32c_12, w32c_13, w32c_14, w32c_m1, w32c_m2, w32c_118, Int.reduceAdd, Int.reduceSub, Int.reduceMul, yput_s, yput_n, znl_n, znl_0, znl_1, znl_4, ysum_n, ysum_0, ysum_1, ysum_4, true_and, and_true, Nat.reduceAdd, Nat.reduceLeDiff, true_implies, eq_self, true_or, or_true, or_false, false_or, not_true_eq_false, not_false_eq_true, false_implies, implies_true, yset_s, yset_o, yset_d, ne_eq, Nat.reduceEqDiff, Int.reduceToNat, Int.reduceEq, Int.reduceLE, Int.reduceLT, Classical.not_not, Nat.reduceLT, ↓zvk_s, ↓zvk_n, ↓s_167_0, ↓s_167_1, ↓s_167_2, ↓s_167_5, ↓s_167_6, ↓s_167_9, ↓s_167_12, ↓s_167_15, ↓s_167_16, ↓s_167_17, ↓s_167_18n, ↓s_167_18i, ↓s_167_18p, ↓s_167_18j, ↓g_167_20, ↓k_167_20, ↓s_167_22, ↓s_167_24, ↓s_167_27, ↓s_167_29, ↓s_167_30, ↓s_167_33, ↓s_167_34, ↓s_167_37, ↓s_167_39, ↓s_167_41, ↓s_167_44, ↓s_167_45, ↓s_167_48, ↓s_167_50, ↓s_167_52, ↓s_167_55, ↓s_167_56, ↓s_167_59, ↓s_167_61, ↓s_167_63, ↓s_167_66, ↓s_167_68, ↓s_167_71, ↓g_167_73n, ↓g_167_73i, ↓g_167_73p, ↓g_167_73j, ↓k_167_73, ↓s_167_75, ↓s_167_76, ↓s_167_79, ↓s_167_80, ↓s_167_83, ↓s_167_85, ↓s_167_86, ↓s_167_88, ↓s_167_90, ↓s_167_92, ↓s_167_94, ↓s_167_95, ↓s_167_96, ↓s_167_97, ↓s_167_98, ↓s_167_99, ↓s_167_102, ↓s_167_103, ↓s_167_104n, ↓s_167_104i, ↓s_167_104p, ↓s_167_104j, ↓s_167_107, ↓s_167_110, ↓s_167_111a, ↓s_167_111b, ↓s_167_112, ↓s_167_115, ↓s_167_117, ↓s_167_118, ↓s_167_121, ↓s_167_122, ↓s_167_125, w32c_780, w32c_20, w32c_16, w32c_24, w32c_255, zar_96, zia_96, zln_96, zit_96, zio_95]
      rw [e2]
      refine ⟨⟨by omega, by omega⟩, ih (k + 1) _ _ (by omega) (by omega) (by omega) (aGok_set hGm (by rw [agam_A ae_96]; exact and255 _)) (fun i j hi => by rw [yset_o hi]; exact hF i j hi) (fun j hj => ?_) (fun q hq => ?_)⟩
      · rw [ekn, yset_d (by omega)]
        exact hO j (by omega)
      · rw [ekn]
        by_cases hqk : q = (w32 k).toNat
        · subst hqk
          rw [yset_s, fb_of (q := (w32 k).toNat % 4) (by omega) es]
          exact hv
        · rw [yset_d (by omega)]
          exact hC q (by omega)
    have g1 : w32 k < 4 → fb a ((w32 k).toNat % 4) = gx a b c e f (w32 k).toNat := fun z => by
      unfold gx
      rw [if_pos (by omega), if_pos (by omega), if_pos (by omega), if_pos (by omega), show (w32 k).toNat % 4 = (w32 k).toNat by omega]
    have g2' : 4 ≤ w32 k → w32 k < 8 → fb b ((w32 k).toNat % 4) = gx a b c e f (w32 k).toNat := fun z1 z2 => by
      unfold gx
      rw [if_pos (by omega), if_pos (by omega), if_pos (by omega), if_neg (by omega), show (w32 k).toNat % 4 = (w32 k).toNat - 4 by omega]
    have g3 : 8 ≤ w32 k → w32 k < 12 → fb c ((w32 k).toNat % 4) = gx a b c e f (w32 k).toNat := fun z1 z2 => by
      unfold gx
      rw [if_pos (by omega), if_pos (by omega), if_neg (by omega), show (w32 k).toNat % 4 = (w32 k).toNat - 8 by omega]
    have g4 : 12 ≤ w32 k → w32 k < 16 → fb e ((w32 k).toNat % 4) = gx a b c e f (w32 k).toNat := fun z1 z2 => by
      unfold gx
      rw [if_pos (by omega), if_neg (by omega), show (w32 k).toNat % 4 = (w32 k).toNat - 12 by omega]
    have g5 : 16 ≤ w32 k → fb f ((w32 k).toNat % 4) = gx a b c e f (w32 k).toNat := fun z1 => by
      unfold gx
      rw [if_neg (by omega), show (w32 k).toNat % 4 = (w32 k).toNat - 16 by omega]
    refine zgo_ok (n := 60) hE xmo_167 (cs := zc_167) ?_
    simp only [ynok_30, ynok_31, w32c_0, w32c_1, w32c_2, w32c_3, w32c_4, w32c_5, w32c_6, w32c_7, w32c_8, w32c_9, w32c_10, w32c_11, w32c_12, w32c_13, w32c_14, w32c_m1, w32c_m2, w32c_118, Int.reduceAdd, Int.reduceSub, Int.reduceMul, yput_s, yput_n, znl_n, znl_0, znl_1, znl_4, ysum_n, ysum_0, ysum_1, ysum_4, true_and, and_true, Nat.reduceAdd, Nat.reduceLeDiff, true_implies, eq_self, true_or, or_true, or_false, false_or, not_true_eq_false, not_false_eq_true, false_implies, implies_true, yset_s, yset_o, yset_d, ne_eq, Nat.reduceEqDiff, Int.reduceToNat, Int.reduceEq, Int.reduceLE, Int.reduceLT, Classical.not_not, Nat.reduceLT, ↓zvk_s, ↓zvk_n, ↓s_167_0, ↓s_167_1, ↓s_167_2, ↓s_167_5, ↓s_167_6, ↓s_167_9, ↓s_167_12, ↓s_167_15, ↓s_167_16, ↓s_167_17, ↓s_167_18n, ↓s_167_18i, ↓s_167_18p, ↓g_167_20, ↓k_167_20, ↓s_167_22, ↓s_167_24, ↓s_167_27, ↓s_167_29, ↓s_167_30, ↓s_167_33, ↓s_167_34, ↓s_167_37, ↓s_167_39, ↓s_167_41, ↓s_167_44, ↓s_167_45, ↓s_167_48, ↓s_167_50, ↓s_167_52, ↓s_167_55, ↓s_167_56, ↓s_167_59, ↓s_167_61, ↓s_167_63, ↓s_167_66, ↓s_167_68, ↓s_167_71, ↓g_167_73n, ↓g_167_73i, ↓g_167_73p, ↓k_167_73, ↓s_167_75, ↓s_167_76, ↓s_167_79, ↓s_167_80, ↓s_167_83, ↓s_167_85, ↓s_167_86, ↓s_167_88, ↓s_167_90, ↓s_167_92, ↓s_167_94, ↓s_167_95, ↓s_167_96, ↓s_167_97, ↓s_167_98, ↓s_167_99, ↓s_167_102, ↓s_167_103, ↓s_167_104n, ↓s_167_104i, ↓s_167_104p, ↓s_167_107, ↓s_167_110, ↓s_167_111a, ↓s_167_111b, ↓s_167_112, ↓s_167_115, ↓s_167_117, ↓s_167_118, ↓s_167_121, ↓s_167_122, ↓s_167_125, w32c_780, w32c_20, w32c_16, w32c_24, w32c_255, zar_96, zia_96, zln_96, zit_96, zio_95]
    repeat' first | exact f73 a _ (g1 (by omega)) | exact f73 b _ (g2' (by omega) (by omega)) | exact f73 c _ (g3 (by omega) (by omega)) | exact f73 e _ (g4 (by omega) (by omega)) | exact f73 f _ (g5 (by omega)) | omega | refine And.intro ?_ ?_ | intro _
theorem rx_feed {E : yE} (hE : yEok E) {D : Nat} (hD : 1 ≤ D) {mem : yMem} {Q : Option yV → yMem → Prop} {a b c e f : Int} (hG : aGok mem) (hQ : ∀ r m, FrX mem (gx a b c e f) r m → Q (some (0, r)) m) : yCon E D xm_167 [(1, 95), (0, a), (0, b), (0, c), (0, e), (0, f)] mem Q := by
  obtain ⟨d, rfl⟩ := Nat.exists_eq_add_of_le' hD
  refine e_167 ?_
  refine zvc_ok hE 90 zc_167 _ _ _ _ _ _ _ xmo_167 ?_
  have hG0 : aGok (yset mem 95 0 0) := aGok_set hG (ag_32 ag_95_0)
  have e2 : yset mem 95 0 0 95 2 = mem 95 2 := yset_d (by decide)
  have e6 : ∀ j, yset mem 95 0 0 96 j = mem 96 j := fun j => yset_o (by decide)
  simp only [ynok_30, ynok_31, w32c_0, w32c_1, w32c_2, w32c_3, w32c_4, w32c_5, w32c_6, w32c_7, w32c_8, w32c_9, w32c_10, w32c_11, w32c_12, w32c_13, w32c_14, w32c_m1, w32c_m2, w32c_118, Int.reduceAdd, Int.reduceSub, Int.reduceMul, yput_s, yput_n, znl_n, znl_0, znl_1, znl_4, ysum_n, ysum_0, ysum_1, ysum_4, true_and, and_true, Nat.reduceAdd, Nat.reduceLeDiff, true_implies, eq_self, true_or, or_true, or_false, false_or, not_true_eq_false, not_false_eq_true, false_implies, implies_true, yset_s, yset_o, yset_d, ne_eq, Nat.reduceEqDiff, Int.reduceToNat, Int.reduceEq, Int.reduceLE, Int.reduceLT, Classical.not_not, Nat.reduceLT, ↓zvk_s, ↓zvk_n, ↓s_167_0, ↓s_167_1, ↓s_167_2, ↓s_167_5, ↓s_167_6, ↓s_167_9, ↓s_167_12, ↓s_167_15, ↓s_167_16, ↓s_167_17, ↓s_167_18n, ↓s_167_18i, ↓s_167_18p, ↓g_167_20, ↓k_167_20, ↓s_167_22, ↓s_167_24, ↓s_167_27, ↓s_167_29, ↓s_167_30, ↓s_167_33, ↓s_167_34, ↓s_167_37, ↓s_167_39, ↓s_167_41, ↓s_167_44, ↓s_167_45, ↓s_167_48, ↓s_167_50, ↓s_167_52, ↓s_167_55, ↓s_167_56, ↓s_167_59, ↓s_167_61, ↓s_167_63, ↓s_167_66, ↓s_167_68, ↓s_167_71, ↓g_167_73n, ↓g_167_73i, ↓g_167_73p, ↓k_167_73, ↓s_167_75, ↓s_167_76, ↓s_167_79, ↓s_167_80, ↓s_167_83, ↓s_167_85, ↓s_167_86, ↓s_167_88, ↓s_167_90, ↓s_167_92, ↓s_167_94, ↓s_167_95, ↓s_167_96, ↓s_167_97, ↓s_167_98, ↓s_167_99, ↓s_167_102, ↓s_167_103, ↓s_167_104n, ↓s_167_104i, ↓s_167_104p, ↓s_167_107, ↓s_167_110, ↓s_167_111a, ↓s_167_111b, ↓s_167_112, ↓s_167_115, ↓s_167_117, ↓s_167_118, ↓s_167_121, ↓s_167_122, ↓s_167_125, w32c_780, w32c_20, w32c_16, w32c_24, w32c_255, zar_96, zia_96, zln_96, zit_96, zio_95]
  refine ⟨fun h => fex_loop hE hG0 (by rw [e2]; exact h) (fun r m hf => ?_) _ _ _ _ rfl (by decide) (by decide) hG0 (fun _ _ _ => rfl) (fun _ _ => rfl) (fun q hq => absurd hq (by rw [w32c_0]; exact Nat.not_lt_zero _)), fun h => hQ _ _ ⟨⟨hG0, fun i j i1 _ => yset_o i1, by rw [if_neg h]; exact ⟨by decide, by rw [e2]⟩⟩, fun z => absurd z h, fun _ j => e6 j, fun j j0 _ => yset_d j0⟩⟩
  obtain ⟨hq, h1, h2, h3⟩ := hf
  rw [e2] at h1 h2
  exact hQ r m ⟨⟨hq.1, fun i j i1 i2 => by rw [hq.2.1 i j i1 i2, yset_o i1], by have := hq.2.2; rw [e2] at this; exact this⟩, fun z => ⟨fun j hj => by rw [(h1 z).1 j hj]; exact e6 j, (h1 z).2⟩, fun z => absurd h z, fun j j0 j2 => by rw [h3 j j0 j2]; exact yset_d j0⟩
end
section
theorem s_13_0 {E : yE} {n d : Nat} {mem : yMem} {Post : Option yV → yMem → Prop} {st : List yV} {r0 : Option yV} {x : Int} : zvc E (n + 1) [] d xm_13 0 [r0, some (0, x)] (st) mem Post = (zvc E n [] d xm_13 1 [r0, some (0, x)] ((0, x) :: st) mem Post) := zrf rfl
theorem s_13_1 {E : yE} {n d : Nat} {mem : yMem} {Post : Option yV → yMem → Prop} {st : List yV} {r0 r1 : Option yV} {x : Int} : zvc E (n + 1) [] d xm_13 1 [r0, r1] ((0, x) :: st) mem Post = ((w32 x = 0 → zvc E n [] d xm_13 28 [r0, r1] (st) mem Post) ∧ (¬ w32 x = 0 → (w32 x = 1 → zvc E n [] d xm_13 33 [r0, r1] (st) mem Post) ∧ (¬ w32 x = 1 → zvc E n [] d xm_13 38 [r0, r1] (st) mem Post))) := zrf rfl
theorem s_13_28 {E : yE} {n d : Nat} {mem : yMem} {Post : Option yV → yMem → Prop} {st : List yV} {r1 : Option yV} {x : Int} : zvc E (n + 1) [] d xm_13 28 [some (1, x), r1] (st) mem Post = (zvc E n [] d xm_13 29 [some (1, x), r1] ((1, x) :: st) mem Post) := zrf rfl
theorem s_13_29 {E : yE} {n d : Nat} {mem : yMem} {Post : Option yV → yMem → Prop} {st : List yV} {r0 r1 : Option yV} : zvc E (n + 1) [] d xm_13 29 [r0, r1] ((1, 0) :: st) mem Post = (zvc E n [] d xm_13 32 [r0, r1] ((0, mem 0 12) :: st) mem Post) := zrf rfl
theorem s_13_32 {E : yE} {n d : Nat} {mem : yMem} {Post : Option yV → yMem → Prop} {r0 r1 : Option yV} {x : Int} : zvc E (n + 1) [] d xm_13 32 [r0, r1] ([(0, x)]) mem Post = (Post (some (0, x)) mem) := zrf rfl
theorem s_13_33 {E : yE} {n d : Nat} {mem : yMem} {Post : Option yV → yMem → Prop} {st : List yV} {r1 : Option yV} {x : Int} : zvc E (n + 1) [] d xm_13 33 [some (1, x), r1] (st) mem Post = (zvc E n [] d xm_13 34 [some (1, x), r1] ((1, x) :: st) mem Post) := zrf rfl
theorem s_13_34 {E : yE} {n d : Nat} {mem : yMem} {Post : Option yV → yMem → Prop} {st : List yV} {r0 r1 : Option yV} : zvc E (n + 1) [] d xm_13 34 [r0, r1] ((1, 0) :: st) mem Post = (zvc E n [] d xm_13 37 [r0, r1] ((0, mem 0 13) :: st) mem Post) := zrf rfl
theorem s_13_37 {E : yE} {n d : Nat} {mem : yMem} {Post : Option yV → yMem → Prop} {r0 r1 : Option yV} {x : Int} : zvc E (n + 1) [] d xm_13 37 [r0, r1] ([(0, x)]) mem Post = (Post (some (0, x)) mem) := zrf rfl
theorem s_13_38 {E : yE} {n d : Nat} {mem : yMem} {Post : Option yV → yMem → Prop} {st : List yV} {r0 r1 : Option yV} : zvc E (n + 1) [] d xm_13 38 [r0, r1] (st) mem Post = (zvc E n [] d xm_13 39 [r0, r1] ((0, (-1)) :: st) mem Post) := zrf rfl
theorem s_13_39 {E : yE} {n d : Nat} {mem : yMem} {Post : Option yV → yMem → Prop} {r0 r1 : Option yV} {x : Int} : zvc E (n + 1) [] d xm_13 39 [r0, r1] ([(0, x)]) mem Post = (Post (some (0, x)) mem) := zrf rfl
theorem s_166_0 {E : yE} {n d : Nat} {mem : yMem} {Post : Option yV → yMem → Prop} {st : List yV} {r1 : Option yV} {x : Int} : zvc E (n + 1) [] d xm_166 0 [some (1, x), r1] (st) mem Post = (zvc E n [] d xm_166 1 [some (1, x), r1] ((1, x) :: st) mem Post) := zrf rfl
theorem s_166_1 {E : yE} {n d : Nat} {mem : yMem} {Post : Option yV → yMem → Prop} {st : List yV} {r0 r1 : Option yV} : zvc E (n + 1) [] d xm_166 1 [r0, r1] (st) mem Post = (zvc E n [] d xm_166 2 [r0, r1] ((0, 0) :: st) mem Post) := zrf rfl
theorem s_166_2 {E : yE} {n d : Nat} {mem : yMem} {Post : Option yV → yMem → Prop} {st : List yV} {r0 r1 : Option yV} {x : Int} : zvc E (n + 1) [] d xm_166 2 [r0, r1] ((0, x) :: (1, 95) :: st) mem Post = (zvc E n [] d xm_166 5 [r0, r1] (st) (yset mem 95 0 x) Post) := zrf rfl
theorem s_166_5 {E : yE} {n d : Nat} {mem : yMem} {Post : Option yV → yMem → Prop} {st : List yV} {r0 : Option yV} {x : Int} : zvc E (n + 1) [] d xm_166 5 [r0, some (0, x)] (st) mem Post = (zvc E n [] d xm_166 6 [r0, some (0, x)] ((0, x) :: st) mem Post) := zrf rfl
theorem s_166_6 {E : yE} {n d : Nat} {mem : yMem} {Post : Option yV → yMem → Prop} {st : List yV} {r0 r1 : Option yV} {x : Int} : zvc E (n + 1) [] d xm_166 6 [r0, r1] ((0, x) :: st) mem Post = ((¬ w32 x = w32 0 → zvc E n [] d xm_166 16 [r0, r1] (st) mem Post) ∧ (¬ (¬ w32 x = w32 0) → zvc E n [] d xm_166 9 [r0, r1] (st) mem Post)) := zrf rfl
theorem s_166_9 {E : yE} {n d : Nat} {mem : yMem} {Post : Option yV → yMem → Prop} {st : List yV} {r1 : Option yV} {x : Int} : zvc E (n + 1) [] d xm_166 9 [some (1, x), r1] (st) mem Post = (zvc E n [] d xm_166 10 [some (1, x), r1] ((1, x) :: st) mem Post) := zrf rfl
theorem s_166_10 {E : yE} {n d : Nat} {mem : yMem} {Post : Option yV → yMem → Prop} {st : List yV} {r0 r1 : Option yV} : zvc E (n + 1) [] d xm_166 10 [r0, r1] ((1, 95) :: st) mem Post = (zvc E n [] d xm_166 13 [r0, r1] ((0, mem 95 33) :: st) mem Post) := zrf rfl
theorem s_166_13 {E : yE} {n d : Nat} {mem : yMem} {Post : Option yV → yMem → Prop} {st : List yV} {r0 r1 : Option yV} : zvc E (n + 1) [] d xm_166 13 [r0, r1] (st) mem Post = (zvc E n [] d xm_166 29 [r0, r1] (st) mem Post) := zrf rfl
theorem s_166_16 {E : yE} {n d : Nat} {mem : yMem} {Post : Option yV → yMem → Prop} {st : List yV} {r0 : Option yV} {x : Int} : zvc E (n + 1) [] d xm_166 16 [r0, some (0, x)] (st) mem Post = (zvc E n [] d xm_166 17 [r0, some (0, x)] ((0, x) :: st) mem Post) := zrf rfl
theorem s_166_17 {E : yE} {n d : Nat} {mem : yMem} {Post : Option yV → yMem → Prop} {st : List yV} {r0 r1 : Option yV} : zvc E (n + 1) [] d xm_166 17 [r0, r1] (st) mem Post = (zvc E n [] d xm_166 18 [r0, r1] ((0, 1) :: st) mem Post) := zrf rfl
theorem s_166_18 {E : yE} {n d : Nat} {mem : yMem} {Post : Option yV → yMem → Prop} {st : List yV} {r0 r1 : Option yV} {x y : Int} : zvc E (n + 1) [] d xm_166 18 [r0, r1] ((0, y) :: (0, x) :: st) mem Post = ((¬ w32 x = w32 y → zvc E n [] d xm_166 28 [r0, r1] (st) mem Post) ∧ (¬ (¬ w32 x = w32 y) → zvc E n [] d xm_166 21 [r0, r1] (st) mem Post)) := zrf rfl
theorem s_166_21 {E : yE} {n d : Nat} {mem : yMem} {Post : Option yV → yMem → Prop} {st : List yV} {r1 : Option yV} {x : Int} : zvc E (n + 1) [] d xm_166 21 [some (1, x), r1] (st) mem Post = (zvc E n [] d xm_166 22 [some (1, x), r1] ((1, x) :: st) mem Post) := zrf rfl
theorem s_166_22 {E : yE} {n d : Nat} {mem : yMem} {Post : Option yV → yMem → Prop} {st : List yV} {r0 r1 : Option yV} : zvc E (n + 1) [] d xm_166 22 [r0, r1] ((1, 95) :: st) mem Post = (zvc E n [] d xm_166 25 [r0, r1] ((0, mem 95 34) :: st) mem Post) := zrf rfl
theorem s_166_25 {E : yE} {n d : Nat} {mem : yMem} {Post : Option yV → yMem → Prop} {st : List yV} {r0 r1 : Option yV} : zvc E (n + 1) [] d xm_166 25 [r0, r1] (st) mem Post = (zvc E n [] d xm_166 29 [r0, r1] (st) mem Post) := zrf rfl
theorem s_166_28 {E : yE} {n d : Nat} {mem : yMem} {Post : Option yV → yMem → Prop} {st : List yV} {r0 r1 : Option yV} : zvc E (n + 1) [] d xm_166 28 [r0, r1] (st) mem Post = (zvc E n [] d xm_166 29 [r0, r1] ((0, (-1)) :: st) mem Post) := zrf rfl
theorem s_166_29 {E : yE} {n d : Nat} {mem : yMem} {Post : Option yV → yMem → Prop} {r0 r1 : Option yV} {x : Int} : zvc E (n + 1) [] d xm_166 29 [r0, r1] ([(0, x)]) mem Post = (Post (some (0, x)) mem) := zrf rfl
theorem e_13 {E : yE} {d : Nat} {mem : yMem} {Q : Option yV → yMem → Prop} {z a0 : Int} (h : zG E d xm_13 0 [some (1, z), some (0, a0)] [] mem Q) : yCon E (d + 1) xm_13 [(1, z), (0, a0)] mem Q := zcon_of xmo_13 (Nat.le_of_ble_eq_true rfl) h
theorem e_166 {E : yE} {d : Nat} {mem : yMem} {Q : Option yV → yMem → Prop} {z a0 : Int} (h : zG E d xm_166 0 [some (1, z), some (0, a0)] [] mem Q) : yCon E (d + 1) xm_166 [(1, z), (0, a0)] mem Q := zcon_of xmo_166 (Nat.le_of_ble_eq_true rfl) h

/-! fault, on both sides -/
def fRs (fn : Int × Int) (N r : Int) : Prop := r = if N = 0 then fn.1 else if N = 1 then fn.2 else -1
theorem x_fault {E : yE} (hE : yEok E) {D : Nat} (hD : 1 ≤ D) {mem : yMem} {Q : Option yV → yMem → Prop} {x : Int} (hQ : ∀ r, fRs (w32 (mem 0 12), w32 (mem 0 13)) (w32 x) (w32 r) → Q (some (0, r)) mem) : yCon E D xm_13 [(1, 0), (0, x)] mem Q := by
  obtain ⟨d, rfl⟩ := Nat.exists_eq_add_of_le' hD
  refine e_13 ?_
  refine zvc_ok hE 60 [] _ _ _ _ _ _ _ xmo_13 ?_
  simp only [ynok_30, ynok_31, w32c_0, w32c_1, w32c_2, w32c_3, w32c_4, w32c_5, w32c_6, w32c_7, w32c_8, w32c_9, w32c_10, w32c_11, w32c_12, w32c_13, w32c_14, w32c_m1, w32c_m2, w32c_118, Int.reduceAdd, Int.reduceSub, Int.reduceMul, yput_s, yput_n, znl_n, znl_0, znl_1, znl_4, ysum_n, ysum_0, ysum_1, ysum_4, true_and, and_true, Nat.reduceAdd, Nat.reduceLeDiff, true_implies, eq_self, true_or, or_true, or_false, false_or, not_true_eq_false, not_false_eq_true, false_implies, implies_true, yset_s, yset_o, yset_d, ne_eq, Nat.reduceEqDiff, Int.reduceToNat, Int.reduceEq, Int.reduceLE, Int.reduceLT, Classical.not_not, Nat.reduceLT, ↓zvk_s, ↓zvk_n, ↓s_13_0, ↓s_13_1, ↓s_13_28, ↓s_13_29, ↓s_13_32, ↓s_13_33, ↓s_13_34, ↓s_13_37, ↓s_13_38, ↓s_13_39, zio_0]
  refine ⟨fun h => hQ _ ?_, fun h => ⟨fun h1 => hQ _ ?_, fun h1 => hQ _ ?_⟩⟩
  · unfold fRs; rw [if_pos h]
  · unfold fRs; rw [if_neg h, if_pos h1]
  · unfold fRs; rw [if_neg h, if_neg h1]; exact w32c_m1
theorem r_fault {E : yE} (hE : yEok E) {D : Nat} (hD : 1 ≤ D) {mem : yMem} {Q : Option yV → yMem → Prop} {x : Int} (hQ : ∀ r, fRs (w32 (mem 95 33), w32 (mem 95 34)) (w32 x) (w32 r) → Q (some (0, r)) (yset mem 95 0 0)) : yCon E D xm_166 [(1, 95), (0, x)] mem Q := by
  obtain ⟨d, rfl⟩ := Nat.exists_eq_add_of_le' hD
  refine e_166 ?_
  refine zvc_ok hE 60 [] _ _ _ _ _ _ _ xmo_166 ?_
  have f0 : w32 x = 0 → Q (some (0, mem 95 33)) (yset mem 95 0 0) := fun h => hQ _ (by unfold fRs; rw [if_pos h])
  have f1 : ¬ w32 x = 0 → w32 x = 1 → Q (some (0, mem 95 34)) (yset mem 95 0 0) := fun h h1 => hQ _ (by unfold fRs; rw [if_neg h, if_pos h1])
  have f2 : ¬ w32 x = 0 → ¬ w32 x = 1 → Q (some (0, -1)) (yset mem 95 0 0) := fun h h1 => hQ _ (by unfold fRs; rw [if_neg h, if_neg h1]; exact w32c_m1)
  simp only [ynok_30, ynok_31, w32c_0, w32c_1, w32c_2, w32c_3, w32c_4, w32c_5, w32c_6, w32c_7, w32c_8, w32c_9, w32c_10, w32c_11, w32c_12, w32c_13, w32c_14, w32c_m1, w32c_m2, w32c_118, Int.reduceAdd, Int.reduceSub, Int.reduceMul, yput_s, yput_n, znl_n, znl_0, znl_1, znl_4, ysum_n, ysum_0, ysum_1, ysum_4, true_and, and_true, Nat.reduceAdd, Nat.reduceLeDiff, true_implies, eq_self, true_or, or_true, or_false, false_or, not_true_eq_false, not_false_eq_true, false_implies, implies_true, yset_s, yset_o, yset_d, ne_eq, Nat.reduceEqDiff, Int.reduceToNat, Int.reduceEq, Int.reduceLE, Int.reduceLT, Classical.not_not, Nat.reduceLT, ↓zvk_s, ↓zvk_n, ↓s_166_0, ↓s_166_1, ↓s_166_2, ↓s_166_5, ↓s_166_6, ↓s_166_9, ↓s_166_10, ↓s_166_13, ↓s_166_16, ↓s_166_17, ↓s_166_18, ↓s_166_21, ↓s_166_22, ↓s_166_25, ↓s_166_28, ↓s_166_29, zio_95]
  repeat' first | exact f0 (by assumption) | exact f1 (by assumption) (by assumption) | exact f2 (by assumption) (by assumption) | refine And.intro ?_ ?_ | intro _
end
section
/-! THE WORLD: what changes from call to call, of both objects: tills, claims, purses of the bakers, singers, slots, paid; redeemed, week, purse, paid out, cracked, random -/
abbrev dU : Type := ((Nat → Int) × (Nat → Int) × (Nat → Int) × (Nat → Int) × (Nat → Int) × (Nat → Int)) × Int × Int × Int × Int × Int × Int
abbrev uT (W : dU) : Nat → Int := W.1.1
abbrev uC (W : dU) : Nat → Int := W.1.2.1
abbrev uB (W : dU) : Nat → Int := W.1.2.2.1
abbrev uS (W : dU) : Nat → Int := W.1.2.2.2.1
abbrev uL (W : dU) : Nat → Int := W.1.2.2.2.2.1
abbrev uP (W : dU) : Nat → Int := W.1.2.2.2.2.2
abbrev uR (W : dU) : Int := W.2.1
abbrev uK (W : dU) : Int := W.2.2.1
abbrev uM (W : dU) : Int := W.2.2.2.1
abbrev uO (W : dU) : Int := W.2.2.2.2.1
abbrev uX (W : dU) : Int := W.2.2.2.2.2.1
abbrev uD (W : dU) : Int := W.2.2.2.2.2.2
/-- the class's world at cell c -/
def cW (m : yMem) (c : Nat) (W : dU) : Prop := (∀ j, j < 3 → w32 (m (c + 1) j) = uT W j) ∧ (∀ j, j < 6 → w32 (m (c + 2) j) = uC W j) ∧ (∀ j, j < 3 → w32 (m (c + 3) j) = uB W j) ∧ (∀ j, j < 12 → w32 (m (c + 4) j) = uS W j) ∧ (∀ j, j < 12 → w32 (m (c + 5) j) = uL W j) ∧ (∀ j, j < 12 → w32 (m (c + 6) j) = uP W j) ∧ w32 (m c 6) = uR W ∧ w32 (m c 7) = uK W ∧ w32 (m c 8) = uM W ∧ w32 (m c 9) = uO W ∧ w32 (m c 10) = uX W ∧ w32 (m c 12) = uD W
/-- the reference's, now (0) or in the image (1) -/
def rW (m : yMem) (h : Nat) (W : dU) : Prop := (∀ j, j < 3 → w32 (m 123 (3 * h + j)) = uT W j) ∧ (∀ j, j < 6 → w32 (m 125 (6 * h + j)) = uC W j) ∧ (∀ j, j < 3 → w32 (m 124 (3 * h + j)) = uB W j) ∧ (∀ j, j < 12 → w32 (m 126 (12 * h + j)) = uS W j) ∧ (∀ j, j < 12 → w32 (m 128 (12 * h + j)) = uL W j) ∧ (∀ j, j < 12 → w32 (m 129 (12 * h + j)) = uP W j) ∧ w32 (m 127 h) = uR W ∧ w32 (m 118 h) = uK W ∧ w32 (m 119 h) = uM W ∧ w32 (m 121 h) = uO W ∧ w32 (m 122 h) = uX W ∧ w32 (m 120 h) = uD W
section WU
variable {b m : yMem} {W : dU}
theorem cW_w {c : Nat} (h : cW b c W) (h1 : ∀ i j, c < i → i ≤ c + 6 → j < (if i = c + 2 then 6 else if i = c + 1 ∨ i = c + 3 then 3 else 12) → w32 (m i j) = w32 (b i j)) (h2 : ∀ j, 6 ≤ j → j ≤ 12 → j ≠ 11 → w32 (m c j) = w32 (b c j)) : cW m c W := by
  obtain ⟨a1, a2, a3, a4, a5, a6, a7, a8, a9, a10, a11, a12⟩ := h
  refine ⟨fun j hj => ?_, fun j hj => ?_, fun j hj => ?_, fun j hj => ?_, fun j hj => ?_, fun j hj => ?_, ?_, ?_, ?_, ?_, ?_, ?_⟩
  · rw [h1 (c + 1) j (by omega) (by omega) (by rw [if_neg (by omega), if_pos (by omega)]; exact hj)]; exact a1 j hj
  · rw [h1 (c + 2) j (by omega) (by omega) (by rw [if_pos rfl]; exact hj)]; exact a2 j hj
  · rw [h1 (c + 3) j (by omega) (by omega) (by rw [if_neg (by omega), if_pos (by omega)]; exact hj)]; exact a3 j hj
  · rw [h1 (c + 4) j (by omega) (by omega) (by rw [if_neg (by omega), if_neg (by omega)]; exact hj)]; exact a4 j hj
  · rw [h1 (c + 5) j (by omega) (by omega) (by rw [if_neg (by omega), if_neg (by omega)]; exact hj)]; exact a5 j hj
  · rw [h1 (c + 6) j (by omega) (by omega) (by rw [if_neg (by omega), if_neg (by omega)]; exact hj)]; exact a6 j hj
  · rw [h2 6 (by decide) (by decide) (by decide)]; exact a7
  · rw [h2 7 (by decide) (by decide) (by decide)]; exact a8
  · rw [h2 8 (by decide) (by decide) (by decide)]; exact a9
  · rw [h2 9 (by decide) (by decide) (by decide)]; exact a10
  · rw [h2 10 (by decide) (by decide) (by decide)]; exact a11
  · rw [h2 12 (by decide) (by decide) (by decide)]; exact a12
theorem cW_f {c : Nat} (h : cW b c W) (h1 : ∀ i j, c < i → i ≤ c + 6 → m i j = b i j) (h2 : ∀ j, 6 ≤ j → j ≤ 12 → j ≠ 11 → m c j = b c j) : cW m c W := cW_w h (fun i j a1 a2 _ => by rw [h1 i j a1 a2]) (fun j a1 a2 a3 => by rw [h2 j a1 a2 a3])
theorem wsl57 : ∀ i j, 57 < i → i ≤ 57 + 6 → j < (if i = 57 + 2 then 6 else if i = 57 + 1 ∨ i = 57 + 3 then 3 else 12) → yRl i j = true := by
  intro i j h1 h2 hj
  have hi : i = 58 ∨ i = 59 ∨ i = 60 ∨ i = 61 ∨ i = 62 ∨ i = 63 := by omega
  rcases hi with rfl | rfl | rfl | rfl | rfl | rfl
  · exact (by decide : ∀ j, j < 3 → yRl 58 j = true) j hj
  · exact (by decide : ∀ j, j < 6 → yRl 59 j = true) j hj
  · exact (by decide : ∀ j, j < 3 → yRl 60 j = true) j hj
  · exact (by decide : ∀ j, j < 12 → yRl 61 j = true) j hj
  · exact (by decide : ∀ j, j < 12 → yRl 62 j = true) j hj
  · exact (by decide : ∀ j, j < 12 → yRl 63 j = true) j hj
theorem wsl57s : ∀ j, 6 ≤ j → j ≤ 12 → j ≠ 11 → yRl 57 j = true := by
  intro j h1 h2 _
  have hj : j = 6 ∨ j = 7 ∨ j = 8 ∨ j = 9 ∨ j = 10 ∨ j = 11 ∨ j = 12 := by omega
  rcases hj with rfl | rfl | rfl | rfl | rfl | rfl | rfl <;> rfl
theorem cW_al (h : cW b 57 W) (al : yAl m b) : cW m 57 W := cW_w h (fun i j a1 a2 a3 => al i j (wsl57 i j a1 a2 a3)) (fun j a1 a2 a3 => al 57 j (wsl57s j a1 a2 a3))
theorem wsl64 : ∀ i j, 64 < i → i ≤ 64 + 6 → j < (if i = 64 + 2 then 6 else if i = 64 + 1 ∨ i = 64 + 3 then 3 else 12) → yRl i j = true := by
  intro i j h1 h2 hj
  have hi : i = 65 ∨ i = 66 ∨ i = 67 ∨ i = 68 ∨ i = 69 ∨ i = 70 := by omega
  rcases hi with rfl | rfl | rfl | rfl | rfl | rfl
  · exact (by decide : ∀ j, j < 3 → yRl 65 j = true) j hj
  · exact (by decide : ∀ j, j < 6 → yRl 66 j = true) j hj
  · exact (by decide : ∀ j, j < 3 → yRl 67 j = true) j hj
  · exact (by decide : ∀ j, j < 12 → yRl 68 j = true) j hj
  · exact (by decide : ∀ j, j < 12 → yRl 69 j = true) j hj
  · exact (by decide : ∀ j, j < 12 → yRl 70 j = true) j hj
theorem wsl64s : ∀ j, 6 ≤ j → j ≤ 12 → j ≠ 11 → yRl 64 j = true := by
  intro j h1 h2 _
  have hj : j = 6 ∨ j = 7 ∨ j = 8 ∨ j = 9 ∨ j = 10 ∨ j = 11 ∨ j = 12 := by omega
  rcases hj with rfl | rfl | rfl | rfl | rfl | rfl | rfl <;> rfl
theorem cW_al1 (h : cW b 64 W) (al : yAl m b) : cW m 64 W := cW_w h (fun i j a1 a2 a3 => al i j (wsl64 i j a1 a2 a3)) (fun j a1 a2 a3 => al 64 j (wsl64s j a1 a2 a3))
theorem rW_w {h : Nat} (hh : h < 2) (H : rW b h W) (h1 : ∀ i j, 118 ≤ i → i ≤ 129 → j < wln i → w32 (m i j) = w32 (b i j)) : rW m h W := by
  obtain ⟨a1, a2, a3, a4, a5, a6, a7, a8, a9, a10, a11, a12⟩ := H
  refine ⟨fun j hj => ?_, fun j hj => ?_, fun j hj => ?_, fun j hj => ?_, fun j hj => ?_, fun j hj => ?_, ?_, ?_, ?_, ?_, ?_, ?_⟩
  · rw [h1 123 _ (by decide) (by decide) (show 3 * h + j < 6 by omega)]; exact a1 j hj
  · rw [h1 125 _ (by decide) (by decide) (show 6 * h + j < 12 by omega)]; exact a2 j hj
  · rw [h1 124 _ (by decide) (by decide) (show 3 * h + j < 6 by omega)]; exact a3 j hj
  · rw [h1 126 _ (by decide) (by decide) (show 12 * h + j < 24 by omega)]; exact a4 j hj
  · rw [h1 128 _ (by decide) (by decide) (show 12 * h + j < 24 by omega)]; exact a5 j hj
  · rw [h1 129 _ (by decide) (by decide) (show 12 * h + j < 24 by omega)]; exact a6 j hj
  · rw [h1 127 h (by decide) (by decide) (show h < 2 by omega)]; exact a7
  · rw [h1 118 h (by decide) (by decide) (show h < 2 by omega)]; exact a8
  · rw [h1 119 h (by decide) (by decide) (show h < 2 by omega)]; exact a9
  · rw [h1 121 h (by decide) (by decide) (show h < 2 by omega)]; exact a10
  · rw [h1 122 h (by decide) (by decide) (show h < 2 by omega)]; exact a11
  · rw [h1 120 h (by decide) (by decide) (show h < 2 by omega)]; exact a12
theorem rW_f {h : Nat} (hh : h < 2) (H : rW b h W) (h1 : ∀ i j, 118 ≤ i → i ≤ 129 → m i j = b i j) : rW m h W := rW_w hh H (fun i j a1 a2 _ => by rw [h1 i j a1 a2])
theorem rW_al {h : Nat} (hh : h < 2) (H : rW b h W) (al : yAl m b) : rW m h W := rW_w hh H (fun i j a1 a2 a3 => al i j (wsl118 i j a1 a2 a3))
/-- the reference's world now -/
theorem rW0 (H : rW m 0 W) : (∀ j, j < 3 → w32 (m 123 j) = uT W j) ∧ (∀ j, j < 6 → w32 (m 125 j) = uC W j) ∧ (∀ j, j < 3 → w32 (m 124 j) = uB W j) ∧ (∀ j, j < 12 → w32 (m 126 j) = uS W j) ∧ (∀ j, j < 12 → w32 (m 128 j) = uL W j) ∧ (∀ j, j < 12 → w32 (m 129 j) = uP W j) ∧ w32 (m 127 0) = uR W ∧ w32 (m 118 0) = uK W ∧ w32 (m 119 0) = uM W ∧ w32 (m 121 0) = uO W ∧ w32 (m 122 0) = uX W ∧ w32 (m 120 0) = uD W := by
  obtain ⟨a1, a2, a3, a4, a5, a6, a7⟩ := H
  refine ⟨fun j hj => ?_, fun j hj => ?_, fun j hj => ?_, fun j hj => ?_, fun j hj => ?_, fun j hj => ?_, a7⟩
  · have := a1 j hj; rw [show 3 * 0 + j = j by omega] at this; exact this
  · have := a2 j hj; rw [show 6 * 0 + j = j by omega] at this; exact this
  · have := a3 j hj; rw [show 3 * 0 + j = j by omega] at this; exact this
  · have := a4 j hj; rw [show 12 * 0 + j = j by omega] at this; exact this
  · have := a5 j hj; rw [show 12 * 0 + j = j by omega] at this; exact this
  · have := a6 j hj; rw [show 12 * 0 + j = j by omega] at this; exact this
theorem rW0_of (H : (∀ j, j < 3 → w32 (m 123 j) = uT W j) ∧ (∀ j, j < 6 → w32 (m 125 j) = uC W j) ∧ (∀ j, j < 3 → w32 (m 124 j) = uB W j) ∧ (∀ j, j < 12 → w32 (m 126 j) = uS W j) ∧ (∀ j, j < 12 → w32 (m 128 j) = uL W j) ∧ (∀ j, j < 12 → w32 (m 129 j) = uP W j) ∧ w32 (m 127 0) = uR W ∧ w32 (m 118 0) = uK W ∧ w32 (m 119 0) = uM W ∧ w32 (m 121 0) = uO W ∧ w32 (m 122 0) = uX W ∧ w32 (m 120 0) = uD W) : rW m 0 W := by
  obtain ⟨a1, a2, a3, a4, a5, a6, a7⟩ := H
  refine ⟨fun j hj => ?_, fun j hj => ?_, fun j hj => ?_, fun j hj => ?_, fun j hj => ?_, fun j hj => ?_, a7⟩
  · rw [show 3 * 0 + j = j by omega]; exact a1 j hj
  · rw [show 6 * 0 + j = j by omega]; exact a2 j hj
  · rw [show 3 * 0 + j = j by omega]; exact a3 j hj
  · rw [show 12 * 0 + j = j by omega]; exact a4 j hj
  · rw [show 12 * 0 + j = j by omega]; exact a5 j hj
  · rw [show 12 * 0 + j = j by omega]; exact a6 j hj
end WU
/-- the PARTS of a VERSE, the bars of a PART -/
def dPt (ve : dVe) (v : Nat) : List (List Int) := (ve.getD v (0, [])).2
def dBr (ve : dVe) (v p : Nat) : List Int := (dPt ve v).getD p []
/-- a PART that there is, by its slot -/
def uPv (D : dDc) (p : Nat) : Prop := p / 3 < D.2.2.1.length ∧ p % 3 < (dPt D.2.2.1 (p / 3)).length
/-- a world that k calls may have come to -/
def uOk (D : dDc) (k : Nat) (W : dU) : Prop := (0 ≤ uR W ∧ uR W ≤ 12) ∧ (∀ p, p < 12 → uS W p = -1 ∨ (0 ≤ uS W p ∧ uS W p < (D.2.1.length : Int) ∧ uPv D p)) ∧ (∀ i : Nat, (i : Int) < uR W → 0 ≤ uL W i ∧ uL W i < 12 ∧ ¬ uS W (uL W i).toNat = -1) ∧ (∀ i j : Nat, i < j → (j : Int) < uR W → ¬ uL W i = uL W j) ∧ (∀ p, p < 12 → ¬ uS W p = -1 → ∃ i : Nat, (i : Int) < uR W ∧ uL W i = (p : Int)) ∧ (∀ j, j < 3 → 0 ≤ uT W j ∧ uT W j ≤ 10000 + 1000 * (k : Int)) ∧ (∀ j, j < 6 → 0 ≤ uC W j ∧ uC W j ≤ 100 * (k : Int)) ∧ (∀ j, j < 12 → 0 ≤ uP W j ∧ uP W j ≤ 999) ∧ (0 ≤ uX W ∧ uX W < 64 ∧ uX W < ((2 ^ D.2.1.length : Nat) : Int))
theorem uOk_le {D : dDc} {k l : Nat} {W : dU} (h : uOk D k W) (hk : k ≤ l) : uOk D l W := by
  obtain ⟨a1, a2, a3, a4, a5, a6, a7, a8, a9⟩ := h
  exact ⟨a1, a2, a3, a4, a5, fun j hj => ⟨(a6 j hj).1, by have := (a6 j hj).2; omega⟩, fun j hj => ⟨(a7 j hj).1, by have := (a7 j hj).2; omega⟩, a8, a9⟩
/-- a TEXT's world -/
def uBg (D : dDc) (W : dU) : dU := ((fun j => if j < D.1.length then (D.1.getD j (0, 0, 0)).2.2 else 0, fun _ => 0, fun j => if j < D.2.2.2.1.length then (D.2.2.2.1.getD j (0, 0)).2 else 0, fun _ => -1, uL W, uP W), 0, 0, D.2.2.2.2.1.2, 0, 0, D.2.2.2.2.2.1.2)
theorem uBg_ok {D : dDc} {k : Nat} {W : dU} (hD : dOk D) (hP : ∀ j, j < 12 → 0 ≤ uP W j ∧ uP W j ≤ 999) : uOk D k (uBg D W) := by
  refine ⟨⟨Int.le_refl _, show (0 : Int) ≤ 12 by decide⟩, fun p _ => Or.inl rfl, fun i hi => absurd (show (i : Int) < 0 from hi) (by omega), fun i j _ hj => absurd (show (j : Int) < 0 from hj) (by omega), fun p _ h => absurd rfl h, fun j _ => ?_, fun j _ => ⟨Int.le_refl _, by show (0 : Int) ≤ _; omega⟩, hP, ⟨Int.le_refl _, show (0 : Int) < 64 by decide, show (0 : Int) < ((2 ^ D.2.1.length : Nat) : Int) from Int.natCast_pos.mpr (Nat.two_pow_pos _)⟩⟩
  show 0 ≤ (if j < D.1.length then (D.1.getD j (0, 0, 0)).2.2 else 0) ∧ (if j < D.1.length then (D.1.getD j (0, 0, 0)).2.2 else 0) ≤ _
  split
  · next h =>
    have hm : D.1.getD j (0, 0, 0) ∈ D.1 := by
      rw [List.getD_eq_getElem?_getD, List.getElem?_eq_getElem h]
      exact List.getElem_mem h
    have := hD.1 _ hm
    unfold dTk at this
    omega
  · omega
/-- both hold the same document, the same world, the same image -/
def LIw (k : Nat) (m : yMem) : Prop := ∃ (D : dDc) (W V : dU), (cDh m D ∧ rDl m D ∧ dOk D) ∧ (cW m 57 W ∧ rW m 0 W ∧ uOk D k W) ∧ (cW m 64 V ∧ rW m 1 V ∧ (¬ w32 (m 0 14) = 0 → uOk D k V)) ∧ w32 (m 0 14) = w32 (m 95 49) ∧ w32 (m 71 1) = w32 (m 95 61)
/-- the slots that are told of -/
def tpP (i j : Nat) : Prop := i = 1 ∨ i = 56 ∨ (2 ≤ i ∧ i ≤ 26) ∨ (58 ≤ i ∧ i ≤ 71) ∨ (96 ≤ i ∧ i ≤ 129) ∨ (i = 57 ∧ j ≠ 11) ∨ (i = 0 ∧ (j = 11 ∨ j = 12 ∨ j = 13 ∨ j = 14)) ∨ (i = 95 ∧ (j = 2 ∨ j = 33 ∨ j = 34 ∨ j = 49 ∨ j = 61))
def tpW (i j : Nat) : Prop := (2 ≤ i ∧ i ≤ 26) ∨ (58 ≤ i ∧ i ≤ 71) ∨ (97 ≤ i ∧ i ≤ 129) ∨ (i = 57 ∧ j ≠ 11) ∨ (i = 0 ∧ j = 14) ∨ (i = 95 ∧ (j = 49 ∨ j = 61))
theorem tpW_P {i j : Nat} (h : tpW i j) : tpP i j := by
  unfold tpW at h
  unfold tpP
  omega
theorem LIw_fr {k l : Nat} {b m : yMem} (hk : k ≤ l) (h : LIw k b) (hf : ∀ i j, tpW i j → m i j = b i j) : LIw l m := by
  obtain ⟨D, W, V, ⟨h1, h2, h3⟩, ⟨h4, h5, h6⟩, ⟨h7, h8, h9⟩, h11, h12⟩ := h
  refine ⟨D, W, V, ⟨cDh_w h1 (fun c j ht => ?_), rDl_w h2 (fun i j n _ i1 i2 _ => ?_), h3⟩, ⟨cW_f h4 (fun i j i1 i2 => ?_) (fun j j1 j2 j3 => ?_), rW_f (by decide) h5 (fun i j i1 i2 => ?_), uOk_le h6 hk⟩, ⟨cW_f h7 (fun i j i1 i2 => ?_) (fun j j1 j2 j3 => ?_), rW_f (by decide) h8 (fun i j i1 i2 => ?_), fun z => uOk_le (h9 ?_) hk⟩, ?_, ?_⟩
  · have := tkS_c ht
    rw [hf c j (by unfold tpW; omega)]
  · rw [hf i j (by unfold tpW; omega)]
  · exact hf i j (by unfold tpW; omega)
  · exact hf 57 j (by unfold tpW; omega)
  · exact hf i j (by unfold tpW; omega)
  · exact hf i j (by unfold tpW; omega)
  · exact hf 64 j (by unfold tpW; omega)
  · exact hf i j (by unfold tpW; omega)
  · rw [hf 0 14 (by unfold tpW; omega)] at z
    exact z
  · rw [hf 0 14 (by unfold tpW; omega), hf 95 49 (by unfold tpW; omega)]
    exact h11
  · rw [hf 71 1 (by unfold tpW; omega), hf 95 61 (by unfold tpW; omega)]
    exact h12
/-- what a run over intervals may write -/
def tpq (q : Nat × Nat) : Bool := !(Nat.beq q.1 1) && (!(Nat.beq q.1 56) && (!(Nat.ble 2 q.1 && Nat.ble q.1 26) && (!(Nat.ble 58 q.1 && Nat.ble q.1 71) && (!(Nat.ble 96 q.1 && Nat.ble q.1 129) && ((!(Nat.beq q.1 57) || Nat.beq q.2 12) && ((!(Nat.beq q.1 0) || !(zis [0, 12, 13, 14, 15] q.2)) && (!(Nat.beq q.1 95) || !(zis [0, 3, 34, 35, 50, 62] q.2))))))))
def tp3 (w : List (Nat × Nat)) : Bool := w.all tpq
theorem tp3_ok {w : List (Nat × Nat)} (h : tp3 w = true) {i j : Nat} (hi : tpP i j) : amod w i j = false := by
  cases hm : amod w i j with
  | false => rfl
  | true =>
    obtain ⟨q, q1, q2, q3⟩ := amod_ex hm
    have h2 := List.all_eq_true.mp h q q1
    unfold tpq at h2
    rw [q2] at h2
    simp only [Bool.and_eq_true] at h2
    obtain ⟨k1, k2, k3, k4, k5, k6, k7, k8⟩ := h2
    rcases hi with rfl | rfl | ⟨a, b⟩ | ⟨a, b⟩ | ⟨a, b⟩ | ⟨rfl, a⟩ | ⟨rfl, a⟩ | ⟨rfl, a⟩
    · exact absurd k1 (by decide)
    · exact absurd k2 (by decide)
    · rw [Nat.ble_eq_true_of_le a, Nat.ble_eq_true_of_le b] at k3
      cases k3
    · rw [Nat.ble_eq_true_of_le a, Nat.ble_eq_true_of_le b] at k4
      cases k4
    · rw [Nat.ble_eq_true_of_le a, Nat.ble_eq_true_of_le b] at k5
      cases k5
    · have k6 : Nat.beq q.2 12 = true := k6
      rw [Nat.beq_eq] at k6
      omega
    · have k7 : (!(zis [0, 12, 13, 14, 15] q.2)) = true := k7
      rcases q3 with e | e <;> rcases a with rfl | rfl | rfl | rfl <;> rw [e] at k7 <;> cases k7
    · have k8 : (!(zis [0, 3, 34, 35, 50, 62] q.2)) = true := k8
      rcases q3 with e | e <;> rcases a with rfl | rfl | rfl | rfl | rfl <;> rw [e] at k8 <;> cases k8
end
