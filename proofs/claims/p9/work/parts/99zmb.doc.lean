/-! A DOCUMENT THAT STANDS: in the class's hymn, in the reference's lower halves -/
def cTh (m : yMem) (tav : dTv) : Prop := cNm m 3 3 (tav.map (fun t => t.1)) ∧ ∀ j t, tav[j]? = some t → w32 (m 11 j) = t.2.1 ∧ w32 (m 12 j) = t.2.2
def cVh (m : yMem) (vo : dVo) : Prop := cNm m 5 6 (vo.map (fun t => t.1)) ∧ w32 (m 2 16) = bsum (vo.map (fun t => t.2.2.2.1)) ∧ (∀ t ∈ vo, t.2.2.2.1 = 0 ∨ t.2.2.2.1 = 1) ∧ ∀ j t, vo[j]? = some t → w32 (m 13 j) = t.2.1 ∧ w32 (m 14 j) = t.2.2.1 ∧ w32 (m 15 j) = t.2.2.2.2.1 ∧ w32 (m 16 j) = t.2.2.2.2.2.1 ∧ w32 (m 17 j) = t.2.2.2.2.2.2
def cPh (m : yMem) (v : Nat) (l : List (List Int)) : Prop := ∀ p q, l[p]? = some q → q.length ≤ 8 ∧ w32 (m 19 (v * 3 + p)) = (q.length : Int) ∧ ∀ j w, q[j]? = some w → w32 (m 20 ((v * 3 + p) * 8 + j)) = w
def cEh (m : yMem) (ve : dVe) : Prop := cNm m 7 4 (ve.map (fun t => t.1)) ∧ ∀ j t, ve[j]? = some t → t.2.length ≤ 3 ∧ w32 (m 18 j) = (t.2.length : Int) ∧ cPh m j t.2
def cBh (m : yMem) (bk : dBk) : Prop := cNm m 9 3 (bk.map (fun t => t.1)) ∧ ∀ j t, bk[j]? = some t → w32 (m 21 j) = t.2
def cKh (m : yMem) : sK → Prop
  | [] => True
  | t :: o => w32 (m 23 o.length) = (t.1 : Int) ∧ (t.1 = 2 → w32 (m 24 o.length) = t.2) ∧ cKh m o
def cFh (m : yMem) (fs : dFs) : Prop := (∀ j, j < 5 → w32 (m 25 j) = (fs.1 j).1 ∧ w32 (m 26 j) = (fs.1 j).2) ∧ (w32 (m 22 4) = (fs.2.2.length : Int) ∧ fs.2.2.length ≤ 64) ∧ cKh m fs.2.2
def cDh (m : yMem) (D : dDc) : Prop := cTh m D.1 ∧ cVh m D.2.1 ∧ cEh m D.2.2.1 ∧ cBh m D.2.2.2.1 ∧ (w32 (m 2 17) = D.2.2.2.2.1.2 ∧ w32 (m 2 18) = D.2.2.2.2.2.1.2) ∧ cFh m D.2.2.2.2.2.2
section TB
variable {m m' : yMem}
theorem tkS_i {c j : Nat} (h : (2 = c ∧ 16 ≤ j ∧ j ≤ 18) ∨ ((c = 3 ∨ c = 5 ∨ c = 7 ∨ c = 9) ∧ j = 1) ∨ (c = 22 ∧ j = 4) ∨ (4 ≤ c ∧ c ≤ 26 ∧ c ≠ 5 ∧ c ≠ 7 ∧ c ≠ 9 ∧ c ≠ 22 ∧ j < [0, 0, 0, 0, 3, 0, 6, 0, 4, 0, 3, 3, 3, 6, 6, 6, 6, 6, 4, 12, 96, 3, 0, 64, 64, 5, 5].getD c 0)) : tkS c j := by
  rcases h with h | h | h | ⟨h1, h2, h3, h4, h5, h6, h7⟩
  · exact Or.inl h
  · exact Or.inr (Or.inl h)
  · exact Or.inr (Or.inr (Or.inl h))
  · have hc : c = 4 ∨ c = 6 ∨ c = 8 ∨ c = 10 ∨ c = 11 ∨ c = 12 ∨ c = 13 ∨ c = 14 ∨ c = 15 ∨ c = 16 ∨ c = 17 ∨ c = 18 ∨ c = 19 ∨ c = 20 ∨ c = 21 ∨ c = 23 ∨ c = 24 ∨ c = 25 ∨ c = 26 := by omega
    unfold tkS
    rcases hc with rfl | rfl | rfl | rfl | rfl | rfl | rfl | rfl | rfl | rfl | rfl | rfl | rfl | rfl | rfl | rfl | rfl | rfl | rfl <;> simp only [List.getD_cons_succ, List.getD_cons_zero] at h7 <;> simp [h7]
theorem tkS_a {c j n : Nat} (hc : 4 ≤ c ∧ c ≤ 26 ∧ c ≠ 5 ∧ c ≠ 7 ∧ c ≠ 9 ∧ c ≠ 22) (hn : [0, 0, 0, 0, 3, 0, 6, 0, 4, 0, 3, 3, 3, 6, 6, 6, 6, 6, 4, 12, 96, 3, 0, 64, 64, 5, 5].getD c 0 = n) (hj : j < n) : tkS c j := tkS_i (Or.inr (Or.inr (Or.inr ⟨hc.1, hc.2.1, hc.2.2.1, hc.2.2.2.1, hc.2.2.2.2.1, hc.2.2.2.2.2, by rw [hn]; exact hj⟩)))
theorem cNm_tk {z mx : Nat} {nm : List Int} (h : cNm m (z + 26) mx nm) (h1 : w32 (m' z 1) = w32 (m (z + 26) 1)) (h2 : ∀ j, j < mx → w32 (m' (z + 1) j) = w32 (m (z + 1 + 26) j)) : cNm m' z mx nm := ⟨by rw [h1]; exact h.1, h.2.1, fun j hj => by rw [h2 j (Nat.lt_of_lt_of_le hj h.2.1), show z + 1 + 26 = z + 26 + 1 by omega]; exact h.2.2 j hj⟩
theorem cKh_tk : ∀ {o : sK}, cKs m o → (∀ j, j < o.length → w32 (m' 23 j) = w32 (m 49 j)) → (∀ j, j < o.length → w32 (m' 24 j) = w32 (m 50 j)) → cKh m' o
  | [], _, _, _ => trivial
  | t :: o, h, h1, h2 => ⟨by rw [h1 _ (Nat.lt_succ_self _)]; exact h.1, fun q => by rw [h2 _ (Nat.lt_succ_self _)]; exact h.2.1 q, cKh_tk h.2.2 (fun j hj => h1 j (Nat.lt_succ_of_lt hj)) (fun j hj => h2 j (Nat.lt_succ_of_lt hj))⟩
/-- a draft that is taken -/
theorem cDh_tk {D : dDc} (h : cDc m D) (ht : ∀ c j, tkS c j → w32 (m' c j) = w32 (m (c + 26) j)) : cDh m' D := by
  obtain ⟨c1, c2, c3, c4, c5, c6, c7⟩ := h
  have b7 : D.1.length ≤ 3 := by have := c1.1.2.1; rw [List.length_map] at this; exact this
  have b8 : D.2.1.length ≤ 6 := by have := c2.1.2.1; rw [List.length_map] at this; exact this
  have b9 : D.2.2.1.length ≤ 4 := by have := c3.1.2.1; rw [List.length_map] at this; exact this
  have b10 : D.2.2.2.1.length ≤ 3 := by have := c4.1.2.1; rw [List.length_map] at this; exact this
  have t1 : ∀ c, c = 3 ∨ c = 5 ∨ c = 7 ∨ c = 9 → w32 (m' c 1) = w32 (m (c + 26) 1) := fun c hc => ht c 1 (tkS_i (Or.inr (Or.inl ⟨hc, rfl⟩)))
  have t2 : ∀ j, 16 ≤ j → j ≤ 18 → w32 (m' 2 j) = w32 (m 28 j) := fun j j1 j2 => ht 2 j (tkS_i (Or.inl ⟨rfl, j1, j2⟩))
  refine ⟨⟨cNm_tk c1.1 (t1 3 (by decide)) (fun j hj => ht 4 j (tkS_a (by decide) rfl hj)), fun j t hjt => ?_⟩, ⟨cNm_tk c2.1 (t1 5 (by decide)) (fun j hj => ht 6 j (tkS_a (by decide) rfl hj)), by rw [t2 16 (by decide) (by decide)]; exact c2.2.1, c2.2.2.1, fun j t hjt => ?_⟩, ⟨cNm_tk c3.1 (t1 7 (by decide)) (fun j hj => ht 8 j (tkS_a (by decide) rfl hj)), fun j t hjt => ?_⟩, ⟨cNm_tk c4.1 (t1 9 (by decide)) (fun j hj => ht 10 j (tkS_a (by decide) rfl hj)), fun j t hjt => ?_⟩, ⟨by rw [t2 17 (by decide) (by decide)]; exact c5.2, by rw [t2 18 (by decide) (by decide)]; exact c6.2⟩, fun j hj => ?_, ⟨by rw [ht 22 4 (tkS_i (Or.inr (Or.inr (Or.inl ⟨rfl, rfl⟩))))]; exact c7.2.1.1, ?_⟩, ?_⟩
  · have := get_lt hjt
    rw [ht 11 j (tkS_a (n := 3) (by decide) rfl (by omega)), ht 12 j (tkS_a (n := 3) (by decide) rfl (by omega))]
    exact c1.2 j t hjt
  · have := get_lt hjt
    rw [ht 13 j (tkS_a (n := 6) (by decide) rfl (by omega)), ht 14 j (tkS_a (n := 6) (by decide) rfl (by omega)), ht 15 j (tkS_a (n := 6) (by decide) rfl (by omega)), ht 16 j (tkS_a (n := 6) (by decide) rfl (by omega)), ht 17 j (tkS_a (n := 6) (by decide) rfl (by omega))]
    exact c2.2.2.2 j t hjt
  · have hj := get_lt hjt
    obtain ⟨a1, a2, a3⟩ := c3.2 j t hjt
    refine ⟨a1, by rw [ht 18 j (tkS_a (n := 4) (by decide) rfl (by omega))]; exact a2, fun p q hq => ?_⟩
    have hp := get_lt hq
    obtain ⟨g1, g2, g3⟩ := a3 p q hq
    refine ⟨g1, by rw [ht 19 _ (tkS_a (by decide) rfl (show j * 3 + p < 12 by omega))]; exact g2, fun i w hw => ?_⟩
    have hi := get_lt hw
    rw [ht 20 _ (tkS_a (by decide) rfl (show (j * 3 + p) * 8 + i < 96 by omega))]
    exact g3 i w hw
  · have := get_lt hjt
    rw [ht 21 j (tkS_a (n := 3) (by decide) rfl (by omega))]
    exact c4.2 j t hjt
  · rw [ht 25 j (tkS_a (by decide) rfl hj), ht 26 j (tkS_a (by decide) rfl hj)]
    exact c7.1 j hj
  · have := c7.2.2.2
    omega
  · have hl : D.2.2.2.2.2.2.2.2.length ≤ 64 := by have := c7.2.2.2; omega
    exact cKh_tk c7.2.1.2 (fun j hj => ht 23 j (tkS_a (n := 64) (by decide) rfl (by omega))) (fun j hj => ht 24 j (tkS_a (n := 64) (by decide) rfl (by omega)))
end TB
/-! the reference's lower halves -/
def rNl (m : yMem) (z q mx : Nat) (nm : List Int) : Prop := w32 (m 97 q) = (nm.length : Int) ∧ nm.length ≤ mx ∧ ∀ j, j < nm.length → w32 (m z j) = nm.getD j 0
def rPl (m : yMem) (v : Nat) (l : List (List Int)) : Prop := ∀ p q, l[p]? = some q → q.length ≤ 8 ∧ w32 (m 110 (v * 3 + p)) = (q.length : Int) ∧ ∀ j w, q[j]? = some w → w32 (m 111 ((v * 3 + p) * 8 + j)) = w
def rKl (m : yMem) : sK → Prop
  | [] => True
  | q :: o => (w32 (m 116 o.length) = rKt q.1 ∧ w32 (m 117 o.length) = rKv q.1 q.2) ∧ rKl m o
def rDl (m : yMem) (D : dDc) : Prop := (rNl m 98 0 3 (D.1.map (fun t => t.1)) ∧ ∀ j t, D.1[j]? = some t → w32 (m 99 j) = t.2.1 ∧ w32 (m 100 j) = t.2.2) ∧ (rNl m 101 1 6 (D.2.1.map (fun t => t.1)) ∧ ∀ j t, D.2.1[j]? = some t → rVs m j t) ∧ (rNl m 108 2 4 (D.2.2.1.map (fun t => t.1)) ∧ ∀ j t, D.2.2.1[j]? = some t → t.2.length ≤ 3 ∧ w32 (m 109 j) = (t.2.length : Int) ∧ rPl m j t.2) ∧ (rNl m 112 3 3 (D.2.2.2.1.map (fun t => t.1)) ∧ ∀ j t, D.2.2.2.1[j]? = some t → w32 (m 113 j) = t.2) ∧ (w32 (m 97 4) = D.2.2.2.2.1.2 ∧ w32 (m 97 5) = D.2.2.2.2.2.1.2) ∧ (∀ j, j < 5 → w32 (m 114 j) = (D.2.2.2.2.2.2.1 j).1 ∧ w32 (m 115 j) = (D.2.2.2.2.2.2.1 j).2) ∧ (w32 (m 97 6) = (D.2.2.2.2.2.2.2.2.length : Int) ∧ D.2.2.2.2.2.2.2.2.length ≤ 64) ∧ rKl m D.2.2.2.2.2.2.2.2
section TC
variable {m s : yMem}
theorem rNl_h {z q off : Nat} {nm : List Int} (h : rNm s z q off nm) (h1 : w32 (m 97 q) = w32 (s 97 (7 + q))) (h2 : ∀ j, j < off → w32 (m z j) = w32 (s z (off + j))) : rNl m z q off nm := ⟨by rw [h1]; exact h.1, h.2.1, fun j hj => by rw [h2 j (Nat.lt_of_lt_of_le hj h.2.1)]; exact h.2.2 j hj⟩
theorem rKl_h : ∀ {o : sK}, rKs s o → (∀ j, j < o.length → w32 (m 116 j) = w32 (s 116 (64 + j)) ∧ w32 (m 117 j) = w32 (s 117 (64 + j))) → rKl m o
  | [], _, _ => trivial
  | q :: o, h, hh => by
    have e := hh o.length (Nat.lt_succ_self _)
    exact ⟨by rw [e.1, e.2]; exact h.1, rKl_h h.2 (fun j hj => hh j (Nat.lt_succ_of_lt hj))⟩
/-- the upper halves are copied to the lower ones -/
theorem rDl_h {D : dDc} (h : rDp s D) (hh : ∀ i j n, zhf.getD (i - 97) 0 = n → 97 ≤ i → i ≤ 117 → j < n → w32 (m i j) = w32 (s i (n + j))) : rDl m D := by
  obtain ⟨c1, c2, c3, c4, c5, c6⟩ := h
  have b7 : D.1.length ≤ 3 := by have := c1.1.2.1; rw [List.length_map] at this; exact this
  have b8 : D.2.1.length ≤ 6 := by have := c2.1.2.1; rw [List.length_map] at this; exact this
  have b9 : D.2.2.1.length ≤ 4 := by have := c3.1.2.1; rw [List.length_map] at this; exact this
  have b10 : D.2.2.2.1.length ≤ 3 := by have := c4.1.2.1; rw [List.length_map] at this; exact this
  have h7 : ∀ q, q < 7 → w32 (m 97 q) = w32 (s 97 (7 + q)) := fun q hq => hh 97 q 7 rfl (by decide) (by decide) hq
  obtain ⟨d1, ⟨d2, d3, d4, d5⟩, d6, d7⟩ := c6
  refine ⟨⟨rNl_h c1.1 (h7 0 (by decide)) (fun j hj => hh 98 j 3 rfl (by decide) (by decide) hj), fun j t ht => ?_⟩, ⟨rNl_h c2.1 (h7 1 (by decide)) (fun j hj => hh 101 j 6 rfl (by decide) (by decide) hj), fun j t ht => ?_⟩, ⟨rNl_h c3.1 (h7 2 (by decide)) (fun j hj => hh 108 j 4 rfl (by decide) (by decide) hj), fun j t ht => ?_⟩, ⟨rNl_h c4.1 (h7 3 (by decide)) (fun j hj => hh 112 j 3 rfl (by decide) (by decide) hj), fun j t ht => ?_⟩, ⟨by rw [h7 4 (by decide)]; exact c5.1, by rw [h7 5 (by decide)]; exact c5.2⟩, fun j hj => ?_, ⟨by rw [h7 6 (by decide)]; exact d2, by omega⟩, rKl_h d6 (fun j hj => ⟨hh 116 j 64 rfl (by decide) (by decide) (by omega), hh 117 j 64 rfl (by decide) (by decide) (by omega)⟩)⟩
  · have := get_lt ht
    rw [hh 99 j 3 rfl (by decide) (by decide) (by omega), hh 100 j 3 rfl (by decide) (by decide) (by omega)]
    exact c1.2 j t ht
  · have := get_lt ht
    obtain ⟨e1, e2, e3, e4, e5, e6, e7⟩ := c2.2 j t ht
    exact ⟨by rw [hh 101 j 6 rfl (by decide) (by decide) (by omega)]; exact e1, by rw [hh 102 j 6 rfl (by decide) (by decide) (by omega)]; exact e2, by rw [hh 103 j 6 rfl (by decide) (by decide) (by omega)]; exact e3, by rw [hh 104 j 6 rfl (by decide) (by decide) (by omega)]; exact e4, by rw [hh 105 j 6 rfl (by decide) (by decide) (by omega)]; exact e5, by rw [hh 106 j 6 rfl (by decide) (by decide) (by omega)]; exact e6, by rw [hh 107 j 6 rfl (by decide) (by decide) (by omega)]; exact e7⟩
  · have hj := get_lt ht
    obtain ⟨a1, a2, a3⟩ := c3.2 j t ht
    refine ⟨a1, by rw [hh 109 j 4 rfl (by decide) (by decide) (by omega)]; exact a2, fun p q hq => ?_⟩
    have hp := get_lt hq
    obtain ⟨g1, g2, g3⟩ := a3 p q hq
    refine ⟨g1, by rw [hh 110 (j * 3 + p) 12 rfl (by decide) (by decide) (by omega)]; exact g2, fun i w hw => ?_⟩
    have hi := get_lt hw
    rw [hh 111 ((j * 3 + p) * 8 + i) 96 rfl (by decide) (by decide) (by omega), show 96 + ((j * 3 + p) * 8 + i) = (12 + (j * 3 + p)) * 8 + i by omega]
    exact g3 i w hw
  · have := get_lt ht
    rw [hh 113 j 3 rfl (by decide) (by decide) (by omega)]
    exact c4.2 j t ht
  · rw [hh 114 j 5 rfl (by decide) (by decide) hj, hh 115 j 5 rfl (by decide) (by decide) hj]
    exact d1 j hj
end TC
/-- both hold the same document -/
def LId (m : yMem) : Prop := ∃ D, cDh m D ∧ rDl m D
section TD
variable {b m : yMem}
theorem cNm_w {z mx : Nat} {nm : List Int} (h : cNm b z mx nm) (h1 : w32 (m z 1) = w32 (b z 1)) (h2 : ∀ j, j < mx → w32 (m (z + 1) j) = w32 (b (z + 1) j)) : cNm m z mx nm := ⟨by rw [h1]; exact h.1, h.2.1, fun j hj => by rw [h2 j (Nat.lt_of_lt_of_le hj h.2.1)]; exact h.2.2 j hj⟩
theorem cKh_w : ∀ {o : sK}, cKh b o → (∀ j, j < o.length → w32 (m 23 j) = w32 (b 23 j)) → (∀ j, j < o.length → w32 (m 24 j) = w32 (b 24 j)) → cKh m o
  | [], _, _, _ => trivial
  | t :: o, h, h1, h2 => ⟨by rw [h1 _ (Nat.lt_succ_self _)]; exact h.1, fun q => by rw [h2 _ (Nat.lt_succ_self _)]; exact h.2.1 q, cKh_w h.2.2 (fun j hj => h1 j (Nat.lt_succ_of_lt hj)) (fun j hj => h2 j (Nat.lt_succ_of_lt hj))⟩
theorem cDh_w {D : dDc} (h : cDh b D) (ht : ∀ c j, tkS c j → w32 (m c j) = w32 (b c j)) : cDh m D := by
  obtain ⟨c1, c2, c3, c4, c5, c7⟩ := h
  have b7 : D.1.length ≤ 3 := by have := c1.1.2.1; rw [List.length_map] at this; exact this
  have b8 : D.2.1.length ≤ 6 := by have := c2.1.2.1; rw [List.length_map] at this; exact this
  have b9 : D.2.2.1.length ≤ 4 := by have := c3.1.2.1; rw [List.length_map] at this; exact this
  have b10 : D.2.2.2.1.length ≤ 3 := by have := c4.1.2.1; rw [List.length_map] at this; exact this
  have t1 : ∀ c, c = 3 ∨ c = 5 ∨ c = 7 ∨ c = 9 → w32 (m c 1) = w32 (b c 1) := fun c hc => ht c 1 (tkS_i (Or.inr (Or.inl ⟨hc, rfl⟩)))
  have t2 : ∀ j, 16 ≤ j → j ≤ 18 → w32 (m 2 j) = w32 (b 2 j) := fun j j1 j2 => ht 2 j (tkS_i (Or.inl ⟨rfl, j1, j2⟩))
  refine ⟨⟨cNm_w c1.1 (t1 3 (by decide)) (fun j hj => ht 4 j (tkS_a (by decide) rfl hj)), fun j t hjt => ?_⟩, ⟨cNm_w c2.1 (t1 5 (by decide)) (fun j hj => ht 6 j (tkS_a (by decide) rfl hj)), by rw [t2 16 (by decide) (by decide)]; exact c2.2.1, c2.2.2.1, fun j t hjt => ?_⟩, ⟨cNm_w c3.1 (t1 7 (by decide)) (fun j hj => ht 8 j (tkS_a (by decide) rfl hj)), fun j t hjt => ?_⟩, ⟨cNm_w c4.1 (t1 9 (by decide)) (fun j hj => ht 10 j (tkS_a (by decide) rfl hj)), fun j t hjt => ?_⟩, ⟨by rw [t2 17 (by decide) (by decide)]; exact c5.1, by rw [t2 18 (by decide) (by decide)]; exact c5.2⟩, fun j hj => ?_, ⟨by rw [ht 22 4 (tkS_i (Or.inr (Or.inr (Or.inl ⟨rfl, rfl⟩))))]; exact c7.2.1.1, c7.2.1.2⟩, ?_⟩
  · have := get_lt hjt
    rw [ht 11 j (tkS_a (n := 3) (by decide) rfl (by omega)), ht 12 j (tkS_a (n := 3) (by decide) rfl (by omega))]
    exact c1.2 j t hjt
  · have := get_lt hjt
    rw [ht 13 j (tkS_a (n := 6) (by decide) rfl (by omega)), ht 14 j (tkS_a (n := 6) (by decide) rfl (by omega)), ht 15 j (tkS_a (n := 6) (by decide) rfl (by omega)), ht 16 j (tkS_a (n := 6) (by decide) rfl (by omega)), ht 17 j (tkS_a (n := 6) (by decide) rfl (by omega))]
    exact c2.2.2.2 j t hjt
  · have hj := get_lt hjt
    obtain ⟨a1, a2, a3⟩ := c3.2 j t hjt
    refine ⟨a1, by rw [ht 18 j (tkS_a (n := 4) (by decide) rfl (by omega))]; exact a2, fun p q hq => ?_⟩
    have hp := get_lt hq
    obtain ⟨g1, g2, g3⟩ := a3 p q hq
    refine ⟨g1, by rw [ht 19 _ (tkS_a (by decide) rfl (show j * 3 + p < 12 by omega))]; exact g2, fun i w hw => ?_⟩
    have hi := get_lt hw
    rw [ht 20 _ (tkS_a (by decide) rfl (show (j * 3 + p) * 8 + i < 96 by omega))]
    exact g3 i w hw
  · have := get_lt hjt
    rw [ht 21 j (tkS_a (n := 3) (by decide) rfl (by omega))]
    exact c4.2 j t hjt
  · rw [ht 25 j (tkS_a (by decide) rfl hj), ht 26 j (tkS_a (by decide) rfl hj)]
    exact c7.1 j hj
  · have hl := c7.2.1.2
    exact cKh_w c7.2.2 (fun j hj => ht 23 j (tkS_a (n := 64) (by decide) rfl (by omega))) (fun j hj => ht 24 j (tkS_a (n := 64) (by decide) rfl (by omega)))
/-- the lower halves are alike -/
def lwW (b m : yMem) : Prop := ∀ i j n, zhf.getD (i - 97) 0 = n → 97 ≤ i → i ≤ 117 → j < n → w32 (m i j) = w32 (b i j)
theorem rNl_w {z q mx : Nat} {nm : List Int} (h : rNl b z q mx nm) (h1 : w32 (m 97 q) = w32 (b 97 q)) (h2 : ∀ j, j < mx → w32 (m z j) = w32 (b z j)) : rNl m z q mx nm := ⟨by rw [h1]; exact h.1, h.2.1, fun j hj => by rw [h2 j (Nat.lt_of_lt_of_le hj h.2.1)]; exact h.2.2 j hj⟩
theorem rKl_w : ∀ {o : sK}, rKl b o → (∀ j, j < o.length → w32 (m 116 j) = w32 (b 116 j) ∧ w32 (m 117 j) = w32 (b 117 j)) → rKl m o
  | [], _, _ => trivial
  | q :: o, h, hh => by
    have e := hh o.length (Nat.lt_succ_self _)
    exact ⟨by rw [e.1, e.2]; exact h.1, rKl_w h.2 (fun j hj => hh j (Nat.lt_succ_of_lt hj))⟩
theorem rDl_w {D : dDc} (h : rDl b D) (hh : lwW b m) : rDl m D := by
  obtain ⟨c1, c2, c3, c4, c5, d1, d2, d6⟩ := h
  have b7 : D.1.length ≤ 3 := by have := c1.1.2.1; rw [List.length_map] at this; exact this
  have b8 : D.2.1.length ≤ 6 := by have := c2.1.2.1; rw [List.length_map] at this; exact this
  have b9 : D.2.2.1.length ≤ 4 := by have := c3.1.2.1; rw [List.length_map] at this; exact this
  have b10 : D.2.2.2.1.length ≤ 3 := by have := c4.1.2.1; rw [List.length_map] at this; exact this
  have h7 : ∀ q, q < 7 → w32 (m 97 q) = w32 (b 97 q) := fun q hq => hh 97 q 7 rfl (by decide) (by decide) hq
  refine ⟨⟨rNl_w c1.1 (h7 0 (by decide)) (fun j hj => hh 98 j 3 rfl (by decide) (by decide) hj), fun j t ht => ?_⟩, ⟨rNl_w c2.1 (h7 1 (by decide)) (fun j hj => hh 101 j 6 rfl (by decide) (by decide) hj), fun j t ht => ?_⟩, ⟨rNl_w c3.1 (h7 2 (by decide)) (fun j hj => hh 108 j 4 rfl (by decide) (by decide) hj), fun j t ht => ?_⟩, ⟨rNl_w c4.1 (h7 3 (by decide)) (fun j hj => hh 112 j 3 rfl (by decide) (by decide) hj), fun j t ht => ?_⟩, ⟨by rw [h7 4 (by decide)]; exact c5.1, by rw [h7 5 (by decide)]; exact c5.2⟩, fun j hj => ?_, ⟨by rw [h7 6 (by decide)]; exact d2.1, d2.2⟩, rKl_w d6 (fun j hj => ⟨hh 116 j 64 rfl (by decide) (by decide) (by omega), hh 117 j 64 rfl (by decide) (by decide) (by omega)⟩)⟩
  · have := get_lt ht
    rw [hh 99 j 3 rfl (by decide) (by decide) (by omega), hh 100 j 3 rfl (by decide) (by decide) (by omega)]
    exact c1.2 j t ht
  · have := get_lt ht
    obtain ⟨e1, e2, e3, e4, e5, e6, e7⟩ := c2.2 j t ht
    exact ⟨by rw [hh 101 j 6 rfl (by decide) (by decide) (by omega)]; exact e1, by rw [hh 102 j 6 rfl (by decide) (by decide) (by omega)]; exact e2, by rw [hh 103 j 6 rfl (by decide) (by decide) (by omega)]; exact e3, by rw [hh 104 j 6 rfl (by decide) (by decide) (by omega)]; exact e4, by rw [hh 105 j 6 rfl (by decide) (by decide) (by omega)]; exact e5, by rw [hh 106 j 6 rfl (by decide) (by decide) (by omega)]; exact e6, by rw [hh 107 j 6 rfl (by decide) (by decide) (by omega)]; exact e7⟩
  · have hj := get_lt ht
    obtain ⟨a1, a2, a3⟩ := c3.2 j t ht
    refine ⟨a1, by rw [hh 109 j 4 rfl (by decide) (by decide) (by omega)]; exact a2, fun p q hq => ?_⟩
    have hp := get_lt hq
    obtain ⟨g1, g2, g3⟩ := a3 p q hq
    refine ⟨g1, by rw [hh 110 (j * 3 + p) 12 rfl (by decide) (by decide) (by omega)]; exact g2, fun i w hw => ?_⟩
    have hi := get_lt hw
    rw [hh 111 ((j * 3 + p) * 8 + i) 96 rfl (by decide) (by decide) (by omega)]
    exact g3 i w hw
  · have := get_lt ht
    rw [hh 113 j 3 rfl (by decide) (by decide) (by omega)]
    exact c4.2 j t ht
  · rw [hh 114 j 5 rfl (by decide) (by decide) hj, hh 115 j 5 rfl (by decide) (by decide) hj]
    exact d1 j hj
theorem LId_w (h : LId b) (h1 : ∀ c j, tkS c j → w32 (m c j) = w32 (b c j)) (h2 : lwW b m) : LId m := by
  obtain ⟨D, a, c⟩ := h
  exact ⟨D, cDh_w a h1, rDl_w c h2⟩
theorem tkS_c {c j : Nat} (h : tkS c j) : 2 ≤ c ∧ c ≤ 26 := by
  unfold tkS at h
  omega
end TD
theorem yRl_tc : (List.range 27).all (fun c => (List.range ([0, 0, 0, 0, 3, 0, 6, 0, 4, 0, 3, 3, 3, 6, 6, 6, 6, 6, 4, 12, 96, 3, 0, 64, 64, 5, 5].getD c 0)).all (fun j => yRl c j && yRl (c + 26) j)) = true := by decide +kernel
theorem yRl_tx {c j : Nat} (hc : c < 27) (hj : j < [0, 0, 0, 0, 3, 0, 6, 0, 4, 0, 3, 3, 3, 6, 6, 6, 6, 6, 4, 12, 96, 3, 0, 64, 64, 5, 5].getD c 0) : yRl c j = true ∧ yRl (c + 26) j = true := by
  have := List.all_eq_true.mp (List.all_eq_true.mp yRl_tc c (List.mem_range.mpr hc)) j (List.mem_range.mpr hj)
  simpa using this
theorem yRl_t {c j : Nat} (h : tkS c j) : yRl c j = true ∧ yRl (c + 26) j = true := by
  rcases h with ⟨rfl, h1, h2⟩ | ⟨h1, rfl⟩ | ⟨rfl, rfl⟩ | ⟨rfl, hj⟩ | ⟨rfl, hj⟩ | ⟨rfl, hj⟩ | ⟨rfl, hj⟩ | ⟨rfl, hj⟩ | ⟨rfl, hj⟩ | ⟨rfl, hj⟩ | ⟨rfl, hj⟩ | ⟨rfl, hj⟩ | ⟨rfl, hj⟩ | ⟨rfl, hj⟩ | ⟨rfl, hj⟩ | ⟨rfl, hj⟩ | ⟨rfl, hj⟩ | ⟨rfl, hj⟩ | ⟨rfl, hj⟩ | ⟨rfl, hj⟩ | ⟨rfl, hj⟩ | ⟨rfl, hj⟩
  · have hj : j = 16 ∨ j = 17 ∨ j = 18 := by omega
    rcases hj with rfl | rfl | rfl <;> exact ⟨rfl, rfl⟩
  · rcases h1 with rfl | rfl | rfl | rfl <;> exact ⟨rfl, rfl⟩
  · exact ⟨rfl, rfl⟩
  · exact yRl_tx (by decide) hj
  · exact yRl_tx (by decide) hj
  · exact yRl_tx (by decide) hj
  · exact yRl_tx (by decide) hj
  · exact yRl_tx (by decide) hj
  · exact yRl_tx (by decide) hj
  · exact yRl_tx (by decide) hj
  · exact yRl_tx (by decide) hj
  · exact yRl_tx (by decide) hj
  · exact yRl_tx (by decide) hj
  · exact yRl_tx (by decide) hj
  · exact yRl_tx (by decide) hj
  · exact yRl_tx (by decide) hj
  · exact yRl_tx (by decide) hj
  · exact yRl_tx (by decide) hj
  · exact yRl_tx (by decide) hj
  · exact yRl_tx (by decide) hj
  · exact yRl_tx (by decide) hj
  · exact yRl_tx (by decide) hj
/-- the class's document is as it was -/
def hyS (b m : yMem) : Prop := ∀ c j, tkS c j → w32 (m c j) = w32 (b c j)
theorem hyS_f {b m : yMem} (h : ∀ c j, 2 ≤ c → c ≤ 26 → m c j = b c j) : hyS b m := fun c j ht => by rw [h c j (tkS_c ht).1 (tkS_c ht).2]
def hyw (w : List (Nat × Nat)) : Bool := w.all (fun q => !(Nat.ble 2 q.1 && Nat.ble q.1 26))
theorem hyw_ok {w : List (Nat × Nat)} (h : hyw w = true) {i j : Nat} (h1 : 2 ≤ i) (h2 : i ≤ 26) : amod w i j = false := by
  cases hm : amod w i j with
  | false => rfl
  | true =>
    obtain ⟨q, q1, q2, q3⟩ := amod_ex hm
    have h3 := List.all_eq_true.mp h q q1
    rw [q2, Bool.not_eq_true', Bool.and_eq_false_iff] at h3
    rcases h3 with h3 | h3
    · rw [Nat.ble_eq_true_of_le h1] at h3; cases h3
    · rw [Nat.ble_eq_true_of_le h2] at h3; cases h3
theorem lwW_tr {a b c : yMem} (h1 : lwW a b) (h2 : lwW b c) : lwW a c := fun i j n hn i1 i2 hj => by rw [h2 i j n hn i1 i2 hj, h1 i j n hn i1 i2 hj]
theorem lwW_s {b m : yMem} {c k : Nat} {z : Int} (h : lwW b m) (hv : zhf.getD (c - 97) 0 ≤ k) : lwW b (yset m c k z) := fun i j n hn i1 i2 hj => by
  rw [yset_n2 (fun z => by rw [z.1] at hn; omega)]
  exact h i j n hn i1 i2 hj
theorem zS2 : ∀ i, i < 118 → 97 ≤ i → zis S2 i = true := by decide +kernel
