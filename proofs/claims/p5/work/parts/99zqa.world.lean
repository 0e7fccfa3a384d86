/-! THE WORLD: what changes from call to call, of both objects: tills, claims, purses of the bakers, singers, slots, paid; redeemed, week, purse, paid out, cracked, random -/
abbrev dU : Type := ((Nat → Int) × (Nat → Int) × (Nat → Int) × (Nat → Int) × (Nat → Int) × (Nat → Int)) × Int × Int × Int × Int × Int × Int
abbrev uT (W : dU) : Nat → Int := W.1.1
abbrev uC (W : dU) : Nat → Int := W.1.2.1
abbrev uB (W : dU) : Nat → Int := W.1.2.2.1
abbrev uS (W : dU) : Nat → Int := W.1.2.2.2.1
abbrev uL (W : dU) : Nat → Int := W.1.2.2.2.2.1
abbrev uP (W : dU) : Nat → Int := W.1.2.2.2.2.2
abbrev uR (W : dU) : Int := W.2.1
abbrev uK (W : dU) : Int := W.2.2.1
abbrev uM (W : dU) : Int := W.2.2.2.1
abbrev uO (W : dU) : Int := W.2.2.2.2.1
abbrev uX (W : dU) : Int := W.2.2.2.2.2.1
abbrev uD (W : dU) : Int := W.2.2.2.2.2.2
/-- the class's world at cell c -/
def cW (m : yMem) (c : Nat) (W : dU) : Prop := (∀ j, j < 3 → w32 (m (c + 1) j) = uT W j) ∧ (∀ j, j < 6 → w32 (m (c + 2) j) = uC W j) ∧ (∀ j, j < 3 → w32 (m (c + 3) j) = uB W j) ∧ (∀ j, j < 12 → w32 (m (c + 4) j) = uS W j) ∧ (∀ j, j < 12 → w32 (m (c + 5) j) = uL W j) ∧ (∀ j, j < 12 → w32 (m (c + 6) j) = uP W j) ∧ w32 (m c 6) = uR W ∧ w32 (m c 7) = uK W ∧ w32 (m c 8) = uM W ∧ w32 (m c 9) = uO W ∧ w32 (m c 10) = uX W ∧ w32 (m c 12) = uD W
/-- the reference's, now (0) or in the image (1) -/
def rW (m : yMem) (h : Nat) (W : dU) : Prop := (∀ j, j < 3 → w32 (m 123 (3 * h + j)) = uT W j) ∧ (∀ j, j < 6 → w32 (m 125 (6 * h + j)) = uC W j) ∧ (∀ j, j < 3 → w32 (m 124 (3 * h + j)) = uB W j) ∧ (∀ j, j < 12 → w32 (m 126 (12 * h + j)) = uS W j) ∧ (∀ j, j < 12 → w32 (m 128 (12 * h + j)) = uL W j) ∧ (∀ j, j < 12 → w32 (m 129 (12 * h + j)) = uP W j) ∧ w32 (m 127 h) = uR W ∧ w32 (m 118 h) = uK W ∧ w32 (m 119 h) = uM W ∧ w32 (m 121 h) = uO W ∧ w32 (m 122 h) = uX W ∧ w32 (m 120 h) = uD W
section WU
variable {b m : yMem} {W : dU}
theorem cW_w {c : Nat} (h : cW b c W) (h1 : ∀ i j, c < i → i ≤ c + 6 → j < (if i = c + 2 then 6 else if i = c + 1 ∨ i = c + 3 then 3 else 12) → w32 (m i j) = w32 (b i j)) (h2 : ∀ j, 6 ≤ j → j ≤ 12 → j ≠ 11 → w32 (m c j) = w32 (b c j)) : cW m c W := by
  obtain ⟨a1, a2, a3, a4, a5, a6, a7, a8, a9, a10, a11, a12⟩ := h
  refine ⟨fun j hj => ?_, fun j hj => ?_, fun j hj => ?_, fun j hj => ?_, fun j hj => ?_, fun j hj => ?_, ?_, ?_, ?_, ?_, ?_, ?_⟩
  · rw [h1 (c + 1) j (by omega) (by omega) (by rw [if_neg (by omega), if_pos (by omega)]; exact hj)]; exact a1 j hj
  · rw [h1 (c + 2) j (by omega) (by omega) (by rw [if_pos rfl]; exact hj)]; exact a2 j hj
  · rw [h1 (c + 3) j (by omega) (by omega) (by rw [if_neg (by omega), if_pos (by omega)]; exact hj)]; exact a3 j hj
  · rw [h1 (c + 4) j (by omega) (by omega) (by rw [if_neg (by omega), if_neg (by omega)]; exact hj)]; exact a4 j hj
  · rw [h1 (c + 5) j (by omega) (by omega) (by rw [if_neg (by omega), if_neg (by omega)]; exact hj)]; exact a5 j hj
  · rw [h1 (c + 6) j (by omega) (by omega) (by rw [if_neg (by omega), if_neg (by omega)]; exact hj)]; exact a6 j hj
  · rw [h2 6 (by decide) (by decide) (by decide)]; exact a7
  · rw [h2 7 (by decide) (by decide) (by decide)]; exact a8
  · rw [h2 8 (by decide) (by decide) (by decide)]; exact a9
  · rw [h2 9 (by decide) (by decide) (by decide)]; exact a10
  · rw [h2 10 (by decide) (by decide) (by decide)]; exact a11
  · rw [h2 12 (by decide) (by decide) (by decide)]; exact a12
theorem cW_f {c : Nat} (h : cW b c W) (h1 : ∀ i j, c < i → i ≤ c + 6 → m i j = b i j) (h2 : ∀ j, 6 ≤ j → j ≤ 12 → j ≠ 11 → m c j = b c j) : cW m c W := cW_w h (fun i j a1 a2 _ => by rw [h1 i j a1 a2]) (fun j a1 a2 a3 => by rw [h2 j a1 a2 a3])
theorem wsl57 : ∀ i j, 57 < i → i ≤ 57 + 6 → j < (if i = 57 + 2 then 6 else if i = 57 + 1 ∨ i = 57 + 3 then 3 else 12) → yRl i j = true := by
  intro i j h1 h2 hj
  have hi : i = 58 ∨ i = 59 ∨ i = 60 ∨ i = 61 ∨ i = 62 ∨ i = 63 := by omega
  rcases hi with rfl | rfl | rfl | rfl | rfl | rfl
  · exact (by decide : ∀ j, j < 3 → yRl 58 j = true) j hj
  · exact (by decide : ∀ j, j < 6 → yRl 59 j = true) j hj
  · exact (by decide : ∀ j, j < 3 → yRl 60 j = true) j hj
  · exact (by decide : ∀ j, j < 12 → yRl 61 j = true) j hj
  · exact (by decide : ∀ j, j < 12 → yRl 62 j = true) j hj
  · exact (by decide : ∀ j, j < 12 → yRl 63 j = true) j hj
theorem wsl57s : ∀ j, 6 ≤ j → j ≤ 12 → j ≠ 11 → yRl 57 j = true := by
  intro j h1 h2 _
  have hj : j = 6 ∨ j = 7 ∨ j = 8 ∨ j = 9 ∨ j = 10 ∨ j = 11 ∨ j = 12 := by omega
  rcases hj with rfl | rfl | rfl | rfl | rfl | rfl | rfl <;> rfl
theorem cW_al (h : cW b 57 W) (al : yAl m b) : cW m 57 W := cW_w h (fun i j a1 a2 a3 => al i j (wsl57 i j a1 a2 a3)) (fun j a1 a2 a3 => al 57 j (wsl57s j a1 a2 a3))
theorem wsl64 : ∀ i j, 64 < i → i ≤ 64 + 6 → j < (if i = 64 + 2 then 6 else if i = 64 + 1 ∨ i = 64 + 3 then 3 else 12) → yRl i j = true := by
  intro i j h1 h2 hj
  have hi : i = 65 ∨ i = 66 ∨ i = 67 ∨ i = 68 ∨ i = 69 ∨ i = 70 := by omega
  rcases hi with rfl | rfl | rfl | rfl | rfl | rfl
  · exact (by decide : ∀ j, j < 3 → yRl 65 j = true) j hj
  · exact (by decide : ∀ j, j < 6 → yRl 66 j = true) j hj
  · exact (by decide : ∀ j, j < 3 → yRl 67 j = true) j hj
  · exact (by decide : ∀ j, j < 12 → yRl 68 j = true) j hj
  · exact (by decide : ∀ j, j < 12 → yRl 69 j = true) j hj
  · exact (by decide : ∀ j, j < 12 → yRl 70 j = true) j hj
theorem wsl64s : ∀ j, 6 ≤ j → j ≤ 12 → j ≠ 11 → yRl 64 j = true := by
  intro j h1 h2 _
  have hj : j = 6 ∨ j = 7 ∨ j = 8 ∨ j = 9 ∨ j = 10 ∨ j = 11 ∨ j = 12 := by omega
  rcases hj with rfl | rfl | rfl | rfl | rfl | rfl | rfl <;> rfl
theorem cW_al1 (h : cW b 64 W) (al : yAl m b) : cW m 64 W := cW_w h (fun i j a1 a2 a3 => al i j (wsl64 i j a1 a2 a3)) (fun j a1 a2 a3 => al 64 j (wsl64s j a1 a2 a3))
theorem rW_w {h : Nat} (hh : h < 2) (H : rW b h W) (h1 : ∀ i j, 118 ≤ i → i ≤ 129 → j < wln i → w32 (m i j) = w32 (b i j)) : rW m h W := by
  obtain ⟨a1, a2, a3, a4, a5, a6, a7, a8, a9, a10, a11, a12⟩ := H
  refine ⟨fun j hj => ?_, fun j hj => ?_, fun j hj => ?_, fun j hj => ?_, fun j hj => ?_, fun j hj => ?_, ?_, ?_, ?_, ?_, ?_, ?_⟩
  · rw [h1 123 _ (by decide) (by decide) (show 3 * h + j < 6 by omega)]; exact a1 j hj
  · rw [h1 125 _ (by decide) (by decide) (show 6 * h + j < 12 by omega)]; exact a2 j hj
  · rw [h1 124 _ (by decide) (by decide) (show 3 * h + j < 6 by omega)]; exact a3 j hj
  · rw [h1 126 _ (by decide) (by decide) (show 12 * h + j < 24 by omega)]; exact a4 j hj
  · rw [h1 128 _ (by decide) (by decide) (show 12 * h + j < 24 by omega)]; exact a5 j hj
  · rw [h1 129 _ (by decide) (by decide) (show 12 * h + j < 24 by omega)]; exact a6 j hj
  · rw [h1 127 h (by decide) (by decide) (show h < 2 by omega)]; exact a7
  · rw [h1 118 h (by decide) (by decide) (show h < 2 by omega)]; exact a8
  · rw [h1 119 h (by decide) (by decide) (show h < 2 by omega)]; exact a9
  · rw [h1 121 h (by decide) (by decide) (show h < 2 by omega)]; exact a10
  · rw [h1 122 h (by decide) (by decide) (show h < 2 by omega)]; exact a11
  · rw [h1 120 h (by decide) (by decide) (show h < 2 by omega)]; exact a12
theorem rW_f {h : Nat} (hh : h < 2) (H : rW b h W) (h1 : ∀ i j, 118 ≤ i → i ≤ 129 → m i j = b i j) : rW m h W := rW_w hh H (fun i j a1 a2 _ => by rw [h1 i j a1 a2])
theorem rW_al {h : Nat} (hh : h < 2) (H : rW b h W) (al : yAl m b) : rW m h W := rW_w hh H (fun i j a1 a2 a3 => al i j (wsl118 i j a1 a2 a3))
/-- the reference's world now -/
theorem rW0 (H : rW m 0 W) : (∀ j, j < 3 → w32 (m 123 j) = uT W j) ∧ (∀ j, j < 6 → w32 (m 125 j) = uC W j) ∧ (∀ j, j < 3 → w32 (m 124 j) = uB W j) ∧ (∀ j, j < 12 → w32 (m 126 j) = uS W j) ∧ (∀ j, j < 12 → w32 (m 128 j) = uL W j) ∧ (∀ j, j < 12 → w32 (m 129 j) = uP W j) ∧ w32 (m 127 0) = uR W ∧ w32 (m 118 0) = uK W ∧ w32 (m 119 0) = uM W ∧ w32 (m 121 0) = uO W ∧ w32 (m 122 0) = uX W ∧ w32 (m 120 0) = uD W := by
  obtain ⟨a1, a2, a3, a4, a5, a6, a7⟩ := H
  refine ⟨fun j hj => ?_, fun j hj => ?_, fun j hj => ?_, fun j hj => ?_, fun j hj => ?_, fun j hj => ?_, a7⟩
  · have := a1 j hj; rw [show 3 * 0 + j = j by omega] at this; exact this
  · have := a2 j hj; rw [show 6 * 0 + j = j by omega] at this; exact this
  · have := a3 j hj; rw [show 3 * 0 + j = j by omega] at this; exact this
  · have := a4 j hj; rw [show 12 * 0 + j = j by omega] at this; exact this
  · have := a5 j hj; rw [show 12 * 0 + j = j by omega] at this; exact this
  · have := a6 j hj; rw [show 12 * 0 + j = j by omega] at this; exact this
theorem rW0_of (H : (∀ j, j < 3 → w32 (m 123 j) = uT W j) ∧ (∀ j, j < 6 → w32 (m 125 j) = uC W j) ∧ (∀ j, j < 3 → w32 (m 124 j) = uB W j) ∧ (∀ j, j < 12 → w32 (m 126 j) = uS W j) ∧ (∀ j, j < 12 → w32 (m 128 j) = uL W j) ∧ (∀ j, j < 12 → w32 (m 129 j) = uP W j) ∧ w32 (m 127 0) = uR W ∧ w32 (m 118 0) = uK W ∧ w32 (m 119 0) = uM W ∧ w32 (m 121 0) = uO W ∧ w32 (m 122 0) = uX W ∧ w32 (m 120 0) = uD W) : rW m 0 W := by
  obtain ⟨a1, a2, a3, a4, a5, a6, a7⟩ := H
  refine ⟨fun j hj => ?_, fun j hj => ?_, fun j hj => ?_, fun j hj => ?_, fun j hj => ?_, fun j hj => ?_, a7⟩
  · rw [show 3 * 0 + j = j by omega]; exact a1 j hj
  · rw [show 6 * 0 + j = j by omega]; exact a2 j hj
  · rw [show 3 * 0 + j = j by omega]; exact a3 j hj
  · rw [show 12 * 0 + j = j by omega]; exact a4 j hj
  · rw [show 12 * 0 + j = j by omega]; exact a5 j hj
  · rw [show 12 * 0 + j = j by omega]; exact a6 j hj
end WU
/-- the PARTS of a VERSE, the bars of a PART -/
def dPt (ve : dVe) (v : Nat) : List (List Int) := (ve.getD v (0, [])).2
def dBr (ve : dVe) (v p : Nat) : List Int := (dPt ve v).getD p []
/-- a PART that there is, by its slot -/
def uPv (D : dDc) (p : Nat) : Prop := p / 3 < D.2.2.1.length ∧ p % 3 < (dPt D.2.2.1 (p / 3)).length
/-- a world that k calls may have come to -/
def uOk (D : dDc) (k : Nat) (W : dU) : Prop := (0 ≤ uR W ∧ uR W ≤ 12) ∧ (∀ p, p < 12 → uS W p = -1 ∨ (0 ≤ uS W p ∧ uS W p < (D.2.1.length : Int) ∧ uPv D p)) ∧ (∀ i : Nat, (i : Int) < uR W → 0 ≤ uL W i ∧ uL W i < 12 ∧ ¬ uS W (uL W i).toNat = -1) ∧ (∀ i j : Nat, i < j → (j : Int) < uR W → ¬ uL W i = uL W j) ∧ (∀ p, p < 12 → ¬ uS W p = -1 → ∃ i : Nat, (i : Int) < uR W ∧ uL W i = (p : Int)) ∧ (∀ j, j < 3 → 0 ≤ uT W j ∧ uT W j ≤ 10000 + 1000 * (k : Int)) ∧ (∀ j, j < 6 → 0 ≤ uC W j ∧ uC W j ≤ 100 * (k : Int)) ∧ (∀ j, j < 12 → 0 ≤ uP W j ∧ uP W j ≤ 999) ∧ (0 ≤ uX W ∧ uX W < 64)
theorem uOk_le {D : dDc} {k l : Nat} {W : dU} (h : uOk D k W) (hk : k ≤ l) : uOk D l W := by
  obtain ⟨a1, a2, a3, a4, a5, a6, a7, a8, a9⟩ := h
  exact ⟨a1, a2, a3, a4, a5, fun j hj => ⟨(a6 j hj).1, by have := (a6 j hj).2; omega⟩, fun j hj => ⟨(a7 j hj).1, by have := (a7 j hj).2; omega⟩, a8, a9⟩
/-- a TEXT's world -/
def uBg (D : dDc) (W : dU) : dU := ((fun j => if j < D.1.length then (D.1.getD j (0, 0, 0)).2.2 else 0, fun _ => 0, fun j => if j < D.2.2.2.1.length then (D.2.2.2.1.getD j (0, 0)).2 else 0, fun _ => -1, uL W, uP W), 0, 0, D.2.2.2.2.1.2, 0, 0, D.2.2.2.2.2.1.2)
theorem uBg_ok {D : dDc} {k : Nat} {W : dU} (hD : dOk D) (hP : ∀ j, j < 12 → 0 ≤ uP W j ∧ uP W j ≤ 999) : uOk D k (uBg D W) := by
  refine ⟨⟨Int.le_refl _, show (0 : Int) ≤ 12 by decide⟩, fun p _ => Or.inl rfl, fun i hi => absurd (show (i : Int) < 0 from hi) (by omega), fun i j _ hj => absurd (show (j : Int) < 0 from hj) (by omega), fun p _ h => absurd rfl h, fun j _ => ?_, fun j _ => ⟨Int.le_refl _, by show (0 : Int) ≤ _; omega⟩, hP, ⟨Int.le_refl _, show (0 : Int) < 64 by decide⟩⟩
  show 0 ≤ (if j < D.1.length then (D.1.getD j (0, 0, 0)).2.2 else 0) ∧ (if j < D.1.length then (D.1.getD j (0, 0, 0)).2.2 else 0) ≤ _
  split
  · next h =>
    have hm : D.1.getD j (0, 0, 0) ∈ D.1 := by
      rw [List.getD_eq_getElem?_getD, List.getElem?_eq_getElem h]
      exact List.getElem_mem h
    have := hD.1 _ hm
    unfold dTk at this
    omega
  · omega
/-- both hold the same document, the same world, the same image -/
def LIw (k : Nat) (m : yMem) : Prop := ∃ (D : dDc) (W V : dU), (cDh m D ∧ rDl m D ∧ dOk D) ∧ (cW m 57 W ∧ rW m 0 W ∧ uOk D k W) ∧ (cW m 64 V ∧ rW m 1 V ∧ (¬ w32 (m 0 14) = 0 → uOk D k V)) ∧ w32 (m 0 14) = w32 (m 95 49) ∧ w32 (m 71 1) = w32 (m 95 61)
/-- the slots that are told of -/
def tpP (i j : Nat) : Prop := i = 1 ∨ i = 56 ∨ (2 ≤ i ∧ i ≤ 26) ∨ (58 ≤ i ∧ i ≤ 71) ∨ (96 ≤ i ∧ i ≤ 129) ∨ (i = 57 ∧ j ≠ 11) ∨ (i = 0 ∧ (j = 11 ∨ j = 12 ∨ j = 13 ∨ j = 14)) ∨ (i = 95 ∧ (j = 2 ∨ j = 33 ∨ j = 34 ∨ j = 49 ∨ j = 61))
def tpW (i j : Nat) : Prop := (2 ≤ i ∧ i ≤ 26) ∨ (58 ≤ i ∧ i ≤ 71) ∨ (97 ≤ i ∧ i ≤ 129) ∨ (i = 57 ∧ j ≠ 11) ∨ (i = 0 ∧ j = 14) ∨ (i = 95 ∧ (j = 49 ∨ j = 61))
theorem tpW_P {i j : Nat} (h : tpW i j) : tpP i j := by
  unfold tpW at h
  unfold tpP
  omega
theorem LIw_fr {k l : Nat} {b m : yMem} (hk : k ≤ l) (h : LIw k b) (hf : ∀ i j, tpW i j → m i j = b i j) : LIw l m := by
  obtain ⟨D, W, V, ⟨h1, h2, h3⟩, ⟨h4, h5, h6⟩, ⟨h7, h8, h9⟩, h11, h12⟩ := h
  refine ⟨D, W, V, ⟨cDh_w h1 (fun c j ht => ?_), rDl_w h2 (fun i j n _ i1 i2 _ => ?_), h3⟩, ⟨cW_f h4 (fun i j i1 i2 => ?_) (fun j j1 j2 j3 => ?_), rW_f (by decide) h5 (fun i j i1 i2 => ?_), uOk_le h6 hk⟩, ⟨cW_f h7 (fun i j i1 i2 => ?_) (fun j j1 j2 j3 => ?_), rW_f (by decide) h8 (fun i j i1 i2 => ?_), fun z => uOk_le (h9 ?_) hk⟩, ?_, ?_⟩
  · have := tkS_c ht
    rw [hf c j (by unfold tpW; omega)]
  · rw [hf i j (by unfold tpW; omega)]
  · exact hf i j (by unfold tpW; omega)
  · exact hf 57 j (by unfold tpW; omega)
  · exact hf i j (by unfold tpW; omega)
  · exact hf i j (by unfold tpW; omega)
  · exact hf 64 j (by unfold tpW; omega)
  · exact hf i j (by unfold tpW; omega)
  · rw [hf 0 14 (by unfold tpW; omega)] at z
    exact z
  · rw [hf 0 14 (by unfold tpW; omega), hf 95 49 (by unfold tpW; omega)]
    exact h11
  · rw [hf 71 1 (by unfold tpW; omega), hf 95 61 (by unfold tpW; omega)]
    exact h12
/-- what a run over intervals may write -/
def tpq (q : Nat × Nat) : Bool := !(Nat.beq q.1 1) && (!(Nat.beq q.1 56) && (!(Nat.ble 2 q.1 && Nat.ble q.1 26) && (!(Nat.ble 58 q.1 && Nat.ble q.1 71) && (!(Nat.ble 96 q.1 && Nat.ble q.1 129) && ((!(Nat.beq q.1 57) || Nat.beq q.2 12) && ((!(Nat.beq q.1 0) || !(zis [0, 12, 13, 14, 15] q.2)) && (!(Nat.beq q.1 95) || !(zis [0, 3, 34, 35, 50, 62] q.2))))))))
def tp3 (w : List (Nat × Nat)) : Bool := w.all tpq
theorem tp3_ok {w : List (Nat × Nat)} (h : tp3 w = true) {i j : Nat} (hi : tpP i j) : amod w i j = false := by
  cases hm : amod w i j with
  | false => rfl
  | true =>
    obtain ⟨q, q1, q2, q3⟩ := amod_ex hm
    have h2 := List.all_eq_true.mp h q q1
    unfold tpq at h2
    rw [q2] at h2
    simp only [Bool.and_eq_true] at h2
    obtain ⟨k1, k2, k3, k4, k5, k6, k7, k8⟩ := h2
    rcases hi with rfl | rfl | ⟨a, b⟩ | ⟨a, b⟩ | ⟨a, b⟩ | ⟨rfl, a⟩ | ⟨rfl, a⟩ | ⟨rfl, a⟩
    · exact absurd k1 (by decide)
    · exact absurd k2 (by decide)
    · rw [Nat.ble_eq_true_of_le a, Nat.ble_eq_true_of_le b] at k3
      cases k3
    · rw [Nat.ble_eq_true_of_le a, Nat.ble_eq_true_of_le b] at k4
      cases k4
    · rw [Nat.ble_eq_true_of_le a, Nat.ble_eq_true_of_le b] at k5
      cases k5
    · have k6 : Nat.beq q.2 12 = true := k6
      rw [Nat.beq_eq] at k6
      omega
    · have k7 : (!(zis [0, 12, 13, 14, 15] q.2)) = true := k7
      rcases q3 with e | e <;> rcases a with rfl | rfl | rfl | rfl <;> rw [e] at k7 <;> cases k7
    · have k8 : (!(zis [0, 3, 34, 35, 50, 62] q.2)) = true := k8
      rcases q3 with e | e <;> rcases a with rfl | rfl | rfl | rfl | rfl <;> rw [e] at k8 <;> cases k8
