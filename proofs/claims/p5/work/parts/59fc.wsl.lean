/-- how long the reference's world arrays are -/
def wln (i : Nat) : Nat := [2, 2, 2, 2, 2, 6, 6, 12, 24, 2, 24, 24].getD (i - 118) 0
theorem wsl118 : ∀ i j, 118 ≤ i → i ≤ 129 → j < wln i → yRl i j = true := by
  intro i j h1 h2 hj
  have hi : i = 118 ∨ i = 119 ∨ i = 120 ∨ i = 121 ∨ i = 122 ∨ i = 123 ∨ i = 124 ∨ i = 125 ∨ i = 126 ∨ i = 127 ∨ i = 128 ∨ i = 129 := by omega
  rcases hi with rfl | rfl | rfl | rfl | rfl | rfl | rfl | rfl | rfl | rfl | rfl | rfl
  · exact (by decide : ∀ j, j < 2 → yRl 118 j = true) j hj
  · exact (by decide : ∀ j, j < 2 → yRl 119 j = true) j hj
  · exact (by decide : ∀ j, j < 2 → yRl 120 j = true) j hj
  · exact (by decide : ∀ j, j < 2 → yRl 121 j = true) j hj
  · exact (by decide : ∀ j, j < 2 → yRl 122 j = true) j hj
  · exact (by decide : ∀ j, j < 6 → yRl 123 j = true) j hj
  · exact (by decide : ∀ j, j < 6 → yRl 124 j = true) j hj
  · exact (by decide : ∀ j, j < 12 → yRl 125 j = true) j hj
  · exact (by decide : ∀ j, j < 24 → yRl 126 j = true) j hj
  · exact (by decide : ∀ j, j < 2 → yRl 127 j = true) j hj
  · exact (by decide : ∀ j, j < 24 → yRl 128 j = true) j hj
  · exact (by decide : ∀ j, j < 24 → yRl 129 j = true) j hj
/-- the same as rBg, as far as the slots go that there are -/
def rBw (b m : yMem) : Prop := (w32 (m 118 0) = 0 ∧ w32 (m 119 0) = w32 (m 97 4) ∧ w32 (m 120 0) = w32 (m 97 5) ∧ w32 (m 121 0) = 0 ∧ w32 (m 122 0) = 0 ∧ w32 (m 127 0) = 0) ∧ (∀ j : Nat, j < 3 → w32 (m 123 j) = if (j : Int) < w32 (m 97 0) then w32 (m 100 j) else 0) ∧ (∀ j : Nat, j < 3 → w32 (m 124 j) = if (j : Int) < w32 (m 97 3) then w32 (m 113 j) else 0) ∧ (∀ j : Nat, j < 6 → w32 (m 125 j) = 0) ∧ (∀ j : Nat, j < 12 → w32 (m 126 j) = -1) ∧ ∀ i j : Nat, (118 ≤ i ∧ i ≤ 122 ∧ j ≠ 0) ∨ (i = 123 ∧ 3 ≤ j) ∨ (i = 124 ∧ 3 ≤ j) ∨ (i = 125 ∧ 6 ≤ j) ∨ (i = 126 ∧ 12 ≤ j) ∨ (i = 127 ∧ j ≠ 0) ∨ i = 128 ∨ i = 129 → j < wln i → w32 (m i j) = w32 (b i j)
theorem rBw_al {b b' m m2 : yMem} (h : rBg b' m2) (al : yAl m m2) (hb : ∀ i j, 118 ≤ i → i ≤ 129 → b' i j = b i j) : rBw b m := by
  obtain ⟨⟨a1, a2, a3, a4, a5, a6⟩, a7, a8, a9, a10, a11⟩ := h
  have w : ∀ i j, 118 ≤ i → i ≤ 129 → j < wln i → w32 (m i j) = w32 (m2 i j) := fun i j h1 h2 h3 => al i j (wsl118 i j h1 h2 h3)
  have h97 : ∀ j, j < 14 → w32 (m 97 j) = w32 (m2 97 j) := fun j hj => al 97 j ((by decide : ∀ j, j < 14 → yRl 97 j = true) j hj)
  refine ⟨⟨?_, ?_, ?_, ?_, ?_, ?_⟩, fun j hj => ?_, fun j hj => ?_, fun j hj => ?_, fun j hj => ?_, fun i j hij hj => ?_⟩
  · rw [w 118 0 (by decide) (by decide) (by decide)]; exact a1
  · rw [w 119 0 (by decide) (by decide) (by decide), h97 4 (by decide)]; exact a2
  · rw [w 120 0 (by decide) (by decide) (by decide), h97 5 (by decide)]; exact a3
  · rw [w 121 0 (by decide) (by decide) (by decide)]; exact a4
  · rw [w 122 0 (by decide) (by decide) (by decide)]; exact a5
  · rw [w 127 0 (by decide) (by decide) (by decide)]; exact a6
  · rw [w 123 j (by decide) (by decide) (show j < 6 by omega), h97 0 (by decide), al 100 j ((by decide : ∀ j, j < 6 → yRl 100 j = true) j (by omega))]; exact a7 j hj
  · rw [w 124 j (by decide) (by decide) (show j < 6 by omega), h97 3 (by decide), al 113 j ((by decide : ∀ j, j < 6 → yRl 113 j = true) j (by omega))]; exact a8 j hj
  · rw [w 125 j (by decide) (by decide) (show j < 12 by omega)]; exact a9 j hj
  · rw [w 126 j (by decide) (by decide) (show j < 24 by omega)]; exact a10 j hj
  · rw [w i j (by omega) (by omega) hj, a11 i j hij, hb i j (by omega) (by omega)]
