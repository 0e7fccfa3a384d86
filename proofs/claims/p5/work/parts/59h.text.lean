/-- what stands between calls, of REDEEMED VOICES and of odds -/
def OmB1 (mem : yMem) (h : Nat) : Prop := (∀ i : Nat, (i : Int) < w32 (mem 127 h) → 0 ≤ w32 (mem 126 (12 * h + (w32 (mem 128 (12 * h + i))).toNat))) ∧ (∀ i j : Nat, i < j → (j : Int) < w32 (mem 127 h) → ¬ w32 (mem 128 (12 * h + i)) = w32 (mem 128 (12 * h + j)))
def OmB (mem : yMem) : Prop := OmB1 mem 0 ∧ OmB1 mem 1
def OmC (mem : yMem) : Prop := ∀ v : Nat, (v : Int) < w32 (mem 97 1) → 1 ≤ w32 (mem 107 v) ∧ w32 (mem 107 v) ≤ 99
def Om (mem : yMem) : Prop := OmA mem ∧ OmB mem ∧ OmC mem
theorem OmA_of {a b : yMem} (hG : aGok a) (h1 : ∀ j, j < 5 → b 114 j = a 114 j ∧ b 115 j = a 115 j) (h2 : ∀ j, j < 64 → b 116 j = a 116 j ∧ b 117 j = a 117 j) (h : OmA a) : OmA b := by
  intro s hs
  obtain ⟨e, he⟩ := h s hs
  have g1 := agA hG 114 s ae_114
  have g2 := agA hG 115 s ae_115
  rw [(h1 s hs).1, (h1 s hs).2]
  refine ⟨e, ?_⟩
  rw [zpf_ext (ks := a 116) (vs := a 117) _ _ 0 (fun j j1 j2 => h2 j (by omega))]
  exact he
theorem OmB1_of {a b : yMem} {h : Nat} (h1 : b 127 h = a 127 h) (h2 : ∀ j, 12 * h ≤ j → b 126 j = a 126 j ∧ b 128 j = a 128 j) (hB : OmB1 a h) : OmB1 b h := by
  refine ⟨fun i hi => ?_, fun i j hij hj => ?_⟩
  · rw [h1] at hi
    rw [(h2 (12 * h + i) (by omega)).2, (h2 _ (by omega)).1]
    exact hB.1 i hi
  · rw [h1] at hj
    rw [(h2 (12 * h + i) (by omega)).2, (h2 (12 * h + j) (by omega)).2]
    exact hB.2 i j hij hj
theorem OmC_of {a b : yMem} (hG : aGok a) (h1 : b 97 1 = a 97 1) (h2 : ∀ j, j < 6 → b 107 j = a 107 j) (h : OmC a) : OmC b := by
  intro v hv
  rw [h1] at hv
  have g := ag hG 97 1 ag_97_1
  rw [h2 v (by omega)]
  exact h v hv
/-- the text's own frame -/
def TFr (mem m : yMem) : Prop := ∀ i j, lnA i j = false → ¬ (i = 95 ∧ zis [0, 2, 26, 33, 34] j = true) → m i j = mem i j
theorem TFr_rf {a : yMem} : TFr a a := fun _ _ _ _ => rfl
theorem TFr_set {a b : yMem} (h : TFr a b) {i j : Nat} {x : Int} (hA : lnA i j = true ∨ (i = 95 ∧ zis [0, 2, 26, 33, 34] j = true)) : TFr a (yset b i j x) := by
  intro p q h1 h2
  unfold yset
  split
  · next e =>
    subst e
    split
    · next e =>
      subst e
      rcases hA with hA | hA
      · rw [hA] at h1; cases h1
      · exact absurd hA h2
    · exact h p q h1 h2
  · exact h p q h1 h2
theorem TFr_z {a b c : yMem} (h1 : TFr a b) (h2 : zFrm b c) : TFr a c := fun i j g1 g2 => by rw [h2 i j g1, h1 i j g1 g2]
theorem lnA_lo {i j : Nat} (h1 : i ≠ 95) (h2 : i < 97 ∨ 117 < i ∨ j < zhf.getD (i - 97) 0) : lnA i j = false := by
  unfold lnA
  rw [Bool.or_eq_false_iff]
  refine ⟨?_, ?_⟩
  · rw [Bool.and_eq_false_iff]; left; rw [← Bool.not_eq_true, Nat.beq_eq]; exact h1
  · rw [← Bool.not_eq_true, Bool.and_eq_true, Bool.and_eq_true, Nat.ble_eq, Nat.ble_eq, Nat.ble_eq]
    omega
/-- what stands is untouched by reading alone -/
theorem TFr_lo {a b : yMem} (h : TFr a b) {i j : Nat} (h1 : i ≠ 95) (h2 : i < 97 ∨ 117 < i ∨ j < zhf.getD (i - 97) 0) : b i j = a i j := h i j (lnA_lo h1 h2) (fun z => h1 z.1)
theorem TFr_Om {a b : yMem} (hG : aGok a) (h : TFr a b) (hO : Om a) : Om b := by
  obtain ⟨hA, hB, hC⟩ := hO
  refine ⟨OmA_of hG (fun j hj => ⟨TFr_lo h (by decide) (Or.inr (Or.inr hj)), TFr_lo h (by decide) (Or.inr (Or.inr hj))⟩) (fun j hj => ⟨TFr_lo h (by decide) (Or.inr (Or.inr hj)), TFr_lo h (by decide) (Or.inr (Or.inr hj))⟩) hA, ⟨OmB1_of (TFr_lo h (by decide) (by omega)) (fun j _ => ⟨TFr_lo h (by decide) (by omega), TFr_lo h (by decide) (by omega)⟩) hB.1, OmB1_of (TFr_lo h (by decide) (by omega)) (fun j _ => ⟨TFr_lo h (by decide) (by omega), TFr_lo h (by decide) (by omega)⟩) hB.2⟩, OmC_of hG (TFr_lo h (by decide) (Or.inr (Or.inr (by decide)))) (fun j hj => TFr_lo h (by decide) (Or.inr (Or.inr hj))) hC⟩
def TxQ (mem : yMem) (n : Int) (m : yMem) : Prop := aGok m ∧ Om m ∧ (∀ i j, i < 95 ∨ i = 96 → m i j = mem i j) ∧ w32 (m 95 2) = (if 0 ≤ w32 n ∧ w32 n ≤ w32 (mem 95 2) then 0 else w32 (mem 95 2))
theorem zpf_shift {ks vs ks' vs' : Nat → Int} : ∀ (n a : Nat) (d : Int), (∀ j, a ≤ j → j < a + n → ks' j = ks (64 + j) ∧ vs' j = vs (64 + j)) → zpf ks' vs' n a d = zpf ks vs n (64 + a) d
  | 0, a, d, _ => rfl
  | n + 1, a, d, h => by
    simp only [zpf]
    rw [(h a (Nat.le_refl _) (by omega)).1, (h a (Nat.le_refl _) (by omega)).2]
    split
    · rw [zpf_shift n (a + 1) _ (fun j h1 h2 => h j (by omega) (by omega))]
      rfl
    · rfl
theorem Hm_lo {s : yMem} {i j n : Nat} (h1 : zis S2 i = true) (hn : zhf.getD (i - 97) 0 = n) (h2 : j < n) : Hm S2 s i j = s i (n + j) := by
  unfold Hm
  rw [if_pos ⟨h1, by rw [hn]; exact h2⟩, hn]
theorem Hm_no {s : yMem} {i j : Nat} (h1 : zis S2 i = false) : Hm S2 s i j = s i j := by
  unfold Hm
  rw [if_neg (fun h => by rw [h1] at h; cases h.1)]
theorem gam_half : ∀ i : Nat, i < 118 → 97 ≤ i → ∀ j : Nat, j < 96 → j < zhf.getD (i - 97) 0 → agam i (zhf.getD (i - 97) 0 + j) = agam i j := by decide +kernel
theorem zhf_le : ∀ i : Nat, i < 118 → 97 ≤ i → zhf.getD (i - 97) 0 ≤ 96 := by decide +kernel
theorem S2_in {i : Nat} (h : zis S2 i = true) : 97 ≤ i ∧ i < 118 := by
  simp only [S2, zis, Bool.or_eq_true, Nat.beq_eq, Bool.false_eq_true, or_false] at h
  omega
theorem aGok_Hm {s : yMem} (hG : aGok s) : aGok (Hm S2 s) := by
  intro i j
  unfold Hm
  split
  · next h =>
    obtain ⟨g1, g2⟩ := S2_in h.1
    have := zhf_le i g2 g1
    rw [← gam_half i g2 g1 j (by omega) h.2]
    exact hG i _
  · exact hG i j
