/-- upper halves, from the cell 97 on -/
def zhf : List Nat := [7, 3, 3, 3, 6, 6, 6, 6, 6, 6, 6, 4, 4, 12, 96, 3, 3, 5, 5, 64, 64]
def lnA (i j : Nat) : Bool := (Nat.beq i 95 && zis [24, 25, 27, 28, 29, 30, 31, 32, 35, 36] j) || (Nat.ble 97 i && (Nat.ble i 117 && Nat.ble (zhf.getD (i - 97) 0) j))
/-- what reading a LINE leaves as it is -/
def zFrm (mem m : yMem) : Prop := ∀ i j, lnA i j = false → m i j = mem i j
theorem zFrm_rf {a : yMem} : zFrm a a := fun _ _ _ => rfl
theorem zFrm_tr {a b c : yMem} (h1 : zFrm a b) (h2 : zFrm b c) : zFrm a c := fun i j h => by rw [h2 i j h, h1 i j h]
theorem zFrm_set {a b : yMem} (h : zFrm a b) {i j : Nat} {x : Int} (hA : lnA i j = true) : zFrm a (yset b i j x) := by
  intro p q hpq
  unfold yset
  split
  · next e =>
    subst e
    split
    · next e => subst e; rw [hA] at hpq; cases hpq
    · exact h p q hpq
  · exact h p q hpq
theorem amod_ex : ∀ {w : List (Nat × Nat)} {i j : Nat}, amod w i j = true → ∃ q ∈ w, q.1 = i ∧ (q.2 = 0 ∨ q.2 = j + 1)
  | q :: r, i, j, h => by
    simp only [amod, Bool.or_eq_true, Bool.and_eq_true, Nat.beq_eq] at h
    rcases h with h | h
    · exact ⟨q, List.mem_cons_self, h.1, h.2⟩
    · obtain ⟨p, h1, h2⟩ := amod_ex h
      exact ⟨p, List.mem_cons_of_mem _ h1, h2⟩
theorem zFrm_of {w : List (Nat × Nat)} {a b : yMem} (h : aFrm w a b) (hw : w.all (fun q => !(Nat.beq q.2 0) && lnA q.1 (q.2 - 1)) = true) : zFrm a b := by
  intro i j hij
  apply h i j
  cases hm : amod w i j with
  | false => rfl
  | true =>
    obtain ⟨q, h1, h2, h3⟩ := amod_ex hm
    have := List.all_eq_true.mp hw q h1
    simp only [Bool.and_eq_true, Bool.not_eq_true'] at this
    obtain ⟨t1, t2⟩ := this
    rcases h3 with h3 | h3
    · rw [h3] at t1; cases t1
    · rw [h2, h3, Nat.add_sub_cancel, hij] at t2; cases t2
theorem zFrm_ex : exW.all (fun q => !(Nat.beq q.2 0) && lnA q.1 (q.2 - 1)) = true := by decide +kernel
theorem lnA_hi {i j : Nat} (h1 : 97 ≤ i) (h2 : i ≤ 117) (h3 : zhf.getD (i - 97) 0 ≤ j) : lnA i j = true := by
  unfold lnA
  rw [Bool.or_eq_true]
  refine Or.inr ?_
  rw [Bool.and_eq_true, Bool.and_eq_true, Nat.ble_eq, Nat.ble_eq, Nat.ble_eq]
  exact ⟨h1, h2, h3⟩
/-- the E that were read are as works wants them; VOICES that were read have odds -/
def SI (mem : yMem) : Prop := ∀ s : Nat, 5 ≤ s → s < 10 → w32 (mem 115 s) ≤ w32 (mem 97 13) ∧ ∃ e, zpf (mem 116) (mem 117) (w32 (mem 115 s) - w32 (mem 114 s)).toNat (64 + w32 (mem 114 s)).toNat 0 = some e
def UI (mem : yMem) : Prop := ∀ v : Nat, (v : Int) < w32 (mem 97 8) → 1 ≤ w32 (mem 107 (6 + v)) ∧ w32 (mem 107 (6 + v)) ≤ 99
/-- what a piece of a LINE does -/
def Ln (mem m : yMem) : Prop := PI m ∧ zFrm mem m ∧ w32 (mem 95 27) ≤ w32 (m 95 27) ∧ (¬ zF mem = 0 → ¬ zF m = 0) ∧ (zF m = 0 → (SI mem → SI m) ∧ (UI mem → UI m))
theorem Ln_tr {a b c : yMem} (h1 : Ln a b) (h2 : Ln b c) : Ln a c := by
  obtain ⟨p1, p2, p3, p4, p5⟩ := h1
  obtain ⟨q1, q2, q3, q4, q5⟩ := h2
  refine ⟨q1, zFrm_tr p2 q2, Int.le_trans p3 q3, fun h => q4 (p4 h), fun h => ?_⟩
  have hb : zF b = 0 := by
    by_cases hb : zF b = 0
    · exact hb
    · exact absurd h (q4 hb)
  exact ⟨fun z => (q5 h).1 ((p5 hb).1 z), fun z => (q5 h).2 ((p5 hb).2 z)⟩
theorem Ln_rf {a : yMem} (h : PI a) : Ln a a := ⟨h, zFrm_rf, Int.le_refl _, fun h => h, fun _ => ⟨fun h => h, fun h => h⟩⟩
theorem SI_of {a b : yMem} (h1 : ∀ i j, 114 ≤ i → i ≤ 117 → b i j = a i j) (h2 : b 97 13 = a 97 13) (h : SI a) : SI b := by
  intro s s1 s2
  have e1 : b 116 = a 116 := funext fun j => h1 116 j (by decide) (by decide)
  have e2 : b 117 = a 117 := funext fun j => h1 117 j (by decide) (by decide)
  rw [h1 115 s (by decide) (by decide), h1 114 s (by decide) (by decide), h2, e1, e2]
  exact h s s1 s2
theorem UI_of {a b : yMem} (h1 : ∀ j, b 107 j = a 107 j) (h2 : b 97 8 = a 97 8) (h : UI a) : UI b := by
  intro v hv
  rw [h2] at hv
  rw [h1]
  exact h v hv
theorem rdW_i {i j : Nat} (h : i ≠ 95) : amod rdW i j = false := by
  cases hm : amod rdW i j with
  | false => rfl
  | true =>
    obtain ⟨q, h1, h2, -⟩ := amod_ex hm
    simp only [rdW, List.mem_cons, List.not_mem_nil, or_false] at h1
    rcases h1 with rfl | rfl | rfl | rfl | rfl | rfl <;> exact absurd h2.symm h
theorem Ln_Rd {a b : yMem} (h : Rd a b) : Ln a b := by
  obtain ⟨h1, h2, h3, h4⟩ := h
  refine ⟨h1, zFrm_of h2 rfl, h3, fun h => ?_, fun _ => ⟨SI_of (fun i j g1 g2 => h2 i j (rdW_i (by omega))) (h2 97 13 rfl), UI_of (fun j => h2 107 j rfl) (h2 97 8 rfl)⟩⟩
  rw [h4 h]; exact h
theorem PI_tab {a : yMem} (hP : PI a) {i j : Nat} {x : Int} (h1 : i ≠ 95) (h2 : i ≠ 97 ∨ j ≠ 13) (hg : (agam i j).1 ≤ w32 x ∧ w32 x ≤ (agam i j).2) : PI (yset a i j x) := by
  have e : ∀ k, yset a i j x 95 k = a 95 k := fun k => yset_o (Ne.symm h1)
  have e2 : yset a i j x 97 13 = a 97 13 := by
    rcases h2 with h2 | h2
    · exact yset_o (Ne.symm h2)
    · unfold yset
      split
      · rw [if_neg (Ne.symm h2)]
      · rfl
  refine ⟨aGok_set hP.1 hg, ?_, ?_, ?_⟩
  · rw [e, e]; exact hP.2.1
  · rw [e, e2]; exact hP.2.2.1
  · rw [e, e]; exact hP.2.2.2
/-- a write into a table -/
theorem Ln_w {a : yMem} (hP : PI a) {i j : Nat} {x : Int} (h1 : 98 ≤ i) (h2 : i ≤ 113) (h3 : i ≠ 107) (h4 : zhf.getD (i - 97) 0 ≤ j) (hg : (agam i j).1 ≤ w32 x ∧ w32 x ≤ (agam i j).2) : Ln a (yset a i j x) := by
  refine ⟨PI_tab hP (by omega) (Or.inl (by omega)) hg, zFrm_set zFrm_rf (lnA_hi (by omega) (by omega) h4), ?_, ?_, fun _ => ⟨SI_of (fun p q g1 g2 => yset_o (by omega)) (yset_o (by omega)), UI_of (fun q => yset_o (by omega)) (yset_o (by omega))⟩⟩
  · rw [yset_o (by omega)]; exact Int.le_refl _
  · intro h; show ¬ w32 _ = 0; rw [yset_o (by omega)]; exact h
theorem Ln_w107 {a : yMem} (hP : PI a) {j : Nat} {x : Int} (h4 : 6 ≤ j) (h5 : w32 (a 97 8) + 6 ≤ (j : Int)) : Ln a (yset a 107 j x) := by
  refine ⟨PI_tab hP (by decide) (Or.inl (by decide)) (ag_32 (agam_A ae_107)), zFrm_set zFrm_rf (lnA_hi (by decide) (by decide) h4), ?_, ?_, fun _ => ⟨SI_of (fun p q g1 g2 => yset_o (by omega)) (yset_o (by decide)), fun h v hv => ?_⟩⟩
  · rw [yset_o (by decide)]; exact Int.le_refl _
  · intro h; show ¬ w32 _ = 0; rw [yset_o (by decide)]; exact h
  · rw [yset_o (by decide)] at hv
    rw [yset_d (by omega)]
    exact h v hv
