/-! THE REFERENCE: isWord, isSign on a state -/
theorem sRw_inj : ∀ k, k < 40 → 17 ≤ k → ∀ k', k' < 40 → 17 ≤ k' → sRw k = sRw k' → k = k' := by decide +kernel
theorem sSc_inj : ∀ k, k < 17 → 4 ≤ k → ∀ k', k' < 17 → 4 ≤ k' → sSc k = sSc k' → k = k' := by decide +kernel
section RD
variable {mem : yMem} {ch : Nat → Int} {n : Nat} {x : sY}
theorem rf_isw (h : rTk ch n mem x) {k0 : Nat} (h1 : 17 ≤ k0) (h2 : k0 < 40) : (w32 (mem 95 31) = 0 ∧ w32 (mem 95 29) = 0 ∧ w32 (mem 95 30) = sRw k0) ↔ yKd x = k0 := by
  cases x with
  | inl e =>
    have := h.2.2.2.1
    have := h.2.2.2.2.1
    refine ⟨fun q => absurd q.1 (by omega), fun q => ?_⟩
    have : (0 : Nat) = k0 := q
    omega
  | inr l =>
    have hz : w32 (mem 95 31) = 0 := h.2.2.2.1
    have hR := rTk_rk h
    rw [yKd_r]
    unfold sRk at hR
    refine ⟨fun q => ?_, fun q => ?_⟩
    · rcases hR with z | z | z | z | z | ⟨z1, z2, z3, z4⟩
      · omega
      · omega
      · omega
      · omega
      · omega
      · exact sRw_inj _ (by omega) z1 _ h2 h1 (by rw [← z4]; exact q.2.2)
    · rcases hR with z | z | z | z | z | ⟨z1, z2, z3, z4⟩
      · omega
      · omega
      · omega
      · omega
      · omega
      · exact ⟨hz, z3, by rw [z4, q]⟩
theorem rf_iss (h : rTk ch n mem x) {k0 : Nat} (h1 : 4 ≤ k0) (h2 : k0 < 17) : (w32 (mem 95 31) = 0 ∧ w32 (mem 95 29) = 3 ∧ w32 (mem 95 30) = sSc k0) ↔ yKd x = k0 := by
  cases x with
  | inl e =>
    have := h.2.2.2.1
    have := h.2.2.2.2.1
    refine ⟨fun q => absurd q.1 (by omega), fun q => ?_⟩
    have : (0 : Nat) = k0 := q
    omega
  | inr l =>
    have hz : w32 (mem 95 31) = 0 := h.2.2.2.1
    have hR := rTk_rk h
    rw [yKd_r]
    unfold sRk at hR
    refine ⟨fun q => ?_, fun q => ?_⟩
    · rcases hR with z | z | z | z | ⟨z1, z2, z3, z4⟩ | z
      · omega
      · omega
      · omega
      · omega
      · exact sSc_inj _ (by omega) z1 _ h2 h1 (by rw [← z4]; exact q.2.2)
      · omega
    · rcases hR with z | z | z | z | ⟨z1, z2, z3, z4⟩ | z
      · omega
      · omega
      · omega
      · omega
      · exact ⟨hz, z3, by rw [z4, q]⟩
      · omega
end RD
