theorem ams_bitc {Om : yMem → Prop} : aSnd Om amc_bitc := by
  intro E hE D hD M hM args mem Q hA hG hO hP hQ
  cases hM
  match args, hA with
  | [(t, x)], hA =>
    obtain ⟨⟨h1, h2, h3⟩, -⟩ := hA
    dsimp only at h1 h2 h3
    subst h1
    obtain ⟨e, e8⟩ := zbf_w h2 h3
    exact c_bitc hE hD (hQ _ _ ⟨⟨rfl, by show (0 : Int) ≤ _; dsimp only; rw [e]; omega, by show _ ≤ (8 : Int); dsimp only; rw [e]; omega⟩, hG, hO, fun _ _ _ => rfl, fun q hq => by cases hq⟩)
theorem ams_isbest {Om : yMem → Prop} : aSnd Om amc_isbest := by
  intro E hE D hD M hM args mem Q hA hG hO hP hQ
  cases hM
  match args, hA with
  | [v0, (t, x), (u, y)], hA =>
    obtain ⟨h0, ⟨h1, h2, h3⟩, ⟨k1, k2, k3⟩, -⟩ := hA
    have h0' : v0 = (1, 76) := h0
    dsimp only at h1 h2 h3 k1 k2 k3
    subst h0' h1 k1
    refine c_isbest hE hD h2 h3 k3 hG (fun z hz => hQ _ _ ⟨⟨rfl, ?_, ?_⟩, hG, hO, fun _ _ _ => rfl, fun q hq => by cases hq⟩)
    · rcases hz with rfl | rfl <;> decide
    · rcases hz with rfl | rfl <;> decide
theorem within_G {mem m : yMem} (hG : aGok mem) (hF : aFrm [(95, 53), (131, 0)] mem m) (m1 : 0 ≤ w32 (m 95 52)) (m2 : w32 (m 95 52) ≤ 64) : aGok m := aGok_frm hG hF (fun i j hm => by
  simp only [amod, Bool.or_eq_true, Bool.and_eq_true, Nat.beq_eq, Bool.false_eq_true, or_false] at hm
  rcases hm with ⟨rfl, hm⟩ | ⟨rfl, hm⟩
  · have e : j = 52 := by omega
    subst e
    rw [ag_95_52]
    exact ⟨m1, m2⟩
  · exact ag_32 (agam_A ae_131))
theorem ams_within100 {Om : yMem → Prop} (hO : aOmF yoc Om) (hA : ∀ mem, Om mem → OmA mem) : aSnd Om amc_m_within100 := by
  intro E hE D hD M hM args mem Q hAr hG hOm hP hQ
  cases hM
  match args, hAr with
  | [v0, (t, x), (u, y), (w, z)], hAr =>
    obtain ⟨h0, ⟨h1, h2, h3⟩, ⟨k1, k2, k3⟩, ⟨l1, l2, l3⟩, -⟩ := hAr
    have h0' : v0 = (1, 95) := h0
    dsimp only at h1 h2 h3 k1 k2 k3 l1 l2 l3
    subst h0' h1 k1 l1
    refine c_within2 hE (by have : 5 ≤ D := hD; omega) h2 h3 hG (hA mem hOm) (by omega) (fun r m hr hF m1 m2 => hQ _ _ ⟨⟨rfl, ?_, ?_⟩, within_G hG hF m1 m2, aFrm_Om hO rfl hF hOm, hF, fun q hq => by cases hq⟩)
    · show (0 : Int) ≤ w32 r; omega
    · show w32 r ≤ (100 : Int); omega
theorem ams_within999 {Om : yMem → Prop} (hO : aOmF yoc Om) (hA : ∀ mem, Om mem → OmA mem) : aSnd Om amc_m_within999 := by
  intro E hE D hD M hM args mem Q hAr hG hOm hP hQ
  cases hM
  match args, hAr with
  | [v0, (t, x), (u, y), (w, z)], hAr =>
    obtain ⟨h0, ⟨h1, h2, h3⟩, ⟨k1, k2, k3⟩, ⟨l1, l2, l3⟩, -⟩ := hAr
    have h0' : v0 = (1, 95) := h0
    dsimp only at h1 h2 h3 k1 k2 k3 l1 l2 l3
    subst h0' h1 k1 l1
    refine c_within2 hE (by have : 5 ≤ D := hD; omega) h2 h3 hG (hA mem hOm) (by omega) (fun r m hr hF m1 m2 => hQ _ _ ⟨⟨rfl, ?_, ?_⟩, within_G hG hF m1 m2, aFrm_Om hO rfl hF hOm, hF, fun q hq => by cases hq⟩)
    · show (0 : Int) ≤ w32 r; omega
    · show w32 r ≤ (999 : Int); omega
