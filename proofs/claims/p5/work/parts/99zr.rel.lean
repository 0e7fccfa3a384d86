/-! WHAT STANDS BETWEEN CALLS: both objects, alike -/
/-- both keep the same FAULT -/
def LIf (mem : yMem) : Prop := w32 (mem 0 12) = w32 (mem 95 33) ∧ w32 (mem 0 13) = w32 (mem 95 34)
def LI (mem : yMem) : Prop := aGok mem ∧ Om mem ∧ w32 (mem 0 11) = w32 (mem 95 2) ∧ (∀ j, w32 (mem 1 j) = sBs (w32 (mem 96 j))) ∧ cWd mem ∧ LIf mem ∧ LId mem
/-- the slots that LI speaks of, but for what aGok and Om say -/
def tp4 (w : List (Nat × Nat)) : Bool := w.all (fun q => !(Nat.beq q.1 1) && (!(Nat.beq q.1 56) && (!(Nat.ble 2 q.1 && Nat.ble q.1 26) && !(Nat.ble 96 q.1 && Nat.ble q.1 117))))
def tp3 (w : List (Nat × Nat)) : Bool := tp4 w && (!(amod w 0 11) && (!(amod w 0 12) && (!(amod w 0 13) && (!(amod w 95 2) && (!(amod w 95 33) && !(amod w 95 34))))))
theorem tp3_ok {w : List (Nat × Nat)} (h : tp4 w = true) {i j : Nat} (hi : i = 1 ∨ i = 56 ∨ (2 ≤ i ∧ i ≤ 26) ∨ (96 ≤ i ∧ i ≤ 117)) : amod w i j = false := by
  cases hm : amod w i j with
  | false => rfl
  | true =>
    obtain ⟨q, q1, q2, q3⟩ := amod_ex hm
    have h2 := List.all_eq_true.mp h q q1
    rw [q2] at h2
    simp only [Bool.and_eq_true] at h2
    obtain ⟨h3, h4, h5, h6⟩ := h2
    rcases hi with rfl | rfl | ⟨a, b⟩ | ⟨a, b⟩
    · exact absurd h3 (by decide)
    · exact absurd h4 (by decide)
    · rw [Nat.ble_eq_true_of_le a, Nat.ble_eq_true_of_le b] at h5
      cases h5
    · rw [Nat.ble_eq_true_of_le a, Nat.ble_eq_true_of_le b] at h6
      cases h6
/-- a call that touches none of it -/
theorem LI_fr {mem m : yMem} (hI : LI mem) (hG : aGok m) (hO : Om m) (h0 : ∀ j, j = 11 ∨ j = 12 ∨ j = 13 → m 0 j = mem 0 j) (h1 : ∀ j, m 1 j = mem 1 j) (h56 : ∀ j, m 56 j = mem 56 j) (h95 : ∀ j, j = 2 ∨ j = 33 ∨ j = 34 → m 95 j = mem 95 j) (hd : ∀ c j, (2 ≤ c ∧ c ≤ 26) ∨ (96 ≤ c ∧ c ≤ 117) → m c j = mem c j) : LI m := by
  obtain ⟨_, _, a3, a4, a5, ⟨a6, a7⟩, a8⟩ := hI
  exact ⟨hG, hO, by rw [h0 11 (by decide), h95 2 (by decide)]; exact a3, fun j => by rw [h1, hd 96 j (by decide)]; exact a4 j, fun i hi => by rw [h56]; exact a5 i hi, ⟨by rw [h0 12 (by decide), h95 33 (by decide)]; exact a6, by rw [h0 13 (by decide), h95 34 (by decide)]; exact a7⟩, LId_w a8 (fun c j ht => by rw [hd c j (Or.inl (tkS_c ht))]) (fun i j n _ i1 i2 _ => by rw [hd i j (Or.inr ⟨by omega, i2⟩)])⟩
theorem LI_R {mem m : yMem} (hI : LI mem) (h : RQ mem m) : LI m := LI_fr hI h.1 h.2.1 (fun j _ => h.2.2.1 0 j (by decide)) (fun j => h.2.2.1 1 j (by decide)) (fun j => h.2.2.1 56 j (by decide)) (fun j hj => h.2.2.2 j hj) (fun c j hc => h.2.2.1 c j (by omega))
theorem LI_a {w : List (Nat × Nat)} {mem m : yMem} (hI : LI mem) (hG : aGok m) (hO : Om m) (hF : aFrm w mem m) (hw : tp3 w = true) : LI m := by
  simp only [tp3, Bool.and_eq_true, Bool.not_eq_true'] at hw
  obtain ⟨k1, k2, k3, k4, k5, k6, k7⟩ := hw
  refine LI_fr hI hG hO (fun j hj => ?_) (fun j => hF 1 j (tp3_ok k1 (Or.inl rfl))) (fun j => hF 56 j (tp3_ok k1 (Or.inr (Or.inl rfl)))) (fun j hj => ?_) (fun c j hc => hF c j (tp3_ok k1 (Or.inr (Or.inr hc))))
  · rcases hj with rfl | rfl | rfl
    · exact hF 0 11 k2
    · exact hF 0 12 k3
    · exact hF 0 13 k4
  · rcases hj with rfl | rfl | rfl
    · exact hF 95 2 k5
    · exact hF 95 33 k6
    · exact hF 95 34 k7
def lav (X : Nat → Int) : Nat → Nat → List yV
  | 0, _ => []
  | n + 1, k => (0, X k) :: lav X n (k + 1)
/-- a call of both: alike answers, LI stays -/
def LX (E : yE) (n : Nat) (M1 M2 : xM) (t : Nat) : Prop := ∀ (X : Nat → Int) (mem : yMem), LI mem → yCon E 1000 M1 ((1, ((0 : Nat) : Int)) :: lav X n 1) mem (fun r mem1 => ∃ x, r = some (t, x) ∧ yCon E 1000 M2 ((1, ((95 : Nat) : Int)) :: lav X n 1) mem1 (fun r2 mem2 => ∃ y, r2 = some (t, y) ∧ w32 x = w32 y ∧ LI mem2))
/-- feed: both tapes stay alike -/
theorem LI_feed {mem m1 m2 : yMem} {g : Nat → Int} {r1 r2 : Int} (hI : LI mem) (F1 : FxX mem g r1 m1) (F2 : FrX m1 g r2 m2) : LI m2 ∧ w32 r1 = w32 r2 := by
  obtain ⟨hG, hO, hT, hB, hW, ⟨hf1, hf2⟩, hId⟩ := hI
  obtain ⟨⟨a1, a2, a3⟩, a4, a5, a6⟩ := F1
  obtain ⟨⟨b1, b2, b3⟩, b5, b6, b7⟩ := F2
  have e95 : m1 95 2 = mem 95 2 := a2 95 2 (by decide)
  have e0 : m2 0 11 = m1 0 11 := b2 0 11 (by decide) (by decide)
  have e96 : ∀ j, m1 96 j = mem 96 j := fun j => a2 96 j (by decide)
  have e1 : ∀ j, m2 1 j = m1 1 j := fun j => b2 1 j (by decide) (by decide)
  have g0 : 0 ≤ w32 (mem 0 11) := (ag hG 0 11 ag_0_11).1
  rw [e95, ← hT] at b3 b5 b6
  have key : w32 r1 = w32 r2 ∧ w32 (m1 0 11) = w32 (m2 95 2) := by
    by_cases h7 : w32 (mem 0 11) ≤ 780
    · rw [if_pos h7] at a3 b3
      omega
    · rw [if_neg h7] at a3 b3
      omega
  refine ⟨⟨b1, yoc_Om mem m2 (fun i j hi => ?_) hO, by rw [e0]; exact key.2, fun j => ?_, fun i hi => ?_, ⟨?_, ?_⟩, LId_w hId (fun c j ht => by rw [b2 c j (by have := tkS_c ht; omega) (by have := tkS_c ht; omega), a4 c j (by have := tkS_c ht; omega) (Or.inl (by have := tkS_c ht; omega))]) (fun i j n _ i1 i2 _ => by rw [b2 i j (by omega) (by omega), a2 i j (by omega)])⟩, key.1⟩
  · have hy : ∀ k ∈ yoc, 97 ≤ k := by decide
    have := hy i hi
    rw [b2 i j (by omega) (by omega), a2 i j (by omega)]
  · rw [e1]
    by_cases h7 : w32 (mem 0 11) ≤ 780
    · obtain ⟨p1, p2⟩ := a5 h7
      obtain ⟨q1, q2⟩ := b5 h7
      by_cases hj : j < (w32 (mem 0 11)).toNat ∨ (w32 (mem 0 11)).toNat + 20 ≤ j
      · rw [p1 j hj, q1 j hj, e96]
        exact hB j
      · have ej : j = (w32 (mem 0 11)).toNat + (j - (w32 (mem 0 11)).toNat) := by omega
        rw [ej, p2 _ (by omega), q2 _ (by omega)]
    · rw [a6 h7, b6 h7, e96]
      exact hB j
  · rw [b2 56 i (by decide) (by decide), a4 56 i (by decide) (Or.inl (by decide))]
    exact hW i hi
  · rw [b2 0 12 (by decide) (by decide), a4 0 12 (by decide) (Or.inr (by decide)), b7 33 (by decide) (by decide), a2 95 33 (by decide)]
    exact hf1
  · rw [b2 0 13 (by decide) (by decide), a4 0 13 (by decide) (Or.inr (by decide)), b7 34 (by decide) (by decide), a2 95 34 (by decide)]
    exact hf2
theorem lx_feed {E : yE} (hE : yEok E) : LX E 5 xm_14 xm_167 0 := fun X mem hI => x_feed hE (by decide) hI.1 (fun r m1 F1 => ⟨r, rfl, rx_feed hE (by decide) F1.1.1 (fun r2 m2 F2 => ⟨r2, rfl, (LI_feed hI F1 F2).2, (LI_feed hI F1 F2).1⟩)⟩)
theorem zhf_L : ∀ i, i < 118 → 97 ≤ i → zhf.getD (i - 97) 0 ≤ [800, 14, 6, 6, 6, 12, 12, 12, 12, 12, 12, 12, 8, 8, 24, 192, 6, 6, 10, 10, 128, 128].getD (i - 96) 0 := by decide +kernel
/-- text -/
theorem lx_text {E : yE} (hE : yEok E) (hm : yman Om) : LX E 1 xm_41 xm_242 0 := fun X mem hI => by
  obtain ⟨hG, hO, hT, hB, hW, ⟨hf1, hf2⟩, hId⟩ := hI
  have g96 : ∀ j, 0 ≤ w32 (mem 96 j) ∧ w32 (mem 96 j) ≤ 255 := fun j => agA hG 96 j ae_96
  refine g_xtext hE hm (by decide) (ch := fun j => w32 (mem 96 j)) hG hO (fun j => ⟨hB j, g96 j⟩) hW (fun r1 m1 T1 P1 A1 => ⟨r1, rfl, ?_⟩)
  have e96 : ∀ j, m1 96 j = mem 96 j := fun j => T1.2.2.1 96 j (by decide)
  have e95 : ∀ j, m1 95 j = mem 95 j := fun j => T1.2.2.1 95 j (by decide)
  have C1 : yCon E 1000 xm_242 [(1, 95), (0, X 1)] m1 (fun r m => (∃ y, r = some (0, y)) ∧ TxQ m1 (X 1) m) := c_text hE (by decide) T1.1 T1.2.1 (fun r m h => ⟨⟨r, rfl⟩, h⟩)
  have C2 : yCon E 1000 xm_242 [(1, 95), (0, X 1)] m1 (fun r m => ∃ y, r = some (0, y) ∧ tRs (fun j => w32 (mem 96 j)) (w32 (m1 95 2)) (w32 (X 1)) (w32 y) (w32 (m1 95 33), w32 (m1 95 34)) (w32 (m 95 33), w32 (m 95 34)) (lwW m1 m) (fun X D => (yOk X → rDl m D) ∧ (¬ yOk X → lwW m1 m))) := rf_text hE (by decide) T1.1 (fun j => by rw [e96]; exact ⟨rfl, g96 j⟩) (fun r m h => ⟨r, rfl, h⟩)
  refine yCon_mono (yCon_and C1 C2) (fun r m2 hm2 => ?_)
  obtain ⟨⟨⟨y, rfl⟩, T2⟩, r', m3, ⟨y2, rfl, A2⟩, al, er⟩ := hm2
  have ey : w32 y = w32 y2 := ydv_0 er
  rw [e95, e95, e95, ← hT, ← hf1, ← hf2] at A2
  obtain ⟨u1, u2, u3⟩ := tRs_u A1 A2
  have s2 : ∀ c j, tkS c j → w32 (m2 c j) = w32 (m1 c j) := fun c j ht => by rw [T2.2.2.1 c j (Or.inl (by have := tkS_c ht; omega))]
  have l2 : lwW m3 m2 := fun i j n hn i1 i2 hj => al i j (yRl_a (by omega) (by omega) (Nat.lt_of_lt_of_le hj (by rw [← hn]; exact zhf_L i (by omega) i1)))
  have l1 : lwW mem m1 := fun i j n _ i1 _ _ => by rw [T1.2.2.1 i j (by omega)]
  have same : hyS mem m1 → lwW m1 m3 → LId m2 := fun p p' => LId_w hId (fun c j ht => by rw [s2 c j ht, p c j ht]) (lwW_tr (lwW_tr l1 p') l2)
  have hId2 : LId m2 := by
    rcases u3 with ⟨p, p'⟩ | ⟨Y, D, p, p'⟩
    · exact same p p'
    · by_cases hY : yOk Y
      · exact ⟨D, cDh_w (p.1 hY) s2, rDl_w (p'.1 hY) l2⟩
      · exact same (p.2 hY) (p'.2 hY)
  have v1 := congrArg Prod.fst u2
  have v2 := congrArg Prod.snd u2
  dsimp only at v1 v2
  refine ⟨y, rfl, by rw [ey]; exact u1, T2.1, T2.2.1, ?_, fun j => ?_, fun i hi => ?_, ⟨?_, ?_⟩, hId2⟩
  · rw [T2.2.2.1 0 11 (by decide), T2.2.2.2, T1.2.2.2, e95, hT]
  · rw [T2.2.2.1 1 j (by decide), T2.2.2.1 96 j (by decide), P1.1, e96]
    exact hB j
  · rw [T2.2.2.1 56 i (by decide), P1.2]
    exact hW i hi
  · rw [T2.2.2.1 0 12 (by decide), al 95 33 rfl]
    exact v1
  · rw [T2.2.2.1 0 13 (by decide), al 95 34 rfl]
    exact v2
/-- thrown = 0 -/
theorem LI_95 {mem : yMem} (hI : LI mem) : LI (yset mem 95 0 0) := LI_fr hI (aGok_set hI.1 (ag_32 ag_95_0)) (yoc_Om mem _ (fun i j hi => yset_o (fun e => by subst e; exact absurd hi (by decide))) hI.2.1) (fun j _ => yset_o (by decide)) (fun j => yset_o (by decide)) (fun j => yset_o (by decide)) (fun j hj => yset_d (by omega)) (fun c j hc => yset_o (by omega))
theorem lx_fault {E : yE} (hE : yEok E) : LX E 1 xm_13 xm_166 0 := fun X mem hI => x_fault hE (by decide) (fun r h1 => ⟨r, rfl, r_fault hE (by decide) (fun r2 h2 => ⟨r2, rfl, by
  rw [h1, h2, hI.2.2.2.2.2.1.1, hI.2.2.2.2.2.1.2], LI_95 hI⟩)⟩)
