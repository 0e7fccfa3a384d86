/-! WHAT STANDS BETWEEN CALLS: both objects, alike -/
/-- both keep the same FAULT -/
def LIf (mem : yMem) : Prop := w32 (mem 0 12) = w32 (mem 95 33) ∧ w32 (mem 0 13) = w32 (mem 95 34)
def LI (k : Nat) (mem : yMem) : Prop := aGok mem ∧ Om mem ∧ w32 (mem 0 11) = w32 (mem 95 2) ∧ (∀ j, w32 (mem 1 j) = sBs (w32 (mem 96 j))) ∧ cWd mem ∧ LIf mem ∧ LIw k mem
/-- a call that touches none of it -/
theorem LI_fr {k l : Nat} {mem m : yMem} (hk : k ≤ l) (hI : LI k mem) (hG : aGok m) (hO : Om m) (hf : ∀ i j, tpP i j → m i j = mem i j) : LI l m := by
  obtain ⟨_, _, a3, a4, a5, ⟨a6, a7⟩, a8⟩ := hI
  exact ⟨hG, hO, by rw [hf 0 11 (by unfold tpP; omega), hf 95 2 (by unfold tpP; omega)]; exact a3, fun j => by rw [hf 1 j (Or.inl rfl), hf 96 j (by unfold tpP; omega)]; exact a4 j, fun i hi => by rw [hf 56 i (Or.inr (Or.inl rfl))]; exact a5 i hi, ⟨by rw [hf 0 12 (by unfold tpP; omega), hf 95 33 (by unfold tpP; omega)]; exact a6, by rw [hf 0 13 (by unfold tpP; omega), hf 95 34 (by unfold tpP; omega)]; exact a7⟩, LIw_fr hk a8 (fun i j h => hf i j (tpW_P h))⟩
theorem LI_le {k l : Nat} {mem : yMem} (hk : k ≤ l) (hI : LI k mem) : LI l mem := LI_fr hk hI hI.1 hI.2.1 (fun _ _ _ => rfl)
theorem LI_R {k l : Nat} {mem m : yMem} (hk : k ≤ l) (hI : LI k mem) (h : RQn mem m) : LI l m := LI_fr hk hI h.1 h.2.1 (fun i j hij => by
  by_cases e : i = 95
  · subst e
    exact h.2.2.2 j (by unfold tpP at hij; omega)
  · exact h.2.2.1 i j (by unfold tpP at hij; omega))
theorem LI_a {k l : Nat} {w : List (Nat × Nat)} {mem m : yMem} (hk : k ≤ l) (hI : LI k mem) (hG : aGok m) (hO : Om m) (hF : aFrm w mem m) (hw : tp3 w = true) : LI l m := LI_fr hk hI hG hO (fun i j hij => hF i j (tp3_ok hw hij))
/-- thrown = 0 -/
theorem LI_95 {k l : Nat} {mem : yMem} (hk : k ≤ l) (hI : LI k mem) : LI l (yset mem 95 0 0) := LI_fr hk hI (aGok_set hI.1 (ag_32 ag_95_0)) (yoc_Om mem _ (fun i j hi => yset_o (fun e => by subst e; exact absurd hi (by decide))) hI.2.1) (fun i j h => by
  rw [yset_a]
  split
  · next e => rw [if_neg (by unfold tpP at h; omega)]
  · rfl)
def lav (X : Nat → Int) : Nat → Nat → List yV
  | 0, _ => []
  | n + 1, k => (0, X k) :: lav X n (k + 1)
/-- a call of both: alike answers, LI stays -/
def LX (E : yE) (n : Nat) (M1 M2 : xM) (t : Nat) : Prop := ∀ (X : Nat → Int) (k : Nat) (mem : yMem), k ≤ 3100 → LI k mem → yCon E 1000 M1 ((1, ((0 : Nat) : Int)) :: lav X n 1) mem (fun r mem1 => ∃ x, r = some (t, x) ∧ yCon E 1000 M2 ((1, ((95 : Nat) : Int)) :: lav X n 1) mem1 (fun r2 mem2 => ∃ y, r2 = some (t, y) ∧ (t = 0 → w32 x = w32 y) ∧ (t = 4 → w64 x = w64 y) ∧ LI (k + 6) mem2))
theorem lx_e0 {x y : Int} {P : Prop} (h : w32 x = w32 y) (hp : P) : ((0 : Nat) = 0 → w32 x = w32 y) ∧ ((0 : Nat) = 4 → w64 x = w64 y) ∧ P := ⟨fun _ => h, fun z => absurd z (by decide), hp⟩
/-- feed: both tapes stay alike -/
theorem LI_feed {k l : Nat} (hk : k ≤ l) {mem m1 m2 : yMem} {g : Nat → Int} {r1 r2 : Int} (hI : LI k mem) (F1 : FxX mem g r1 m1) (F2 : FrX m1 g r2 m2) : LI l m2 ∧ w32 r1 = w32 r2 := by
  obtain ⟨hG, hO, hT, hB, hW, ⟨hf1, hf2⟩, hId⟩ := hI
  obtain ⟨⟨a1, a2, a3⟩, a4, a5, a6⟩ := F1
  obtain ⟨⟨b1, b2, b3⟩, b5, b6, b7⟩ := F2
  have e95 : m1 95 2 = mem 95 2 := a2 95 2 (by decide)
  have e0 : m2 0 11 = m1 0 11 := b2 0 11 (by decide) (by decide)
  have e96 : ∀ j, m1 96 j = mem 96 j := fun j => a2 96 j (by decide)
  have e1 : ∀ j, m2 1 j = m1 1 j := fun j => b2 1 j (by decide) (by decide)
  have g0 : 0 ≤ w32 (mem 0 11) := (ag hG 0 11 ag_0_11).1
  rw [e95, ← hT] at b3 b5 b6
  have key : w32 r1 = w32 r2 ∧ w32 (m1 0 11) = w32 (m2 95 2) := by
    by_cases h7 : w32 (mem 0 11) ≤ 780
    · rw [if_pos h7] at a3 b3
      omega
    · rw [if_neg h7] at a3 b3
      omega
  have fr : ∀ i j, tpW i j → m2 i j = mem i j := fun i j h => by
    by_cases e : i = 95
    · subst e
      rw [b7 j (by unfold tpW at h; omega) (by unfold tpW at h; omega), a2 95 j (by decide)]
    · rw [b2 i j e (by unfold tpW at h; omega)]
      by_cases e2 : 95 ≤ i
      · rw [a2 i j e2]
      · exact a4 i j (by unfold tpW at h; omega) (by unfold tpW at h; omega)
  refine ⟨⟨b1, yoc_Om mem m2 (fun i j hi => ?_) hO, by rw [e0]; exact key.2, fun j => ?_, fun i hi => ?_, ⟨?_, ?_⟩, LIw_fr hk hId fr⟩, key.1⟩
  · have hy : ∀ k ∈ yoc, 97 ≤ k := by decide
    have := hy i hi
    rw [b2 i j (by omega) (by omega), a2 i j (by omega)]
  · rw [e1]
    by_cases h7 : w32 (mem 0 11) ≤ 780
    · obtain ⟨p1, p2⟩ := a5 h7
      obtain ⟨q1, q2⟩ := b5 h7
      by_cases hj : j < (w32 (mem 0 11)).toNat ∨ (w32 (mem 0 11)).toNat + 20 ≤ j
      · rw [p1 j hj, q1 j hj, e96]
        exact hB j
      · have ej : j = (w32 (mem 0 11)).toNat + (j - (w32 (mem 0 11)).toNat) := by omega
        rw [ej, p2 _ (by omega), q2 _ (by omega)]
    · rw [a6 h7, b6 h7, e96]
      exact hB j
  · rw [b2 56 i (by decide) (by decide), a4 56 i (by decide) (Or.inl (by decide))]
    exact hW i hi
  · rw [b2 0 12 (by decide) (by decide), a4 0 12 (by decide) (Or.inr (by decide)), b7 33 (by decide) (by decide), a2 95 33 (by decide)]
    exact hf1
  · rw [b2 0 13 (by decide) (by decide), a4 0 13 (by decide) (Or.inr (by decide)), b7 34 (by decide) (by decide), a2 95 34 (by decide)]
    exact hf2
theorem lx_feed {E : yE} (hE : yEok E) : LX E 5 xm_14 xm_167 0 := fun X k mem _ hI => x_feed hE (by decide) hI.1 (fun r m1 F1 => ⟨r, rfl, rx_feed hE (by decide) F1.1.1 (fun r2 m2 F2 => ⟨r2, rfl, lx_e0 (LI_feed (Nat.le_add_right k 6) hI F1 F2).2 (LI_feed (Nat.le_add_right k 6) hI F1 F2).1⟩)⟩)
theorem zhf_L : ∀ i, i < 118 → 97 ≤ i → zhf.getD (i - 97) 0 ≤ [800, 14, 6, 6, 6, 12, 12, 12, 12, 12, 12, 12, 8, 8, 24, 192, 6, 6, 10, 10, 128, 128].getD (i - 96) 0 := by decide +kernel
/-- text -/
theorem lx_text {E : yE} (hE : yEok E) (hm : yman Om) : LX E 1 xm_41 xm_242 0 := fun X k mem _ hI => by
  obtain ⟨hG, hO, hT, hB, hW, ⟨hf1, hf2⟩, Dd, W, V, ⟨d1, d2, d3⟩, ⟨w1, w2, w3⟩, ⟨v1, v2, v3⟩, hkp, hhm⟩ := hI
  have g96 : ∀ j, 0 ≤ w32 (mem 96 j) ∧ w32 (mem 96 j) ≤ 255 := fun j => agA hG 96 j ae_96
  have X1 : yCon E 1000 xm_41 [(1, 0), (0, X 1)] mem (fun r m => ∃ y, r = some (0, y) ∧ XTQ mem (X 1) m ∧ TP mem m ∧ tRs (fun j => w32 (mem 96 j)) (w32 (mem 0 11)) (w32 (X 1)) (w32 y) (w32 (mem 0 12), w32 (mem 0 13)) (w32 (m 0 12), w32 (m 0 13)) (hyS mem m) (fun X D => (yOk X → cDh m D) ∧ (¬ yOk X → hyS mem m ∧ ¬ w32 (m 0 12) = 0))) := g_xtext hE hm (by decide) (ch := fun j => w32 (mem 96 j)) hG hO (fun j => ⟨hB j, g96 j⟩) hW (fun r1 m1 T1 P1 A1 => ⟨r1, rfl, T1, P1, A1⟩)
  have X2 : yCon E 1000 xm_41 [(1, 0), (0, X 1)] mem (fun r m => XWQ mem (X 1) m) := x_wtext hE hm (by decide) hG hO (fun r m h => h)
  refine yCon_mono (yCon_and X1 X2) (fun r1 m1 hm1 => ?_)
  obtain ⟨⟨y1, rfl, T1, P1, A1⟩, r1', n1, XW, al1, _⟩ := hm1
  refine ⟨y1, rfl, ?_⟩
  have e96 : ∀ j, m1 96 j = mem 96 j := fun j => T1.2.2.1 96 j (by decide)
  have e95 : ∀ j, m1 95 j = mem 95 j := fun j => T1.2.2.1 95 j (by decide)
  have C1 : yCon E 1000 xm_242 [(1, 95), (0, X 1)] m1 (fun r m => (∃ y, r = some (0, y)) ∧ TxQ m1 (X 1) m) := c_text hE (by decide) T1.1 T1.2.1 (fun r m h => ⟨⟨r, rfl⟩, h⟩)
  have C2 : yCon E 1000 xm_242 [(1, 95), (0, X 1)] m1 (fun r m => ∃ y, r = some (0, y) ∧ tRs (fun j => w32 (mem 96 j)) (w32 (m1 95 2)) (w32 (X 1)) (w32 y) (w32 (m1 95 33), w32 (m1 95 34)) (w32 (m 95 33), w32 (m 95 34)) (lwW m1 m) (fun X D => (yOk X → rDl m D) ∧ (¬ yOk X → lwW m1 m))) := rf_text hE (by decide) T1.1 (fun j => by rw [e96]; exact ⟨rfl, g96 j⟩) (fun r m h => ⟨r, rfl, h⟩)
  refine yCon_mono (yCon_and C1 C2) (fun r m2 hm2 => ?_)
  obtain ⟨⟨⟨y, rfl⟩, T2⟩, r', m3, ⟨y2, rfl, A2⟩, al, er⟩ := hm2
  have ey : w32 y = w32 y2 := ydv_0 er
  rw [e95, e95, e95, ← hT, ← hf1, ← hf2] at A2
  obtain ⟨u1, u2, u3⟩ := tRs_u A1 A2
  have s2 : ∀ c j, tkS c j → w32 (m2 c j) = w32 (m1 c j) := fun c j ht => by rw [T2.2.2.1 c j (Or.inl (by have := tkS_c ht; omega))]
  have l2 : lwW m3 m2 := fun i j n hn i1 i2 hj => al i j (yRl_a (by omega) (by omega) (Nat.lt_of_lt_of_le hj (by rw [← hn]; exact zhf_L i (by omega) i1)))
  have l1 : lwW mem m1 := fun i j n _ i1 _ _ => by rw [T1.2.2.1 i j (by omega)]
  have lo : ∀ i j, i < 95 → m2 i j = m1 i j := fun i j hi => T2.2.2.1 i j (Or.inl hi)
  have v12m : w32 (m1 0 12) = w32 (m2 95 33) := by
    rw [al 95 33 rfl]
    exact congrArg Prod.fst u2
  have v12 : w32 (m2 0 12) = w32 (m2 95 33) := by
    rw [lo 0 12 (by decide)]
    exact v12m
  have v13 : w32 (m2 0 13) = w32 (m2 95 34) := by
    rw [lo 0 13 (by decide), al 95 34 rfl]
    exact congrArg Prod.snd u2
  have n12 : w32 (n1 0 12) = w32 (m2 95 33) := by
    rw [← v12m]
    exact (al1 0 12 rfl).symm
  have tp : w32 (m1 95 2) = w32 (mem 0 11) := by rw [e95, hT]
  obtain ⟨XW1, XW2⟩ := XW
  obtain ⟨TW1, TW2⟩ := T2.2.2.2.2
  rw [tp] at TW1 TW2
  have same : (¬ (0 ≤ w32 (X 1) ∧ w32 (X 1) ≤ w32 (mem 0 11)) ∨ ¬ w32 (m2 95 33) = 0) → hyS mem m1 → lwW m1 m3 → LIw (k + 6) m2 := fun hz p p' => by
    have c1 := XW1 (by rw [n12]; exact hz)
    obtain ⟨t1, t2, t3⟩ := TW1 hz
    have q : ∀ i j, 57 ≤ i → i ≤ 71 → yRl i j = true → w32 (m2 i j) = w32 (mem i j) := fun i j i1 i2 hr => by rw [lo i j (by omega), al1 i j hr, c1 i j (Or.inl ⟨i1, i2⟩)]
    have q14 : w32 (m2 0 14) = w32 (mem 0 14) := by rw [lo 0 14 (by decide), al1 0 14 rfl, c1 0 14 (Or.inr ⟨rfl, rfl⟩)]
    refine ⟨Dd, W, V, ⟨cDh_w d1 (fun c j ht => by rw [s2 c j ht, p c j ht]), rDl_w d2 (lwW_tr (lwW_tr l1 p') l2), d3⟩, ⟨cW_w w1 (fun i j i1 i2 i3 => q i j (by omega) (by omega) (wsl57 i j i1 i2 i3)) (fun j j1 j2 j3 => q 57 j (by decide) (by decide) (wsl57s j j1 j2 j3)), rW_f (by decide) w2 (fun i j i1 i2 => by rw [t1 i j i1 i2, T1.2.2.1 i j (by omega)]), uOk_le w3 (Nat.le_add_right k 6)⟩, ⟨cW_w v1 (fun i j i1 i2 i3 => q i j (by omega) (by omega) (wsl64 i j i1 i2 i3)) (fun j j1 j2 j3 => q 64 j (by decide) (by decide) (wsl64s j j1 j2 j3)), rW_f (by decide) v2 (fun i j i1 i2 => by rw [t1 i j i1 i2, T1.2.2.1 i j (by omega)]), fun z => uOk_le (v3 (by rw [q14] at z; exact z)) (Nat.le_add_right k 6)⟩, by rw [q14, t2, e95]; exact hkp, by rw [q 71 1 (by decide) (by decide) rfl, t3, e95]; exact hhm⟩
  have hId2 : LIw (k + 6) m2 := by
    rcases u3 with ⟨hN, p, p'⟩ | ⟨hN, l, hfk, p, p'⟩
    · exact same (Or.inl hN) p p'
    · by_cases hY : yOk (pTx (l.length + 1) (.inr l) dD0 0).1
      · have h33 : w32 (m2 95 33) = 0 := by
          have := congrArg Prod.fst hfk
          obtain ⟨l', hl'⟩ := hY
          rw [hl'] at this
          rw [← v12m]
          exact this
        obtain ⟨b1, b2, b3, b4⟩ := XW2 hN (by rw [n12]; exact h33)
        obtain ⟨t1, t2, t3⟩ := TW2 hN h33
        have hc := p.1 hY
        have hr := p'.1 hY
        have hdok := pTx_ok (l.length + 1) (.inr l) dD0 0 dOk_0 hY
        revert hc hr hdok
        generalize (pTx (l.length + 1) (.inr l) dD0 0).2.1 = D
        intro hc hr hdok
        have hc2 : cDh m2 D := cDh_w hc s2
        have hr2 : rDl m2 D := rDl_w hr l2
        have q : ∀ i j, i < 95 → yRl i j = true → w32 (m2 i j) = w32 (n1 i j) := fun i j hi hrl => by rw [lo i j hi, al1 i j hrl]
        refine ⟨D, uBg D W, V, ⟨hc2, hr2, hdok⟩, ⟨cBg_W (cBg_q b1 (fun i j hi hr => q i j (by omega) hr)) hc2 (fun j hj => by rw [q 62 j (by decide) ((by decide : ∀ j, j < 12 → yRl 62 j = true) j hj), b2 62 j (by decide) (by decide)]; exact w1.2.2.2.2.1 j hj) (fun j hj => by rw [q 63 j (by decide) ((by decide : ∀ j, j < 12 → yRl 63 j = true) j hj), b2 63 j (by decide) (by decide)]; exact w1.2.2.2.2.2.1 j hj), rBw_W t1 hr2 (fun i j i1 i2 => T1.2.2.1 i j (by omega)) w2, uBg_ok hdok w3.2.2.2.2.2.2.2.1⟩, ⟨cW_w v1 (fun i j i1 i2 i3 => by rw [q i j (by omega) (wsl64 i j i1 i2 i3), b2 i j (by omega) (by omega)]) (fun j j1 j2 j3 => by rw [q 64 j (by decide) (wsl64s j j1 j2 j3), b2 64 j (by decide) (by decide)]), rBw_V t1 (fun i j i1 i2 => T1.2.2.1 i j (by omega)) v2, fun z => absurd (show w32 (m2 0 14) = 0 by rw [q 0 14 (by decide) rfl]; exact b3) z⟩, ?_, ?_⟩
        · rw [q 0 14 (by decide) rfl, b3, t2]
        · rw [q 71 1 (by decide) rfl, b4, t3]
      · exact same (Or.inr (by rw [← v12m]; exact (p.2 hY).2)) (p.2 hY).1 (p'.2 hY)
  refine ⟨y, rfl, lx_e0 (by rw [ey]; exact u1) ⟨T2.1, T2.2.1, ?_, fun j => ?_, fun i hi => ?_, ⟨v12, v13⟩, hId2⟩⟩
  · rw [lo 0 11 (by decide), T2.2.2.2.1, T1.2.2.2, e95, hT]
  · rw [lo 1 j (by decide), T2.2.2.1 96 j (by decide), P1.1, e96]
    exact hB j
  · rw [lo 56 i (by decide), P1.2]
    exact hW i hi
theorem lx_fault {E : yE} (hE : yEok E) : LX E 1 xm_13 xm_166 0 := fun X k mem _ hI => x_fault hE (by decide) (fun r h1 => ⟨r, rfl, r_fault hE (by decide) (fun r2 h2 => ⟨r2, rfl, lx_e0 (by
  rw [h1, h2, hI.2.2.2.2.2.1.1, hI.2.2.2.2.2.1.2]) (LI_95 (Nat.le_add_right k 6) hI)⟩)⟩)
