/-! THE REFERENCE: a document, in the draft's halves -/
theorem yb_shr {x y : Int} {a s : Nat} (hx : w32 x = (a : Int)) (hy : w32 y = (s : Int)) (hs : s < 32) (h : a < 2147483648) : w32 (ybin 7 x y) = ((a / 2 ^ s : Nat) : Int) := by
  show w32 (fbin 7 (iI x) (iI y)).toInt = _
  rw [iI_natE hx, iI_natE hy]
  show w32 (nI a >>> (nI s &&& 31)).toInt = _
  rw [(bb31 s hs).1, pk_shrN (by omega) (nI s) s (bb31 s hs).2, w32_nI (Nat.lt_of_le_of_lt (Nat.div_le_self _ _) h)]
theorem yb_and1 {x : Int} {a : Nat} (hx : w32 x = (a : Int)) (h : a < 2147483648) : w32 (ybin 3 x 1) = ((a % 2 : Nat) : Int) := by
  show w32 (fbin 3 (iI x) (iI 1)).toInt = _
  rw [iI_natE hx, iI_natE (a := 1) w32c_1]
  have e : fbin 3 (nI a) (nI 1) = nI (Nat.land a 1) := xbin_ok (o := 3) rfl
  rw [e, show Nat.land a 1 = a % 2 from Nat.and_one_is_mod a, w32_nI (by omega)]
theorem tb_test {x y : Int} {t s : Nat} (hx : w32 x = (t : Int)) (ht : t < 4096) (hy : w32 y = (s : Int)) (hs : s < 32) : w32 (ybin 3 (ybin 7 x y) 1) = 1 ↔ t.testBit s = true := by
  have h1 := yb_shr hx hy hs (by omega)
  have h2 : t / 2 ^ s ≤ t := Nat.div_le_self _ _
  rw [yb_and1 h1 (by omega), Nat.testBit_eq_decide_div_mod_eq, decide_eq_true_iff]
  omega
theorem tb_or {x y : Int} {t s : Nat} (hx : w32 x = (t : Int)) (ht : t < 4096) (hy : w32 y = (s : Int)) (hs : s < 12) : w32 (ybin 4 x (ybin 6 1 y)) = ((t ||| 2 ^ s : Nat) : Int) ∧ t ||| 2 ^ s < 4096 := by
  have h2 : 2 ^ s < 4096 := (by decide : ∀ l : Nat, l < 12 → 2 ^ l < 4096) s hs
  have h3 : t ||| 2 ^ s < 4096 := Nat.or_lt_two_pow (n := 12) ht h2
  have e := yb_shl (x := 1) (a := 1) (s := s) w32c_1 hy (by omega) (by omega)
  rw [Nat.one_mul] at e
  refine ⟨?_, h3⟩
  show w32 (fbin 4 (iI x) (iI (ybin 6 1 y))).toInt = _
  rw [iI_natE hx, iI_natE e]
  show w32 (nI t ||| nI (2 ^ s)).toInt = _
  rw [nI_or (by omega) (by omega), w32_nI (by omega)]
def rTv (m : yMem) (tav : dTv) : Prop := rNm m 98 0 3 (tav.map (fun t => t.1)) ∧ ∀ j t, tav[j]? = some t → w32 (m 99 (3 + j)) = t.2.1 ∧ w32 (m 100 (3 + j)) = t.2.2
def rVo (m : yMem) (vo : dVo) : Prop := rNm m 101 1 6 (vo.map (fun t => t.1)) ∧ ∀ j t, vo[j]? = some t → rVs m (6 + j) t
def rVe (m : yMem) (ve : dVe) : Prop := rNm m 108 2 4 (ve.map (fun t => t.1)) ∧ ∀ j t, ve[j]? = some t → t.2.length ≤ 3 ∧ w32 (m 109 (4 + j)) = (t.2.length : Int) ∧ rPs m j t.2
def rBk (m : yMem) (bk : dBk) : Prop := rNm m 112 3 3 (bk.map (fun t => t.1)) ∧ ∀ j t, bk[j]? = some t → w32 (m 113 (3 + j)) = t.2
def rFs (m : yMem) (fs : dFs) : Prop := (∀ j, j < 5 → w32 (m 114 (5 + j)) = (fs.1 j).1 ∧ w32 (m 115 (5 + j)) = (fs.1 j).2) ∧ (w32 (m 97 13) = (fs.2.2.length : Int) ∧ w32 (m 95 36) = (fs.2.1 : Int) ∧ fs.2.2.length ≤ fs.2.1 ∧ fs.2.1 ≤ 64) ∧ rKs m fs.2.2 ∧ w32 (m 95 35) = 0
def rTd (m : yMem) (a b c d : Bool) : Prop := ∃ t : Nat, w32 (m 95 24) = (t : Int) ∧ t < 4096 ∧ t.testBit 4 = a ∧ t.testBit 5 = b ∧ t.testBit 10 = c ∧ t.testBit 11 = d
/-- all but what is told -/
def rDp (m : yMem) (D : dDc) : Prop := rTv m D.1 ∧ rVo m D.2.1 ∧ rVe m D.2.2.1 ∧ rBk m D.2.2.2.1 ∧ (w32 (m 97 11) = D.2.2.2.2.1.2 ∧ w32 (m 97 12) = D.2.2.2.2.2.1.2) ∧ rFs m D.2.2.2.2.2.2
def rDc (m : yMem) (D : dDc) : Prop := rDp m D ∧ rTd m D.2.2.2.2.1.1 D.2.2.2.2.2.1.1 (tlF D.2.2.2.2.2.2 0) (tlF D.2.2.2.2.2.2 1)
section RK
variable {b m : yMem}
theorem rTv_fr {tav : dTv} (h : rTv b tav) (h7 : m 97 7 = b 97 7) (hc : ∀ i j, 98 ≤ i → i ≤ 100 → m i j = b i j) : rTv m tav :=
  ⟨rNm_fr h.1 h7 (fun j => hc 98 j (by decide) (by decide)), fun j t ht => by rw [hc 99 _ (by decide) (by decide), hc 100 _ (by decide) (by decide)]; exact h.2 j t ht⟩
theorem rVs_fr {k : Nat} {t : tVo} (h : rVs b k t) (hc : ∀ i, 101 ≤ i → i ≤ 107 → m i k = b i k) : rVs m k t := by
  obtain ⟨c1, c2, c3, c4, c5, c6, c7⟩ := h
  exact ⟨by rw [hc 101 (by decide) (by decide)]; exact c1, by rw [hc 102 (by decide) (by decide)]; exact c2, by rw [hc 103 (by decide) (by decide)]; exact c3, by rw [hc 104 (by decide) (by decide)]; exact c4, by rw [hc 105 (by decide) (by decide)]; exact c5, by rw [hc 106 (by decide) (by decide)]; exact c6, by rw [hc 107 (by decide) (by decide)]; exact c7⟩
theorem rVo_fr {vo : dVo} (h : rVo b vo) (h8 : m 97 8 = b 97 8) (hc : ∀ i j, 101 ≤ i → i ≤ 107 → m i j = b i j) : rVo m vo :=
  ⟨rNm_fr h.1 h8 (fun j => hc 101 j (by decide) (by decide)), fun j t ht => rVs_fr (h.2 j t ht) (fun i h1 h2 => hc i _ h1 h2)⟩
theorem rVe_fr {ve : dVe} (h : rVe b ve) (h9 : m 97 9 = b 97 9) (hc : ∀ i j, 108 ≤ i → i ≤ 111 → m i j = b i j) : rVe m ve :=
  ⟨rNm_fr h.1 h9 (fun j => hc 108 j (by decide) (by decide)), fun j t ht => ⟨(h.2 j t ht).1, by rw [hc 109 _ (by decide) (by decide)]; exact (h.2 j t ht).2.1, rPs_eq (h.2 j t ht).2.2 (fun j => hc 110 j (by decide) (by decide)) (fun j => hc 111 j (by decide) (by decide))⟩⟩
theorem rBk_fr {bk : dBk} (h : rBk b bk) (h10 : m 97 10 = b 97 10) (hc : ∀ i j, 112 ≤ i → i ≤ 113 → m i j = b i j) : rBk m bk :=
  ⟨rNm_fr h.1 h10 (fun j => hc 112 j (by decide) (by decide)), fun j t ht => by rw [hc 113 _ (by decide) (by decide)]; exact h.2 j t ht⟩
theorem rFs_fr {fs : dFs} (h : rFs b fs) (hc : ∀ i j, 114 ≤ i → i ≤ 117 → m i j = b i j) (h13 : m 97 13 = b 97 13) (h35 : m 95 35 = b 95 35) (h36 : m 95 36 = b 95 36) : rFs m fs := by
  obtain ⟨h1, ⟨h2, h3, h4⟩, h5, h6⟩ := h
  exact ⟨fun j hj => by rw [hc 114 _ (by decide) (by decide), hc 115 _ (by decide) (by decide)]; exact h1 j hj, ⟨by rw [h13]; exact h2, by rw [h36]; exact h3, h4⟩, rKs_fr h5 (fun j _ => ⟨hc 116 j (by decide) (by decide), hc 117 j (by decide) (by decide)⟩), by rw [h35]; exact h6⟩
theorem rTd_fr {p q r s : Bool} (h : rTd b p q r s) (h24 : m 95 24 = b 95 24) : rTd m p q r s := by
  obtain ⟨t, h1, h2⟩ := h
  exact ⟨t, by rw [h24]; exact h1, h2⟩
/-- tokens, LINES, told alone differ -/
def rtF (b m : yMem) : Prop := ∀ i j, ¬ (i = 95 ∧ (j = 24 ∨ j = 25 ∨ (27 ≤ j ∧ j ≤ 32))) → m i j = b i j
theorem rDp_fr {D : dDc} (h : rDp b D) (hF : rtF b m) : rDp m D := by
  obtain ⟨c1, c2, c3, c4, c5, c6⟩ := h
  have k : ∀ i j, i ≠ 95 → m i j = b i j := fun i j q => hF i j (fun z => q z.1)
  exact ⟨rTv_fr c1 (k 97 7 (by decide)) (fun i j h1 h2 => k i j (by omega)), rVo_fr c2 (k 97 8 (by decide)) (fun i j h1 h2 => k i j (by omega)), rVe_fr c3 (k 97 9 (by decide)) (fun i j h1 h2 => k i j (by omega)), rBk_fr c4 (k 97 10 (by decide)) (fun i j h1 h2 => k i j (by omega)), ⟨by rw [k 97 11 (by decide)]; exact c5.1, by rw [k 97 12 (by decide)]; exact c5.2⟩, rFs_fr c6 (fun i j h1 h2 => k i j (by omega)) (k 97 13 (by decide)) (hF 95 35 (by omega)) (hF 95 36 (by omega))⟩
theorem rtF_rn (h : aFrm rnF b m) : rtF b m := fun i j hij => h i j (amod_r (fun z => hij ⟨z.1, Or.inr (Or.inr z.2)⟩))
theorem rtF_tr {c : yMem} (h1 : rtF b m) (h2 : rtF m c) : rtF b c := fun i j hij => by rw [h2 i j hij, h1 i j hij]
theorem rTd_or {p q r s : Bool} {y : Int} {w : Nat} (h : rTd b p q r s) (hy : w32 y = (w : Int)) (hw : w < 12) : rTd (yset b 95 24 (ybin 4 (b 95 24) (ybin 6 1 y))) (p || decide (w = 4)) (q || decide (w = 5)) (r || decide (w = 10)) (s || decide (w = 11)) := by
  obtain ⟨t, h1, h2, h3, h4, h5, h6⟩ := h
  obtain ⟨e1, e2⟩ := tb_or h1 h2 hy hw
  exact ⟨t ||| 2 ^ w, by rw [yset_s]; exact e1, e2, by rw [Nat.testBit_or, Nat.testBit_two_pow, h3], by rw [Nat.testBit_or, Nat.testBit_two_pow, h4], by rw [Nat.testBit_or, Nat.testBit_two_pow, h5], by rw [Nat.testBit_or, Nat.testBit_two_pow, h6]⟩
end RK
/-! what a LINE may change -/
def rlF (i j : Nat) : Prop := (i = 95 ∧ ((24 ≤ j ∧ j ≤ 25) ∨ (27 ≤ j ∧ j ≤ 32) ∨ (35 ≤ j ∧ j ≤ 36))) ∨ (i = 97 ∧ 7 ≤ j) ∨ (98 ≤ i ∧ i ≤ 100 ∧ 3 ≤ j) ∨ (101 ≤ i ∧ i ≤ 107 ∧ 6 ≤ j) ∨ (108 ≤ i ∧ i ≤ 109 ∧ 4 ≤ j) ∨ (i = 110 ∧ 12 ≤ j) ∨ (i = 111 ∧ 96 ≤ j) ∨ (112 ≤ i ∧ i ≤ 113 ∧ 3 ≤ j) ∨ (114 ≤ i ∧ i ≤ 115 ∧ 5 ≤ j) ∨ (116 ≤ i ∧ i ≤ 117 ∧ 64 ≤ j)
theorem rlF_a {i j : Nat} (h : i = 95 ∧ ((24 ≤ j ∧ j ≤ 25) ∨ (27 ≤ j ∧ j ≤ 32) ∨ (35 ≤ j ∧ j ≤ 36))) : rlF i j := Or.inl h
theorem rlF_b {i j : Nat} (h : i = 97 ∧ 7 ≤ j) : rlF i j := Or.inr (Or.inl h)
theorem rlF_c {i j : Nat} (h : 98 ≤ i ∧ i ≤ 100 ∧ 3 ≤ j) : rlF i j := Or.inr (Or.inr (Or.inl h))
theorem rlF_d {i j : Nat} (h : 101 ≤ i ∧ i ≤ 107 ∧ 6 ≤ j) : rlF i j := Or.inr (Or.inr (Or.inr (Or.inl h)))
theorem rlF_e {i j : Nat} (h : 108 ≤ i ∧ i ≤ 109 ∧ 4 ≤ j) : rlF i j := Or.inr (Or.inr (Or.inr (Or.inr (Or.inl h))))
theorem rlF_f {i j : Nat} (h : i = 110 ∧ 12 ≤ j) : rlF i j := Or.inr (Or.inr (Or.inr (Or.inr (Or.inr (Or.inl h)))))
theorem rlF_g {i j : Nat} (h : i = 111 ∧ 96 ≤ j) : rlF i j := Or.inr (Or.inr (Or.inr (Or.inr (Or.inr (Or.inr (Or.inl h))))))
theorem rlF_h {i j : Nat} (h : 112 ≤ i ∧ i ≤ 113 ∧ 3 ≤ j) : rlF i j := Or.inr (Or.inr (Or.inr (Or.inr (Or.inr (Or.inr (Or.inr (Or.inl h)))))))
theorem rlF_i {i j : Nat} (h : 114 ≤ i ∧ i ≤ 115 ∧ 5 ≤ j) : rlF i j := Or.inr (Or.inr (Or.inr (Or.inr (Or.inr (Or.inr (Or.inr (Or.inr (Or.inl h))))))))
theorem rlF_j {i j : Nat} (h : 116 ≤ i ∧ i ≤ 117 ∧ 64 ≤ j) : rlF i j := Or.inr (Or.inr (Or.inr (Or.inr (Or.inr (Or.inr (Or.inr (Or.inr (Or.inr h))))))))
theorem rvF_rl {len i j : Nat} (h : rvF len i j) : rlF i j := by
  rcases h with ⟨a, b, c⟩ | ⟨a, b⟩ | ⟨a, b, c⟩
  · exact rlF_d ⟨a, b, by omega⟩
  · exact rlF_b ⟨a, by omega⟩
  · exact rlF_a ⟨a, Or.inr (Or.inl ⟨b, c⟩)⟩
theorem rwF_rl {v i j : Nat} (h : rwF v i j ∨ (i = 108 ∧ j = 4 + v)) : rlF i j := by
  rcases h with (⟨a, b, c⟩ | ⟨a, b, c⟩ | ⟨a, b⟩ | ⟨a, b⟩ | ⟨a, b, c⟩) | ⟨a, b⟩
  · exact rlF_g ⟨a, by omega⟩
  · exact rlF_f ⟨a, by omega⟩
  · exact rlF_e ⟨by omega, by omega, by omega⟩
  · exact rlF_b ⟨a, by omega⟩
  · exact rlF_a ⟨a, Or.inr (Or.inl ⟨b, c⟩)⟩
  · exact rlF_e ⟨by omega, by omega, by omega⟩
def rlR (b m : yMem) : Prop := ∀ i j, ¬ rlF i j → m i j = b i j
theorem rlR_rf {b : yMem} : rlR b b := fun _ _ _ => rfl
theorem rlR_tr {a b c : yMem} (h1 : rlR a b) (h2 : rlR b c) : rlR a c := fun i j h => by rw [h2 i j h, h1 i j h]
theorem rlR_s {b m : yMem} {i j : Nat} {x : Int} (h : rlR b m) (hv : rlF i j) : rlR b (yset m i j x) := fun i' j' h' => by
  rw [yset_n2 (fun z => h' (by rw [z.1, z.2]; exact hv))]
  exact h i' j' h'
theorem rlR_rt {b m : yMem} (h : rtF b m) : rlR b m := fun i j hij => h i j (fun z => hij (rlF_a ⟨z.1, by omega⟩))
theorem rlR_rn {b m : yMem} (h : aFrm rnF b m) : rlR b m := rlR_rt (rtF_rn h)
theorem exW_rl : exW.all (fun q => (Nat.beq q.1 95 && ((Nat.ble 28 q.2 && Nat.ble q.2 33) || (Nat.ble 36 q.2 && Nat.ble q.2 37))) || ((Nat.beq q.1 97 && Nat.beq q.2 14) || ((Nat.beq q.1 116 || Nat.beq q.1 117) && Nat.ble 65 q.2))) = true := by decide +kernel
theorem exW_rf {i j : Nat} (h : ¬ rlF i j) : amod exW i j = false := by
  cases hm : amod exW i j with
  | false => rfl
  | true =>
    obtain ⟨q, g1, g2, g3⟩ := amod_ex hm
    have := List.all_eq_true.mp exW_rl q g1
    simp only [Bool.or_eq_true, Bool.and_eq_true, Nat.beq_eq, Nat.ble_eq] at this
    rcases this with ⟨a, b | b⟩ | ⟨a, b⟩ | ⟨a | a, b⟩
    · exact (h (rlF_a ⟨by omega, by omega⟩)).elim
    · exact (h (rlF_a ⟨by omega, by omega⟩)).elim
    · exact (h (rlF_b ⟨by omega, by omega⟩)).elim
    · exact (h (rlF_j ⟨by omega, by omega, by omega⟩)).elim
    · exact (h (rlF_j ⟨by omega, by omega, by omega⟩)).elim
theorem rlR_ex {b m : yMem} (h : aFrm exW b m) : rlR b m := fun i j hij => h i j (exW_rf hij)
/-! the end of a LINE -/
def pEnd (y : sY) : sY := if yKd y = 4 then yNx y else yFl 1 y
theorem pEnd_ok {y : sY} (h : yOk (pEnd y)) : yKd y = 4 ∧ yOk y := by
  unfold pEnd at h
  by_cases hk : yKd y = 4
  · exact ⟨hk, yOk_kd (by omega)⟩
  · rw [if_neg hk] at h
    exact absurd h yOk_fl
section RL
variable {E : yE} {m : yMem} {Q : Option yV → yMem → Prop} {ch : Nat → Int} {n d : Nat} {Y : sY} {r1 r2 r3 : Option yV}
theorem rl325 (hE : yEok E) (hd : 6 ≤ d) (h : rTk ch n m Y) (hk : 0 ≤ w32 (m 95 25) ∧ w32 (m 95 25) ≤ 1000) (fin : ∀ m', rtF m m' → m' 95 24 = m 95 24 → rTk ch n m' (pEnd Y) → (yOk (pEnd Y) → w32 (m' 95 25) = w32 (m 95 25) + 1) → Q none m') : zG E (d + 1) xm_206 325 [some (1, 95), r1, r2, r3] [] m Q := by
  refine zgo_ok (n := 60) hE xmo_206 (cs := zc_206) ?_
  have e1 : ∀ z : Int, w32 z = w32 (m 95 25) → w32 (z + 1) = w32 (m 95 25) + 1 := fun z hz => by rw [w32_ad (by rw [w32c_1, hz]; omega) (by rw [w32c_1, hz]; omega), w32c_1, hz]
  cases Y with
  | inl e =>
    have hf := rTk_f h
    simp only [ynok_30, ynok_31, w32c_0, w32c_1, w32c_2, w32c_3, w32c_4, w32c_5, w32c_6, w32c_7, w32c_8, w32c_9, w32c_10, w32c_11, w32c_12, w32c_13, w32c_14, w32c_m1, w32c_m2, w32c_118, Int.reduceAdd, Int.reduceSub, Int.reduceMul, yput_s, yput_n, znl_n, znl_0, znl_1, znl_4, ysum_n, ysum_0, ysum_1, ysum_4, true_and, and_true, Nat.reduceAdd, Nat.reduceLeDiff, true_implies, eq_self, true_or, or_true, or_false, false_or, not_true_eq_false, not_false_eq_true, false_implies, implies_true, yset_s, yset_o, yset_d, ne_eq, Nat.reduceEqDiff, Int.reduceToNat, Int.reduceEq, Int.reduceLE, Int.reduceLT, Classical.not_not, Nat.reduceLT, ↓zvk_s, ↓zvk_n, ↓s_206_0, ↓s_206_1, ↓s_206_4, ↓s_206_7, ↓s_206_8, ↓s_206_11, ↓s_206_13, ↓s_206_16, ↓s_206_17, ↓s_206_18, ↓s_206_21, ↓s_206_22, ↓s_206_23, ↓s_206_26n, ↓s_206_26i, ↓s_206_26p, ↓s_206_27, ↓s_206_28, ↓s_206_29, ↓s_206_32, ↓s_206_35, ↓s_206_36, ↓s_206_37, ↓s_206_40, ↓s_206_43, ↓s_206_44, ↓s_206_45, ↓s_206_48, ↓s_206_49, ↓s_206_50, ↓s_206_53, ↓s_206_54, ↓s_206_57, ↓s_206_58, ↓s_206_59, ↓s_206_60, ↓s_206_61, ↓s_206_62, ↓s_206_65, ↓s_206_66, ↓s_206_67, ↓g_206_70, ↓k_206_70, ↓s_206_71, ↓s_206_74, ↓s_206_77, ↓s_206_78, ↓s_206_79a, ↓s_206_79b, ↓s_206_80, ↓s_206_83, ↓s_206_84, ↓s_206_85, ↓s_206_86, ↓s_206_87, ↓s_206_90, ↓s_206_91, ↓s_206_94, ↓s_206_95, ↓g_206_132, ↓k_206_132, ↓s_206_133, ↓s_206_134, ↓s_206_135, ↓s_206_138, ↓s_206_139n, ↓s_206_139i, ↓s_206_139p, ↓s_206_140, ↓s_206_141, ↓s_206_144, ↓s_206_145, ↓s_206_146, ↓s_206_147, ↓s_206_150, ↓s_206_151, ↓s_206_152, ↓s_206_153, ↓s_206_156, ↓s_206_159, ↓s_206_160, ↓s_206_161, ↓s_206_164, ↓s_206_165, ↓s_206_166, ↓s_206_167, ↓s_206_169, ↓s_206_172, ↓s_206_173, ↓s_206_174, ↓s_206_177, ↓s_206_178, ↓s_206_179, ↓s_206_180, ↓s_206_183, ↓s_206_186, ↓s_206_187, ↓s_206_188, ↓s_206_189, ↓s_206_190, ↓s_206_191, ↓s_206_194, ↓s_206_195, ↓s_206_196, ↓s_206_199, ↓g_206_202, ↓k_206_202, ↓s_206_203, ↓s_206_205, ↓s_206_206, ↓s_206_207, ↓s_206_210, ↓s_206_211, ↓s_206_214, ↓g_206_217, ↓k_206_217, ↓s_206_218, ↓s_206_219, ↓s_206_220, ↓s_206_221, ↓s_206_224, ↓s_206_225, ↓s_206_228, ↓g_206_231, ↓k_206_231, ↓s_206_232, ↓s_206_233, ↓s_206_236n, ↓s_206_236i, ↓s_206_236p, ↓s_206_237, ↓s_206_238, ↓s_206_241, ↓s_206_242, ↓s_206_243, ↓s_206_244, ↓s_206_245, ↓s_206_246, ↓s_206_249, ↓s_206_250, ↓s_206_251, ↓s_206_254, ↓s_206_255, ↓s_206_256, ↓s_206_259, ↓s_206_260, ↓s_206_261, ↓s_206_262, ↓s_206_263, ↓s_206_264, ↓s_206_267, ↓s_206_270, ↓s_206_271, ↓s_206_272, ↓s_206_274, ↓s_206_275, ↓s_206_276, ↓s_206_279, ↓s_206_280, ↓s_206_281, ↓s_206_282, ↓s_206_283, ↓s_206_284, ↓s_206_287, ↓g_206_290, ↓k_206_290, ↓s_206_291, ↓s_206_292, ↓s_206_293, ↓s_206_294, ↓s_206_297, ↓s_206_300, ↓s_206_303, ↓g_206_306, ↓k_206_306, ↓s_206_307, ↓s_206_308, ↓s_206_309, ↓s_206_310, ↓s_206_312, ↓s_206_315, ↓s_206_318, ↓g_206_321, ↓k_206_321, ↓s_206_322, ↓g_206_325, ↓k_206_325, ↓s_206_326, ↓s_206_329, ↓s_206_332, ↓s_206_333, ↓s_206_334, ↓s_206_336, ↓s_206_339, ↓s_206_342, ↓s_206_343, ↓s_206_344, ↓s_206_347, ↓s_206_350, ↓s_206_351, ↓s_206_354, ↓s_206_355a, ↓s_206_355b, ↓s_206_356, ↓s_206_359, ↓s_206_360, ↓s_206_361, ↓s_206_364, w32c_99, w32c_9999, w32c_999, w32c_99999, w32c_59, ↓s_254_0, ↓s_254_1, ↓s_254_4, ↓s_254_7, ↓s_254_8, ↓s_254_9, ↓s_254_10, ↓s_254_13, ↓s_254_14, ↓s_254_15, ↓s_254_18, ↓s_254_21, ↓s_191_0, ↓s_191_1, ↓s_191_4, ↓s_191_7, ↓s_191_8, ↓s_191_11, ↓s_191_12, ↓s_191_15, ↓s_191_16, ↓s_191_19, ↓s_191_20, ↓s_191_23, ↓s_191_24, ↓s_191_27, ↓s_191_28, zar_112, zia_112, zln_112, zit_112, zar_113, zia_113, zln_113, zit_113, zar_98, zia_98, zln_98, zit_98, zar_99, zia_99, zln_99, zit_99, zar_100, zia_100, zln_100, zit_100, zio_95, hf]
    have ep : pEnd (.inl e) = .inl e := by
      unfold pEnd
      rw [if_neg (show ¬ yKd (.inl e) = 4 from (by decide : ¬ (0 : Nat) = 4))]
      rfl
    rw [ep] at fin
    exact fin m (fun _ _ _ => rfl) rfl h (fun z => absurd z yOk_in)
  | inr l =>
    have q1 := rTk_0 h
    by_cases h4 : (sHd l).1 = 4
    · obtain ⟨q2, q3⟩ := rf_sg h (by omega) (by omega)
      have q3 : w32 (m 95 30) = 59 := by rw [q3, h4]; rfl
      simp only [ynok_30, ynok_31, w32c_0, w32c_1, w32c_2, w32c_3, w32c_4, w32c_5, w32c_6, w32c_7, w32c_8, w32c_9, w32c_10, w32c_11, w32c_12, w32c_13, w32c_14, w32c_m1, w32c_m2, w32c_118, Int.reduceAdd, Int.reduceSub, Int.reduceMul, yput_s, yput_n, znl_n, znl_0, znl_1, znl_4, ysum_n, ysum_0, ysum_1, ysum_4, true_and, and_true, Nat.reduceAdd, Nat.reduceLeDiff, true_implies, eq_self, true_or, or_true, or_false, false_or, not_true_eq_false, not_false_eq_true, false_implies, implies_true, yset_s, yset_o, yset_d, ne_eq, Nat.reduceEqDiff, Int.reduceToNat, Int.reduceEq, Int.reduceLE, Int.reduceLT, Classical.not_not, Nat.reduceLT, ↓zvk_s, ↓zvk_n, ↓s_206_0, ↓s_206_1, ↓s_206_4, ↓s_206_7, ↓s_206_8, ↓s_206_11, ↓s_206_13, ↓s_206_16, ↓s_206_17, ↓s_206_18, ↓s_206_21, ↓s_206_22, ↓s_206_23, ↓s_206_26n, ↓s_206_26i, ↓s_206_26p, ↓s_206_27, ↓s_206_28, ↓s_206_29, ↓s_206_32, ↓s_206_35, ↓s_206_36, ↓s_206_37, ↓s_206_40, ↓s_206_43, ↓s_206_44, ↓s_206_45, ↓s_206_48, ↓s_206_49, ↓s_206_50, ↓s_206_53, ↓s_206_54, ↓s_206_57, ↓s_206_58, ↓s_206_59, ↓s_206_60, ↓s_206_61, ↓s_206_62, ↓s_206_65, ↓s_206_66, ↓s_206_67, ↓g_206_70, ↓k_206_70, ↓s_206_71, ↓s_206_74, ↓s_206_77, ↓s_206_78, ↓s_206_79a, ↓s_206_79b, ↓s_206_80, ↓s_206_83, ↓s_206_84, ↓s_206_85, ↓s_206_86, ↓s_206_87, ↓s_206_90, ↓s_206_91, ↓s_206_94, ↓s_206_95, ↓g_206_132, ↓k_206_132, ↓s_206_133, ↓s_206_134, ↓s_206_135, ↓s_206_138, ↓s_206_139n, ↓s_206_139i, ↓s_206_139p, ↓s_206_140, ↓s_206_141, ↓s_206_144, ↓s_206_145, ↓s_206_146, ↓s_206_147, ↓s_206_150, ↓s_206_151, ↓s_206_152, ↓s_206_153, ↓s_206_156, ↓s_206_159, ↓s_206_160, ↓s_206_161, ↓s_206_164, ↓s_206_165, ↓s_206_166, ↓s_206_167, ↓s_206_169, ↓s_206_172, ↓s_206_173, ↓s_206_174, ↓s_206_177, ↓s_206_178, ↓s_206_179, ↓s_206_180, ↓s_206_183, ↓s_206_186, ↓s_206_187, ↓s_206_188, ↓s_206_189, ↓s_206_190, ↓s_206_191, ↓s_206_194, ↓s_206_195, ↓s_206_196, ↓s_206_199, ↓g_206_202, ↓k_206_202, ↓s_206_203, ↓s_206_205, ↓s_206_206, ↓s_206_207, ↓s_206_210, ↓s_206_211, ↓s_206_214, ↓g_206_217, ↓k_206_217, ↓s_206_218, ↓s_206_219, ↓s_206_220, ↓s_206_221, ↓s_206_224, ↓s_206_225, ↓s_206_228, ↓g_206_231, ↓k_206_231, ↓s_206_232, ↓s_206_233, ↓s_206_236n, ↓s_206_236i, ↓s_206_236p, ↓s_206_237, ↓s_206_238, ↓s_206_241, ↓s_206_242, ↓s_206_243, ↓s_206_244, ↓s_206_245, ↓s_206_246, ↓s_206_249, ↓s_206_250, ↓s_206_251, ↓s_206_254, ↓s_206_255, ↓s_206_256, ↓s_206_259, ↓s_206_260, ↓s_206_261, ↓s_206_262, ↓s_206_263, ↓s_206_264, ↓s_206_267, ↓s_206_270, ↓s_206_271, ↓s_206_272, ↓s_206_274, ↓s_206_275, ↓s_206_276, ↓s_206_279, ↓s_206_280, ↓s_206_281, ↓s_206_282, ↓s_206_283, ↓s_206_284, ↓s_206_287, ↓g_206_290, ↓k_206_290, ↓s_206_291, ↓s_206_292, ↓s_206_293, ↓s_206_294, ↓s_206_297, ↓s_206_300, ↓s_206_303, ↓g_206_306, ↓k_206_306, ↓s_206_307, ↓s_206_308, ↓s_206_309, ↓s_206_310, ↓s_206_312, ↓s_206_315, ↓s_206_318, ↓g_206_321, ↓k_206_321, ↓s_206_322, ↓g_206_325, ↓k_206_325, ↓s_206_326, ↓s_206_329, ↓s_206_332, ↓s_206_333, ↓s_206_334, ↓s_206_336, ↓s_206_339, ↓s_206_342, ↓s_206_343, ↓s_206_344, ↓s_206_347, ↓s_206_350, ↓s_206_351, ↓s_206_354, ↓s_206_355a, ↓s_206_355b, ↓s_206_356, ↓s_206_359, ↓s_206_360, ↓s_206_361, ↓s_206_364, w32c_99, w32c_9999, w32c_999, w32c_99999, w32c_59, ↓s_254_0, ↓s_254_1, ↓s_254_4, ↓s_254_7, ↓s_254_8, ↓s_254_9, ↓s_254_10, ↓s_254_13, ↓s_254_14, ↓s_254_15, ↓s_254_18, ↓s_254_21, ↓s_191_0, ↓s_191_1, ↓s_191_4, ↓s_191_7, ↓s_191_8, ↓s_191_11, ↓s_191_12, ↓s_191_15, ↓s_191_16, ↓s_191_19, ↓s_191_20, ↓s_191_23, ↓s_191_24, ↓s_191_27, ↓s_191_28, zar_112, zia_112, zln_112, zit_112, zar_113, zia_113, zln_113, zit_113, zar_98, zia_98, zln_98, zit_98, zar_99, zia_99, zln_99, zit_99, zar_100, zia_100, zln_100, zit_100, zio_95, q1, q2, q3]
      have ep : pEnd (.inr l) = yNx (.inr l) := if_pos h4
      rw [ep] at fin
      refine rf_token hE (by omega) h (fun m1 F1 T1 => ?_)
      refine zgk_n hE xmo_206 60 zc_206 ?_
      simp only [ynok_30, ynok_31, w32c_0, w32c_1, w32c_2, w32c_3, w32c_4, w32c_5, w32c_6, w32c_7, w32c_8, w32c_9, w32c_10, w32c_11, w32c_12, w32c_13, w32c_14, w32c_m1, w32c_m2, w32c_118, Int.reduceAdd, Int.reduceSub, Int.reduceMul, yput_s, yput_n, znl_n, znl_0, znl_1, znl_4, ysum_n, ysum_0, ysum_1, ysum_4, true_and, and_true, Nat.reduceAdd, Nat.reduceLeDiff, true_implies, eq_self, true_or, or_true, or_false, false_or, not_true_eq_false, not_false_eq_true, false_implies, implies_true, yset_s, yset_o, yset_d, ne_eq, Nat.reduceEqDiff, Int.reduceToNat, Int.reduceEq, Int.reduceLE, Int.reduceLT, Classical.not_not, Nat.reduceLT, ↓zvk_s, ↓zvk_n, ↓s_206_0, ↓s_206_1, ↓s_206_4, ↓s_206_7, ↓s_206_8, ↓s_206_11, ↓s_206_13, ↓s_206_16, ↓s_206_17, ↓s_206_18, ↓s_206_21, ↓s_206_22, ↓s_206_23, ↓s_206_26n, ↓s_206_26i, ↓s_206_26p, ↓s_206_27, ↓s_206_28, ↓s_206_29, ↓s_206_32, ↓s_206_35, ↓s_206_36, ↓s_206_37, ↓s_206_40, ↓s_206_43, ↓s_206_44, ↓s_206_45, ↓s_206_48, ↓s_206_49, ↓s_206_50, ↓s_206_53, ↓s_206_54, ↓s_206_57, ↓s_206_58, ↓s_206_59, ↓s_206_60, ↓s_206_61, ↓s_206_62, ↓s_206_65, ↓s_206_66, ↓s_206_67, ↓g_206_70, ↓k_206_70, ↓s_206_71, ↓s_206_74, ↓s_206_77, ↓s_206_78, ↓s_206_79a, ↓s_206_79b, ↓s_206_80, ↓s_206_83, ↓s_206_84, ↓s_206_85, ↓s_206_86, ↓s_206_87, ↓s_206_90, ↓s_206_91, ↓s_206_94, ↓s_206_95, ↓g_206_132, ↓k_206_132, ↓s_206_133, ↓s_206_134, ↓s_206_135, ↓s_206_138, ↓s_206_139n, ↓s_206_139i, ↓s_206_139p, ↓s_206_140, ↓s_206_141, ↓s_206_144, ↓s_206_145, ↓s_206_146, ↓s_206_147, ↓s_206_150, ↓s_206_151, ↓s_206_152, ↓s_206_153, ↓s_206_156, ↓s_206_159, ↓s_206_160, ↓s_206_161, ↓s_206_164, ↓s_206_165, ↓s_206_166, ↓s_206_167, ↓s_206_169, ↓s_206_172, ↓s_206_173, ↓s_206_174, ↓s_206_177, ↓s_206_178, ↓s_206_179, ↓s_206_180, ↓s_206_183, ↓s_206_186, ↓s_206_187, ↓s_206_188, ↓s_206_189, ↓s_206_190, ↓s_206_191, ↓s_206_194, ↓s_206_195, ↓s_206_196, ↓s_206_199, ↓g_206_202, ↓k_206_202, ↓s_206_203, ↓s_206_205, ↓s_206_206, ↓s_206_207, ↓s_206_210, ↓s_206_211, ↓s_206_214, ↓g_206_217, ↓k_206_217, ↓s_206_218, ↓s_206_219, ↓s_206_220, ↓s_206_221, ↓s_206_224, ↓s_206_225, ↓s_206_228, ↓g_206_231, ↓k_206_231, ↓s_206_232, ↓s_206_233, ↓s_206_236n, ↓s_206_236i, ↓s_206_236p, ↓s_206_237, ↓s_206_238, ↓s_206_241, ↓s_206_242, ↓s_206_243, ↓s_206_244, ↓s_206_245, ↓s_206_246, ↓s_206_249, ↓s_206_250, ↓s_206_251, ↓s_206_254, ↓s_206_255, ↓s_206_256, ↓s_206_259, ↓s_206_260, ↓s_206_261, ↓s_206_262, ↓s_206_263, ↓s_206_264, ↓s_206_267, ↓s_206_270, ↓s_206_271, ↓s_206_272, ↓s_206_274, ↓s_206_275, ↓s_206_276, ↓s_206_279, ↓s_206_280, ↓s_206_281, ↓s_206_282, ↓s_206_283, ↓s_206_284, ↓s_206_287, ↓g_206_290, ↓k_206_290, ↓s_206_291, ↓s_206_292, ↓s_206_293, ↓s_206_294, ↓s_206_297, ↓s_206_300, ↓s_206_303, ↓g_206_306, ↓k_206_306, ↓s_206_307, ↓s_206_308, ↓s_206_309, ↓s_206_310, ↓s_206_312, ↓s_206_315, ↓s_206_318, ↓g_206_321, ↓k_206_321, ↓s_206_322, ↓g_206_325, ↓k_206_325, ↓s_206_326, ↓s_206_329, ↓s_206_332, ↓s_206_333, ↓s_206_334, ↓s_206_336, ↓s_206_339, ↓s_206_342, ↓s_206_343, ↓s_206_344, ↓s_206_347, ↓s_206_350, ↓s_206_351, ↓s_206_354, ↓s_206_355a, ↓s_206_355b, ↓s_206_356, ↓s_206_359, ↓s_206_360, ↓s_206_361, ↓s_206_364, w32c_99, w32c_9999, w32c_999, w32c_99999, w32c_59, zar_112, zia_112, zln_112, zit_112, zar_113, zia_113, zln_113, zit_113, zar_98, zia_98, zln_98, zit_98, zar_99, zia_99, zln_99, zit_99, zar_100, zia_100, zln_100, zit_100, zio_95]
      refine fin _ (fun i j hij => ?_) (by rw [yset_d (by decide)]; exact F1 95 24 rfl) (rTk_of T1 (fun j j1 j2 => yset_d (by omega)) (fun j => yset_o (by decide))) (fun _ => by rw [yset_s]; exact e1 _ (by rw [F1 95 25 rfl]))
      rw [yset_n2 (fun z => hij ⟨z.1, Or.inr (Or.inl z.2)⟩)]
      exact F1 i j (amod_sub (w := tkF) (w' := rnF) (by decide) (amod_r (fun z => hij ⟨z.1, Or.inr (Or.inr z.2)⟩)))
    · have ep : pEnd (.inr l) = yFl 1 (.inr l) := if_neg h4
      rw [ep] at fin
      obtain ⟨G1, G2⟩ := rf_wr (f := 1) (F := 1) h (by decide) (by decide)
      have f0 : Q none (yset (yset (yset m 95 31 1) 95 32 (m 95 28)) 95 25 (m 95 25 + 1)) := by
        refine fin _ (fun i j hij => ?_) (by rw [yset_d (by decide), yset_d (by decide), yset_d (by decide)]) (rTk_of G2 (fun j j1 j2 => yset_d (by omega)) (fun j => yset_o (by decide))) (fun z => absurd z yOk_fl)
        rw [yset_n2 (fun z => hij ⟨z.1, Or.inr (Or.inl z.2)⟩)]
        exact G1 i j (amod_r (fun z => hij ⟨z.1, Or.inr (Or.inr z.2)⟩))
      by_cases q2 : w32 (m 95 29) = 3
      · have q3 : ¬ w32 (m 95 30) = 59 := fun z => h4 ((rf_iss h (k0 := 4) (by decide) (by decide)).mp ⟨q1, q2, z⟩)
        simp only [ynok_30, ynok_31, w32c_0, w32c_1, w32c_2, w32c_3, w32c_4, w32c_5, w32c_6, w32c_7, w32c_8, w32c_9, w32c_10, w32c_11, w32c_12, w32c_13, w32c_14, w32c_m1, w32c_m2, w32c_118, Int.reduceAdd, Int.reduceSub, Int.reduceMul, yput_s, yput_n, znl_n, znl_0, znl_1, znl_4, ysum_n, ysum_0, ysum_1, ysum_4, true_and, and_true, Nat.reduceAdd, Nat.reduceLeDiff, true_implies, eq_self, true_or, or_true, or_false, false_or, not_true_eq_false, not_false_eq_true, false_implies, implies_true, yset_s, yset_o, yset_d, ne_eq, Nat.reduceEqDiff, Int.reduceToNat, Int.reduceEq, Int.reduceLE, Int.reduceLT, Classical.not_not, Nat.reduceLT, ↓zvk_s, ↓zvk_n, ↓s_206_0, ↓s_206_1, ↓s_206_4, ↓s_206_7, ↓s_206_8, ↓s_206_11, ↓s_206_13, ↓s_206_16, ↓s_206_17, ↓s_206_18, ↓s_206_21, ↓s_206_22, ↓s_206_23, ↓s_206_26n, ↓s_206_26i, ↓s_206_26p, ↓s_206_27, ↓s_206_28, ↓s_206_29, ↓s_206_32, ↓s_206_35, ↓s_206_36, ↓s_206_37, ↓s_206_40, ↓s_206_43, ↓s_206_44, ↓s_206_45, ↓s_206_48, ↓s_206_49, ↓s_206_50, ↓s_206_53, ↓s_206_54, ↓s_206_57, ↓s_206_58, ↓s_206_59, ↓s_206_60, ↓s_206_61, ↓s_206_62, ↓s_206_65, ↓s_206_66, ↓s_206_67, ↓g_206_70, ↓k_206_70, ↓s_206_71, ↓s_206_74, ↓s_206_77, ↓s_206_78, ↓s_206_79a, ↓s_206_79b, ↓s_206_80, ↓s_206_83, ↓s_206_84, ↓s_206_85, ↓s_206_86, ↓s_206_87, ↓s_206_90, ↓s_206_91, ↓s_206_94, ↓s_206_95, ↓g_206_132, ↓k_206_132, ↓s_206_133, ↓s_206_134, ↓s_206_135, ↓s_206_138, ↓s_206_139n, ↓s_206_139i, ↓s_206_139p, ↓s_206_140, ↓s_206_141, ↓s_206_144, ↓s_206_145, ↓s_206_146, ↓s_206_147, ↓s_206_150, ↓s_206_151, ↓s_206_152, ↓s_206_153, ↓s_206_156, ↓s_206_159, ↓s_206_160, ↓s_206_161, ↓s_206_164, ↓s_206_165, ↓s_206_166, ↓s_206_167, ↓s_206_169, ↓s_206_172, ↓s_206_173, ↓s_206_174, ↓s_206_177, ↓s_206_178, ↓s_206_179, ↓s_206_180, ↓s_206_183, ↓s_206_186, ↓s_206_187, ↓s_206_188, ↓s_206_189, ↓s_206_190, ↓s_206_191, ↓s_206_194, ↓s_206_195, ↓s_206_196, ↓s_206_199, ↓g_206_202, ↓k_206_202, ↓s_206_203, ↓s_206_205, ↓s_206_206, ↓s_206_207, ↓s_206_210, ↓s_206_211, ↓s_206_214, ↓g_206_217, ↓k_206_217, ↓s_206_218, ↓s_206_219, ↓s_206_220, ↓s_206_221, ↓s_206_224, ↓s_206_225, ↓s_206_228, ↓g_206_231, ↓k_206_231, ↓s_206_232, ↓s_206_233, ↓s_206_236n, ↓s_206_236i, ↓s_206_236p, ↓s_206_237, ↓s_206_238, ↓s_206_241, ↓s_206_242, ↓s_206_243, ↓s_206_244, ↓s_206_245, ↓s_206_246, ↓s_206_249, ↓s_206_250, ↓s_206_251, ↓s_206_254, ↓s_206_255, ↓s_206_256, ↓s_206_259, ↓s_206_260, ↓s_206_261, ↓s_206_262, ↓s_206_263, ↓s_206_264, ↓s_206_267, ↓s_206_270, ↓s_206_271, ↓s_206_272, ↓s_206_274, ↓s_206_275, ↓s_206_276, ↓s_206_279, ↓s_206_280, ↓s_206_281, ↓s_206_282, ↓s_206_283, ↓s_206_284, ↓s_206_287, ↓g_206_290, ↓k_206_290, ↓s_206_291, ↓s_206_292, ↓s_206_293, ↓s_206_294, ↓s_206_297, ↓s_206_300, ↓s_206_303, ↓g_206_306, ↓k_206_306, ↓s_206_307, ↓s_206_308, ↓s_206_309, ↓s_206_310, ↓s_206_312, ↓s_206_315, ↓s_206_318, ↓g_206_321, ↓k_206_321, ↓s_206_322, ↓g_206_325, ↓k_206_325, ↓s_206_326, ↓s_206_329, ↓s_206_332, ↓s_206_333, ↓s_206_334, ↓s_206_336, ↓s_206_339, ↓s_206_342, ↓s_206_343, ↓s_206_344, ↓s_206_347, ↓s_206_350, ↓s_206_351, ↓s_206_354, ↓s_206_355a, ↓s_206_355b, ↓s_206_356, ↓s_206_359, ↓s_206_360, ↓s_206_361, ↓s_206_364, w32c_99, w32c_9999, w32c_999, w32c_99999, w32c_59, ↓s_254_0, ↓s_254_1, ↓s_254_4, ↓s_254_7, ↓s_254_8, ↓s_254_9, ↓s_254_10, ↓s_254_13, ↓s_254_14, ↓s_254_15, ↓s_254_18, ↓s_254_21, ↓s_191_0, ↓s_191_1, ↓s_191_4, ↓s_191_7, ↓s_191_8, ↓s_191_11, ↓s_191_12, ↓s_191_15, ↓s_191_16, ↓s_191_19, ↓s_191_20, ↓s_191_23, ↓s_191_24, ↓s_191_27, ↓s_191_28, zar_112, zia_112, zln_112, zit_112, zar_113, zia_113, zln_113, zit_113, zar_98, zia_98, zln_98, zit_98, zar_99, zia_99, zln_99, zit_99, zar_100, zia_100, zln_100, zit_100, zio_95, q1, q2, q3]
        exact f0
      · simp only [ynok_30, ynok_31, w32c_0, w32c_1, w32c_2, w32c_3, w32c_4, w32c_5, w32c_6, w32c_7, w32c_8, w32c_9, w32c_10, w32c_11, w32c_12, w32c_13, w32c_14, w32c_m1, w32c_m2, w32c_118, Int.reduceAdd, Int.reduceSub, Int.reduceMul, yput_s, yput_n, znl_n, znl_0, znl_1, znl_4, ysum_n, ysum_0, ysum_1, ysum_4, true_and, and_true, Nat.reduceAdd, Nat.reduceLeDiff, true_implies, eq_self, true_or, or_true, or_false, false_or, not_true_eq_false, not_false_eq_true, false_implies, implies_true, yset_s, yset_o, yset_d, ne_eq, Nat.reduceEqDiff, Int.reduceToNat, Int.reduceEq, Int.reduceLE, Int.reduceLT, Classical.not_not, Nat.reduceLT, ↓zvk_s, ↓zvk_n, ↓s_206_0, ↓s_206_1, ↓s_206_4, ↓s_206_7, ↓s_206_8, ↓s_206_11, ↓s_206_13, ↓s_206_16, ↓s_206_17, ↓s_206_18, ↓s_206_21, ↓s_206_22, ↓s_206_23, ↓s_206_26n, ↓s_206_26i, ↓s_206_26p, ↓s_206_27, ↓s_206_28, ↓s_206_29, ↓s_206_32, ↓s_206_35, ↓s_206_36, ↓s_206_37, ↓s_206_40, ↓s_206_43, ↓s_206_44, ↓s_206_45, ↓s_206_48, ↓s_206_49, ↓s_206_50, ↓s_206_53, ↓s_206_54, ↓s_206_57, ↓s_206_58, ↓s_206_59, ↓s_206_60, ↓s_206_61, ↓s_206_62, ↓s_206_65, ↓s_206_66, ↓s_206_67, ↓g_206_70, ↓k_206_70, ↓s_206_71, ↓s_206_74, ↓s_206_77, ↓s_206_78, ↓s_206_79a, ↓s_206_79b, ↓s_206_80, ↓s_206_83, ↓s_206_84, ↓s_206_85, ↓s_206_86, ↓s_206_87, ↓s_206_90, ↓s_206_91, ↓s_206_94, ↓s_206_95, ↓g_206_132, ↓k_206_132, ↓s_206_133, ↓s_206_134, ↓s_206_135, ↓s_206_138, ↓s_206_139n, ↓s_206_139i, ↓s_206_139p, ↓s_206_140, ↓s_206_141, ↓s_206_144, ↓s_206_145, ↓s_206_146, ↓s_206_147, ↓s_206_150, ↓s_206_151, ↓s_206_152, ↓s_206_153, ↓s_206_156, ↓s_206_159, ↓s_206_160, ↓s_206_161, ↓s_206_164, ↓s_206_165, ↓s_206_166, ↓s_206_167, ↓s_206_169, ↓s_206_172, ↓s_206_173, ↓s_206_174, ↓s_206_177, ↓s_206_178, ↓s_206_179, ↓s_206_180, ↓s_206_183, ↓s_206_186, ↓s_206_187, ↓s_206_188, ↓s_206_189, ↓s_206_190, ↓s_206_191, ↓s_206_194, ↓s_206_195, ↓s_206_196, ↓s_206_199, ↓g_206_202, ↓k_206_202, ↓s_206_203, ↓s_206_205, ↓s_206_206, ↓s_206_207, ↓s_206_210, ↓s_206_211, ↓s_206_214, ↓g_206_217, ↓k_206_217, ↓s_206_218, ↓s_206_219, ↓s_206_220, ↓s_206_221, ↓s_206_224, ↓s_206_225, ↓s_206_228, ↓g_206_231, ↓k_206_231, ↓s_206_232, ↓s_206_233, ↓s_206_236n, ↓s_206_236i, ↓s_206_236p, ↓s_206_237, ↓s_206_238, ↓s_206_241, ↓s_206_242, ↓s_206_243, ↓s_206_244, ↓s_206_245, ↓s_206_246, ↓s_206_249, ↓s_206_250, ↓s_206_251, ↓s_206_254, ↓s_206_255, ↓s_206_256, ↓s_206_259, ↓s_206_260, ↓s_206_261, ↓s_206_262, ↓s_206_263, ↓s_206_264, ↓s_206_267, ↓s_206_270, ↓s_206_271, ↓s_206_272, ↓s_206_274, ↓s_206_275, ↓s_206_276, ↓s_206_279, ↓s_206_280, ↓s_206_281, ↓s_206_282, ↓s_206_283, ↓s_206_284, ↓s_206_287, ↓g_206_290, ↓k_206_290, ↓s_206_291, ↓s_206_292, ↓s_206_293, ↓s_206_294, ↓s_206_297, ↓s_206_300, ↓s_206_303, ↓g_206_306, ↓k_206_306, ↓s_206_307, ↓s_206_308, ↓s_206_309, ↓s_206_310, ↓s_206_312, ↓s_206_315, ↓s_206_318, ↓g_206_321, ↓k_206_321, ↓s_206_322, ↓g_206_325, ↓k_206_325, ↓s_206_326, ↓s_206_329, ↓s_206_332, ↓s_206_333, ↓s_206_334, ↓s_206_336, ↓s_206_339, ↓s_206_342, ↓s_206_343, ↓s_206_344, ↓s_206_347, ↓s_206_350, ↓s_206_351, ↓s_206_354, ↓s_206_355a, ↓s_206_355b, ↓s_206_356, ↓s_206_359, ↓s_206_360, ↓s_206_361, ↓s_206_364, w32c_99, w32c_9999, w32c_999, w32c_99999, w32c_59, ↓s_254_0, ↓s_254_1, ↓s_254_4, ↓s_254_7, ↓s_254_8, ↓s_254_9, ↓s_254_10, ↓s_254_13, ↓s_254_14, ↓s_254_15, ↓s_254_18, ↓s_254_21, ↓s_191_0, ↓s_191_1, ↓s_191_4, ↓s_191_7, ↓s_191_8, ↓s_191_11, ↓s_191_12, ↓s_191_15, ↓s_191_16, ↓s_191_19, ↓s_191_20, ↓s_191_23, ↓s_191_24, ↓s_191_27, ↓s_191_28, zar_112, zia_112, zln_112, zit_112, zar_113, zia_113, zln_113, zit_113, zar_98, zia_98, zln_98, zit_98, zar_99, zia_99, zln_99, zit_99, zar_100, zia_100, zln_100, zit_100, zio_95, q1, q2]
        exact f0
end RL
