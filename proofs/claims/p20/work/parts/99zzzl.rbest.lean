section
/-! BEST and CHOSEN, the reference's side -/
theorem zix_zero {f : Nat → Int} {b : Int} : ∀ n, (∀ j, j < n → w32 (f j) = 0) → zix f b n = 0
  | 0, _ => rfl
  | n + 1, h => by
    simp only [zix]
    rw [zix_zero n (fun j hj => h j (by omega)), h n (Nat.lt_succ_self n), Int.zero_mul]
    rfl
/-- behind layBest: what the tables hold -/
def xhP (b m : yMem) (D : dDc) (X wk cr : Int) : Prop := dOk D ∧ rDl b D ∧ w32 (b 122 0) = X ∧ 0 ≤ X ∧ X < 64 ∧ (∀ p v, uPv D p → v < D.2.1.length → rlH b D X wk p v) ∧ LbXI b cr (-1) m
section XH
variable {E : yE} {D : dDc} {X wk : Int} {b m m' mem : yMem} {cc l c : Int} {e w : Nat} {g : Nat → Int} {Q : Option yV → yMem → Prop}
theorem rw_num (hD : rDl b D) (he : e < D.2.2.1.length) (hf : ∀ j, j < 3 → 0 ≤ w32 (g j) ∧ w32 (g j) ≤ w32 (b 97 1)) : ∃ w : Nat, zix g (w32 (b 97 1) + 1) (sPs D e) = (w : Int) ∧ w < bNb D ^ sPs D e ∧ rwE D e w g := by
  obtain ⟨-, ⟨n2, n2'⟩, -⟩ := rTb_n hD
  obtain ⟨pe, pl⟩ := rTb_e hD he
  obtain ⟨w, w1, w2, w3⟩ := zix_dg (f := g) (nb := bNb D) (Nat.succ_pos _) (sPs D e) (fun q hq => by
    have := hf q (by omega)
    rw [n2] at this
    unfold bNb
    omega)
  have en : w32 (b 97 1) + 1 = ((bNb D : Nat) : Int) := by
    rw [n2]
    unfold bNb
    omega
  refine ⟨w, by rw [en]; exact w1, w2, fun q hq => ?_⟩
  have := hf q (by omega)
  rw [w3 q hq]
  omega
theorem xh_B (P : xhP b m D X wk cc) (he : e ≤ D.2.2.1.length) (c0 : 0 ≤ c) (c1 : c ≤ cc) : bB D X wk (D.2.2.1.length - e) c (w32 (m 132 (1000 * (e : Int) + c).toNat)) (w32 (m 133 (1000 * (e : Int) + c).toNat)) := by
  obtain ⟨hk, hD, hX, h0, h1, hL, hI⟩ := P
  have := rbB hk hD hX h0 h1 hL hI (D.2.2.1.length - e) (by omega) c c0 c1
  rw [show D.2.2.1.length - (D.2.2.1.length - e) = e by omega] at this
  exact this
theorem xh_cr (P : xhP b m D X wk cc) (he : e < D.2.2.1.length) (l0 : 0 ≤ l) (l1 : l ≤ cc) (ok : bOk D X e w) : (bCo D X wk e w ≤ l ∧ w32 (m 132 (1000 * (e : Int) + l).toNat) = bGa D X e w + w32 (m 132 (1000 * ((e : Int) + 1) + l - bCo D X wk e w).toNat) ∧ w32 (m 133 (1000 * (e : Int) + l).toNat) = bCo D X wk e w + w32 (m 133 (1000 * ((e : Int) + 1) + l - bCo D X wk e w).toNat)) ↔ bCr D X wk e l w := by
  have B1 := xh_B P (Nat.le_of_lt he) l0 l1
  have nn := bCo_nn (D := D) (X := X) (wk := wk) (e := e) (w := w) P.1
  have B2 : bCo D X wk e w ≤ l → bB D X wk (D.2.2.1.length - (e + 1)) (l - bCo D X wk e w) (w32 (m 132 (1000 * ((e : Int) + 1) + l - bCo D X wk e w).toNat)) (w32 (m 133 (1000 * ((e : Int) + 1) + l - bCo D X wk e w).toNat)) := fun z => by
    have := xh_B P (e := e + 1) (c := l - bCo D X wk e w) (by omega) (by omega) (by omega)
    rw [show 1000 * ((e + 1 : Nat) : Int) + (l - bCo D X wk e w) = 1000 * ((e : Int) + 1) + l - bCo D X wk e w by omega] at this
    exact this
  constructor
  · rintro ⟨z1, z2, z3⟩
    exact ⟨ok, z1, _, _, _, _, B1, B2 z1, z2.symm, z3.symm⟩
  · rintro ⟨_, z1, n, c, n', c', b1, b2, q1, q2⟩
    obtain ⟨u1, u2⟩ := bB_u B1 b1
    obtain ⟨u3, u4⟩ := bB_u (B2 z1) b2
    exact ⟨z1, by rw [u1, u3]; exact q1.symm, by rw [u2, u4]; exact q2.symm⟩
theorem xh_is (P : xhP b m D X wk cc) (he : e < D.2.2.1.length) (l0 : 0 ≤ l) (l1 : l ≤ cc) (hF : ∀ i j, i ≠ 136 → m' i j = m i j) (hg : rwE D e w (m' 136)) : (zmb m' (sPs D e) ↔ bOk D X e w) ∧ (bOk D X e w → (zisb m' (e : Int) l ↔ bCr D X wk e l w)) ∧ zcst m' (e : Int) (m' 136) = bCo D X wk e w := by
  have P0 := P
  obtain ⟨hk, hD, hX, h0, h1, hL, hI⟩ := P
  obtain ⟨-, ⟨n2, n2'⟩, -⟩ := rTb_n hD
  obtain ⟨pe, pl⟩ := rTb_e hD he
  have hb : ∀ i j, i ≠ 132 → i ≠ 133 → i ≠ 136 → m' i j = b i j := fun i j a1 a2 a3 => by rw [hF i j a3]; exact hI.1.1 i j a1 a2 a3
  have k1 : (∀ k, k < sPs D e → zmkg (m' 122 0) (m' 97 1) (m' 136) k) ↔ bOk D X e w := rwE_ok (b := m') (by rw [hb 122 0 (by decide) (by decide) (by decide)]; exact hX) h0 h1 (by rw [hb 97 1 (by decide) (by decide) (by decide)]; exact n2) n2' hg
  obtain ⟨q1, q2⟩ := rw_co (b := m') (X := X) (wk := wk) (by rw [hb 97 1 (by decide) (by decide) (by decide)]; exact n2) (by rw [hb 109 e (by decide) (by decide) (by decide)]; exact pe) hg (fun q v a1 a2 => by
    unfold rlH
    rw [hb 134 _ (by decide) (by decide) (by decide), hb 135 _ (by decide) (by decide) (by decide)]
    exact hL _ v (rw_pv hD he a1) a2)
  have e132 : m' 132 = m 132 := funext fun j => hF 132 j (by decide)
  have e133 : m' 133 = m 133 := funext fun j => hF 133 j (by decide)
  refine ⟨k1, fun ok => ?_, q1⟩
  unfold zisb
  rw [q1, q2, e132, e133]
  exact xh_cr P0 he l0 l1 ok
/-- a row of the tables that comes to what is best, as a number -/
theorem xh_ex (P : xhP b m D X wk cc) (he : e < D.2.2.1.length) (l0 : 0 ≤ l) (l1 : l ≤ cc) : ∃ (g : Nat → Int) (ws : Nat), (∀ j, j < 3 → 0 ≤ w32 (g j) ∧ w32 (g j) ≤ w32 (b 97 1)) ∧ zix g (w32 (b 97 1) + 1) (sPs D e) = (ws : Int) ∧ ws < bNb D ^ sPs D e ∧ bCr D X wk e l ws := by
  have P0 := P
  obtain ⟨hk, hD, hX, h0, h1, hL, hI⟩ := P
  obtain ⟨-, ⟨n2, n2'⟩, ⟨n3, n3'⟩, -⟩ := rTb_n hD
  obtain ⟨pe, pl⟩ := rTb_e hD he
  obtain ⟨g, hr, z1, z2, z3⟩ := hI.1.2.2.2 (e : Int) (by omega) (by omega) l l0 l1
  obtain ⟨ws, w1, w2, w3⟩ := rw_num hD he hr.1
  have hr2 := hr.2
  rw [Int.toNat_natCast, pe, Int.toNat_natCast] at hr2
  have ok : bOk D X e ws := (rwE_ok hX h0 h1 n2 n2' w3).mp hr2
  obtain ⟨q1, q2⟩ := rw_co (X := X) (wk := wk) n2 pe w3 (fun q v a1 a2 => hL _ v (rw_pv hD he a1) a2)
  rw [q1] at z1 z2 z3
  rw [q2] at z2
  exact ⟨g, ws, hr.1, w1, w2, (xh_cr P0 he l0 l1 ok).mp ⟨z1, z2, z3⟩⟩
theorem xh44 (hE : yEok E) {d : Nat} (hd : 2 ≤ d) (P : xhP b m D X wk cc) (hcc : cc ≤ 999) {cr ve pa l v : Int} (hv : w32 v = (e : Int)) (he : e < D.2.2.1.length) (hl : 0 ≤ w32 l) (hl2 : w32 l ≤ cc) {ws : Nat} {g : Nat → Int} (hgd : ∀ j, j < 3 → 0 ≤ w32 (g j) ∧ w32 (g j) ≤ w32 (b 97 1)) (hgz : zix g (w32 (b 97 1) + 1) (sPs D e) = (ws : Int)) (hC : bCr D X wk e (w32 l) ws) (next : ∀ m' l' w, (∀ i j, i ≠ 136 → m' i j = m i j) → aGok m' → rwE D e w (m' 136) → bFr D X wk e (w32 l) w → w32 l' = w32 l - bCo D X wk e w → zG E d xm_152 34 [some (1, 95), some (0, cr), some (0, ve), some (0, pa), some (0, l'), some (0, v + 1)] [] m' Q) : ∀ (n w : Nat) (m' : yMem), ws - w = n → zix (m' 136) (w32 (b 97 1) + 1) (sPs D e) = (w : Int) → (∀ u, u < w → ¬ bCr D X wk e (w32 l) u) → (∀ i j, i ≠ 136 → m' i j = m i j) → aGok m' → (∀ j, j < 3 → 0 ≤ w32 (m' 136 j) ∧ w32 (m' 136 j) ≤ w32 (b 97 1)) → zG E d xm_152 44 [some (1, 95), some (0, cr), some (0, ve), some (0, pa), some (0, l), some (0, v)] [] m' Q := by
  have P0 := P
  obtain ⟨hk, hD, hX, h0, h1, hL, hI⟩ := P
  obtain ⟨-, ⟨n2, n2'⟩, ⟨n3, n3'⟩, -⟩ := rTb_n hD
  obtain ⟨pe, pl⟩ := rTb_e hD he
  have vt := w32_t hv
  have hv0 : 0 ≤ w32 v := by omega
  have hv3 : w32 v ≤ 3 := by omega
  have fb : ∀ m' : yMem, (∀ i j, i ≠ 136 → m' i j = m i j) → ∀ i j, i ≠ 132 → i ≠ 133 → i ≠ 136 → m' i j = b i j := fun m' hF i j a1 a2 a3 => by rw [hF i j a3]; exact hI.1.1 i j a1 a2 a3
  have at' : ∀ (w : Nat) (m' : yMem), zix (m' 136) (w32 (b 97 1) + 1) (sPs D e) = (w : Int) → (∀ u, u < w → ¬ bCr D X wk e (w32 l) u) → (∀ i j, i ≠ 136 → m' i j = m i j) → aGok m' → (∀ j, j < 3 → 0 ≤ w32 (m' 136 j) ∧ w32 (m' 136 j) ≤ w32 (b 97 1)) → (¬ bCr D X wk e (w32 l) w → zG E d xm_152 64 [some (1, 95), some (0, cr), some (0, ve), some (0, pa), some (0, l), some (0, v)] [] m' Q) → zG E d xm_152 44 [some (1, 95), some (0, cr), some (0, ve), some (0, pa), some (0, l), some (0, v)] [] m' Q := by
    intro w m' hz hno hF hG hdig go
    obtain ⟨w', z1, z2, hg⟩ := rw_num hD he hdig
    have ew : w' = w := by
      rw [hz] at z1
      omega
    subst ew
    obtain ⟨k1, k2, k3⟩ := xh_is P0 he hl hl2 hF hg
    have b97 : m' 97 1 = b 97 1 := fb m' hF 97 1 (by decide) (by decide) (by decide)
    have b109 : m' 109 e = b 109 e := fb m' hF 109 e (by decide) (by decide) (by decide)
    have n1 : (w32 (m' 109 (w32 v).toNat)).toNat = sPs D e := by rw [vt, b109, pe, Int.toNat_natCast]
    have e132 : m' 132 = m 132 := funext fun j => hF 132 j (by decide)
    have e133 : m' 133 = m 133 := funext fun j => hF 133 j (by decide)
    have hdm : ∀ j, j < 3 → 0 ≤ w32 (m' 136 j) ∧ w32 (m' 136 j) ≤ w32 (m' 97 1) := by rw [b97]; exact hdig
    refine zgo_ok (n := 60) hE xmo_152 (cs := zc_152) ?_
    simp only [ynok_30, ynok_31, w32c_0, w32c_1, w32c_2, w32c_3, w32c_4, w32c_5, w32c_6, w32c_7, w32c_8, w32c_9, w32c_10, w32c_11, w32c_12, w32c_13, w32c_14, w32c_m1, w32c_m2, w32c_118, Int.reduceAdd, Int.reduceSub, Int.reduceMul, yput_s, yput_n, znl_n, znl_0, znl_1, znl_4, ysum_n, ysum_0, ysum_1, ysum_4, true_and, and_true, Nat.reduceAdd, Nat.reduceLeDiff, true_implies, eq_self, true_or, or_true, or_false, false_or, not_true_eq_false, not_false_eq_true, false_implies, implies_true, yset_s, yset_o, yset_d, ne_eq, Nat.reduceEqDiff, Int.reduceToNat, Int.reduceEq, Int.reduceLE, Int.reduceLT, Classical.not_not, Nat.reduceLT, ↓zvk_s, ↓zvk_n, ↓s_152_0, ↓s_152_1, ↓s_152_2, ↓s_152_5, ↓s_152_6, ↓s_152_9, ↓s_152_12, ↓s_152_13, ↓s_152_14, ↓s_152_15, ↓s_152_18, ↓s_152_21, ↓s_152_22, ↓g_152_23, ↓k_152_23, ↓s_152_24, ↓s_152_25, ↓s_152_28, ↓s_152_29n, ↓s_152_29i, ↓s_152_29p, ↓s_152_31, ↓s_152_32n, ↓s_152_32i, ↓s_152_32p, ↓g_152_34, ↓k_152_34, ↓s_152_36, ↓s_152_37, ↓s_152_40, ↓s_152_41, ↓g_152_44, ↓k_152_44, ↓s_152_45, ↓s_152_47, ↓s_152_50, ↓s_152_53, ↓s_152_54, ↓s_152_56, ↓s_152_58, ↓s_152_61, ↓g_152_64, ↓k_152_64, ↓s_152_65, ↓s_152_67, ↓s_152_70a, ↓s_152_70b, ↓s_152_71, ↓s_152_74, ↓s_152_76, ↓s_152_77, ↓s_152_79, ↓s_152_82, ↓s_152_83n, ↓s_152_83i, ↓s_152_83p, ↓s_152_85n, ↓s_152_85i, ↓s_152_85p, ↓s_152_88, ↓s_152_91, ↓s_152_92, ↓s_152_95, ↓s_152_96, ↓s_152_97, ↓s_152_98, ↓s_152_101, ↓s_152_102, ↓s_152_103, ↓s_152_106, ↓s_152_108, ↓s_152_111, ↓s_152_112, ↓s_152_115, ↓s_152_116, ↓s_152_117, zar_136, zia_136, zln_136, zit_136, zar_97, zia_97, zln_97, zit_97, zio_95]
    refine c_mayBe hE hd hG hv0 hv3 (fun hnm => ?_) (fun hyes => ?_)
    · refine zgk_s hE xmo_152 60 zc_152 ?_
      simp only [ynok_30, ynok_31, w32c_0, w32c_1, w32c_2, w32c_3, w32c_4, w32c_5, w32c_6, w32c_7, w32c_8, w32c_9, w32c_10, w32c_11, w32c_12, w32c_13, w32c_14, w32c_m1, w32c_m2, w32c_118, Int.reduceAdd, Int.reduceSub, Int.reduceMul, yput_s, yput_n, znl_n, znl_0, znl_1, znl_4, ysum_n, ysum_0, ysum_1, ysum_4, true_and, and_true, Nat.reduceAdd, Nat.reduceLeDiff, true_implies, eq_self, true_or, or_true, or_false, false_or, not_true_eq_false, not_false_eq_true, false_implies, implies_true, yset_s, yset_o, yset_d, ne_eq, Nat.reduceEqDiff, Int.reduceToNat, Int.reduceEq, Int.reduceLE, Int.reduceLT, Classical.not_not, Nat.reduceLT, ↓zvk_s, ↓zvk_n, ↓s_152_0, ↓s_152_1, ↓s_152_2, ↓s_152_5, ↓s_152_6, ↓s_152_9, ↓s_152_12, ↓s_152_13, ↓s_152_14, ↓s_152_15, ↓s_152_18, ↓s_152_21, ↓s_152_22, ↓g_152_23, ↓k_152_23, ↓s_152_24, ↓s_152_25, ↓s_152_28, ↓s_152_29n, ↓s_152_29i, ↓s_152_29p, ↓s_152_31, ↓s_152_32n, ↓s_152_32i, ↓s_152_32p, ↓g_152_34, ↓k_152_34, ↓s_152_36, ↓s_152_37, ↓s_152_40, ↓s_152_41, ↓g_152_44, ↓k_152_44, ↓s_152_45, ↓s_152_47, ↓s_152_50, ↓s_152_53, ↓s_152_54, ↓s_152_56, ↓s_152_58, ↓s_152_61, ↓g_152_64, ↓k_152_64, ↓s_152_65, ↓s_152_67, ↓s_152_70a, ↓s_152_70b, ↓s_152_71, ↓s_152_74, ↓s_152_76, ↓s_152_77, ↓s_152_79, ↓s_152_82, ↓s_152_83n, ↓s_152_83i, ↓s_152_83p, ↓s_152_85n, ↓s_152_85i, ↓s_152_85p, ↓s_152_88, ↓s_152_91, ↓s_152_92, ↓s_152_95, ↓s_152_96, ↓s_152_97, ↓s_152_98, ↓s_152_101, ↓s_152_102, ↓s_152_103, ↓s_152_106, ↓s_152_108, ↓s_152_111, ↓s_152_112, ↓s_152_115, ↓s_152_116, ↓s_152_117, zar_136, zia_136, zln_136, zit_136, zar_97, zia_97, zln_97, zit_97, zio_95]
      exact go (fun c => hnm (by rw [n1]; exact k1.mpr c.1))
    · rw [n1] at hyes
      have ok := k1.mp hyes
      refine zgk_s hE xmo_152 60 zc_152 ?_
      simp only [ynok_30, ynok_31, w32c_0, w32c_1, w32c_2, w32c_3, w32c_4, w32c_5, w32c_6, w32c_7, w32c_8, w32c_9, w32c_10, w32c_11, w32c_12, w32c_13, w32c_14, w32c_m1, w32c_m2, w32c_118, Int.reduceAdd, Int.reduceSub, Int.reduceMul, yput_s, yput_n, znl_n, znl_0, znl_1, znl_4, ysum_n, ysum_0, ysum_1, ysum_4, true_and, and_true, Nat.reduceAdd, Nat.reduceLeDiff, true_implies, eq_self, true_or, or_true, or_false, false_or, not_true_eq_false, not_false_eq_true, false_implies, implies_true, yset_s, yset_o, yset_d, ne_eq, Nat.reduceEqDiff, Int.reduceToNat, Int.reduceEq, Int.reduceLE, Int.reduceLT, Classical.not_not, Nat.reduceLT, ↓zvk_s, ↓zvk_n, ↓s_152_0, ↓s_152_1, ↓s_152_2, ↓s_152_5, ↓s_152_6, ↓s_152_9, ↓s_152_12, ↓s_152_13, ↓s_152_14, ↓s_152_15, ↓s_152_18, ↓s_152_21, ↓s_152_22, ↓g_152_23, ↓k_152_23, ↓s_152_24, ↓s_152_25, ↓s_152_28, ↓s_152_29n, ↓s_152_29i, ↓s_152_29p, ↓s_152_31, ↓s_152_32n, ↓s_152_32i, ↓s_152_32p, ↓g_152_34, ↓k_152_34, ↓s_152_36, ↓s_152_37, ↓s_152_40, ↓s_152_41, ↓g_152_44, ↓k_152_44, ↓s_152_45, ↓s_152_47, ↓s_152_50, ↓s_152_53, ↓s_152_54, ↓s_152_56, ↓s_152_58, ↓s_152_61, ↓g_152_64, ↓k_152_64, ↓s_152_65, ↓s_152_67, ↓s_152_70a, ↓s_152_70b, ↓s_152_71, ↓s_152_74, ↓s_152_76, ↓s_152_77, ↓s_152_79, ↓s_152_82, ↓s_152_83n, ↓s_152_83i, ↓s_152_83p, ↓s_152_85n, ↓s_152_85i, ↓s_152_85p, ↓s_152_88, ↓s_152_91, ↓s_152_92, ↓s_152_95, ↓s_152_96, ↓s_152_97, ↓s_152_98, ↓s_152_101, ↓s_152_102, ↓s_152_103, ↓s_152_106, ↓s_152_108, ↓s_152_111, ↓s_152_112, ↓s_152_115, ↓s_152_116, ↓s_152_117, zar_136, zia_136, zln_136, zit_136, zar_97, zia_97, zln_97, zit_97, zio_95]
      refine c_rbest hE hd hG hv0 hv3 hl (by omega) hdm (fun c c0 c1 => by rw [e132, e133]; exact hI.1.2.2.1 (w32 v + 1) (by omega) (by omega) c c0 (by omega)) (fun hn2 => ?_) (fun hy2 => ?_)
      · refine zgk_s hE xmo_152 60 zc_152 ?_
        simp only [ynok_30, ynok_31, w32c_0, w32c_1, w32c_2, w32c_3, w32c_4, w32c_5, w32c_6, w32c_7, w32c_8, w32c_9, w32c_10, w32c_11, w32c_12, w32c_13, w32c_14, w32c_m1, w32c_m2, w32c_118, Int.reduceAdd, Int.reduceSub, Int.reduceMul, yput_s, yput_n, znl_n, znl_0, znl_1, znl_4, ysum_n, ysum_0, ysum_1, ysum_4, true_and, and_true, Nat.reduceAdd, Nat.reduceLeDiff, true_implies, eq_self, true_or, or_true, or_false, false_or, not_true_eq_false, not_false_eq_true, false_implies, implies_true, yset_s, yset_o, yset_d, ne_eq, Nat.reduceEqDiff, Int.reduceToNat, Int.reduceEq, Int.reduceLE, Int.reduceLT, Classical.not_not, Nat.reduceLT, ↓zvk_s, ↓zvk_n, ↓s_152_0, ↓s_152_1, ↓s_152_2, ↓s_152_5, ↓s_152_6, ↓s_152_9, ↓s_152_12, ↓s_152_13, ↓s_152_14, ↓s_152_15, ↓s_152_18, ↓s_152_21, ↓s_152_22, ↓g_152_23, ↓k_152_23, ↓s_152_24, ↓s_152_25, ↓s_152_28, ↓s_152_29n, ↓s_152_29i, ↓s_152_29p, ↓s_152_31, ↓s_152_32n, ↓s_152_32i, ↓s_152_32p, ↓g_152_34, ↓k_152_34, ↓s_152_36, ↓s_152_37, ↓s_152_40, ↓s_152_41, ↓g_152_44, ↓k_152_44, ↓s_152_45, ↓s_152_47, ↓s_152_50, ↓s_152_53, ↓s_152_54, ↓s_152_56, ↓s_152_58, ↓s_152_61, ↓g_152_64, ↓k_152_64, ↓s_152_65, ↓s_152_67, ↓s_152_70a, ↓s_152_70b, ↓s_152_71, ↓s_152_74, ↓s_152_76, ↓s_152_77, ↓s_152_79, ↓s_152_82, ↓s_152_83n, ↓s_152_83i, ↓s_152_83p, ↓s_152_85n, ↓s_152_85i, ↓s_152_85p, ↓s_152_88, ↓s_152_91, ↓s_152_92, ↓s_152_95, ↓s_152_96, ↓s_152_97, ↓s_152_98, ↓s_152_101, ↓s_152_102, ↓s_152_103, ↓s_152_106, ↓s_152_108, ↓s_152_111, ↓s_152_112, ↓s_152_115, ↓s_152_116, ↓s_152_117, zar_136, zia_136, zln_136, zit_136, zar_97, zia_97, zln_97, zit_97, zio_95]
        exact go (fun c => hn2 (by rw [hv]; exact (k2 ok).mpr c))
      · rw [hv] at hy2
        have C := (k2 ok).mp hy2
        refine zgk_s hE xmo_152 60 zc_152 ?_
        simp only [ynok_30, ynok_31, w32c_0, w32c_1, w32c_2, w32c_3, w32c_4, w32c_5, w32c_6, w32c_7, w32c_8, w32c_9, w32c_10, w32c_11, w32c_12, w32c_13, w32c_14, w32c_m1, w32c_m2, w32c_118, Int.reduceAdd, Int.reduceSub, Int.reduceMul, yput_s, yput_n, znl_n, znl_0, znl_1, znl_4, ysum_n, ysum_0, ysum_1, ysum_4, true_and, and_true, Nat.reduceAdd, Nat.reduceLeDiff, true_implies, eq_self, true_or, or_true, or_false, false_or, not_true_eq_false, not_false_eq_true, false_implies, implies_true, yset_s, yset_o, yset_d, ne_eq, Nat.reduceEqDiff, Int.reduceToNat, Int.reduceEq, Int.reduceLE, Int.reduceLT, Classical.not_not, Nat.reduceLT, ↓zvk_s, ↓zvk_n, ↓s_152_0, ↓s_152_1, ↓s_152_2, ↓s_152_5, ↓s_152_6, ↓s_152_9, ↓s_152_12, ↓s_152_13, ↓s_152_14, ↓s_152_15, ↓s_152_18, ↓s_152_21, ↓s_152_22, ↓g_152_23, ↓k_152_23, ↓s_152_24, ↓s_152_25, ↓s_152_28, ↓s_152_29n, ↓s_152_29i, ↓s_152_29p, ↓s_152_31, ↓s_152_32n, ↓s_152_32i, ↓s_152_32p, ↓g_152_34, ↓k_152_34, ↓s_152_36, ↓s_152_37, ↓s_152_40, ↓s_152_41, ↓g_152_44, ↓k_152_44, ↓s_152_45, ↓s_152_47, ↓s_152_50, ↓s_152_53, ↓s_152_54, ↓s_152_56, ↓s_152_58, ↓s_152_61, ↓g_152_64, ↓k_152_64, ↓s_152_65, ↓s_152_67, ↓s_152_70a, ↓s_152_70b, ↓s_152_71, ↓s_152_74, ↓s_152_76, ↓s_152_77, ↓s_152_79, ↓s_152_82, ↓s_152_83n, ↓s_152_83i, ↓s_152_83p, ↓s_152_85n, ↓s_152_85i, ↓s_152_85p, ↓s_152_88, ↓s_152_91, ↓s_152_92, ↓s_152_95, ↓s_152_96, ↓s_152_97, ↓s_152_98, ↓s_152_101, ↓s_152_102, ↓s_152_103, ↓s_152_106, ↓s_152_108, ↓s_152_111, ↓s_152_112, ↓s_152_115, ↓s_152_116, ↓s_152_117, zar_136, zia_136, zln_136, zit_136, zar_97, zia_97, zln_97, zit_97, zio_95]
        refine c_costOf hE (by omega) hG hv0 hv3 hdm (fun co hco => ?_)
        have hco' : w32 co = zcst m' (w32 v) (m' 136) := hco
        rw [hv, k3] at hco'
        have cl := C.2.1
        have nn := bCo_nn (D := D) (X := X) (wk := wk) (e := e) (w := w') hk
        have es : w32 (l - co) = w32 l - bCo D X wk e w' := by rw [w32_sb (by omega) (by omega), hco']
        refine zgk_s hE xmo_152 60 zc_152 ?_
        simp only [ynok_30, ynok_31, w32c_0, w32c_1, w32c_2, w32c_3, w32c_4, w32c_5, w32c_6, w32c_7, w32c_8, w32c_9, w32c_10, w32c_11, w32c_12, w32c_13, w32c_14, w32c_m1, w32c_m2, w32c_118, Int.reduceAdd, Int.reduceSub, Int.reduceMul, yput_s, yput_n, znl_n, znl_0, znl_1, znl_4, ysum_n, ysum_0, ysum_1, ysum_4, true_and, and_true, Nat.reduceAdd, Nat.reduceLeDiff, true_implies, eq_self, true_or, or_true, or_false, false_or, not_true_eq_false, not_false_eq_true, false_implies, implies_true, yset_s, yset_o, yset_d, ne_eq, Nat.reduceEqDiff, Int.reduceToNat, Int.reduceEq, Int.reduceLE, Int.reduceLT, Classical.not_not, Nat.reduceLT, ↓zvk_s, ↓zvk_n, ↓s_152_0, ↓s_152_1, ↓s_152_2, ↓s_152_5, ↓s_152_6, ↓s_152_9, ↓s_152_12, ↓s_152_13, ↓s_152_14, ↓s_152_15, ↓s_152_18, ↓s_152_21, ↓s_152_22, ↓g_152_23, ↓k_152_23, ↓s_152_24, ↓s_152_25, ↓s_152_28, ↓s_152_29n, ↓s_152_29i, ↓s_152_29p, ↓s_152_31, ↓s_152_32n, ↓s_152_32i, ↓s_152_32p, ↓g_152_34, ↓k_152_34, ↓s_152_36, ↓s_152_37, ↓s_152_40, ↓s_152_41, ↓g_152_44, ↓k_152_44, ↓s_152_45, ↓s_152_47, ↓s_152_50, ↓s_152_53, ↓s_152_54, ↓s_152_56, ↓s_152_58, ↓s_152_61, ↓g_152_64, ↓k_152_64, ↓s_152_65, ↓s_152_67, ↓s_152_70a, ↓s_152_70b, ↓s_152_71, ↓s_152_74, ↓s_152_76, ↓s_152_77, ↓s_152_79, ↓s_152_82, ↓s_152_83n, ↓s_152_83i, ↓s_152_83p, ↓s_152_85n, ↓s_152_85i, ↓s_152_85p, ↓s_152_88, ↓s_152_91, ↓s_152_92, ↓s_152_95, ↓s_152_96, ↓s_152_97, ↓s_152_98, ↓s_152_101, ↓s_152_102, ↓s_152_103, ↓s_152_106, ↓s_152_108, ↓s_152_111, ↓s_152_112, ↓s_152_115, ↓s_152_116, ↓s_152_117, zar_136, zia_136, zln_136, zit_136, zar_97, zia_97, zln_97, zit_97, zio_95]
        exact next m' _ w' hF hG hg ⟨z2, C, hno⟩ es
  intro n
  induction n with
  | zero =>
    intro w m' hn hz hno hF hG hdig
    refine at' w m' hz hno hF hG hdig (fun c => ?_)
    exfalso
    by_cases ew : w = ws
    · rw [ew] at c
      exact c hC
    · exact hno ws (by omega) hC
  | succ n ih =>
    intro w m' hn hz hno hF hG hdig
    refine at' w m' hz hno hF hG hdig (fun c => ?_)
    have b97 : m' 97 1 = b 97 1 := fb m' hF 97 1 (by decide) (by decide) (by decide)
    have b109 : m' 109 e = b 109 e := fb m' hF 109 e (by decide) (by decide) (by decide)
    have n1 : (w32 (m' 109 (w32 v).toNat)).toNat = sPs D e := by rw [vt, b109, pe, Int.toNat_natCast]
    refine zgo_ok (n := 60) hE xmo_152 (cs := zc_152) ?_
    simp only [ynok_30, ynok_31, w32c_0, w32c_1, w32c_2, w32c_3, w32c_4, w32c_5, w32c_6, w32c_7, w32c_8, w32c_9, w32c_10, w32c_11, w32c_12, w32c_13, w32c_14, w32c_m1, w32c_m2, w32c_118, Int.reduceAdd, Int.reduceSub, Int.reduceMul, yput_s, yput_n, znl_n, znl_0, znl_1, znl_4, ysum_n, ysum_0, ysum_1, ysum_4, true_and, and_true, Nat.reduceAdd, Nat.reduceLeDiff, true_implies, eq_self, true_or, or_true, or_false, false_or, not_true_eq_false, not_false_eq_true, false_implies, implies_true, yset_s, yset_o, yset_d, ne_eq, Nat.reduceEqDiff, Int.reduceToNat, Int.reduceEq, Int.reduceLE, Int.reduceLT, Classical.not_not, Nat.reduceLT, ↓zvk_s, ↓zvk_n, ↓s_152_0, ↓s_152_1, ↓s_152_2, ↓s_152_5, ↓s_152_6, ↓s_152_9, ↓s_152_12, ↓s_152_13, ↓s_152_14, ↓s_152_15, ↓s_152_18, ↓s_152_21, ↓s_152_22, ↓g_152_23, ↓k_152_23, ↓s_152_24, ↓s_152_25, ↓s_152_28, ↓s_152_29n, ↓s_152_29i, ↓s_152_29p, ↓s_152_31, ↓s_152_32n, ↓s_152_32i, ↓s_152_32p, ↓g_152_34, ↓k_152_34, ↓s_152_36, ↓s_152_37, ↓s_152_40, ↓s_152_41, ↓g_152_44, ↓k_152_44, ↓s_152_45, ↓s_152_47, ↓s_152_50, ↓s_152_53, ↓s_152_54, ↓s_152_56, ↓s_152_58, ↓s_152_61, ↓g_152_64, ↓k_152_64, ↓s_152_65, ↓s_152_67, ↓s_152_70a, ↓s_152_70b, ↓s_152_71, ↓s_152_74, ↓s_152_76, ↓s_152_77, ↓s_152_79, ↓s_152_82, ↓s_152_83n, ↓s_152_83i, ↓s_152_83p, ↓s_152_85n, ↓s_152_85i, ↓s_152_85p, ↓s_152_88, ↓s_152_91, ↓s_152_92, ↓s_152_95, ↓s_152_96, ↓s_152_97, ↓s_152_98, ↓s_152_101, ↓s_152_102, ↓s_152_103, ↓s_152_106, ↓s_152_108, ↓s_152_111, ↓s_152_112, ↓s_152_115, ↓s_152_116, ↓s_152_117, zar_136, zia_136, zln_136, zit_136, zar_97, zia_97, zln_97, zit_97, zio_95]
    refine c_goesNext hE (by omega) hG hv0 hv3 (by rw [b97]; exact hdig) (fun x m2 hq => ?_)
    obtain ⟨fr, hG2, hd2⟩ := Gn_ok hG hq
    have q3 := hq.2.2
    rw [n1, b97] at q3
    rw [b97] at hd2
    refine zgk_s hE xmo_152 60 zc_152 ?_
    simp only [ynok_30, ynok_31, w32c_0, w32c_1, w32c_2, w32c_3, w32c_4, w32c_5, w32c_6, w32c_7, w32c_8, w32c_9, w32c_10, w32c_11, w32c_12, w32c_13, w32c_14, w32c_m1, w32c_m2, w32c_118, Int.reduceAdd, Int.reduceSub, Int.reduceMul, yput_s, yput_n, znl_n, znl_0, znl_1, znl_4, ysum_n, ysum_0, ysum_1, ysum_4, true_and, and_true, Nat.reduceAdd, Nat.reduceLeDiff, true_implies, eq_self, true_or, or_true, or_false, false_or, not_true_eq_false, not_false_eq_true, false_implies, implies_true, yset_s, yset_o, yset_d, ne_eq, Nat.reduceEqDiff, Int.reduceToNat, Int.reduceEq, Int.reduceLE, Int.reduceLT, Classical.not_not, Nat.reduceLT, ↓zvk_s, ↓zvk_n, ↓s_152_0, ↓s_152_1, ↓s_152_2, ↓s_152_5, ↓s_152_6, ↓s_152_9, ↓s_152_12, ↓s_152_13, ↓s_152_14, ↓s_152_15, ↓s_152_18, ↓s_152_21, ↓s_152_22, ↓g_152_23, ↓k_152_23, ↓s_152_24, ↓s_152_25, ↓s_152_28, ↓s_152_29n, ↓s_152_29i, ↓s_152_29p, ↓s_152_31, ↓s_152_32n, ↓s_152_32i, ↓s_152_32p, ↓g_152_34, ↓k_152_34, ↓s_152_36, ↓s_152_37, ↓s_152_40, ↓s_152_41, ↓g_152_44, ↓k_152_44, ↓s_152_45, ↓s_152_47, ↓s_152_50, ↓s_152_53, ↓s_152_54, ↓s_152_56, ↓s_152_58, ↓s_152_61, ↓g_152_64, ↓k_152_64, ↓s_152_65, ↓s_152_67, ↓s_152_70a, ↓s_152_70b, ↓s_152_71, ↓s_152_74, ↓s_152_76, ↓s_152_77, ↓s_152_79, ↓s_152_82, ↓s_152_83n, ↓s_152_83i, ↓s_152_83p, ↓s_152_85n, ↓s_152_85i, ↓s_152_85p, ↓s_152_88, ↓s_152_91, ↓s_152_92, ↓s_152_95, ↓s_152_96, ↓s_152_97, ↓s_152_98, ↓s_152_101, ↓s_152_102, ↓s_152_103, ↓s_152_106, ↓s_152_108, ↓s_152_111, ↓s_152_112, ↓s_152_115, ↓s_152_116, ↓s_152_117, zar_136, zia_136, zln_136, zit_136, zar_97, zia_97, zln_97, zit_97, zio_95]
    rcases q3 with ⟨_, h2⟩ | ⟨_, h2⟩
    · refine ih (w + 1) m2 (by omega) (by rw [h2, hz]; omega) (fun u hu => ?_) (fun i j hi => by rw [fr i j hi]; exact hF i j hi) hG2 hd2
      by_cases eu : u = w
      · rw [eu]
        exact c
      · exact hno u (by omega)
    · have := zix_mono (f := g) (g := m' 136) (b := w32 (b 97 1) + 1) (by omega) (sPs D e) (fun j hj => by rw [h2 j hj]; exact (hgd j (by omega)).2)
      omega
theorem xh34 (hE : yEok E) {d : Nat} (hd : 2 ≤ d) (P : xhP b m D X wk cc) (hcc : cc ≤ 999) {cr ve pa c0 : Int} {ev pq : Nat} (hve : w32 ve = (ev : Int)) (hev : ev < D.2.2.1.length) (hpa : w32 pa = (pq : Int)) (hpq : pq < sPs D ev) (hQ : ∀ r m' w bb, bLe D X wk ev c0 bb → bFr D X wk ev bb w → w32 r = (if bDg (bNb D) (sPs D ev) w pq < D.2.1.length then ((bDg (bNb D) (sPs D ev) w pq : Nat) : Int) else -2) → Q (some (0, r)) m') : ∀ (n e : Nat) (v l : Int) (m' : yMem), ev + 1 - e = n → e ≤ ev + 1 → w32 v = (e : Int) → 0 ≤ w32 l → w32 l ≤ cc → bLe D X wk e c0 (w32 l) → (e = ev + 1 → ∃ bb w, bLe D X wk ev c0 bb ∧ bFr D X wk ev bb w ∧ rwE D ev w (m' 136)) → (∀ i j, i ≠ 136 → m' i j = m i j) → aGok m' → zG E d xm_152 34 [some (1, 95), some (0, cr), some (0, ve), some (0, pa), some (0, l), some (0, v)] [] m' Q := by
  have P0 := P
  obtain ⟨hk, hD, hX, h0, h1, hL, hI⟩ := P
  obtain ⟨-, ⟨n2, n2'⟩, ⟨n3, n3'⟩, -⟩ := rTb_n hD
  have pt := w32_t hpa
  have lt7 : ∀ (w q : Nat), bDg (bNb D) (sPs D ev) w q < D.2.1.length + 1 := fun w q => bDg_lt (Nat.succ_pos _)
  intro n
  induction n with
  | zero =>
    intro e v l m' hn he hv hl hl2 hb hs hF hG
    obtain ⟨bb, w, s1, s2, s3⟩ := hs (by omega)
    have s4 := s3 pq hpq
    obtain ⟨pe, pl⟩ := rTb_e hD hev
    have b97 : w32 (m' 97 1) = (D.2.1.length : Int) := by rw [hF 97 1 (by decide), hI.1.1 97 1 (by decide) (by decide) (by decide)]; exact n2
    have l7 := lt7 w pq
    refine zgo_ok (n := 60) hE xmo_152 (cs := zc_152) ?_
    simp only [ynok_30, ynok_31, w32c_0, w32c_1, w32c_2, w32c_3, w32c_4, w32c_5, w32c_6, w32c_7, w32c_8, w32c_9, w32c_10, w32c_11, w32c_12, w32c_13, w32c_14, w32c_m1, w32c_m2, w32c_118, Int.reduceAdd, Int.reduceSub, Int.reduceMul, yput_s, yput_n, znl_n, znl_0, znl_1, znl_4, ysum_n, ysum_0, ysum_1, ysum_4, true_and, and_true, Nat.reduceAdd, Nat.reduceLeDiff, true_implies, eq_self, true_or, or_true, or_false, false_or, not_true_eq_false, not_false_eq_true, false_implies, implies_true, yset_s, yset_o, yset_d, ne_eq, Nat.reduceEqDiff, Int.reduceToNat, Int.reduceEq, Int.reduceLE, Int.reduceLT, Classical.not_not, Nat.reduceLT, ↓zvk_s, ↓zvk_n, ↓s_152_0, ↓s_152_1, ↓s_152_2, ↓s_152_5, ↓s_152_6, ↓s_152_9, ↓s_152_12, ↓s_152_13, ↓s_152_14, ↓s_152_15, ↓s_152_18, ↓s_152_21, ↓s_152_22, ↓g_152_23, ↓k_152_23, ↓s_152_24, ↓s_152_25, ↓s_152_28, ↓s_152_29n, ↓s_152_29i, ↓s_152_29p, ↓s_152_31, ↓s_152_32n, ↓s_152_32i, ↓s_152_32p, ↓g_152_34, ↓k_152_34, ↓s_152_36, ↓s_152_37, ↓s_152_40, ↓s_152_41, ↓g_152_44, ↓k_152_44, ↓s_152_45, ↓s_152_47, ↓s_152_50, ↓s_152_53, ↓s_152_54, ↓s_152_56, ↓s_152_58, ↓s_152_61, ↓g_152_64, ↓k_152_64, ↓s_152_65, ↓s_152_67, ↓s_152_70a, ↓s_152_70b, ↓s_152_71, ↓s_152_74, ↓s_152_76, ↓s_152_77, ↓s_152_79, ↓s_152_82, ↓s_152_83n, ↓s_152_83i, ↓s_152_83p, ↓s_152_85n, ↓s_152_85i, ↓s_152_85p, ↓s_152_88, ↓s_152_91, ↓s_152_92, ↓s_152_95, ↓s_152_96, ↓s_152_97, ↓s_152_98, ↓s_152_101, ↓s_152_102, ↓s_152_103, ↓s_152_106, ↓s_152_108, ↓s_152_111, ↓s_152_112, ↓s_152_115, ↓s_152_116, ↓s_152_117, zar_136, zia_136, zln_136, zit_136, zar_97, zia_97, zln_97, zit_97, zio_95, pt]
    refine ⟨fun _ => ⟨⟨by omega, by omega⟩, by first | omega | decide, fun z => ⟨⟨by omega, by omega⟩, hQ _ m' w bb s1 s2 ?_⟩, fun z => hQ _ m' w bb s1 s2 ?_⟩, fun h => absurd (show w32 ve < w32 v by omega) h⟩
    · rw [if_pos (by omega)]
      exact s4
    · rw [if_neg (by omega)]
      exact w32c_m2
  | succ n ih =>
    intro e v l m' hn he hv hl hl2 hb hs hF hG
    have he' : e < D.2.2.1.length := by omega
    have e1 := w32_s1 hv (by omega)
    obtain ⟨pe, pl⟩ := rTb_e hD he'
    have n0 : 0 ≤ w32 (b 97 1) := by omega
    refine zgo_ok (n := 60) hE xmo_152 (cs := zc_152) ?_
    simp only [ynok_30, ynok_31, w32c_0, w32c_1, w32c_2, w32c_3, w32c_4, w32c_5, w32c_6, w32c_7, w32c_8, w32c_9, w32c_10, w32c_11, w32c_12, w32c_13, w32c_14, w32c_m1, w32c_m2, w32c_118, Int.reduceAdd, Int.reduceSub, Int.reduceMul, yput_s, yput_n, znl_n, znl_0, znl_1, znl_4, ysum_n, ysum_0, ysum_1, ysum_4, true_and, and_true, Nat.reduceAdd, Nat.reduceLeDiff, true_implies, eq_self, true_or, or_true, or_false, false_or, not_true_eq_false, not_false_eq_true, false_implies, implies_true, yset_s, yset_o, yset_d, ne_eq, Nat.reduceEqDiff, Int.reduceToNat, Int.reduceEq, Int.reduceLE, Int.reduceLT, Classical.not_not, Nat.reduceLT, ↓zvk_s, ↓zvk_n, ↓s_152_0, ↓s_152_1, ↓s_152_2, ↓s_152_5, ↓s_152_6, ↓s_152_9, ↓s_152_12, ↓s_152_13, ↓s_152_14, ↓s_152_15, ↓s_152_18, ↓s_152_21, ↓s_152_22, ↓g_152_23, ↓k_152_23, ↓s_152_24, ↓s_152_25, ↓s_152_28, ↓s_152_29n, ↓s_152_29i, ↓s_152_29p, ↓s_152_31, ↓s_152_32n, ↓s_152_32i, ↓s_152_32p, ↓g_152_34, ↓k_152_34, ↓s_152_36, ↓s_152_37, ↓s_152_40, ↓s_152_41, ↓g_152_44, ↓k_152_44, ↓s_152_45, ↓s_152_47, ↓s_152_50, ↓s_152_53, ↓s_152_54, ↓s_152_56, ↓s_152_58, ↓s_152_61, ↓g_152_64, ↓k_152_64, ↓s_152_65, ↓s_152_67, ↓s_152_70a, ↓s_152_70b, ↓s_152_71, ↓s_152_74, ↓s_152_76, ↓s_152_77, ↓s_152_79, ↓s_152_82, ↓s_152_83n, ↓s_152_83i, ↓s_152_83p, ↓s_152_85n, ↓s_152_85i, ↓s_152_85p, ↓s_152_88, ↓s_152_91, ↓s_152_92, ↓s_152_95, ↓s_152_96, ↓s_152_97, ↓s_152_98, ↓s_152_101, ↓s_152_102, ↓s_152_103, ↓s_152_106, ↓s_152_108, ↓s_152_111, ↓s_152_112, ↓s_152_115, ↓s_152_116, ↓s_152_117, zar_136, zia_136, zln_136, zit_136, zar_97, zia_97, zln_97, zit_97, zio_95]
    refine ⟨fun h => absurd h (by omega), fun _ => c_starts hE (by omega) ?_⟩
    refine zgk_n hE xmo_152 60 zc_152 ?_
    simp only [ynok_30, ynok_31, w32c_0, w32c_1, w32c_2, w32c_3, w32c_4, w32c_5, w32c_6, w32c_7, w32c_8, w32c_9, w32c_10, w32c_11, w32c_12, w32c_13, w32c_14, w32c_m1, w32c_m2, w32c_118, Int.reduceAdd, Int.reduceSub, Int.reduceMul, yput_s, yput_n, znl_n, znl_0, znl_1, znl_4, ysum_n, ysum_0, ysum_1, ysum_4, true_and, and_true, Nat.reduceAdd, Nat.reduceLeDiff, true_implies, eq_self, true_or, or_true, or_false, false_or, not_true_eq_false, not_false_eq_true, false_implies, implies_true, yset_s, yset_o, yset_d, ne_eq, Nat.reduceEqDiff, Int.reduceToNat, Int.reduceEq, Int.reduceLE, Int.reduceLT, Classical.not_not, Nat.reduceLT, ↓zvk_s, ↓zvk_n, ↓s_152_0, ↓s_152_1, ↓s_152_2, ↓s_152_5, ↓s_152_6, ↓s_152_9, ↓s_152_12, ↓s_152_13, ↓s_152_14, ↓s_152_15, ↓s_152_18, ↓s_152_21, ↓s_152_22, ↓g_152_23, ↓k_152_23, ↓s_152_24, ↓s_152_25, ↓s_152_28, ↓s_152_29n, ↓s_152_29i, ↓s_152_29p, ↓s_152_31, ↓s_152_32n, ↓s_152_32i, ↓s_152_32p, ↓g_152_34, ↓k_152_34, ↓s_152_36, ↓s_152_37, ↓s_152_40, ↓s_152_41, ↓g_152_44, ↓k_152_44, ↓s_152_45, ↓s_152_47, ↓s_152_50, ↓s_152_53, ↓s_152_54, ↓s_152_56, ↓s_152_58, ↓s_152_61, ↓g_152_64, ↓k_152_64, ↓s_152_65, ↓s_152_67, ↓s_152_70a, ↓s_152_70b, ↓s_152_71, ↓s_152_74, ↓s_152_76, ↓s_152_77, ↓s_152_79, ↓s_152_82, ↓s_152_83n, ↓s_152_83i, ↓s_152_83p, ↓s_152_85n, ↓s_152_85i, ↓s_152_85p, ↓s_152_88, ↓s_152_91, ↓s_152_92, ↓s_152_95, ↓s_152_96, ↓s_152_97, ↓s_152_98, ↓s_152_101, ↓s_152_102, ↓s_152_103, ↓s_152_106, ↓s_152_108, ↓s_152_111, ↓s_152_112, ↓s_152_115, ↓s_152_116, ↓s_152_117, zar_136, zia_136, zln_136, zit_136, zar_97, zia_97, zln_97, zit_97, zio_95]
    obtain ⟨g, ws, g1, g2, g3, g4⟩ := xh_ex P0 he' hl hl2
    have d0 : ∀ j, j < 3 → w32 (yset (yset (yset m' 136 0 0) 136 1 0) 136 2 0 136 j) = 0 := fun j hj => by
      match j, hj with
      | 0, _ => rw [yset_d (by decide), yset_d (by decide), yset_s]; decide
      | 1, _ => rw [yset_d (by decide), yset_s]; decide
      | 2, _ => rw [yset_s]; decide
    refine xh44 hE hd P0 hcc hv he' hl hl2 g1 g2 g4 (fun m2 l' w F2 G2 r2 f2 el => ?_) _ 0 _ rfl (zix_zero _ (fun j hj => d0 j (by omega))) (fun u hu => absurd hu (Nat.not_lt_zero _)) (fun i j hi => by rw [yset_o hi, yset_o hi, yset_o hi]; exact hF i j hi) (aGok_set (aGok_set (aGok_set hG (by rw [agam_A ae_136]; decide)) (by rw [agam_A ae_136]; decide)) (by rw [agam_A ae_136]; decide)) (fun j hj => by rw [d0 j hj]; omega)
    have nn := bCo_nn (D := D) (X := X) (wk := wk) (e := e) (w := w) hk
    have cl := f2.2.1.2.1
    refine ih (e + 1) (v + 1) l' m2 (by omega) (by omega) e1 (by omega) (by omega) ⟨w32 l, w, hb, f2, el⟩ (fun z => ?_) F2 G2
    have ee : e = ev := by omega
    subst ee
    exact ⟨w32 l, w, hb, f2, r2⟩
theorem r_best (hE : yEok E) (hm : yman Om) {D0 : Nat} (hD0 : 13 ≤ D0) {cr wh : Int} (hG : aGok mem) (hO : Om mem) (hX : w32 (mem 122 0) = X) (h0 : 0 ≤ X) (h1 : X < 64) (hK : w32 (mem 118 0) = wk) (h : rDl mem D) (hk : dOk D) (hQ : ∀ r m, sBst D X wk (w32 cr) (w32 wh) (w32 r) → Q (some (0, r)) m) : yCon E D0 xm_147 [(1, 95), (0, cr), (0, wh)] mem Q := by
  obtain ⟨d, rfl⟩ := Nat.exists_eq_add_of_le' hD0
  have G0 : aGok (yset mem 95 0 0) := aGok_set hG (ag_32 ag_95_0)
  have O0 : Om (yset mem 95 0 0) := yoc_Om mem _ (fun i j hi => yset_o (fun e => by subst e; exact absurd hi (by decide))) hO
  have F0 : ∀ i j, i ≠ 95 → yset mem 95 0 0 i j = mem i j := fun i j hi => yset_o hi
  have D1 : rDl (yset mem 95 0 0) D := rDl_w h (fun i j n _ i1 i2 _ => by rw [F0 i j (by omega)])
  have q0 : ¬ ((0 ≤ w32 cr ∧ w32 cr ≤ 999) ∧ 0 ≤ w32 wh ∧ w32 wh ≤ 1) → Q (some (0, -1)) (yset mem 95 0 0) := fun z => hQ _ _ (by
    unfold sBst
    rw [if_neg z]
    exact w32c_m1)
  have f23 : (0 ≤ w32 cr ∧ w32 cr ≤ 999) ∧ 0 ≤ w32 wh ∧ w32 wh ≤ 1 → zG E (d + 12) xm_147 23 [some (1, 95), some (0, cr), some (0, wh)] [] (yset mem 95 0 0) Q := fun z => by
    refine zgo_ok (n := 60) hE xmo_147 (cs := zc_147) ?_
    simp only [ynok_30, ynok_31, w32c_0, w32c_1, w32c_2, w32c_3, w32c_4, w32c_5, w32c_6, w32c_7, w32c_8, w32c_9, w32c_10, w32c_11, w32c_12, w32c_13, w32c_14, w32c_m1, w32c_m2, w32c_118, Int.reduceAdd, Int.reduceSub, Int.reduceMul, yput_s, yput_n, znl_n, znl_0, znl_1, znl_4, ysum_n, ysum_0, ysum_1, ysum_4, true_and, and_true, Nat.reduceAdd, Nat.reduceLeDiff, true_implies, eq_self, true_or, or_true, or_false, false_or, not_true_eq_false, not_false_eq_true, false_implies, implies_true, yset_s, yset_o, yset_d, ne_eq, Nat.reduceEqDiff, Int.reduceToNat, Int.reduceEq, Int.reduceLE, Int.reduceLT, Classical.not_not, Nat.reduceLT, ↓zvk_s, ↓zvk_n, ↓s_147_0, ↓s_147_1, ↓s_147_2, ↓s_147_5, ↓s_147_6, ↓s_147_9, ↓s_147_12, ↓s_147_13, ↓s_147_16, ↓s_147_17, ↓s_147_18, ↓s_147_21, ↓s_147_22, ↓g_147_23, ↓k_147_23, ↓s_147_24, ↓s_147_25, ↓s_147_28, ↓s_147_29, ↓s_147_32, ↓s_147_33, ↓s_147_36, ↓s_147_37, ↓s_147_38, ↓s_147_41, ↓s_147_42, ↓s_147_45, ↓s_147_46, ↓s_147_47, zar_132, zia_132, zln_132, zit_132, zar_133, zia_133, zln_133, zit_133, zio_95]
    refine r_layBest (X := X) (wk := wk) hE hm (by omega) G0 O0 z.1.1 z.1.2 (by rw [F0 122 0 (by decide)]; exact hX) h0 h1 (by rw [F0 118 0 (by decide)]; exact hK) D1 hk (fun b m P => ?_)
    obtain ⟨g1, g2, g3, g4, L, hI⟩ := P
    have P1 : xhP b m D X wk (w32 cr) := ⟨hk, rDl_w D1 (fun i j n _ i1 i2 _ => by rw [g3 i j (by omega)]), by rw [g3 122 0 (by omega), F0 122 0 (by decide)]; exact hX, h0, h1, L, hI⟩
    have B := xh_B P1 (Nat.zero_le _) z.1.1 (Int.le_refl _)
    rw [Nat.sub_zero, show (1000 * ((0 : Nat) : Int) + w32 cr).toNat = (w32 cr).toNat by omega] at B
    refine zgk_n hE xmo_147 60 zc_147 ?_
    simp only [ynok_30, ynok_31, w32c_0, w32c_1, w32c_2, w32c_3, w32c_4, w32c_5, w32c_6, w32c_7, w32c_8, w32c_9, w32c_10, w32c_11, w32c_12, w32c_13, w32c_14, w32c_m1, w32c_m2, w32c_118, Int.reduceAdd, Int.reduceSub, Int.reduceMul, yput_s, yput_n, znl_n, znl_0, znl_1, znl_4, ysum_n, ysum_0, ysum_1, ysum_4, true_and, and_true, Nat.reduceAdd, Nat.reduceLeDiff, true_implies, eq_self, true_or, or_true, or_false, false_or, not_true_eq_false, not_false_eq_true, false_implies, implies_true, yset_s, yset_o, yset_d, ne_eq, Nat.reduceEqDiff, Int.reduceToNat, Int.reduceEq, Int.reduceLE, Int.reduceLT, Classical.not_not, Nat.reduceLT, ↓zvk_s, ↓zvk_n, ↓s_147_0, ↓s_147_1, ↓s_147_2, ↓s_147_5, ↓s_147_6, ↓s_147_9, ↓s_147_12, ↓s_147_13, ↓s_147_16, ↓s_147_17, ↓s_147_18, ↓s_147_21, ↓s_147_22, ↓g_147_23, ↓k_147_23, ↓s_147_24, ↓s_147_25, ↓s_147_28, ↓s_147_29, ↓s_147_32, ↓s_147_33, ↓s_147_36, ↓s_147_37, ↓s_147_38, ↓s_147_41, ↓s_147_42, ↓s_147_45, ↓s_147_46, ↓s_147_47, zar_132, zia_132, zln_132, zit_132, zar_133, zia_133, zln_133, zit_133, zio_95]
    refine ⟨fun w0 => ⟨⟨by omega, by omega⟩, hQ _ _ ?_⟩, fun w0 => ⟨⟨by omega, by omega⟩, hQ _ _ ?_⟩⟩
    · unfold sBst
      rw [if_pos z]
      exact ⟨_, _, B, by rw [if_neg w0]⟩
    · unfold sBst
      rw [if_pos z]
      exact ⟨_, _, B, by rw [if_pos w0]⟩
  refine e_147 ?_
  refine zvc_ok hE 90 zc_147 _ _ _ _ _ _ _ xmo_147 ?_
  simp only [ynok_30, ynok_31, w32c_0, w32c_1, w32c_2, w32c_3, w32c_4, w32c_5, w32c_6, w32c_7, w32c_8, w32c_9, w32c_10, w32c_11, w32c_12, w32c_13, w32c_14, w32c_m1, w32c_m2, w32c_118, Int.reduceAdd, Int.reduceSub, Int.reduceMul, yput_s, yput_n, znl_n, znl_0, znl_1, znl_4, ysum_n, ysum_0, ysum_1, ysum_4, true_and, and_true, Nat.reduceAdd, Nat.reduceLeDiff, true_implies, eq_self, true_or, or_true, or_false, false_or, not_true_eq_false, not_false_eq_true, false_implies, implies_true, yset_s, yset_o, yset_d, ne_eq, Nat.reduceEqDiff, Int.reduceToNat, Int.reduceEq, Int.reduceLE, Int.reduceLT, Classical.not_not, Nat.reduceLT, ↓zvk_s, ↓zvk_n, ↓s_147_0, ↓s_147_1, ↓s_147_2, ↓s_147_5, ↓s_147_6, ↓s_147_9, ↓s_147_12, ↓s_147_13, ↓s_147_16, ↓s_147_17, ↓s_147_18, ↓s_147_21, ↓s_147_22, ↓g_147_23, ↓k_147_23, ↓s_147_24, ↓s_147_25, ↓s_147_28, ↓s_147_29, ↓s_147_32, ↓s_147_33, ↓s_147_36, ↓s_147_37, ↓s_147_38, ↓s_147_41, ↓s_147_42, ↓s_147_45, ↓s_147_46, ↓s_147_47, ↓s_184_0, ↓s_184_1, ↓s_184_4, ↓s_184_5, ↓s_184_8, ↓s_184_11, ↓s_184_12, ↓s_184_15, ↓s_184_16, w32c_1000, zar_132, zia_132, zln_132, zit_132, zar_133, zia_133, zln_133, zit_133, zio_95]
  repeat' first | exact q0 (fun c => by omega) | exact f23 ⟨⟨by omega, by omega⟩, by omega, by omega⟩ | omega | refine And.intro ?_ ?_ | intro _
theorem r_chosen (hE : yEok E) (hm : yman Om) {D0 : Nat} (hD0 : 13 ≤ D0) {cr ve pa : Int} (hG : aGok mem) (hO : Om mem) (hX : w32 (mem 122 0) = X) (h0 : 0 ≤ X) (h1 : X < 64) (hK : w32 (mem 118 0) = wk) (h : rDl mem D) (hk : dOk D) (hQ : ∀ r m, sChs D X wk (w32 cr) (w32 ve) (w32 pa) (w32 r) → Q (some (0, r)) m) : yCon E D0 xm_152 [(1, 95), (0, cr), (0, ve), (0, pa)] mem Q := by
  obtain ⟨d, rfl⟩ := Nat.exists_eq_add_of_le' hD0
  obtain ⟨-, ⟨n2, n2'⟩, ⟨n3, n3'⟩, -⟩ := rTb_n h
  have G0 : aGok (yset mem 95 0 0) := aGok_set hG (ag_32 ag_95_0)
  have O0 : Om (yset mem 95 0 0) := yoc_Om mem _ (fun i j hi => yset_o (fun e => by subst e; exact absurd hi (by decide))) hO
  have F0 : ∀ i j, i ≠ 95 → yset mem 95 0 0 i j = mem i j := fun i j hi => yset_o hi
  have D1 : rDl (yset mem 95 0 0) D := rDl_w h (fun i j n _ i1 i2 _ => by rw [F0 i j (by omega)])
  have q0 : ¬ sChc D (w32 cr) (w32 ve) (w32 pa) → Q (some (0, -1)) (yset mem 95 0 0) := fun z => hQ _ _ ⟨fun c => absurd c z, fun _ => w32c_m1⟩
  have f23 : sChc D (w32 cr) (w32 ve) (w32 pa) → zG E (d + 12) xm_152 23 [some (1, 95), some (0, cr), some (0, ve), some (0, pa), none, none] [] (yset mem 95 0 0) Q := fun z => by
    have z0 := z
    obtain ⟨⟨c0, c9⟩, ⟨v0, v1⟩, p0, p1⟩ := z0
    have hVE : w32 ve = (((w32 ve).toNat : Nat) : Int) := by omega
    have hPA : w32 pa = (((w32 pa).toNat : Nat) : Int) := by omega
    refine zgo_ok (n := 60) hE xmo_152 (cs := zc_152) ?_
    simp only [ynok_30, ynok_31, w32c_0, w32c_1, w32c_2, w32c_3, w32c_4, w32c_5, w32c_6, w32c_7, w32c_8, w32c_9, w32c_10, w32c_11, w32c_12, w32c_13, w32c_14, w32c_m1, w32c_m2, w32c_118, Int.reduceAdd, Int.reduceSub, Int.reduceMul, yput_s, yput_n, znl_n, znl_0, znl_1, znl_4, ysum_n, ysum_0, ysum_1, ysum_4, true_and, and_true, Nat.reduceAdd, Nat.reduceLeDiff, true_implies, eq_self, true_or, or_true, or_false, false_or, not_true_eq_false, not_false_eq_true, false_implies, implies_true, yset_s, yset_o, yset_d, ne_eq, Nat.reduceEqDiff, Int.reduceToNat, Int.reduceEq, Int.reduceLE, Int.reduceLT, Classical.not_not, Nat.reduceLT, ↓zvk_s, ↓zvk_n, ↓s_152_0, ↓s_152_1, ↓s_152_2, ↓s_152_5, ↓s_152_6, ↓s_152_9, ↓s_152_12, ↓s_152_13, ↓s_152_14, ↓s_152_15, ↓s_152_18, ↓s_152_21, ↓s_152_22, ↓g_152_23, ↓k_152_23, ↓s_152_24, ↓s_152_25, ↓s_152_28, ↓s_152_29n, ↓s_152_29i, ↓s_152_29p, ↓s_152_31, ↓s_152_32n, ↓s_152_32i, ↓s_152_32p, ↓g_152_34, ↓k_152_34, ↓s_152_36, ↓s_152_37, ↓s_152_40, ↓s_152_41, ↓g_152_44, ↓k_152_44, ↓s_152_45, ↓s_152_47, ↓s_152_50, ↓s_152_53, ↓s_152_54, ↓s_152_56, ↓s_152_58, ↓s_152_61, ↓g_152_64, ↓k_152_64, ↓s_152_65, ↓s_152_67, ↓s_152_70a, ↓s_152_70b, ↓s_152_71, ↓s_152_74, ↓s_152_76, ↓s_152_77, ↓s_152_79, ↓s_152_82, ↓s_152_83n, ↓s_152_83i, ↓s_152_83p, ↓s_152_85n, ↓s_152_85i, ↓s_152_85p, ↓s_152_88, ↓s_152_91, ↓s_152_92, ↓s_152_95, ↓s_152_96, ↓s_152_97, ↓s_152_98, ↓s_152_101, ↓s_152_102, ↓s_152_103, ↓s_152_106, ↓s_152_108, ↓s_152_111, ↓s_152_112, ↓s_152_115, ↓s_152_116, ↓s_152_117, zar_136, zia_136, zln_136, zit_136, zar_97, zia_97, zln_97, zit_97, zio_95]
    refine r_layBest (X := X) (wk := wk) hE hm (by omega) G0 O0 c0 c9 (by rw [F0 122 0 (by decide)]; exact hX) h0 h1 (by rw [F0 118 0 (by decide)]; exact hK) D1 hk (fun b m P => ?_)
    obtain ⟨g1, g2, g3, g4, L, hI⟩ := P
    have P1 : xhP b m D X wk (w32 cr) := ⟨hk, rDl_w D1 (fun i j n _ i1 i2 _ => by rw [g3 i j (by omega)]), by rw [g3 122 0 (by omega), F0 122 0 (by decide)]; exact hX, h0, h1, L, hI⟩
    refine zgk_n hE xmo_152 60 zc_152 ?_
    simp only [ynok_30, ynok_31, w32c_0, w32c_1, w32c_2, w32c_3, w32c_4, w32c_5, w32c_6, w32c_7, w32c_8, w32c_9, w32c_10, w32c_11, w32c_12, w32c_13, w32c_14, w32c_m1, w32c_m2, w32c_118, Int.reduceAdd, Int.reduceSub, Int.reduceMul, yput_s, yput_n, znl_n, znl_0, znl_1, znl_4, ysum_n, ysum_0, ysum_1, ysum_4, true_and, and_true, Nat.reduceAdd, Nat.reduceLeDiff, true_implies, eq_self, true_or, or_true, or_false, false_or, not_true_eq_false, not_false_eq_true, false_implies, implies_true, yset_s, yset_o, yset_d, ne_eq, Nat.reduceEqDiff, Int.reduceToNat, Int.reduceEq, Int.reduceLE, Int.reduceLT, Classical.not_not, Nat.reduceLT, ↓zvk_s, ↓zvk_n, ↓s_152_0, ↓s_152_1, ↓s_152_2, ↓s_152_5, ↓s_152_6, ↓s_152_9, ↓s_152_12, ↓s_152_13, ↓s_152_14, ↓s_152_15, ↓s_152_18, ↓s_152_21, ↓s_152_22, ↓g_152_23, ↓k_152_23, ↓s_152_24, ↓s_152_25, ↓s_152_28, ↓s_152_29n, ↓s_152_29i, ↓s_152_29p, ↓s_152_31, ↓s_152_32n, ↓s_152_32i, ↓s_152_32p, ↓g_152_34, ↓k_152_34, ↓s_152_36, ↓s_152_37, ↓s_152_40, ↓s_152_41, ↓g_152_44, ↓k_152_44, ↓s_152_45, ↓s_152_47, ↓s_152_50, ↓s_152_53, ↓s_152_54, ↓s_152_56, ↓s_152_58, ↓s_152_61, ↓g_152_64, ↓k_152_64, ↓s_152_65, ↓s_152_67, ↓s_152_70a, ↓s_152_70b, ↓s_152_71, ↓s_152_74, ↓s_152_76, ↓s_152_77, ↓s_152_79, ↓s_152_82, ↓s_152_83n, ↓s_152_83i, ↓s_152_83p, ↓s_152_85n, ↓s_152_85i, ↓s_152_85p, ↓s_152_88, ↓s_152_91, ↓s_152_92, ↓s_152_95, ↓s_152_96, ↓s_152_97, ↓s_152_98, ↓s_152_101, ↓s_152_102, ↓s_152_103, ↓s_152_106, ↓s_152_108, ↓s_152_111, ↓s_152_112, ↓s_152_115, ↓s_152_116, ↓s_152_117, zar_136, zia_136, zln_136, zit_136, zar_97, zia_97, zln_97, zit_97, zio_95]
    exact xh34 hE (by omega) P1 c9 hVE (by omega) hPA (by omega) (fun r m' w bb s1 s2 s3 => hQ r m' ⟨fun _ => ⟨bb, w, s1, s2, s3⟩, fun c => absurd z c⟩) _ 0 _ _ m rfl (Nat.zero_le _) w32c_0 c0 (Int.le_refl _) rfl (fun c => absurd c (by omega)) (fun _ _ _ => rfl) hI.1.2.1
  refine e_152 ?_
  refine zvc_ok hE 90 zc_152 _ _ _ _ _ _ _ xmo_152 ?_
  by_cases hv : 0 ≤ w32 ve ∧ w32 ve < (D.2.2.1.length : Int)
  · have pe := (rTb_e h (show (w32 ve).toNat < D.2.2.1.length by omega)).1
    have S0 : (0 ≤ w32 cr ∧ w32 cr ≤ 999) → 0 ≤ w32 pa → w32 pa < w32 (mem 109 (w32 ve).toNat) → sChc D (w32 cr) (w32 ve) (w32 pa) := fun a1 a2 a3 => ⟨a1, hv, a2, by omega⟩
    have S1 : sChc D (w32 cr) (w32 ve) (w32 pa) → (0 ≤ w32 cr ∧ w32 cr ≤ 999) ∧ 0 ≤ w32 pa ∧ w32 pa < w32 (mem 109 (w32 ve).toNat) := fun c => ⟨c.1, c.2.2.1, by have := c.2.2.2; omega⟩
    simp only [ynok_30, ynok_31, w32c_0, w32c_1, w32c_2, w32c_3, w32c_4, w32c_5, w32c_6, w32c_7, w32c_8, w32c_9, w32c_10, w32c_11, w32c_12, w32c_13, w32c_14, w32c_m1, w32c_m2, w32c_118, Int.reduceAdd, Int.reduceSub, Int.reduceMul, yput_s, yput_n, znl_n, znl_0, znl_1, znl_4, ysum_n, ysum_0, ysum_1, ysum_4, true_and, and_true, Nat.reduceAdd, Nat.reduceLeDiff, true_implies, eq_self, true_or, or_true, or_false, false_or, not_true_eq_false, not_false_eq_true, false_implies, implies_true, yset_s, yset_o, yset_d, ne_eq, Nat.reduceEqDiff, Int.reduceToNat, Int.reduceEq, Int.reduceLE, Int.reduceLT, Classical.not_not, Nat.reduceLT, ↓zvk_s, ↓zvk_n, ↓s_152_0, ↓s_152_1, ↓s_152_2, ↓s_152_5, ↓s_152_6, ↓s_152_9, ↓s_152_12, ↓s_152_13, ↓s_152_14, ↓s_152_15, ↓s_152_18, ↓s_152_21, ↓s_152_22, ↓g_152_23, ↓k_152_23, ↓s_152_24, ↓s_152_25, ↓s_152_28, ↓s_152_29n, ↓s_152_29i, ↓s_152_29p, ↓s_152_31, ↓s_152_32n, ↓s_152_32i, ↓s_152_32p, ↓g_152_34, ↓k_152_34, ↓s_152_36, ↓s_152_37, ↓s_152_40, ↓s_152_41, ↓g_152_44, ↓k_152_44, ↓s_152_45, ↓s_152_47, ↓s_152_50, ↓s_152_53, ↓s_152_54, ↓s_152_56, ↓s_152_58, ↓s_152_61, ↓g_152_64, ↓k_152_64, ↓s_152_65, ↓s_152_67, ↓s_152_70a, ↓s_152_70b, ↓s_152_71, ↓s_152_74, ↓s_152_76, ↓s_152_77, ↓s_152_79, ↓s_152_82, ↓s_152_83n, ↓s_152_83i, ↓s_152_83p, ↓s_152_85n, ↓s_152_85i, ↓s_152_85p, ↓s_152_88, ↓s_152_91, ↓s_152_92, ↓s_152_95, ↓s_152_96, ↓s_152_97, ↓s_152_98, ↓s_152_101, ↓s_152_102, ↓s_152_103, ↓s_152_106, ↓s_152_108, ↓s_152_111, ↓s_152_112, ↓s_152_115, ↓s_152_116, ↓s_152_117, ↓s_184_0, ↓s_184_1, ↓s_184_4, ↓s_184_5, ↓s_184_8, ↓s_184_11, ↓s_184_12, ↓s_184_15, ↓s_184_16, w32c_1000, ↓s_189_0, ↓s_189_1, ↓s_189_2, ↓s_189_5, ↓s_189_8, ↓s_189_9, ↓s_189_12, ↓s_189_13, ↓s_189_14, ↓s_189_17, ↓s_189_18, ↓s_189_19, ↓s_189_22, ↓s_189_23, ↓s_189_26, ↓s_189_27, ↓s_196_0, ↓s_196_1, ↓s_196_4, ↓s_196_5, ↓s_196_6, ↓s_196_9, ↓s_196_10, ↓s_196_11, ↓s_196_14, ↓s_196_15, ↓s_196_18, ↓s_196_19, zar_97, zia_97, zln_97, zit_97, zar_136, zia_136, zln_136, zit_136, zar_109, zia_109, zln_109, zit_109, zio_95]
    repeat' first | exact q0 (fun c => by have := S1 c; omega) | exact f23 (S0 ⟨by omega, by omega⟩ (by omega) (by omega)) | omega | refine And.intro ?_ ?_ | intro _
  · have S1 : ¬ sChc D (w32 cr) (w32 ve) (w32 pa) := fun c => hv c.2.1
    have q1 := q0 S1
    simp only [ynok_30, ynok_31, w32c_0, w32c_1, w32c_2, w32c_3, w32c_4, w32c_5, w32c_6, w32c_7, w32c_8, w32c_9, w32c_10, w32c_11, w32c_12, w32c_13, w32c_14, w32c_m1, w32c_m2, w32c_118, Int.reduceAdd, Int.reduceSub, Int.reduceMul, yput_s, yput_n, znl_n, znl_0, znl_1, znl_4, ysum_n, ysum_0, ysum_1, ysum_4, true_and, and_true, Nat.reduceAdd, Nat.reduceLeDiff, true_implies, eq_self, true_or, or_true, or_false, false_or, not_true_eq_false, not_false_eq_true, false_implies, implies_true, yset_s, yset_o, yset_d, ne_eq, Nat.reduceEqDiff, Int.reduceToNat, Int.reduceEq, Int.reduceLE, Int.reduceLT, Classical.not_not, Nat.reduceLT, ↓zvk_s, ↓zvk_n, ↓s_152_0, ↓s_152_1, ↓s_152_2, ↓s_152_5, ↓s_152_6, ↓s_152_9, ↓s_152_12, ↓s_152_13, ↓s_152_14, ↓s_152_15, ↓s_152_18, ↓s_152_21, ↓s_152_22, ↓g_152_23, ↓k_152_23, ↓s_152_24, ↓s_152_25, ↓s_152_28, ↓s_152_29n, ↓s_152_29i, ↓s_152_29p, ↓s_152_31, ↓s_152_32n, ↓s_152_32i, ↓s_152_32p, ↓g_152_34, ↓k_152_34, ↓s_152_36, ↓s_152_37, ↓s_152_40, ↓s_152_41, ↓g_152_44, ↓k_152_44, ↓s_152_45, ↓s_152_47, ↓s_152_50, ↓s_152_53, ↓s_152_54, ↓s_152_56, ↓s_152_58, ↓s_152_61, ↓g_152_64, ↓k_152_64, ↓s_152_65, ↓s_152_67, ↓s_152_70a, ↓s_152_70b, ↓s_152_71, ↓s_152_74, ↓s_152_76, ↓s_152_77, ↓s_152_79, ↓s_152_82, ↓s_152_83n, ↓s_152_83i, ↓s_152_83p, ↓s_152_85n, ↓s_152_85i, ↓s_152_85p, ↓s_152_88, ↓s_152_91, ↓s_152_92, ↓s_152_95, ↓s_152_96, ↓s_152_97, ↓s_152_98, ↓s_152_101, ↓s_152_102, ↓s_152_103, ↓s_152_106, ↓s_152_108, ↓s_152_111, ↓s_152_112, ↓s_152_115, ↓s_152_116, ↓s_152_117, ↓s_184_0, ↓s_184_1, ↓s_184_4, ↓s_184_5, ↓s_184_8, ↓s_184_11, ↓s_184_12, ↓s_184_15, ↓s_184_16, w32c_1000, ↓s_189_0, ↓s_189_1, ↓s_189_2, ↓s_189_5, ↓s_189_8, ↓s_189_9, ↓s_189_12, ↓s_189_13, ↓s_189_14, ↓s_189_17, ↓s_189_18, ↓s_189_19, ↓s_189_22, ↓s_189_23, ↓s_189_26, ↓s_189_27, ↓s_196_0, ↓s_196_1, ↓s_196_4, ↓s_196_5, ↓s_196_6, ↓s_196_9, ↓s_196_10, ↓s_196_11, ↓s_196_14, ↓s_196_15, ↓s_196_18, ↓s_196_19, zar_97, zia_97, zln_97, zit_97, zar_136, zia_136, zln_136, zit_136, zar_109, zia_109, zln_109, zit_109, zio_95]
    repeat' first | exact q1 | omega | refine And.intro ?_ ?_ | intro _
end XH
end
section
/-! THE TABLES OF BEST, BETWEEN CALLS -/
theorem yEv_of {E : yE} {m m2 : yMem} {H : Heap} (h1 : va_P (yD E) vwCl (yW E m) H) (h2 : va_P (yD E) vwCl (yW E m2) H) {H' : Heap} (h3 : va_P (yD E) vwCl (yW E m) H') : va_P (yD E) vwCl (yW E m2) H' := by
  intro k q hq
  cases hs : ysh[k]? with
  | none =>
    rw [show (yW E m2)[k]? = none by rw [ycx_get, hs]; rfl] at hq
    cases hq
  | some S =>
    have g : ∀ (mm : yMem) (H0 : Heap), va_P (yD E) vwCl (yW E mm) H0 → va_at (yD E) vwCl (yb E + k, yce E S (mm k)) H0 := fun mm H0 hP => by
      have := hP k (yb E + (0 + k), yce E S (mm (0 + k))) (by rw [ycx_get, hs]; rfl)
      rw [Nat.zero_add] at this
      exact this
    have eq : q = (yb E + k, yce E S (m2 k)) := by
      have e2 : (yW E m2)[k]? = some (yb E + (0 + k), yce E S (m2 (0 + k))) := by rw [ycx_get, hs]; rfl
      rw [Nat.zero_add] at e2
      exact Option.some.inj (hq.symm.trans e2)
    subst eq
    have a1 := g m H h1
    have a2 := g m2 H h2
    have a3 := g m H' h3
    have gen : ∀ (c c' : ClassId) (v v' : vp_A), H[yb E + k]? = some (vp_cell c v) → H[yb E + k]? = some (vp_cell c' v') → H'[yb E + k]? = some (vp_cell c v) → H'[yb E + k]? = some (vp_cell c' v') := fun c c' v v' b1 b2 b3 => b3.trans (b1.symm.trans b2)
    cases S with
    | inl q =>
      obtain ⟨kk, n, rs⟩ := q
      match kk, a1, a2, a3 with
      | 0, a1, a2, a3 => exact gen _ _ _ _ a1 a2 a3
      | 1, a1, a2, a3 => exact gen _ _ _ _ a1 a2 a3
      | 2, a1, a2, a3 => exact gen _ _ _ _ a1 a2 a3
      | 3, a1, a2, a3 => exact gen _ _ _ _ a1 a2 a3
      | 4, a1, a2, a3 => exact gen _ _ _ _ a1 a2 a3
      | k' + 5, a1, a2, a3 => exact gen _ _ _ _ a1 a2 a3
    | inr q =>
      obtain ⟨ci, fs⟩ := q
      obtain ⟨r, k1, cell, c1, c2, c3, c4⟩ := a1
      obtain ⟨r', k1', cell', c1', c2', c3', c4'⟩ := a2
      obtain ⟨r3, k3, cell3, d1, d2, d3, d4⟩ := a3
      have er : r = r' := Option.some.inj (k1.symm.trans k1')
      subst er
      have er3 : r = r3 := Option.some.inj (k1.symm.trans k3)
      subst er3
      have ec : cell = cell' := Option.some.inj (c1.symm.trans c1')
      subst ec
      exact ⟨r, k1', cell3, d1, d2, d3, fun j hj => (d4 j hj).trans ((c4 j hj).symm.trans (c4' j hj))⟩
/-- a memory that no heap tells apart will do -/
theorem yCon_ev {E : yE} {d : Nat} {M : xM} {avs : List yV} {m m2 : yMem} {Q : Option yV → yMem → Prop} (ev : ∀ H', va_P (yD E) vwCl (yW E m) H' → va_P (yD E) vwCl (yW E m2) H') (h : yCon E d M avs m2 Q) : yCon E d M avs m Q := by
  intro sz hb p e ha hc hk s mm args below hf happ hP hK
  obtain ⟨h1, h2, h3, h4, h5⟩ := hP
  exact h sz hb p e ha hc hk s mm args below hf happ ⟨h1, h2, ev _ h3, h4, h5⟩ hK
theorem yCon_an2 {E : yE} {d : Nat} {M : xM} {avs : List yV} {mem : yMem} {P1 P2 : Option yV → yMem → Prop} (h1 : yCon E d M avs mem P1) (h2 : yCon E d M avs mem P2) : yCon E d M avs mem (fun r m => P1 r m ∧ ∃ r2 m2, P2 r2 m2 ∧ yAl m m2 ∧ r.map (ydv E) = r2.map (ydv E) ∧ ∀ H', va_P (yD E) vwCl (yW E m) H' → va_P (yD E) vwCl (yW E m2) H') := by
  intro sz hb p e ha hc hk s m args below hf happ hP hK
  obtain ⟨n, o, a1, a2, a3, ⟨r, mem', k1, ko, kP, kF⟩, a5⟩ := h1 sz hb p e ha hc hk s m args below hf happ hP hK
  obtain ⟨n', o', b1, b2, b3, ⟨r2, mem2, l1, lo, lP, lF⟩, b5⟩ := h2 sz hb p e ha hc hk s m args below hf happ hP hK
  subst ko
  subst lo
  have en : n = n' := by
    rcases Nat.lt_trichotomy n n' with h | h | h
    · have := wi_len (b1 n h)
      have := en_len a3
      omega
    · exact h
    · have := wi_len (a1 n' h)
      have := en_len b3
      omega
  subst en
  exact ⟨n, _, a1, a2, a3, ⟨r, mem', ⟨k1, r2, mem2, l1, yAl_of kP lP, en_u a3 b3, fun H' h => yEv_of kP lP h⟩, rfl, kP, kF⟩, a5⟩
theorem tkS_tab : ([(4, 3), (6, 6), (8, 4), (10, 3), (11, 3), (12, 3), (13, 6), (14, 6), (15, 6), (16, 6), (17, 6), (18, 4), (19, 12), (20, 96), (21, 3), (23, 64), (24, 64), (25, 5), (26, 5), (77, 72), (78, 72), (81, 97), (82, 97), (83, 97), (84, 97), (85, 97)] : List (Nat × Nat)).all (fun q => (List.range q.2).all (fun j => yRl q.1 j)) = true := by decide +kernel
theorem tkS_t {c n j : Nat} (h : (c, n) ∈ ([(4, 3), (6, 6), (8, 4), (10, 3), (11, 3), (12, 3), (13, 6), (14, 6), (15, 6), (16, 6), (17, 6), (18, 4), (19, 12), (20, 96), (21, 3), (23, 64), (24, 64), (25, 5), (26, 5), (77, 72), (78, 72), (81, 97), (82, 97), (83, 97), (84, 97), (85, 97)] : List (Nat × Nat))) (hj : j < n) : yRl c j = true := List.all_eq_true.mp (List.all_eq_true.mp tkS_tab (c, n) h) j (List.mem_range.mpr hj)
theorem tkS_r {c j : Nat} (h : tkS c j) : yRl c j = true := by
  unfold tkS at h
  rcases h with ⟨rfl, h1, h2⟩ | ⟨hc, rfl⟩ | ⟨rfl, rfl⟩ | ⟨rfl, hj⟩ | ⟨rfl, hj⟩ | ⟨rfl, hj⟩ | ⟨rfl, hj⟩ | ⟨rfl, hj⟩ | ⟨rfl, hj⟩ | ⟨rfl, hj⟩ | ⟨rfl, hj⟩ | ⟨rfl, hj⟩ | ⟨rfl, hj⟩ | ⟨rfl, hj⟩ | ⟨rfl, hj⟩ | ⟨rfl, hj⟩ | ⟨rfl, hj⟩ | ⟨rfl, hj⟩ | ⟨rfl, hj⟩ | ⟨rfl, hj⟩ | ⟨rfl, hj⟩ | ⟨rfl, hj⟩
  · rcases (by omega : j = 16 ∨ j = 17 ∨ j = 18) with rfl | rfl | rfl <;> rfl
  · rcases hc with rfl | rfl | rfl | rfl <;> rfl
  · rfl
  all_goals first
    | exact tkS_t (n := 3) (by decide) hj
    | exact tkS_t (n := 6) (by decide) hj
    | exact tkS_t (n := 4) (by decide) hj
    | exact tkS_t (n := 12) (by decide) hj
    | exact tkS_t (n := 96) (by decide) hj
    | exact tkS_t (n := 64) (by decide) hj
    | exact tkS_t (n := 5) (by decide) hj
/-- what the tables speak of -/
def kcR (i j : Nat) : Prop := (2 ≤ i ∧ i ≤ 26) ∨ i = 77 ∨ i = 78 ∨ (81 ≤ i ∧ i ≤ 85) ∨ (i = 76 ∧ j = 10) ∨ (i = 57 ∧ (j = 7 ∨ j = 10)) ∨ (97 ≤ i ∧ i ≤ 117)
def kcq (q : Nat × Nat) : Bool := !(Nat.ble 2 q.1 && Nat.ble q.1 26) && (!(Nat.beq q.1 77) && (!(Nat.beq q.1 78) && (!(Nat.ble 81 q.1 && Nat.ble q.1 85) && ((!(Nat.beq q.1 76) || !(zis [0, 11] q.2)) && ((!(Nat.beq q.1 57) || !(zis [0, 8, 11] q.2)) && !(Nat.ble 97 q.1 && Nat.ble q.1 117))))))
theorem kcq_ok {w : List (Nat × Nat)} (h : w.all kcq = true) {i j : Nat} (hi : kcR i j) : amod w i j = false := by
  cases hm : amod w i j with
  | false => rfl
  | true =>
    obtain ⟨q, q1, q2, q3⟩ := amod_ex hm
    have h2 := List.all_eq_true.mp h q q1
    unfold kcq at h2
    rw [q2] at h2
    simp only [Bool.and_eq_true] at h2
    obtain ⟨k1, k2, k3, k4, k5, k6, k7⟩ := h2
    rcases hi with ⟨a, b⟩ | rfl | rfl | ⟨a, b⟩ | ⟨rfl, rfl⟩ | ⟨rfl, a⟩ | ⟨a, b⟩
    · rw [Nat.ble_eq_true_of_le a, Nat.ble_eq_true_of_le b] at k1
      cases k1
    · exact absurd k2 (by decide)
    · exact absurd k3 (by decide)
    · rw [Nat.ble_eq_true_of_le a, Nat.ble_eq_true_of_le b] at k4
      cases k4
    · have k5 : (!(zis [0, 11] q.2)) = true := k5
      rcases q3 with e | e <;> rw [e] at k5 <;> cases k5
    · have k6 : (!(zis [0, 8, 11] q.2)) = true := k6
      rcases q3 with e | e <;> rcases a with rfl | rfl <;> rw [e] at k6 <;> cases k6
    · rw [Nat.ble_eq_true_of_le a, Nat.ble_eq_true_of_le b] at k7
      cases k7
/-- where weighed, the tables are those of a document that both hold -/
def CA (mem : yMem) : Prop := w32 (mem 76 10) = 0 ∨ ∃ D, cDh mem D ∧ rDl mem D ∧ dOk D ∧ wgH mem D (w32 (mem 57 10)) (w32 (mem 57 7)) 0
theorem CA_w {b m : yMem} (h : CA b) (f : ∀ i j, kcR i j → yRl i j = true → w32 (m i j) = w32 (b i j)) : CA m := by
  have e10 : w32 (m 76 10) = w32 (b 76 10) := f 76 10 (by unfold kcR; omega) rfl
  have e57 : w32 (m 57 10) = w32 (b 57 10) := f 57 10 (by unfold kcR; omega) rfl
  have e577 : w32 (m 57 7) = w32 (b 57 7) := f 57 7 (by unfold kcR; omega) rfl
  rcases h with h | ⟨D, h1, h2, h3, h4⟩
  · exact Or.inl (by rw [e10]; exact h)
  · have d1 : cDh m D := cDh_w h1 (fun c j ht => f c j (by have := tkS_c ht; unfold kcR; omega) (tkS_r ht))
    refine Or.inr ⟨D, d1, rDl_w h2 (fun i j n hn i1 i2 hj => f i j (by unfold kcR; omega) (yRl_a (by omega) (by omega) (Nat.lt_of_lt_of_le hj (by rw [← hn]; exact zhf_L i (by omega) i1)))), h3, ?_⟩
    rw [e57, e577]
    refine wgH_f (fun e he => (cTb_e h1 he).2) (cTb_n h1).2.2.1.2 (cTb_n h1).2.1.2 h4 (fun i j hij => f i j (by unfold kcR; omega) ?_)
    rcases hij with ⟨rfl | rfl, hj⟩ | ⟨a, b, hj⟩
    · exact tkS_t (n := 72) (by decide) hj
    · exact tkS_t (n := 72) (by decide) hj
    · rcases (by omega : i = 81 ∨ i = 82 ∨ i = 83 ∨ i = 84 ∨ i = 85) with rfl | rfl | rfl | rfl | rfl <;> exact tkS_t (n := 97) (by decide) hj
/-- what stands between calls, with the tables of BEST -/
def LJ (k : Nat) (mem : yMem) : Prop := LI k mem ∧ CA mem
theorem LJ_le {k l : Nat} {mem : yMem} (hk : k ≤ l) (h : LJ k mem) : LJ l mem := ⟨LI_le hk h.1, h.2⟩
theorem LJ_fr {k l : Nat} {mem m : yMem} (hk : k ≤ l) (h : LJ k mem) (hG : aGok m) (hO : Om m) (hf : ∀ i j, tpP i j → m i j = mem i j) (hc : ∀ i j, kcR i j → m i j = mem i j) : LJ l m := ⟨LI_fr hk h.1 hG hO hf, CA_w h.2 (fun i j hij _ => by rw [hc i j hij])⟩
theorem LJ_R {k l : Nat} {mem m : yMem} (hk : k ≤ l) (h : LJ k mem) (hr : RQn mem m) : LJ l m := ⟨LI_R hk h.1 hr, CA_w h.2 (fun i j hij _ => by rw [hr.2.2.1 i j (by unfold kcR at hij; omega)])⟩
theorem LJ_a {k l : Nat} {w : List (Nat × Nat)} {mem m : yMem} (hk : k ≤ l) (h : LJ k mem) (hG : aGok m) (hO : Om m) (hF : aFrm w mem m) (hw : tp3 w = true) (hw2 : w.all kcq = true) : LJ l m := ⟨LI_a hk h.1 hG hO hF hw, CA_w h.2 (fun i j hij _ => by rw [hF i j (kcq_ok hw2 hij)])⟩
/-- a call of both: alike answers, LJ stays -/
def LXJ (E : yE) (n : Nat) (M1 M2 : xM) (t : Nat) : Prop := ∀ (X : Nat → Int) (k : Nat) (mem : yMem), k ≤ 3100 → LJ k mem → yCon E 1000 M1 ((1, ((0 : Nat) : Int)) :: lav X n 1) mem (fun r mem1 => ∃ x, r = some (t, x) ∧ yCon E 1000 M2 ((1, ((95 : Nat) : Int)) :: lav X n 1) mem1 (fun r2 mem2 => ∃ y, r2 = some (t, y) ∧ (t = 0 → w32 x = w32 y) ∧ (t = 4 → w64 x = w64 y) ∧ LJ (k + 6) mem2))
/-- what the class's call must keep (fl: but where it answers less than 0, a text) -/
def KQ (fl : Bool) (mem : yMem) (r : Option yV) (m : yMem) : Prop := ∃ x, r = some (0, x) ∧ aGok m ∧ Om m ∧ (w32 (m 76 10) = 0 ∨ ((fl = true → w32 x < 0) ∧ ∀ i j, kcR i j → yRl i j = true → w32 (m i j) = w32 (mem i j)))
/-- and the reference's -/
def KR (fl : Bool) (mem : yMem) (r : Option yV) (m : yMem) : Prop := ∃ x, r = some (0, x) ∧ (∀ i j, i < 95 → yRl i j = true → w32 (m i j) = w32 (mem i j)) ∧ ((fl = true → w32 x < 0) → ∀ i j n, zhf.getD (i - 97) 0 = n → 97 ≤ i → i ≤ 117 → j < n → w32 (m i j) = w32 (mem i j))
theorem CA_w2 {b m : yMem} (h : CA b) (f : ∀ i j, i < 95 → kcR i j → yRl i j = true → w32 (m i j) = w32 (b i j)) (g : lwW b m) : CA m := by
  have e10 : w32 (m 76 10) = w32 (b 76 10) := f 76 10 (by decide) (by unfold kcR; omega) rfl
  have e57 : w32 (m 57 10) = w32 (b 57 10) := f 57 10 (by decide) (by unfold kcR; omega) rfl
  have e577 : w32 (m 57 7) = w32 (b 57 7) := f 57 7 (by decide) (by unfold kcR; omega) rfl
  rcases h with h | ⟨D, h1, h2, h3, h4⟩
  · exact Or.inl (by rw [e10]; exact h)
  · have d1 : cDh m D := cDh_w h1 (fun c j ht => f c j (by have := tkS_c ht; omega) (by have := tkS_c ht; unfold kcR; omega) (tkS_r ht))
    refine Or.inr ⟨D, d1, rDl_w h2 g, h3, ?_⟩
    rw [e57, e577]
    refine wgH_f (fun e he => (cTb_e h1 he).2) (cTb_n h1).2.2.1.2 (cTb_n h1).2.1.2 h4 (fun i j hij => f i j (by omega) (by unfold kcR; omega) ?_)
    rcases hij with ⟨rfl | rfl, hj⟩ | ⟨a, b, hj⟩
    · exact tkS_t (n := 72) (by decide) hj
    · exact tkS_t (n := 72) (by decide) hj
    · rcases (by omega : i = 81 ∨ i = 82 ∨ i = 83 ∨ i = 84 ∨ i = 85) with rfl | rfl | rfl | rfl | rfl <;> exact tkS_t (n := 97) (by decide) hj
theorem LXJ_of {E : yE} {n : Nat} {M1 M2 : xM} {fl : Bool} (c : LX E n M1 M2 0) (K : ∀ X k mem, k ≤ 3100 → LI k mem → yCon E 1000 M1 ((1, ((0 : Nat) : Int)) :: lav X n 1) mem (KQ fl mem)) (R : ∀ X mem, aGok mem → Om mem → yCon E 1000 M2 ((1, ((95 : Nat) : Int)) :: lav X n 1) mem (KR fl mem)) : LXJ E n M1 M2 0 := by
  intro X k mem hk ⟨hI, hc⟩
  refine yCon_mono (yCon_an2 (K X k mem hk hI) (c X k mem hk hI)) (fun r m h => ?_)
  obtain ⟨⟨x', rfl, hG, hO, hK⟩, r2, m2, ⟨x, rfl, h2⟩, al, er, ev⟩ := h
  have ex : w32 x' = w32 x := ydv_0 er
  refine ⟨x', rfl, yCon_mono (yCon_and (yCon_ev ev h2) (R X m hG hO)) (fun r4 m4 h4 => ?_)⟩
  obtain ⟨⟨y, rfl, e0, e4, hI4⟩, r5, m5, ⟨y', rfl, F5, G5⟩, al5, er5⟩ := h4
  have ey : w32 y = w32 y' := ydv_0 er5
  have exy : w32 x' = w32 y' := by rw [ex, e0 rfl, ey]
  refine ⟨y, rfl, fun _ => ex.trans (e0 rfl), fun z => absurd z (by decide), hI4, ?_⟩
  rcases hK with hK | ⟨hn, hK⟩
  · exact Or.inl (by rw [al5 76 10 rfl, F5 76 10 (by decide) rfl]; exact hK)
  · have g := G5 (fun z => by rw [← exy]; exact hn z)
    refine CA_w2 hc (fun i j hi hp hr => by rw [al5 i j hr, F5 i j hi hr]; exact hK i j hp hr) (fun i j n hn i1 i2 hj => ?_)
    have hr : yRl i j = true := yRl_a (by omega) (by omega) (Nat.lt_of_lt_of_le hj (by rw [← hn]; exact zhf_L i (by omega) i1))
    rw [al5 i j hr, g i j n hn i1 i2 hj]
    exact hK i j (by unfold kcR; omega) hr
def lqj (c : aCon) (mi n : Nat) : Bool := lq c mi 0 n && (acW c).all kcq
theorem as_kq {c : aCon} (hc : aSnd Om c) {E : yE} (hE : yEok E) {mi n : Nat} (hk : lqj c mi n = true) {M' : xM} (hM : xmt[mi]? = some M') (X : Nat → Int) (k : Nat) (mem : yMem) (_ : k ≤ 3100) (hI : LI k mem) : yCon E 1000 M' ((1, ((0 : Nat) : Int)) :: lav X n 1) mem (KQ false mem) := by
  simp only [lqj, Bool.and_eq_true] at hk
  refine yCon_mono (as_q hc hE hk.1 hM hI.1 hI.2.1) (fun r m h => ?_)
  obtain ⟨⟨x, rfl⟩, h2, h3, h4⟩ := h
  exact ⟨x, rfl, h2, h3, Or.inr ⟨fun z => (by cases z), fun i j hp _ => by rw [h4 i j (kcq_ok hk.2 hp)]⟩⟩
def lqjr (c : aCon) (mi n : Nat) : Bool := lq c mi 95 n && (acW c).all (fun q => Nat.ble 95 q.1 && !(Nat.ble 97 q.1 && Nat.ble q.1 117))
theorem as_kr {c : aCon} (hc : aSnd Om c) {E : yE} (hE : yEok E) {mi n : Nat} (hk : lqjr c mi n = true) {M' : xM} (hM : xmt[mi]? = some M') (X : Nat → Int) (mem : yMem) (hG : aGok mem) (hO : Om mem) : yCon E 1000 M' ((1, ((95 : Nat) : Int)) :: lav X n 1) mem (KR false mem) := by
  simp only [lqjr, Bool.and_eq_true] at hk
  refine yCon_mono (as_q hc hE hk.1 hM hG hO) (fun r m h => ?_)
  obtain ⟨⟨x, rfl⟩, h2, h3, h4⟩ := h
  have key : ∀ i j, (i < 95 ∨ (97 ≤ i ∧ i ≤ 117)) → amod (acW c) i j = false := fun i j hij => by
    cases hm : amod (acW c) i j with
    | false => rfl
    | true =>
      obtain ⟨q, q1, q2, q3⟩ := amod_ex hm
      have h2 := List.all_eq_true.mp hk.2 q q1
      rw [q2] at h2
      simp only [Bool.and_eq_true] at h2
      obtain ⟨g1, g2⟩ := h2
      have g1 := Nat.le_of_ble_eq_true g1
      rcases hij with a | ⟨a, b⟩
      · omega
      · rw [Nat.ble_eq_true_of_le a, Nat.ble_eq_true_of_le b] at g2
        cases g2
  exact ⟨x, rfl, fun i j hi _ => by rw [h4 i j (key i j (Or.inl hi))], fun _ i j n _ i1 i2 _ => by rw [h4 i j (key i j (Or.inr ⟨i1, i2⟩))]⟩
/-- of a reference's contract that keeps the document -/
theorem kr_RQ {E : yE} {n : Nat} {M2 : xM} (C : ∀ X mem, aGok mem → Om mem → yCon E 1000 M2 ((1, ((95 : Nat) : Int)) :: lav X n 1) mem (fun r m => (∃ x, r = some (0, x)) ∧ RQ mem m)) (X : Nat → Int) (mem : yMem) (hG : aGok mem) (hO : Om mem) : yCon E 1000 M2 ((1, ((95 : Nat) : Int)) :: lav X n 1) mem (KR false mem) := yCon_mono (C X mem hG hO) (fun r m h => by
  obtain ⟨⟨x, rfl⟩, h2⟩ := h
  exact ⟨x, rfl, fun i j hi _ => by rw [h2.2.2.1 i j (Or.inl hi)], fun _ i j n _ i1 i2 _ => by rw [h2.2.2.1 i j (Or.inr ⟨by omega, i2⟩)]⟩)
end
section
/-! BEST AND CHOSEN, between calls *both sides* -/
section SX2
variable {E : yE} {mem : yMem} {Q : Option yV → yMem → Prop} {D : dDc} {W : dU} {k : Nat}
theorem x_sunj_l (hE : yEok E) {d : Nat} (hW : cW mem 57 W) (h : cDh mem D) (hk : dOk D) (hu : uOk D k W) (hk3 : k ≤ 3100) (hQ : ∀ r m, w32 (m 76 10) = 0 → sSun D W (w32 r) (uSn D W) → cW m 57 (uSn D W) → Q (some (0, r)) m) : ∀ (c i : Nat) (I H : Int) (m : yMem), (uR W).toNat - i = c → i ≤ (uR W).toNat → w32 I = (i : Int) → (∀ a b, a ≠ 59 → m a b = mem a b) → (∀ u : Nat, u < 6 → w32 (m 59 u) = uC W u + nSm (fun t => sCv D W u (uL W t).toNat) i) → w32 H = nSm (fun t => sSv D W (uL W t).toNat) i → zG E (d + 9) xm_38 4 [some (1, 0), some (0, H), some (0, I)] [] m Q := by
  obtain ⟨c1, c2, c3, c4, c5, c6, c7, c8, c9, c10, c11, c12⟩ := hW
  have h8 : ∀ p, uPv D p → (sBr D p).length ≤ 8 := fun p hp => (cTb_p h hp).1.2
  obtain ⟨a1, a2, a3, a4, a5, a6, a7, a8, a9⟩ := hu
  have hu : uOk D k W := ⟨a1, a2, a3, a4, a5, a6, a7, a8, a9⟩
  obtain ⟨⟨n1, n1'⟩, ⟨n2, n2'⟩, -⟩ := cTb_n h
  intro c
  induction c with
  | zero =>
    intro i I H m hc hi hI F G hH
    have e0 : i = (uR W).toNat := by omega
    have e6 : m 57 6 = mem 57 6 := F 57 6 (by decide)
    subst e0
    rw [uSum hu (sSv D W) (fun p _ e => if_pos e)] at hH
    have G2 : ∀ u : Nat, u < 6 → w32 (m 59 u) = uC W u + nSm (sCv D W u) 12 := fun u hu6 => by
      rw [G u hu6, uSum hu (sCv D W u) (fun p _ e => if_neg (fun c => by omega))]
    refine zgo_ok (n := 90) hE xmo_38 (cs := zc_38) ?_
    simp only [ynok_30, ynok_31, w32c_0, w32c_1, w32c_2, w32c_3, w32c_4, w32c_5, w32c_6, w32c_7, w32c_8, w32c_9, w32c_10, w32c_11, w32c_12, w32c_13, w32c_14, w32c_m1, w32c_m2, w32c_118, Int.reduceAdd, Int.reduceSub, Int.reduceMul, yput_s, yput_n, znl_n, znl_0, znl_1, znl_4, ysum_n, ysum_0, ysum_1, ysum_4, true_and, and_true, Nat.reduceAdd, Nat.reduceLeDiff, true_implies, eq_self, true_or, or_true, or_false, false_or, not_true_eq_false, not_false_eq_true, false_implies, implies_true, yset_s, yset_o, yset_d, ne_eq, Nat.reduceEqDiff, Int.reduceToNat, Int.reduceEq, Int.reduceLE, Int.reduceLT, Classical.not_not, Nat.reduceLT, ↓zvk_s, ↓zvk_n, ↓s_38_0, ↓s_38_1n, ↓s_38_1i, ↓s_38_1p, ↓s_38_2, ↓s_38_3n, ↓s_38_3i, ↓s_38_3p, ↓g_38_4, ↓k_38_4, ↓s_38_5, ↓s_38_6, ↓s_38_9_57, ↓s_38_9_64, ↓s_38_12, ↓s_38_15, ↓s_38_16, ↓s_38_17, ↓s_38_18, ↓s_38_21_57, ↓s_38_21_64, ↓s_38_24, ↓s_38_25, ↓s_38_26, ↓s_38_29, ↓s_38_30n, ↓s_38_30i, ↓s_38_30p, ↓s_38_31n, ↓s_38_31i, ↓s_38_31p, ↓s_38_34, ↓s_38_37, ↓s_38_38, ↓s_38_41, ↓s_38_44, ↓s_38_45, ↓s_38_48, ↓s_38_49, ↓s_38_52a, ↓s_38_52b, ↓s_38_53_57, ↓s_38_53_64, ↓s_38_56, ↓s_38_57, ↓s_38_58_57, ↓s_38_58_64, ↓s_38_61, ↓s_38_62, ↓s_38_65, ↓s_38_66, ↓s_38_69, ↓s_38_70, zio_0, zio_64, zar_69, zia_69, zln_69, zit_69, zio_76, zio_57, zar_62, zia_62, zln_62, zit_62, e6]
    refine ⟨fun _ => gx_dall hE (by omega) (fun m2 F2 M2 => ?_), fun hh => absurd (show w32 (mem 57 6) ≤ w32 I by omega) hh⟩
    refine zgk_n hE xmo_38 90 zc_38 ?_
    simp only [ynok_30, ynok_31, w32c_0, w32c_1, w32c_2, w32c_3, w32c_4, w32c_5, w32c_6, w32c_7, w32c_8, w32c_9, w32c_10, w32c_11, w32c_12, w32c_13, w32c_14, w32c_m1, w32c_m2, w32c_118, Int.reduceAdd, Int.reduceSub, Int.reduceMul, yput_s, yput_n, znl_n, znl_0, znl_1, znl_4, ysum_n, ysum_0, ysum_1, ysum_4, true_and, and_true, Nat.reduceAdd, Nat.reduceLeDiff, true_implies, eq_self, true_or, or_true, or_false, false_or, not_true_eq_false, not_false_eq_true, false_implies, implies_true, yset_s, yset_o, yset_d, ne_eq, Nat.reduceEqDiff, Int.reduceToNat, Int.reduceEq, Int.reduceLE, Int.reduceLT, Classical.not_not, Nat.reduceLT, ↓zvk_s, ↓zvk_n, ↓s_38_0, ↓s_38_1n, ↓s_38_1i, ↓s_38_1p, ↓s_38_2, ↓s_38_3n, ↓s_38_3i, ↓s_38_3p, ↓g_38_4, ↓k_38_4, ↓s_38_5, ↓s_38_6, ↓s_38_9_57, ↓s_38_9_64, ↓s_38_12, ↓s_38_15, ↓s_38_16, ↓s_38_17, ↓s_38_18, ↓s_38_21_57, ↓s_38_21_64, ↓s_38_24, ↓s_38_25, ↓s_38_26, ↓s_38_29, ↓s_38_30n, ↓s_38_30i, ↓s_38_30p, ↓s_38_31n, ↓s_38_31i, ↓s_38_31p, ↓s_38_34, ↓s_38_37, ↓s_38_38, ↓s_38_41, ↓s_38_44, ↓s_38_45, ↓s_38_48, ↓s_38_49, ↓s_38_52a, ↓s_38_52b, ↓s_38_53_57, ↓s_38_53_64, ↓s_38_56, ↓s_38_57, ↓s_38_58_57, ↓s_38_58_64, ↓s_38_61, ↓s_38_62, ↓s_38_65, ↓s_38_66, ↓s_38_69, ↓s_38_70, zio_0, zio_64, zar_69, zia_69, zln_69, zit_69, zio_76, zio_57, zar_62, zia_62, zln_62, zit_62]
    have f2 : ∀ a b, a ≠ 59 → a ≠ 61 → ¬ (a = 57 ∧ b = 6) → m2 a b = mem a b := fun a b i1 i2 i3 => by rw [F2 a b i2, ysn i3, F a b i1]
    have hD2 : cDh m2 D := cDh_w h (fun c j ht => by
      have := tkS_c ht
      rw [f2 c j (by omega) (by omega) (by omega)])
    refine x_boys hE (by omega) (X := uX W) (wk := uK W) (d0 := uD W) hD2 hk (by rw [f2 57 10 (by decide) (by decide) (by decide)]; exact c11) a9.1 a9.2.1 (by rw [f2 57 7 (by decide) (by decide) (by decide)]; exact c8) (by rw [f2 57 12 (by decide) (by decide) (by decide)]; exact c12) (fun m3 F3 b1 b2 => ?_)
    refine zgk_n hE xmo_38 90 zc_38 ?_
    simp only [ynok_30, ynok_31, w32c_0, w32c_1, w32c_2, w32c_3, w32c_4, w32c_5, w32c_6, w32c_7, w32c_8, w32c_9, w32c_10, w32c_11, w32c_12, w32c_13, w32c_14, w32c_m1, w32c_m2, w32c_118, Int.reduceAdd, Int.reduceSub, Int.reduceMul, yput_s, yput_n, znl_n, znl_0, znl_1, znl_4, ysum_n, ysum_0, ysum_1, ysum_4, true_and, and_true, Nat.reduceAdd, Nat.reduceLeDiff, true_implies, eq_self, true_or, or_true, or_false, false_or, not_true_eq_false, not_false_eq_true, false_implies, implies_true, yset_s, yset_o, yset_d, ne_eq, Nat.reduceEqDiff, Int.reduceToNat, Int.reduceEq, Int.reduceLE, Int.reduceLT, Classical.not_not, Nat.reduceLT, ↓zvk_s, ↓zvk_n, ↓s_38_0, ↓s_38_1n, ↓s_38_1i, ↓s_38_1p, ↓s_38_2, ↓s_38_3n, ↓s_38_3i, ↓s_38_3p, ↓g_38_4, ↓k_38_4, ↓s_38_5, ↓s_38_6, ↓s_38_9_57, ↓s_38_9_64, ↓s_38_12, ↓s_38_15, ↓s_38_16, ↓s_38_17, ↓s_38_18, ↓s_38_21_57, ↓s_38_21_64, ↓s_38_24, ↓s_38_25, ↓s_38_26, ↓s_38_29, ↓s_38_30n, ↓s_38_30i, ↓s_38_30p, ↓s_38_31n, ↓s_38_31i, ↓s_38_31p, ↓s_38_34, ↓s_38_37, ↓s_38_38, ↓s_38_41, ↓s_38_44, ↓s_38_45, ↓s_38_48, ↓s_38_49, ↓s_38_52a, ↓s_38_52b, ↓s_38_53_57, ↓s_38_53_64, ↓s_38_56, ↓s_38_57, ↓s_38_58_57, ↓s_38_58_64, ↓s_38_61, ↓s_38_62, ↓s_38_65, ↓s_38_66, ↓s_38_69, ↓s_38_70, zio_0, zio_64, zar_69, zia_69, zln_69, zit_69, zio_76, zio_57, zar_62, zia_62, zln_62, zit_62]
    have f3 : ∀ a b, (a < 73 ∨ 75 < a) → a ≠ 59 → a ≠ 61 → ¬ (a = 57 ∧ (b = 6 ∨ b = 10 ∨ b = 12)) → m3 a b = mem a b := fun a b i0 i1 i2 i3 => by rw [F3 a b i0 (by omega), f2 a b i1 i2 (by omega)]
    refine hQ _ _ (by rw [yset_s]; exact w32c_0) ⟨hH, rfl⟩ ⟨fun j hj => ?_, fun j hj => ?_, fun j hj => ?_, fun j hj => ?_, fun j hj => ?_, fun j hj => ?_, ?_, ?_, ?_, ?_, ?_, ?_⟩
    · rw [ysn (by omega), ysn (by omega), f3 58 j (by decide) (by decide) (by decide) (by omega)]; exact c1 j hj
    · rw [ysn (by omega), ysn (by omega), F3 59 j (by decide) (by omega), F2 59 j (by decide), ysn (by omega)]; exact G2 j hj
    · rw [ysn (by omega), ysn (by omega), f3 60 j (by decide) (by decide) (by decide) (by omega)]; exact c3 j hj
    · rw [ysn (by omega), ysn (by omega), F3 61 j (by decide) (by omega), M2 j hj]; exact w32c_m1
    · rw [ysn (by omega), ysn (by omega), f3 62 j (by decide) (by decide) (by decide) (by omega)]; exact c5 j hj
    · rw [ysn (by omega), ysn (by omega), f3 63 j (by decide) (by decide) (by decide) (by omega)]; exact c6 j hj
    · rw [ysn (by omega), ysn (by omega), F3 57 6 (by decide) (by omega), F2 57 6 (by decide), yset_s]; exact w32c_0
    · rw [ysn (by omega), yset_s, w32_add, f3 57 7 (by decide) (by decide) (by decide) (by omega), c8, w32c_1]; rfl
    · rw [ysn (by omega), ysn (by omega), f3 57 8 (by decide) (by decide) (by decide) (by omega)]; exact c9
    · rw [ysn (by omega), ysn (by omega), f3 57 9 (by decide) (by decide) (by decide) (by omega)]; exact c10
    · rw [ysn (by omega), ysn (by omega)]; exact b1
    · rw [ysn (by omega), ysn (by omega)]; exact b2
  | succ c ih =>
    intro i I H m hc hi hI F G hH
    have e6 : m 57 6 = mem 57 6 := F 57 6 (by decide)
    have e1 := w32_s1 hI (by omega)
    have It := w32_t hI
    have iR : i < (uR W).toNat := by omega
    obtain ⟨l1, l2, l3⟩ := a3 i (by omega)
    have hL : w32 (m 62 i) = (((uL W i).toNat : Nat) : Int) := by rw [F 62 i (by decide), c5 i (by omega)]; omega
    have hs2 := (a2 (uL W i).toNat (by omega)).resolve_left l3
    have hS : w32 (m 61 (uL W i).toNat) = (((uS W (uL W i).toNat).toNat : Nat) : Int) := by rw [F 61 _ (by decide), c4 _ (by omega)]; omega
    have hD1 : cDh m D := cDh_w h (fun c j ht => by rw [F c j (by have := tkS_c ht; omega)])
    have bS : 0 ≤ nSm (fun t => sSv D W (uL W t).toNat) i ∧ nSm (fun t => sSv D W (uL W t).toNat) i ≤ 8 * (i : Int) := nSm_bdn i (fun t ht => sSv_bd h8 hu _ (by have := a3 t (by omega); omega))
    have eS : sSv D W (uL W i).toNat = ((sNo D (uX W) (uL W i).toNat (uS W (uL W i).toNat).toNat : Nat) : Int) := if_neg l3
    have bS1 := sSv_bd h8 hu (uL W i).toNat (by omega)
    refine zgo_ok (n := 90) hE xmo_38 (cs := zc_38) ?_
    simp only [ynok_30, ynok_31, w32c_0, w32c_1, w32c_2, w32c_3, w32c_4, w32c_5, w32c_6, w32c_7, w32c_8, w32c_9, w32c_10, w32c_11, w32c_12, w32c_13, w32c_14, w32c_m1, w32c_m2, w32c_118, Int.reduceAdd, Int.reduceSub, Int.reduceMul, yput_s, yput_n, znl_n, znl_0, znl_1, znl_4, ysum_n, ysum_0, ysum_1, ysum_4, true_and, and_true, Nat.reduceAdd, Nat.reduceLeDiff, true_implies, eq_self, true_or, or_true, or_false, false_or, not_true_eq_false, not_false_eq_true, false_implies, implies_true, yset_s, yset_o, yset_d, ne_eq, Nat.reduceEqDiff, Int.reduceToNat, Int.reduceEq, Int.reduceLE, Int.reduceLT, Classical.not_not, Nat.reduceLT, ↓zvk_s, ↓zvk_n, ↓s_38_0, ↓s_38_1n, ↓s_38_1i, ↓s_38_1p, ↓s_38_2, ↓s_38_3n, ↓s_38_3i, ↓s_38_3p, ↓g_38_4, ↓k_38_4, ↓s_38_5, ↓s_38_6, ↓s_38_9_57, ↓s_38_9_64, ↓s_38_12, ↓s_38_15, ↓s_38_16, ↓s_38_17, ↓s_38_18, ↓s_38_21_57, ↓s_38_21_64, ↓s_38_24, ↓s_38_25, ↓s_38_26, ↓s_38_29, ↓s_38_30n, ↓s_38_30i, ↓s_38_30p, ↓s_38_31n, ↓s_38_31i, ↓s_38_31p, ↓s_38_34, ↓s_38_37, ↓s_38_38, ↓s_38_41, ↓s_38_44, ↓s_38_45, ↓s_38_48, ↓s_38_49, ↓s_38_52a, ↓s_38_52b, ↓s_38_53_57, ↓s_38_53_64, ↓s_38_56, ↓s_38_57, ↓s_38_58_57, ↓s_38_58_64, ↓s_38_61, ↓s_38_62, ↓s_38_65, ↓s_38_66, ↓s_38_69, ↓s_38_70, zio_0, zio_64, zar_69, zia_69, zln_69, zit_69, zio_76, zio_57, zar_62, zia_62, zln_62, zit_62, e6, It]
    refine ⟨fun hh => absurd hh (by omega), fun _ => ⟨⟨by omega, by omega⟩, x_sing hE (by omega) hD1 hk (by rw [F 57 10 (by decide)]; exact c11) a9.1 a9.2.1 hL hs2.2.2 (by omega) hS (by omega) (fun r m2 F2 G2 hr => ?_)⟩⟩
    refine zgk_s hE xmo_38 90 zc_38 ?_
    simp only [ynok_30, ynok_31, w32c_0, w32c_1, w32c_2, w32c_3, w32c_4, w32c_5, w32c_6, w32c_7, w32c_8, w32c_9, w32c_10, w32c_11, w32c_12, w32c_13, w32c_14, w32c_m1, w32c_m2, w32c_118, Int.reduceAdd, Int.reduceSub, Int.reduceMul, yput_s, yput_n, znl_n, znl_0, znl_1, znl_4, ysum_n, ysum_0, ysum_1, ysum_4, true_and, and_true, Nat.reduceAdd, Nat.reduceLeDiff, true_implies, eq_self, true_or, or_true, or_false, false_or, not_true_eq_false, not_false_eq_true, false_implies, implies_true, yset_s, yset_o, yset_d, ne_eq, Nat.reduceEqDiff, Int.reduceToNat, Int.reduceEq, Int.reduceLE, Int.reduceLT, Classical.not_not, Nat.reduceLT, ↓zvk_s, ↓zvk_n, ↓s_38_0, ↓s_38_1n, ↓s_38_1i, ↓s_38_1p, ↓s_38_2, ↓s_38_3n, ↓s_38_3i, ↓s_38_3p, ↓g_38_4, ↓k_38_4, ↓s_38_5, ↓s_38_6, ↓s_38_9_57, ↓s_38_9_64, ↓s_38_12, ↓s_38_15, ↓s_38_16, ↓s_38_17, ↓s_38_18, ↓s_38_21_57, ↓s_38_21_64, ↓s_38_24, ↓s_38_25, ↓s_38_26, ↓s_38_29, ↓s_38_30n, ↓s_38_30i, ↓s_38_30p, ↓s_38_31n, ↓s_38_31i, ↓s_38_31p, ↓s_38_34, ↓s_38_37, ↓s_38_38, ↓s_38_41, ↓s_38_44, ↓s_38_45, ↓s_38_48, ↓s_38_49, ↓s_38_52a, ↓s_38_52b, ↓s_38_53_57, ↓s_38_53_64, ↓s_38_56, ↓s_38_57, ↓s_38_58_57, ↓s_38_58_64, ↓s_38_61, ↓s_38_62, ↓s_38_65, ↓s_38_66, ↓s_38_69, ↓s_38_70, zio_0, zio_64, zar_69, zia_69, zln_69, zit_69, zio_76, zio_57, zar_62, zia_62, zln_62, zit_62]
    refine ih (i + 1) (I + 1) (H + r) m2 (by omega) (by omega) e1 (fun a b i1 => by rw [F2 a b i1, F a b i1]) (fun u hu6 => ?_) ?_
    · have bC : 0 ≤ nSm (fun t => sCv D W u (uL W t).toNat) i ∧ nSm (fun t => sCv D W u (uL W t).toNat) i ≤ 8 * (i : Int) := nSm_bdn i (fun t ht => sCv_bd h8 hu u _ (by have := a3 t (by omega); omega))
      have bC1 := sCv_bd h8 hu u (uL W i).toNat (by omega)
      have b7 := a7 u hu6
      have s1 : nSm (fun t => sCv D W u (uL W t).toNat) (i + 1) = nSm (fun t => sCv D W u (uL W t).toNat) i + sCv D W u (uL W i).toNat := rfl
      rw [G2 u hu6, G u hu6, s1]
      by_cases e : (uS W (uL W i).toNat).toNat = u ∧ ¬ vHo D u = -1
      · have e2 : sCv D W u (uL W i).toNat = ((sRes D (uL W i).toNat : Nat) : Int) := if_pos ⟨by omega, e.2⟩
        rw [if_pos e, e2, w32_of (by omega) (by omega)]
        omega
      · have e2 : sCv D W u (uL W i).toNat = 0 := if_neg (fun z => e ⟨by omega, z.2⟩)
        rw [if_neg e, e2]
        omega
    · have s1 : nSm (fun t => sSv D W (uL W t).toNat) (i + 1) = nSm (fun t => sSv D W (uL W t).toNat) i + sSv D W (uL W i).toNat := rfl
      rw [w32_ad (by omega) (by omega), hH, hr, s1, eS]
theorem x_sundayj (hE : yEok E) {D0 : Nat} (hD : 10 ≤ D0) (hW : cW mem 57 W) (h : cDh mem D) (hk : dOk D) (hu : uOk D k W) (hk3 : k ≤ 3100) (hQ : ∀ r m, w32 (m 76 10) = 0 → sSun D W (w32 r) (uSn D W) → cW m 57 (uSn D W) → Q (some (0, r)) m) : yCon E D0 xm_38 [(1, 0)] mem Q := by
  obtain ⟨d, rfl⟩ := Nat.exists_eq_add_of_le' hD
  refine e_38 ?_
  refine zvc_ok hE 90 zc_38 _ _ _ _ _ _ _ xmo_38 ?_
  simp only [ynok_30, ynok_31, w32c_0, w32c_1, w32c_2, w32c_3, w32c_4, w32c_5, w32c_6, w32c_7, w32c_8, w32c_9, w32c_10, w32c_11, w32c_12, w32c_13, w32c_14, w32c_m1, w32c_m2, w32c_118, Int.reduceAdd, Int.reduceSub, Int.reduceMul, yput_s, yput_n, znl_n, znl_0, znl_1, znl_4, ysum_n, ysum_0, ysum_1, ysum_4, true_and, and_true, Nat.reduceAdd, Nat.reduceLeDiff, true_implies, eq_self, true_or, or_true, or_false, false_or, not_true_eq_false, not_false_eq_true, false_implies, implies_true, yset_s, yset_o, yset_d, ne_eq, Nat.reduceEqDiff, Int.reduceToNat, Int.reduceEq, Int.reduceLE, Int.reduceLT, Classical.not_not, Nat.reduceLT, ↓zvk_s, ↓zvk_n, ↓s_38_0, ↓s_38_1n, ↓s_38_1i, ↓s_38_1p, ↓s_38_2, ↓s_38_3n, ↓s_38_3i, ↓s_38_3p, ↓g_38_4, ↓k_38_4, ↓s_38_5, ↓s_38_6, ↓s_38_9_57, ↓s_38_9_64, ↓s_38_12, ↓s_38_15, ↓s_38_16, ↓s_38_17, ↓s_38_18, ↓s_38_21_57, ↓s_38_21_64, ↓s_38_24, ↓s_38_25, ↓s_38_26, ↓s_38_29, ↓s_38_30n, ↓s_38_30i, ↓s_38_30p, ↓s_38_31n, ↓s_38_31i, ↓s_38_31p, ↓s_38_34, ↓s_38_37, ↓s_38_38, ↓s_38_41, ↓s_38_44, ↓s_38_45, ↓s_38_48, ↓s_38_49, ↓s_38_52a, ↓s_38_52b, ↓s_38_53_57, ↓s_38_53_64, ↓s_38_56, ↓s_38_57, ↓s_38_58_57, ↓s_38_58_64, ↓s_38_61, ↓s_38_62, ↓s_38_65, ↓s_38_66, ↓s_38_69, ↓s_38_70, zio_0, zio_64, zar_69, zia_69, zln_69, zit_69, zio_76, zio_57, zar_62, zia_62, zln_62, zit_62]
  exact x_sunj_l hE hW h hk hu hk3 hQ _ 0 0 0 mem rfl (Nat.zero_le _) w32c_0 (fun _ _ _ => rfl) (fun u hu6 => by rw [hW.2.1 u hu6]; exact (Int.add_zero _).symm) w32c_0
end SX2
section LJ2
variable {E : yE} {mem m m2 : yMem} {D D0 : dDc} {W : dU} {k : Nat}
theorem CA_D (hc : CA mem) (d1 : cDh mem D0) (d2 : rDl mem D0) (d3 : dOk D0) (w1 : cW mem 57 W) : ∃ D, cDh mem D ∧ rDl mem D ∧ dOk D ∧ wgI mem D W := by
  rcases hc with hz | ⟨D, e1, e2, e3, e4⟩
  · exact ⟨D0, d1, d2, d3, fun n => absurd hz n⟩
  · refine ⟨D, e1, e2, e3, fun _ => ?_⟩
    rw [← w1.2.2.2.2.2.2.2.2.2.2.1, ← w1.2.2.2.2.2.2.2.1]
    exact e4
theorem cbQ_CA (q : cbQ mem m D W) (e1 : cDh mem D) (e2 : rDl mem D) (e3 : dOk D) (w1 : cW mem 57 W) : CA m := by
  by_cases z : w32 (m 76 10) = 0
  · exact Or.inl z
  · refine Or.inr ⟨D, wgF_D q.1 e1, rDl_w e2 (fun i j n _ i1 i2 _ => by rw [q.1 i j (by omega)]), e3, ?_⟩
    rw [q.1 57 10 (Or.inl (by decide)), q.1 57 7 (Or.inl (by decide)), w1.2.2.2.2.2.2.2.2.2.2.1, w1.2.2.2.2.2.2.2.1]
    exact q.2 z
theorem CA_al (h : CA m2) (al : yAl m m2) : CA m := CA_w h (fun i j _ hr => al i j hr)
theorem lj_best (hE : yEok E) (hm : yman Om) : LXJ E 2 xm_3 xm_147 0 := by
  intro X k mem hk ⟨hI, hc⟩
  have hI0 := hI
  obtain ⟨hG, hO, -, -, -, -, D0, W, V, ⟨d1, d2, d3⟩, ⟨w1, w2, w3⟩, -⟩ := hI0
  have a9 := w3.2.2.2.2.2.2.2.2
  have XX : 0 ≤ uX W ∧ uX W < 64 := ⟨a9.1, a9.2.1⟩
  obtain ⟨D, e1, e2, e3, e4⟩ := CA_D hc d1 d2 d3 w1
  have C : yCon E 1000 xm_3 [(1, 0), (0, X 1), (0, X 2)] mem (fun r m => ∃ y, r = some (0, y) ∧ cbQ mem m D W ∧ sBst D (uX W) (uK W) (w32 (X 1)) (w32 (X 2)) (w32 y)) := x_best hE (by decide) w1 e1 e3 XX e4 (fun r m q s => ⟨r, rfl, q, s⟩)
  refine yCon_mono (yCon_and (as_q (n := 2) (X := X) (as_26 yoc_Om hm) hE (mi := 3) (by decide +kernel) rfl hG hO) C) (fun r1 m1 h1 => ?_)
  obtain ⟨⟨⟨y1, rfl⟩, G1, O1, F1⟩, r1', n1, ⟨y1', rfl, q1, s1⟩, al1, er1⟩ := h1
  have ey1 : w32 y1 = w32 y1' := ydv_0 er1
  refine ⟨y1, rfl, ?_⟩
  have t3 : tp3 (acW ac_26) = true := by decide +kernel
  have J1 : LJ k m1 := ⟨LI_a (Nat.le_refl k) hI G1 O1 F1 t3, CA_al (cbQ_CA q1 e1 e2 e3 w1) al1⟩
  have fr : ∀ i j, tpP i j → m1 i j = mem i j := fun i j hp => F1 i j (tp3_ok t3 hp)
  have dr : rDl m1 D := rDl_w e2 (fun i j n _ i1 i2 _ => by rw [fr i j (by unfold tpP; omega)])
  have wr : rW m1 0 W := rW_f (by decide) w2 (fun i j i1 i2 => fr i j (by unfold tpP; omega))
  have C1 : yCon E 1000 xm_147 [(1, 95), (0, X 1), (0, X 2)] m1 (fun r m => (∃ y, r = some (0, y)) ∧ RQn m1 m) := c_best hE hm (by decide) G1 O1 (fun r m h => ⟨⟨r, rfl⟩, h⟩)
  have C2 : yCon E 1000 xm_147 [(1, 95), (0, X 1), (0, X 2)] m1 (fun r m => ∃ y, r = some (0, y) ∧ sBst D (uX W) (uK W) (w32 (X 1)) (w32 (X 2)) (w32 y)) := r_best hE hm (by decide) G1 O1 (rW0 wr).2.2.2.2.2.2.2.2.2.2.1 XX.1 XX.2 (rW0 wr).2.2.2.2.2.2.2.1 dr e3 (fun r m s => ⟨r, rfl, s⟩)
  refine yCon_mono (yCon_and C1 C2) (fun r2 m2 h2 => ?_)
  obtain ⟨⟨⟨y2, rfl⟩, R2⟩, r2', n2, ⟨y2', rfl, s2⟩, al2, er2⟩ := h2
  have ey2 : w32 y2 = w32 y2' := ydv_0 er2
  exact ⟨y2, rfl, fun _ => by rw [ey1, ey2]; exact sBst_u s1 s2, fun z => absurd z (by decide), LJ_R (Nat.le_add_right k 6) J1 R2⟩
theorem lj_chosen (hE : yEok E) (hm : yman Om) : LXJ E 3 xm_5 xm_152 0 := by
  intro X k mem hk ⟨hI, hc⟩
  have hI0 := hI
  obtain ⟨hG, hO, -, -, -, -, D0, W, V, ⟨d1, d2, d3⟩, ⟨w1, w2, w3⟩, -⟩ := hI0
  have a9 := w3.2.2.2.2.2.2.2.2
  have XX : 0 ≤ uX W ∧ uX W < 64 := ⟨a9.1, a9.2.1⟩
  obtain ⟨D, e1, e2, e3, e4⟩ := CA_D hc d1 d2 d3 w1
  have C : yCon E 1000 xm_5 [(1, 0), (0, X 1), (0, X 2), (0, X 3)] mem (fun r m => ∃ y, r = some (0, y) ∧ cbQ mem m D W ∧ sChs D (uX W) (uK W) (w32 (X 1)) (w32 (X 2)) (w32 (X 3)) (w32 y)) := x_chosen hE (by decide) w1 e1 e3 XX e4 (fun r m q s => ⟨r, rfl, q, s⟩)
  refine yCon_mono (yCon_and (as_q (n := 3) (X := X) (as_30 yoc_Om hm) hE (mi := 5) (by decide +kernel) rfl hG hO) C) (fun r1 m1 h1 => ?_)
  obtain ⟨⟨⟨y1, rfl⟩, G1, O1, F1⟩, r1', n1, ⟨y1', rfl, q1, s1⟩, al1, er1⟩ := h1
  have ey1 : w32 y1 = w32 y1' := ydv_0 er1
  refine ⟨y1, rfl, ?_⟩
  have t3 : tp3 (acW ac_30) = true := by decide +kernel
  have J1 : LJ k m1 := ⟨LI_a (Nat.le_refl k) hI G1 O1 F1 t3, CA_al (cbQ_CA q1 e1 e2 e3 w1) al1⟩
  have fr : ∀ i j, tpP i j → m1 i j = mem i j := fun i j hp => F1 i j (tp3_ok t3 hp)
  have dr : rDl m1 D := rDl_w e2 (fun i j n _ i1 i2 _ => by rw [fr i j (by unfold tpP; omega)])
  have wr : rW m1 0 W := rW_f (by decide) w2 (fun i j i1 i2 => fr i j (by unfold tpP; omega))
  have C1 : yCon E 1000 xm_152 [(1, 95), (0, X 1), (0, X 2), (0, X 3)] m1 (fun r m => (∃ y, r = some (0, y)) ∧ RQn m1 m) := c_chosen hE hm (by decide) G1 O1 (fun r m h => ⟨⟨r, rfl⟩, h⟩)
  have C2 : yCon E 1000 xm_152 [(1, 95), (0, X 1), (0, X 2), (0, X 3)] m1 (fun r m => ∃ y, r = some (0, y) ∧ sChs D (uX W) (uK W) (w32 (X 1)) (w32 (X 2)) (w32 (X 3)) (w32 y)) := r_chosen hE hm (by decide) G1 O1 (rW0 wr).2.2.2.2.2.2.2.2.2.2.1 XX.1 XX.2 (rW0 wr).2.2.2.2.2.2.2.1 dr e3 (fun r m s => ⟨r, rfl, s⟩)
  refine yCon_mono (yCon_and C1 C2) (fun r2 m2 h2 => ?_)
  obtain ⟨⟨⟨y2, rfl⟩, R2⟩, r2', n2, ⟨y2', rfl, s2⟩, al2, er2⟩ := h2
  have ey2 : w32 y2 = w32 y2' := ydv_0 er2
  exact ⟨y2, rfl, fun _ => by rw [ey1, ey2]; exact sChs_u s1 s2, fun z => absurd z (by decide), LJ_R (Nat.le_add_right k 6) J1 R2⟩
/-- sunday weighs anew -/
theorem kq_sunday (hE : yEok E) (hm : yman Om) (X : Nat → Int) (k : Nat) (mem : yMem) (hk : k ≤ 3100) (hI : LI k mem) : yCon E 1000 xm_38 ((1, ((0 : Nat) : Int)) :: lav X 0 1) mem (KQ false mem) := by
  obtain ⟨hG, hO, -, -, -, -, D0, W, V, ⟨d1, d2, d3⟩, ⟨w1, w2, w3⟩, -⟩ := hI
  have C : yCon E 1000 xm_38 [(1, 0)] mem (fun r m => w32 (m 76 10) = 0) := x_sundayj hE (by decide) w1 d1 d3 w3 hk (fun r m z s w => z)
  refine yCon_mono (yCon_and (as_q (n := 0) (X := X) (as_76 yoc_Om hm) hE (mi := 38) (by decide +kernel) rfl hG hO) C) (fun r m h => ?_)
  obtain ⟨⟨⟨y, rfl⟩, G1, O1, F1⟩, r1', n1, z, al1, -⟩ := h
  exact ⟨y, rfl, G1, O1, Or.inl ((al1 76 10 rfl).trans z)⟩
theorem k_back (hE : yEok E) {D0 : Nat} (hD : 2 ≤ D0) {Q : Option yV → yMem → Prop} (hQ : ∀ r m, (w32 (m 76 10) = 0 ∨ m = mem) → Q (some (0, r)) m) : yCon E D0 xm_1 [(1, 0)] mem Q := by
  obtain ⟨d, rfl⟩ := Nat.exists_eq_add_of_le' hD
  refine e_1 ?_
  refine zvc_ok hE 90 [] _ _ _ _ _ _ _ xmo_1 ?_
  simp only [ynok_30, ynok_31, w32c_0, w32c_1, w32c_2, w32c_3, w32c_4, w32c_5, w32c_6, w32c_7, w32c_8, w32c_9, w32c_10, w32c_11, w32c_12, w32c_13, w32c_14, w32c_m1, w32c_m2, w32c_118, Int.reduceAdd, Int.reduceSub, Int.reduceMul, yput_s, yput_n, znl_n, znl_0, znl_1, znl_4, ysum_n, ysum_0, ysum_1, ysum_4, true_and, and_true, Nat.reduceAdd, Nat.reduceLeDiff, true_implies, eq_self, true_or, or_true, or_false, false_or, not_true_eq_false, not_false_eq_true, false_implies, implies_true, yset_s, yset_o, yset_d, ne_eq, Nat.reduceEqDiff, Int.reduceToNat, Int.reduceEq, Int.reduceLE, Int.reduceLT, Classical.not_not, Nat.reduceLT, ↓zvk_s, ↓zvk_n, ↓s_1_0, ↓s_1_1, ↓s_1_4, ↓s_1_7, ↓s_1_8, ↓s_1_9, ↓s_1_10, ↓s_1_13, ↓s_1_14, ↓s_1_17, ↓s_1_20, ↓s_1_21, ↓s_1_24, ↓s_1_25, ↓s_1_28, ↓s_1_29, ↓s_1_32_57, ↓s_1_32_64, ↓s_1_35, zio_0, zio_64, zio_57, zio_76]
  refine ⟨fun z => ?_, fun z => hQ _ _ (Or.inr rfl)⟩
  refine x_take57 hE (by omega) (fun m F T => ?_)
  refine zgk_n hE xmo_1 90 [] ?_
  simp only [ynok_30, ynok_31, w32c_0, w32c_1, w32c_2, w32c_3, w32c_4, w32c_5, w32c_6, w32c_7, w32c_8, w32c_9, w32c_10, w32c_11, w32c_12, w32c_13, w32c_14, w32c_m1, w32c_m2, w32c_118, Int.reduceAdd, Int.reduceSub, Int.reduceMul, yput_s, yput_n, znl_n, znl_0, znl_1, znl_4, ysum_n, ysum_0, ysum_1, ysum_4, true_and, and_true, Nat.reduceAdd, Nat.reduceLeDiff, true_implies, eq_self, true_or, or_true, or_false, false_or, not_true_eq_false, not_false_eq_true, false_implies, implies_true, yset_s, yset_o, yset_d, ne_eq, Nat.reduceEqDiff, Int.reduceToNat, Int.reduceEq, Int.reduceLE, Int.reduceLT, Classical.not_not, Nat.reduceLT, ↓zvk_s, ↓zvk_n, ↓s_1_0, ↓s_1_1, ↓s_1_4, ↓s_1_7, ↓s_1_8, ↓s_1_9, ↓s_1_10, ↓s_1_13, ↓s_1_14, ↓s_1_17, ↓s_1_20, ↓s_1_21, ↓s_1_24, ↓s_1_25, ↓s_1_28, ↓s_1_29, ↓s_1_32_57, ↓s_1_32_64, ↓s_1_35, zio_0, zio_64, zio_57, zio_76]
  exact hQ _ _ (Or.inl (by rw [yset_s]; exact w32c_0))
theorem kq_back (hE : yEok E) (hm : yman Om) (X : Nat → Int) (k : Nat) (mem : yMem) (_ : k ≤ 3100) (hI : LI k mem) : yCon E 1000 xm_1 ((1, ((0 : Nat) : Int)) :: lav X 0 1) mem (KQ false mem) := by
  have C : yCon E 1000 xm_1 [(1, 0)] mem (fun r m => w32 (m 76 10) = 0 ∨ m = mem) := k_back hE (by decide) (fun r m h => h)
  refine yCon_mono (yCon_and (as_q (n := 0) (X := X) (as_0 yoc_Om hm) hE (mi := 1) (by decide +kernel) rfl hI.1 hI.2.1) C) (fun r m h => ?_)
  obtain ⟨⟨⟨y, rfl⟩, G1, O1, F1⟩, r1', n1, z, al1, -⟩ := h
  rcases z with z | z
  · exact ⟨y, rfl, G1, O1, Or.inl ((al1 76 10 rfl).trans z)⟩
  · subst z
    exact ⟨y, rfl, G1, O1, Or.inr ⟨fun z => (by cases z), fun i j _ hr => al1 i j hr⟩⟩
theorem k_text (hE : yEok E) (hm : yman Om) {D : Nat} (hD : 10 ≤ D) {x : Int} (hG : aGok mem) (hO : Om mem) {Q : Option yV → yMem → Prop} (hQ : ∀ r m, (w32 (m 76 10) = 0 ∨ (w32 r < 0 ∧ ∀ i j, kcR i j → m i j = mem i j)) → Q (some (0, r)) m) : yCon E D xm_41 [(1, 0), (0, x)] mem Q := by
  obtain ⟨d, rfl⟩ := Nat.exists_eq_add_of_le' hD
  refine e_41 ?_
  refine zvc_ok hE 90 zc_41 _ _ _ _ _ _ _ xmo_41 ?_
  have g11 := ag hG 0 11 ag_0_11
  have f12 : ¬ (0 ≤ w32 x ∧ w32 x ≤ w32 (mem 0 11)) → zG E (d + 9) xm_41 12 [some (1, 0), some (0, x), none] [] mem Q := fun hx => by
    refine zgo_ok (n := 60) hE xmo_41 (cs := zc_41) ?_
    simp only [ynok_30, ynok_31, w32c_0, w32c_1, w32c_2, w32c_3, w32c_4, w32c_5, w32c_6, w32c_7, w32c_8, w32c_9, w32c_10, w32c_11, w32c_12, w32c_13, w32c_14, w32c_m1, w32c_m2, w32c_118, Int.reduceAdd, Int.reduceSub, Int.reduceMul, yput_s, yput_n, znl_n, znl_0, znl_1, znl_4, ysum_n, ysum_0, ysum_1, ysum_4, true_and, and_true, Nat.reduceAdd, Nat.reduceLeDiff, true_implies, eq_self, true_or, or_true, or_false, false_or, not_true_eq_false, not_false_eq_true, false_implies, implies_true, yset_s, yset_o, yset_d, ne_eq, Nat.reduceEqDiff, Int.reduceToNat, Int.reduceEq, Int.reduceLE, Int.reduceLT, Classical.not_not, Nat.reduceLT, ↓zvk_s, ↓zvk_n, ↓s_41_0, ↓s_41_1, ↓s_41_4, ↓s_41_5, ↓s_41_6, ↓s_41_9, ↓g_41_12, ↓k_41_12, ↓s_41_14, ↓g_41_15, ↓k_41_15, ↓s_41_16, ↓s_41_19, ↓s_41_20, ↓s_41_23n, ↓s_41_23i, ↓s_41_23p, ↓s_41_24, ↓s_41_25, ↓s_41_26, ↓s_41_29, ↓s_41_30, ↓s_41_31, ↓s_41_34, ↓s_41_37, ↓s_41_40, ↓s_41_43, ↓s_41_44, ↓s_41_45, ↓s_41_48, ↓s_41_51, ↓s_41_54, ↓s_41_57, ↓s_41_58, ↓s_41_61, ↓s_41_64, ↓s_41_65, ↓s_41_66, ↓s_41_67, ↓s_41_70, ↓s_41_71, ↓s_41_74, ↓s_41_77, ↓s_41_78, ↓s_41_81, ↓s_41_82, ↓s_41_85, ↓s_41_88, ↓s_41_89, ↓s_41_92, ↓s_41_93, ↓s_41_96, ↓s_41_97, ↓s_41_98, ↓s_41_101, ↓s_41_102, ↓s_41_105, ↓s_41_106, ↓s_41_109, ↓s_41_110, zio_0, zio_64, zio_2, zio_71, zio_76, zio_54, zio_55, zio_57, zio_28]
    exact hQ _ _ (Or.inr ⟨by decide, fun _ _ _ => rfl⟩)
  have f15 : 0 ≤ w32 x → w32 x ≤ w32 (mem 0 11) → zG E (d + 9) xm_41 15 [some (1, 0), some (0, x), none] [] mem Q := fun x0 x1 => by
    refine zgo_ok (n := 60) hE xmo_41 (cs := zc_41) ?_
    simp only [ynok_30, ynok_31, w32c_0, w32c_1, w32c_2, w32c_3, w32c_4, w32c_5, w32c_6, w32c_7, w32c_8, w32c_9, w32c_10, w32c_11, w32c_12, w32c_13, w32c_14, w32c_m1, w32c_m2, w32c_118, Int.reduceAdd, Int.reduceSub, Int.reduceMul, yput_s, yput_n, znl_n, znl_0, znl_1, znl_4, ysum_n, ysum_0, ysum_1, ysum_4, true_and, and_true, Nat.reduceAdd, Nat.reduceLeDiff, true_implies, eq_self, true_or, or_true, or_false, false_or, not_true_eq_false, not_false_eq_true, false_implies, implies_true, yset_s, yset_o, yset_d, ne_eq, Nat.reduceEqDiff, Int.reduceToNat, Int.reduceEq, Int.reduceLE, Int.reduceLT, Classical.not_not, Nat.reduceLT, ↓zvk_s, ↓zvk_n, ↓s_41_0, ↓s_41_1, ↓s_41_4, ↓s_41_5, ↓s_41_6, ↓s_41_9, ↓g_41_12, ↓k_41_12, ↓s_41_14, ↓g_41_15, ↓k_41_15, ↓s_41_16, ↓s_41_19, ↓s_41_20, ↓s_41_23n, ↓s_41_23i, ↓s_41_23p, ↓s_41_24, ↓s_41_25, ↓s_41_26, ↓s_41_29, ↓s_41_30, ↓s_41_31, ↓s_41_34, ↓s_41_37, ↓s_41_40, ↓s_41_43, ↓s_41_44, ↓s_41_45, ↓s_41_48, ↓s_41_51, ↓s_41_54, ↓s_41_57, ↓s_41_58, ↓s_41_61, ↓s_41_64, ↓s_41_65, ↓s_41_66, ↓s_41_67, ↓s_41_70, ↓s_41_71, ↓s_41_74, ↓s_41_77, ↓s_41_78, ↓s_41_81, ↓s_41_82, ↓s_41_85, ↓s_41_88, ↓s_41_89, ↓s_41_92, ↓s_41_93, ↓s_41_96, ↓s_41_97, ↓s_41_98, ↓s_41_101, ↓s_41_102, ↓s_41_105, ↓s_41_106, ↓s_41_109, ↓s_41_110, zio_0, zio_64, zio_2, zio_71, zio_76, zio_54, zio_55, zio_57, zio_28]
    refine as_153 yoc_Om hm E hE _ (show 8 ≤ _ by omega) _ rfl _ _ _ ⟨rfl, ⟨rfl, x0, by show w32 x ≤ 800; omega⟩, trivial⟩ hG hO (fun q hq => by cases hq) (fun r m1 he => ?_)
    have R1 := CQ_of he (by decide +kernel)
    have fr1 : ∀ i j, kcR i j → m1 i j = mem i j := fun i j h => he.2.2.2.1 i j (kcq_ok (by decide +kernel) h)
    obtain ⟨k1, -⟩ := he
    match r, k1 with
    | none, k1 => exact absurd (show (3 : Nat) = 99 from k1) (by decide)
    | some (t, y), k1 =>
      have ht : t = 0 := k1.1
      subst ht
      refine zgk_s hE xmo_41 60 zc_41 ?_
      simp only [ynok_30, ynok_31, w32c_0, w32c_1, w32c_2, w32c_3, w32c_4, w32c_5, w32c_6, w32c_7, w32c_8, w32c_9, w32c_10, w32c_11, w32c_12, w32c_13, w32c_14, w32c_m1, w32c_m2, w32c_118, Int.reduceAdd, Int.reduceSub, Int.reduceMul, yput_s, yput_n, znl_n, znl_0, znl_1, znl_4, ysum_n, ysum_0, ysum_1, ysum_4, true_and, and_true, Nat.reduceAdd, Nat.reduceLeDiff, true_implies, eq_self, true_or, or_true, or_false, false_or, not_true_eq_false, not_false_eq_true, false_implies, implies_true, yset_s, yset_o, yset_d, ne_eq, Nat.reduceEqDiff, Int.reduceToNat, Int.reduceEq, Int.reduceLE, Int.reduceLT, Classical.not_not, Nat.reduceLT, ↓zvk_s, ↓zvk_n, ↓s_41_0, ↓s_41_1, ↓s_41_4, ↓s_41_5, ↓s_41_6, ↓s_41_9, ↓g_41_12, ↓k_41_12, ↓s_41_14, ↓g_41_15, ↓k_41_15, ↓s_41_16, ↓s_41_19, ↓s_41_20, ↓s_41_23n, ↓s_41_23i, ↓s_41_23p, ↓s_41_24, ↓s_41_25, ↓s_41_26, ↓s_41_29, ↓s_41_30, ↓s_41_31, ↓s_41_34, ↓s_41_37, ↓s_41_40, ↓s_41_43, ↓s_41_44, ↓s_41_45, ↓s_41_48, ↓s_41_51, ↓s_41_54, ↓s_41_57, ↓s_41_58, ↓s_41_61, ↓s_41_64, ↓s_41_65, ↓s_41_66, ↓s_41_67, ↓s_41_70, ↓s_41_71, ↓s_41_74, ↓s_41_77, ↓s_41_78, ↓s_41_81, ↓s_41_82, ↓s_41_85, ↓s_41_88, ↓s_41_89, ↓s_41_92, ↓s_41_93, ↓s_41_96, ↓s_41_97, ↓s_41_98, ↓s_41_101, ↓s_41_102, ↓s_41_105, ↓s_41_106, ↓s_41_109, ↓s_41_110, zio_0, zio_64, zio_2, zio_71, zio_76, zio_54, zio_55, zio_57, zio_28]
      have a1 : aGok (yset m1 0 11 0) := aGok_set R1.1 (by rw [ag_0_11]; decide)
      have o1 : Om (yset m1 0 11 0) := yoc_Om m1 _ (fun i j hi => yset_o (fun e => by subst e; exact absurd hi (by decide))) R1.2.1
      have S1 := CQ_set a1 o1 (i := 0) (j := 12) (x := m1 55 7) (by decide) (by decide) (ag_32 ag_0_12)
      have S2 := CQ_tr S1 (CQ_set S1.1 S1.2.1 (i := 0) (j := 13) (x := m1 55 8) (by decide) (by decide) (ag_32 ag_0_13))
      have fr2 : ∀ i j, kcR i j → yset (yset (yset m1 0 11 0) 0 12 (m1 55 7)) 0 13 (m1 55 8) i j = mem i j := fun i j h => by
        have i0 : i ≠ 0 := by
          unfold kcR at h
          omega
        rw [yset_o i0, yset_o i0, yset_o i0]
        exact fr1 i j h
      refine ⟨fun h7 => ?_, fun h7 => hQ _ _ (Or.inr ⟨by decide, fr2⟩)⟩
      refine abs_take yoc_Om hm E hE _ (show 2 ≤ _ by omega) _ rfl _ _ _ ⟨rfl, rfl, trivial⟩ S2.1 S2.2.1 (fun q hq => by cases hq) (fun r m2 he => ?_)
      have R2 := CQ_of he (by decide +kernel)
      obtain ⟨k1, -⟩ := he
      match r, k1 with
      | some y, k1 => exact absurd k1 (fun h => by cases h)
      | none, _ =>
        refine zgk_n hE xmo_41 60 zc_41 ?_
        simp only [ynok_30, ynok_31, w32c_0, w32c_1, w32c_2, w32c_3, w32c_4, w32c_5, w32c_6, w32c_7, w32c_8, w32c_9, w32c_10, w32c_11, w32c_12, w32c_13, w32c_14, w32c_m1, w32c_m2, w32c_118, Int.reduceAdd, Int.reduceSub, Int.reduceMul, yput_s, yput_n, znl_n, znl_0, znl_1, znl_4, ysum_n, ysum_0, ysum_1, ysum_4, true_and, and_true, Nat.reduceAdd, Nat.reduceLeDiff, true_implies, eq_self, true_or, or_true, or_false, false_or, not_true_eq_false, not_false_eq_true, false_implies, implies_true, yset_s, yset_o, yset_d, ne_eq, Nat.reduceEqDiff, Int.reduceToNat, Int.reduceEq, Int.reduceLE, Int.reduceLT, Classical.not_not, Nat.reduceLT, ↓zvk_s, ↓zvk_n, ↓s_41_0, ↓s_41_1, ↓s_41_4, ↓s_41_5, ↓s_41_6, ↓s_41_9, ↓g_41_12, ↓k_41_12, ↓s_41_14, ↓g_41_15, ↓k_41_15, ↓s_41_16, ↓s_41_19, ↓s_41_20, ↓s_41_23n, ↓s_41_23i, ↓s_41_23p, ↓s_41_24, ↓s_41_25, ↓s_41_26, ↓s_41_29, ↓s_41_30, ↓s_41_31, ↓s_41_34, ↓s_41_37, ↓s_41_40, ↓s_41_43, ↓s_41_44, ↓s_41_45, ↓s_41_48, ↓s_41_51, ↓s_41_54, ↓s_41_57, ↓s_41_58, ↓s_41_61, ↓s_41_64, ↓s_41_65, ↓s_41_66, ↓s_41_67, ↓s_41_70, ↓s_41_71, ↓s_41_74, ↓s_41_77, ↓s_41_78, ↓s_41_81, ↓s_41_82, ↓s_41_85, ↓s_41_88, ↓s_41_89, ↓s_41_92, ↓s_41_93, ↓s_41_96, ↓s_41_97, ↓s_41_98, ↓s_41_101, ↓s_41_102, ↓s_41_105, ↓s_41_106, ↓s_41_109, ↓s_41_110, zio_0, zio_64, zio_2, zio_71, zio_76, zio_54, zio_55, zio_57, zio_28]
        refine gx_begin hE (by omega) (ag R2.1 3 1 ag_3_1) (ag R2.1 9 1 ag_9_1) (fun m3 F3 B3 => ?_)
        refine zgk_n hE xmo_41 60 zc_41 ?_
        simp only [ynok_30, ynok_31, w32c_0, w32c_1, w32c_2, w32c_3, w32c_4, w32c_5, w32c_6, w32c_7, w32c_8, w32c_9, w32c_10, w32c_11, w32c_12, w32c_13, w32c_14, w32c_m1, w32c_m2, w32c_118, Int.reduceAdd, Int.reduceSub, Int.reduceMul, yput_s, yput_n, znl_n, znl_0, znl_1, znl_4, ysum_n, ysum_0, ysum_1, ysum_4, true_and, and_true, Nat.reduceAdd, Nat.reduceLeDiff, true_implies, eq_self, true_or, or_true, or_false, false_or, not_true_eq_false, not_false_eq_true, false_implies, implies_true, yset_s, yset_o, yset_d, ne_eq, Nat.reduceEqDiff, Int.reduceToNat, Int.reduceEq, Int.reduceLE, Int.reduceLT, Classical.not_not, Nat.reduceLT, ↓zvk_s, ↓zvk_n, ↓s_41_0, ↓s_41_1, ↓s_41_4, ↓s_41_5, ↓s_41_6, ↓s_41_9, ↓g_41_12, ↓k_41_12, ↓s_41_14, ↓g_41_15, ↓k_41_15, ↓s_41_16, ↓s_41_19, ↓s_41_20, ↓s_41_23n, ↓s_41_23i, ↓s_41_23p, ↓s_41_24, ↓s_41_25, ↓s_41_26, ↓s_41_29, ↓s_41_30, ↓s_41_31, ↓s_41_34, ↓s_41_37, ↓s_41_40, ↓s_41_43, ↓s_41_44, ↓s_41_45, ↓s_41_48, ↓s_41_51, ↓s_41_54, ↓s_41_57, ↓s_41_58, ↓s_41_61, ↓s_41_64, ↓s_41_65, ↓s_41_66, ↓s_41_67, ↓s_41_70, ↓s_41_71, ↓s_41_74, ↓s_41_77, ↓s_41_78, ↓s_41_81, ↓s_41_82, ↓s_41_85, ↓s_41_88, ↓s_41_89, ↓s_41_92, ↓s_41_93, ↓s_41_96, ↓s_41_97, ↓s_41_98, ↓s_41_101, ↓s_41_102, ↓s_41_105, ↓s_41_106, ↓s_41_109, ↓s_41_110, zio_0, zio_64, zio_2, zio_71, zio_76, zio_54, zio_55, zio_57, zio_28]
        exact hQ _ _ (Or.inl (by rw [yset_s]; exact w32c_0))
  simp only [ynok_30, ynok_31, w32c_0, w32c_1, w32c_2, w32c_3, w32c_4, w32c_5, w32c_6, w32c_7, w32c_8, w32c_9, w32c_10, w32c_11, w32c_12, w32c_13, w32c_14, w32c_m1, w32c_m2, w32c_118, Int.reduceAdd, Int.reduceSub, Int.reduceMul, yput_s, yput_n, znl_n, znl_0, znl_1, znl_4, ysum_n, ysum_0, ysum_1, ysum_4, true_and, and_true, Nat.reduceAdd, Nat.reduceLeDiff, true_implies, eq_self, true_or, or_true, or_false, false_or, not_true_eq_false, not_false_eq_true, false_implies, implies_true, yset_s, yset_o, yset_d, ne_eq, Nat.reduceEqDiff, Int.reduceToNat, Int.reduceEq, Int.reduceLE, Int.reduceLT, Classical.not_not, Nat.reduceLT, ↓zvk_s, ↓zvk_n, ↓s_41_0, ↓s_41_1, ↓s_41_4, ↓s_41_5, ↓s_41_6, ↓s_41_9, ↓g_41_12, ↓k_41_12, ↓s_41_14, ↓g_41_15, ↓k_41_15, ↓s_41_16, ↓s_41_19, ↓s_41_20, ↓s_41_23n, ↓s_41_23i, ↓s_41_23p, ↓s_41_24, ↓s_41_25, ↓s_41_26, ↓s_41_29, ↓s_41_30, ↓s_41_31, ↓s_41_34, ↓s_41_37, ↓s_41_40, ↓s_41_43, ↓s_41_44, ↓s_41_45, ↓s_41_48, ↓s_41_51, ↓s_41_54, ↓s_41_57, ↓s_41_58, ↓s_41_61, ↓s_41_64, ↓s_41_65, ↓s_41_66, ↓s_41_67, ↓s_41_70, ↓s_41_71, ↓s_41_74, ↓s_41_77, ↓s_41_78, ↓s_41_81, ↓s_41_82, ↓s_41_85, ↓s_41_88, ↓s_41_89, ↓s_41_92, ↓s_41_93, ↓s_41_96, ↓s_41_97, ↓s_41_98, ↓s_41_101, ↓s_41_102, ↓s_41_105, ↓s_41_106, ↓s_41_109, ↓s_41_110, zio_0, zio_64, zio_2, zio_71, zio_76, zio_54, zio_55, zio_57, zio_28]
  repeat' first | exact f12 (by omega) | exact f15 (by omega) (by omega) | omega | refine And.intro ?_ ?_ | intro _
theorem kq_text (hE : yEok E) (hm : yman Om) (X : Nat → Int) (k : Nat) (mem : yMem) (_ : k ≤ 3100) (hI : LI k mem) : yCon E 1000 xm_41 ((1, ((0 : Nat) : Int)) :: lav X 1 1) mem (KQ true mem) := by
  have C : yCon E 1000 xm_41 [(1, 0), (0, X 1)] mem (fun r m => ∃ y, r = some (0, y) ∧ (w32 (m 76 10) = 0 ∨ (w32 y < 0 ∧ ∀ i j, kcR i j → m i j = mem i j))) := k_text hE hm (by decide) hI.1 hI.2.1 (fun r m h => ⟨r, rfl, h⟩)
  refine yCon_mono (yCon_and (as_q (n := 1) (X := X) (as_157 yoc_Om hm) hE (mi := 41) (by decide +kernel) rfl hI.1 hI.2.1) C) (fun r m h => ?_)
  obtain ⟨⟨⟨y, rfl⟩, G1, O1, F1⟩, r1', n1, ⟨y1, rfl, z⟩, al1, er1⟩ := h
  have ey : w32 y = w32 y1 := ydv_0 er1
  rcases z with z | ⟨z1, z2⟩
  · exact ⟨y, rfl, G1, O1, Or.inl ((al1 76 10 rfl).trans z)⟩
  · exact ⟨y, rfl, G1, O1, Or.inr ⟨fun _ => by rw [ey]; exact z1, fun i j hp hr => by rw [al1 i j hr, z2 i j hp]⟩⟩
theorem pTx_nn : ∀ (f : Nat) (x : sY) (D : dDc) (k : Int), 0 ≤ k → 0 ≤ (pTx f x D k).2.2
  | 0, x, D, k, h => h
  | f + 1, x, D, k, h => by
    show 0 ≤ (if yKd x = 0 then (x, D, k) else if yKd (pLine x D).1 = 4 then pTx f (yNx (pLine x D).1) (pLine x D).2 (k + 1) else pTx f (yFl 1 (pLine x D).1) (pLine x D).2 k).2.2
    split
    · exact h
    · split
      · exact pTx_nn f _ _ _ (by omega)
      · exact pTx_nn f _ _ _ h
theorem kr_text (hE : yEok E) (X : Nat → Int) (mem : yMem) (hG : aGok mem) (hO : Om mem) : yCon E 1000 xm_242 ((1, ((95 : Nat) : Int)) :: lav X 1 1) mem (KR true mem) := by
  have C1 : yCon E 1000 xm_242 [(1, 95), (0, X 1)] mem (fun r m => (∃ y, r = some (0, y)) ∧ TxQ mem (X 1) m) := c_text hE (by decide) hG hO (fun r m h => ⟨⟨r, rfl⟩, h⟩)
  have C2 : yCon E 1000 xm_242 [(1, 95), (0, X 1)] mem (fun r m => ∃ y, r = some (0, y) ∧ tRs (fun j => w32 (mem 96 j)) (w32 (mem 95 2)) (w32 (X 1)) (w32 y) (w32 (mem 95 33), w32 (mem 95 34)) (w32 (m 95 33), w32 (m 95 34)) (lwW mem m) (fun X D => (yOk X → rDl m D) ∧ (¬ yOk X → lwW mem m))) := rf_text hE (by decide) hG (fun j => ⟨rfl, agA hG 96 j ae_96⟩) (fun r m h => ⟨r, rfl, h⟩)
  refine yCon_mono (yCon_and C1 C2) (fun r m h => ?_)
  obtain ⟨⟨⟨y, rfl⟩, T2⟩, r', m3, ⟨y2, rfl, A2⟩, al, er⟩ := h
  have ey : w32 y = w32 y2 := ydv_0 er
  refine ⟨y, rfl, fun i j hi _ => by rw [T2.2.2.1 i j (Or.inl hi)], fun hn i j n hz i1 i2 hj => ?_⟩
  have hneg := hn rfl
  have L : lwW mem m3 := by
    by_cases hN : 0 ≤ w32 (X 1) ∧ w32 (X 1) ≤ w32 (mem 95 2)
    · obtain ⟨l, h1, h2, h3, h4⟩ := A2.2 hN
      by_cases hY : yOk (pTx (l.length + 1) (.inr l) dD0 0).1
      · have nn := pTx_nn (l.length + 1) (.inr l) dD0 0 (Int.le_refl 0)
        obtain ⟨l', hl'⟩ := hY
        rw [hl'] at h2
        have h2 : w32 y2 = (pTx (l.length + 1) (.inr l) dD0 0).2.2 := h2
        omega
      · exact h4.2 hY
    · exact (A2.1 hN).2.2
  rw [al i j (yRl_a (by omega) (by omega) (Nat.lt_of_lt_of_le hj (by rw [← hz]; exact zhf_L i (by omega) i1)))]
  exact L i j n hz i1 i2 hj
end LJ2
end
section
theorem xofWH {l : Launch} {y : MethodName} {ws ws' : List Cond} {rm : Room} {Pc : Array Value → State → Prop} {Qc : Array Value → State → Outcome → State → Prop} {mc ms : Nat} {free : Addr → Prop} {cc : ByteArray} {maxL : Nat} {ret : Option FieldType} {hh : List (Nat × Nat × Nat × Nat)}
    (hy : plainName y.cls = true) (hw : ws = Cond.codeWith y cc maxL ret hh :: ws')
    (body : ∀ p e s m args below meth c s₁, BodyLoose p l y (headSpec ws rm) cc maxL ret e s m args below meth c s₁ → c.maxLocals = maxL → c.exceptionTable.toList = tableOf hh → Pc args s →
      W p l e (headSpec ws rm).room s m args below meth c s.heap [] 0 0 (MQ below Qc args s mc ms free) (entryFrame m args maxL)) : Met l y ws rm Pc Qc mc ms free := by
  have hin : Cond.codeWith y cc maxL ret hh ∈ ws := by rw [hw]; exact List.mem_cons_self
  refine MetFree.of_bodyS (code := cc) (maxLocals := maxL) (ret := ret) hy ?_ ?_
  · intro args s m h hn
    obtain ⟨m9, meth, c, hn9, h1, h2, h3, h4, -, h5, h6, -⟩ := Cond.codeWith_spec (atoms_spec (ws := ws) h _ hin)
    cases Option.some.inj (hn9.symm.trans hn)
    exact ⟨meth, c, h1, h2, h3, h4, h5, h6⟩
  · intro p e s m args below meth c s₁ B hml hP _
    have hh0 : s₁.heap = s.heap := by rw [B.state]; rfl
    have ht := vx_table (p := p) (x := y) B (atoms_spec (ws := ws) B.pre _ hin)
    obtain ⟨t, a1, o, b1, b2, b3⟩ := body p e s m args below meth c s₁ B hml ht hP s₁ hh0 (Stand.of_body B)
    exact ⟨t, o, a1, b1, b2, ⟨b3.1, b3.2⟩⟩
abbrev xLW : List Cond := .codeWith yL_look cL_look 5 (some .int) [(0, 10, 13, 13), (0, 10, 17, 15)] :: xgt
abbrev llRm : Room := { frames := 20, cells := 1, slots := 6, locals := 2000 }
abbrev llAs (E : yE) (x y : Int) : List Value := [.ref (yb E + 0), .int (iI x), .int (iI y), .ref (yb E + 143)]
abbrev lllv (x y : Int) : yL := [(0, (1, 0)), (1, (0, x)), (2, (0, y)), (3, (1, 143))]
/-- what the law's own look leaves -/
def lkP (mem : yMem) (r : Option yV) (m : yMem) : Prop := (∃ v, r = some (0, v)) ∧ (m = mem ∨ ∃ v, m = yset mem 143 0 v)
theorem llo {pc : Nat} {op : xOp} (h : xfind xk_LL pc = some op) : xok xmt xm_LL pc op := xo_LL _ (xfind_mem h)
theorem ll_8 {E : yE} (hE : yEok E) {R : Room} {mem : yMem} {ce sl : Nat} (hR : yRm R 2 ce sl) {x y v : Int} : yG E R xm_LL 8 (lllv x y) [(0, v), (0, 0), (1, 143)] mem ce sl (lkP mem) := by
  refine yo_i2l (nx := 9) hE hR (llo rfl) ?_
  refine yo_lst (nx := 10) (i := 143) (n := 1) (rs := []) (j := 0) hE hR (llo rfl) rfl (by decide) (by decide) ?_
  refine yo_go (nx := 21) hE hR (llo rfl) ?_
  refine yo_c (nx := 22) (a := 0) hE hR (llo rfl) ?_
  exact yo_rt (nx := 0) (b := 0) hE hR (llo rfl) (Or.inl rfl) ⟨⟨_, rfl⟩, Or.inr ⟨_, rfl⟩⟩
set_option maxHeartbeats 4000000 in
theorem y_lklaw {E : yE} (hE : yEok E) (hnc : ∀ s, yEX E s → va_Nc "java/util/NoSuchElementException" "java/lang/IndexOutOfBoundsException" s) {mem : yMem} (hG : aGok mem) (x y : Int) (sz : Nat) (hb : yb E + ysh.length ≤ sz) : Met (yl E) yL_look xLW llRm (va_Pc (llAs E x y) (yPp E mem sz)) (fun _ => yQp E sz (lkP mem)) 1 6 (xA (yb E) ysh.length sz) := by
  refine xofWH (cc := cL_look) (maxL := 5) (ret := some .int) (hh := [(0, 10, 13, 13), (0, 10, 17, 15)]) (by decide +kernel) rfl ?_
  intro p e s m args below meth c s₁ B hml htab hvv
  obtain ⟨rfl, hPp⟩ := hvv
  have hts := atoms_spec (ws := xLW) B.pre
  have hC : yCtx E xm_LL p s m (llAs E x y).toArray meth c (xA (yb E) ysh.length sz) := yw_ctx B rfl rfl hml rfl rfl (fun w hw => hts w (List.mem_cons_of_mem _ hw)) hb hPp
  have hPp0 := hPp
  obtain ⟨hsz, hP, hK, hEX⟩ := hPp
  have hl := lv_entry (llAs E x y) (n := 5) (Nat.le_of_ble_eq_true rfl)
  rw [lg_entry_eq]
  generalize (lg_sl (llAs E x y) ++ List.replicate (5 - (lg_sl (llAs E x y)).length) Slot.unset).toArray = ls at hl ⊢
  have hl : lv_has ls 5 (ydL E (lllv x y)) := hl
  have C := hC.1.1
  have hr := B.returns
  refine lv_aload_n C.1 C.2.1 dL_look_0 rfl (lv_at hl 3 rfl) ?_
  refine lv_iconst (v := 0) C.1 C.2.1 dL_look_1 (by decide +kernel) ?_
  refine lv_aload_n C.1 C.2.1 dL_look_2 rfl (lv_at hl 0 rfl) ?_
  refine lv_iload_n C.1 C.2.1 dL_look_3 rfl (lv_at hl 1 rfl) ?_
  refine lv_iload_n C.1 C.2.1 dL_look_4 rfl (lv_at hl 2 rfl) ?_
  have hrc := va_recv hK hP (show vwCl[11]? = some (RX11, TX11, 15) from rfl) (yW_at (E := E) (mem := mem) (show ysh[0]? = some (.inr (11, _)) from rfl))
  have hGw : ∀ w ∈ lkWs, w ∈ xgt := fun w hw => by
    rcases List.mem_cons.mp hw with rfl | hw
    · exact (xwm 1302 (by decide +kernel) (by decide +kernel))
    · exact hw
  refine vx_calli (vx_runV (As := [.int (iI x), .int (iI y)]) (rest := [.int 0, .ref (yb E + 143)]) (n := 2) (bytes := cX11_look) (maxL := 3) (ret := some .int) (C := RX11) ⟨C.1, C.2.1, hml, C.2.2.1, C.2.2.2⟩ (y_look hE hG x y sz hb) ⟨callB_of (ws' := xgt) 2 C.2.2.2 (xgt_in' hGw) rfl rfl rfl (C.2.2.2 _ (xwm 116 (by decide +kernel) (by decide +kernel))) (C.2.2.2 _ (xwm 1299 (by decide +kernel) (by decide +kernel))) ⟨by decide, by decide, by decide +kernel⟩ ⟨Nat.le_of_ble_eq_true rfl, Nat.le_of_ble_eq_true rfl⟩, C.2.2.2 _ (xwm 1300 (by decide +kernel) (by decide +kernel)), C.2.2.2 _ (xwm 1301 (by decide +kernel) (by decide +kernel))⟩ ⟨yPp_blind hE, hrc, fun U hU hW => ⟨rfl, hsz ▸ yPp_at hC hE hP va_S.rf U hU hW⟩⟩ rfl rfl hl.1 rfl (lv_room (Nat.le_of_ble_eq_true rfl)) dL_look_5 ⟨Nat.le_of_ble_eq_true rfl, Nat.le_of_ble_eq_true rfl⟩) (va_S.rf (A := xA (yb E) ysh.length sz)) (fun q _ h => h) (fun q h => h) (fun q _ h => h) ?_ (fun r u t H1 locs1 ht hvm _ hB hz1 hk1 hS1 => ?_)
  · intro C0 ce q9 u t H1 locs1 ht hvm _ hB hz1 hk1 hS1 hce hcv hcl
    obtain ⟨hC0, hP1⟩ := hB
    rw [ht] at hP1
    have hF := (hE.2.2.2 s hEX)
    have fin : ∀ (v : Int) (t2 : State), t2.heap = H1 → yQp E sz (lkP mem) s (.returned (some (.int (iI v)))) t2 := fun v t2 ht2 => ⟨some (0, v), mem, ⟨⟨v, rfl⟩, Or.inl rfl⟩, rfl, by rw [ht2]; exact hP1, hS1.F ht2⟩
    rcases hC0 with rfl | rfl
    · have hcast : (Cond.castable "java/lang/IndexOutOfBoundsException" "java/lang/IndexOutOfBoundsException").before (llAs E x y).toArray s = true := va_Nw.use rfl (hF.2.2.2.2.2.2.2.2.2.2.1 _ (by decide +kernel))
      refine vx_catch C.2.2.1 [] ⟨0, 10, 13, 13⟩ [⟨0, 10, 17, 15⟩] (by rw [htab]; rfl) (fun z hz => by cases hz) (by decide) (by decide) (C.2.2.2 _ (xwm 1297 (by decide +kernel) (by decide +kernel))) hcast hce hcv hcl ?_
      refine lv_astore (lv' := (4, .ref q9) :: ydL E (lllv x y)) C.1 C.2.1 dL_look_13 hl (by decide) rfl (fun ls hl => ?_)
      refine lv_iconst (v := 1) C.1 C.2.1 dL_look_15 (by decide +kernel) ?_
      refine W.widen (k := 1) (n := 6) (by decide) (by decide) ?_
      exact W.iret (v := 1) C.1 C.2.1 hr (fun t2 ht2 _ => fin 1 t2 ht2) hS1.2.2 dL_look_16 B.notSynchronized
    · have hcast : (Cond.castable "java/util/NoSuchElementException" "java/util/NoSuchElementException").before (llAs E x y).toArray s = true := va_Nw.use rfl (hF.2.2.2.2.2.2.2.2.2.2.2.2.2 _ (by decide +kernel))
      refine vx_catch C.2.2.1 [⟨0, 10, 13, 13⟩] ⟨0, 10, 17, 15⟩ [] (by rw [htab]; rfl) (fun z hz => ?_) (by decide) (by decide) (C.2.2.2 _ (xwm 1298 (by decide +kernel) (by decide +kernel))) hcast hce hcv hcl ?_
      · simp only [List.mem_cons, List.not_mem_nil, or_false] at hz
        subst hz
        exact Or.inr ⟨by decide, "java/lang/IndexOutOfBoundsException", C.2.2.2 _ (xwm 1297 (by decide +kernel) (by decide +kernel)), hnc s hEX⟩
      refine lv_astore (lv' := (4, .ref q9) :: ydL E (lllv x y)) C.1 C.2.1 dL_look_17 hl (by decide) rfl (fun ls hl => ?_)
      refine lv_iconst (v := 2) C.1 C.2.1 dL_look_19 (by decide +kernel) ?_
      refine W.widen (k := 1) (n := 6) (by decide) (by decide) ?_
      exact W.iret (v := 2) C.1 C.2.1 hr (fun t2 ht2 _ => fin 2 t2 ht2) hS1.2.2 dL_look_20 B.notSynchronized
  · rw [ht] at hB
    have := ll_8 (E := E) hE (R := (headSpec xLW llRm).room) (mem := mem) (ce := 0 + 1) (sl := 0 + 6) ⟨⟨by decide, by decide⟩, by decide, by decide⟩ (x := x) (y := y) (v := r.toInt) p e s m (llAs E x y).toArray below meth c (xA (yb E) ysh.length sz) (fun _ => yQp E sz (lkP mem)) hC (fun r m9 t k1 k2 k3 => ⟨r, m9, k1, rfl, k2, k3⟩) H1 locs1 ls hl hB hS1
    rw [show ([(0, r.toInt), (0, 0), (1, 143)] : List yV).map (ydv E) = [.int r, .int 0, .ref (yb E + 143)] by show [Value.int (iI r.toInt), Value.int (iI 0), Value.ref (yb E + 143)] = _; rw [iI_t]; rfl] at this
    exact this
end
section
/-! THE LAW: its loop, call by call -/
def lSc (E : yE) (L : Nat) (xs : Nat → Int32) : Prop := ∀ s, yEX E s → va_X (ysa E 50) L xs s s.heap ∧ ysa E 50 < yb E
abbrev llaw (i : Int) : yL := [(4, (0, i)), (3, (1, 143)), (2, (1, 95)), (1, (1, 0)), (0, (5, 50))]
abbrev LG (E : yE) (i : Int) (pc : Nat) (st : List yV) (mem : yMem) (ce sl : Nat) (Post : Option yV → yMem → Prop) : Prop := yG E room_1 xm_L1 pc (llaw i) st mem ce sl Post
theorem l1o {pc : Nat} {op : xOp} (h : xfind xk_L1 pc = some op) : xok xmt xm_L1 pc op := xo_L1 _ (xfind_mem h)
def lop (pc a b c e : Nat) : Bool := match xfind xk_L1 pc with
  | some (a', b', c', e', []) => Nat.beq a' a && (Nat.beq b' b && (Nat.beq c' c && Nat.beq e' e))
  | _ => false
theorem lo1 {pc a b c e : Nat} (h : lop pc a b c e = true) : xok xmt xm_L1 pc (a, b, c, e, []) := by
  refine l1o ?_
  unfold lop at h
  split at h
  · next a' b' c' e' hf =>
    simp only [Bool.and_eq_true, Nat.beq_eq] at h
    obtain ⟨rfl, rfl, rfl, rfl⟩ := h
    exact hf
  · cases h
/-- an int of the script, of the run that begins at i -/
abbrev lX (xs : Nat → Int32) (i : Int) (k : Nat) : Int := (xs ((w32 i).toNat + k)).toInt
section LW
variable {E : yE} {L : Nat} {xs : Nat → Int32} {pc nx : Nat} {lv : yL} {st : List yV} {mem : yMem} {ce sl d : Nat} {Post : Option yV → yMem → Prop} {i : Int}
theorem l_sld (hS : lSc E L xs) (hL : L ≤ 3072) {j : Int} (hok : xok xmt xm_L1 pc (43, nx, 0, 0, [])) (h0 : 0 ≤ w32 j) (h1 : w32 j < (L : Int)) (h : yG E room_1 xm_L1 nx lv ((0, (xs (w32 j).toNat).toInt) :: st) mem ce sl Post) : yG E room_1 xm_L1 pc lv ((0, j) :: (5, 50) :: st) mem ce sl Post := by
  intro p e s m args below meth c A Qc hC hQ H locs ls hl hP hS'
  have := h p e s m args below meth c A Qc hC hQ H locs ls hl hP hS'
  obtain ⟨hX, hq⟩ := hS s hC.1.2.2.2.2.2.2.2.2.1
  rw [List.map_cons] at this
  rw [List.map_cons, List.map_cons]
  have e1 : ydv E (0, j) = .int (nI (w32 j).toNat) := by
    show Value.int (iI j) = _
    rw [← iI_n, Int.toNat_of_nonneg h0, iI_w]
  have e2 : ydv E (0, (xs (w32 j).toNat).toInt) = .int (xs (w32 j).toNat) := by
    show Value.int (iI _) = _
    rw [iI_t]
  rw [e2] at this
  rw [e1]
  have hb := hC.1.2.2.2.2.2.2.2.2.2
  exact hok p (yl E) e room_1 s m args below meth c H locs ce sl _ ls _ hC.1.1 (ysa E 50) L xs A hX (by omega) (fun z => by have := hC.1.2.2.2.2.1 _ z; omega) hS' (w32 j).toNat (by omega) (by omega) (by omega) this
theorem l_slen (hS : lSc E L xs) (hok : xok xmt xm_L1 pc (42, nx, 0, 0, [])) (h : yG E room_1 xm_L1 nx lv ((0, (L : Int)) :: st) mem ce sl Post) : yG E room_1 xm_L1 pc lv ((5, 50) :: st) mem ce sl Post := by
  intro p e s m args below meth c A Qc hC hQ H locs ls hl hP hS'
  have := h p e s m args below meth c A Qc hC hQ H locs ls hl hP hS'
  obtain ⟨hX, hq⟩ := hS s hC.1.2.2.2.2.2.2.2.2.1
  rw [List.map_cons] at this ⊢
  have e2 : ydv E (0, (L : Int)) = .int (nI L) := by
    show Value.int (iI _) = _
    rw [iI_n]
  rw [e2] at this
  have hb := hC.1.2.2.2.2.2.2.2.2.2
  exact hok p (yl E) e room_1 s m args below meth c H locs ce sl _ ls _ hC.1.1 (ysa E 50) L xs A hX (by omega) (fun z => by have := hC.1.2.2.2.2.1 _ z; omega) hS' this
def largb (pc k : Nat) : Bool := lop pc 2 (pc + 1) 1 0 && (lop (pc + 1) 2 (pc + 3) 0 4 && (lop (pc + 3) 0 (pc + 4) k 0 && (lop (pc + 4) 5 (pc + 5) 0 0 && lop (pc + 5) 43 (pc + 6) 0 0)))
theorem l_cI {k : Nat} (h : k < 100) : cI k = (k : Int) := by
  unfold cI
  rw [if_pos (by rw [Nat.blt_eq]; omega)]
theorem l_arg (hE : yEok E) (hR : yRm room_1 d ce sl) (hS : lSc E L xs) (hL : L ≤ 3072) {k : Nat} (hk : k < 6) (h0 : 0 ≤ w32 i) (h6 : w32 i + 6 ≤ (L : Int)) (hb : largb pc k = true) (h : LG E i (pc + 6) ((0, lX xs i k) :: st) mem ce sl Post) : LG E i pc st mem ce sl Post := by
  simp only [largb, Bool.and_eq_true] at hb
  obtain ⟨a1, a2, a3, a4, a5⟩ := hb
  have ec := l_cI (show k < 100 by omega)
  have ek : w32 (i + cI k) = w32 i + (k : Int) := by rw [ec, w32_ad (by rw [w32_of (x := (k : Int)) (by omega) (by omega)]; omega) (by rw [w32_of (x := (k : Int)) (by omega) (by omega)]; omega), w32_of (x := (k : Int)) (by omega) (by omega)]
  refine yo_ld (v := (5, 50)) hE hR (lo1 a1) rfl rfl ?_
  refine yo_ld (v := (0, i)) hE hR (lo1 a2) rfl rfl ?_
  refine yo_c hE hR (lo1 a3) ?_
  refine yo_bin hE hR (lo1 a4) (by decide) ?_
  refine l_sld hS hL (lo1 a5) (show 0 ≤ w32 (i + cI k) by omega) (show w32 (i + cI k) < (L : Int) by omega) ?_
  rw [show (w32 (ybin 0 i (cI k))).toNat = (w32 i).toNat + k from (show (w32 (i + cI k)).toNat = (w32 i).toNat + k by omega)]
  exact h
def largsb : Nat → Nat → Nat → Bool
  | 0, _, _ => true
  | n + 1, k, pc => largb pc k && largsb n (k + 1) (pc + 6)
theorem lav_len {X : Nat → Int} : ∀ n k, (lav X n k).length = n
  | 0, _ => rfl
  | n + 1, k => by rw [lav, List.length_cons, lav_len n]
theorem lav_sum {X : Nat → Int} : ∀ n k, ysum (lav X n k) = n
  | 0, _ => rfl
  | n + 1, k => by
    rw [lav, ysum, lav_sum n]
    show 1 + n = n + 1
    omega
theorem l_args (hE : yEok E) (hR : yRm room_1 d ce sl) (hS : lSc E L xs) (hL : L ≤ 3072) (h0 : 0 ≤ w32 i) (h6 : w32 i + 6 ≤ (L : Int)) : ∀ (n k pc : Nat) (st : List yV), largsb n k pc = true → k + n ≤ 6 → LG E i (pc + 6 * n) ((lav (lX xs i) n k).reverse ++ st) mem ce sl Post → LG E i pc st mem ce sl Post
  | 0, k, pc, st, _, _, h => h
  | n + 1, k, pc, st, hb, hk, h => by
    simp only [largsb, Bool.and_eq_true] at hb
    refine l_arg hE hR hS hL (k := k) (by omega) h0 h6 hb.1 (l_args hE hR hS hL h0 h6 n (k + 1) (pc + 6) _ hb.2 (by omega) ?_)
    rw [show pc + 6 + 6 * n = pc + 6 * (n + 1) by omega]
    rw [lav, List.reverse_cons, List.append_assoc] at h
    exact h
def lsegb (pc r n mi ci : Nat) : Bool := lop pc 2 (pc + 1) 1 r && (largsb n 1 (pc + 1) && lop (pc + 1 + 6 * n) 28 (pc + 1 + 6 * n + 3) mi ci)
theorem l_seg (hE : yEok E) (hR : yRm room_1 d ce sl) (hS : lSc E L xs) (hL : L ≤ 3072) (h0 : 0 ≤ w32 i) (h6 : w32 i + 6 ≤ (L : Int)) {r n mi ci z : Nat} {M' : xM} {fs rest : List yV} (hb : lsegb pc r n mi ci = true) (hn : n ≤ 5) (hr : ylk (llaw i) r = some (1, (z : Int))) (hmi : xmt[mi]? = some M') (hmn : xMn M' = n) (hml : n + 1 ≤ xMl M') (hml2 : xMl M' ≤ 45) (hK : ysh[z]? = some (.inr (ci, fs))) (hrest : ysum rest ≤ 8) (h : yCon E d M' ((1, (z : Int)) :: lav (lX xs i) n 1) mem (fun v mem' => LG E i (pc + 1 + 6 * n + 3) (yput rest v) mem' ce sl Post)) : LG E i pc rest mem ce sl Post := by
  simp only [lsegb, Bool.and_eq_true] at hb
  obtain ⟨a1, a2, a3⟩ := hb
  refine yo_ld (v := (1, (z : Int))) hE hR (lo1 a1) hr rfl ?_
  refine l_args hE hR hS hL h0 h6 n 1 (pc + 1) _ a2 (by omega) ?_
  refine yo_call (i := z) (avs := lav (lX xs i) n 1) hE hR (lo1 a3) hmi (by rw [lav_len, hmn]) hrest ?_ hml2 hK h
  rw [ysum, lav_sum]
  show 1 + n ≤ _
  omega
def lcaseb (pc n mi1 mi2 po : Nat) : Bool := lsegb pc 1 n mi1 11 && (lop (pc + 1 + 6 * n + 3) po (pc + 1 + 6 * n + 3 + 1) 0 0 && (lsegb (pc + 1 + 6 * n + 3 + 1) 2 n mi2 12 && (lop (pc + 1 + 6 * n + 3 + 1 + 1 + 6 * n + 3) po (pc + 1 + 6 * n + 3 + 1 + 1 + 6 * n + 3 + 1) 0 0 && lop (pc + 1 + 6 * n + 3 + 1 + 1 + 6 * n + 3 + 1) 14 1422 0 0)))
theorem l_pop (hE : yEok E) (hR : yRm room_1 d ce sl) {po t : Nat} {x : Int} (hpo : (po = 10 ∧ t = 0) ∨ (po = 69 ∧ t = 4)) (hok : xok xmt xm_L1 pc (po, nx, 0, 0, [])) (h : LG E i nx st mem ce sl Post) : LG E i pc ((t, x) :: st) mem ce sl Post := by
  rcases hpo with ⟨rfl, rfl⟩ | ⟨rfl, rfl⟩
  · exact yo_pop hE hR hok rfl h
  · exact yo_pop2 hE hR hok rfl h
theorem l_case (hE : yEok E) (hR : yRm room_1 d ce sl) (hS : lSc E L xs) (hL : L ≤ 3072) (h0 : 0 ≤ w32 i) (h6 : w32 i + 6 ≤ (L : Int)) {n mi1 mi2 po t : Nat} {M1 M2 : xM} (hb : lcaseb pc n mi1 mi2 po = true) (hn : n ≤ 5) (hpo : (po = 10 ∧ t = 0) ∨ (po = 69 ∧ t = 4)) (hm1 : xmt[mi1]? = some M1) (hm2 : xmt[mi2]? = some M2) (hk1 : xMn M1 = n ∧ n + 1 ≤ xMl M1 ∧ xMl M1 ≤ 45) (hk2 : xMn M2 = n ∧ n + 1 ≤ xMl M2 ∧ xMl M2 ≤ 45) {Nx : yMem → Prop} (hnx : ∀ m, Nx m → LG E i 1422 [] m ce sl Post)
    (h : yCon E d M1 ((1, ((0 : Nat) : Int)) :: lav (lX xs i) n 1) mem (fun r mem1 => (∃ x, r = some (t, x)) ∧ yCon E d M2 ((1, ((95 : Nat) : Int)) :: lav (lX xs i) n 1) mem1 (fun r mem2 => (∃ x, r = some (t, x)) ∧ Nx mem2))) : LG E i pc [] mem ce sl Post := by
  simp only [lcaseb, Bool.and_eq_true] at hb
  obtain ⟨b1, b2, b3, b4, b5⟩ := hb
  refine l_seg (z := 0) (rest := []) hE hR hS hL h0 h6 b1 hn rfl hm1 hk1.1 hk1.2.1 hk1.2.2 rfl (by decide) (yCon_mono h ?_)
  rintro r mem1 ⟨⟨x, rfl⟩, h2⟩
  refine l_pop hE hR hpo (lo1 b2) ?_
  refine l_seg (z := 95) (rest := []) hE hR hS hL h0 h6 b3 hn rfl hm2 hk2.1 hk2.2.1 hk2.2.2 rfl (by decide) (yCon_mono h2 ?_)
  rintro r mem2 ⟨⟨x, rfl⟩, h3⟩
  refine l_pop hE hR hpo (lo1 b4) ?_
  exact yo_go hE hR (lo1 b5) (hnx _ h3)
end LW
def lcmpb (pc n mi1 mi2 : Nat) : Bool := lsegb pc 1 n mi1 11 && (lsegb (pc + 1 + 6 * n + 3) 2 n mi2 12 && lop (pc + 1 + 6 * n + 3 + 1 + 6 * n + 3) 13 (pc + 1 + 6 * n + 3 + 1 + 6 * n + 3 + 3) 1422 0)
theorem l_cmp {E : yE} {L : Nat} {xs : Nat → Int32} {i : Int} {pc d ce sl : Nat} {mem : yMem} {Post : Option yV → yMem → Prop} (hE : yEok E) (hR : yRm room_1 d ce sl) (hS : lSc E L xs) (hL : L ≤ 3072) (h0 : 0 ≤ w32 i) (h6 : w32 i + 6 ≤ (L : Int)) {n mi1 mi2 : Nat} {M1 M2 : xM} (hb : lcmpb pc n mi1 mi2 = true) (hn : n ≤ 5) (hm1 : xmt[mi1]? = some M1) (hm2 : xmt[mi2]? = some M2) (hk1 : xMn M1 = n ∧ n + 1 ≤ xMl M1 ∧ xMl M1 ≤ 45) (hk2 : xMn M2 = n ∧ n + 1 ≤ xMl M2 ∧ xMl M2 ≤ 45) {Nx : yMem → Prop} (hnx : ∀ m, Nx m → LG E i 1422 [] m ce sl Post)
    (h : yCon E d M1 ((1, ((0 : Nat) : Int)) :: lav (lX xs i) n 1) mem (fun r mem1 => ∃ x, r = some (0, x) ∧ yCon E d M2 ((1, ((95 : Nat) : Int)) :: lav (lX xs i) n 1) mem1 (fun r2 mem2 => ∃ y, r2 = some (0, y) ∧ w32 x = w32 y ∧ Nx mem2))) : LG E i pc [] mem ce sl Post := by
  simp only [lcmpb, Bool.and_eq_true] at hb
  obtain ⟨b1, b2, b3⟩ := hb
  refine l_seg (z := 0) (rest := []) hE hR hS hL h0 h6 b1 hn rfl hm1 hk1.1 hk1.2.1 hk1.2.2 rfl (by decide) (yCon_mono h ?_)
  rintro r mem1 ⟨x, rfl, h2⟩
  refine l_seg (z := 95) (rest := [(0, x)]) hE hR hS hL h0 h6 b2 hn rfl hm2 hk2.1 hk2.2.1 hk2.2.2 rfl (Nat.le_of_ble_eq_true rfl) (yCon_mono h2 ?_)
  rintro r mem2 ⟨y, rfl, h3, h4⟩
  exact yo_cmp (c := 0) hE hR (lo1 b3) (fun _ => hnx _ h4) (fun hne => absurd (show w32 x = w32 y from h3) hne)
/-- a contract as the loop needs it -/
def LC (E : yE) (d mi z n t : Nat) : Prop := ∀ M', xmt[mi]? = some M' → ∀ (k : Nat) (X : Nat → Int) (mem : yMem) (Q : Option yV → yMem → Prop), LJ k mem → (∀ x m, LJ k m → Q (some (t, x)) m) → yCon E d M' ((1, (z : Int)) :: lav X n 1) mem Q
def lchk (c : aCon) (mi z n t d : Nat) : Bool := Nat.beq (acM c) mi && (Nat.ble (acD c) d && (decide (acP c = []) && (lokA (acA c) z n && (((Nat.beq t 0 && (Nat.beq (acR c).1 0 || Nat.beq (acR c).1 3)) || (Nat.beq t 4 && Nat.beq (acR c).1 8)) && (tp3 (acW c) && (acW c).all kcq)))))
theorem LC_as {c : aCon} (hc : aSnd Om c) {E : yE} (hE : yEok E) {d mi z n t : Nat} (hk : lchk c mi z n t d = true) : LC E d mi z n t := by
  intro M' hM k X mem Q hI hQ
  simp only [lchk, Bool.and_eq_true, Nat.beq_eq, decide_eq_true_eq, Bool.not_eq_true', Bool.or_eq_true] at hk
  obtain ⟨k1, k2, k3, k4, k5, k6, k7⟩ := hk
  have hargs : aArgsOk (acA c) ((1, (z : Int)) :: lav X n 1) := by
    cases hA : acA c with
    | nil => rw [hA] at k4; cases k4
    | cons a r =>
      rw [hA] at k4
      simp only [lokA, Bool.and_eq_true, Nat.beq_eq] at k4
      refine ⟨?_, lokN_ok r n 1 k4.2.2⟩
      unfold aArgOk
      rw [k4.1, k4.2.1]
      exact (rfl : ((1, (z : Int)) : yV) = (1, (z : Int)))
  refine hc E hE d (Nat.le_of_ble_eq_true k2) M' (by rw [k1]; exact hM) _ mem Q hargs hI.1.1 hI.1.2.1 (by rw [k3]; exact fun q hq => by cases hq) (fun r m he => ?_)
  have hI' : LJ k m := LJ_a (Nat.le_refl k) hI he.2.1 he.2.2.1 he.2.2.2.1 k6 k7
  have hr := he.1
  cases r with
  | none =>
    have hr : (acR c).1 = 99 := hr
    omega
  | some y =>
    obtain ⟨ty, x⟩ := y
    have hr : aArgOk (acR c) (ty, x) := hr
    have ht : ty = t := by
      unfold aArgOk at hr
      rcases k5 with ⟨rfl, h | h⟩ | ⟨rfl, h⟩ <;> rw [h] at hr
      · exact hr.1
      · exact hr.1
      · exact hr
    subst ht
    exact hQ x m hI'
/-- a case of the law -/
def LK (E : yE) (L : Nat) (xs : Nat → Int32) (pc : Nat) : Prop := ∀ (i : Int) (mem : yMem) (ce sl : Nat) (Post : Option yV → yMem → Prop), yRm room_1 1000 (ce + 1) (sl + 6) → lSc E L xs → L ≤ 3072 → 0 ≤ w32 i → w32 i + 6 ≤ (L : Int) → LJ (w32 i).toNat mem → (∀ m ce' sl', LJ ((w32 i).toNat + 6) m → ce' ≤ ce + 1 → sl' ≤ sl + 6 → LG E i 1422 [] m ce' sl' Post) → LG E i pc [] mem ce sl Post
theorem yRm_le {R : Room} {d ce sl ce' sl' : Nat} (h : yRm R d ce' sl') (h1 : ce ≤ ce') (h2 : sl ≤ sl') : yRm R d ce sl := ⟨h.1, Nat.le_trans h1 h.2.1, Nat.le_trans h2 h.2.2⟩
theorem LK_of {E : yE} (hE : yEok E) {L : Nat} {xs : Nat → Int32} {pc n mi1 mi2 po t : Nat} {M1 M2 : xM} (hb : lcaseb pc n mi1 mi2 po = true) (hn : n ≤ 5) (hpo : (po = 10 ∧ t = 0) ∨ (po = 69 ∧ t = 4)) (hm1 : xmt[mi1]? = some M1) (hm2 : xmt[mi2]? = some M2) (hk1 : xMn M1 = n ∧ n + 1 ≤ xMl M1 ∧ xMl M1 ≤ 45) (hk2 : xMn M2 = n ∧ n + 1 ≤ xMl M2 ∧ xMl M2 ≤ 45) (c1 : LC E 1000 mi1 0 n t) (c2 : LC E 1000 mi2 95 n t) : LK E L xs pc := by
  intro i mem ce sl Post hR hS hL h0 h6 hI nx
  refine l_case (d := 1000) (t := t) hE (yRm_le hR (by omega) (by omega)) hS hL h0 h6 hb hn hpo hm1 hm2 hk1 hk2 (Nx := LJ (w32 i).toNat) (fun m hm => nx m ce sl (LJ_le (Nat.le_add_right _ 6) hm) (by omega) (by omega)) ?_
  exact c1 M1 hm1 _ _ mem _ hI (fun x m1 hI1 => ⟨⟨x, rfl⟩, c2 M2 hm2 _ _ m1 _ hI1 (fun x m2 hI2 => ⟨⟨x, rfl⟩, hI2⟩)⟩)
theorem LK_px {E : yE} (hE : yEok E) {L : Nat} {xs : Nat → Int32} {pc n mi1 mi2 : Nat} {M1 M2 : xM} (hb : lcaseb pc n mi1 mi2 10 = true) (hn : n ≤ 5) (hm1 : xmt[mi1]? = some M1) (hm2 : xmt[mi2]? = some M2) (hk1 : xMn M1 = n ∧ n + 1 ≤ xMl M1 ∧ xMl M1 ≤ 45) (hk2 : xMn M2 = n ∧ n + 1 ≤ xMl M2 ∧ xMl M2 ≤ 45) (c : LXJ E n M1 M2 0) : LK E L xs pc := by
  intro i mem ce sl Post hR hS hL h0 h6 hI nx
  refine l_case (d := 1000) (t := 0) hE (yRm_le hR (by omega) (by omega)) hS hL h0 h6 hb hn (Or.inl ⟨rfl, rfl⟩) hm1 hm2 hk1 hk2 (Nx := LJ ((w32 i).toNat + 6)) (fun m hm => nx m ce sl hm (by omega) (by omega)) ?_
  refine yCon_mono (c (lX xs i) (w32 i).toNat mem (by omega) hI) (fun r m h => ?_)
  obtain ⟨x, rfl, h⟩ := h
  refine ⟨⟨x, rfl⟩, yCon_mono h (fun r m h => ?_)⟩
  obtain ⟨y, rfl, _, _, h⟩ := h
  exact ⟨⟨y, rfl⟩, h⟩
theorem LK_cx {E : yE} (hE : yEok E) {L : Nat} {xs : Nat → Int32} {pc n mi1 mi2 : Nat} {M1 M2 : xM} (hb : lcmpb pc n mi1 mi2 = true) (hn : n ≤ 5) (hm1 : xmt[mi1]? = some M1) (hm2 : xmt[mi2]? = some M2) (hk1 : xMn M1 = n ∧ n + 1 ≤ xMl M1 ∧ xMl M1 ≤ 45) (hk2 : xMn M2 = n ∧ n + 1 ≤ xMl M2 ∧ xMl M2 ≤ 45) (c : LXJ E n M1 M2 0) : LK E L xs pc := by
  intro i mem ce sl Post hR hS hL h0 h6 hI nx
  refine l_cmp (d := 1000) hE (yRm_le hR (by omega) (by omega)) hS hL h0 h6 hb hn hm1 hm2 hk1 hk2 (Nx := LJ ((w32 i).toNat + 6)) (fun m hm => nx m ce sl hm (by omega) (by omega)) ?_
  refine yCon_mono (c (lX xs i) (w32 i).toNat mem (by omega) hI) (fun r m h => ?_)
  obtain ⟨x, rfl, h⟩ := h
  refine ⟨x, rfl, yCon_mono h (fun r m h => ?_)⟩
  obtain ⟨y, rfl, e, _, h⟩ := h
  exact ⟨y, rfl, e rfl, h⟩

theorem lw_case0 {E : yE} (hE : yEok E) (hm : yman Om) (hmAC : yman OmAC) {L : Nat} {xs : Nat → Int32} : LK E L xs 196 := LK_px (n := 5) (mi1 := 14) (mi2 := 167) (M1 := xm_14) (M2 := xm_167) hE (by decide +kernel) (by decide) rfl rfl (by decide) (by decide) (LXJ_of (lx_feed hE) (as_kq (as_48 yoc_Om hm) hE (mi := 14) (n := 5) (by decide +kernel) rfl) (as_kr (as_82 yoc_Om hm) hE (mi := 167) (n := 5) (by decide +kernel) rfl))
theorem lw_case1 {E : yE} (hE : yEok E) (hm : yman Om) (hmAC : yman OmAC) {L : Nat} {xs : Nat → Int32} : LK E L xs 269 := LK_px (n := 1) (mi1 := 41) (mi2 := 242) (M1 := xm_41) (M2 := xm_242) hE (by decide +kernel) (by decide) rfl rfl (by decide) (by decide) (LXJ_of (lx_text hE hm) (kq_text hE hm) (kr_text hE))
theorem lw_case2 {E : yE} (hE : yEok E) (hm : yman Om) (hmAC : yman OmAC) {L : Nat} {xs : Nat → Int32} : LK E L xs 294 := LK_px (n := 1) (mi1 := 13) (mi2 := 166) (M1 := xm_13) (M2 := xm_166) hE (by decide +kernel) (by decide) rfl rfl (by decide) (by decide) (LXJ_of (lx_fault hE) (as_kq (as_46 yoc_Om hm) hE (mi := 13) (n := 1) (by decide +kernel) rfl) (as_kr (as_83 yoc_Om hm) hE (mi := 166) (n := 1) (by decide +kernel) rfl))
theorem lw_case3 {E : yE} (hE : yEok E) (hm : yman Om) (hmAC : yman OmAC) {L : Nat} {xs : Nat → Int32} : LK E L xs 319 := LK_px (n := 2) (mi1 := 22) (mi2 := 210) (M1 := xm_22) (M2 := xm_210) hE (by decide +kernel) (by decide) rfl rfl (by decide) (by decide) (LXJ_of (lx_named hE) (as_kq (as_59 yoc_Om hm) hE (mi := 22) (n := 2) (by decide +kernel) rfl) (as_kr (as_88 yoc_Om hm) hE (mi := 210) (n := 2) (by decide +kernel) rfl))
theorem lw_case5 {E : yE} (hE : yEok E) (hm : yman Om) (hmAC : yman OmAC) {L : Nat} {xs : Nat → Int32} : LK E L xs 396 := LK_px (n := 2) (mi1 := 40) (mi2 := 240) (M1 := xm_40) (M2 := xm_240) hE (by decide +kernel) (by decide) rfl rfl (by decide) (by decide) (LXJ_of (lx_tavern hE hm) (as_kq (as_78 yoc_Om hm) hE (mi := 40) (n := 2) (by decide +kernel) rfl) (as_kr (as_90 yoc_Om hm) hE (mi := 240) (n := 2) (by decide +kernel) rfl))
theorem lw_case6 {E : yE} (hE : yEok E) (hm : yman Om) (hmAC : yman OmAC) {L : Nat} {xs : Nat → Int32} : LK E L xs 433 := LK_px (n := 2) (mi1 := 44) (mi2 := 247) (M1 := xm_44) (M2 := xm_247) hE (by decide +kernel) (by decide) rfl rfl (by decide) (by decide) (LXJ_of (lx_verse hE) (as_kq (as_80 yoc_Om hm) hE (mi := 44) (n := 2) (by decide +kernel) rfl) (kr_RQ (fun X mem hG hO => c_verse hE (by decide) hG hO (fun r m h => ⟨⟨r, rfl⟩, RQn_RQ h⟩))))
theorem lw_case7 {E : yE} (hE : yEok E) (hm : yman Om) (hmAC : yman OmAC) {L : Nat} {xs : Nat → Int32} : LK E L xs 470 := LK_px (n := 3) (mi1 := 25) (mi2 := 216) (M1 := xm_25) (M2 := xm_216) hE (by decide +kernel) (by decide) rfl rfl (by decide) (by decide) (LXJ_of (lx_pitch hE) (as_kq (as_64 yoc_Om hm) hE (mi := 25) (n := 3) (by decide +kernel) rfl) (as_kr (as_91 yoc_Om hm) hE (mi := 216) (n := 3) (by decide +kernel) rfl))
theorem lw_case8 {E : yE} (hE : yEok E) (hm : yman Om) (hmAC : yman OmAC) {L : Nat} {xs : Nat → Int32} : LK E L xs 519 := LK_px (n := 3) (mi1 := 10) (mi2 := 161) (M1 := xm_10) (M2 := xm_161) hE (by decide +kernel) (by decide) rfl rfl (by decide) (by decide) (LXJ_of (lx_due hE hm) (as_kq (as_35 yoc_Om hm) hE (mi := 10) (n := 3) (by decide +kernel) rfl) (as_kr (as_98 yoc_Om hm) hE (mi := 161) (n := 3) (by decide +kernel) rfl))
theorem lw_case9 {E : yE} (hE : yEok E) (hm : yman Om) (hmAC : yman OmAC) {L : Nat} {xs : Nat → Int32} : LK E L xs 568 := LK_px (n := 3) (mi1 := 36) (mi2 := 232) (M1 := xm_36) (M2 := xm_232) hE (by decide +kernel) (by decide) rfl rfl (by decide) (by decide) (LXJ_of (lx_sounds hE hm) (as_kq (as_72 yoc_Om hm) hE (mi := 36) (n := 3) (by decide +kernel) rfl) (as_kr (as_99 yoc_Om hm) hE (mi := 232) (n := 3) (by decide +kernel) rfl))
theorem lw_case10 {E : yE} (hE : yEok E) (hm : yman Om) (hmAC : yman OmAC) {L : Nat} {xs : Nat → Int32} : LK E L xs 617 := LK_px (n := 2) (mi1 := 4) (mi2 := 149) (M1 := xm_4) (M2 := xm_149) hE (by decide +kernel) (by decide) rfl rfl (by decide) (by decide) (LXJ_of (lx_bids hE hm) (as_kq (as_28 yoc_Om hm) hE (mi := 4) (n := 2) (by decide +kernel) rfl) (as_kr (as_101 yoc_Om hm) hE (mi := 149) (n := 2) (by decide +kernel) rfl))
theorem lw_case11 {E : yE} (hE : yEok E) (hm : yman Om) (hmAC : yman OmAC) {L : Nat} {xs : Nat → Int32} : LK E L xs 654 := LK_px (n := 1) (mi1 := 9) (mi2 := 159) (M1 := xm_9) (M2 := xm_159) hE (by decide +kernel) (by decide) rfl rfl (by decide) (by decide) (LXJ_of (lx_cracks hE hm) (as_kq (as_34 yoc_Om hm) hE (mi := 9) (n := 1) (by decide +kernel) rfl) (as_kr (as_103 yoc_Om hm) hE (mi := 159) (n := 1) (by decide +kernel) rfl))
theorem lw_case12 {E : yE} (hE : yEok E) (hm : yman Om) (hmAC : yman OmAC) {L : Nat} {xs : Nat → Int32} : LK E L xs 679 := LK_px (n := 3) (mi1 := 27) (mi2 := 222) (M1 := xm_27) (M2 := xm_222) hE (by decide +kernel) (by decide) rfl rfl (by decide) (by decide) (LXJ_of (lx_redeem hE hm) (as_kq (as_66 yoc_Om hm) hE (mi := 27) (n := 3) (by decide +kernel) rfl) (kr_RQ (fun X mem hG hO => c_redeem hE hm (by decide) hG hO (fun r m h => ⟨⟨r, rfl⟩, h⟩))))
theorem lw_case13 {E : yE} (hE : yEok E) (hm : yman Om) (hmAC : yman OmAC) {L : Nat} {xs : Nat → Int32} : LK E L xs 728 := LK_px (n := 0) (mi1 := 43) (mi2 := 246) (M1 := xm_43) (M2 := xm_246) hE (by decide +kernel) (by decide) rfl rfl (by decide) (by decide) (LXJ_of (lx_undo hE hm) (as_kq (as_79 yoc_Om hm) hE (mi := 43) (n := 0) (by decide +kernel) rfl) (kr_RQ (fun X mem hG hO => c_undo hE (by decide) hG hO (fun r m h => ⟨⟨r, rfl⟩, h⟩))))
theorem lw_case14 {E : yE} (hE : yEok E) (hm : yman Om) (hmAC : yman OmAC) {L : Nat} {xs : Nat → Int32} : LK E L xs 741 := LK_px (n := 2) (mi1 := 32) (mi2 := 229) (M1 := xm_32) (M2 := xm_229) hE (by decide +kernel) (by decide) rfl rfl (by decide) (by decide) (LXJ_of (lx_sings hE hm) (as_kq (as_70 yoc_Om hm) hE (mi := 32) (n := 2) (by decide +kernel) rfl) (as_kr (as_104 yoc_Om hm) hE (mi := 229) (n := 2) (by decide +kernel) rfl))
theorem lw_case15 {E : yE} (hE : yEok E) (hm : yman Om) (hmAC : yman OmAC) {L : Nat} {xs : Nat → Int32} : LK E L xs 778 := LK_px (n := 2) (mi1 := 2) (mi2 := 145) (M1 := xm_2) (M2 := xm_145) hE (by decide +kernel) (by decide) rfl rfl (by decide) (by decide) (LXJ_of (lx_bar hE hm) (as_kq (as_3 yoc_Om hm) hE (mi := 2) (n := 2) (by decide +kernel) rfl) (as_kr (as_105 yoc_Om hm) hE (mi := 145) (n := 2) (by decide +kernel) rfl))
theorem lw_case16 {E : yE} (hE : yEok E) (hm : yman Om) (hmAC : yman OmAC) {L : Nat} {xs : Nat → Int32} : LK E L xs 815 := LK_px (n := 0) (mi1 := 38) (mi2 := 239) (M1 := xm_38) (M2 := xm_239) hE (by decide +kernel) (by decide) rfl rfl (by decide) (by decide) (LXJ_of (lx_sunday hE hm hmAC) (kq_sunday hE hm) (kr_RQ (fun X mem hG hO => c_sunday hE hmAC (by decide) hG hO (fun r m h => ⟨⟨r, rfl⟩, h⟩))))
theorem lw_case17 {E : yE} (hE : yEok E) (hm : yman Om) (hmAC : yman OmAC) {L : Nat} {xs : Nat → Int32} : LK E L xs 828 := LK_px (n := 2) (mi1 := 3) (mi2 := 147) (M1 := xm_3) (M2 := xm_147) hE (by decide +kernel) (by decide) rfl rfl (by decide) (by decide) (lj_best hE hm)
theorem lw_case18 {E : yE} (hE : yEok E) (hm : yman Om) (hmAC : yman OmAC) {L : Nat} {xs : Nat → Int32} : LK E L xs 865 := LK_cx (n := 3) (mi1 := 5) (mi2 := 152) (M1 := xm_5) (M2 := xm_152) hE (by decide +kernel) (by decide) rfl rfl (by decide) (by decide) (lj_chosen hE hm)
theorem lw_case19 {E : yE} (hE : yEok E) (hm : yman Om) (hmAC : yman OmAC) {L : Nat} {xs : Nat → Int32} : LK E L xs 914 := LK_px (n := 3) (mi1 := 35) (mi2 := 231) (M1 := xm_35) (M2 := xm_231) hE (by decide +kernel) (by decide) rfl rfl (by decide) (by decide) (LXJ_of (lx_sold hE hm) (as_kq (as_71 yoc_Om hm) hE (mi := 35) (n := 3) (by decide +kernel) rfl) (as_kr (as_107 yoc_Om hm) hE (mi := 231) (n := 3) (by decide +kernel) rfl))
theorem lw_case20 {E : yE} (hE : yEok E) (hm : yman Om) (hmAC : yman OmAC) {L : Nat} {xs : Nat → Int32} : LK E L xs 963 := LK_px (n := 1) (mi1 := 11) (mi2 := 163) (M1 := xm_11) (M2 := xm_163) hE (by decide +kernel) (by decide) rfl rfl (by decide) (by decide) (LXJ_of (lx_easter hE hm) (as_kq (as_38 yoc_Om hm) hE (mi := 11) (n := 1) (by decide +kernel) rfl) (as_kr (as_108 yoc_Om hm) hE (mi := 163) (n := 1) (by decide +kernel) rfl))
theorem lw_case21 {E : yE} (hE : yEok E) (hm : yman Om) (hmAC : yman OmAC) {L : Nat} {xs : Nat → Int32} : LK E L xs 988 := LK_px (n := 1) (mi1 := 16) (mi2 := 180) (M1 := xm_16) (M2 := xm_180) hE (by decide +kernel) (by decide) rfl rfl (by decide) (by decide) (LXJ_of (lx_hum hE hm) (as_kq (as_52 yoc_Om hm) hE (mi := 16) (n := 1) (by decide +kernel) rfl) (as_kr (as_109 yoc_Om hm) hE (mi := 180) (n := 1) (by decide +kernel) rfl))
theorem lw_case22 {E : yE} (hE : yEok E) (hm : yman Om) (hmAC : yman OmAC) {L : Nat} {xs : Nat → Int32} : LK E L xs 1013 := LK_px (n := 1) (mi1 := 37) (mi2 := 235) (M1 := xm_37) (M2 := xm_235) hE (by decide +kernel) (by decide) rfl rfl (by decide) (by decide) (LXJ_of (lx_strike hE hm) (as_kq (as_73 yoc_Om hm) hE (mi := 37) (n := 1) (by decide +kernel) rfl) (as_kr (as_110 yoc_Om hm) hE (mi := 235) (n := 1) (by decide +kernel) rfl))
theorem lw_case23 {E : yE} (hE : yEok E) (hm : yman Om) (hmAC : yman OmAC) {L : Nat} {xs : Nat → Int32} : LK E L xs 1038 := LK_px (n := 1) (mi1 := 19) (mi2 := 201) (M1 := xm_19) (M2 := xm_201) hE (by decide +kernel) (by decide) rfl rfl (by decide) (by decide) (LXJ_of (lx_known hE hm) (as_kq (as_54 yoc_Om hm) hE (mi := 19) (n := 1) (by decide +kernel) rfl) (as_kr (as_111 yoc_Om hm) hE (mi := 201) (n := 1) (by decide +kernel) rfl))
theorem lw_case24 {E : yE} (hE : yEok E) (hm : yman Om) (hmAC : yman OmAC) {L : Nat} {xs : Nat → Int32} : LK E L xs 1063 := LK_of (n := 0) (mi1 := 42) (mi2 := 243) (po := 10) (t := 0) (M1 := xm_42) (M2 := xm_243) hE (by decide +kernel) (by decide) (Or.inl ⟨rfl, rfl⟩) rfl rfl (by decide) (by decide) (LC_as (as_60 yoc_Om hm) hE (by decide +kernel)) (LC_as (as_114 yoc_Om hm) hE (by decide +kernel))
theorem lc_213 {E : yE} (hE : yEok E) (hm : yman Om) (hmAC : yman OmAC) : LC E 1000 213 95 2 0 := fun M' hM k X mem Q hI hQ => by
  have e : xm_213 = M' := Option.some.inj (show some xm_213 = some M' from hM)
  subst e
  exact c_odds hE hm (by decide) hI.1.1 hI.1.2.1 (fun r m h => hQ r m (LJ_R (Nat.le_refl k) hI h))
theorem lw_case25 {E : yE} (hE : yEok E) (hm : yman Om) (hmAC : yman OmAC) {L : Nat} {xs : Nat → Int32} : LK E L xs 1076 := LK_of (n := 2) (mi1 := 23) (mi2 := 213) (po := 10) (t := 0) (M1 := xm_23) (M2 := xm_213) hE (by decide +kernel) (by decide) (Or.inl ⟨rfl, rfl⟩) rfl rfl (by decide) (by decide) (LC_as (as_62 yoc_Om hm) hE (by decide +kernel)) (lc_213 hE hm hmAC)
theorem lw_case26 {E : yE} (hE : yEok E) (hm : yman Om) (hmAC : yman OmAC) {L : Nat} {xs : Nat → Int32} : LK E L xs 1113 := LK_of (n := 0) (mi1 := 15) (mi2 := 172) (po := 10) (t := 0) (M1 := xm_15) (M2 := xm_172) hE (by decide +kernel) (by decide) (Or.inl ⟨rfl, rfl⟩) rfl rfl (by decide) (by decide) (LC_as (as_51 yoc_Om hm) hE (by decide +kernel)) (LC_as (as_117 yoc_Om hm) hE (by decide +kernel))
theorem lw_case27 {E : yE} (hE : yEok E) (hm : yman Om) (hmAC : yman OmAC) {L : Nat} {xs : Nat → Int32} : LK E L xs 1126 := LK_of (n := 4) (mi1 := 28) (mi2 := 224) (po := 10) (t := 0) (M1 := xm_28) (M2 := xm_224) hE (by decide +kernel) (by decide) (Or.inl ⟨rfl, rfl⟩) rfl rfl (by decide) (by decide) (LC_as (as_67 yoc_Om hm) hE (by decide +kernel)) (LC_as (as_123 yoc_Om hm) hE (by decide +kernel))
theorem lw_case28 {E : yE} (hE : yEok E) (hm : yman Om) (hmAC : yman OmAC) {L : Nat} {xs : Nat → Int32} : LK E L xs 1187 := LK_of (n := 5) (mi1 := 12) (mi2 := 164) (po := 10) (t := 0) (M1 := xm_12) (M2 := xm_164) hE (by decide +kernel) (by decide) (Or.inl ⟨rfl, rfl⟩) rfl rfl (by decide) (by decide) (LC_as (as_45 yoc_Om hm) hE (by decide +kernel)) (LC_as (as_124 yoc_Om hm) hE (by decide +kernel))
theorem lw_case29 {E : yE} (hE : yEok E) (hm : yman Om) (hmAC : yman OmAC) {L : Nat} {xs : Nat → Int32} : LK E L xs 1260 := LK_px (n := 2) (mi1 := 29) (mi2 := 226) (M1 := xm_29) (M2 := xm_226) hE (by decide +kernel) (by decide) rfl rfl (by decide) (by decide) (LXJ_of (lx_run hE hm) (as_kq (as_69 yoc_Om hm) hE (mi := 29) (n := 2) (by decide +kernel) rfl) (as_kr (as_126 yoc_Om hm) hE (mi := 226) (n := 2) (by decide +kernel) rfl))
theorem lw_case30 {E : yE} (hE : yEok E) (hm : yman Om) (hmAC : yman OmAC) {L : Nat} {xs : Nat → Int32} : LK E L xs 1297 := LK_px (n := 1) (mi1 := 24) (mi2 := 215) (M1 := xm_24) (M2 := xm_215) hE (by decide +kernel) (by decide) rfl rfl (by decide) (by decide) (LXJ_of (lx_pay hE hm) (as_kq (as_63 yoc_Om hm) hE (mi := 24) (n := 1) (by decide +kernel) rfl) (as_kr (as_127 yoc_Om hm) hE (mi := 215) (n := 1) (by decide +kernel) rfl))
theorem lc_250 {E : yE} (hE : yEok E) (hm : yman Om) (hmAC : yman OmAC) : LC E 1000 250 95 3 4 := fun M' hM k X mem Q hI hQ => by
  have e : xm_250 = M' := Option.some.inj (show some xm_250 = some M' from hM)
  subst e
  exact c_whole hE hm (by decide) hI.1.1 hI.1.2.1 (fun r m h => hQ r m (LJ_R (Nat.le_refl k) hI h))
theorem lw_case31 {E : yE} (hE : yEok E) (hm : yman Om) (hmAC : yman OmAC) {L : Nat} {xs : Nat → Int32} : LK E L xs 1322 := LK_of (n := 3) (mi1 := 45) (mi2 := 250) (po := 69) (t := 4) (M1 := xm_45) (M2 := xm_250) hE (by decide +kernel) (by decide) (Or.inr ⟨rfl, rfl⟩) rfl rfl (by decide) (by decide) (LC_as (as_81 yoc_Om hm) hE (by decide +kernel)) (lc_250 hE hm hmAC)
theorem lw_case32 {E : yE} (hE : yEok E) (hm : yman Om) (hmAC : yman OmAC) {L : Nat} {xs : Nat → Int32} : LK E L xs 1371 := LK_px (n := 0) (mi1 := 18) (mi2 := 199) (M1 := xm_18) (M2 := xm_199) hE (by decide +kernel) (by decide) rfl rfl (by decide) (by decide) (LXJ_of (lx_keep hE hm) (as_kq (as_53 yoc_Om hm) hE (mi := 18) (n := 0) (by decide +kernel) rfl) (kr_RQ (fun X mem hG hO => c_keep hE (by decide) hG hO (fun r m h => ⟨⟨r, rfl⟩, h⟩))))
theorem lw_case33 {E : yE} (hE : yEok E) (hm : yman Om) (hmAC : yman OmAC) {L : Nat} {xs : Nat → Int32} : LK E L xs 1384 := LK_px (n := 0) (mi1 := 1) (mi2 := 144) (M1 := xm_1) (M2 := xm_144) hE (by decide +kernel) (by decide) rfl rfl (by decide) (by decide) (LXJ_of (lx_back hE hm) (kq_back hE hm) (kr_RQ (fun X mem hG hO => c_back hE (by decide) hG hO (fun r m h => ⟨⟨r, rfl⟩, h⟩))))
theorem lw_case34 {E : yE} (hE : yEok E) (hm : yman Om) (hmAC : yman OmAC) {L : Nat} {xs : Nat → Int32} : LK E L xs 1397 := LK_of (n := 1) (mi1 := 7) (mi2 := 157) (po := 10) (t := 0) (M1 := xm_7) (M2 := xm_157) hE (by decide +kernel) (by decide) (Or.inl ⟨rfl, rfl⟩) rfl rfl (by decide) (by decide) (LC_as (as_32 yoc_Om hm) hE (by decide +kernel)) (LC_as (as_128 yoc_Om hm) hE (by decide +kernel))
theorem dLk_370 : decode cL_law 370 = .ok (.invokestatic 39, 3) := by decide +kernel
theorem l_look {E : yE} (hE : yEok E) (hnc : ∀ s, yEX E s → va_Nc "java/util/NoSuchElementException" "java/lang/IndexOutOfBoundsException" s) {lv : yL} {st : List yV} {mem : yMem} {ce sl : Nat} {Post : Option yV → yMem → Prop} {x y : Int} (hG : aGok mem) (hR : yRm room_1 1000 (ce + 1) (sl + 6)) (hst : ysum st ≤ 8) (h : ∀ v m', (m' = mem ∨ ∃ w, m' = yset mem 143 0 w) → yG E room_1 xm_L1 373 lv ((0, v) :: st) m' (ce + 1) (sl + 6) Post) : yG E room_1 xm_L1 370 lv ((1, 143) :: (0, y) :: (0, x) :: (1, 0) :: st) mem ce sl Post := by
  intro p e s m args below meth c A Qc hC hQ H locs ls hl hP hS
  have C := hC.1.1
  have hGw : ∀ w ∈ va_wsS RL 39 yL_look xLW, w ∈ xgt := fun w hw => by
    rcases List.mem_append.mp hw with hw | hw
    · simp only [List.mem_cons, List.not_mem_nil, or_false] at hw
      rcases hw with rfl | rfl | rfl
      · exact (xwm 1294 (by decide +kernel) (by decide +kernel))
      · exact (xwm 1295 (by decide +kernel) (by decide +kernel))
      · exact (xwm 115 (by decide +kernel) (by decide +kernel))
    · rcases List.mem_cons.mp hw with rfl | hw
      · exact (xwm 1296 (by decide +kernel) (by decide +kernel))
      · exact hw
  refine yw_call (st := (1, 143) :: (0, y) :: (0, x) :: (1, 0) :: st) (rest := st) (Pc := lkP mem) (mc := 1) (ms := 6) hC hS (vx_runSW (As := llAs E x y) (rest := st.map (ydv E)) (nL := 7) (n := 4) (index := 39) ⟨C.1, C.2.1, hC.1.2.1, C.2.2.1, C.2.2.2⟩ (y_lklaw hE hnc hG x y H.size (yP_size hP)) (vx_cwSW 4 C.2.2.2 (xgt_in' hGw) rfl rfl rfl ⟨by decide, by decide, by decide +kernel⟩ ⟨by decide, by decide⟩) ⟨yPp_blind hE, fun U hU hW => ⟨rfl, yPp_at hC hE hP hS U hU hW⟩⟩ rfl rfl hl.1 rfl (lv_room (by rw [ysum_ok]; exact hst)) dLk_370 hR.2) (fun r mem' H1 locs1 hr hP1 hS1 => ?_)
  obtain ⟨⟨v, rfl⟩, hm'⟩ := hr
  exact h v mem' hm' p e s m args below meth c A Qc hC hQ H1 locs1 ls hl hP1 hS1
theorem lw_case4 {E : yE} (hE : yEok E) (hm : yman Om) (hnc : ∀ s, yEX E s → va_Nc "java/util/NoSuchElementException" "java/lang/IndexOutOfBoundsException" s) {L : Nat} {xs : Nat → Int32} : LK E L xs 356 := by
  intro i mem ce sl Post hR hS hL h0 h6 hI nx
  have hR' := yRm_le hR (show ce ≤ ce + 1 by omega) (show sl ≤ sl + 6 by omega)
  refine yo_ld (nx := 357) (k := 1) (i := 1) (v := (1, 0)) hE hR' (lo1 (by decide +kernel)) rfl rfl ?_
  refine l_args hE hR' hS hL h0 h6 2 1 357 _ (by decide +kernel) (by decide) ?_
  refine yo_ld (pc := 369) (nx := 370) (k := 1) (i := 3) (v := (1, 143)) hE hR' (lo1 (by decide +kernel)) rfl rfl ?_
  refine l_look (x := lX xs i 1) (y := lX xs i 2) (st := []) hE hnc hI.1.1 hR (by decide) (fun v m' hm' => ?_)
  have hI' : LJ (w32 i).toNat m' := by
    rcases hm' with rfl | ⟨w, rfl⟩
    · exact hI
    · exact LJ_fr (Nat.le_refl _) hI (aGok_set hI.1.1 (ag_32 (agam_A ae_143))) (yoc_Om mem _ (fun i j hi => yset_o (fun e => by subst e; exact absurd hi (by decide))) hI.1.2.1) (fun i j h => yset_o (by unfold tpP at h; omega)) (fun i j h => yset_o (by unfold kcR at h; omega))
  refine yo_st (nx := 375) (k := 0) (i := 5) hE hR (lo1 (by decide +kernel)) rfl (by decide) (zG_sub (lv' := llaw i) (fun q hq => List.mem_cons_of_mem _ hq) ?_)
  refine l_seg (pc := 375) (d := 1000) (r := 2) (n := 2) (mi := 207) (ci := 12) (z := 95) (M' := xm_207) (rest := []) hE hR hS hL h0 h6 (by decide +kernel) (by decide) rfl rfl rfl (by decide) (by decide) rfl (by decide) ?_
  refine (LC_as (as_89 yoc_Om hm) hE (by decide +kernel) : LC E 1000 207 95 2 0) xm_207 rfl _ _ m' _ hI' (fun x m2 hI2 => ?_)
  refine yo_st (pc := 391) (nx := 393) (k := 0) (i := 6) hE hR (lo1 (by decide +kernel)) rfl (by decide) (zG_sub (lv' := llaw i) (fun q hq => List.mem_cons_of_mem _ hq) ?_)
  exact yo_go (nx := 1422) hE hR (lo1 (by decide +kernel)) (nx m2 (ce + 1) (sl + 6) (LJ_le (Nat.le_add_right _ 6) hI2) (Nat.le_refl _) (Nat.le_refl _))
section LOOP
variable {E : yE} {L : Nat} {xs : Nat → Int32} {mem : yMem} {ce sl : Nat} {Post : Option yV → yMem → Prop} {i : Int}
theorem l_rm {ce sl : Nat} (h1 : ce ≤ 601024) (h2 : sl ≤ 7293034) : yRm room_1 1000 ce sl := ⟨⟨by decide, by decide⟩, h1, h2⟩
theorem l_head (hE : yEok E) (hR : yRm room_1 1000 ce sl) (hS : lSc E L xs) (hL : L ≤ 3072) (h0 : 0 ≤ w32 i) (hP : ∀ m, Post (some (0, cI 1)) m) (h : w32 i + 6 ≤ (L : Int) → LG E i 33 [] mem ce sl Post) : LG E i 23 [] mem ce sl Post := by
  refine yo_ld (nx := 25) (k := 0) (i := 4) (v := (0, i)) hE hR (lo1 (by decide +kernel)) rfl rfl ?_
  refine yo_ld (nx := 26) (k := 1) (i := 0) (v := (5, 50)) hE hR (lo1 (by decide +kernel)) rfl rfl ?_
  refine l_slen (nx := 27) hS (lo1 (by decide +kernel)) ?_
  refine yo_c (nx := 29) (a := 6) hE hR (lo1 (by decide +kernel)) ?_
  refine yo_bin (nx := 30) (o := 1) hE hR (lo1 (by decide +kernel)) (by decide) ?_
  have eL : w32 (L : Int) = (L : Int) := w32_of (by omega) (by omega)
  have e6 : w32 ((L : Int) - cI 6) = (L : Int) - 6 := by
    rw [l_cI (show 6 < 100 by decide)]
    exact (w32_of (by omega) (by omega)).trans (by rfl)
  refine yo_cmp (nx := 33) (t := 1428) (c := 4) hE hR (lo1 (by decide +kernel)) (fun _ => ?_) (fun hn => h ?_)
  · refine yo_c (nx := 1429) (a := 1) hE hR (lo1 (by decide +kernel)) ?_
    exact yo_rt (nx := 0) (b := 3) hE hR (lo1 (by decide +kernel)) (Or.inr ⟨rfl, Or.inr (by decide)⟩) (hP _)
  · have hn' : ¬ w32 ((L : Int) - cI 6) < w32 i := hn
    omega
theorem l_body (hE : yEok E) (hm : yman Om) (hmAC : yman OmAC) (hnc : ∀ s, yEX E s → va_Nc "java/util/NoSuchElementException" "java/lang/IndexOutOfBoundsException" s) (hR : yRm room_1 1000 (ce + 1) (sl + 6)) (hS : lSc E L xs) (hL : L ≤ 3072) (h0 : 0 ≤ w32 i) (h6 : w32 i + 6 ≤ (L : Int)) (hI : LJ (w32 i).toNat mem) (nx : ∀ m ce' sl', LJ ((w32 i).toNat + 6) m → ce' ≤ ce + 1 → sl' ≤ sl + 6 → LG E i 1422 [] m ce' sl' Post) : LG E i 33 [] mem ce sl Post := by
  have hR' := yRm_le hR (show ce ≤ ce + 1 by omega) (show sl ≤ sl + 6 by omega)
  refine yo_ld (nx := 34) (k := 1) (i := 0) (v := (5, 50)) hE hR' (lo1 (by decide +kernel)) rfl rfl ?_
  refine yo_ld (nx := 36) (k := 0) (i := 4) (v := (0, i)) hE hR' (lo1 (by decide +kernel)) rfl rfl ?_
  refine l_sld (nx := 37) hS hL (lo1 (by decide +kernel)) h0 (by omega) ?_
  refine yo_c (nx := 39) (a := 63) hE hR' (lo1 (by decide +kernel)) ?_
  refine yo_bin (nx := 40) (o := 3) hE hR' (lo1 (by decide +kernel)) (by decide) ?_
  have k4 := lw_case4 hE hm hnc i mem ce sl Post hR hS hL h0 h6 hI nx
  refine yo_sw (t := 1422) (cs := [(0, 196), (1, 269), (2, 294), (3, 319), (4, 356), (5, 396), (6, 433), (7, 470), (8, 519), (9, 568), (10, 617), (11, 654), (12, 679), (13, 728), (14, 741), (15, 778), (16, 815), (17, 828), (18, 865), (19, 914), (20, 963), (21, 988), (22, 1013), (23, 1038), (24, 1063), (25, 1076), (26, 1113), (27, 1126), (28, 1187), (29, 1260), (30, 1297), (31, 1322), (32, 1371), (33, 1384), (34, 1397)]) hE hR' (l1o rfl) ?_ (fun _ => nx mem ce sl (LJ_le (Nat.le_add_right _ 6) hI) (by omega) (by omega)) (by decide)
  exact xcns (fun _ => lw_case0 hE hm hmAC i mem ce sl Post hR hS hL h0 h6 hI nx) <| xcns (fun _ => lw_case1 hE hm hmAC i mem ce sl Post hR hS hL h0 h6 hI nx) <| xcns (fun _ => lw_case2 hE hm hmAC i mem ce sl Post hR hS hL h0 h6 hI nx) <| xcns (fun _ => lw_case3 hE hm hmAC i mem ce sl Post hR hS hL h0 h6 hI nx) <| xcns (fun _ => k4) <| xcns (fun _ => lw_case5 hE hm hmAC i mem ce sl Post hR hS hL h0 h6 hI nx) <| xcns (fun _ => lw_case6 hE hm hmAC i mem ce sl Post hR hS hL h0 h6 hI nx) <| xcns (fun _ => lw_case7 hE hm hmAC i mem ce sl Post hR hS hL h0 h6 hI nx) <| xcns (fun _ => lw_case8 hE hm hmAC i mem ce sl Post hR hS hL h0 h6 hI nx) <| xcns (fun _ => lw_case9 hE hm hmAC i mem ce sl Post hR hS hL h0 h6 hI nx) <| xcns (fun _ => lw_case10 hE hm hmAC i mem ce sl Post hR hS hL h0 h6 hI nx) <| xcns (fun _ => lw_case11 hE hm hmAC i mem ce sl Post hR hS hL h0 h6 hI nx) <| xcns (fun _ => lw_case12 hE hm hmAC i mem ce sl Post hR hS hL h0 h6 hI nx) <| xcns (fun _ => lw_case13 hE hm hmAC i mem ce sl Post hR hS hL h0 h6 hI nx) <| xcns (fun _ => lw_case14 hE hm hmAC i mem ce sl Post hR hS hL h0 h6 hI nx) <| xcns (fun _ => lw_case15 hE hm hmAC i mem ce sl Post hR hS hL h0 h6 hI nx) <| xcns (fun _ => lw_case16 hE hm hmAC i mem ce sl Post hR hS hL h0 h6 hI nx) <| xcns (fun _ => lw_case17 hE hm hmAC i mem ce sl Post hR hS hL h0 h6 hI nx) <| xcns (fun _ => lw_case18 hE hm hmAC i mem ce sl Post hR hS hL h0 h6 hI nx) <| xcns (fun _ => lw_case19 hE hm hmAC i mem ce sl Post hR hS hL h0 h6 hI nx) <| xcns (fun _ => lw_case20 hE hm hmAC i mem ce sl Post hR hS hL h0 h6 hI nx) <| xcns (fun _ => lw_case21 hE hm hmAC i mem ce sl Post hR hS hL h0 h6 hI nx) <| xcns (fun _ => lw_case22 hE hm hmAC i mem ce sl Post hR hS hL h0 h6 hI nx) <| xcns (fun _ => lw_case23 hE hm hmAC i mem ce sl Post hR hS hL h0 h6 hI nx) <| xcns (fun _ => lw_case24 hE hm hmAC i mem ce sl Post hR hS hL h0 h6 hI nx) <| xcns (fun _ => lw_case25 hE hm hmAC i mem ce sl Post hR hS hL h0 h6 hI nx) <| xcns (fun _ => lw_case26 hE hm hmAC i mem ce sl Post hR hS hL h0 h6 hI nx) <| xcns (fun _ => lw_case27 hE hm hmAC i mem ce sl Post hR hS hL h0 h6 hI nx) <| xcns (fun _ => lw_case28 hE hm hmAC i mem ce sl Post hR hS hL h0 h6 hI nx) <| xcns (fun _ => lw_case29 hE hm hmAC i mem ce sl Post hR hS hL h0 h6 hI nx) <| xcns (fun _ => lw_case30 hE hm hmAC i mem ce sl Post hR hS hL h0 h6 hI nx) <| xcns (fun _ => lw_case31 hE hm hmAC i mem ce sl Post hR hS hL h0 h6 hI nx) <| xcns (fun _ => lw_case32 hE hm hmAC i mem ce sl Post hR hS hL h0 h6 hI nx) <| xcns (fun _ => lw_case33 hE hm hmAC i mem ce sl Post hR hS hL h0 h6 hI nx) <| xcns (fun _ => lw_case34 hE hm hmAC i mem ce sl Post hR hS hL h0 h6 hI nx) <| xnl
theorem l_loop (hE : yEok E) (hm : yman Om) (hmAC : yman OmAC) (hnc : ∀ s, yEX E s → va_Nc "java/util/NoSuchElementException" "java/lang/IndexOutOfBoundsException" s) (hS : lSc E L xs) (hL : L ≤ 3072) (hP : ∀ m, Post (some (0, cI 1)) m) : ∀ (n : Nat) (i : Int) (mem : yMem) (ce sl : Nat), L ≤ (w32 i).toNat + n → 0 ≤ w32 i → w32 i ≤ 4000 → LJ (w32 i).toNat mem → ce ≤ 144 + (w32 i).toNat → sl ≤ 14558 + (w32 i).toNat → LG E i 23 [] mem ce sl Post := by
  intro n
  induction n with
  | zero =>
    intro i mem ce sl hn h0 h4 hI hc hs
    exact l_head hE (l_rm (by omega) (by omega)) hS hL h0 hP (fun h6 => by omega)
  | succ n ih =>
    intro i mem ce sl hn h0 h4 hI hc hs
    refine l_head hE (l_rm (by omega) (by omega)) hS hL h0 hP (fun h6 => ?_)
    refine l_body hE hm hmAC hnc (l_rm (by omega) (by omega)) hS hL h0 h6 hI (fun m ce' sl' hI' hc' hs' => ?_)
    have e6 : w32 (i + cI 6) = w32 i + 6 := by
      rw [l_cI (show 6 < 100 by decide), w32_ad (by rw [w32_of (x := ((6 : Nat) : Int)) (by decide) (by decide)]; omega) (by rw [w32_of (x := ((6 : Nat) : Int)) (by decide) (by decide)]; omega), w32_of (x := ((6 : Nat) : Int)) (by decide) (by decide)]
      rfl
    refine yo_inc (d := 1000) (nx := 1425) (i := 4) (a := 6) hE (l_rm (by omega) (by omega)) (lo1 (by decide +kernel)) rfl (by decide) ?_
    refine yo_go (d := 1000) (nx := 23) hE (l_rm (by omega) (by omega)) (lo1 (by decide +kernel)) ?_
    exact ih (i + cI 6) m ce' sl' (by omega) (by omega) (by omega) (by rw [e6, show (w32 i + 6).toNat = (w32 i).toNat + 6 by omega]; exact hI') (by omega) (by omega)
end LOOP
end
section
/-! THE CLAIM OUT OF ONE WALK OF THE LAW'S BODY. Your part is whole_start (and what it stands on); all else here is the same for every law, but numbers. -/
def R_law : String := "RansomHymnLaw"
def lw_P (b : Addr) (xs : List Int32) (args : Array Value) (s : State) : Prop := args = #[.ref b] ∧ s.IntsAt b xs ∧ xs.length ≤ 3072 ∧ (Jvm.Cond.and given_1 narrow_1).before args s = true
def lw_Q (_ : Array Value) (s : State) (o : Outcome) (t : State) : Prop := o = .returned (some (.int 1)) ∧ Framed s o t [] 601024 7293034
def lw_Z (below : List Frame) (a : Array Value) (s : State) : State → Prop := fun t => ∃ o, t.status = .running ∧ Ended t below o ∧ lw_Q a s o t
/-- the law's own end, with 1 on the stack, nothing written that was there before, its room as the claim has it -/
theorem lw_ret {p : Program} {l : Launch} {e : Env} {s : State} {m : MethodId} {below : List Frame} {meth : Method} {c : Code} {b : Nat} (hx : p.tables.exec = Jvm.exec) (hb : c.code = code) (hr : meth.sig.returnType = ret) (hlocks : meth.locks = false) {pc : Nat} {H : Heap} {ls : Array Slot} (hdg : decode code pc = .ok (.ireturn, 1)) : W p l e room_1 s m #[Value.ref b] below meth c H [] 601024 7293034 (lw_Z below #[Value.ref b] s) (F0 m pc ls [.int 1]) := by
  intro T hT X
  obtain ⟨fs, hret, hrun, hended, hW, hframe⟩ := X.leave (v := some (.int 1)) (hlocks := hlocks) (fun h => by rw [hr] at h; cases h)
  have hmeth' : T.vm.method? m = some meth := X.method'
  refine ⟨T.setFrames fs, ?_, .returned (some (.int 1)), hrun, hended, rfl, ⟨_, rfl⟩, hW, hframe⟩
  jvm_step X.here [X.here.top, hx, hb, hdg, hmeth', hr, ret, narrow_b1]
  (try refine ⟨rfl, ?_⟩); (try refine ⟨rfl, ?_⟩)
  first | (intro acts; rw [hret _ acts rfl rfl rfl]) | rw [hret _ _ rfl rfl rfl]
  exact Steps.refl _
/-- what holds at the law's entry: the machine, the code, the tables' words (any of lw_tbl by 'hts w (by decide +kernel)'), the script of L ints xs at the cell b, what the Statement gives of the start (any of its parts by flat_of_before) -/
def lw_At (p : Program) (s : State) (m : MethodId) (meth : Method) (c : Code) (b L : Nat) (xs : Nat → Int32) : Prop :=
  p.tables.exec = Jvm.exec ∧ c.code = code ∧ meth.sig.returnType = ret ∧ c.maxLocals = 7 ∧ s.vm.findClass R_law = some m.cls ∧ (∀ w ∈ lw_tbl, w.before #[Value.ref b] s = true) ∧ va_X b L xs s s.heap ∧ b < s.heap.size ∧ meth.locks = false ∧ (Jvm.Cond.and given_1 narrow_1).before #[Value.ref b] s = true
end
section
/-! the two objects as the constructors leave them: the memory -/
def ymv (v : xV) : Int := match v with
  | (0, n) => cI n
  | (4, n) => cL n
  | _ => 0
def ymc (c : xC) (j : Nat) : Int := match c with
  | .inl (_, vs) => ymv (vs.getD j (0, 0))
  | .inr (_, fs) => ymv (fs.getD j (0, 0))
def ym0 : yMem := fun i j => match xK0[i]? with
  | some c => ymc c j
  | none => 0
def yfr : List xV → List yV → Bool
  | [], [] => true
  | f :: r, g :: s => ((Nat.beq f.1 0 && Nat.beq g.1 0) || (Nat.beq f.1 1 && (Nat.beq g.1 1 && decide (((f.2 : Nat) : Int) = g.2)))) && yfr r s
  | _, _ => false
def yrel (c : xC) (S : yS) : Bool := match c, S with
  | .inl (k, vs), .inl (k', n, rs) => Nat.beq k k' && (Nat.beq vs.length n && (match k with
    | 2 => vs.all (fun v => Nat.beq v.1 4)
    | 4 => decide (vs = rs.map (fun q => (1, q)))
    | _ => vs.all (fun v => Nat.beq v.1 0)))
  | .inr (ci, fs), .inr (ci', gs) => Nat.beq ci ci' && yfr fs gs
  | _, _ => false
def yrelL : List xC → List yS → Bool
  | [], [] => true
  | c :: K, S :: L => yrel c S && yrelL K L
  | _, _ => false
theorem getD_all {α : Type} {p : α → Bool} {d : α} (hd : p d = true) : ∀ (l : List α) (j : Nat), l.all p = true → p (l.getD j d) = true
  | [], j, _ => by simpa using hd
  | a :: r, 0, h => by
    simp only [List.all_cons, Bool.and_eq_true] at h
    simpa using h.1
  | a :: r, j + 1, h => by
    simp only [List.all_cons, Bool.and_eq_true] at h
    have := getD_all hd r j h.2
    simpa using this
theorem ymv0 {v : xV} (h : v.1 = 0) : ymv v = cI v.2 := by
  obtain ⟨a, n⟩ := v
  dsimp only at h
  subst h
  rfl
theorem ymv4 {v : xV} (h : v.1 = 4) : ymv v = cL v.2 := by
  obtain ⟨a, n⟩ := v
  dsimp only at h
  subst h
  rfl
section WD
variable {E : yE} {ρ : Nat → Int32}
theorem yarr_i {vs : List xV} (h : vs.all (fun v => Nat.beq v.1 0) = true) (j : Nat) : xdi ρ (vs.getD j (0, 0)) = iI (ymv (vs.getD j (0, 0))) := by
  have := getD_all (p := fun v : xV => Nat.beq v.1 0) (d := (0, 0)) rfl vs j h
  rw [Nat.beq_eq] at this
  rw [ymv0 this, iI_c]
  generalize vs.getD j (0, 0) = v at this ⊢
  obtain ⟨a, n⟩ := v
  dsimp only at this
  subst this
  rfl
theorem yarr_l {vs : List xV} (h : vs.all (fun v => Nat.beq v.1 4) = true) (j : Nat) : xdl (vs.getD j (4, 0)) = lI (ymv (vs.getD j (0, 0))) := by
  have h1 := getD_all (p := fun v : xV => Nat.beq v.1 4) (d := (4, 0)) rfl vs j h
  by_cases hj : j < vs.length
  · have e : vs.getD j (4, 0) = vs.getD j (0, 0) := by
      rw [List.getD_eq_getElem?_getD, List.getD_eq_getElem?_getD, List.getElem?_eq_getElem hj]
      rfl
    rw [e] at h1 ⊢
    rw [Nat.beq_eq] at h1
    rw [ymv4 h1, lI_c]
    rfl
  · have e : ∀ d : xV, vs.getD j d = d := fun d => by
      rw [List.getD_eq_getElem?_getD, List.getElem?_eq_none (by omega)]
      rfl
    rw [e, e]
    decide
theorem yfr_ok {f : Nat → Int} : ∀ (fs : List xV) (gs : List yV) (o : Nat), yfr fs gs = true → (∀ j, f (o + j) = ymv (fs.getD j (0, 0))) → fs.map (xdv (yb E) ρ (ysa E)) = yfs E o gs f
  | [], [], o, _, _ => rfl
  | v :: r, g :: s, o, h, hf => by
    simp only [yfr, Bool.and_eq_true, Bool.or_eq_true, Nat.beq_eq, decide_eq_true_eq] at h
    obtain ⟨h1, h2⟩ := h
    simp only [List.map_cons, yfs]
    have hv : f o = ymv v := by
      have := hf 0
      simpa using this
    congr 1
    · obtain ⟨a, n⟩ := v
      obtain ⟨t, x⟩ := g
      rcases h1 with ⟨e1, e2⟩ | ⟨e1, e2, e3⟩
      · dsimp only at e1 e2
        subst e1; subst e2
        rw [hv]
        show Value.int (nI n) = Value.int (iI (cI n))
        rw [iI_c]
      · dsimp only at e1 e2 e3
        subst e1; subst e2; subst e3
        show Value.ref (yb E + n) = Value.ref (yb E + ((n : Nat) : Int).toNat)
        rw [Int.toNat_natCast]
    · refine yfr_ok r s (o + 1) h2 (fun j => ?_)
      have := hf (j + 1)
      rw [show o + 1 + j = o + (j + 1) by omega, this]
      simp
  | [], _ :: _, _, h, _ => by cases h
  | _ :: _, [], _, h, _ => by cases h
theorem yrel_ok {c : xC} {S : yS} (h : yrel c S = true) : xce (yb E) ρ (ysa E) (yda E) c = yce E S (ymc c) := by
  match c, S, h with
  | .inr (ci, fs), .inr (ci', gs), h =>
    simp only [yrel, Bool.and_eq_true, Nat.beq_eq] at h
    obtain ⟨rfl, h2⟩ := h
    show Sum.inr (ci, fs.map (xdv (yb E) ρ (ysa E))) = Sum.inr (ci, yfs E 0 gs (ymc (.inr (ci, fs))))
    rw [yfr_ok (f := ymc (.inr (ci, fs))) fs gs 0 h2 (fun j => by rw [Nat.zero_add]; rfl)]
  | .inl (k, vs), .inl (k', n, rs), h =>
    simp only [yrel, Bool.and_eq_true, Nat.beq_eq] at h
    obtain ⟨rfl, rfl, h3⟩ := h
    match k, h3 with
    | 2, h3 =>
      show Sum.inl (yda E 2, vs.length, _) = Sum.inl (yda E 2, vs.length, _)
      congr 5
      funext j
      exact yarr_l h3 j
    | 4, h3 =>
      have h3 : vs = rs.map (fun q => (1, q)) := of_decide_eq_true h3
      show Sum.inl (yda E 4, vs.length, Sum.inr (Sum.inr (Sum.inr (Sum.inr (fun j => xdr (yb E) (vs.getD j (2, 0))))))) = Sum.inl (yda E 4, vs.length, Sum.inr (Sum.inr (Sum.inr (Sum.inr (fun j => (rs[j]?).map (fun q => yb E + q))))))
      congr 7
      funext j
      rw [h3, List.getD_eq_getElem?_getD, List.getElem?_map]
      cases rs[j]? <;> rfl
    | 0, h3 =>
      show Sum.inl (yda E 0, vs.length, _) = Sum.inl (yda E 0, vs.length, _)
      congr 4
      funext j
      exact yarr_i h3 j
    | 1, h3 =>
      show Sum.inl (yda E 1, vs.length, _) = Sum.inl (yda E 1, vs.length, _)
      congr 4
      funext j
      exact yarr_i h3 j
    | 3, h3 =>
      show Sum.inl (yda E 3, vs.length, _) = Sum.inl (yda E 3, vs.length, _)
      congr 4
      funext j
      exact yarr_i h3 j
    | k + 5, h3 =>
      show Sum.inl (yda E (k + 5), vs.length, _) = Sum.inl (yda E (k + 5), vs.length, _)
      congr 4
      funext j
      exact yarr_i h3 j
  | .inl _, .inr _, h => cases h
  | .inr _, .inl _, h => cases h
theorem ycx_of {mem : yMem} : ∀ (K : xH) (L : List yS) (o : Nat), yrelL K L = true → (∀ i c, K[i]? = some c → mem (o + i) = ymc c) → xcx (yb E) ρ (ysa E) (yda E) o K = ycx E mem o L
  | [], [], _, _, _ => rfl
  | c :: K, S :: L, o, h, hm => by
    simp only [yrelL, Bool.and_eq_true] at h
    simp only [xcx, ycx]
    have h0 : mem o = ymc c := hm 0 c rfl
    rw [yrel_ok h.1, h0, ycx_of K L (o + 1) h.2 (fun i c' hc => by rw [show o + 1 + i = o + (i + 1) by omega]; exact hm (i + 1) c' (by simpa using hc))]
  | [], _ :: _, _, h, _ => by cases h
  | _ :: _, [], _, h, _ => by cases h
end WD
set_option maxRecDepth 1000000 in
theorem yrel_0 : yrelL xK0 ysh = true := by decide +kernel
theorem yworld {E : yE} {ρ : Nat → Int32} : xcx (yb E) ρ (ysa E) (yda E) 0 xK0 = yW E ym0 := ycx_of xK0 ysh 0 yrel_0 (fun i c hc => by
  funext j
  show (match xK0[0 + i]? with
    | some c => ymc c j
    | none => 0) = ymc c j
  rw [Nat.zero_add, hc])
/-! it is within the intervals -/
def yinb (v : xV) (q : Int × Int) : Bool := if Nat.beq v.2 0 then decide (q.1 ≤ 0) && decide (0 ≤ q.2) else decide (q.1 ≤ w32 (ymv v)) && decide (w32 (ymv v) ≤ q.2)
theorem yinb_ok {v : xV} {q : Int × Int} (h : yinb v q = true) : q.1 ≤ w32 (ymv v) ∧ w32 (ymv v) ≤ q.2 := by
  unfold yinb at h
  split at h
  · next e =>
    simp only [Bool.and_eq_true, decide_eq_true_eq] at h
    rw [Nat.beq_eq] at e
    have e0 : ymv v = 0 := by
      obtain ⟨a, n⟩ := v
      dsimp only at e
      subst e
      unfold ymv
      split
      · next h' => cases h'; rfl
      · next h' => cases h'; rfl
      · rfl
    rw [e0, w32c_0]
    exact h
  · simp only [Bool.and_eq_true, decide_eq_true_eq] at h
    exact h
def ygl : List xV → List (Int × Int) → Int × Int → Bool
  | [], l, d => l.all (fun q => yinb (0, 0) q) && yinb (0, 0) d
  | v :: r, [], d => yinb v d && ygl r [] d
  | v :: r, q :: l, d => yinb v q && ygl r l d
theorem ygl_ok {d : Int × Int} : ∀ (vs : List xV) (l : List (Int × Int)) (j : Nat), ygl vs l d = true → yinb (vs.getD j (0, 0)) (l.getD j d) = true
  | [], l, j, h => by
    simp only [ygl, Bool.and_eq_true] at h
    have := getD_all (p := fun q => yinb (0, 0) q) (d := d) h.2 l j h.1
    simpa using this
  | v :: r, [], 0, h => by
    simp only [ygl, Bool.and_eq_true] at h
    simpa using h.1
  | v :: r, [], j + 1, h => by
    simp only [ygl, Bool.and_eq_true] at h
    have := ygl_ok r [] j h.2
    simpa using this
  | v :: r, q :: l, 0, h => by
    simp only [ygl, Bool.and_eq_true] at h
    simpa using h.1
  | v :: r, q :: l, j + 1, h => by
    simp only [ygl, Bool.and_eq_true] at h
    have := ygl_ok r l j h.2
    simpa using this
def yvs (c : xC) : List xV := match c with
  | .inl (_, vs) => vs
  | .inr (_, fs) => fs
theorem ymc_vs (c : xC) (j : Nat) : ymc c j = ymv ((yvs c).getD j (0, 0)) := by
  match c with
  | .inl (_, vs) => rfl
  | .inr (_, fs) => rfl
def yglL : List xC → List ((Int × Int) × List (Int × Int)) → Bool
  | [], [] => true
  | c :: K, e :: L => ygl (yvs c) e.2 e.1 && yglL K L
  | _, _ => false
theorem yglL_ok : ∀ (K : List xC) (L : List ((Int × Int) × List (Int × Int))) (i j : Nat) (c : xC), yglL K L = true → K[i]? = some c → ∃ e, L[i]? = some e ∧ e.2.getD j e.1 = e.2.getD j e.1 ∧ yinb ((yvs c).getD j (0, 0)) (e.2.getD j e.1) = true
  | c :: K, e :: L, 0, j, c', h, hc => by
    simp only [List.getElem?_cons_zero, Option.some.injEq] at hc
    subst hc
    simp only [yglL, Bool.and_eq_true] at h
    exact ⟨e, rfl, rfl, ygl_ok _ _ j h.1⟩
  | c :: K, e :: L, i + 1, j, c', h, hc => by
    simp only [yglL, Bool.and_eq_true] at h
    obtain ⟨e', h1, h2⟩ := yglL_ok K L i j c' h.2 (by simpa using hc)
    exact ⟨e', by simpa using h1, h2⟩
  | [], _, i, j, c, _, hc => by simp at hc
  | _ :: _, [], _, _, _, h, _ => by cases h
set_option maxRecDepth 1000000 in
theorem ygl_0 : yglL xK0 ygam = true := by decide +kernel
set_option maxRecDepth 1000000 in
theorem yk_len : xK0.length = 144 ∧ ygam.length = 144 := by decide +kernel
theorem ym0_ok : aGok ym0 := by
  intro i j
  show (agam i j).1 ≤ w32 (match xK0[i]? with
    | some c => ymc c j
    | none => 0) ∧ w32 (match xK0[i]? with
    | some c => ymc c j
    | none => 0) ≤ (agam i j).2
  cases hc : xK0[i]? with
  | none =>
    dsimp only
    have hi : ¬ i < 144 := fun hi => by
      rw [List.getElem?_eq_getElem (by rw [yk_len.1]; exact hi)] at hc
      cases hc
    have e : ygam[i]? = none := List.getElem?_eq_none (by rw [yk_len.2]; omega)
    rw [w32c_0]
    unfold agam aent
    rw [e]
    show (([] : List (Int × Int)).getD j a32).1 ≤ 0 ∧ 0 ≤ (([] : List (Int × Int)).getD j a32).2
    rw [show ([] : List (Int × Int)).getD j a32 = a32 by simp]
    decide
  | some c =>
    dsimp only
    obtain ⟨e, h1, -, h2⟩ := yglL_ok xK0 ygam i j c ygl_0 hc
    have := yinb_ok h2
    rw [ymc_vs]
    unfold agam aent
    rw [h1]
    exact this
theorem ym0_Om : Om ym0 := by
  have a : ∀ s, s < 5 → ym0 114 s = 0 ∧ ym0 115 s = 0 := by decide +kernel
  have b : ym0 127 0 = 0 ∧ ym0 127 1 = 0 := by decide +kernel
  have c : ym0 97 1 = 0 := by decide +kernel
  refine ⟨fun s hs => ?_, ⟨⟨fun i hi => ?_, fun i j _ hj => ?_⟩, ⟨fun i hi => ?_, fun i j _ hj => ?_⟩⟩, fun v hv => ?_⟩
  · rw [(a s hs).1, (a s hs).2]
    exact ⟨_, rfl⟩
  · rw [b.1, w32c_0] at hi; omega
  · rw [b.1, w32c_0] at hj; omega
  · rw [b.2, w32c_0] at hi; omega
  · rw [b.2, w32c_0] at hj; omega
  · rw [c, w32c_0] at hv; omega
theorem ym0_tp (j : Nat) : ym0 1 j = 0 ∧ ym0 96 j = 0 := by
  have e1 : xK0[1]? = some (.inl (1, List.replicate 800 (0, 0))) := by decide +kernel
  have e2 : xK0[96]? = some (.inl (0, List.replicate 800 (0, 0))) := by decide +kernel
  have r : ymv ((List.replicate 800 ((0 : Nat), (0 : Nat))).getD j (0, 0)) = 0 := by
    rw [List.getD_eq_getElem?_getD, List.getElem?_replicate]
    split <;> decide
  refine ⟨?_, ?_⟩
  · show (match xK0[1]? with
    | some c => ymc c j
    | none => 0) = 0
    rw [e1]
    exact r
  · show (match xK0[96]? with
    | some c => ymc c j
    | none => 0) = 0
    rw [e2]
    exact r
theorem ym0_wd : cWd ym0 := by
  have : ∀ i, i < 23 → w32 (ym0 56 i) = sWd.getD i 0 := by decide +kernel
  exact this
theorem ym0_LIw : LIw 0 ym0 := by
  have h0 : w32 (ym0 3 1) = 0 ∧ w32 (ym0 5 1) = 0 ∧ w32 (ym0 7 1) = 0 ∧ w32 (ym0 9 1) = 0 ∧ w32 (ym0 2 16) = 0 ∧ w32 (ym0 2 17) = 0 ∧ w32 (ym0 2 18) = 0 ∧ w32 (ym0 22 4) = 0 := by decide +kernel
  have h1 : ∀ j, j < 7 → w32 (ym0 97 j) = 0 := by decide +kernel
  have h2 : ∀ j, j < 5 → w32 (ym0 25 j) = 0 ∧ w32 (ym0 26 j) = 0 ∧ w32 (ym0 114 j) = 0 ∧ w32 (ym0 115 j) = 0 := by decide +kernel
  obtain ⟨a1, a2, a3, a4, a5, a6, a7, a8⟩ := h0
  have n1 : ∀ {z mx : Nat}, w32 (ym0 z 1) = 0 → cNm ym0 z mx [] := fun h => ⟨h, Nat.zero_le _, fun j hj => absurd hj (Nat.not_lt_zero j)⟩
  have n2 : ∀ {z q mx : Nat}, q < 7 → rNl ym0 z q mx [] := fun h => ⟨h1 _ h, Nat.zero_le _, fun j hj => absurd hj (Nat.not_lt_zero j)⟩
  let W : dU := ((fun _ => 0, fun _ => 0, fun _ => 0, fun _ => -1, fun _ => 0, fun _ => 0), 0, 0, 0, 0, 0, 0)
  let V : dU := ((fun _ => 0, fun _ => 0, fun _ => 0, fun _ => 0, fun _ => 0, fun _ => 0), 0, 0, 0, 0, 0, 0)
  have hc : cDh ym0 dD0 := ⟨⟨n1 a1, fun j t h => (by cases h)⟩, ⟨n1 a2, a5, fun t h => (by cases h), fun j t h => (by cases h)⟩, ⟨n1 a3, fun j t h => (by cases h)⟩, ⟨n1 a4, fun j t h => (by cases h)⟩, ⟨a6, a7⟩, fun j hj => ⟨(h2 j hj).1, (h2 j hj).2.1⟩, ⟨a8, Nat.zero_le _⟩, trivial⟩
  have hr : rDl ym0 dD0 := ⟨⟨n2 (by decide), fun j t h => (by cases h)⟩, ⟨n2 (by decide), fun j t h => (by cases h)⟩, ⟨n2 (by decide), fun j t h => (by cases h)⟩, ⟨n2 (by decide), fun j t h => (by cases h)⟩, ⟨h1 4 (by decide), h1 5 (by decide)⟩, fun j hj => (h2 j hj).2.2, ⟨h1 6 (by decide), Nat.zero_le _⟩, trivial⟩
  have w1 : cW ym0 57 W := by
    have k1 : ∀ j, j < 3 → w32 (ym0 58 j) = 0 ∧ w32 (ym0 60 j) = 0 := by decide +kernel
    have k2 : ∀ j, j < 6 → w32 (ym0 59 j) = 0 := by decide +kernel
    have k3 : ∀ j, j < 12 → w32 (ym0 61 j) = -1 ∧ w32 (ym0 62 j) = 0 ∧ w32 (ym0 63 j) = 0 := by decide +kernel
    have k4 : w32 (ym0 57 6) = 0 ∧ w32 (ym0 57 7) = 0 ∧ w32 (ym0 57 8) = 0 ∧ w32 (ym0 57 9) = 0 ∧ w32 (ym0 57 10) = 0 ∧ w32 (ym0 57 12) = 0 := by decide +kernel
    exact ⟨fun j hj => (k1 j hj).1, k2, fun j hj => (k1 j hj).2, fun j hj => (k3 j hj).1, fun j hj => (k3 j hj).2.1, fun j hj => (k3 j hj).2.2, k4⟩
  have w2 : cW ym0 64 V := by
    have k1 : ∀ j, j < 3 → w32 (ym0 65 j) = 0 ∧ w32 (ym0 67 j) = 0 := by decide +kernel
    have k2 : ∀ j, j < 6 → w32 (ym0 66 j) = 0 := by decide +kernel
    have k3 : ∀ j, j < 12 → w32 (ym0 68 j) = 0 ∧ w32 (ym0 69 j) = 0 ∧ w32 (ym0 70 j) = 0 := by decide +kernel
    have k4 : w32 (ym0 64 6) = 0 ∧ w32 (ym0 64 7) = 0 ∧ w32 (ym0 64 8) = 0 ∧ w32 (ym0 64 9) = 0 ∧ w32 (ym0 64 10) = 0 ∧ w32 (ym0 64 12) = 0 := by decide +kernel
    exact ⟨fun j hj => (k1 j hj).1, k2, fun j hj => (k1 j hj).2, fun j hj => (k3 j hj).1, fun j hj => (k3 j hj).2.1, fun j hj => (k3 j hj).2.2, k4⟩
  have g3 : ∀ j, j < 3 → w32 (ym0 123 j) = 0 ∧ w32 (ym0 124 j) = 0 ∧ w32 (ym0 123 (3 * 1 + j)) = 0 ∧ w32 (ym0 124 (3 * 1 + j)) = 0 := by decide +kernel
  have g6 : ∀ j, j < 6 → w32 (ym0 125 j) = 0 ∧ w32 (ym0 125 (6 * 1 + j)) = 0 := by decide +kernel
  have g12 : ∀ j, j < 12 → w32 (ym0 126 j) = -1 ∧ w32 (ym0 128 j) = 0 ∧ w32 (ym0 129 j) = 0 ∧ w32 (ym0 126 (12 * 1 + j)) = 0 ∧ w32 (ym0 128 (12 * 1 + j)) = 0 ∧ w32 (ym0 129 (12 * 1 + j)) = 0 := by decide +kernel
  have g0 : w32 (ym0 127 0) = 0 ∧ w32 (ym0 118 0) = 0 ∧ w32 (ym0 119 0) = 0 ∧ w32 (ym0 121 0) = 0 ∧ w32 (ym0 122 0) = 0 ∧ w32 (ym0 120 0) = 0 := by decide +kernel
  have g1 : w32 (ym0 127 1) = 0 ∧ w32 (ym0 118 1) = 0 ∧ w32 (ym0 119 1) = 0 ∧ w32 (ym0 121 1) = 0 ∧ w32 (ym0 122 1) = 0 ∧ w32 (ym0 120 1) = 0 := by decide +kernel
  have e0 : w32 (ym0 0 14) = 0 ∧ w32 (ym0 95 49) = 0 ∧ w32 (ym0 71 1) = 0 ∧ w32 (ym0 95 61) = 0 := by decide +kernel
  have w3 : rW ym0 0 W := rW0_of ⟨fun j hj => (g3 j hj).1, fun j hj => (g6 j hj).1, fun j hj => (g3 j hj).2.1, fun j hj => (g12 j hj).1, fun j hj => (g12 j hj).2.1, fun j hj => (g12 j hj).2.2.1, g0⟩
  have w4 : rW ym0 1 V := ⟨fun j hj => (g3 j hj).2.2.1, fun j hj => (g6 j hj).2, fun j hj => (g3 j hj).2.2.2, fun j hj => (g12 j hj).2.2.2.1, fun j hj => (g12 j hj).2.2.2.2.1, fun j hj => (g12 j hj).2.2.2.2.2, g1⟩
  have w5 : uOk dD0 0 W := ⟨⟨Int.le_refl _, show (0 : Int) ≤ 12 by decide⟩, fun p _ => Or.inl rfl, fun i hi => absurd (show (i : Int) < 0 from hi) (by omega), fun i j _ hj => absurd (show (j : Int) < 0 from hj) (by omega), fun p _ h => absurd rfl h, fun j _ => ⟨Int.le_refl _, show (0 : Int) ≤ 10000 + 1000 * ((0 : Nat) : Int) by decide⟩, fun j _ => ⟨Int.le_refl _, show (0 : Int) ≤ 100 * ((0 : Nat) : Int) by decide⟩, fun j _ => ⟨Int.le_refl _, show (0 : Int) ≤ 999 by decide⟩, Int.le_refl _, show (0 : Int) < 64 by decide, show (0 : Int) < ((2 ^ 0 : Nat) : Int) by decide⟩
  exact ⟨dD0, W, V, ⟨hc, hr, dOk_0⟩, ⟨w1, w3, w5⟩, ⟨w2, w4, fun z => absurd e0.1 z⟩, by rw [e0.1, e0.2.1], by rw [e0.2.2.1, e0.2.2.2]⟩
theorem ym0_LI : LI 0 ym0 := ⟨ym0_ok, ym0_Om, by
  have : ym0 0 11 = ym0 95 2 := by decide +kernel
  rw [this], fun j => by rw [(ym0_tp j).1, (ym0_tp j).2]; decide +kernel, ym0_wd, ⟨by
  have : ym0 0 12 = ym0 95 33 := by decide +kernel
  rw [this], by
  have : ym0 0 13 = ym0 95 34 := by decide +kernel
  rw [this]⟩, ym0_LIw⟩
theorem ym0_LJ : LJ 0 ym0 := ⟨ym0_LI, Or.inl (by decide +kernel)⟩
end
section
theorem xstp0_ok {pc : Nat} {lv : xL} {st : List xV} {K : xH} {ce sl : Nat} {κ : xK} {Ls : List xR} (h : xstp0 pc lv st K ce sl κ = some Ls) : pc = 23 ∧ lv = xlv0 ∧ st = [] ∧ K = xK0 ∧ ce = 144 ∧ sl = 14558 ∧ κ = ([], []) := by
  simp only [xstp0] at h
  split at h
  · next hc =>
    simp only [Bool.and_eq_true, Nat.beq_eq, decide_eq_true_eq] at hc
    exact hc
  · cases h
theorem xnil_ok {r : Option (List xR)} (h : xnil r = true) : r = some [] := by
  cases r with
  | none => cases h
  | some L =>
    cases L with
    | nil => rfl
    | cons a L => cases h
theorem xK1 {ρ : Nat → Int32} : xKok ρ ([], []) := ⟨fun q hq => (by cases hq), fun k a c h => (by cases h)⟩
/-- facts that stay: the script, what isn't castable -/
def xEX2 (b : Nat) (sa : Nat → Nat) (L : Nat) (xs : Nat → Int32) (U : State) : Prop := xFx b sa U ∧ va_X (sa 50) L xs U U.heap ∧ sa 50 < b ∧ va_Nc "java/util/NoSuchElementException" "java/lang/IndexOutOfBoundsException" U
theorem xEX2_ok (b : Nat) (sa : Nat → Nat) (L : Nat) (xs : Nat → Int32) : xEok b sa (xEX2 b sa L xs) := by
  have warm : ∀ s U : State, xEX2 b sa L xs s → s.WarmedH U.vm → (∀ q, q < b → U.heap[q]? = s.heap[q]?) → xEX2 b sa L xs U := fun s U h hW hq => ⟨xFx_warm h.1 hW hq, (va_X.moved hW.alike h.2.1).kept (hq _ h.2.2.1), h.2.2.1, va_Nc.moved hW.alike h.2.2.2⟩
  exact ⟨fun U g mk a h => warm U _ h (State.WarmedH.refl U) (fun _ _ => rfl), warm, fun s h => h.1⟩
set_option maxHeartbeats 4000000 in
set_option maxRecDepth 100000 in
/-- THE LAW, from its entry -/
theorem whole_start {p : Program} {e : Env} {s : State} {m : MethodId} {below : List Frame} {meth : Method} {c : Code} (l : Launch) (hls : l.stackTraces = false) {b L : Nat} {xs : Nat → Int32} (hL : L ≤ 3072) (C0 : lw_At p s m meth c b L xs) : W p l e room_1 s m #[Value.ref b] below meth c s.heap [] 0 0 (lw_Z below #[Value.ref b] s) (entryFrame m ([Value.ref b] : List Value).toArray 7) := by
  obtain ⟨hx, hb, hr, hml, hown, hts, hX, hbl, hlocks, hgv⟩ := C0
  obtain ⟨D, dA, hK⟩ := xworld hts
  obtain ⟨sa, hF, hsa⟩ := xfacts hts hgv
  have hX0 : va_X (sa 50) L xs s s.heap := by rw [hsa]; exact hX
  have hnc : va_Nc "java/util/NoSuchElementException" "java/lang/IndexOutOfBoundsException" s := va_Nc.of (flat_of_before _ hgv _ (by decide +kernel))
  have hEk := xEX2_ok s.heap.size sa L xs
  have hEX : xEX2 s.heap.size sa L xs s := ⟨hF, hX0, by rw [hsa]; exact hbl, hnc⟩
  obtain ⟨E, hEe⟩ : ∃ E : yE, E = (s.heap.size, sa, dA, D, l, xEX2 s.heap.size sa L xs) := ⟨_, rfl⟩
  have hE : yEok E := by
    rw [hEe]
    exact ⟨hls, hEk⟩
  have hctx : ∀ M : xM, xMc M = code → xMo M = RL → xMl M = 7 → xMr M = some .boolean → (xMy M).name = "law" → xCtx s.heap.size dA D M p s m #[Value.ref b] meth c (fun q => s.heap.size ≤ q) (xEX2 s.heap.size sa L xs) := fun M h1 h2 h3 h4 h5 =>
    ⟨⟨hx, by rw [h1]; exact hb, by rw [h2]; exact hown, fun w hw => hts w (xgt_in w hw)⟩, by rw [h3]; exact hml, hK, fun _ h => h, fun _ h => h, by rw [h4]; exact hr, hlocks, (fun h => by rw [h5] at h; exact absurd h (by decide)), hEX, Nat.le_refl _⟩
  have hloopG : LG E 0 23 [] ym0 144 14558 (fun r _ => r = some (0, cI 1)) := l_loop hE yman_Om (yman_of OmAC_F2 (fun _ h => h.1)) (L := L) (xs := xs) (fun s' h' => by rw [hEe] at h'; exact h'.2.2.2) (fun s' h' => by rw [hEe] at h' ⊢; exact ⟨h'.2.1, h'.2.2.1⟩) hL (fun _ => rfl) 3072 0 ym0 144 14558 (by omega) (by decide) (by decide) (by rw [w32c_0]; exact ym0_LJ) (by decide) (by decide)
  refine W.mono (Q := MQ below (fun _ _ o _ => o = .returned (some (.int 1))) #[Value.ref b] s 601024 7293034 (fun q => s.heap.size ≤ q)) ?_ ?_
  · have hloop : xSnd true s.heap.size (fun _ => 0) sa dA D xm_L0 p l e s m #[Value.ref b] below meth c (fun q => s.heap.size ≤ q) (fun _ _ o _ => o = .returned (some (.int 1))) xstp0 := by
      intro pc lv st K ce sl κ0 Ls0 h0
      obtain ⟨rfl, rfl, rfl, rfl, rfl, rfl, rfl⟩ := xstp0_ok h0
      intro H locs ls hl hP hS hz hA0 _ _
      subst hEe
      have hw := yworld (E := (s.heap.size, sa, dA, D, l, xEX2 s.heap.size sa L xs)) (ρ := fun _ => 0)
      exact hloopG p e s m #[Value.ref b] below meth c (fun q => s.heap.size ≤ q) (fun _ _ o _ => o = .returned (some (.int 1))) ⟨hctx xm_L1 rfl rfl rfl rfl rfl, fun i _ => Nat.le_add_right _ _⟩ (fun r m9 t k1 k2 k3 => by rw [k1]; rfl) H locs ls hl (by rw [← hw]; exact hP) hS
    have hpro := xeT_ok (al := true) hls hEk (ds := []) (ρ := fun _ => 0) (fun k o x y h => by simp at h) (fun U hU L' hL' => by cases hL') xmt_ok (M := xm_L0) xo_L0 (hctx xm_L0 rfl rfl rfl rfl rfl) hloop 50 _ _ _ _ _ _ _ _ (xnil_ok xpro)
    have hl := lv_entry ([.ref b]) (n := 7) (Nat.le_of_ble_eq_true rfl)
    rw [lg_entry_eq]
    exact hpro s.heap [] _ (by rw [← hsa] at hl ⊢; exact hl) (fun k q h => by simp [xcx] at h) va_S.rf (fun _ => rfl) (fun i hi => absurd hi (by simp)) xK1 (fun lf hlf => (by cases hlf))
  · rintro t ⟨o, h1, h2, h3, LL, ⟨g1, g2, g3⟩, h5⟩
    exact ⟨o, h1, h2, h3, g1, g2, g3.weaken (fun y hy hlt => absurd hlt (Nat.not_lt.mpr (h5 y hy))) (Nat.le_refl _) (Nat.le_refl _)⟩
end
