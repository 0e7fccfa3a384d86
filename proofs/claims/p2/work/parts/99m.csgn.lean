/-- an E ends ahead of what stands there -/
def hEn (ch : Nat → Int) (n : Nat) (Q : Option yV → yMem → Prop) (b : yMem) (w : List Nat) (u : sU) : Prop := ∀ m', aFrm fvW b m' → cTk ch n m' (.inr u.1) → cFo m' w u.2.1 u.2.2.1 u.2.2.2 → (∀ N, sy (N + 1) false w u = .inr (u.1, u.2.1, u.2.2.1, (sSt 1 w u.2.2.2).2)) → Q (some (0, 0)) m'
theorem se_fv {a b : yMem} (h : aFrm seW a b) : aFrm fvW a b := aFrm_w h (by decide)
theorem cTk_se {ch : Nat → Int} {n : Nat} {a b : yMem} {x : sY} (h : cTk ch n a x) (hF : aFrm seW a b) : cTk ch n b x := cTk_of h (fun j => hF 55 j rfl) (fun j => hF 1 j rfl) (fun j => hF 56 j rfl)
theorem cFo_close {m : yMem} {w : List Nat} {cn op : Nat} {o : sK} (C : cFo m w cn op o) (h0 : 0 < op) (hw : ∀ k r, w = k :: r → k = 5) : cFo (yset (yset m 48 6 (m 48 6 - 1)) 48 7 (m 48 7 - 1)) w.tail cn (op - 1) o := by
  have hno := sNO w
  obtain ⟨⟨a1, a2⟩, ⟨a3, a4⟩, ⟨a5, a6⟩, a7, a8, a9, a10⟩ := C
  cases w with
  | nil =>
    have : sOs [] = 0 := rfl
    omega
  | cons k r =>
    have hk := hw k r rfl
    subst hk
    have n1 : sNs (5 :: r) = sNs r := rfl
    have o1 : sOs (5 :: r) = sOs r + 1 := rfl
    have hlen : (5 :: r).length = r.length + 1 := rfl
    rw [hlen] at a1 hno
    have e6 : w32 (m 48 6 - 1) = w32 (m 48 6) - 1 := by rw [w32_sb (by rw [w32c_1]; omega) (by rw [w32c_1]; omega), w32c_1]
    have e7 : w32 (m 48 7 - 1) = w32 (m 48 7) - 1 := by rw [w32_sb (by rw [w32c_1]; omega) (by rw [w32c_1]; omega), w32c_1]
    refine ⟨⟨?_, cWt_eq a2.2 (fun j _ => by rw [yset_o (by decide), yset_o (by decide)])⟩, ⟨?_, ?_⟩, ⟨?_, cKs_eq a6 (fun j _ => by rw [yset_o (by decide), yset_o (by decide)]) (fun j _ => by rw [yset_o (by decide), yset_o (by decide)])⟩, by show o.length + sNs r ≤ cn; omega, a8, by omega, by show sOs r = op - 1; omega⟩
    · rw [yset_d (by decide), yset_s, e6, a1]
      show _ = (r.length : Int)
      omega
    · rw [yset_d (by decide), yset_d (by decide)]; exact a3
    · rw [yset_s, e7, a4]; omega
    · rw [yset_d (by decide), yset_d (by decide)]; exact a5
theorem sSt_top {L : Nat} (hL : 1 ≤ L) : ∀ (w : List Nat) (o : sK), ∀ k r, (sSt L w o).1 = k :: r → sLv k < L
  | [], o, k, r, h => by cases h
  | q :: w, o, k, r, h => by
    revert h
    show (if _ then _ else _ : List Nat × sK).1 = _ → _
    split
    · intro h
      exact sSt_top hL w _ k r h
    · intro h
      injection h with h1 h2
      subst h1
      omega
section CR
variable {E : yE} {b m : yMem} {Q : Option yV → yMem → Prop} {ch : Nat → Int} {n : Nat} {l : List sT} {w w1 : List Nat} {cn op d : Nat} {o o1 : sK} {K G : Int}
theorem gs113 (hE : yEok E) (F0 : aFrm fvW b m) (T : cTk ch n m (.inr l)) (C : cFo m w1 cn op o1) (hK : w32 K = ((sHd l).1 : Int)) (h5 : ¬ (sHd l).1 = 5) (hn0 : (sHd l).1 ≠ 0) (es : ∀ N, sy (N + 1) false w (l, cn, op, o) = sKn (sHd l).2.1 (l, cn, op, o1) (fun u => sy N true ((sHd l).1 :: w1) (u.1.tail, u.2))) (hf : hFa ch n Q b false w (l, cn, op, o)) (hg : hGo ch n Q b false w (l, cn, op, o)) : zG E (d + 3) xm_67 113 [some (1, 48), some (1, 55), some (0, K), some (0, G)] [] m Q := by
  have e72 : w32 ((72 : Nat) : Int) = 72 := by decide
  have hno := sNO w1
  refine zgo_ok (n := 80) hE xmo_67 (cs := zc_67) ?_
  simp only [ynok_30, ynok_31, w32c_0, w32c_1, w32c_2, w32c_3, w32c_4, w32c_5, w32c_6, w32c_7, w32c_8, w32c_9, w32c_10, w32c_11, w32c_12, w32c_13, w32c_14, w32c_m1, w32c_m2, w32c_118, Int.reduceAdd, Int.reduceSub, Int.reduceMul, yput_s, yput_n, znl_n, znl_0, znl_1, znl_4, ysum_n, ysum_0, ysum_1, ysum_4, true_and, and_true, Nat.reduceAdd, Nat.reduceLeDiff, true_implies, eq_self, true_or, or_true, or_false, false_or, not_true_eq_false, not_false_eq_true, false_implies, implies_true, yset_s, yset_o, yset_d, ne_eq, Nat.reduceEqDiff, Int.reduceToNat, Int.reduceEq, Int.reduceLE, Int.reduceLT, Classical.not_not, Nat.reduceLT, ↓zvk_s, ↓zvk_n, ↓s_67_0, ↓s_67_1, ↓s_67_4n, ↓s_67_4i, ↓s_67_4p, ↓s_67_5, ↓s_67_6, ↓s_67_8, ↓s_67_11, ↓s_67_12_22, ↓s_67_12_48, ↓s_67_15, ↓s_67_18, ↓s_67_19, ↓s_67_20, ↓s_67_23, ↓s_67_24a, ↓s_67_24b, ↓s_67_25_22, ↓s_67_25_48, ↓s_67_28, ↓s_67_29, ↓s_67_30_22, ↓s_67_30_48, ↓s_67_33, ↓s_67_34a, ↓s_67_34b, ↓s_67_35_22, ↓s_67_35_48, ↓s_67_38, ↓s_67_39, ↓s_67_40_22, ↓s_67_40_48, ↓s_67_43, ↓s_67_44, ↓g_67_45, ↓k_67_45, ↓s_67_46, ↓s_67_49n, ↓s_67_49i, ↓s_67_49p, ↓s_67_50, ↓s_67_51, ↓s_67_54, ↓s_67_55, ↓s_67_56, ↓s_67_59, ↓s_67_60_22, ↓s_67_60_48, ↓s_67_63, ↓s_67_66, ↓s_67_67, ↓s_67_68, ↓s_67_71, ↓s_67_74, ↓s_67_75, ↓s_67_78, ↓s_67_79, ↓g_67_80, ↓k_67_80, ↓s_67_81, ↓s_67_82, ↓s_67_83, ↓s_67_86, ↓s_67_87, ↓s_67_90, ↓s_67_91, ↓g_67_94, ↓k_67_94, ↓s_67_95, ↓s_67_96, ↓s_67_99, ↓s_67_100, ↓s_67_103, ↓s_67_104, ↓s_67_107, ↓s_67_108, ↓s_67_109, ↓s_67_112, ↓g_67_113, ↓k_67_113, ↓s_67_114, ↓s_67_115_22, ↓s_67_115_48, ↓s_67_118, ↓s_67_119, ↓s_67_120, ↓s_67_123, ↓s_67_126, ↓s_67_127, ↓s_67_128, ↓s_67_131, ↓s_67_134, ↓s_67_135, ↓s_67_138, ↓s_67_139, ↓s_62_0, ↓s_62_1_22, ↓s_62_1_48, ↓s_62_4, ↓s_62_5_22, ↓s_62_5_48, ↓s_62_8, ↓s_62_9, ↓s_62_12, ↓s_62_13_22, ↓s_62_13_48, ↓s_62_16, ↓s_62_17_22, ↓s_62_17_48, ↓s_62_20, ↓s_62_21, ↓s_62_22, ↓s_62_23a, ↓s_62_23b, ↓s_62_24_22, ↓s_62_24_48, ↓s_62_27, ↓s_62_28, ↓s_62_29_22, ↓s_62_29_48, ↓s_62_32, ↓s_62_33, ↓s_62_34, ↓s_62_37, ↓s_62_38a, ↓s_62_38b, ↓s_62_39_22, ↓s_62_39_48, ↓s_62_42, ↓s_62_43, ↓s_62_44_22, ↓s_62_44_48, ↓s_62_47, ↓s_62_48, ↓s_63_0, ↓s_63_1_22, ↓s_63_1_48, ↓s_63_4, ↓s_63_6, ↓s_63_9, ↓s_63_10, ↓s_63_11, ↓s_63_14, ↓s_63_15, ↓s_63_16a, ↓s_63_16b, ↓s_63_17_22, ↓s_63_17_48, ↓s_63_20, ↓s_63_21, ↓s_63_22_22, ↓s_63_22_48, ↓s_63_25, ↓s_63_26, w32c_64, ↓s_72_0, ↓s_72_1_22, ↓s_72_1_48, ↓s_72_4, ↓s_72_7, ↓s_72_8, ↓s_72_11, ↓s_72_12_22, ↓s_72_12_48, ↓s_72_15, ↓s_72_16_22, ↓s_72_16_48, ↓s_72_19, ↓s_72_20, ↓s_72_21, ↓s_72_22, ↓s_72_25, ↓s_123_0, ↓s_123_1, ↓s_123_4, ↓s_123_7, ↓s_123_8, ↓s_123_9, ↓s_123_12, ↓s_123_13, ↓s_123_14, ↓s_123_17, ↓s_123_20, ↓s_123_21, ↓s_123_22, ↓s_123_25, ↓s_123_26, zio_48, zar_53, zia_53, zln_53, zit_53, zio_22, zio_55, zar_27, zia_27, zln_27, zit_27]
  have C9 : cFo (yset m 48 9 1) w1 cn op o1 := cFo_of C (fun j hj => yset_d hj) (fun j => yset_o (by decide)) (fun j => yset_o (by decide)) (fun j => yset_o (by decide))
  have T9 : cTk ch n (yset m 48 9 1) (.inr l) := cTk_of T (fun j => yset_o (by decide)) (fun j => yset_o (by decide)) (fun j => yset_o (by decide))
  have F9 : aFrm fvW b (yset m 48 9 1) := aFrm_set F0 rfl
  have e57 : yset m 48 9 1 55 7 = m 55 7 := yset_o (by decide)
  have e55 : yset m 48 9 1 55 5 = m 55 5 := yset_o (by decide)
  have B : ¬ cn < 64 → (¬ w32 (m 55 7) = 0 → Q (some (0, 0)) (yset (yset m 48 9 1) 55 4 0)) ∧ (w32 (m 55 7) = 0 → Q (some (0, 0)) (yset (yset (yset (yset m 48 9 1) 55 7 2) 55 8 (m 55 5)) 55 4 0)) := fun h2 => by
    have := hFa_fl (f := 2) (F := 2) hf F9 T9 ⟨_, _, _, _, C9⟩ (fun N => by rw [es N]; unfold sKn; rw [if_pos (show cn = 64 by have := C.2.2.2; omega)]) (by decide) (by decide)
    rw [e57, e55] at this
    exact this
  obtain ⟨⟨a1, a2⟩, ⟨a3, a4⟩, ⟨a5, a6⟩, a7, a8, a9, a10⟩ := C
  have h6t : (w32 (m 48 6)).toNat = w1.length := by rw [a1]; exact Int.toNat_natCast _
  rw [h6t, a3, a1, hK, e72]
  trace_state
  sorry
end CR
