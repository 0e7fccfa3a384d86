/-! THE REFERENCE works out an E -/
theorem cKh_kn {m : yMem} : ∀ {o : sK}, cKh m o → ∀ i, i < o.length → w32 (m 23 i) = ((knD o i).1 : Int) ∧ ((knD o i).1 = 2 → w32 (m 24 i) = (knD o i).2)
  | [], _, i, h => absurd h (Nat.not_lt_zero _)
  | q :: o, h, i, hi => by
    by_cases e : i = o.length
    · subst e
      rw [knD_l]
      exact ⟨h.1, h.2.1⟩
    · have hi : i < o.length + 1 := hi
      rw [knD_c (by omega)]
      exact cKh_kn h.2.2 i (by omega)
theorem rKl_kn {m : yMem} : ∀ {o : sK}, rKl m o → ∀ i, i < o.length → w32 (m 116 i) = rKt (knD o i).1 ∧ w32 (m 117 i) = rKv (knD o i).1 (knD o i).2
  | [], _, i, h => absurd h (Nat.not_lt_zero _)
  | q :: o, h, i, hi => by
    by_cases e : i = o.length
    · subst e
      rw [knD_l]
      exact h.1
    · have hi : i < o.length + 1 := hi
      rw [knD_c (by omega)]
      exact rKl_kn h.2 i (by omega)
theorem eAp_v {nm : Nat → Int} {k : Nat} {v : Int} {st : List Int} (h : 1 ≤ sLv k) : eAp nm (k, v) st = eAp nm (k, 0) st := by
  have hk := kOk_lv h
  unfold eAp
  rw [if_neg hk.1, if_neg hk.1]
theorem rKv_0 {k : Nat} {v : Int} (h : ¬ k = 2) : rKv k v = rKv k 0 := by
  unfold rKv
  rw [if_neg h, if_neg h]
theorem rKv_s : ∀ k : Nat, k < 33 → 1 ≤ sLv k → (rKv k 0 = 260 ↔ k = 32) ∧ rKt k = 2 := by decide +kernel
theorem eAp_ln {nm : Nat → Int} {k : Nat} {st st' : List Int} (hk : 1 ≤ sLv k) (h : eAp nm (k, 0) st = some st') (hd : if k = 32 then 1 ≤ st.length else 2 ≤ st.length) : st'.length = if k = 32 then st.length else st.length - 1 := by
  have hk2 := kOk_lv hk
  have l1 := List.length_tail (l := st)
  have l2 := List.length_tail (l := st.tail)
  unfold eAp at h
  rw [if_neg hk2.1, if_neg hk2.2] at h
  by_cases e : k = 32
  · rw [if_pos e] at h hd ⊢
    cases h
    show st.tail.length + 1 = _
    omega
  · rw [if_neg e] at h hd ⊢
    split at h
    · cases h
      show st.tail.tail.length + 1 = _
      omega
    · cases h
section RX
variable {E : yE} {mem : yMem} {Q : Option yV → yMem → Prop} {st : List Int} {nm : Nat → Int}
theorem re_works (hE : yEok E) {D : Nat} (hD : 2 ≤ D) {s v : Int} {k : Nat} (hk : 1 ≤ sLv k) (hs : w32 s = rKv k v) (h : rSt mem st) (hl : st.length ≤ 64) (hS : ∀ w ∈ st, eIn w) (hd : if k = 32 then 1 ≤ st.length else 2 ≤ st.length) (hQ : rWk nm k st mem Q) : yCon E D xm_253 [(1, 95), (0, s)] mem Q := by
  match st, h, hl, hS, hd, hQ with
  | [], _, _, _, hd, _ => exact absurd hd (by split <;> (show ¬ _ ≤ 0; omega))
  | [Y], h, hl, hS, hd, hQ =>
    have e : k = 32 := by
      by_cases e : k = 32
      · exact e
      · rw [if_neg e] at hd
        have hd : 2 ≤ 1 := hd
        omega
    subst e
    exact re_works_32 hE hD hs h hl hS hQ
  | Y :: X :: rest, h, hl, hS, hd, hQ =>
    have hl : rest.length + 2 ≤ 64 := hl
    rcases sLv_k hk with h1 | rfl | rfl | rfl
    · have hx : k = 7 ∨ k = 8 ∨ k = 9 ∨ k = 10 ∨ k = 11 ∨ k = 12 ∨ k = 13 ∨ k = 14 ∨ k = 15 ∨ k = 16 := by omega
      rcases hx with rfl | rfl | rfl | rfl | rfl | rfl | rfl | rfl | rfl | rfl
      · exact re_works_7 hE hD hs h hl hS hQ
      · exact re_works_8 hE hD hs h hl hS hQ
      · exact re_works_9 hE hD hs h hl hS hQ
      · exact re_works_10 hE hD hs h hl hS hQ
      · exact re_works_11 hE hD hs h hl hS hQ
      · exact re_works_12 hE hD hs h hl hS hQ
      · exact re_works_13 hE hD hs h hl hS hQ
      · exact re_works_14 hE hD hs h hl hS hQ
      · exact re_works_15 hE hD hs h hl hS hQ
      · exact re_works_16 hE hD hs h hl hS hQ
    · exact re_works_30 hE hD hs h hl hS hQ
    · exact re_works_31 hE hD hs h hl hS hQ
    · exact re_works_32 hE hD hs h hl hS hQ
/-- how the reference holds an E: its KNOTS from one place to another, good ones, the names -/
def rFm (mem : yMem) (o : sK) (f a b : Nat) (nm : Nat → Int) : Prop := (w32 (mem 114 f) = (a : Int) ∧ w32 (mem 115 f) = (b : Int) ∧ b ≤ o.length ∧ o.length ≤ 64) ∧ (∀ i, i < o.length → w32 (mem 116 i) = rKt (knD o i).1 ∧ w32 (mem 117 i) = rKv (knD o i).1 (knD o i).2) ∧ (∀ q ∈ o, kOk q.1) ∧ ∀ i, i < 7 → w64 (mem 130 i) = nm i ∧ eIn (nm i)
theorem re_goes_l (hE : yEok E) {d : Nat} {s : Int} {o : sK} {f a b : Nat} (hf : w32 s = (f : Int)) (hf5 : f < 5) (hR : rFm mem o f a b nm) {R : Option (List Int)} (hQ : ∀ x m, rzF mem m → ((R = none ∧ w32 x = 0) ∨ ∃ st', R = some st' ∧ w32 x = 1 ∧ rSt m st' ∧ st'.length ≤ 64) → Q (some (0, x)) m) : ∀ (n k : Nat) (K : Int) (m : yMem) (st : List Int) (e : Int), b - k = n → k ≤ b → w32 K = (k : Int) → rzF mem m → rSt m st → (∀ w ∈ st, eIn w) → st.length ≤ k → zpf (mem 116) (mem 117) n k (st.length : Int) = some e → R = eRn (knD o) nm n k st → zG E (d + 2) xm_174 12 [some (1, 95), some (0, s), some (0, K)] [] m Q := by
  obtain ⟨⟨r1, r2, r3, r4⟩, r5, r6, r7⟩ := hR
  have fs : (w32 s).toNat = f := by rw [hf]; exact Int.toNat_natCast _
  intro n
  induction n with
  | zero =>
    intro k K m st e hn hkb hK hF hS hI hl he hR
    have e115 : w32 (m 115 f) = (b : Int) := by rw [hF 115 f (by omega) (by decide)]; exact r2
    refine zgo_ok (n := 60) hE xmo_174 (cs := zc_174) ?_
    simp only [ynok_30, ynok_31, w32c_0, w32c_1, w32c_2, w32c_3, w32c_4, w32c_5, w32c_6, w32c_7, w32c_8, w32c_9, w32c_10, w32c_11, w32c_12, w32c_13, w32c_14, w32c_m1, w32c_m2, w32c_118, Int.reduceAdd, Int.reduceSub, Int.reduceMul, yput_s, yput_n, znl_n, znl_0, znl_1, znl_4, ysum_n, ysum_0, ysum_1, ysum_4, true_and, and_true, Nat.reduceAdd, Nat.reduceLeDiff, true_implies, eq_self, true_or, or_true, or_false, false_or, not_true_eq_false, not_false_eq_true, false_implies, implies_true, yset_s, yset_o, yset_d, ne_eq, Nat.reduceEqDiff, Int.reduceToNat, Int.reduceEq, Int.reduceLE, Int.reduceLT, Classical.not_not, Nat.reduceLT, ↓zvk_s, ↓zvk_n, ↓s_174_0, ↓s_174_1, ↓s_174_2, ↓s_174_5, ↓s_174_6, ↓s_174_9, ↓s_174_10, ↓s_174_11n, ↓s_174_11i, ↓s_174_11p, ↓g_174_12, ↓k_174_12, ↓s_174_13, ↓s_174_14, ↓s_174_17, ↓s_174_18, ↓s_174_19, ↓s_174_22, ↓s_174_23, ↓s_174_26, ↓s_174_27, ↓s_174_28, ↓s_174_29, ↓s_174_32, ↓s_174_33, ↓s_174_34, ↓s_174_37, ↓s_174_38, ↓s_174_39, ↓s_174_42, ↓s_174_45, ↓s_174_46, ↓s_174_47, ↓s_174_48, ↓s_174_51, ↓s_174_52, ↓s_174_55, ↓s_174_56, ↓s_174_59, ↓s_174_60, ↓s_174_61, ↓s_174_64, ↓s_174_65, ↓s_174_68, ↓s_174_69, ↓s_174_70, ↓s_174_71, ↓s_174_74, ↓s_174_75, ↓s_174_78, ↓s_174_79, ↓s_174_82, ↓s_174_83, ↓s_174_84, ↓s_174_85, ↓s_174_86, ↓s_174_87a, ↓s_174_87b, ↓s_174_88, ↓s_174_91, ↓s_174_92, ↓s_174_93, ↓s_174_96n, ↓s_174_96i, ↓s_174_96p, ↓s_174_99, ↓s_174_102, ↓s_174_103, zar_114, zia_114, zln_114, zit_114, zar_115, zia_115, zln_115, zit_115, zar_116, zia_116, zln_116, zit_116, zar_117, zia_117, zln_117, zit_117, zar_131, zia_131, zln_131, zit_131, zar_130, zia_130, zln_130, zit_130, zio_95, fs]
    exact ⟨⟨by omega, by omega⟩, fun _ => hQ 1 m hF (Or.inr ⟨st, hR, w32c_1, hS, by omega⟩), fun h => absurd (show w32 (m 115 f) ≤ w32 K by omega) h⟩
  | succ n ih =>
    intro k K m st e hn hkb hK hF hS hI hl he hR
    have e115 : w32 (m 115 f) = (b : Int) := by rw [hF 115 f (by omega) (by decide)]; exact r2
    have hk1 : w32 (K + 1) = ((k + 1 : Nat) : Int) := by rw [w32_ad (by rw [w32c_1]; omega) (by rw [w32c_1]; omega), w32c_1]; omega
    have kt : (w32 K).toNat = k := by rw [hK]; exact Int.toNat_natCast _
    have hko : k < o.length := by omega
    obtain ⟨q1, q2⟩ := r5 k hko
    have hq := r6 _ (knD_m hko)
    have e116 : m 116 k = mem 116 k := hF 116 k (by omega) (by decide)
    have e117 : m 117 k = mem 117 k := hF 117 k (by omega) (by decide)
    have h52 : w32 (m 95 52) = (st.length : Int) := hS.1
    have i52 : (w32 (m 95 52)).toNat = st.length := by rw [h52]; exact Int.toNat_natCast _
    simp only [zpf] at he
    rw [q1, q2] at he
    have go : ∀ m2 st2, rzF mem m2 → rSt m2 st2 → (∀ w ∈ st2, eIn w) → st2.length ≤ k + 1 → zp1 (rKt (knD o k).1) (rKv (knD o k).1 (knD o k).2) (st.length : Int) = some (st2.length : Int) → eAp nm (knD o k) st = some st2 → zG E (d + 2) xm_174 12 [some (1, 95), some (0, s), some (0, K + 1)] [] m2 Q := fun m2 st2 F2 S2 I2 l2 z2 a2 => by
      rw [z2] at he
      exact ih (k + 1) (K + 1) m2 st2 e (by omega) (by omega) hk1 F2 S2 I2 l2 he (by
        rw [hR]
        show (match eAp nm (knD o k) st with | some st' => eRn (knD o) nm n (k + 1) st' | none => none) = _
        rw [a2])
    have push : ∀ x, (eAp nm (knD o k) st = some (w64 x :: st)) → eIn (w64 x) → zp1 (rKt (knD o k).1) (rKv (knD o k).1 (knD o k).2) (st.length : Int) = some ((st.length + 1 : Nat) : Int) → zG E (d + 2) xm_174 12 [some (1, 95), some (0, s), some (0, K + 1)] [] (yset (yset m 131 st.length x) 95 52 (m 95 52 + 1)) Q := fun x ax ix zx => go _ (w64 x :: st) (rzF_tr hF (rzF_tr rzF_131 rzF_52)) ⟨by rw [yset_s, w32_ad (by rw [w32c_1]; omega) (by rw [w32c_1]; omega), w32c_1, h52]; rfl, by rw [yset_o (by decide), yset_s], rSk_fr hS.2 (fun j hj => by rw [yset_o (by decide), yset_d (by omega)])⟩ (fun w hw => by
        rcases List.mem_cons.mp hw with rfl | hw
        · exact ix
        · exact hI w hw) (by show st.length + 1 ≤ k + 1; omega) zx ax
    refine zgo_ok (n := 60) hE xmo_174 (cs := zc_174) ?_
    simp only [ynok_30, ynok_31, w32c_0, w32c_1, w32c_2, w32c_3, w32c_4, w32c_5, w32c_6, w32c_7, w32c_8, w32c_9, w32c_10, w32c_11, w32c_12, w32c_13, w32c_14, w32c_m1, w32c_m2, w32c_118, Int.reduceAdd, Int.reduceSub, Int.reduceMul, yput_s, yput_n, znl_n, znl_0, znl_1, znl_4, ysum_n, ysum_0, ysum_1, ysum_4, true_and, and_true, Nat.reduceAdd, Nat.reduceLeDiff, true_implies, eq_self, true_or, or_true, or_false, false_or, not_true_eq_false, not_false_eq_true, false_implies, implies_true, yset_s, yset_o, yset_d, ne_eq, Nat.reduceEqDiff, Int.reduceToNat, Int.reduceEq, Int.reduceLE, Int.reduceLT, Classical.not_not, Nat.reduceLT, ↓zvk_s, ↓zvk_n, ↓s_174_0, ↓s_174_1, ↓s_174_2, ↓s_174_5, ↓s_174_6, ↓s_174_9, ↓s_174_10, ↓s_174_11n, ↓s_174_11i, ↓s_174_11p, ↓g_174_12, ↓k_174_12, ↓s_174_13, ↓s_174_14, ↓s_174_17, ↓s_174_18, ↓s_174_19, ↓s_174_22, ↓s_174_23, ↓s_174_26, ↓s_174_27, ↓s_174_28, ↓s_174_29, ↓s_174_32, ↓s_174_33, ↓s_174_34, ↓s_174_37, ↓s_174_38, ↓s_174_39, ↓s_174_42, ↓s_174_45, ↓s_174_46, ↓s_174_47, ↓s_174_48, ↓s_174_51, ↓s_174_52, ↓s_174_55, ↓s_174_56, ↓s_174_59, ↓s_174_60, ↓s_174_61, ↓s_174_64, ↓s_174_65, ↓s_174_68, ↓s_174_69, ↓s_174_70, ↓s_174_71, ↓s_174_74, ↓s_174_75, ↓s_174_78, ↓s_174_79, ↓s_174_82, ↓s_174_83, ↓s_174_84, ↓s_174_85, ↓s_174_86, ↓s_174_87a, ↓s_174_87b, ↓s_174_88, ↓s_174_91, ↓s_174_92, ↓s_174_93, ↓s_174_96n, ↓s_174_96i, ↓s_174_96p, ↓s_174_99, ↓s_174_102, ↓s_174_103, zar_114, zia_114, zln_114, zit_114, zar_115, zia_115, zln_115, zit_115, zar_116, zia_116, zln_116, zit_116, zar_117, zia_117, zln_117, zit_117, zar_131, zia_131, zln_131, zit_131, zar_130, zia_130, zln_130, zit_130, zio_95, fs, kt, e116, e117, i52]
    rw [e115, hK, h52]
    obtain ⟨q, hqe⟩ : ∃ q, q = knD o k := ⟨_, rfl⟩
    rw [← hqe] at q1 q2 hq he go push
    have hT0 : q.1 = 2 → rKt q.1 = 0 := fun e => by unfold rKt; rw [if_pos e]
    have hT1 : 33 ≤ q.1 → rKt q.1 = 1 := fun e => by unfold rKt; rw [if_neg (by omega), if_pos e]
    have x0 : (0 ≤ (k : Int) ∧ (k : Int) < ((128 : Nat) : Int)) := ⟨by omega, by omega⟩
    rw [q1]
    refine ⟨⟨by omega, by omega⟩, fun z => absurd z (by omega), fun _ => ⟨x0, fun n2 => ⟨x0, fun n0 => ⟨x0, ?_⟩, fun e0 => ⟨x0, ⟨by omega, by omega⟩, ?_⟩⟩, fun e2 => ⟨x0, ?_⟩⟩⟩
    · have k33 : 33 ≤ q.1 ∧ q.1 ≤ 39 := by
        rcases hq with hq | hq | hq
        · exact absurd (hT0 hq) n0
        · exact hq
        · exact absurd (rKv_s q.1 (by have := sLv_k hq; omega) hq).2 n2
      have e7 : w32 (mem 117 k) = ((q.1 - 33 : Nat) : Int) := by rw [q2]; unfold rKv; rw [if_neg (by omega), if_pos k33.1]; omega
      have i7 := w32_t e7
      obtain ⟨n1, nI⟩ := r7 (q.1 - 33) (by omega)
      rw [i7]
      refine ⟨⟨by omega, by omega⟩, ⟨by omega, by omega⟩, push _ ?_ ?_ ?_⟩
      · rw [hF 130 _ (by omega) (by decide), n1]
        unfold eAp
        rw [if_neg (by omega), if_pos k33]
      · rw [hF 130 _ (by omega) (by decide), n1]
        exact nI
      · rw [← q2, e7, hT1 k33.1]
        unfold zp1
        rw [if_neg (by decide), if_pos (Or.inr ⟨by omega, by omega⟩)]
        rfl
    · have k2 : q.1 = 2 := by
        rcases hq with hq | hq | hq
        · exact hq
        · exact absurd ((hT1 hq.1).symm.trans e0) (by decide)
        · exact absurd ((rKv_s q.1 (by have := sLv_k hq; omega) hq).2.symm.trans e0) (by decide)
      refine push _ ?_ ?_ ?_
      · rw [w64_w32, q2]
        unfold eAp rKv
        rw [if_pos k2, if_pos k2]
      · rw [w64_w32]
        exact eIn_32 _
      · rw [hT0 k2]
        unfold zp1
        rw [if_neg (by decide), if_pos (Or.inl rfl)]
        rfl
    · have hk3 : 1 ≤ sLv q.1 := by
        rcases hq with hq | hq | hq
        · exact absurd ((hT0 hq).symm.trans e2) (by decide)
        · exact absurd ((hT1 hq.1).symm.trans e2) (by decide)
        · exact hq
      have kl := sLv_k hk3
      have kk := kOk_lv hk3
      obtain ⟨k260, -⟩ := rKv_s q.1 (by omega) hk3
      rw [← rKv_0 (v := q.2) kk.1] at k260
      have hd : if q.1 = 32 then 1 ≤ st.length else 2 ≤ st.length := by
        rw [e2] at he
        unfold zp1 at he
        rw [if_pos rfl] at he
        by_cases c : q.1 = 32
        · rw [if_pos c]
          rw [if_pos (k260.mpr c)] at he
          by_cases c2 : (1 : Int) ≤ (st.length : Int)
          · omega
          · rw [if_neg c2] at he
            cases he
        · rw [if_neg c]
          rw [if_neg (fun z => c (k260.mp z))] at he
          by_cases c2 : (2 : Int) ≤ (st.length : Int)
          · omega
          · rw [if_neg c2] at he
            cases he
      have ev : eAp nm q st = eAp nm (q.1, 0) st := eAp_v (k := q.1) (v := q.2) hk3
      have hR2 : R = (match eAp nm q st with | some st' => eRn (knD o) nm n (k + 1) st' | none => none) := by
        rw [hR, hqe]
        rfl
      refine re_works (nm := nm) hE (by omega) (k := q.1) (v := q.2) hk3 q2 hS (by omega) hI hd (fun x m' F' c => ?_)
      refine zgk_s hE xmo_174 60 zc_174 ?_
      simp only [ynok_30, ynok_31, w32c_0, w32c_1, w32c_2, w32c_3, w32c_4, w32c_5, w32c_6, w32c_7, w32c_8, w32c_9, w32c_10, w32c_11, w32c_12, w32c_13, w32c_14, w32c_m1, w32c_m2, w32c_118, Int.reduceAdd, Int.reduceSub, Int.reduceMul, yput_s, yput_n, znl_n, znl_0, znl_1, znl_4, ysum_n, ysum_0, ysum_1, ysum_4, true_and, and_true, Nat.reduceAdd, Nat.reduceLeDiff, true_implies, eq_self, true_or, or_true, or_false, false_or, not_true_eq_false, not_false_eq_true, false_implies, implies_true, yset_s, yset_o, yset_d, ne_eq, Nat.reduceEqDiff, Int.reduceToNat, Int.reduceEq, Int.reduceLE, Int.reduceLT, Classical.not_not, Nat.reduceLT, ↓zvk_s, ↓zvk_n, ↓s_174_0, ↓s_174_1, ↓s_174_2, ↓s_174_5, ↓s_174_6, ↓s_174_9, ↓s_174_10, ↓s_174_11n, ↓s_174_11i, ↓s_174_11p, ↓g_174_12, ↓k_174_12, ↓s_174_13, ↓s_174_14, ↓s_174_17, ↓s_174_18, ↓s_174_19, ↓s_174_22, ↓s_174_23, ↓s_174_26, ↓s_174_27, ↓s_174_28, ↓s_174_29, ↓s_174_32, ↓s_174_33, ↓s_174_34, ↓s_174_37, ↓s_174_38, ↓s_174_39, ↓s_174_42, ↓s_174_45, ↓s_174_46, ↓s_174_47, ↓s_174_48, ↓s_174_51, ↓s_174_52, ↓s_174_55, ↓s_174_56, ↓s_174_59, ↓s_174_60, ↓s_174_61, ↓s_174_64, ↓s_174_65, ↓s_174_68, ↓s_174_69, ↓s_174_70, ↓s_174_71, ↓s_174_74, ↓s_174_75, ↓s_174_78, ↓s_174_79, ↓s_174_82, ↓s_174_83, ↓s_174_84, ↓s_174_85, ↓s_174_86, ↓s_174_87a, ↓s_174_87b, ↓s_174_88, ↓s_174_91, ↓s_174_92, ↓s_174_93, ↓s_174_96n, ↓s_174_96i, ↓s_174_96p, ↓s_174_99, ↓s_174_102, ↓s_174_103, zar_114, zia_114, zln_114, zit_114, zar_115, zia_115, zln_115, zit_115, zar_116, zia_116, zln_116, zit_116, zar_117, zia_117, zln_117, zit_117, zar_131, zia_131, zln_131, zit_131, zar_130, zia_130, zln_130, zit_130, zio_95]
      rw [← ev] at c
      refine ⟨fun z => ?_, fun z => ?_⟩
      · rcases c with ⟨c1, c2⟩ | ⟨st', c1, c2, c3, c4⟩
        · exact absurd c2 z
        · have ln := eAp_ln hk3 (by rw [← ev]; exact c1) hd
          refine go m' st' (rzF_tr hF F') c3 c4 (by rw [ln]; split <;> omega) ?_ c1
          rw [e2]
          unfold zp1
          rw [if_pos rfl]
          by_cases c : q.1 = 32
          · rw [if_pos c] at ln hd
            rw [if_pos (k260.mpr c), if_pos (by omega), ln]
          · rw [if_neg c] at ln hd
            rw [if_neg (fun z => c (k260.mp z)), if_pos (by omega), ln]
            congr 1
            omega
      · rcases c with ⟨c1, c2⟩ | ⟨st', c1, c2, c3, c4⟩
        · exact hQ 0 m' (rzF_tr hF F') (Or.inl ⟨by rw [hR2, c1], w32c_0⟩)
        · omega
theorem re_goes (hE : yEok E) {D0 : Nat} (hD : 3 ≤ D0) {s : Int} {o : sK} {f a b : Nat} (hf : w32 s = (f : Int)) (hf5 : f < 5) (hab : a ≤ b) (hR : rFm mem o f a b nm) {e : Int} (he : zpf (mem 116) (mem 117) (b - a) a 0 = some e) (hQ : ∀ x m, rzF mem m → ((eRn (knD o) nm (b - a) a [] = none ∧ w32 x = 0) ∨ ∃ st', eRn (knD o) nm (b - a) a [] = some st' ∧ w32 x = 1 ∧ rSt m st' ∧ st'.length ≤ 64) → Q (some (0, x)) m) : yCon E D0 xm_174 [(1, 95), (0, s)] mem Q := by
  obtain ⟨d, rfl⟩ := Nat.exists_eq_add_of_le' hD
  have fs : (w32 s).toNat = f := by rw [hf]; exact Int.toNat_natCast _
  have h114 := hR.1.1
  refine e_174 ?_
  refine zvc_ok hE 60 zc_174 _ _ _ _ _ _ _ xmo_174 ?_
  simp only [ynok_30, ynok_31, w32c_0, w32c_1, w32c_2, w32c_3, w32c_4, w32c_5, w32c_6, w32c_7, w32c_8, w32c_9, w32c_10, w32c_11, w32c_12, w32c_13, w32c_14, w32c_m1, w32c_m2, w32c_118, Int.reduceAdd, Int.reduceSub, Int.reduceMul, yput_s, yput_n, znl_n, znl_0, znl_1, znl_4, ysum_n, ysum_0, ysum_1, ysum_4, true_and, and_true, Nat.reduceAdd, Nat.reduceLeDiff, true_implies, eq_self, true_or, or_true, or_false, false_or, not_true_eq_false, not_false_eq_true, false_implies, implies_true, yset_s, yset_o, yset_d, ne_eq, Nat.reduceEqDiff, Int.reduceToNat, Int.reduceEq, Int.reduceLE, Int.reduceLT, Classical.not_not, Nat.reduceLT, ↓zvk_s, ↓zvk_n, ↓s_174_0, ↓s_174_1, ↓s_174_2, ↓s_174_5, ↓s_174_6, ↓s_174_9, ↓s_174_10, ↓s_174_11n, ↓s_174_11i, ↓s_174_11p, ↓g_174_12, ↓k_174_12, ↓s_174_13, ↓s_174_14, ↓s_174_17, ↓s_174_18, ↓s_174_19, ↓s_174_22, ↓s_174_23, ↓s_174_26, ↓s_174_27, ↓s_174_28, ↓s_174_29, ↓s_174_32, ↓s_174_33, ↓s_174_34, ↓s_174_37, ↓s_174_38, ↓s_174_39, ↓s_174_42, ↓s_174_45, ↓s_174_46, ↓s_174_47, ↓s_174_48, ↓s_174_51, ↓s_174_52, ↓s_174_55, ↓s_174_56, ↓s_174_59, ↓s_174_60, ↓s_174_61, ↓s_174_64, ↓s_174_65, ↓s_174_68, ↓s_174_69, ↓s_174_70, ↓s_174_71, ↓s_174_74, ↓s_174_75, ↓s_174_78, ↓s_174_79, ↓s_174_82, ↓s_174_83, ↓s_174_84, ↓s_174_85, ↓s_174_86, ↓s_174_87a, ↓s_174_87b, ↓s_174_88, ↓s_174_91, ↓s_174_92, ↓s_174_93, ↓s_174_96n, ↓s_174_96i, ↓s_174_96p, ↓s_174_99, ↓s_174_102, ↓s_174_103, zar_114, zia_114, zln_114, zit_114, zar_115, zia_115, zln_115, zit_115, zar_116, zia_116, zln_116, zit_116, zar_117, zia_117, zln_117, zit_117, zar_131, zia_131, zln_131, zit_131, zar_130, zia_130, zln_130, zit_130, zio_95, fs]
  refine ⟨⟨by omega, by omega⟩, ?_⟩
  exact re_goes_l hE hf hf5 hR (R := eRn (knD o) nm (b - a) a []) hQ (b - a) a _ _ [] e rfl hab h114 rzF_52 ⟨by rw [yset_s]; exact w32c_0, trivial⟩ (fun w hw => absurd hw List.not_mem_nil) (Nat.zero_le _) he rfl
end RX
