/-! the reference's sign and token, as they are -/
abbrev rsz (mem : yMem) : Nat := (w32 (mem 95 26)).toNat
def sIn (c : Int) : Prop := c = 59 ∨ c = 40 ∨ c = 41 ∨ c = 43 ∨ c = 45 ∨ c = 42 ∨ c = 47 ∨ c = 60 ∨ c = 61 ∨ c = 62
def sVl (c b : Int) : Int := if c = 60 ∧ b = 61 then 256 else if c = 60 ∧ b = 62 then 257 else if c = 62 ∧ b = 61 then 258 else c
theorem sg_fin {c b b0 s : Int} (hc : c ≤ 255) (hb : b = b0 ∨ (b = -1 ∧ b0 = 0)) (hs : (sIn c ∧ s = 3) ∨ (¬ sIn c ∧ s = 5)) : sRk s (sVl c b) (sSg c b0).1 0 ∧ (if 256 ≤ sVl c b then (2 : Int) else 1) = ((sSg c b0).2 : Int) := by
  have key : sIn c → s = 3 := fun h => by
    rcases hs with h' | h'
    · exact h'.2
    · exact absurd h h'.1
  have mk : ∀ k : Nat, 4 ≤ k → k ≤ 16 → s = 3 → sVl c b = sSc k → sRk s (sVl c b) k 0 := fun k h1 h2 h3 h4 => Or.inr (Or.inr (Or.inr (Or.inr (Or.inl ⟨h1, h2, h3, h4⟩))))
  unfold sSg
  by_cases h59 : c = 59
  · rw [if_pos h59]; subst h59
    have ev : sVl 59 b = 59 := by unfold sVl; rw [if_neg (by omega), if_neg (by omega), if_neg (by omega)]
    rw [ev]
    rw [ev] at mk
    exact ⟨mk 4 (by decide) (by decide) (key (by unfold sIn; omega)) rfl, by decide⟩
  rw [if_neg h59]
  by_cases h40 : c = 40
  · rw [if_pos h40]; subst h40
    have ev : sVl 40 b = 40 := by unfold sVl; rw [if_neg (by omega), if_neg (by omega), if_neg (by omega)]
    rw [ev]
    rw [ev] at mk
    exact ⟨mk 5 (by decide) (by decide) (key (by unfold sIn; omega)) rfl, by decide⟩
  rw [if_neg h40]
  by_cases h41 : c = 41
  · rw [if_pos h41]; subst h41
    have ev : sVl 41 b = 41 := by unfold sVl; rw [if_neg (by omega), if_neg (by omega), if_neg (by omega)]
    rw [ev]
    rw [ev] at mk
    exact ⟨mk 6 (by decide) (by decide) (key (by unfold sIn; omega)) rfl, by decide⟩
  rw [if_neg h41]
  by_cases h60 : c = 60
  · rw [if_pos h60]; subst h60
    by_cases hb1 : b0 = 61
    · rw [if_pos hb1]
      have ev : sVl 60 b = 256 := by unfold sVl; rw [if_pos ⟨rfl, by omega⟩]
      rw [ev]
      rw [ev] at mk
      exact ⟨mk 8 (by decide) (by decide) (key (by unfold sIn; omega)) rfl, by decide⟩
    · rw [if_neg hb1]
      by_cases hb2 : b0 = 62
      · rw [if_pos hb2]
        have ev : sVl 60 b = 257 := by unfold sVl; rw [if_neg (by omega), if_pos ⟨rfl, by omega⟩]
        rw [ev]
        rw [ev] at mk
        exact ⟨mk 10 (by decide) (by decide) (key (by unfold sIn; omega)) rfl, by decide⟩
      · rw [if_neg hb2]
        have ev : sVl 60 b = 60 := by unfold sVl; rw [if_neg (by omega), if_neg (by omega), if_neg (by omega)]
        rw [ev]
        rw [ev] at mk
        exact ⟨mk 7 (by decide) (by decide) (key (by unfold sIn; omega)) rfl, by decide⟩
  rw [if_neg h60]
  by_cases h61 : c = 61
  · rw [if_pos h61]; subst h61
    have ev : sVl 61 b = 61 := by unfold sVl; rw [if_neg (by omega), if_neg (by omega), if_neg (by omega)]
    rw [ev]
    rw [ev] at mk
    exact ⟨mk 9 (by decide) (by decide) (key (by unfold sIn; omega)) rfl, by decide⟩
  rw [if_neg h61]
  by_cases h62 : c = 62
  · rw [if_pos h62]; subst h62
    by_cases hb1 : b0 = 61
    · rw [if_pos hb1]
      have ev : sVl 62 b = 258 := by unfold sVl; rw [if_neg (by omega), if_neg (by omega), if_pos ⟨rfl, by omega⟩]
      rw [ev]
      rw [ev] at mk
      exact ⟨mk 11 (by decide) (by decide) (key (by unfold sIn; omega)) rfl, by decide⟩
    · rw [if_neg hb1]
      have ev : sVl 62 b = 62 := by unfold sVl; rw [if_neg (by omega), if_neg (by omega), if_neg (by omega)]
      rw [ev]
      rw [ev] at mk
      exact ⟨mk 12 (by decide) (by decide) (key (by unfold sIn; omega)) rfl, by decide⟩
  rw [if_neg h62]
  by_cases h43 : c = 43
  · rw [if_pos h43]; subst h43
    have ev : sVl 43 b = 43 := by unfold sVl; rw [if_neg (by omega), if_neg (by omega), if_neg (by omega)]
    rw [ev]
    rw [ev] at mk
    exact ⟨mk 13 (by decide) (by decide) (key (by unfold sIn; omega)) rfl, by decide⟩
  rw [if_neg h43]
  by_cases h45 : c = 45
  · rw [if_pos h45]; subst h45
    have ev : sVl 45 b = 45 := by unfold sVl; rw [if_neg (by omega), if_neg (by omega), if_neg (by omega)]
    rw [ev]
    rw [ev] at mk
    exact ⟨mk 14 (by decide) (by decide) (key (by unfold sIn; omega)) rfl, by decide⟩
  rw [if_neg h45]
  by_cases h42 : c = 42
  · rw [if_pos h42]; subst h42
    have ev : sVl 42 b = 42 := by unfold sVl; rw [if_neg (by omega), if_neg (by omega), if_neg (by omega)]
    rw [ev]
    rw [ev] at mk
    exact ⟨mk 15 (by decide) (by decide) (key (by unfold sIn; omega)) rfl, by decide⟩
  rw [if_neg h42]
  by_cases h47 : c = 47
  · rw [if_pos h47]; subst h47
    have ev : sVl 47 b = 47 := by unfold sVl; rw [if_neg (by omega), if_neg (by omega), if_neg (by omega)]
    rw [ev]
    rw [ev] at mk
    exact ⟨mk 16 (by decide) (by decide) (key (by unfold sIn; omega)) rfl, by decide⟩
  rw [if_neg h47]
  have ev : sVl c b = c := by unfold sVl; rw [if_neg (by omega), if_neg (by omega), if_neg (by omega)]
  rw [ev, if_neg (show ¬ 256 ≤ c by omega)]
  refine ⟨Or.inr (Or.inl ⟨rfl, ?_⟩), rfl⟩
  rcases hs with h' | h'
  · have := h'.1
    unfold sIn at this
    omega
  · exact h'.2
/-- what stands behind the sign -/
def rHb (mem : yMem) : Int := if w32 (mem 95 27) + 1 < w32 (mem 95 26) then w32 (mem 96 (w32 (mem 95 27) + 1).toNat) else -1
def SfI (mem m : yMem) (s : Int) : Prop := aFrm [(95, 28), (95, 30), (95, 31)] mem m ∧ w32 (m 95 27) = w32 (mem 95 27) + 1 ∧ w32 (m 95 29) = s
theorem sf150 {E : yE} (hE : yEok E) {d : Nat} {mem m : yMem} {Q : Option yV → yMem → Prop} {r1 : Option yV} {s : Int} (hs : w32 (mem 95 26) ≤ 800) (ha : 0 ≤ w32 (mem 95 27)) (ha2 : w32 (mem 95 27) < w32 (mem 95 26)) (hI : SfI mem m s) (fin : ∀ m', aFrm [(95, 28), (95, 30), (95, 31)] mem m' → w32 (m' 95 27) = w32 (mem 95 27) + (if 256 ≤ w32 (m 95 30) then 2 else 1) → w32 (m' 95 29) = s → w32 (m' 95 30) = w32 (m 95 30) → Q none m') : zG E (d + 1) xm_228 150 [some (1, 95), r1] [] m Q := by
  obtain ⟨h1, h2, h3⟩ := hI
  refine zgo_ok (n := 60) hE xmo_228 (cs := zc_228) ?_
  have e1 : w32 (m 95 27 + 1) = w32 (m 95 27) + 1 := by rw [w32_ad (by rw [w32c_1]; omega) (by rw [w32c_1]; omega), w32c_1]
  simp only [ynok_30, ynok_31, w32c_0, w32c_1, w32c_2, w32c_3, w32c_4, w32c_5, w32c_6, w32c_7, w32c_8, w32c_9, w32c_10, w32c_11, w32c_12, w32c_13, w32c_14, w32c_m1, w32c_m2, w32c_118, Int.reduceAdd, Int.reduceSub, Int.reduceMul, yput_s, yput_n, znl_n, znl_0, znl_1, znl_4, ysum_n, ysum_0, ysum_1, ysum_4, true_and, and_true, Nat.reduceAdd, Nat.reduceLeDiff, true_implies, eq_self, true_or, or_true, or_false, false_or, not_true_eq_false, not_false_eq_true, false_implies, implies_true, yset_s, yset_o, yset_d, ne_eq, Nat.reduceEqDiff, Int.reduceToNat, Int.reduceEq, Int.reduceLE, Int.reduceLT, Classical.not_not, Nat.reduceLT, ↓zvk_s, ↓zvk_n, ↓s_228_0, ↓s_228_1a, ↓s_228_1b, ↓s_228_2, ↓s_228_5, ↓s_228_6, ↓s_228_7, ↓s_228_10, ↓s_228_11, ↓s_228_12, ↓s_228_14, ↓s_228_17, ↓s_228_18, ↓s_228_20, ↓s_228_23, ↓s_228_24, ↓s_228_26, ↓s_228_29, ↓s_228_30, ↓s_228_32, ↓s_228_35, ↓s_228_36, ↓s_228_38, ↓s_228_41, ↓s_228_42, ↓s_228_44, ↓s_228_47, ↓s_228_48, ↓s_228_50, ↓s_228_53, ↓s_228_54, ↓s_228_56, ↓s_228_59, ↓s_228_60, ↓s_228_62, ↓s_228_65, ↓s_228_66, ↓s_228_68, ↓s_228_71, ↓s_228_72, ↓s_228_75, ↓s_228_76, ↓g_228_79, ↓k_228_79, ↓s_228_80, ↓s_228_81, ↓s_228_84, ↓s_228_85, ↓s_228_87, ↓s_228_90, ↓s_228_91, ↓s_228_94, ↓s_228_96, ↓s_228_99, ↓s_228_100, ↓s_228_103, ↓g_228_106, ↓k_228_106, ↓s_228_107, ↓s_228_109, ↓s_228_112, ↓s_228_113, ↓s_228_116, ↓s_228_118, ↓s_228_121, ↓s_228_122, ↓s_228_125, ↓g_228_128, ↓k_228_128, ↓s_228_129, ↓s_228_131, ↓s_228_134, ↓s_228_135, ↓s_228_138, ↓s_228_140, ↓s_228_143, ↓s_228_144, ↓s_228_147, ↓g_228_150, ↓k_228_150, ↓s_228_151, ↓s_228_154, ↓s_228_157, ↓s_228_160, ↓s_228_161a, ↓s_228_161b, ↓s_228_162, ↓s_228_165, ↓s_228_166, ↓s_228_167, ↓s_228_170, w32c_59, w32c_40, w32c_41, w32c_43, w32c_45, w32c_42, w32c_47, w32c_60, w32c_61, w32c_62, w32c_256, w32c_257, w32c_258, zio_95]
  refine ⟨fun h => fin m h1 ?_ h3 rfl, fun h => fin _ (aFrm_set h1 rfl) ?_ ?_ ?_⟩
  · rw [if_neg (by omega), h2]
  · rw [yset_s, e1, if_pos (by omega), h2]; omega
  · rw [yset_d (by decide)]; exact h3
  · rw [yset_d (by decide)]
theorem SfI_val {mem m : yMem} {s : Int} (hI : SfI mem m s) {v : Int} : SfI mem (yset m 95 30 v) s := ⟨aFrm_set hI.1 rfl, by rw [yset_d (by decide)]; exact hI.2.1, by rw [yset_d (by decide)]; exact hI.2.2⟩
theorem rHb1 {mem : yMem} {x : Int} (e27 : x = w32 (mem 95 27) + 1) (h : x < w32 (mem 95 26)) : rHb mem = w32 (mem 96 x.toNat) := by
  unfold rHb
  rw [if_pos (by omega), e27]
theorem rHb2 {mem : yMem} {x : Int} (e27 : x = w32 (mem 95 27) + 1) (h : w32 (mem 95 26) ≤ x) : rHb mem = -1 := by
  unfold rHb
  rw [if_neg (by omega)]
def sv150 (_ _ v : Int) : Int := v
def sv128 (c b v : Int) : Int := if c = 62 ∧ b = 61 then 258 else v
def sv106 (c b v : Int) : Int := if c = 60 ∧ b = 62 then sv128 c b 257 else sv128 c b v
def sv79 (c b v : Int) : Int := if c = 60 ∧ b = 61 then sv106 c b 256 else sv106 c b v
theorem sv128_n {c b v : Int} (h : ¬ (c = 62 ∧ b = 61)) : sv128 c b v = sv150 c b v := if_neg h
theorem sv128_y {c b v : Int} (h : c = 62 ∧ b = 61) : sv128 c b v = sv150 c b (w32 258) := (if_pos h).trans (by first | (rw [show w32 258 = 258 by decide]; done) | (rw [show w32 258 = 258 by decide]; rfl))
theorem sv106_n {c b v : Int} (h : ¬ (c = 60 ∧ b = 62)) : sv106 c b v = sv128 c b v := if_neg h
theorem sv106_y {c b v : Int} (h : c = 60 ∧ b = 62) : sv106 c b v = sv128 c b (w32 257) := (if_pos h).trans (by first | (rw [show w32 257 = 257 by decide]; done) | (rw [show w32 257 = 257 by decide]; rfl))
theorem sv79_n {c b v : Int} (h : ¬ (c = 60 ∧ b = 61)) : sv79 c b v = sv106 c b v := if_neg h
theorem sv79_y {c b v : Int} (h : c = 60 ∧ b = 61) : sv79 c b v = sv106 c b (w32 256) := (if_pos h).trans (by first | (rw [show w32 256 = 256 by decide]; done) | (rw [show w32 256 = 256 by decide]; rfl))
theorem sf128 {E : yE} (hE : yEok E) {d : Nat} {mem m : yMem} {Q : Option yV → yMem → Prop} {c s : Int} (hs : w32 (mem 95 26) ≤ 800) (ha : 0 ≤ w32 (mem 95 27)) (ha2 : w32 (mem 95 27) < w32 (mem 95 26)) (hI : SfI mem m s) (fin : ∀ m', aFrm [(95, 28), (95, 30), (95, 31)] mem m' → w32 (m' 95 27) = w32 (mem 95 27) + (if 256 ≤ sv128 (w32 c) (rHb mem) (w32 (m 95 30)) then 2 else 1) → w32 (m' 95 29) = s → w32 (m' 95 30) = sv128 (w32 c) (rHb mem) (w32 (m 95 30)) → Q none m') : zG E (d + 1) xm_228 128 [some (1, 95), some (0, c)] [] m Q := by
  have e26 : m 95 26 = mem 95 26 := hI.1 95 26 rfl
  have e27 := hI.2.1
  have no : ¬ (w32 c = 62 ∧ rHb mem = 61) → zG E (d + 1) xm_228 150 [some (1, 95), some (0, c)] [] m Q := fun hn => sf150 hE hs ha ha2 hI (fun m' g1 g2 g3 g4 => fin m' g1 (by rw [sv128_n hn]; exact g2) g3 (by rw [sv128_n hn]; exact g4))
  have yes : w32 c = 62 ∧ rHb mem = 61 → zG E (d + 1) xm_228 150 [some (1, 95), some (0, c)] [] (yset m 95 30 258) Q := fun hy => sf150 hE hs ha ha2 (SfI_val hI) (fun m' g1 g2 g3 g4 => fin m' g1 (by rw [sv128_y hy]; rw [yset_s] at g2; exact g2) g3 (by rw [sv128_y hy]; rw [yset_s] at g4; exact g4))
  refine zgo_ok (n := 60) hE xmo_228 (cs := zc_228) ?_
  simp only [ynok_30, ynok_31, w32c_0, w32c_1, w32c_2, w32c_3, w32c_4, w32c_5, w32c_6, w32c_7, w32c_8, w32c_9, w32c_10, w32c_11, w32c_12, w32c_13, w32c_14, w32c_m1, w32c_m2, w32c_118, Int.reduceAdd, Int.reduceSub, Int.reduceMul, yput_s, yput_n, znl_n, znl_0, znl_1, znl_4, ysum_n, ysum_0, ysum_1, ysum_4, true_and, and_true, Nat.reduceAdd, Nat.reduceLeDiff, true_implies, eq_self, true_or, or_true, or_false, false_or, not_true_eq_false, not_false_eq_true, false_implies, implies_true, yset_s, yset_o, yset_d, ne_eq, Nat.reduceEqDiff, Int.reduceToNat, Int.reduceEq, Int.reduceLE, Int.reduceLT, Classical.not_not, Nat.reduceLT, ↓zvk_s, ↓zvk_n, ↓s_228_0, ↓s_228_1a, ↓s_228_1b, ↓s_228_2, ↓s_228_5, ↓s_228_6, ↓s_228_7, ↓s_228_10, ↓s_228_11, ↓s_228_12, ↓s_228_14, ↓s_228_17, ↓s_228_18, ↓s_228_20, ↓s_228_23, ↓s_228_24, ↓s_228_26, ↓s_228_29, ↓s_228_30, ↓s_228_32, ↓s_228_35, ↓s_228_36, ↓s_228_38, ↓s_228_41, ↓s_228_42, ↓s_228_44, ↓s_228_47, ↓s_228_48, ↓s_228_50, ↓s_228_53, ↓s_228_54, ↓s_228_56, ↓s_228_59, ↓s_228_60, ↓s_228_62, ↓s_228_65, ↓s_228_66, ↓s_228_68, ↓s_228_71, ↓s_228_72, ↓s_228_75, ↓s_228_76, ↓g_228_79, ↓k_228_79, ↓s_228_80, ↓s_228_81, ↓s_228_84, ↓s_228_85, ↓s_228_87, ↓s_228_90, ↓s_228_91, ↓s_228_94, ↓s_228_96, ↓s_228_99, ↓s_228_100, ↓s_228_103, ↓g_228_106, ↓k_228_106, ↓s_228_107, ↓s_228_109, ↓s_228_112, ↓s_228_113, ↓s_228_116, ↓s_228_118, ↓s_228_121, ↓s_228_122, ↓s_228_125, ↓g_228_128, ↓k_228_128, ↓s_228_129, ↓s_228_131, ↓s_228_134, ↓s_228_135, ↓s_228_138, ↓s_228_140, ↓s_228_143, ↓s_228_144, ↓s_228_147, ↓g_228_150, ↓k_228_150, ↓s_228_151, ↓s_228_154, ↓s_228_157, ↓s_228_160, ↓s_228_161a, ↓s_228_161b, ↓s_228_162, ↓s_228_165, ↓s_228_166, ↓s_228_167, ↓s_228_170, w32c_59, w32c_40, w32c_41, w32c_43, w32c_45, w32c_42, w32c_47, w32c_60, w32c_61, w32c_62, w32c_256, w32c_257, w32c_258, ↓s_178_0, ↓s_178_1, ↓s_178_4, ↓s_178_5, ↓s_178_8, ↓s_178_11, ↓s_178_12, ↓s_178_15, ↓s_178_16, ↓s_178_19, ↓s_178_20, ↓s_178_23, ↓s_178_24, zar_96, zia_96, zln_96, zit_96, zio_95]
  rw [e26, hI.1 96 _ rfl]
  exact ⟨fun h => no (fun z => h z.1), fun h => ⟨fun h2 => no (fun z => by have := rHb2 e27 h2; omega), fun h2 => ⟨⟨by omega, by omega⟩, fun h3 => no (fun z => h3 (by rw [← rHb1 e27 (by omega)]; exact z.2)), fun h3 => yes ⟨h, by rw [rHb1 e27 (by omega)]; exact h3⟩⟩⟩⟩
theorem sf106 {E : yE} (hE : yEok E) {d : Nat} {mem m : yMem} {Q : Option yV → yMem → Prop} {c s : Int} (hs : w32 (mem 95 26) ≤ 800) (ha : 0 ≤ w32 (mem 95 27)) (ha2 : w32 (mem 95 27) < w32 (mem 95 26)) (hI : SfI mem m s) (fin : ∀ m', aFrm [(95, 28), (95, 30), (95, 31)] mem m' → w32 (m' 95 27) = w32 (mem 95 27) + (if 256 ≤ sv106 (w32 c) (rHb mem) (w32 (m 95 30)) then 2 else 1) → w32 (m' 95 29) = s → w32 (m' 95 30) = sv106 (w32 c) (rHb mem) (w32 (m 95 30)) → Q none m') : zG E (d + 1) xm_228 106 [some (1, 95), some (0, c)] [] m Q := by
  have e26 : m 95 26 = mem 95 26 := hI.1 95 26 rfl
  have e27 := hI.2.1
  have no : ¬ (w32 c = 60 ∧ rHb mem = 62) → zG E (d + 1) xm_228 128 [some (1, 95), some (0, c)] [] m Q := fun hn => sf128 hE hs ha ha2 hI (fun m' g1 g2 g3 g4 => fin m' g1 (by rw [sv106_n hn]; exact g2) g3 (by rw [sv106_n hn]; exact g4))
  have yes : w32 c = 60 ∧ rHb mem = 62 → zG E (d + 1) xm_228 128 [some (1, 95), some (0, c)] [] (yset m 95 30 257) Q := fun hy => sf128 hE hs ha ha2 (SfI_val hI) (fun m' g1 g2 g3 g4 => fin m' g1 (by rw [sv106_y hy]; rw [yset_s] at g2; exact g2) g3 (by rw [sv106_y hy]; rw [yset_s] at g4; exact g4))
  refine zgo_ok (n := 60) hE xmo_228 (cs := zc_228) ?_
  simp only [ynok_30, ynok_31, w32c_0, w32c_1, w32c_2, w32c_3, w32c_4, w32c_5, w32c_6, w32c_7, w32c_8, w32c_9, w32c_10, w32c_11, w32c_12, w32c_13, w32c_14, w32c_m1, w32c_m2, w32c_118, Int.reduceAdd, Int.reduceSub, Int.reduceMul, yput_s, yput_n, znl_n, znl_0, znl_1, znl_4, ysum_n, ysum_0, ysum_1, ysum_4, true_and, and_true, Nat.reduceAdd, Nat.reduceLeDiff, true_implies, eq_self, true_or, or_true, or_false, false_or, not_true_eq_false, not_false_eq_true, false_implies, implies_true, yset_s, yset_o, yset_d, ne_eq, Nat.reduceEqDiff, Int.reduceToNat, Int.reduceEq, Int.reduceLE, Int.reduceLT, Classical.not_not, Nat.reduceLT, ↓zvk_s, ↓zvk_n, ↓s_228_0, ↓s_228_1a, ↓s_228_1b, ↓s_228_2, ↓s_228_5, ↓s_228_6, ↓s_228_7, ↓s_228_10, ↓s_228_11, ↓s_228_12, ↓s_228_14, ↓s_228_17, ↓s_228_18, ↓s_228_20, ↓s_228_23, ↓s_228_24, ↓s_228_26, ↓s_228_29, ↓s_228_30, ↓s_228_32, ↓s_228_35, ↓s_228_36, ↓s_228_38, ↓s_228_41, ↓s_228_42, ↓s_228_44, ↓s_228_47, ↓s_228_48, ↓s_228_50, ↓s_228_53, ↓s_228_54, ↓s_228_56, ↓s_228_59, ↓s_228_60, ↓s_228_62, ↓s_228_65, ↓s_228_66, ↓s_228_68, ↓s_228_71, ↓s_228_72, ↓s_228_75, ↓s_228_76, ↓g_228_79, ↓k_228_79, ↓s_228_80, ↓s_228_81, ↓s_228_84, ↓s_228_85, ↓s_228_87, ↓s_228_90, ↓s_228_91, ↓s_228_94, ↓s_228_96, ↓s_228_99, ↓s_228_100, ↓s_228_103, ↓g_228_106, ↓k_228_106, ↓s_228_107, ↓s_228_109, ↓s_228_112, ↓s_228_113, ↓s_228_116, ↓s_228_118, ↓s_228_121, ↓s_228_122, ↓s_228_125, ↓g_228_128, ↓k_228_128, ↓s_228_129, ↓s_228_131, ↓s_228_134, ↓s_228_135, ↓s_228_138, ↓s_228_140, ↓s_228_143, ↓s_228_144, ↓s_228_147, ↓g_228_150, ↓k_228_150, ↓s_228_151, ↓s_228_154, ↓s_228_157, ↓s_228_160, ↓s_228_161a, ↓s_228_161b, ↓s_228_162, ↓s_228_165, ↓s_228_166, ↓s_228_167, ↓s_228_170, w32c_59, w32c_40, w32c_41, w32c_43, w32c_45, w32c_42, w32c_47, w32c_60, w32c_61, w32c_62, w32c_256, w32c_257, w32c_258, ↓s_178_0, ↓s_178_1, ↓s_178_4, ↓s_178_5, ↓s_178_8, ↓s_178_11, ↓s_178_12, ↓s_178_15, ↓s_178_16, ↓s_178_19, ↓s_178_20, ↓s_178_23, ↓s_178_24, zar_96, zia_96, zln_96, zit_96, zio_95]
  rw [e26, hI.1 96 _ rfl]
  exact ⟨fun h => no (fun z => h z.1), fun h => ⟨fun h2 => no (fun z => by have := rHb2 e27 h2; omega), fun h2 => ⟨⟨by omega, by omega⟩, fun h3 => no (fun z => h3 (by rw [← rHb1 e27 (by omega)]; exact z.2)), fun h3 => yes ⟨h, by rw [rHb1 e27 (by omega)]; exact h3⟩⟩⟩⟩
theorem sv79_V {c b : Int} (hc : c ≤ 255) : sv79 c b c = sVl c b := by
  unfold sv79 sv106 sv128 sVl
  by_cases h1 : c = 60 ∧ b = 61
  · rw [if_pos h1, if_pos h1, if_neg (by omega), if_neg (by omega)]
  · rw [if_neg h1, if_neg h1]
    by_cases h2 : c = 60 ∧ b = 62
    · rw [if_pos h2, if_pos h2, if_neg (by omega)]
    · rw [if_neg h2, if_neg h2]
theorem sf79 {E : yE} (hE : yEok E) {d : Nat} {mem m : yMem} {Q : Option yV → yMem → Prop} {c s : Int} (hs : w32 (mem 95 26) ≤ 800) (ha : 0 ≤ w32 (mem 95 27)) (ha2 : w32 (mem 95 27) < w32 (mem 95 26)) (hI : SfI mem m s) (fin : ∀ m', aFrm [(95, 28), (95, 30), (95, 31)] mem m' → w32 (m' 95 27) = w32 (mem 95 27) + (if 256 ≤ sv79 (w32 c) (rHb mem) (w32 c) then 2 else 1) → w32 (m' 95 29) = s → w32 (m' 95 30) = sv79 (w32 c) (rHb mem) (w32 c) → Q none m') : zG E (d + 1) xm_228 79 [some (1, 95), some (0, c)] [] m Q := by
  have e26 : m 95 26 = mem 95 26 := hI.1 95 26 rfl
  have e27 := hI.2.1
  have hI2 : SfI mem (yset m 95 30 c) s := SfI_val hI
  have no : ¬ (w32 c = 60 ∧ rHb mem = 61) → zG E (d + 1) xm_228 106 [some (1, 95), some (0, c)] [] (yset m 95 30 c) Q := fun hn => sf106 hE hs ha ha2 hI2 (fun m' g1 g2 g3 g4 => fin m' g1 (by rw [sv79_n hn]; rw [yset_s] at g2; exact g2) g3 (by rw [sv79_n hn]; rw [yset_s] at g4; exact g4))
  have yes : w32 c = 60 ∧ rHb mem = 61 → zG E (d + 1) xm_228 106 [some (1, 95), some (0, c)] [] (yset (yset m 95 30 c) 95 30 256) Q := fun hy => sf106 hE hs ha ha2 (SfI_val hI2) (fun m' g1 g2 g3 g4 => fin m' g1 (by rw [sv79_y hy]; rw [yset_s] at g2; exact g2) g3 (by rw [sv79_y hy]; rw [yset_s] at g4; exact g4))
  refine zgo_ok (n := 60) hE xmo_228 (cs := zc_228) ?_
  simp only [ynok_30, ynok_31, w32c_0, w32c_1, w32c_2, w32c_3, w32c_4, w32c_5, w32c_6, w32c_7, w32c_8, w32c_9, w32c_10, w32c_11, w32c_12, w32c_13, w32c_14, w32c_m1, w32c_m2, w32c_118, Int.reduceAdd, Int.reduceSub, Int.reduceMul, yput_s, yput_n, znl_n, znl_0, znl_1, znl_4, ysum_n, ysum_0, ysum_1, ysum_4, true_and, and_true, Nat.reduceAdd, Nat.reduceLeDiff, true_implies, eq_self, true_or, or_true, or_false, false_or, not_true_eq_false, not_false_eq_true, false_implies, implies_true, yset_s, yset_o, yset_d, ne_eq, Nat.reduceEqDiff, Int.reduceToNat, Int.reduceEq, Int.reduceLE, Int.reduceLT, Classical.not_not, Nat.reduceLT, ↓zvk_s, ↓zvk_n, ↓s_228_0, ↓s_228_1a, ↓s_228_1b, ↓s_228_2, ↓s_228_5, ↓s_228_6, ↓s_228_7, ↓s_228_10, ↓s_228_11, ↓s_228_12, ↓s_228_14, ↓s_228_17, ↓s_228_18, ↓s_228_20, ↓s_228_23, ↓s_228_24, ↓s_228_26, ↓s_228_29, ↓s_228_30, ↓s_228_32, ↓s_228_35, ↓s_228_36, ↓s_228_38, ↓s_228_41, ↓s_228_42, ↓s_228_44, ↓s_228_47, ↓s_228_48, ↓s_228_50, ↓s_228_53, ↓s_228_54, ↓s_228_56, ↓s_228_59, ↓s_228_60, ↓s_228_62, ↓s_228_65, ↓s_228_66, ↓s_228_68, ↓s_228_71, ↓s_228_72, ↓s_228_75, ↓s_228_76, ↓g_228_79, ↓k_228_79, ↓s_228_80, ↓s_228_81, ↓s_228_84, ↓s_228_85, ↓s_228_87, ↓s_228_90, ↓s_228_91, ↓s_228_94, ↓s_228_96, ↓s_228_99, ↓s_228_100, ↓s_228_103, ↓g_228_106, ↓k_228_106, ↓s_228_107, ↓s_228_109, ↓s_228_112, ↓s_228_113, ↓s_228_116, ↓s_228_118, ↓s_228_121, ↓s_228_122, ↓s_228_125, ↓g_228_128, ↓k_228_128, ↓s_228_129, ↓s_228_131, ↓s_228_134, ↓s_228_135, ↓s_228_138, ↓s_228_140, ↓s_228_143, ↓s_228_144, ↓s_228_147, ↓g_228_150, ↓k_228_150, ↓s_228_151, ↓s_228_154, ↓s_228_157, ↓s_228_160, ↓s_228_161a, ↓s_228_161b, ↓s_228_162, ↓s_228_165, ↓s_228_166, ↓s_228_167, ↓s_228_170, w32c_59, w32c_40, w32c_41, w32c_43, w32c_45, w32c_42, w32c_47, w32c_60, w32c_61, w32c_62, w32c_256, w32c_257, w32c_258, ↓s_178_0, ↓s_178_1, ↓s_178_4, ↓s_178_5, ↓s_178_8, ↓s_178_11, ↓s_178_12, ↓s_178_15, ↓s_178_16, ↓s_178_19, ↓s_178_20, ↓s_178_23, ↓s_178_24, zar_96, zia_96, zln_96, zit_96, zio_95]
  rw [e26, hI.1 96 _ rfl]
  exact ⟨fun h => no (fun z => h z.1), fun h => ⟨fun h2 => no (fun z => by have := rHb2 e27 h2; omega), fun h2 => ⟨⟨by omega, by omega⟩, fun h3 => no (fun z => h3 (by rw [← rHb1 e27 (by omega)]; exact z.2)), fun h3 => yes ⟨h, by rw [rHb1 e27 (by omega)]; exact h3⟩⟩⟩⟩
/-- behind sign -/
theorem f_sign {E : yE} (hE : yEok E) {D : Nat} (hD : 2 ≤ D) {mem : yMem} {Q : Option yV → yMem → Prop} {c : Int} (hs : w32 (mem 95 26) ≤ 800) (ha : 0 ≤ w32 (mem 95 27)) (ha2 : w32 (mem 95 27) < w32 (mem 95 26)) (hc : w32 c ≤ 255) (hQ : ∀ m, aFrm [(95, 28), (95, 30), (95, 31)] mem m → w32 (m 95 27) = w32 (mem 95 27) + ((sSg (w32 c) (if rat mem + 1 < rsz mem then rch mem (rat mem + 1) else 0)).2 : Int) → sRk (w32 (m 95 29)) (w32 (m 95 30)) (sSg (w32 c) (if rat mem + 1 < rsz mem then rch mem (rat mem + 1) else 0)).1 0 → Q none m) : yCon E D xm_228 [(1, 95), (0, c)] mem Q := by
  obtain ⟨d, rfl⟩ := Nat.exists_eq_add_of_le' hD
  refine e_228 ?_
  refine zvc_ok hE 80 zc_228 _ _ _ _ _ _ _ xmo_228 ?_
  have e1 : w32 (mem 95 27 + 1) = w32 (mem 95 27) + 1 := by rw [w32_ad (by rw [w32c_1]; omega) (by rw [w32c_1]; omega), w32c_1]
  have hb : rHb mem = (if rat mem + 1 < rsz mem then rch mem (rat mem + 1) else 0) ∨ (rHb mem = -1 ∧ (if rat mem + 1 < rsz mem then rch mem (rat mem + 1) else 0) = 0) := by
    have r1 : rat mem = (w32 (mem 95 27)).toNat := rfl
    have r2 : rsz mem = (w32 (mem 95 26)).toNat := rfl
    unfold rHb
    by_cases h : w32 (mem 95 27) + 1 < w32 (mem 95 26)
    · left
      rw [if_pos h, if_pos (by omega), show (w32 (mem 95 27) + 1).toNat = rat mem + 1 by omega]
    · right
      rw [if_neg h, if_neg (by omega)]
      exact ⟨rfl, rfl⟩
  have fin : ∀ v s : Int, w32 v = s → ((sIn (w32 c) ∧ s = 3) ∨ (¬ sIn (w32 c) ∧ s = 5)) → zG E (d + 1) xm_228 79 [some (1, 95), some (0, c)] [] (yset (yset mem 95 27 (mem 95 27 + 1)) 95 29 v) Q := fun v s hv hsn =>
    sf79 (s := s) hE hs ha ha2 ⟨aFrm_set (aFrm_set aFrm_rf rfl) rfl, by rw [yset_d (by decide), yset_s, e1], by rw [yset_s]; exact hv⟩ (fun m' g1 g2 g3 g4 => by
      have sf := sg_fin hc hb hsn
      rw [sv79_V hc] at g2 g4
      refine hQ m' g1 ?_ ?_
      · rw [g2, sf.2]
      · rw [g3, g4]
        exact sf.1)
  have f3 : sIn (w32 c) → zG E (d + 1) xm_228 79 [some (1, 95), some (0, c)] [] (yset (yset mem 95 27 (mem 95 27 + 1)) 95 29 3) Q := fun h => fin 3 3 (by decide) (Or.inl ⟨h, rfl⟩)
  have f5 : ¬ sIn (w32 c) → zG E (d + 1) xm_228 79 [some (1, 95), some (0, c)] [] (yset (yset mem 95 27 (mem 95 27 + 1)) 95 29 5) Q := fun h => fin 5 5 (by decide) (Or.inr ⟨h, rfl⟩)
  simp only [ynok_30, ynok_31, w32c_0, w32c_1, w32c_2, w32c_3, w32c_4, w32c_5, w32c_6, w32c_7, w32c_8, w32c_9, w32c_10, w32c_11, w32c_12, w32c_13, w32c_14, w32c_m1, w32c_m2, w32c_118, Int.reduceAdd, Int.reduceSub, Int.reduceMul, yput_s, yput_n, znl_n, znl_0, znl_1, znl_4, ysum_n, ysum_0, ysum_1, ysum_4, true_and, and_true, Nat.reduceAdd, Nat.reduceLeDiff, true_implies, eq_self, true_or, or_true, or_false, false_or, not_true_eq_false, not_false_eq_true, false_implies, implies_true, yset_s, yset_o, yset_d, ne_eq, Nat.reduceEqDiff, Int.reduceToNat, Int.reduceEq, Int.reduceLE, Int.reduceLT, Classical.not_not, Nat.reduceLT, ↓zvk_s, ↓zvk_n, ↓s_228_0, ↓s_228_1a, ↓s_228_1b, ↓s_228_2, ↓s_228_5, ↓s_228_6, ↓s_228_7, ↓s_228_10, ↓s_228_11, ↓s_228_12, ↓s_228_14, ↓s_228_17, ↓s_228_18, ↓s_228_20, ↓s_228_23, ↓s_228_24, ↓s_228_26, ↓s_228_29, ↓s_228_30, ↓s_228_32, ↓s_228_35, ↓s_228_36, ↓s_228_38, ↓s_228_41, ↓s_228_42, ↓s_228_44, ↓s_228_47, ↓s_228_48, ↓s_228_50, ↓s_228_53, ↓s_228_54, ↓s_228_56, ↓s_228_59, ↓s_228_60, ↓s_228_62, ↓s_228_65, ↓s_228_66, ↓s_228_68, ↓s_228_71, ↓s_228_72, ↓s_228_75, ↓s_228_76, ↓g_228_79, ↓k_228_79, ↓s_228_80, ↓s_228_81, ↓s_228_84, ↓s_228_85, ↓s_228_87, ↓s_228_90, ↓s_228_91, ↓s_228_94, ↓s_228_96, ↓s_228_99, ↓s_228_100, ↓s_228_103, ↓g_228_106, ↓k_228_106, ↓s_228_107, ↓s_228_109, ↓s_228_112, ↓s_228_113, ↓s_228_116, ↓s_228_118, ↓s_228_121, ↓s_228_122, ↓s_228_125, ↓g_228_128, ↓k_228_128, ↓s_228_129, ↓s_228_131, ↓s_228_134, ↓s_228_135, ↓s_228_138, ↓s_228_140, ↓s_228_143, ↓s_228_144, ↓s_228_147, ↓g_228_150, ↓k_228_150, ↓s_228_151, ↓s_228_154, ↓s_228_157, ↓s_228_160, ↓s_228_161a, ↓s_228_161b, ↓s_228_162, ↓s_228_165, ↓s_228_166, ↓s_228_167, ↓s_228_170, w32c_59, w32c_40, w32c_41, w32c_43, w32c_45, w32c_42, w32c_47, w32c_60, w32c_61, w32c_62, w32c_256, w32c_257, w32c_258, ↓s_178_0, ↓s_178_1, ↓s_178_4, ↓s_178_5, ↓s_178_8, ↓s_178_11, ↓s_178_12, ↓s_178_15, ↓s_178_16, ↓s_178_19, ↓s_178_20, ↓s_178_23, ↓s_178_24, zar_96, zia_96, zln_96, zit_96, zio_95]
  repeat' first | exact f3 (by unfold sIn; omega) | exact f5 (by unfold sIn; omega) | refine And.intro ?_ ?_ | intro _
