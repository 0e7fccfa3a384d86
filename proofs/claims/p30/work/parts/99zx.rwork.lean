section
/-! THE REFERENCE works out one KNOT -/
def rSk (m : yMem) : List Int → Prop
  | [] => True
  | v :: r => w64 (m 131 r.length) = v ∧ rSk m r
theorem rSk_fr {a b : yMem} : ∀ {st : List Int}, rSk a st → (∀ j, j < st.length → b 131 j = a 131 j) → rSk b st
  | [], _, _ => trivial
  | v :: r, h, hf => ⟨by rw [hf _ (Nat.lt_succ_self _)]; exact h.1, rSk_fr h.2 (fun j hj => hf j (Nat.lt_succ_of_lt hj))⟩
def rSt (m : yMem) (st : List Int) : Prop := w32 (m 95 52) = (st.length : Int) ∧ rSk m st
def rzF (b m : yMem) : Prop := ∀ i j, ¬ (i = 95 ∧ j = 52) → i ≠ 131 → m i j = b i j
theorem rzF_rf {b : yMem} : rzF b b := fun _ _ _ _ => rfl
theorem rzF_tr {a b c : yMem} (h1 : rzF a b) (h2 : rzF b c) : rzF a c := fun i j p q => by rw [h2 i j p q, h1 i j p q]
theorem rzF_52 {b : yMem} {y : Int} : rzF b (yset b 95 52 y) := fun i j p q => by
  rw [yset_a]
  split
  · next e => rw [if_neg (fun e2 => p ⟨e, e2⟩)]
  · rfl
theorem rzF_131 {b : yMem} {j : Nat} {y : Int} : rzF b (yset b 131 j y) := fun i k p q => yset_o q
section RW
variable {E : yE} {mem : yMem} {Q : Option yV → yMem → Prop} {st : List Int} {nm : Nat → Int}
/-- what works answers -/
def rWk (nm : Nat → Int) (k : Nat) (st : List Int) (mem : yMem) (Q : Option yV → yMem → Prop) : Prop := ∀ x m, rzF mem m → ((eAp nm (k, 0) st = none ∧ w32 x = 0) ∨ ∃ st', eAp nm (k, 0) st = some st' ∧ w32 x = 1 ∧ rSt m st' ∧ ∀ v ∈ st', eIn v) → Q (some (0, x)) m
theorem wk407 (hE : yEok E) {d : Nat} {v : Int} {rest : List Int} {r1 r2 r3 r4 r5 r7 : Option yV} (h0 : w32 (mem 95 52) = ((rest.length + 1 : Nat) : Int)) (hl : rest.length < 64) (hr : rSk mem rest) (hQ : ∀ x m, rzF mem m → (eIn (w64 v) → w32 x = 1 ∧ rSt m (w64 v :: rest)) → (¬ eIn (w64 v) → w32 x = 0) → Q (some (0, x)) m) : zG E d xm_253 407 [some (1, 95), r1, r2, r3, r4, r5, some (4, v), r7] [] mem Q := by
  refine zgo_ok (n := 60) hE xmo_253 (cs := zc_253) ?_
  have e1 : w32 (mem 95 52 - 1) = (rest.length : Int) := by rw [w32_sb (by rw [w32c_1]; omega) (by rw [w32c_1]; omega), w32c_1]; omega
  have ix : (w32 (mem 95 52 - 1)).toNat = rest.length := by rw [e1]; exact Int.toNat_natCast _
  have S : rSt (yset mem 131 rest.length v) (w64 v :: rest) := ⟨by rw [yset_o (by decide), h0]; rfl, by rw [yset_s], rSk_fr hr (fun j hj => yset_d (by omega))⟩
  simp only [ynok_30, ynok_31, w32c_0, w32c_1, w32c_2, w32c_3, w32c_4, w32c_5, w32c_6, w32c_7, w32c_8, w32c_9, w32c_10, w32c_11, w32c_12, w32c_13, w32c_14, w32c_m1, w32c_m2, w32c_118, Int.reduceAdd, Int.reduceSub, Int.reduceMul, yput_s, yput_n, znl_n, znl_0, znl_1, znl_4, ysum_n, ysum_0, ysum_1, ysum_4, true_and, and_true, Nat.reduceAdd, Nat.reduceLeDiff, true_implies, eq_self, true_or, or_true, or_false, false_or, not_true_eq_false, not_false_eq_true, false_implies, implies_true, yset_s, yset_o, yset_d, ne_eq, Nat.reduceEqDiff, Int.reduceToNat, Int.reduceEq, Int.reduceLE, Int.reduceLT, Classical.not_not, Nat.reduceLT, ↓zvk_s, ↓zvk_n, ↓s_253_0, ↓s_253_1, ↓s_253_4, ↓s_253_5, ↓s_253_8, ↓s_253_9, ↓s_253_10, ↓s_253_11n, ↓s_253_11i, ↓s_253_11p, ↓s_253_11l, ↓s_253_12, ↓s_253_13, ↓s_253_16, ↓s_253_19, ↓s_253_20, ↓s_253_23, ↓s_253_24, ↓s_253_27, ↓s_253_28, ↓s_253_29, ↓s_253_30, ↓s_253_31, ↓s_253_32, ↓s_253_35, ↓s_253_36, ↓s_253_39, ↓s_253_40, ↓s_253_43, ↓s_253_44, ↓s_253_45, ↓s_253_46, ↓s_253_47, ↓s_253_50, ↓s_253_51, ↓s_253_54, ↓s_253_55, ↓s_253_56, ↓s_253_57n, ↓s_253_57i, ↓s_253_57p, ↓s_253_57l, ↓s_253_59, ↓s_253_60a, ↓s_253_60b, ↓s_253_61, ↓s_253_64, ↓s_253_65, ↓s_253_66, ↓s_253_69, ↓s_253_70, ↓s_253_168, ↓s_253_170, ↓s_253_171, ↓s_253_172n, ↓s_253_172i, ↓s_253_172p, ↓s_253_172l, ↓s_253_174, ↓s_253_177, ↓s_253_179, ↓s_253_180, ↓s_253_181n, ↓s_253_181i, ↓s_253_181p, ↓s_253_181l, ↓s_253_183, ↓s_253_186, ↓s_253_188, ↓s_253_189, ↓s_253_190, ↓s_253_193, ↓s_253_194, ↓s_253_197, ↓s_253_200, ↓s_253_202, ↓s_253_205, ↓s_253_206, ↓s_253_207, ↓s_253_210, ↓s_253_211, ↓s_253_212, ↓s_253_214, ↓s_253_215, ↓s_253_216n, ↓s_253_216i, ↓s_253_216p, ↓s_253_216l, ↓s_253_218, ↓s_253_221, ↓s_253_222, ↓s_253_223, ↓s_253_224, ↓s_253_227, ↓s_253_228, ↓s_253_229, ↓s_253_231, ↓s_253_232, ↓s_253_233n, ↓s_253_233i, ↓s_253_233p, ↓s_253_233l, ↓s_253_235, ↓s_253_238, ↓s_253_240, ↓s_253_241, ↓s_253_242, ↓s_253_245, ↓s_253_246, ↓s_253_249, ↓s_253_250, ↓s_253_253n, ↓s_253_253i, ↓s_253_253p, ↓s_253_253l, ↓s_253_255, ↓s_253_258, ↓s_253_260, ↓s_253_261, ↓s_253_262, ↓s_253_265, ↓s_253_266, ↓s_253_269, ↓s_253_270, ↓s_253_273n, ↓s_253_273i, ↓s_253_273p, ↓s_253_273l, ↓s_253_275, ↓s_253_278, ↓s_253_280, ↓s_253_281, ↓s_253_282, ↓s_253_285, ↓s_253_286, ↓s_253_289, ↓s_253_290, ↓s_253_293n, ↓s_253_293i, ↓s_253_293p, ↓s_253_293l, ↓s_253_295, ↓s_253_298, ↓s_253_300, ↓s_253_301, ↓s_253_302, ↓s_253_305, ↓s_253_306, ↓s_253_309, ↓s_253_310, ↓s_253_313n, ↓s_253_313i, ↓s_253_313p, ↓s_253_313l, ↓s_253_315, ↓s_253_318, ↓s_253_320, ↓s_253_321, ↓s_253_322, ↓s_253_325, ↓s_253_326, ↓s_253_329, ↓s_253_330, ↓s_253_333n, ↓s_253_333i, ↓s_253_333p, ↓s_253_333l, ↓s_253_335, ↓s_253_338, ↓s_253_340, ↓s_253_341, ↓s_253_342, ↓s_253_345, ↓s_253_346, ↓s_253_349, ↓s_253_350, ↓s_253_353n, ↓s_253_353i, ↓s_253_353p, ↓s_253_353l, ↓s_253_355, ↓s_253_358, ↓s_253_360, ↓s_253_361, ↓s_253_362, ↓s_253_365, ↓s_253_366, ↓s_253_367, ↓s_253_368, ↓s_253_371, ↓s_253_372, ↓s_253_375, ↓s_253_376, ↓s_253_379n, ↓s_253_379i, ↓s_253_379p, ↓s_253_379l, ↓s_253_381, ↓s_253_384, ↓s_253_386, ↓s_253_387, ↓s_253_388, ↓s_253_391, ↓s_253_392, ↓s_253_393, ↓s_253_394, ↓s_253_397, ↓s_253_398, ↓s_253_401, ↓s_253_402, ↓s_253_405n, ↓s_253_405i, ↓s_253_405p, ↓s_253_405l, ↓g_253_407, ↓k_253_407, ↓s_253_408, ↓s_253_411, ↓s_253_412, ↓s_253_415, ↓s_253_416, ↓s_253_417, ↓s_253_419, ↓s_253_420, ↓s_253_422, ↓s_253_425, ↓s_253_426, ↓s_253_429, ↓s_253_431, ↓s_253_434, ↓s_253_435, ↓s_253_438, ↓s_253_439, ↓s_253_442, ↓s_253_443, w32c_260, zar_131, zia_131, zln_131, zit_131, zio_95, yc_lt, yc_le, yc_gt, yc_ge, yc_eq, w64_L, w64_mL, ix]
  have f1 : eIn (w64 v) → Q (some (0, 1)) (yset mem 131 rest.length v) := fun h => hQ 1 _ rzF_131 (fun _ => ⟨w32c_1, S⟩) (fun z => absurd h z)
  have f0 : ¬ eIn (w64 v) → Q (some (0, 0)) (yset mem 131 rest.length v) := fun h => hQ 0 _ rzF_131 (fun z => absurd z h) (fun _ => w32c_0)
  repeat' first | exact f1 ⟨by omega, by omega⟩ | exact f0 (by unfold eIn; omega) | omega | refine And.intro ?_ ?_ | intro _
theorem eAp_bin {k : Nat} {y x : Int} {rest : List Int} (hk : 1 ≤ sLv k) (h32 : ¬ k = 32) : eAp nm (k, 0) (y :: x :: rest) = match eOp k x y with
    | some v => some (v :: rest)
    | none => none := by
  have h := kOk_lv hk
  unfold eAp
  rw [if_neg h.1, if_neg h.2, if_neg h32]
  rfl
/-- two off, the sign's value on -/
theorem wk_pre (hE : yEok E) {d : Nat} {k : Nat} {Y X : Int} {rest : List Int} {v : Int} {r1 r2 r3 r4 r5 r7 : Option yV} (hk : 1 ≤ sLv k) (h32 : ¬ k = 32) (h : rSt mem (Y :: X :: rest)) (hl : rest.length + 2 ≤ 64) (hS : ∀ w ∈ rest, eIn w) (hQ : rWk nm k (Y :: X :: rest) mem Q) (hv : eOp k X Y = if eIn (w64 v) then some (w64 v) else none) : zG E d xm_253 407 [some (1, 95), r1, r2, r3, r4, r5, some (4, v), r7] [] (yset mem 95 52 (mem 95 52 - 1)) Q := by
  obtain ⟨h1, h2, h3, h4⟩ := h
  have h1 : w32 (mem 95 52) = ((rest.length + 2 : Nat) : Int) := h1
  have e1 : w32 (mem 95 52 - 1) = ((rest.length + 1 : Nat) : Int) := by rw [w32_sb (by rw [w32c_1]; omega) (by rw [w32c_1]; omega), w32c_1]; omega
  refine wk407 (rest := rest) hE (by rw [yset_s]; exact e1) (by omega) (rSk_fr h4 (fun j _ => yset_o (by decide))) (fun x m F a b => hQ x m (rzF_tr rzF_52 F) ?_)
  rw [eAp_bin hk h32, hv]
  by_cases i : eIn (w64 v)
  · rw [if_pos i]
    refine Or.inr ⟨_, rfl, (a i).1, (a i).2, fun w hw => ?_⟩
    rcases List.mem_cons.mp hw with rfl | hw
    · exact i
    · exact hS w hw
  · rw [if_neg i]
    exact Or.inl ⟨rfl, b i⟩
theorem re_works_7 (hE : yEok E) {D : Nat} (hD : 2 ≤ D) {s Y X : Int} {rest : List Int} (hs : w32 s = 60) (h : rSt mem (Y :: X :: rest)) (hl : rest.length + 2 ≤ 64) (hS : ∀ w ∈ (Y :: X :: rest), eIn w) (hQ : rWk nm 7 (Y :: X :: rest) mem Q) : yCon E D xm_253 [(1, 95), (0, s)] mem Q := by
  obtain ⟨d, rfl⟩ := Nat.exists_eq_add_of_le' hD
  refine e_253 ?_
  refine zvc_ok hE 200 zc_253 _ _ _ _ _ _ _ xmo_253 ?_
  have h1 : w32 (mem 95 52) = ((rest.length + 2 : Nat) : Int) := h.1
  have e1 : w32 (mem 95 52 - 1) = ((rest.length + 1 : Nat) : Int) := by rw [w32_sb (by rw [w32c_1]; omega) (by rw [w32c_1]; omega), w32c_1]; omega
  have e2 : w32 (mem 95 52 - 2) = (rest.length : Int) := by rw [w32_sb (by rw [w32c_2]; omega) (by rw [w32c_2]; omega), w32c_2]; omega
  have i1 : (w32 (mem 95 52 - 1)).toNat = rest.length + 1 := by rw [e1]; exact Int.toNat_natCast _
  have i2 : (w32 (mem 95 52 - 2)).toNat = rest.length := by rw [e2]; exact Int.toNat_natCast _
  have vY : w64 (mem 131 (rest.length + 1)) = Y := h.2.1
  have vX : w64 (mem 131 rest.length) = X := h.2.2.1
  have iY : eIn Y := hS Y List.mem_cons_self
  have iX : eIn X := hS X (List.mem_cons_of_mem _ List.mem_cons_self)
  have fin : ∀ (v : Int) (r1 r2 r3 r4 r5 r7 : Option yV), (eOp 7 X Y = if eIn (w64 v) then some (w64 v) else none) → zG E (d + 1) xm_253 407 [some (1, 95), r1, r2, r3, r4, r5, some (4, v), r7] [] (yset mem 95 52 (mem 95 52 - 1)) Q := fun v r1 r2 r3 r4 r5 r7 hv => wk_pre hE (k := 7) (by decide) (by decide) h hl (fun w hw => hS w (List.mem_cons_of_mem _ (List.mem_cons_of_mem _ hw))) hQ hv
  simp only [ynok_30, ynok_31, w32c_0, w32c_1, w32c_2, w32c_3, w32c_4, w32c_5, w32c_6, w32c_7, w32c_8, w32c_9, w32c_10, w32c_11, w32c_12, w32c_13, w32c_14, w32c_m1, w32c_m2, w32c_118, Int.reduceAdd, Int.reduceSub, Int.reduceMul, yput_s, yput_n, znl_n, znl_0, znl_1, znl_4, ysum_n, ysum_0, ysum_1, ysum_4, true_and, and_true, Nat.reduceAdd, Nat.reduceLeDiff, true_implies, eq_self, true_or, or_true, or_false, false_or, not_true_eq_false, not_false_eq_true, false_implies, implies_true, yset_s, yset_o, yset_d, ne_eq, Nat.reduceEqDiff, Int.reduceToNat, Int.reduceEq, Int.reduceLE, Int.reduceLT, Classical.not_not, Nat.reduceLT, ↓zvk_s, ↓zvk_n, ↓s_253_0, ↓s_253_1, ↓s_253_4, ↓s_253_5, ↓s_253_8, ↓s_253_9, ↓s_253_10, ↓s_253_11n, ↓s_253_11i, ↓s_253_11p, ↓s_253_11l, ↓s_253_12, ↓s_253_13, ↓s_253_16, ↓s_253_19, ↓s_253_20, ↓s_253_23, ↓s_253_24, ↓s_253_27, ↓s_253_28, ↓s_253_29, ↓s_253_30, ↓s_253_31, ↓s_253_32, ↓s_253_35, ↓s_253_36, ↓s_253_39, ↓s_253_40, ↓s_253_43, ↓s_253_44, ↓s_253_45, ↓s_253_46, ↓s_253_47, ↓s_253_50, ↓s_253_51, ↓s_253_54, ↓s_253_55, ↓s_253_56, ↓s_253_57n, ↓s_253_57i, ↓s_253_57p, ↓s_253_57l, ↓s_253_59, ↓s_253_60a, ↓s_253_60b, ↓s_253_61, ↓s_253_64, ↓s_253_65, ↓s_253_66, ↓s_253_69, ↓s_253_70, ↓s_253_168, ↓s_253_170, ↓s_253_171, ↓s_253_172n, ↓s_253_172i, ↓s_253_172p, ↓s_253_172l, ↓s_253_174, ↓s_253_177, ↓s_253_179, ↓s_253_180, ↓s_253_181n, ↓s_253_181i, ↓s_253_181p, ↓s_253_181l, ↓s_253_183, ↓s_253_186, ↓s_253_188, ↓s_253_189, ↓s_253_190, ↓s_253_193, ↓s_253_194, ↓s_253_197, ↓s_253_200, ↓s_253_202, ↓s_253_205, ↓s_253_206, ↓s_253_207, ↓s_253_210, ↓s_253_211, ↓s_253_212, ↓s_253_214, ↓s_253_215, ↓s_253_216n, ↓s_253_216i, ↓s_253_216p, ↓s_253_216l, ↓s_253_218, ↓s_253_221, ↓s_253_222, ↓s_253_223, ↓s_253_224, ↓s_253_227, ↓s_253_228, ↓s_253_229, ↓s_253_231, ↓s_253_232, ↓s_253_233n, ↓s_253_233i, ↓s_253_233p, ↓s_253_233l, ↓s_253_235, ↓s_253_238, ↓s_253_240, ↓s_253_241, ↓s_253_242, ↓s_253_245, ↓s_253_246, ↓s_253_249, ↓s_253_250, ↓s_253_253n, ↓s_253_253i, ↓s_253_253p, ↓s_253_253l, ↓s_253_255, ↓s_253_258, ↓s_253_260, ↓s_253_261, ↓s_253_262, ↓s_253_265, ↓s_253_266, ↓s_253_269, ↓s_253_270, ↓s_253_273n, ↓s_253_273i, ↓s_253_273p, ↓s_253_273l, ↓s_253_275, ↓s_253_278, ↓s_253_280, ↓s_253_281, ↓s_253_282, ↓s_253_285, ↓s_253_286, ↓s_253_289, ↓s_253_290, ↓s_253_293n, ↓s_253_293i, ↓s_253_293p, ↓s_253_293l, ↓s_253_295, ↓s_253_298, ↓s_253_300, ↓s_253_301, ↓s_253_302, ↓s_253_305, ↓s_253_306, ↓s_253_309, ↓s_253_310, ↓s_253_313n, ↓s_253_313i, ↓s_253_313p, ↓s_253_313l, ↓s_253_315, ↓s_253_318, ↓s_253_320, ↓s_253_321, ↓s_253_322, ↓s_253_325, ↓s_253_326, ↓s_253_329, ↓s_253_330, ↓s_253_333n, ↓s_253_333i, ↓s_253_333p, ↓s_253_333l, ↓s_253_335, ↓s_253_338, ↓s_253_340, ↓s_253_341, ↓s_253_342, ↓s_253_345, ↓s_253_346, ↓s_253_349, ↓s_253_350, ↓s_253_353n, ↓s_253_353i, ↓s_253_353p, ↓s_253_353l, ↓s_253_355, ↓s_253_358, ↓s_253_360, ↓s_253_361, ↓s_253_362, ↓s_253_365, ↓s_253_366, ↓s_253_367, ↓s_253_368, ↓s_253_371, ↓s_253_372, ↓s_253_375, ↓s_253_376, ↓s_253_379n, ↓s_253_379i, ↓s_253_379p, ↓s_253_379l, ↓s_253_381, ↓s_253_384, ↓s_253_386, ↓s_253_387, ↓s_253_388, ↓s_253_391, ↓s_253_392, ↓s_253_393, ↓s_253_394, ↓s_253_397, ↓s_253_398, ↓s_253_401, ↓s_253_402, ↓s_253_405n, ↓s_253_405i, ↓s_253_405p, ↓s_253_405l, ↓g_253_407, ↓k_253_407, ↓s_253_408, ↓s_253_411, ↓s_253_412, ↓s_253_415, ↓s_253_416, ↓s_253_417, ↓s_253_419, ↓s_253_420, ↓s_253_422, ↓s_253_425, ↓s_253_426, ↓s_253_429, ↓s_253_431, ↓s_253_434, ↓s_253_435, ↓s_253_438, ↓s_253_439, ↓s_253_442, ↓s_253_443, w32c_260, ↓s_181_0, ↓s_181_1, ↓s_181_4, ↓s_181_5, ↓s_181_8, ↓s_181_9, zar_131, zia_131, zln_131, zit_131, zio_95, hs, yc_lt, yc_le, yc_gt, yc_ge, yc_eq, w64_0, i1, i2, vX, vY]

  have f1 : ∀ (r1 r2 r3 r4 r5 r7 : Option yV), (X < Y) → zG E (d + 1) xm_253 407 [some (1, 95), r1, r2, r3, r4, r5, some (4, 1), r7] [] (yset mem 95 52 (mem 95 52 - 1)) Q := fun r1 r2 r3 r4 r5 r7 z => fin 1 r1 r2 r3 r4 r5 r7 (by rw [w64_1, if_pos (by decide)]; simp [eOp, eCm]; omega)
  have f0 : ∀ (r1 r2 r3 r4 r5 r7 : Option yV), ¬ (X < Y) → zG E (d + 1) xm_253 407 [some (1, 95), r1, r2, r3, r4, r5, some (4, 0), r7] [] (yset mem 95 52 (mem 95 52 - 1)) Q := fun r1 r2 r3 r4 r5 r7 z => fin 0 r1 r2 r3 r4 r5 r7 (by rw [w64_0, if_pos (by decide)]; simp [eOp, eCm]; omega)
  refine ⟨⟨by omega, by omega⟩, ⟨by omega, by omega⟩, ?_⟩
  repeat' first | exact f1 _ _ _ _ _ _ (by omega) | exact f0 _ _ _ _ _ _ (by omega) | refine And.intro ?_ ?_ | intro _
theorem re_works_8 (hE : yEok E) {D : Nat} (hD : 2 ≤ D) {s Y X : Int} {rest : List Int} (hs : w32 s = 256) (h : rSt mem (Y :: X :: rest)) (hl : rest.length + 2 ≤ 64) (hS : ∀ w ∈ (Y :: X :: rest), eIn w) (hQ : rWk nm 8 (Y :: X :: rest) mem Q) : yCon E D xm_253 [(1, 95), (0, s)] mem Q := by
  obtain ⟨d, rfl⟩ := Nat.exists_eq_add_of_le' hD
  refine e_253 ?_
  refine zvc_ok hE 200 zc_253 _ _ _ _ _ _ _ xmo_253 ?_
  have h1 : w32 (mem 95 52) = ((rest.length + 2 : Nat) : Int) := h.1
  have e1 : w32 (mem 95 52 - 1) = ((rest.length + 1 : Nat) : Int) := by rw [w32_sb (by rw [w32c_1]; omega) (by rw [w32c_1]; omega), w32c_1]; omega
  have e2 : w32 (mem 95 52 - 2) = (rest.length : Int) := by rw [w32_sb (by rw [w32c_2]; omega) (by rw [w32c_2]; omega), w32c_2]; omega
  have i1 : (w32 (mem 95 52 - 1)).toNat = rest.length + 1 := by rw [e1]; exact Int.toNat_natCast _
  have i2 : (w32 (mem 95 52 - 2)).toNat = rest.length := by rw [e2]; exact Int.toNat_natCast _
  have vY : w64 (mem 131 (rest.length + 1)) = Y := h.2.1
  have vX : w64 (mem 131 rest.length) = X := h.2.2.1
  have iY : eIn Y := hS Y List.mem_cons_self
  have iX : eIn X := hS X (List.mem_cons_of_mem _ List.mem_cons_self)
  have fin : ∀ (v : Int) (r1 r2 r3 r4 r5 r7 : Option yV), (eOp 8 X Y = if eIn (w64 v) then some (w64 v) else none) → zG E (d + 1) xm_253 407 [some (1, 95), r1, r2, r3, r4, r5, some (4, v), r7] [] (yset mem 95 52 (mem 95 52 - 1)) Q := fun v r1 r2 r3 r4 r5 r7 hv => wk_pre hE (k := 8) (by decide) (by decide) h hl (fun w hw => hS w (List.mem_cons_of_mem _ (List.mem_cons_of_mem _ hw))) hQ hv
  simp only [ynok_30, ynok_31, w32c_0, w32c_1, w32c_2, w32c_3, w32c_4, w32c_5, w32c_6, w32c_7, w32c_8, w32c_9, w32c_10, w32c_11, w32c_12, w32c_13, w32c_14, w32c_m1, w32c_m2, w32c_118, Int.reduceAdd, Int.reduceSub, Int.reduceMul, yput_s, yput_n, znl_n, znl_0, znl_1, znl_4, ysum_n, ysum_0, ysum_1, ysum_4, true_and, and_true, Nat.reduceAdd, Nat.reduceLeDiff, true_implies, eq_self, true_or, or_true, or_false, false_or, not_true_eq_false, not_false_eq_true, false_implies, implies_true, yset_s, yset_o, yset_d, ne_eq, Nat.reduceEqDiff, Int.reduceToNat, Int.reduceEq, Int.reduceLE, Int.reduceLT, Classical.not_not, Nat.reduceLT, ↓zvk_s, ↓zvk_n, ↓s_253_0, ↓s_253_1, ↓s_253_4, ↓s_253_5, ↓s_253_8, ↓s_253_9, ↓s_253_10, ↓s_253_11n, ↓s_253_11i, ↓s_253_11p, ↓s_253_11l, ↓s_253_12, ↓s_253_13, ↓s_253_16, ↓s_253_19, ↓s_253_20, ↓s_253_23, ↓s_253_24, ↓s_253_27, ↓s_253_28, ↓s_253_29, ↓s_253_30, ↓s_253_31, ↓s_253_32, ↓s_253_35, ↓s_253_36, ↓s_253_39, ↓s_253_40, ↓s_253_43, ↓s_253_44, ↓s_253_45, ↓s_253_46, ↓s_253_47, ↓s_253_50, ↓s_253_51, ↓s_253_54, ↓s_253_55, ↓s_253_56, ↓s_253_57n, ↓s_253_57i, ↓s_253_57p, ↓s_253_57l, ↓s_253_59, ↓s_253_60a, ↓s_253_60b, ↓s_253_61, ↓s_253_64, ↓s_253_65, ↓s_253_66, ↓s_253_69, ↓s_253_70, ↓s_253_168, ↓s_253_170, ↓s_253_171, ↓s_253_172n, ↓s_253_172i, ↓s_253_172p, ↓s_253_172l, ↓s_253_174, ↓s_253_177, ↓s_253_179, ↓s_253_180, ↓s_253_181n, ↓s_253_181i, ↓s_253_181p, ↓s_253_181l, ↓s_253_183, ↓s_253_186, ↓s_253_188, ↓s_253_189, ↓s_253_190, ↓s_253_193, ↓s_253_194, ↓s_253_197, ↓s_253_200, ↓s_253_202, ↓s_253_205, ↓s_253_206, ↓s_253_207, ↓s_253_210, ↓s_253_211, ↓s_253_212, ↓s_253_214, ↓s_253_215, ↓s_253_216n, ↓s_253_216i, ↓s_253_216p, ↓s_253_216l, ↓s_253_218, ↓s_253_221, ↓s_253_222, ↓s_253_223, ↓s_253_224, ↓s_253_227, ↓s_253_228, ↓s_253_229, ↓s_253_231, ↓s_253_232, ↓s_253_233n, ↓s_253_233i, ↓s_253_233p, ↓s_253_233l, ↓s_253_235, ↓s_253_238, ↓s_253_240, ↓s_253_241, ↓s_253_242, ↓s_253_245, ↓s_253_246, ↓s_253_249, ↓s_253_250, ↓s_253_253n, ↓s_253_253i, ↓s_253_253p, ↓s_253_253l, ↓s_253_255, ↓s_253_258, ↓s_253_260, ↓s_253_261, ↓s_253_262, ↓s_253_265, ↓s_253_266, ↓s_253_269, ↓s_253_270, ↓s_253_273n, ↓s_253_273i, ↓s_253_273p, ↓s_253_273l, ↓s_253_275, ↓s_253_278, ↓s_253_280, ↓s_253_281, ↓s_253_282, ↓s_253_285, ↓s_253_286, ↓s_253_289, ↓s_253_290, ↓s_253_293n, ↓s_253_293i, ↓s_253_293p, ↓s_253_293l, ↓s_253_295, ↓s_253_298, ↓s_253_300, ↓s_253_301, ↓s_253_302, ↓s_253_305, ↓s_253_306, ↓s_253_309, ↓s_253_310, ↓s_253_313n, ↓s_253_313i, ↓s_253_313p, ↓s_253_313l, ↓s_253_315, ↓s_253_318, ↓s_253_320, ↓s_253_321, ↓s_253_322, ↓s_253_325, ↓s_253_326, ↓s_253_329, ↓s_253_330, ↓s_253_333n, ↓s_253_333i, ↓s_253_333p, ↓s_253_333l, ↓s_253_335, ↓s_253_338, ↓s_253_340, ↓s_253_341, ↓s_253_342, ↓s_253_345, ↓s_253_346, ↓s_253_349, ↓s_253_350, ↓s_253_353n, ↓s_253_353i, ↓s_253_353p, ↓s_253_353l, ↓s_253_355, ↓s_253_358, ↓s_253_360, ↓s_253_361, ↓s_253_362, ↓s_253_365, ↓s_253_366, ↓s_253_367, ↓s_253_368, ↓s_253_371, ↓s_253_372, ↓s_253_375, ↓s_253_376, ↓s_253_379n, ↓s_253_379i, ↓s_253_379p, ↓s_253_379l, ↓s_253_381, ↓s_253_384, ↓s_253_386, ↓s_253_387, ↓s_253_388, ↓s_253_391, ↓s_253_392, ↓s_253_393, ↓s_253_394, ↓s_253_397, ↓s_253_398, ↓s_253_401, ↓s_253_402, ↓s_253_405n, ↓s_253_405i, ↓s_253_405p, ↓s_253_405l, ↓g_253_407, ↓k_253_407, ↓s_253_408, ↓s_253_411, ↓s_253_412, ↓s_253_415, ↓s_253_416, ↓s_253_417, ↓s_253_419, ↓s_253_420, ↓s_253_422, ↓s_253_425, ↓s_253_426, ↓s_253_429, ↓s_253_431, ↓s_253_434, ↓s_253_435, ↓s_253_438, ↓s_253_439, ↓s_253_442, ↓s_253_443, w32c_260, ↓s_181_0, ↓s_181_1, ↓s_181_4, ↓s_181_5, ↓s_181_8, ↓s_181_9, zar_131, zia_131, zln_131, zit_131, zio_95, hs, yc_lt, yc_le, yc_gt, yc_ge, yc_eq, w64_0, i1, i2, vX, vY]

  have f1 : ∀ (r1 r2 r3 r4 r5 r7 : Option yV), (X ≤ Y) → zG E (d + 1) xm_253 407 [some (1, 95), r1, r2, r3, r4, r5, some (4, 1), r7] [] (yset mem 95 52 (mem 95 52 - 1)) Q := fun r1 r2 r3 r4 r5 r7 z => fin 1 r1 r2 r3 r4 r5 r7 (by rw [w64_1, if_pos (by decide)]; simp [eOp, eCm]; omega)
  have f0 : ∀ (r1 r2 r3 r4 r5 r7 : Option yV), ¬ (X ≤ Y) → zG E (d + 1) xm_253 407 [some (1, 95), r1, r2, r3, r4, r5, some (4, 0), r7] [] (yset mem 95 52 (mem 95 52 - 1)) Q := fun r1 r2 r3 r4 r5 r7 z => fin 0 r1 r2 r3 r4 r5 r7 (by rw [w64_0, if_pos (by decide)]; simp [eOp, eCm]; omega)
  refine ⟨⟨by omega, by omega⟩, ⟨by omega, by omega⟩, ?_⟩
  repeat' first | exact f1 _ _ _ _ _ _ (by omega) | exact f0 _ _ _ _ _ _ (by omega) | refine And.intro ?_ ?_ | intro _
theorem re_works_9 (hE : yEok E) {D : Nat} (hD : 2 ≤ D) {s Y X : Int} {rest : List Int} (hs : w32 s = 61) (h : rSt mem (Y :: X :: rest)) (hl : rest.length + 2 ≤ 64) (hS : ∀ w ∈ (Y :: X :: rest), eIn w) (hQ : rWk nm 9 (Y :: X :: rest) mem Q) : yCon E D xm_253 [(1, 95), (0, s)] mem Q := by
  obtain ⟨d, rfl⟩ := Nat.exists_eq_add_of_le' hD
  refine e_253 ?_
  refine zvc_ok hE 200 zc_253 _ _ _ _ _ _ _ xmo_253 ?_
  have h1 : w32 (mem 95 52) = ((rest.length + 2 : Nat) : Int) := h.1
  have e1 : w32 (mem 95 52 - 1) = ((rest.length + 1 : Nat) : Int) := by rw [w32_sb (by rw [w32c_1]; omega) (by rw [w32c_1]; omega), w32c_1]; omega
  have e2 : w32 (mem 95 52 - 2) = (rest.length : Int) := by rw [w32_sb (by rw [w32c_2]; omega) (by rw [w32c_2]; omega), w32c_2]; omega
  have i1 : (w32 (mem 95 52 - 1)).toNat = rest.length + 1 := by rw [e1]; exact Int.toNat_natCast _
  have i2 : (w32 (mem 95 52 - 2)).toNat = rest.length := by rw [e2]; exact Int.toNat_natCast _
  have vY : w64 (mem 131 (rest.length + 1)) = Y := h.2.1
  have vX : w64 (mem 131 rest.length) = X := h.2.2.1
  have iY : eIn Y := hS Y List.mem_cons_self
  have iX : eIn X := hS X (List.mem_cons_of_mem _ List.mem_cons_self)
  have fin : ∀ (v : Int) (r1 r2 r3 r4 r5 r7 : Option yV), (eOp 9 X Y = if eIn (w64 v) then some (w64 v) else none) → zG E (d + 1) xm_253 407 [some (1, 95), r1, r2, r3, r4, r5, some (4, v), r7] [] (yset mem 95 52 (mem 95 52 - 1)) Q := fun v r1 r2 r3 r4 r5 r7 hv => wk_pre hE (k := 9) (by decide) (by decide) h hl (fun w hw => hS w (List.mem_cons_of_mem _ (List.mem_cons_of_mem _ hw))) hQ hv
  simp only [ynok_30, ynok_31, w32c_0, w32c_1, w32c_2, w32c_3, w32c_4, w32c_5, w32c_6, w32c_7, w32c_8, w32c_9, w32c_10, w32c_11, w32c_12, w32c_13, w32c_14, w32c_m1, w32c_m2, w32c_118, Int.reduceAdd, Int.reduceSub, Int.reduceMul, yput_s, yput_n, znl_n, znl_0, znl_1, znl_4, ysum_n, ysum_0, ysum_1, ysum_4, true_and, and_true, Nat.reduceAdd, Nat.reduceLeDiff, true_implies, eq_self, true_or, or_true, or_false, false_or, not_true_eq_false, not_false_eq_true, false_implies, implies_true, yset_s, yset_o, yset_d, ne_eq, Nat.reduceEqDiff, Int.reduceToNat, Int.reduceEq, Int.reduceLE, Int.reduceLT, Classical.not_not, Nat.reduceLT, ↓zvk_s, ↓zvk_n, ↓s_253_0, ↓s_253_1, ↓s_253_4, ↓s_253_5, ↓s_253_8, ↓s_253_9, ↓s_253_10, ↓s_253_11n, ↓s_253_11i, ↓s_253_11p, ↓s_253_11l, ↓s_253_12, ↓s_253_13, ↓s_253_16, ↓s_253_19, ↓s_253_20, ↓s_253_23, ↓s_253_24, ↓s_253_27, ↓s_253_28, ↓s_253_29, ↓s_253_30, ↓s_253_31, ↓s_253_32, ↓s_253_35, ↓s_253_36, ↓s_253_39, ↓s_253_40, ↓s_253_43, ↓s_253_44, ↓s_253_45, ↓s_253_46, ↓s_253_47, ↓s_253_50, ↓s_253_51, ↓s_253_54, ↓s_253_55, ↓s_253_56, ↓s_253_57n, ↓s_253_57i, ↓s_253_57p, ↓s_253_57l, ↓s_253_59, ↓s_253_60a, ↓s_253_60b, ↓s_253_61, ↓s_253_64, ↓s_253_65, ↓s_253_66, ↓s_253_69, ↓s_253_70, ↓s_253_168, ↓s_253_170, ↓s_253_171, ↓s_253_172n, ↓s_253_172i, ↓s_253_172p, ↓s_253_172l, ↓s_253_174, ↓s_253_177, ↓s_253_179, ↓s_253_180, ↓s_253_181n, ↓s_253_181i, ↓s_253_181p, ↓s_253_181l, ↓s_253_183, ↓s_253_186, ↓s_253_188, ↓s_253_189, ↓s_253_190, ↓s_253_193, ↓s_253_194, ↓s_253_197, ↓s_253_200, ↓s_253_202, ↓s_253_205, ↓s_253_206, ↓s_253_207, ↓s_253_210, ↓s_253_211, ↓s_253_212, ↓s_253_214, ↓s_253_215, ↓s_253_216n, ↓s_253_216i, ↓s_253_216p, ↓s_253_216l, ↓s_253_218, ↓s_253_221, ↓s_253_222, ↓s_253_223, ↓s_253_224, ↓s_253_227, ↓s_253_228, ↓s_253_229, ↓s_253_231, ↓s_253_232, ↓s_253_233n, ↓s_253_233i, ↓s_253_233p, ↓s_253_233l, ↓s_253_235, ↓s_253_238, ↓s_253_240, ↓s_253_241, ↓s_253_242, ↓s_253_245, ↓s_253_246, ↓s_253_249, ↓s_253_250, ↓s_253_253n, ↓s_253_253i, ↓s_253_253p, ↓s_253_253l, ↓s_253_255, ↓s_253_258, ↓s_253_260, ↓s_253_261, ↓s_253_262, ↓s_253_265, ↓s_253_266, ↓s_253_269, ↓s_253_270, ↓s_253_273n, ↓s_253_273i, ↓s_253_273p, ↓s_253_273l, ↓s_253_275, ↓s_253_278, ↓s_253_280, ↓s_253_281, ↓s_253_282, ↓s_253_285, ↓s_253_286, ↓s_253_289, ↓s_253_290, ↓s_253_293n, ↓s_253_293i, ↓s_253_293p, ↓s_253_293l, ↓s_253_295, ↓s_253_298, ↓s_253_300, ↓s_253_301, ↓s_253_302, ↓s_253_305, ↓s_253_306, ↓s_253_309, ↓s_253_310, ↓s_253_313n, ↓s_253_313i, ↓s_253_313p, ↓s_253_313l, ↓s_253_315, ↓s_253_318, ↓s_253_320, ↓s_253_321, ↓s_253_322, ↓s_253_325, ↓s_253_326, ↓s_253_329, ↓s_253_330, ↓s_253_333n, ↓s_253_333i, ↓s_253_333p, ↓s_253_333l, ↓s_253_335, ↓s_253_338, ↓s_253_340, ↓s_253_341, ↓s_253_342, ↓s_253_345, ↓s_253_346, ↓s_253_349, ↓s_253_350, ↓s_253_353n, ↓s_253_353i, ↓s_253_353p, ↓s_253_353l, ↓s_253_355, ↓s_253_358, ↓s_253_360, ↓s_253_361, ↓s_253_362, ↓s_253_365, ↓s_253_366, ↓s_253_367, ↓s_253_368, ↓s_253_371, ↓s_253_372, ↓s_253_375, ↓s_253_376, ↓s_253_379n, ↓s_253_379i, ↓s_253_379p, ↓s_253_379l, ↓s_253_381, ↓s_253_384, ↓s_253_386, ↓s_253_387, ↓s_253_388, ↓s_253_391, ↓s_253_392, ↓s_253_393, ↓s_253_394, ↓s_253_397, ↓s_253_398, ↓s_253_401, ↓s_253_402, ↓s_253_405n, ↓s_253_405i, ↓s_253_405p, ↓s_253_405l, ↓g_253_407, ↓k_253_407, ↓s_253_408, ↓s_253_411, ↓s_253_412, ↓s_253_415, ↓s_253_416, ↓s_253_417, ↓s_253_419, ↓s_253_420, ↓s_253_422, ↓s_253_425, ↓s_253_426, ↓s_253_429, ↓s_253_431, ↓s_253_434, ↓s_253_435, ↓s_253_438, ↓s_253_439, ↓s_253_442, ↓s_253_443, w32c_260, ↓s_181_0, ↓s_181_1, ↓s_181_4, ↓s_181_5, ↓s_181_8, ↓s_181_9, zar_131, zia_131, zln_131, zit_131, zio_95, hs, yc_lt, yc_le, yc_gt, yc_ge, yc_eq, w64_0, i1, i2, vX, vY]

  have f1 : ∀ (r1 r2 r3 r4 r5 r7 : Option yV), (X = Y) → zG E (d + 1) xm_253 407 [some (1, 95), r1, r2, r3, r4, r5, some (4, 1), r7] [] (yset mem 95 52 (mem 95 52 - 1)) Q := fun r1 r2 r3 r4 r5 r7 z => fin 1 r1 r2 r3 r4 r5 r7 (by rw [w64_1, if_pos (by decide)]; simp [eOp, eCm]; omega)
  have f0 : ∀ (r1 r2 r3 r4 r5 r7 : Option yV), ¬ (X = Y) → zG E (d + 1) xm_253 407 [some (1, 95), r1, r2, r3, r4, r5, some (4, 0), r7] [] (yset mem 95 52 (mem 95 52 - 1)) Q := fun r1 r2 r3 r4 r5 r7 z => fin 0 r1 r2 r3 r4 r5 r7 (by rw [w64_0, if_pos (by decide)]; simp [eOp, eCm]; omega)
  refine ⟨⟨by omega, by omega⟩, ⟨by omega, by omega⟩, ?_⟩
  repeat' first | exact f1 _ _ _ _ _ _ (by omega) | exact f0 _ _ _ _ _ _ (by omega) | refine And.intro ?_ ?_ | intro _
theorem re_works_10 (hE : yEok E) {D : Nat} (hD : 2 ≤ D) {s Y X : Int} {rest : List Int} (hs : w32 s = 257) (h : rSt mem (Y :: X :: rest)) (hl : rest.length + 2 ≤ 64) (hS : ∀ w ∈ (Y :: X :: rest), eIn w) (hQ : rWk nm 10 (Y :: X :: rest) mem Q) : yCon E D xm_253 [(1, 95), (0, s)] mem Q := by
  obtain ⟨d, rfl⟩ := Nat.exists_eq_add_of_le' hD
  refine e_253 ?_
  refine zvc_ok hE 200 zc_253 _ _ _ _ _ _ _ xmo_253 ?_
  have h1 : w32 (mem 95 52) = ((rest.length + 2 : Nat) : Int) := h.1
  have e1 : w32 (mem 95 52 - 1) = ((rest.length + 1 : Nat) : Int) := by rw [w32_sb (by rw [w32c_1]; omega) (by rw [w32c_1]; omega), w32c_1]; omega
  have e2 : w32 (mem 95 52 - 2) = (rest.length : Int) := by rw [w32_sb (by rw [w32c_2]; omega) (by rw [w32c_2]; omega), w32c_2]; omega
  have i1 : (w32 (mem 95 52 - 1)).toNat = rest.length + 1 := by rw [e1]; exact Int.toNat_natCast _
  have i2 : (w32 (mem 95 52 - 2)).toNat = rest.length := by rw [e2]; exact Int.toNat_natCast _
  have vY : w64 (mem 131 (rest.length + 1)) = Y := h.2.1
  have vX : w64 (mem 131 rest.length) = X := h.2.2.1
  have iY : eIn Y := hS Y List.mem_cons_self
  have iX : eIn X := hS X (List.mem_cons_of_mem _ List.mem_cons_self)
  have fin : ∀ (v : Int) (r1 r2 r3 r4 r5 r7 : Option yV), (eOp 10 X Y = if eIn (w64 v) then some (w64 v) else none) → zG E (d + 1) xm_253 407 [some (1, 95), r1, r2, r3, r4, r5, some (4, v), r7] [] (yset mem 95 52 (mem 95 52 - 1)) Q := fun v r1 r2 r3 r4 r5 r7 hv => wk_pre hE (k := 10) (by decide) (by decide) h hl (fun w hw => hS w (List.mem_cons_of_mem _ (List.mem_cons_of_mem _ hw))) hQ hv
  simp only [ynok_30, ynok_31, w32c_0, w32c_1, w32c_2, w32c_3, w32c_4, w32c_5, w32c_6, w32c_7, w32c_8, w32c_9, w32c_10, w32c_11, w32c_12, w32c_13, w32c_14, w32c_m1, w32c_m2, w32c_118, Int.reduceAdd, Int.reduceSub, Int.reduceMul, yput_s, yput_n, znl_n, znl_0, znl_1, znl_4, ysum_n, ysum_0, ysum_1, ysum_4, true_and, and_true, Nat.reduceAdd, Nat.reduceLeDiff, true_implies, eq_self, true_or, or_true, or_false, false_or, not_true_eq_false, not_false_eq_true, false_implies, implies_true, yset_s, yset_o, yset_d, ne_eq, Nat.reduceEqDiff, Int.reduceToNat, Int.reduceEq, Int.reduceLE, Int.reduceLT, Classical.not_not, Nat.reduceLT, ↓zvk_s, ↓zvk_n, ↓s_253_0, ↓s_253_1, ↓s_253_4, ↓s_253_5, ↓s_253_8, ↓s_253_9, ↓s_253_10, ↓s_253_11n, ↓s_253_11i, ↓s_253_11p, ↓s_253_11l, ↓s_253_12, ↓s_253_13, ↓s_253_16, ↓s_253_19, ↓s_253_20, ↓s_253_23, ↓s_253_24, ↓s_253_27, ↓s_253_28, ↓s_253_29, ↓s_253_30, ↓s_253_31, ↓s_253_32, ↓s_253_35, ↓s_253_36, ↓s_253_39, ↓s_253_40, ↓s_253_43, ↓s_253_44, ↓s_253_45, ↓s_253_46, ↓s_253_47, ↓s_253_50, ↓s_253_51, ↓s_253_54, ↓s_253_55, ↓s_253_56, ↓s_253_57n, ↓s_253_57i, ↓s_253_57p, ↓s_253_57l, ↓s_253_59, ↓s_253_60a, ↓s_253_60b, ↓s_253_61, ↓s_253_64, ↓s_253_65, ↓s_253_66, ↓s_253_69, ↓s_253_70, ↓s_253_168, ↓s_253_170, ↓s_253_171, ↓s_253_172n, ↓s_253_172i, ↓s_253_172p, ↓s_253_172l, ↓s_253_174, ↓s_253_177, ↓s_253_179, ↓s_253_180, ↓s_253_181n, ↓s_253_181i, ↓s_253_181p, ↓s_253_181l, ↓s_253_183, ↓s_253_186, ↓s_253_188, ↓s_253_189, ↓s_253_190, ↓s_253_193, ↓s_253_194, ↓s_253_197, ↓s_253_200, ↓s_253_202, ↓s_253_205, ↓s_253_206, ↓s_253_207, ↓s_253_210, ↓s_253_211, ↓s_253_212, ↓s_253_214, ↓s_253_215, ↓s_253_216n, ↓s_253_216i, ↓s_253_216p, ↓s_253_216l, ↓s_253_218, ↓s_253_221, ↓s_253_222, ↓s_253_223, ↓s_253_224, ↓s_253_227, ↓s_253_228, ↓s_253_229, ↓s_253_231, ↓s_253_232, ↓s_253_233n, ↓s_253_233i, ↓s_253_233p, ↓s_253_233l, ↓s_253_235, ↓s_253_238, ↓s_253_240, ↓s_253_241, ↓s_253_242, ↓s_253_245, ↓s_253_246, ↓s_253_249, ↓s_253_250, ↓s_253_253n, ↓s_253_253i, ↓s_253_253p, ↓s_253_253l, ↓s_253_255, ↓s_253_258, ↓s_253_260, ↓s_253_261, ↓s_253_262, ↓s_253_265, ↓s_253_266, ↓s_253_269, ↓s_253_270, ↓s_253_273n, ↓s_253_273i, ↓s_253_273p, ↓s_253_273l, ↓s_253_275, ↓s_253_278, ↓s_253_280, ↓s_253_281, ↓s_253_282, ↓s_253_285, ↓s_253_286, ↓s_253_289, ↓s_253_290, ↓s_253_293n, ↓s_253_293i, ↓s_253_293p, ↓s_253_293l, ↓s_253_295, ↓s_253_298, ↓s_253_300, ↓s_253_301, ↓s_253_302, ↓s_253_305, ↓s_253_306, ↓s_253_309, ↓s_253_310, ↓s_253_313n, ↓s_253_313i, ↓s_253_313p, ↓s_253_313l, ↓s_253_315, ↓s_253_318, ↓s_253_320, ↓s_253_321, ↓s_253_322, ↓s_253_325, ↓s_253_326, ↓s_253_329, ↓s_253_330, ↓s_253_333n, ↓s_253_333i, ↓s_253_333p, ↓s_253_333l, ↓s_253_335, ↓s_253_338, ↓s_253_340, ↓s_253_341, ↓s_253_342, ↓s_253_345, ↓s_253_346, ↓s_253_349, ↓s_253_350, ↓s_253_353n, ↓s_253_353i, ↓s_253_353p, ↓s_253_353l, ↓s_253_355, ↓s_253_358, ↓s_253_360, ↓s_253_361, ↓s_253_362, ↓s_253_365, ↓s_253_366, ↓s_253_367, ↓s_253_368, ↓s_253_371, ↓s_253_372, ↓s_253_375, ↓s_253_376, ↓s_253_379n, ↓s_253_379i, ↓s_253_379p, ↓s_253_379l, ↓s_253_381, ↓s_253_384, ↓s_253_386, ↓s_253_387, ↓s_253_388, ↓s_253_391, ↓s_253_392, ↓s_253_393, ↓s_253_394, ↓s_253_397, ↓s_253_398, ↓s_253_401, ↓s_253_402, ↓s_253_405n, ↓s_253_405i, ↓s_253_405p, ↓s_253_405l, ↓g_253_407, ↓k_253_407, ↓s_253_408, ↓s_253_411, ↓s_253_412, ↓s_253_415, ↓s_253_416, ↓s_253_417, ↓s_253_419, ↓s_253_420, ↓s_253_422, ↓s_253_425, ↓s_253_426, ↓s_253_429, ↓s_253_431, ↓s_253_434, ↓s_253_435, ↓s_253_438, ↓s_253_439, ↓s_253_442, ↓s_253_443, w32c_260, ↓s_181_0, ↓s_181_1, ↓s_181_4, ↓s_181_5, ↓s_181_8, ↓s_181_9, zar_131, zia_131, zln_131, zit_131, zio_95, hs, yc_lt, yc_le, yc_gt, yc_ge, yc_eq, w64_0, i1, i2, vX, vY]

  have f1 : ∀ (r1 r2 r3 r4 r5 r7 : Option yV), (¬ X = Y) → zG E (d + 1) xm_253 407 [some (1, 95), r1, r2, r3, r4, r5, some (4, 1), r7] [] (yset mem 95 52 (mem 95 52 - 1)) Q := fun r1 r2 r3 r4 r5 r7 z => fin 1 r1 r2 r3 r4 r5 r7 (by rw [w64_1, if_pos (by decide)]; simp [eOp, eCm]; omega)
  have f0 : ∀ (r1 r2 r3 r4 r5 r7 : Option yV), ¬ (¬ X = Y) → zG E (d + 1) xm_253 407 [some (1, 95), r1, r2, r3, r4, r5, some (4, 0), r7] [] (yset mem 95 52 (mem 95 52 - 1)) Q := fun r1 r2 r3 r4 r5 r7 z => fin 0 r1 r2 r3 r4 r5 r7 (by rw [w64_0, if_pos (by decide)]; simp [eOp, eCm]; omega)
  refine ⟨⟨by omega, by omega⟩, ⟨by omega, by omega⟩, ?_⟩
  repeat' first | exact f1 _ _ _ _ _ _ (by omega) | exact f0 _ _ _ _ _ _ (by omega) | refine And.intro ?_ ?_ | intro _
theorem re_works_11 (hE : yEok E) {D : Nat} (hD : 2 ≤ D) {s Y X : Int} {rest : List Int} (hs : w32 s = 258) (h : rSt mem (Y :: X :: rest)) (hl : rest.length + 2 ≤ 64) (hS : ∀ w ∈ (Y :: X :: rest), eIn w) (hQ : rWk nm 11 (Y :: X :: rest) mem Q) : yCon E D xm_253 [(1, 95), (0, s)] mem Q := by
  obtain ⟨d, rfl⟩ := Nat.exists_eq_add_of_le' hD
  refine e_253 ?_
  refine zvc_ok hE 200 zc_253 _ _ _ _ _ _ _ xmo_253 ?_
  have h1 : w32 (mem 95 52) = ((rest.length + 2 : Nat) : Int) := h.1
  have e1 : w32 (mem 95 52 - 1) = ((rest.length + 1 : Nat) : Int) := by rw [w32_sb (by rw [w32c_1]; omega) (by rw [w32c_1]; omega), w32c_1]; omega
  have e2 : w32 (mem 95 52 - 2) = (rest.length : Int) := by rw [w32_sb (by rw [w32c_2]; omega) (by rw [w32c_2]; omega), w32c_2]; omega
  have i1 : (w32 (mem 95 52 - 1)).toNat = rest.length + 1 := by rw [e1]; exact Int.toNat_natCast _
  have i2 : (w32 (mem 95 52 - 2)).toNat = rest.length := by rw [e2]; exact Int.toNat_natCast _
  have vY : w64 (mem 131 (rest.length + 1)) = Y := h.2.1
  have vX : w64 (mem 131 rest.length) = X := h.2.2.1
  have iY : eIn Y := hS Y List.mem_cons_self
  have iX : eIn X := hS X (List.mem_cons_of_mem _ List.mem_cons_self)
  have fin : ∀ (v : Int) (r1 r2 r3 r4 r5 r7 : Option yV), (eOp 11 X Y = if eIn (w64 v) then some (w64 v) else none) → zG E (d + 1) xm_253 407 [some (1, 95), r1, r2, r3, r4, r5, some (4, v), r7] [] (yset mem 95 52 (mem 95 52 - 1)) Q := fun v r1 r2 r3 r4 r5 r7 hv => wk_pre hE (k := 11) (by decide) (by decide) h hl (fun w hw => hS w (List.mem_cons_of_mem _ (List.mem_cons_of_mem _ hw))) hQ hv
  simp only [ynok_30, ynok_31, w32c_0, w32c_1, w32c_2, w32c_3, w32c_4, w32c_5, w32c_6, w32c_7, w32c_8, w32c_9, w32c_10, w32c_11, w32c_12, w32c_13, w32c_14, w32c_m1, w32c_m2, w32c_118, Int.reduceAdd, Int.reduceSub, Int.reduceMul, yput_s, yput_n, znl_n, znl_0, znl_1, znl_4, ysum_n, ysum_0, ysum_1, ysum_4, true_and, and_true, Nat.reduceAdd, Nat.reduceLeDiff, true_implies, eq_self, true_or, or_true, or_false, false_or, not_true_eq_false, not_false_eq_true, false_implies, implies_true, yset_s, yset_o, yset_d, ne_eq, Nat.reduceEqDiff, Int.reduceToNat, Int.reduceEq, Int.reduceLE, Int.reduceLT, Classical.not_not, Nat.reduceLT, ↓zvk_s, ↓zvk_n, ↓s_253_0, ↓s_253_1, ↓s_253_4, ↓s_253_5, ↓s_253_8, ↓s_253_9, ↓s_253_10, ↓s_253_11n, ↓s_253_11i, ↓s_253_11p, ↓s_253_11l, ↓s_253_12, ↓s_253_13, ↓s_253_16, ↓s_253_19, ↓s_253_20, ↓s_253_23, ↓s_253_24, ↓s_253_27, ↓s_253_28, ↓s_253_29, ↓s_253_30, ↓s_253_31, ↓s_253_32, ↓s_253_35, ↓s_253_36, ↓s_253_39, ↓s_253_40, ↓s_253_43, ↓s_253_44, ↓s_253_45, ↓s_253_46, ↓s_253_47, ↓s_253_50, ↓s_253_51, ↓s_253_54, ↓s_253_55, ↓s_253_56, ↓s_253_57n, ↓s_253_57i, ↓s_253_57p, ↓s_253_57l, ↓s_253_59, ↓s_253_60a, ↓s_253_60b, ↓s_253_61, ↓s_253_64, ↓s_253_65, ↓s_253_66, ↓s_253_69, ↓s_253_70, ↓s_253_168, ↓s_253_170, ↓s_253_171, ↓s_253_172n, ↓s_253_172i, ↓s_253_172p, ↓s_253_172l, ↓s_253_174, ↓s_253_177, ↓s_253_179, ↓s_253_180, ↓s_253_181n, ↓s_253_181i, ↓s_253_181p, ↓s_253_181l, ↓s_253_183, ↓s_253_186, ↓s_253_188, ↓s_253_189, ↓s_253_190, ↓s_253_193, ↓s_253_194, ↓s_253_197, ↓s_253_200, ↓s_253_202, ↓s_253_205, ↓s_253_206, ↓s_253_207, ↓s_253_210, ↓s_253_211, ↓s_253_212, ↓s_253_214, ↓s_253_215, ↓s_253_216n, ↓s_253_216i, ↓s_253_216p, ↓s_253_216l, ↓s_253_218, ↓s_253_221, ↓s_253_222, ↓s_253_223, ↓s_253_224, ↓s_253_227, ↓s_253_228, ↓s_253_229, ↓s_253_231, ↓s_253_232, ↓s_253_233n, ↓s_253_233i, ↓s_253_233p, ↓s_253_233l, ↓s_253_235, ↓s_253_238, ↓s_253_240, ↓s_253_241, ↓s_253_242, ↓s_253_245, ↓s_253_246, ↓s_253_249, ↓s_253_250, ↓s_253_253n, ↓s_253_253i, ↓s_253_253p, ↓s_253_253l, ↓s_253_255, ↓s_253_258, ↓s_253_260, ↓s_253_261, ↓s_253_262, ↓s_253_265, ↓s_253_266, ↓s_253_269, ↓s_253_270, ↓s_253_273n, ↓s_253_273i, ↓s_253_273p, ↓s_253_273l, ↓s_253_275, ↓s_253_278, ↓s_253_280, ↓s_253_281, ↓s_253_282, ↓s_253_285, ↓s_253_286, ↓s_253_289, ↓s_253_290, ↓s_253_293n, ↓s_253_293i, ↓s_253_293p, ↓s_253_293l, ↓s_253_295, ↓s_253_298, ↓s_253_300, ↓s_253_301, ↓s_253_302, ↓s_253_305, ↓s_253_306, ↓s_253_309, ↓s_253_310, ↓s_253_313n, ↓s_253_313i, ↓s_253_313p, ↓s_253_313l, ↓s_253_315, ↓s_253_318, ↓s_253_320, ↓s_253_321, ↓s_253_322, ↓s_253_325, ↓s_253_326, ↓s_253_329, ↓s_253_330, ↓s_253_333n, ↓s_253_333i, ↓s_253_333p, ↓s_253_333l, ↓s_253_335, ↓s_253_338, ↓s_253_340, ↓s_253_341, ↓s_253_342, ↓s_253_345, ↓s_253_346, ↓s_253_349, ↓s_253_350, ↓s_253_353n, ↓s_253_353i, ↓s_253_353p, ↓s_253_353l, ↓s_253_355, ↓s_253_358, ↓s_253_360, ↓s_253_361, ↓s_253_362, ↓s_253_365, ↓s_253_366, ↓s_253_367, ↓s_253_368, ↓s_253_371, ↓s_253_372, ↓s_253_375, ↓s_253_376, ↓s_253_379n, ↓s_253_379i, ↓s_253_379p, ↓s_253_379l, ↓s_253_381, ↓s_253_384, ↓s_253_386, ↓s_253_387, ↓s_253_388, ↓s_253_391, ↓s_253_392, ↓s_253_393, ↓s_253_394, ↓s_253_397, ↓s_253_398, ↓s_253_401, ↓s_253_402, ↓s_253_405n, ↓s_253_405i, ↓s_253_405p, ↓s_253_405l, ↓g_253_407, ↓k_253_407, ↓s_253_408, ↓s_253_411, ↓s_253_412, ↓s_253_415, ↓s_253_416, ↓s_253_417, ↓s_253_419, ↓s_253_420, ↓s_253_422, ↓s_253_425, ↓s_253_426, ↓s_253_429, ↓s_253_431, ↓s_253_434, ↓s_253_435, ↓s_253_438, ↓s_253_439, ↓s_253_442, ↓s_253_443, w32c_260, ↓s_181_0, ↓s_181_1, ↓s_181_4, ↓s_181_5, ↓s_181_8, ↓s_181_9, zar_131, zia_131, zln_131, zit_131, zio_95, hs, yc_lt, yc_le, yc_gt, yc_ge, yc_eq, w64_0, i1, i2, vX, vY]

  have f1 : ∀ (r1 r2 r3 r4 r5 r7 : Option yV), (Y ≤ X) → zG E (d + 1) xm_253 407 [some (1, 95), r1, r2, r3, r4, r5, some (4, 1), r7] [] (yset mem 95 52 (mem 95 52 - 1)) Q := fun r1 r2 r3 r4 r5 r7 z => fin 1 r1 r2 r3 r4 r5 r7 (by rw [w64_1, if_pos (by decide)]; simp [eOp, eCm]; omega)
  have f0 : ∀ (r1 r2 r3 r4 r5 r7 : Option yV), ¬ (Y ≤ X) → zG E (d + 1) xm_253 407 [some (1, 95), r1, r2, r3, r4, r5, some (4, 0), r7] [] (yset mem 95 52 (mem 95 52 - 1)) Q := fun r1 r2 r3 r4 r5 r7 z => fin 0 r1 r2 r3 r4 r5 r7 (by rw [w64_0, if_pos (by decide)]; simp [eOp, eCm]; omega)
  refine ⟨⟨by omega, by omega⟩, ⟨by omega, by omega⟩, ?_⟩
  repeat' first | exact f1 _ _ _ _ _ _ (by omega) | exact f0 _ _ _ _ _ _ (by omega) | refine And.intro ?_ ?_ | intro _
theorem re_works_12 (hE : yEok E) {D : Nat} (hD : 2 ≤ D) {s Y X : Int} {rest : List Int} (hs : w32 s = 62) (h : rSt mem (Y :: X :: rest)) (hl : rest.length + 2 ≤ 64) (hS : ∀ w ∈ (Y :: X :: rest), eIn w) (hQ : rWk nm 12 (Y :: X :: rest) mem Q) : yCon E D xm_253 [(1, 95), (0, s)] mem Q := by
  obtain ⟨d, rfl⟩ := Nat.exists_eq_add_of_le' hD
  refine e_253 ?_
  refine zvc_ok hE 200 zc_253 _ _ _ _ _ _ _ xmo_253 ?_
  have h1 : w32 (mem 95 52) = ((rest.length + 2 : Nat) : Int) := h.1
  have e1 : w32 (mem 95 52 - 1) = ((rest.length + 1 : Nat) : Int) := by rw [w32_sb (by rw [w32c_1]; omega) (by rw [w32c_1]; omega), w32c_1]; omega
  have e2 : w32 (mem 95 52 - 2) = (rest.length : Int) := by rw [w32_sb (by rw [w32c_2]; omega) (by rw [w32c_2]; omega), w32c_2]; omega
  have i1 : (w32 (mem 95 52 - 1)).toNat = rest.length + 1 := by rw [e1]; exact Int.toNat_natCast _
  have i2 : (w32 (mem 95 52 - 2)).toNat = rest.length := by rw [e2]; exact Int.toNat_natCast _
  have vY : w64 (mem 131 (rest.length + 1)) = Y := h.2.1
  have vX : w64 (mem 131 rest.length) = X := h.2.2.1
  have iY : eIn Y := hS Y List.mem_cons_self
  have iX : eIn X := hS X (List.mem_cons_of_mem _ List.mem_cons_self)
  have fin : ∀ (v : Int) (r1 r2 r3 r4 r5 r7 : Option yV), (eOp 12 X Y = if eIn (w64 v) then some (w64 v) else none) → zG E (d + 1) xm_253 407 [some (1, 95), r1, r2, r3, r4, r5, some (4, v), r7] [] (yset mem 95 52 (mem 95 52 - 1)) Q := fun v r1 r2 r3 r4 r5 r7 hv => wk_pre hE (k := 12) (by decide) (by decide) h hl (fun w hw => hS w (List.mem_cons_of_mem _ (List.mem_cons_of_mem _ hw))) hQ hv
  simp only [ynok_30, ynok_31, w32c_0, w32c_1, w32c_2, w32c_3, w32c_4, w32c_5, w32c_6, w32c_7, w32c_8, w32c_9, w32c_10, w32c_11, w32c_12, w32c_13, w32c_14, w32c_m1, w32c_m2, w32c_118, Int.reduceAdd, Int.reduceSub, Int.reduceMul, yput_s, yput_n, znl_n, znl_0, znl_1, znl_4, ysum_n, ysum_0, ysum_1, ysum_4, true_and, and_true, Nat.reduceAdd, Nat.reduceLeDiff, true_implies, eq_self, true_or, or_true, or_false, false_or, not_true_eq_false, not_false_eq_true, false_implies, implies_true, yset_s, yset_o, yset_d, ne_eq, Nat.reduceEqDiff, Int.reduceToNat, Int.reduceEq, Int.reduceLE, Int.reduceLT, Classical.not_not, Nat.reduceLT, ↓zvk_s, ↓zvk_n, ↓s_253_0, ↓s_253_1, ↓s_253_4, ↓s_253_5, ↓s_253_8, ↓s_253_9, ↓s_253_10, ↓s_253_11n, ↓s_253_11i, ↓s_253_11p, ↓s_253_11l, ↓s_253_12, ↓s_253_13, ↓s_253_16, ↓s_253_19, ↓s_253_20, ↓s_253_23, ↓s_253_24, ↓s_253_27, ↓s_253_28, ↓s_253_29, ↓s_253_30, ↓s_253_31, ↓s_253_32, ↓s_253_35, ↓s_253_36, ↓s_253_39, ↓s_253_40, ↓s_253_43, ↓s_253_44, ↓s_253_45, ↓s_253_46, ↓s_253_47, ↓s_253_50, ↓s_253_51, ↓s_253_54, ↓s_253_55, ↓s_253_56, ↓s_253_57n, ↓s_253_57i, ↓s_253_57p, ↓s_253_57l, ↓s_253_59, ↓s_253_60a, ↓s_253_60b, ↓s_253_61, ↓s_253_64, ↓s_253_65, ↓s_253_66, ↓s_253_69, ↓s_253_70, ↓s_253_168, ↓s_253_170, ↓s_253_171, ↓s_253_172n, ↓s_253_172i, ↓s_253_172p, ↓s_253_172l, ↓s_253_174, ↓s_253_177, ↓s_253_179, ↓s_253_180, ↓s_253_181n, ↓s_253_181i, ↓s_253_181p, ↓s_253_181l, ↓s_253_183, ↓s_253_186, ↓s_253_188, ↓s_253_189, ↓s_253_190, ↓s_253_193, ↓s_253_194, ↓s_253_197, ↓s_253_200, ↓s_253_202, ↓s_253_205, ↓s_253_206, ↓s_253_207, ↓s_253_210, ↓s_253_211, ↓s_253_212, ↓s_253_214, ↓s_253_215, ↓s_253_216n, ↓s_253_216i, ↓s_253_216p, ↓s_253_216l, ↓s_253_218, ↓s_253_221, ↓s_253_222, ↓s_253_223, ↓s_253_224, ↓s_253_227, ↓s_253_228, ↓s_253_229, ↓s_253_231, ↓s_253_232, ↓s_253_233n, ↓s_253_233i, ↓s_253_233p, ↓s_253_233l, ↓s_253_235, ↓s_253_238, ↓s_253_240, ↓s_253_241, ↓s_253_242, ↓s_253_245, ↓s_253_246, ↓s_253_249, ↓s_253_250, ↓s_253_253n, ↓s_253_253i, ↓s_253_253p, ↓s_253_253l, ↓s_253_255, ↓s_253_258, ↓s_253_260, ↓s_253_261, ↓s_253_262, ↓s_253_265, ↓s_253_266, ↓s_253_269, ↓s_253_270, ↓s_253_273n, ↓s_253_273i, ↓s_253_273p, ↓s_253_273l, ↓s_253_275, ↓s_253_278, ↓s_253_280, ↓s_253_281, ↓s_253_282, ↓s_253_285, ↓s_253_286, ↓s_253_289, ↓s_253_290, ↓s_253_293n, ↓s_253_293i, ↓s_253_293p, ↓s_253_293l, ↓s_253_295, ↓s_253_298, ↓s_253_300, ↓s_253_301, ↓s_253_302, ↓s_253_305, ↓s_253_306, ↓s_253_309, ↓s_253_310, ↓s_253_313n, ↓s_253_313i, ↓s_253_313p, ↓s_253_313l, ↓s_253_315, ↓s_253_318, ↓s_253_320, ↓s_253_321, ↓s_253_322, ↓s_253_325, ↓s_253_326, ↓s_253_329, ↓s_253_330, ↓s_253_333n, ↓s_253_333i, ↓s_253_333p, ↓s_253_333l, ↓s_253_335, ↓s_253_338, ↓s_253_340, ↓s_253_341, ↓s_253_342, ↓s_253_345, ↓s_253_346, ↓s_253_349, ↓s_253_350, ↓s_253_353n, ↓s_253_353i, ↓s_253_353p, ↓s_253_353l, ↓s_253_355, ↓s_253_358, ↓s_253_360, ↓s_253_361, ↓s_253_362, ↓s_253_365, ↓s_253_366, ↓s_253_367, ↓s_253_368, ↓s_253_371, ↓s_253_372, ↓s_253_375, ↓s_253_376, ↓s_253_379n, ↓s_253_379i, ↓s_253_379p, ↓s_253_379l, ↓s_253_381, ↓s_253_384, ↓s_253_386, ↓s_253_387, ↓s_253_388, ↓s_253_391, ↓s_253_392, ↓s_253_393, ↓s_253_394, ↓s_253_397, ↓s_253_398, ↓s_253_401, ↓s_253_402, ↓s_253_405n, ↓s_253_405i, ↓s_253_405p, ↓s_253_405l, ↓g_253_407, ↓k_253_407, ↓s_253_408, ↓s_253_411, ↓s_253_412, ↓s_253_415, ↓s_253_416, ↓s_253_417, ↓s_253_419, ↓s_253_420, ↓s_253_422, ↓s_253_425, ↓s_253_426, ↓s_253_429, ↓s_253_431, ↓s_253_434, ↓s_253_435, ↓s_253_438, ↓s_253_439, ↓s_253_442, ↓s_253_443, w32c_260, ↓s_181_0, ↓s_181_1, ↓s_181_4, ↓s_181_5, ↓s_181_8, ↓s_181_9, zar_131, zia_131, zln_131, zit_131, zio_95, hs, yc_lt, yc_le, yc_gt, yc_ge, yc_eq, w64_0, i1, i2, vX, vY]

  have f1 : ∀ (r1 r2 r3 r4 r5 r7 : Option yV), (Y < X) → zG E (d + 1) xm_253 407 [some (1, 95), r1, r2, r3, r4, r5, some (4, 1), r7] [] (yset mem 95 52 (mem 95 52 - 1)) Q := fun r1 r2 r3 r4 r5 r7 z => fin 1 r1 r2 r3 r4 r5 r7 (by rw [w64_1, if_pos (by decide)]; simp [eOp, eCm]; omega)
  have f0 : ∀ (r1 r2 r3 r4 r5 r7 : Option yV), ¬ (Y < X) → zG E (d + 1) xm_253 407 [some (1, 95), r1, r2, r3, r4, r5, some (4, 0), r7] [] (yset mem 95 52 (mem 95 52 - 1)) Q := fun r1 r2 r3 r4 r5 r7 z => fin 0 r1 r2 r3 r4 r5 r7 (by rw [w64_0, if_pos (by decide)]; simp [eOp, eCm]; omega)
  refine ⟨⟨by omega, by omega⟩, ⟨by omega, by omega⟩, ?_⟩
  repeat' first | exact f1 _ _ _ _ _ _ (by omega) | exact f0 _ _ _ _ _ _ (by omega) | refine And.intro ?_ ?_ | intro _
theorem re_works_30 (hE : yEok E) {D : Nat} (hD : 2 ≤ D) {s Y X : Int} {rest : List Int} (hs : w32 s = 262) (h : rSt mem (Y :: X :: rest)) (hl : rest.length + 2 ≤ 64) (hS : ∀ w ∈ (Y :: X :: rest), eIn w) (hQ : rWk nm 30 (Y :: X :: rest) mem Q) : yCon E D xm_253 [(1, 95), (0, s)] mem Q := by
  obtain ⟨d, rfl⟩ := Nat.exists_eq_add_of_le' hD
  refine e_253 ?_
  refine zvc_ok hE 200 zc_253 _ _ _ _ _ _ _ xmo_253 ?_
  have h1 : w32 (mem 95 52) = ((rest.length + 2 : Nat) : Int) := h.1
  have e1 : w32 (mem 95 52 - 1) = ((rest.length + 1 : Nat) : Int) := by rw [w32_sb (by rw [w32c_1]; omega) (by rw [w32c_1]; omega), w32c_1]; omega
  have e2 : w32 (mem 95 52 - 2) = (rest.length : Int) := by rw [w32_sb (by rw [w32c_2]; omega) (by rw [w32c_2]; omega), w32c_2]; omega
  have i1 : (w32 (mem 95 52 - 1)).toNat = rest.length + 1 := by rw [e1]; exact Int.toNat_natCast _
  have i2 : (w32 (mem 95 52 - 2)).toNat = rest.length := by rw [e2]; exact Int.toNat_natCast _
  have vY : w64 (mem 131 (rest.length + 1)) = Y := h.2.1
  have vX : w64 (mem 131 rest.length) = X := h.2.2.1
  have iY : eIn Y := hS Y List.mem_cons_self
  have iX : eIn X := hS X (List.mem_cons_of_mem _ List.mem_cons_self)
  have fin : ∀ (v : Int) (r1 r2 r3 r4 r5 r7 : Option yV), (eOp 30 X Y = if eIn (w64 v) then some (w64 v) else none) → zG E (d + 1) xm_253 407 [some (1, 95), r1, r2, r3, r4, r5, some (4, v), r7] [] (yset mem 95 52 (mem 95 52 - 1)) Q := fun v r1 r2 r3 r4 r5 r7 hv => wk_pre hE (k := 30) (by decide) (by decide) h hl (fun w hw => hS w (List.mem_cons_of_mem _ (List.mem_cons_of_mem _ hw))) hQ hv
  simp only [ynok_30, ynok_31, w32c_0, w32c_1, w32c_2, w32c_3, w32c_4, w32c_5, w32c_6, w32c_7, w32c_8, w32c_9, w32c_10, w32c_11, w32c_12, w32c_13, w32c_14, w32c_m1, w32c_m2, w32c_118, Int.reduceAdd, Int.reduceSub, Int.reduceMul, yput_s, yput_n, znl_n, znl_0, znl_1, znl_4, ysum_n, ysum_0, ysum_1, ysum_4, true_and, and_true, Nat.reduceAdd, Nat.reduceLeDiff, true_implies, eq_self, true_or, or_true, or_false, false_or, not_true_eq_false, not_false_eq_true, false_implies, implies_true, yset_s, yset_o, yset_d, ne_eq, Nat.reduceEqDiff, Int.reduceToNat, Int.reduceEq, Int.reduceLE, Int.reduceLT, Classical.not_not, Nat.reduceLT, ↓zvk_s, ↓zvk_n, ↓s_253_0, ↓s_253_1, ↓s_253_4, ↓s_253_5, ↓s_253_8, ↓s_253_9, ↓s_253_10, ↓s_253_11n, ↓s_253_11i, ↓s_253_11p, ↓s_253_11l, ↓s_253_12, ↓s_253_13, ↓s_253_16, ↓s_253_19, ↓s_253_20, ↓s_253_23, ↓s_253_24, ↓s_253_27, ↓s_253_28, ↓s_253_29, ↓s_253_30, ↓s_253_31, ↓s_253_32, ↓s_253_35, ↓s_253_36, ↓s_253_39, ↓s_253_40, ↓s_253_43, ↓s_253_44, ↓s_253_45, ↓s_253_46, ↓s_253_47, ↓s_253_50, ↓s_253_51, ↓s_253_54, ↓s_253_55, ↓s_253_56, ↓s_253_57n, ↓s_253_57i, ↓s_253_57p, ↓s_253_57l, ↓s_253_59, ↓s_253_60a, ↓s_253_60b, ↓s_253_61, ↓s_253_64, ↓s_253_65, ↓s_253_66, ↓s_253_69, ↓s_253_70, ↓s_253_168, ↓s_253_170, ↓s_253_171, ↓s_253_172n, ↓s_253_172i, ↓s_253_172p, ↓s_253_172l, ↓s_253_174, ↓s_253_177, ↓s_253_179, ↓s_253_180, ↓s_253_181n, ↓s_253_181i, ↓s_253_181p, ↓s_253_181l, ↓s_253_183, ↓s_253_186, ↓s_253_188, ↓s_253_189, ↓s_253_190, ↓s_253_193, ↓s_253_194, ↓s_253_197, ↓s_253_200, ↓s_253_202, ↓s_253_205, ↓s_253_206, ↓s_253_207, ↓s_253_210, ↓s_253_211, ↓s_253_212, ↓s_253_214, ↓s_253_215, ↓s_253_216n, ↓s_253_216i, ↓s_253_216p, ↓s_253_216l, ↓s_253_218, ↓s_253_221, ↓s_253_222, ↓s_253_223, ↓s_253_224, ↓s_253_227, ↓s_253_228, ↓s_253_229, ↓s_253_231, ↓s_253_232, ↓s_253_233n, ↓s_253_233i, ↓s_253_233p, ↓s_253_233l, ↓s_253_235, ↓s_253_238, ↓s_253_240, ↓s_253_241, ↓s_253_242, ↓s_253_245, ↓s_253_246, ↓s_253_249, ↓s_253_250, ↓s_253_253n, ↓s_253_253i, ↓s_253_253p, ↓s_253_253l, ↓s_253_255, ↓s_253_258, ↓s_253_260, ↓s_253_261, ↓s_253_262, ↓s_253_265, ↓s_253_266, ↓s_253_269, ↓s_253_270, ↓s_253_273n, ↓s_253_273i, ↓s_253_273p, ↓s_253_273l, ↓s_253_275, ↓s_253_278, ↓s_253_280, ↓s_253_281, ↓s_253_282, ↓s_253_285, ↓s_253_286, ↓s_253_289, ↓s_253_290, ↓s_253_293n, ↓s_253_293i, ↓s_253_293p, ↓s_253_293l, ↓s_253_295, ↓s_253_298, ↓s_253_300, ↓s_253_301, ↓s_253_302, ↓s_253_305, ↓s_253_306, ↓s_253_309, ↓s_253_310, ↓s_253_313n, ↓s_253_313i, ↓s_253_313p, ↓s_253_313l, ↓s_253_315, ↓s_253_318, ↓s_253_320, ↓s_253_321, ↓s_253_322, ↓s_253_325, ↓s_253_326, ↓s_253_329, ↓s_253_330, ↓s_253_333n, ↓s_253_333i, ↓s_253_333p, ↓s_253_333l, ↓s_253_335, ↓s_253_338, ↓s_253_340, ↓s_253_341, ↓s_253_342, ↓s_253_345, ↓s_253_346, ↓s_253_349, ↓s_253_350, ↓s_253_353n, ↓s_253_353i, ↓s_253_353p, ↓s_253_353l, ↓s_253_355, ↓s_253_358, ↓s_253_360, ↓s_253_361, ↓s_253_362, ↓s_253_365, ↓s_253_366, ↓s_253_367, ↓s_253_368, ↓s_253_371, ↓s_253_372, ↓s_253_375, ↓s_253_376, ↓s_253_379n, ↓s_253_379i, ↓s_253_379p, ↓s_253_379l, ↓s_253_381, ↓s_253_384, ↓s_253_386, ↓s_253_387, ↓s_253_388, ↓s_253_391, ↓s_253_392, ↓s_253_393, ↓s_253_394, ↓s_253_397, ↓s_253_398, ↓s_253_401, ↓s_253_402, ↓s_253_405n, ↓s_253_405i, ↓s_253_405p, ↓s_253_405l, ↓g_253_407, ↓k_253_407, ↓s_253_408, ↓s_253_411, ↓s_253_412, ↓s_253_415, ↓s_253_416, ↓s_253_417, ↓s_253_419, ↓s_253_420, ↓s_253_422, ↓s_253_425, ↓s_253_426, ↓s_253_429, ↓s_253_431, ↓s_253_434, ↓s_253_435, ↓s_253_438, ↓s_253_439, ↓s_253_442, ↓s_253_443, w32c_260, ↓s_181_0, ↓s_181_1, ↓s_181_4, ↓s_181_5, ↓s_181_8, ↓s_181_9, zar_131, zia_131, zln_131, zit_131, zio_95, hs, yc_lt, yc_le, yc_gt, yc_ge, yc_eq, w64_0, i1, i2, vX, vY]

  have f1 : ∀ (r1 r2 r3 r4 r5 r7 : Option yV), (¬ X = 0 ∨ ¬ Y = 0) → zG E (d + 1) xm_253 407 [some (1, 95), r1, r2, r3, r4, r5, some (4, 1), r7] [] (yset mem 95 52 (mem 95 52 - 1)) Q := fun r1 r2 r3 r4 r5 r7 z => fin 1 r1 r2 r3 r4 r5 r7 (by rw [w64_1, if_pos (by decide)]; simp [eOp, eCm]; omega)
  have f0 : ∀ (r1 r2 r3 r4 r5 r7 : Option yV), ¬ (¬ X = 0 ∨ ¬ Y = 0) → zG E (d + 1) xm_253 407 [some (1, 95), r1, r2, r3, r4, r5, some (4, 0), r7] [] (yset mem 95 52 (mem 95 52 - 1)) Q := fun r1 r2 r3 r4 r5 r7 z => fin 0 r1 r2 r3 r4 r5 r7 (by rw [w64_0, if_pos (by decide)]; simp [eOp, eCm]; omega)
  refine ⟨⟨by omega, by omega⟩, ⟨by omega, by omega⟩, ?_⟩
  repeat' first | exact f1 _ _ _ _ _ _ (by omega) | exact f0 _ _ _ _ _ _ (by omega) | refine And.intro ?_ ?_ | intro _
theorem re_works_31 (hE : yEok E) {D : Nat} (hD : 2 ≤ D) {s Y X : Int} {rest : List Int} (hs : w32 s = 261) (h : rSt mem (Y :: X :: rest)) (hl : rest.length + 2 ≤ 64) (hS : ∀ w ∈ (Y :: X :: rest), eIn w) (hQ : rWk nm 31 (Y :: X :: rest) mem Q) : yCon E D xm_253 [(1, 95), (0, s)] mem Q := by
  obtain ⟨d, rfl⟩ := Nat.exists_eq_add_of_le' hD
  refine e_253 ?_
  refine zvc_ok hE 200 zc_253 _ _ _ _ _ _ _ xmo_253 ?_
  have h1 : w32 (mem 95 52) = ((rest.length + 2 : Nat) : Int) := h.1
  have e1 : w32 (mem 95 52 - 1) = ((rest.length + 1 : Nat) : Int) := by rw [w32_sb (by rw [w32c_1]; omega) (by rw [w32c_1]; omega), w32c_1]; omega
  have e2 : w32 (mem 95 52 - 2) = (rest.length : Int) := by rw [w32_sb (by rw [w32c_2]; omega) (by rw [w32c_2]; omega), w32c_2]; omega
  have i1 : (w32 (mem 95 52 - 1)).toNat = rest.length + 1 := by rw [e1]; exact Int.toNat_natCast _
  have i2 : (w32 (mem 95 52 - 2)).toNat = rest.length := by rw [e2]; exact Int.toNat_natCast _
  have vY : w64 (mem 131 (rest.length + 1)) = Y := h.2.1
  have vX : w64 (mem 131 rest.length) = X := h.2.2.1
  have iY : eIn Y := hS Y List.mem_cons_self
  have iX : eIn X := hS X (List.mem_cons_of_mem _ List.mem_cons_self)
  have fin : ∀ (v : Int) (r1 r2 r3 r4 r5 r7 : Option yV), (eOp 31 X Y = if eIn (w64 v) then some (w64 v) else none) → zG E (d + 1) xm_253 407 [some (1, 95), r1, r2, r3, r4, r5, some (4, v), r7] [] (yset mem 95 52 (mem 95 52 - 1)) Q := fun v r1 r2 r3 r4 r5 r7 hv => wk_pre hE (k := 31) (by decide) (by decide) h hl (fun w hw => hS w (List.mem_cons_of_mem _ (List.mem_cons_of_mem _ hw))) hQ hv
  simp only [ynok_30, ynok_31, w32c_0, w32c_1, w32c_2, w32c_3, w32c_4, w32c_5, w32c_6, w32c_7, w32c_8, w32c_9, w32c_10, w32c_11, w32c_12, w32c_13, w32c_14, w32c_m1, w32c_m2, w32c_118, Int.reduceAdd, Int.reduceSub, Int.reduceMul, yput_s, yput_n, znl_n, znl_0, znl_1, znl_4, ysum_n, ysum_0, ysum_1, ysum_4, true_and, and_true, Nat.reduceAdd, Nat.reduceLeDiff, true_implies, eq_self, true_or, or_true, or_false, false_or, not_true_eq_false, not_false_eq_true, false_implies, implies_true, yset_s, yset_o, yset_d, ne_eq, Nat.reduceEqDiff, Int.reduceToNat, Int.reduceEq, Int.reduceLE, Int.reduceLT, Classical.not_not, Nat.reduceLT, ↓zvk_s, ↓zvk_n, ↓s_253_0, ↓s_253_1, ↓s_253_4, ↓s_253_5, ↓s_253_8, ↓s_253_9, ↓s_253_10, ↓s_253_11n, ↓s_253_11i, ↓s_253_11p, ↓s_253_11l, ↓s_253_12, ↓s_253_13, ↓s_253_16, ↓s_253_19, ↓s_253_20, ↓s_253_23, ↓s_253_24, ↓s_253_27, ↓s_253_28, ↓s_253_29, ↓s_253_30, ↓s_253_31, ↓s_253_32, ↓s_253_35, ↓s_253_36, ↓s_253_39, ↓s_253_40, ↓s_253_43, ↓s_253_44, ↓s_253_45, ↓s_253_46, ↓s_253_47, ↓s_253_50, ↓s_253_51, ↓s_253_54, ↓s_253_55, ↓s_253_56, ↓s_253_57n, ↓s_253_57i, ↓s_253_57p, ↓s_253_57l, ↓s_253_59, ↓s_253_60a, ↓s_253_60b, ↓s_253_61, ↓s_253_64, ↓s_253_65, ↓s_253_66, ↓s_253_69, ↓s_253_70, ↓s_253_168, ↓s_253_170, ↓s_253_171, ↓s_253_172n, ↓s_253_172i, ↓s_253_172p, ↓s_253_172l, ↓s_253_174, ↓s_253_177, ↓s_253_179, ↓s_253_180, ↓s_253_181n, ↓s_253_181i, ↓s_253_181p, ↓s_253_181l, ↓s_253_183, ↓s_253_186, ↓s_253_188, ↓s_253_189, ↓s_253_190, ↓s_253_193, ↓s_253_194, ↓s_253_197, ↓s_253_200, ↓s_253_202, ↓s_253_205, ↓s_253_206, ↓s_253_207, ↓s_253_210, ↓s_253_211, ↓s_253_212, ↓s_253_214, ↓s_253_215, ↓s_253_216n, ↓s_253_216i, ↓s_253_216p, ↓s_253_216l, ↓s_253_218, ↓s_253_221, ↓s_253_222, ↓s_253_223, ↓s_253_224, ↓s_253_227, ↓s_253_228, ↓s_253_229, ↓s_253_231, ↓s_253_232, ↓s_253_233n, ↓s_253_233i, ↓s_253_233p, ↓s_253_233l, ↓s_253_235, ↓s_253_238, ↓s_253_240, ↓s_253_241, ↓s_253_242, ↓s_253_245, ↓s_253_246, ↓s_253_249, ↓s_253_250, ↓s_253_253n, ↓s_253_253i, ↓s_253_253p, ↓s_253_253l, ↓s_253_255, ↓s_253_258, ↓s_253_260, ↓s_253_261, ↓s_253_262, ↓s_253_265, ↓s_253_266, ↓s_253_269, ↓s_253_270, ↓s_253_273n, ↓s_253_273i, ↓s_253_273p, ↓s_253_273l, ↓s_253_275, ↓s_253_278, ↓s_253_280, ↓s_253_281, ↓s_253_282, ↓s_253_285, ↓s_253_286, ↓s_253_289, ↓s_253_290, ↓s_253_293n, ↓s_253_293i, ↓s_253_293p, ↓s_253_293l, ↓s_253_295, ↓s_253_298, ↓s_253_300, ↓s_253_301, ↓s_253_302, ↓s_253_305, ↓s_253_306, ↓s_253_309, ↓s_253_310, ↓s_253_313n, ↓s_253_313i, ↓s_253_313p, ↓s_253_313l, ↓s_253_315, ↓s_253_318, ↓s_253_320, ↓s_253_321, ↓s_253_322, ↓s_253_325, ↓s_253_326, ↓s_253_329, ↓s_253_330, ↓s_253_333n, ↓s_253_333i, ↓s_253_333p, ↓s_253_333l, ↓s_253_335, ↓s_253_338, ↓s_253_340, ↓s_253_341, ↓s_253_342, ↓s_253_345, ↓s_253_346, ↓s_253_349, ↓s_253_350, ↓s_253_353n, ↓s_253_353i, ↓s_253_353p, ↓s_253_353l, ↓s_253_355, ↓s_253_358, ↓s_253_360, ↓s_253_361, ↓s_253_362, ↓s_253_365, ↓s_253_366, ↓s_253_367, ↓s_253_368, ↓s_253_371, ↓s_253_372, ↓s_253_375, ↓s_253_376, ↓s_253_379n, ↓s_253_379i, ↓s_253_379p, ↓s_253_379l, ↓s_253_381, ↓s_253_384, ↓s_253_386, ↓s_253_387, ↓s_253_388, ↓s_253_391, ↓s_253_392, ↓s_253_393, ↓s_253_394, ↓s_253_397, ↓s_253_398, ↓s_253_401, ↓s_253_402, ↓s_253_405n, ↓s_253_405i, ↓s_253_405p, ↓s_253_405l, ↓g_253_407, ↓k_253_407, ↓s_253_408, ↓s_253_411, ↓s_253_412, ↓s_253_415, ↓s_253_416, ↓s_253_417, ↓s_253_419, ↓s_253_420, ↓s_253_422, ↓s_253_425, ↓s_253_426, ↓s_253_429, ↓s_253_431, ↓s_253_434, ↓s_253_435, ↓s_253_438, ↓s_253_439, ↓s_253_442, ↓s_253_443, w32c_260, ↓s_181_0, ↓s_181_1, ↓s_181_4, ↓s_181_5, ↓s_181_8, ↓s_181_9, zar_131, zia_131, zln_131, zit_131, zio_95, hs, yc_lt, yc_le, yc_gt, yc_ge, yc_eq, w64_0, i1, i2, vX, vY]

  have f1 : ∀ (r1 r2 r3 r4 r5 r7 : Option yV), (¬ X = 0 ∧ ¬ Y = 0) → zG E (d + 1) xm_253 407 [some (1, 95), r1, r2, r3, r4, r5, some (4, 1), r7] [] (yset mem 95 52 (mem 95 52 - 1)) Q := fun r1 r2 r3 r4 r5 r7 z => fin 1 r1 r2 r3 r4 r5 r7 (by rw [w64_1, if_pos (by decide)]; simp [eOp, eCm]; omega)
  have f0 : ∀ (r1 r2 r3 r4 r5 r7 : Option yV), ¬ (¬ X = 0 ∧ ¬ Y = 0) → zG E (d + 1) xm_253 407 [some (1, 95), r1, r2, r3, r4, r5, some (4, 0), r7] [] (yset mem 95 52 (mem 95 52 - 1)) Q := fun r1 r2 r3 r4 r5 r7 z => fin 0 r1 r2 r3 r4 r5 r7 (by rw [w64_0, if_pos (by decide)]; simp [eOp, eCm]; omega)
  refine ⟨⟨by omega, by omega⟩, ⟨by omega, by omega⟩, ?_⟩
  repeat' first | exact f1 _ _ _ _ _ _ (by omega) | exact f0 _ _ _ _ _ _ (by omega) | refine And.intro ?_ ?_ | intro _
theorem re_works_13 (hE : yEok E) {D : Nat} (hD : 2 ≤ D) {s Y X : Int} {rest : List Int} (hs : w32 s = 43) (h : rSt mem (Y :: X :: rest)) (hl : rest.length + 2 ≤ 64) (hS : ∀ w ∈ (Y :: X :: rest), eIn w) (hQ : rWk nm 13 (Y :: X :: rest) mem Q) : yCon E D xm_253 [(1, 95), (0, s)] mem Q := by
  obtain ⟨d, rfl⟩ := Nat.exists_eq_add_of_le' hD
  refine e_253 ?_
  refine zvc_ok hE 200 zc_253 _ _ _ _ _ _ _ xmo_253 ?_
  have h1 : w32 (mem 95 52) = ((rest.length + 2 : Nat) : Int) := h.1
  have e1 : w32 (mem 95 52 - 1) = ((rest.length + 1 : Nat) : Int) := by rw [w32_sb (by rw [w32c_1]; omega) (by rw [w32c_1]; omega), w32c_1]; omega
  have e2 : w32 (mem 95 52 - 2) = (rest.length : Int) := by rw [w32_sb (by rw [w32c_2]; omega) (by rw [w32c_2]; omega), w32c_2]; omega
  have i1 : (w32 (mem 95 52 - 1)).toNat = rest.length + 1 := by rw [e1]; exact Int.toNat_natCast _
  have i2 : (w32 (mem 95 52 - 2)).toNat = rest.length := by rw [e2]; exact Int.toNat_natCast _
  have vY : w64 (mem 131 (rest.length + 1)) = Y := h.2.1
  have vX : w64 (mem 131 rest.length) = X := h.2.2.1
  have iY : eIn Y := hS Y List.mem_cons_self
  have iX : eIn X := hS X (List.mem_cons_of_mem _ List.mem_cons_self)
  have fin : ∀ (v : Int) (r1 r2 r3 r4 r5 r7 : Option yV), (eOp 13 X Y = if eIn (w64 v) then some (w64 v) else none) → zG E (d + 1) xm_253 407 [some (1, 95), r1, r2, r3, r4, r5, some (4, v), r7] [] (yset mem 95 52 (mem 95 52 - 1)) Q := fun v r1 r2 r3 r4 r5 r7 hv => wk_pre hE (k := 13) (by decide) (by decide) h hl (fun w hw => hS w (List.mem_cons_of_mem _ (List.mem_cons_of_mem _ hw))) hQ hv
  simp only [ynok_30, ynok_31, w32c_0, w32c_1, w32c_2, w32c_3, w32c_4, w32c_5, w32c_6, w32c_7, w32c_8, w32c_9, w32c_10, w32c_11, w32c_12, w32c_13, w32c_14, w32c_m1, w32c_m2, w32c_118, Int.reduceAdd, Int.reduceSub, Int.reduceMul, yput_s, yput_n, znl_n, znl_0, znl_1, znl_4, ysum_n, ysum_0, ysum_1, ysum_4, true_and, and_true, Nat.reduceAdd, Nat.reduceLeDiff, true_implies, eq_self, true_or, or_true, or_false, false_or, not_true_eq_false, not_false_eq_true, false_implies, implies_true, yset_s, yset_o, yset_d, ne_eq, Nat.reduceEqDiff, Int.reduceToNat, Int.reduceEq, Int.reduceLE, Int.reduceLT, Classical.not_not, Nat.reduceLT, ↓zvk_s, ↓zvk_n, ↓s_253_0, ↓s_253_1, ↓s_253_4, ↓s_253_5, ↓s_253_8, ↓s_253_9, ↓s_253_10, ↓s_253_11n, ↓s_253_11i, ↓s_253_11p, ↓s_253_11l, ↓s_253_12, ↓s_253_13, ↓s_253_16, ↓s_253_19, ↓s_253_20, ↓s_253_23, ↓s_253_24, ↓s_253_27, ↓s_253_28, ↓s_253_29, ↓s_253_30, ↓s_253_31, ↓s_253_32, ↓s_253_35, ↓s_253_36, ↓s_253_39, ↓s_253_40, ↓s_253_43, ↓s_253_44, ↓s_253_45, ↓s_253_46, ↓s_253_47, ↓s_253_50, ↓s_253_51, ↓s_253_54, ↓s_253_55, ↓s_253_56, ↓s_253_57n, ↓s_253_57i, ↓s_253_57p, ↓s_253_57l, ↓s_253_59, ↓s_253_60a, ↓s_253_60b, ↓s_253_61, ↓s_253_64, ↓s_253_65, ↓s_253_66, ↓s_253_69, ↓s_253_70, ↓s_253_168, ↓s_253_170, ↓s_253_171, ↓s_253_172n, ↓s_253_172i, ↓s_253_172p, ↓s_253_172l, ↓s_253_174, ↓s_253_177, ↓s_253_179, ↓s_253_180, ↓s_253_181n, ↓s_253_181i, ↓s_253_181p, ↓s_253_181l, ↓s_253_183, ↓s_253_186, ↓s_253_188, ↓s_253_189, ↓s_253_190, ↓s_253_193, ↓s_253_194, ↓s_253_197, ↓s_253_200, ↓s_253_202, ↓s_253_205, ↓s_253_206, ↓s_253_207, ↓s_253_210, ↓s_253_211, ↓s_253_212, ↓s_253_214, ↓s_253_215, ↓s_253_216n, ↓s_253_216i, ↓s_253_216p, ↓s_253_216l, ↓s_253_218, ↓s_253_221, ↓s_253_222, ↓s_253_223, ↓s_253_224, ↓s_253_227, ↓s_253_228, ↓s_253_229, ↓s_253_231, ↓s_253_232, ↓s_253_233n, ↓s_253_233i, ↓s_253_233p, ↓s_253_233l, ↓s_253_235, ↓s_253_238, ↓s_253_240, ↓s_253_241, ↓s_253_242, ↓s_253_245, ↓s_253_246, ↓s_253_249, ↓s_253_250, ↓s_253_253n, ↓s_253_253i, ↓s_253_253p, ↓s_253_253l, ↓s_253_255, ↓s_253_258, ↓s_253_260, ↓s_253_261, ↓s_253_262, ↓s_253_265, ↓s_253_266, ↓s_253_269, ↓s_253_270, ↓s_253_273n, ↓s_253_273i, ↓s_253_273p, ↓s_253_273l, ↓s_253_275, ↓s_253_278, ↓s_253_280, ↓s_253_281, ↓s_253_282, ↓s_253_285, ↓s_253_286, ↓s_253_289, ↓s_253_290, ↓s_253_293n, ↓s_253_293i, ↓s_253_293p, ↓s_253_293l, ↓s_253_295, ↓s_253_298, ↓s_253_300, ↓s_253_301, ↓s_253_302, ↓s_253_305, ↓s_253_306, ↓s_253_309, ↓s_253_310, ↓s_253_313n, ↓s_253_313i, ↓s_253_313p, ↓s_253_313l, ↓s_253_315, ↓s_253_318, ↓s_253_320, ↓s_253_321, ↓s_253_322, ↓s_253_325, ↓s_253_326, ↓s_253_329, ↓s_253_330, ↓s_253_333n, ↓s_253_333i, ↓s_253_333p, ↓s_253_333l, ↓s_253_335, ↓s_253_338, ↓s_253_340, ↓s_253_341, ↓s_253_342, ↓s_253_345, ↓s_253_346, ↓s_253_349, ↓s_253_350, ↓s_253_353n, ↓s_253_353i, ↓s_253_353p, ↓s_253_353l, ↓s_253_355, ↓s_253_358, ↓s_253_360, ↓s_253_361, ↓s_253_362, ↓s_253_365, ↓s_253_366, ↓s_253_367, ↓s_253_368, ↓s_253_371, ↓s_253_372, ↓s_253_375, ↓s_253_376, ↓s_253_379n, ↓s_253_379i, ↓s_253_379p, ↓s_253_379l, ↓s_253_381, ↓s_253_384, ↓s_253_386, ↓s_253_387, ↓s_253_388, ↓s_253_391, ↓s_253_392, ↓s_253_393, ↓s_253_394, ↓s_253_397, ↓s_253_398, ↓s_253_401, ↓s_253_402, ↓s_253_405n, ↓s_253_405i, ↓s_253_405p, ↓s_253_405l, ↓g_253_407, ↓k_253_407, ↓s_253_408, ↓s_253_411, ↓s_253_412, ↓s_253_415, ↓s_253_416, ↓s_253_417, ↓s_253_419, ↓s_253_420, ↓s_253_422, ↓s_253_425, ↓s_253_426, ↓s_253_429, ↓s_253_431, ↓s_253_434, ↓s_253_435, ↓s_253_438, ↓s_253_439, ↓s_253_442, ↓s_253_443, w32c_260, ↓s_181_0, ↓s_181_1, ↓s_181_4, ↓s_181_5, ↓s_181_8, ↓s_181_9, zar_131, zia_131, zln_131, zit_131, zio_95, hs, yc_lt, yc_le, yc_gt, yc_ge, yc_eq, w64_0, i1, i2, vX, vY]

  exact ⟨⟨by omega, by omega⟩, ⟨by omega, by omega⟩, fin _ _ _ _ _ _ _ (by rw [w64_add, vX, vY, w64_of (by unfold eIn at iX iY; omega) (by unfold eIn at iX iY; omega)]; rfl)⟩
theorem re_works_14 (hE : yEok E) {D : Nat} (hD : 2 ≤ D) {s Y X : Int} {rest : List Int} (hs : w32 s = 45) (h : rSt mem (Y :: X :: rest)) (hl : rest.length + 2 ≤ 64) (hS : ∀ w ∈ (Y :: X :: rest), eIn w) (hQ : rWk nm 14 (Y :: X :: rest) mem Q) : yCon E D xm_253 [(1, 95), (0, s)] mem Q := by
  obtain ⟨d, rfl⟩ := Nat.exists_eq_add_of_le' hD
  refine e_253 ?_
  refine zvc_ok hE 200 zc_253 _ _ _ _ _ _ _ xmo_253 ?_
  have h1 : w32 (mem 95 52) = ((rest.length + 2 : Nat) : Int) := h.1
  have e1 : w32 (mem 95 52 - 1) = ((rest.length + 1 : Nat) : Int) := by rw [w32_sb (by rw [w32c_1]; omega) (by rw [w32c_1]; omega), w32c_1]; omega
  have e2 : w32 (mem 95 52 - 2) = (rest.length : Int) := by rw [w32_sb (by rw [w32c_2]; omega) (by rw [w32c_2]; omega), w32c_2]; omega
  have i1 : (w32 (mem 95 52 - 1)).toNat = rest.length + 1 := by rw [e1]; exact Int.toNat_natCast _
  have i2 : (w32 (mem 95 52 - 2)).toNat = rest.length := by rw [e2]; exact Int.toNat_natCast _
  have vY : w64 (mem 131 (rest.length + 1)) = Y := h.2.1
  have vX : w64 (mem 131 rest.length) = X := h.2.2.1
  have iY : eIn Y := hS Y List.mem_cons_self
  have iX : eIn X := hS X (List.mem_cons_of_mem _ List.mem_cons_self)
  have fin : ∀ (v : Int) (r1 r2 r3 r4 r5 r7 : Option yV), (eOp 14 X Y = if eIn (w64 v) then some (w64 v) else none) → zG E (d + 1) xm_253 407 [some (1, 95), r1, r2, r3, r4, r5, some (4, v), r7] [] (yset mem 95 52 (mem 95 52 - 1)) Q := fun v r1 r2 r3 r4 r5 r7 hv => wk_pre hE (k := 14) (by decide) (by decide) h hl (fun w hw => hS w (List.mem_cons_of_mem _ (List.mem_cons_of_mem _ hw))) hQ hv
  simp only [ynok_30, ynok_31, w32c_0, w32c_1, w32c_2, w32c_3, w32c_4, w32c_5, w32c_6, w32c_7, w32c_8, w32c_9, w32c_10, w32c_11, w32c_12, w32c_13, w32c_14, w32c_m1, w32c_m2, w32c_118, Int.reduceAdd, Int.reduceSub, Int.reduceMul, yput_s, yput_n, znl_n, znl_0, znl_1, znl_4, ysum_n, ysum_0, ysum_1, ysum_4, true_and, and_true, Nat.reduceAdd, Nat.reduceLeDiff, true_implies, eq_self, true_or, or_true, or_false, false_or, not_true_eq_false, not_false_eq_true, false_implies, implies_true, yset_s, yset_o, yset_d, ne_eq, Nat.reduceEqDiff, Int.reduceToNat, Int.reduceEq, Int.reduceLE, Int.reduceLT, Classical.not_not, Nat.reduceLT, ↓zvk_s, ↓zvk_n, ↓s_253_0, ↓s_253_1, ↓s_253_4, ↓s_253_5, ↓s_253_8, ↓s_253_9, ↓s_253_10, ↓s_253_11n, ↓s_253_11i, ↓s_253_11p, ↓s_253_11l, ↓s_253_12, ↓s_253_13, ↓s_253_16, ↓s_253_19, ↓s_253_20, ↓s_253_23, ↓s_253_24, ↓s_253_27, ↓s_253_28, ↓s_253_29, ↓s_253_30, ↓s_253_31, ↓s_253_32, ↓s_253_35, ↓s_253_36, ↓s_253_39, ↓s_253_40, ↓s_253_43, ↓s_253_44, ↓s_253_45, ↓s_253_46, ↓s_253_47, ↓s_253_50, ↓s_253_51, ↓s_253_54, ↓s_253_55, ↓s_253_56, ↓s_253_57n, ↓s_253_57i, ↓s_253_57p, ↓s_253_57l, ↓s_253_59, ↓s_253_60a, ↓s_253_60b, ↓s_253_61, ↓s_253_64, ↓s_253_65, ↓s_253_66, ↓s_253_69, ↓s_253_70, ↓s_253_168, ↓s_253_170, ↓s_253_171, ↓s_253_172n, ↓s_253_172i, ↓s_253_172p, ↓s_253_172l, ↓s_253_174, ↓s_253_177, ↓s_253_179, ↓s_253_180, ↓s_253_181n, ↓s_253_181i, ↓s_253_181p, ↓s_253_181l, ↓s_253_183, ↓s_253_186, ↓s_253_188, ↓s_253_189, ↓s_253_190, ↓s_253_193, ↓s_253_194, ↓s_253_197, ↓s_253_200, ↓s_253_202, ↓s_253_205, ↓s_253_206, ↓s_253_207, ↓s_253_210, ↓s_253_211, ↓s_253_212, ↓s_253_214, ↓s_253_215, ↓s_253_216n, ↓s_253_216i, ↓s_253_216p, ↓s_253_216l, ↓s_253_218, ↓s_253_221, ↓s_253_222, ↓s_253_223, ↓s_253_224, ↓s_253_227, ↓s_253_228, ↓s_253_229, ↓s_253_231, ↓s_253_232, ↓s_253_233n, ↓s_253_233i, ↓s_253_233p, ↓s_253_233l, ↓s_253_235, ↓s_253_238, ↓s_253_240, ↓s_253_241, ↓s_253_242, ↓s_253_245, ↓s_253_246, ↓s_253_249, ↓s_253_250, ↓s_253_253n, ↓s_253_253i, ↓s_253_253p, ↓s_253_253l, ↓s_253_255, ↓s_253_258, ↓s_253_260, ↓s_253_261, ↓s_253_262, ↓s_253_265, ↓s_253_266, ↓s_253_269, ↓s_253_270, ↓s_253_273n, ↓s_253_273i, ↓s_253_273p, ↓s_253_273l, ↓s_253_275, ↓s_253_278, ↓s_253_280, ↓s_253_281, ↓s_253_282, ↓s_253_285, ↓s_253_286, ↓s_253_289, ↓s_253_290, ↓s_253_293n, ↓s_253_293i, ↓s_253_293p, ↓s_253_293l, ↓s_253_295, ↓s_253_298, ↓s_253_300, ↓s_253_301, ↓s_253_302, ↓s_253_305, ↓s_253_306, ↓s_253_309, ↓s_253_310, ↓s_253_313n, ↓s_253_313i, ↓s_253_313p, ↓s_253_313l, ↓s_253_315, ↓s_253_318, ↓s_253_320, ↓s_253_321, ↓s_253_322, ↓s_253_325, ↓s_253_326, ↓s_253_329, ↓s_253_330, ↓s_253_333n, ↓s_253_333i, ↓s_253_333p, ↓s_253_333l, ↓s_253_335, ↓s_253_338, ↓s_253_340, ↓s_253_341, ↓s_253_342, ↓s_253_345, ↓s_253_346, ↓s_253_349, ↓s_253_350, ↓s_253_353n, ↓s_253_353i, ↓s_253_353p, ↓s_253_353l, ↓s_253_355, ↓s_253_358, ↓s_253_360, ↓s_253_361, ↓s_253_362, ↓s_253_365, ↓s_253_366, ↓s_253_367, ↓s_253_368, ↓s_253_371, ↓s_253_372, ↓s_253_375, ↓s_253_376, ↓s_253_379n, ↓s_253_379i, ↓s_253_379p, ↓s_253_379l, ↓s_253_381, ↓s_253_384, ↓s_253_386, ↓s_253_387, ↓s_253_388, ↓s_253_391, ↓s_253_392, ↓s_253_393, ↓s_253_394, ↓s_253_397, ↓s_253_398, ↓s_253_401, ↓s_253_402, ↓s_253_405n, ↓s_253_405i, ↓s_253_405p, ↓s_253_405l, ↓g_253_407, ↓k_253_407, ↓s_253_408, ↓s_253_411, ↓s_253_412, ↓s_253_415, ↓s_253_416, ↓s_253_417, ↓s_253_419, ↓s_253_420, ↓s_253_422, ↓s_253_425, ↓s_253_426, ↓s_253_429, ↓s_253_431, ↓s_253_434, ↓s_253_435, ↓s_253_438, ↓s_253_439, ↓s_253_442, ↓s_253_443, w32c_260, ↓s_181_0, ↓s_181_1, ↓s_181_4, ↓s_181_5, ↓s_181_8, ↓s_181_9, zar_131, zia_131, zln_131, zit_131, zio_95, hs, yc_lt, yc_le, yc_gt, yc_ge, yc_eq, w64_0, i1, i2, vX, vY]

  exact ⟨⟨by omega, by omega⟩, ⟨by omega, by omega⟩, fin _ _ _ _ _ _ _ (by rw [w64_sub, vX, vY, w64_of (by unfold eIn at iX iY; omega) (by unfold eIn at iX iY; omega)]; rfl)⟩
theorem re_works_15 (hE : yEok E) {D : Nat} (hD : 2 ≤ D) {s Y X : Int} {rest : List Int} (hs : w32 s = 42) (h : rSt mem (Y :: X :: rest)) (hl : rest.length + 2 ≤ 64) (hS : ∀ w ∈ (Y :: X :: rest), eIn w) (hQ : rWk nm 15 (Y :: X :: rest) mem Q) : yCon E D xm_253 [(1, 95), (0, s)] mem Q := by
  obtain ⟨d, rfl⟩ := Nat.exists_eq_add_of_le' hD
  refine e_253 ?_
  refine zvc_ok hE 200 zc_253 _ _ _ _ _ _ _ xmo_253 ?_
  have h1 : w32 (mem 95 52) = ((rest.length + 2 : Nat) : Int) := h.1
  have e1 : w32 (mem 95 52 - 1) = ((rest.length + 1 : Nat) : Int) := by rw [w32_sb (by rw [w32c_1]; omega) (by rw [w32c_1]; omega), w32c_1]; omega
  have e2 : w32 (mem 95 52 - 2) = (rest.length : Int) := by rw [w32_sb (by rw [w32c_2]; omega) (by rw [w32c_2]; omega), w32c_2]; omega
  have i1 : (w32 (mem 95 52 - 1)).toNat = rest.length + 1 := by rw [e1]; exact Int.toNat_natCast _
  have i2 : (w32 (mem 95 52 - 2)).toNat = rest.length := by rw [e2]; exact Int.toNat_natCast _
  have vY : w64 (mem 131 (rest.length + 1)) = Y := h.2.1
  have vX : w64 (mem 131 rest.length) = X := h.2.2.1
  have iY : eIn Y := hS Y List.mem_cons_self
  have iX : eIn X := hS X (List.mem_cons_of_mem _ List.mem_cons_self)
  have fin : ∀ (v : Int) (r1 r2 r3 r4 r5 r7 : Option yV), (eOp 15 X Y = if eIn (w64 v) then some (w64 v) else none) → zG E (d + 1) xm_253 407 [some (1, 95), r1, r2, r3, r4, r5, some (4, v), r7] [] (yset mem 95 52 (mem 95 52 - 1)) Q := fun v r1 r2 r3 r4 r5 r7 hv => wk_pre hE (k := 15) (by decide) (by decide) h hl (fun w hw => hS w (List.mem_cons_of_mem _ (List.mem_cons_of_mem _ hw))) hQ hv
  simp only [ynok_30, ynok_31, w32c_0, w32c_1, w32c_2, w32c_3, w32c_4, w32c_5, w32c_6, w32c_7, w32c_8, w32c_9, w32c_10, w32c_11, w32c_12, w32c_13, w32c_14, w32c_m1, w32c_m2, w32c_118, Int.reduceAdd, Int.reduceSub, Int.reduceMul, yput_s, yput_n, znl_n, znl_0, znl_1, znl_4, ysum_n, ysum_0, ysum_1, ysum_4, true_and, and_true, Nat.reduceAdd, Nat.reduceLeDiff, true_implies, eq_self, true_or, or_true, or_false, false_or, not_true_eq_false, not_false_eq_true, false_implies, implies_true, yset_s, yset_o, yset_d, ne_eq, Nat.reduceEqDiff, Int.reduceToNat, Int.reduceEq, Int.reduceLE, Int.reduceLT, Classical.not_not, Nat.reduceLT, ↓zvk_s, ↓zvk_n, ↓s_253_0, ↓s_253_1, ↓s_253_4, ↓s_253_5, ↓s_253_8, ↓s_253_9, ↓s_253_10, ↓s_253_11n, ↓s_253_11i, ↓s_253_11p, ↓s_253_11l, ↓s_253_12, ↓s_253_13, ↓s_253_16, ↓s_253_19, ↓s_253_20, ↓s_253_23, ↓s_253_24, ↓s_253_27, ↓s_253_28, ↓s_253_29, ↓s_253_30, ↓s_253_31, ↓s_253_32, ↓s_253_35, ↓s_253_36, ↓s_253_39, ↓s_253_40, ↓s_253_43, ↓s_253_44, ↓s_253_45, ↓s_253_46, ↓s_253_47, ↓s_253_50, ↓s_253_51, ↓s_253_54, ↓s_253_55, ↓s_253_56, ↓s_253_57n, ↓s_253_57i, ↓s_253_57p, ↓s_253_57l, ↓s_253_59, ↓s_253_60a, ↓s_253_60b, ↓s_253_61, ↓s_253_64, ↓s_253_65, ↓s_253_66, ↓s_253_69, ↓s_253_70, ↓s_253_168, ↓s_253_170, ↓s_253_171, ↓s_253_172n, ↓s_253_172i, ↓s_253_172p, ↓s_253_172l, ↓s_253_174, ↓s_253_177, ↓s_253_179, ↓s_253_180, ↓s_253_181n, ↓s_253_181i, ↓s_253_181p, ↓s_253_181l, ↓s_253_183, ↓s_253_186, ↓s_253_188, ↓s_253_189, ↓s_253_190, ↓s_253_193, ↓s_253_194, ↓s_253_197, ↓s_253_200, ↓s_253_202, ↓s_253_205, ↓s_253_206, ↓s_253_207, ↓s_253_210, ↓s_253_211, ↓s_253_212, ↓s_253_214, ↓s_253_215, ↓s_253_216n, ↓s_253_216i, ↓s_253_216p, ↓s_253_216l, ↓s_253_218, ↓s_253_221, ↓s_253_222, ↓s_253_223, ↓s_253_224, ↓s_253_227, ↓s_253_228, ↓s_253_229, ↓s_253_231, ↓s_253_232, ↓s_253_233n, ↓s_253_233i, ↓s_253_233p, ↓s_253_233l, ↓s_253_235, ↓s_253_238, ↓s_253_240, ↓s_253_241, ↓s_253_242, ↓s_253_245, ↓s_253_246, ↓s_253_249, ↓s_253_250, ↓s_253_253n, ↓s_253_253i, ↓s_253_253p, ↓s_253_253l, ↓s_253_255, ↓s_253_258, ↓s_253_260, ↓s_253_261, ↓s_253_262, ↓s_253_265, ↓s_253_266, ↓s_253_269, ↓s_253_270, ↓s_253_273n, ↓s_253_273i, ↓s_253_273p, ↓s_253_273l, ↓s_253_275, ↓s_253_278, ↓s_253_280, ↓s_253_281, ↓s_253_282, ↓s_253_285, ↓s_253_286, ↓s_253_289, ↓s_253_290, ↓s_253_293n, ↓s_253_293i, ↓s_253_293p, ↓s_253_293l, ↓s_253_295, ↓s_253_298, ↓s_253_300, ↓s_253_301, ↓s_253_302, ↓s_253_305, ↓s_253_306, ↓s_253_309, ↓s_253_310, ↓s_253_313n, ↓s_253_313i, ↓s_253_313p, ↓s_253_313l, ↓s_253_315, ↓s_253_318, ↓s_253_320, ↓s_253_321, ↓s_253_322, ↓s_253_325, ↓s_253_326, ↓s_253_329, ↓s_253_330, ↓s_253_333n, ↓s_253_333i, ↓s_253_333p, ↓s_253_333l, ↓s_253_335, ↓s_253_338, ↓s_253_340, ↓s_253_341, ↓s_253_342, ↓s_253_345, ↓s_253_346, ↓s_253_349, ↓s_253_350, ↓s_253_353n, ↓s_253_353i, ↓s_253_353p, ↓s_253_353l, ↓s_253_355, ↓s_253_358, ↓s_253_360, ↓s_253_361, ↓s_253_362, ↓s_253_365, ↓s_253_366, ↓s_253_367, ↓s_253_368, ↓s_253_371, ↓s_253_372, ↓s_253_375, ↓s_253_376, ↓s_253_379n, ↓s_253_379i, ↓s_253_379p, ↓s_253_379l, ↓s_253_381, ↓s_253_384, ↓s_253_386, ↓s_253_387, ↓s_253_388, ↓s_253_391, ↓s_253_392, ↓s_253_393, ↓s_253_394, ↓s_253_397, ↓s_253_398, ↓s_253_401, ↓s_253_402, ↓s_253_405n, ↓s_253_405i, ↓s_253_405p, ↓s_253_405l, ↓g_253_407, ↓k_253_407, ↓s_253_408, ↓s_253_411, ↓s_253_412, ↓s_253_415, ↓s_253_416, ↓s_253_417, ↓s_253_419, ↓s_253_420, ↓s_253_422, ↓s_253_425, ↓s_253_426, ↓s_253_429, ↓s_253_431, ↓s_253_434, ↓s_253_435, ↓s_253_438, ↓s_253_439, ↓s_253_442, ↓s_253_443, w32c_260, ↓s_181_0, ↓s_181_1, ↓s_181_4, ↓s_181_5, ↓s_181_8, ↓s_181_9, zar_131, zia_131, zln_131, zit_131, zio_95, hs, yc_lt, yc_le, yc_gt, yc_ge, yc_eq, w64_0, i1, i2, vX, vY]
  have ax := zabl_w (x := mem 131 rest.length) (by rw [vX]; exact iX)
  have ay := zabl_w (x := mem 131 (rest.length + 1)) (by rw [vY]; exact iY)
  rw [vX] at ax
  rw [vY] at ay
  have aL : w64 (ylbin 9 1000000000000 (zabl (mem 131 rest.length))) = 1000000000000 / (X.natAbs : Int) := by
    rw [(eDv (by rw [w64_L]; decide)).1, w64_L, ax]
    exact Int.tdiv_eq_ediv_of_nonneg (by decide)
  have e15 : eOp 15 X Y = if ¬ X = 0 ∧ 1000000000000 / (X.natAbs : Int) < (Y.natAbs : Int) then none else some (X * Y) := rfl
  have ok : eIn (X * Y) → w64 (mem 131 rest.length * mem 131 (rest.length + 1)) = X * Y := fun z => by rw [w64_mul, vX, vY, w64_of (by unfold eIn at z; omega) (by unfold eIn at z; omega)]
  rw [aL, ay, ax]
  refine ⟨⟨by omega, by omega⟩, ⟨by omega, by omega⟩, fun a => ?_, fun a => ⟨by omega, fun b => ?_, fun b => hQ 0 _ rzF_52 (Or.inl ⟨?_, w32c_0⟩)⟩⟩
  · have z : eIn (X * Y) := by rw [a, Int.zero_mul]; exact eIn_0
    exact fin _ _ _ _ _ _ _ (by rw [ok z, if_pos z, e15, if_neg (fun q => q.1 a)])
  · have z : eIn (X * Y) := eMul a b
    exact fin _ _ _ _ _ _ _ (by rw [ok z, if_pos z, e15, if_neg (fun q => absurd q.2 (by omega))])
  · rw [eAp_bin (by decide) (by decide), e15, if_pos ⟨a, by omega⟩]
theorem re_works_16 (hE : yEok E) {D : Nat} (hD : 2 ≤ D) {s Y X : Int} {rest : List Int} (hs : w32 s = 47) (h : rSt mem (Y :: X :: rest)) (hl : rest.length + 2 ≤ 64) (hS : ∀ w ∈ (Y :: X :: rest), eIn w) (hQ : rWk nm 16 (Y :: X :: rest) mem Q) : yCon E D xm_253 [(1, 95), (0, s)] mem Q := by
  obtain ⟨d, rfl⟩ := Nat.exists_eq_add_of_le' hD
  refine e_253 ?_
  refine zvc_ok hE 200 zc_253 _ _ _ _ _ _ _ xmo_253 ?_
  have h1 : w32 (mem 95 52) = ((rest.length + 2 : Nat) : Int) := h.1
  have e1 : w32 (mem 95 52 - 1) = ((rest.length + 1 : Nat) : Int) := by rw [w32_sb (by rw [w32c_1]; omega) (by rw [w32c_1]; omega), w32c_1]; omega
  have e2 : w32 (mem 95 52 - 2) = (rest.length : Int) := by rw [w32_sb (by rw [w32c_2]; omega) (by rw [w32c_2]; omega), w32c_2]; omega
  have i1 : (w32 (mem 95 52 - 1)).toNat = rest.length + 1 := by rw [e1]; exact Int.toNat_natCast _
  have i2 : (w32 (mem 95 52 - 2)).toNat = rest.length := by rw [e2]; exact Int.toNat_natCast _
  have vY : w64 (mem 131 (rest.length + 1)) = Y := h.2.1
  have vX : w64 (mem 131 rest.length) = X := h.2.2.1
  have iY : eIn Y := hS Y List.mem_cons_self
  have iX : eIn X := hS X (List.mem_cons_of_mem _ List.mem_cons_self)
  have fin : ∀ (v : Int) (r1 r2 r3 r4 r5 r7 : Option yV), (eOp 16 X Y = if eIn (w64 v) then some (w64 v) else none) → zG E (d + 1) xm_253 407 [some (1, 95), r1, r2, r3, r4, r5, some (4, v), r7] [] (yset mem 95 52 (mem 95 52 - 1)) Q := fun v r1 r2 r3 r4 r5 r7 hv => wk_pre hE (k := 16) (by decide) (by decide) h hl (fun w hw => hS w (List.mem_cons_of_mem _ (List.mem_cons_of_mem _ hw))) hQ hv
  simp only [ynok_30, ynok_31, w32c_0, w32c_1, w32c_2, w32c_3, w32c_4, w32c_5, w32c_6, w32c_7, w32c_8, w32c_9, w32c_10, w32c_11, w32c_12, w32c_13, w32c_14, w32c_m1, w32c_m2, w32c_118, Int.reduceAdd, Int.reduceSub, Int.reduceMul, yput_s, yput_n, znl_n, znl_0, znl_1, znl_4, ysum_n, ysum_0, ysum_1, ysum_4, true_and, and_true, Nat.reduceAdd, Nat.reduceLeDiff, true_implies, eq_self, true_or, or_true, or_false, false_or, not_true_eq_false, not_false_eq_true, false_implies, implies_true, yset_s, yset_o, yset_d, ne_eq, Nat.reduceEqDiff, Int.reduceToNat, Int.reduceEq, Int.reduceLE, Int.reduceLT, Classical.not_not, Nat.reduceLT, ↓zvk_s, ↓zvk_n, ↓s_253_0, ↓s_253_1, ↓s_253_4, ↓s_253_5, ↓s_253_8, ↓s_253_9, ↓s_253_10, ↓s_253_11n, ↓s_253_11i, ↓s_253_11p, ↓s_253_11l, ↓s_253_12, ↓s_253_13, ↓s_253_16, ↓s_253_19, ↓s_253_20, ↓s_253_23, ↓s_253_24, ↓s_253_27, ↓s_253_28, ↓s_253_29, ↓s_253_30, ↓s_253_31, ↓s_253_32, ↓s_253_35, ↓s_253_36, ↓s_253_39, ↓s_253_40, ↓s_253_43, ↓s_253_44, ↓s_253_45, ↓s_253_46, ↓s_253_47, ↓s_253_50, ↓s_253_51, ↓s_253_54, ↓s_253_55, ↓s_253_56, ↓s_253_57n, ↓s_253_57i, ↓s_253_57p, ↓s_253_57l, ↓s_253_59, ↓s_253_60a, ↓s_253_60b, ↓s_253_61, ↓s_253_64, ↓s_253_65, ↓s_253_66, ↓s_253_69, ↓s_253_70, ↓s_253_168, ↓s_253_170, ↓s_253_171, ↓s_253_172n, ↓s_253_172i, ↓s_253_172p, ↓s_253_172l, ↓s_253_174, ↓s_253_177, ↓s_253_179, ↓s_253_180, ↓s_253_181n, ↓s_253_181i, ↓s_253_181p, ↓s_253_181l, ↓s_253_183, ↓s_253_186, ↓s_253_188, ↓s_253_189, ↓s_253_190, ↓s_253_193, ↓s_253_194, ↓s_253_197, ↓s_253_200, ↓s_253_202, ↓s_253_205, ↓s_253_206, ↓s_253_207, ↓s_253_210, ↓s_253_211, ↓s_253_212, ↓s_253_214, ↓s_253_215, ↓s_253_216n, ↓s_253_216i, ↓s_253_216p, ↓s_253_216l, ↓s_253_218, ↓s_253_221, ↓s_253_222, ↓s_253_223, ↓s_253_224, ↓s_253_227, ↓s_253_228, ↓s_253_229, ↓s_253_231, ↓s_253_232, ↓s_253_233n, ↓s_253_233i, ↓s_253_233p, ↓s_253_233l, ↓s_253_235, ↓s_253_238, ↓s_253_240, ↓s_253_241, ↓s_253_242, ↓s_253_245, ↓s_253_246, ↓s_253_249, ↓s_253_250, ↓s_253_253n, ↓s_253_253i, ↓s_253_253p, ↓s_253_253l, ↓s_253_255, ↓s_253_258, ↓s_253_260, ↓s_253_261, ↓s_253_262, ↓s_253_265, ↓s_253_266, ↓s_253_269, ↓s_253_270, ↓s_253_273n, ↓s_253_273i, ↓s_253_273p, ↓s_253_273l, ↓s_253_275, ↓s_253_278, ↓s_253_280, ↓s_253_281, ↓s_253_282, ↓s_253_285, ↓s_253_286, ↓s_253_289, ↓s_253_290, ↓s_253_293n, ↓s_253_293i, ↓s_253_293p, ↓s_253_293l, ↓s_253_295, ↓s_253_298, ↓s_253_300, ↓s_253_301, ↓s_253_302, ↓s_253_305, ↓s_253_306, ↓s_253_309, ↓s_253_310, ↓s_253_313n, ↓s_253_313i, ↓s_253_313p, ↓s_253_313l, ↓s_253_315, ↓s_253_318, ↓s_253_320, ↓s_253_321, ↓s_253_322, ↓s_253_325, ↓s_253_326, ↓s_253_329, ↓s_253_330, ↓s_253_333n, ↓s_253_333i, ↓s_253_333p, ↓s_253_333l, ↓s_253_335, ↓s_253_338, ↓s_253_340, ↓s_253_341, ↓s_253_342, ↓s_253_345, ↓s_253_346, ↓s_253_349, ↓s_253_350, ↓s_253_353n, ↓s_253_353i, ↓s_253_353p, ↓s_253_353l, ↓s_253_355, ↓s_253_358, ↓s_253_360, ↓s_253_361, ↓s_253_362, ↓s_253_365, ↓s_253_366, ↓s_253_367, ↓s_253_368, ↓s_253_371, ↓s_253_372, ↓s_253_375, ↓s_253_376, ↓s_253_379n, ↓s_253_379i, ↓s_253_379p, ↓s_253_379l, ↓s_253_381, ↓s_253_384, ↓s_253_386, ↓s_253_387, ↓s_253_388, ↓s_253_391, ↓s_253_392, ↓s_253_393, ↓s_253_394, ↓s_253_397, ↓s_253_398, ↓s_253_401, ↓s_253_402, ↓s_253_405n, ↓s_253_405i, ↓s_253_405p, ↓s_253_405l, ↓g_253_407, ↓k_253_407, ↓s_253_408, ↓s_253_411, ↓s_253_412, ↓s_253_415, ↓s_253_416, ↓s_253_417, ↓s_253_419, ↓s_253_420, ↓s_253_422, ↓s_253_425, ↓s_253_426, ↓s_253_429, ↓s_253_431, ↓s_253_434, ↓s_253_435, ↓s_253_438, ↓s_253_439, ↓s_253_442, ↓s_253_443, w32c_260, ↓s_181_0, ↓s_181_1, ↓s_181_4, ↓s_181_5, ↓s_181_8, ↓s_181_9, zar_131, zia_131, zln_131, zit_131, zio_95, hs, yc_lt, yc_le, yc_gt, yc_ge, yc_eq, w64_0, i1, i2, vX, vY]
  obtain ⟨d1, d2⟩ := eDv (x := mem 131 rest.length) (y := mem 131 (rest.length + 1)) (by rw [vX]; exact iX)
  rw [vX, vY] at d1 d2
  have e16 : eOp 16 X Y = if Y = 0 then none else some (X.tdiv Y) := rfl
  refine ⟨⟨by omega, by omega⟩, ⟨by omega, by omega⟩, fun a => ⟨a, fin _ _ _ _ _ _ _ (by rw [d1, if_pos d2, e16, if_neg a])⟩, fun a => hQ 0 _ rzF_52 (Or.inl ⟨?_, w32c_0⟩)⟩
  rw [eAp_bin (by decide) (by decide), e16, if_pos a]
theorem re_works_32 (hE : yEok E) {D : Nat} (hD : 2 ≤ D) {s Y : Int} {rest : List Int} (hs : w32 s = 260) (h : rSt mem (Y :: rest)) (hl : rest.length + 1 ≤ 64) (hS : ∀ w ∈ (Y :: rest), eIn w) (hQ : rWk nm 32 (Y :: rest) mem Q) : yCon E D xm_253 [(1, 95), (0, s)] mem Q := by
  obtain ⟨d, rfl⟩ := Nat.exists_eq_add_of_le' hD
  refine e_253 ?_
  refine zvc_ok hE 200 zc_253 _ _ _ _ _ _ _ xmo_253 ?_
  have h1 : w32 (mem 95 52) = ((rest.length + 1 : Nat) : Int) := h.1
  have e1 : w32 (mem 95 52 - 1) = (rest.length : Int) := by rw [w32_sb (by rw [w32c_1]; omega) (by rw [w32c_1]; omega), w32c_1]; omega
  have i1 : (w32 (mem 95 52 - 1)).toNat = rest.length := by rw [e1]; exact Int.toNat_natCast _
  have vY : w64 (mem 131 rest.length) = Y := h.2.1
  have ap : eAp nm (32, 0) (Y :: rest) = some ((if Y = 0 then 1 else 0) :: rest) := rfl
  have fin : ∀ v, (w64 v = if Y = 0 then 1 else 0) → Q (some (0, 1)) (yset mem 131 rest.length v) := fun v hv => hQ 1 _ rzF_131 (Or.inr ⟨_, ap, w32c_1, ⟨by rw [yset_o (by decide), h1]; rfl, by rw [yset_s]; exact hv, rSk_fr h.2.2 (fun j hj => yset_d (by omega))⟩, fun w hw => by
    rcases List.mem_cons.mp hw with rfl | hw
    · split <;> decide
    · exact hS w (List.mem_cons_of_mem _ hw)⟩)
  simp only [ynok_30, ynok_31, w32c_0, w32c_1, w32c_2, w32c_3, w32c_4, w32c_5, w32c_6, w32c_7, w32c_8, w32c_9, w32c_10, w32c_11, w32c_12, w32c_13, w32c_14, w32c_m1, w32c_m2, w32c_118, Int.reduceAdd, Int.reduceSub, Int.reduceMul, yput_s, yput_n, znl_n, znl_0, znl_1, znl_4, ysum_n, ysum_0, ysum_1, ysum_4, true_and, and_true, Nat.reduceAdd, Nat.reduceLeDiff, true_implies, eq_self, true_or, or_true, or_false, false_or, not_true_eq_false, not_false_eq_true, false_implies, implies_true, yset_s, yset_o, yset_d, ne_eq, Nat.reduceEqDiff, Int.reduceToNat, Int.reduceEq, Int.reduceLE, Int.reduceLT, Classical.not_not, Nat.reduceLT, ↓zvk_s, ↓zvk_n, ↓s_253_0, ↓s_253_1, ↓s_253_4, ↓s_253_5, ↓s_253_8, ↓s_253_9, ↓s_253_10, ↓s_253_11n, ↓s_253_11i, ↓s_253_11p, ↓s_253_11l, ↓s_253_12, ↓s_253_13, ↓s_253_16, ↓s_253_19, ↓s_253_20, ↓s_253_23, ↓s_253_24, ↓s_253_27, ↓s_253_28, ↓s_253_29, ↓s_253_30, ↓s_253_31, ↓s_253_32, ↓s_253_35, ↓s_253_36, ↓s_253_39, ↓s_253_40, ↓s_253_43, ↓s_253_44, ↓s_253_45, ↓s_253_46, ↓s_253_47, ↓s_253_50, ↓s_253_51, ↓s_253_54, ↓s_253_55, ↓s_253_56, ↓s_253_57n, ↓s_253_57i, ↓s_253_57p, ↓s_253_57l, ↓s_253_59, ↓s_253_60a, ↓s_253_60b, ↓s_253_61, ↓s_253_64, ↓s_253_65, ↓s_253_66, ↓s_253_69, ↓s_253_70, ↓s_253_168, ↓s_253_170, ↓s_253_171, ↓s_253_172n, ↓s_253_172i, ↓s_253_172p, ↓s_253_172l, ↓s_253_174, ↓s_253_177, ↓s_253_179, ↓s_253_180, ↓s_253_181n, ↓s_253_181i, ↓s_253_181p, ↓s_253_181l, ↓s_253_183, ↓s_253_186, ↓s_253_188, ↓s_253_189, ↓s_253_190, ↓s_253_193, ↓s_253_194, ↓s_253_197, ↓s_253_200, ↓s_253_202, ↓s_253_205, ↓s_253_206, ↓s_253_207, ↓s_253_210, ↓s_253_211, ↓s_253_212, ↓s_253_214, ↓s_253_215, ↓s_253_216n, ↓s_253_216i, ↓s_253_216p, ↓s_253_216l, ↓s_253_218, ↓s_253_221, ↓s_253_222, ↓s_253_223, ↓s_253_224, ↓s_253_227, ↓s_253_228, ↓s_253_229, ↓s_253_231, ↓s_253_232, ↓s_253_233n, ↓s_253_233i, ↓s_253_233p, ↓s_253_233l, ↓s_253_235, ↓s_253_238, ↓s_253_240, ↓s_253_241, ↓s_253_242, ↓s_253_245, ↓s_253_246, ↓s_253_249, ↓s_253_250, ↓s_253_253n, ↓s_253_253i, ↓s_253_253p, ↓s_253_253l, ↓s_253_255, ↓s_253_258, ↓s_253_260, ↓s_253_261, ↓s_253_262, ↓s_253_265, ↓s_253_266, ↓s_253_269, ↓s_253_270, ↓s_253_273n, ↓s_253_273i, ↓s_253_273p, ↓s_253_273l, ↓s_253_275, ↓s_253_278, ↓s_253_280, ↓s_253_281, ↓s_253_282, ↓s_253_285, ↓s_253_286, ↓s_253_289, ↓s_253_290, ↓s_253_293n, ↓s_253_293i, ↓s_253_293p, ↓s_253_293l, ↓s_253_295, ↓s_253_298, ↓s_253_300, ↓s_253_301, ↓s_253_302, ↓s_253_305, ↓s_253_306, ↓s_253_309, ↓s_253_310, ↓s_253_313n, ↓s_253_313i, ↓s_253_313p, ↓s_253_313l, ↓s_253_315, ↓s_253_318, ↓s_253_320, ↓s_253_321, ↓s_253_322, ↓s_253_325, ↓s_253_326, ↓s_253_329, ↓s_253_330, ↓s_253_333n, ↓s_253_333i, ↓s_253_333p, ↓s_253_333l, ↓s_253_335, ↓s_253_338, ↓s_253_340, ↓s_253_341, ↓s_253_342, ↓s_253_345, ↓s_253_346, ↓s_253_349, ↓s_253_350, ↓s_253_353n, ↓s_253_353i, ↓s_253_353p, ↓s_253_353l, ↓s_253_355, ↓s_253_358, ↓s_253_360, ↓s_253_361, ↓s_253_362, ↓s_253_365, ↓s_253_366, ↓s_253_367, ↓s_253_368, ↓s_253_371, ↓s_253_372, ↓s_253_375, ↓s_253_376, ↓s_253_379n, ↓s_253_379i, ↓s_253_379p, ↓s_253_379l, ↓s_253_381, ↓s_253_384, ↓s_253_386, ↓s_253_387, ↓s_253_388, ↓s_253_391, ↓s_253_392, ↓s_253_393, ↓s_253_394, ↓s_253_397, ↓s_253_398, ↓s_253_401, ↓s_253_402, ↓s_253_405n, ↓s_253_405i, ↓s_253_405p, ↓s_253_405l, ↓g_253_407, ↓k_253_407, ↓s_253_408, ↓s_253_411, ↓s_253_412, ↓s_253_415, ↓s_253_416, ↓s_253_417, ↓s_253_419, ↓s_253_420, ↓s_253_422, ↓s_253_425, ↓s_253_426, ↓s_253_429, ↓s_253_431, ↓s_253_434, ↓s_253_435, ↓s_253_438, ↓s_253_439, ↓s_253_442, ↓s_253_443, w32c_260, ↓s_181_0, ↓s_181_1, ↓s_181_4, ↓s_181_5, ↓s_181_8, ↓s_181_9, zar_131, zia_131, zln_131, zit_131, zio_95, hs, yc_lt, yc_le, yc_gt, yc_ge, yc_eq, w64_0, i1, vY]
  exact ⟨⟨by omega, by omega⟩, fun a => ⟨⟨by omega, by omega⟩, fin 0 (by rw [w64_0, if_neg a])⟩, fun a => ⟨⟨by omega, by omega⟩, fin 1 (by rw [w64_1, if_pos a])⟩⟩
end RW
end
section
/-! THE REFERENCE works out an E -/
theorem cKh_kn {m : yMem} : ∀ {o : sK}, cKh m o → ∀ i, i < o.length → w32 (m 23 i) = ((knD o i).1 : Int) ∧ ((knD o i).1 = 2 → w32 (m 24 i) = (knD o i).2)
  | [], _, i, h => absurd h (Nat.not_lt_zero _)
  | q :: o, h, i, hi => by
    by_cases e : i = o.length
    · subst e
      rw [knD_l]
      exact ⟨h.1, h.2.1⟩
    · have hi : i < o.length + 1 := hi
      rw [knD_c (by omega)]
      exact cKh_kn h.2.2 i (by omega)
theorem rKl_kn {m : yMem} : ∀ {o : sK}, rKl m o → ∀ i, i < o.length → w32 (m 116 i) = rKt (knD o i).1 ∧ w32 (m 117 i) = rKv (knD o i).1 (knD o i).2
  | [], _, i, h => absurd h (Nat.not_lt_zero _)
  | q :: o, h, i, hi => by
    by_cases e : i = o.length
    · subst e
      rw [knD_l]
      exact h.1
    · have hi : i < o.length + 1 := hi
      rw [knD_c (by omega)]
      exact rKl_kn h.2 i (by omega)
theorem eAp_v {nm : Nat → Int} {k : Nat} {v : Int} {st : List Int} (h : 1 ≤ sLv k) : eAp nm (k, v) st = eAp nm (k, 0) st := by
  have hk := kOk_lv h
  unfold eAp
  rw [if_neg hk.1, if_neg hk.1]
theorem rKv_0 {k : Nat} {v : Int} (h : ¬ k = 2) : rKv k v = rKv k 0 := by
  unfold rKv
  rw [if_neg h, if_neg h]
theorem rKv_s : ∀ k : Nat, k < 33 → 1 ≤ sLv k → (rKv k 0 = 260 ↔ k = 32) ∧ rKt k = 2 := by decide +kernel
theorem eAp_ln {nm : Nat → Int} {k : Nat} {st st' : List Int} (hk : 1 ≤ sLv k) (h : eAp nm (k, 0) st = some st') (hd : if k = 32 then 1 ≤ st.length else 2 ≤ st.length) : st'.length = if k = 32 then st.length else st.length - 1 := by
  have hk2 := kOk_lv hk
  have l1 := List.length_tail (l := st)
  have l2 := List.length_tail (l := st.tail)
  unfold eAp at h
  rw [if_neg hk2.1, if_neg hk2.2] at h
  by_cases e : k = 32
  · rw [if_pos e] at h hd ⊢
    cases h
    show st.tail.length + 1 = _
    omega
  · rw [if_neg e] at h hd ⊢
    split at h
    · cases h
      show st.tail.tail.length + 1 = _
      omega
    · cases h
section RX
variable {E : yE} {mem : yMem} {Q : Option yV → yMem → Prop} {st : List Int} {nm : Nat → Int}
theorem re_works (hE : yEok E) {D : Nat} (hD : 2 ≤ D) {s v : Int} {k : Nat} (hk : 1 ≤ sLv k) (hs : w32 s = rKv k v) (h : rSt mem st) (hl : st.length ≤ 64) (hS : ∀ w ∈ st, eIn w) (hd : if k = 32 then 1 ≤ st.length else 2 ≤ st.length) (hQ : rWk nm k st mem Q) : yCon E D xm_253 [(1, 95), (0, s)] mem Q := by
  match st, h, hl, hS, hd, hQ with
  | [], _, _, _, hd, _ => exact absurd hd (by split <;> (show ¬ _ ≤ 0; omega))
  | [Y], h, hl, hS, hd, hQ =>
    have e : k = 32 := by
      by_cases e : k = 32
      · exact e
      · rw [if_neg e] at hd
        have hd : 2 ≤ 1 := hd
        omega
    subst e
    exact re_works_32 hE hD hs h hl hS hQ
  | Y :: X :: rest, h, hl, hS, hd, hQ =>
    have hl : rest.length + 2 ≤ 64 := hl
    rcases sLv_k hk with h1 | rfl | rfl | rfl
    · have hx : k = 7 ∨ k = 8 ∨ k = 9 ∨ k = 10 ∨ k = 11 ∨ k = 12 ∨ k = 13 ∨ k = 14 ∨ k = 15 ∨ k = 16 := by omega
      rcases hx with rfl | rfl | rfl | rfl | rfl | rfl | rfl | rfl | rfl | rfl
      · exact re_works_7 hE hD hs h hl hS hQ
      · exact re_works_8 hE hD hs h hl hS hQ
      · exact re_works_9 hE hD hs h hl hS hQ
      · exact re_works_10 hE hD hs h hl hS hQ
      · exact re_works_11 hE hD hs h hl hS hQ
      · exact re_works_12 hE hD hs h hl hS hQ
      · exact re_works_13 hE hD hs h hl hS hQ
      · exact re_works_14 hE hD hs h hl hS hQ
      · exact re_works_15 hE hD hs h hl hS hQ
      · exact re_works_16 hE hD hs h hl hS hQ
    · exact re_works_30 hE hD hs h hl hS hQ
    · exact re_works_31 hE hD hs h hl hS hQ
    · exact re_works_32 hE hD hs h hl hS hQ
/-- how the reference holds an E: its KNOTS from one place to another, good ones, the names -/
def rFm (mem : yMem) (o : sK) (f a b : Nat) (nm : Nat → Int) : Prop := (w32 (mem 114 f) = (a : Int) ∧ w32 (mem 115 f) = (b : Int) ∧ b ≤ o.length ∧ o.length ≤ 64) ∧ (∀ i, i < o.length → w32 (mem 116 i) = rKt (knD o i).1 ∧ w32 (mem 117 i) = rKv (knD o i).1 (knD o i).2) ∧ (∀ q ∈ o, kOk q.1) ∧ ∀ i, i < 7 → w64 (mem 130 i) = nm i ∧ eIn (nm i)
theorem re_goes_l (hE : yEok E) {d : Nat} {s : Int} {o : sK} {f a b : Nat} (hf : w32 s = (f : Int)) (hf5 : f < 5) (hR : rFm mem o f a b nm) {R : Option (List Int)} (hQ : ∀ x m, rzF mem m → ((R = none ∧ w32 x = 0) ∨ ∃ st', R = some st' ∧ w32 x = 1 ∧ rSt m st' ∧ st'.length ≤ 64) → Q (some (0, x)) m) : ∀ (n k : Nat) (K : Int) (m : yMem) (st : List Int) (e : Int), b - k = n → k ≤ b → w32 K = (k : Int) → rzF mem m → rSt m st → (∀ w ∈ st, eIn w) → st.length ≤ k → zpf (mem 116) (mem 117) n k (st.length : Int) = some e → R = eRn (knD o) nm n k st → zG E (d + 2) xm_174 12 [some (1, 95), some (0, s), some (0, K)] [] m Q := by
  obtain ⟨⟨r1, r2, r3, r4⟩, r5, r6, r7⟩ := hR
  have fs : (w32 s).toNat = f := by rw [hf]; exact Int.toNat_natCast _
  intro n
  induction n with
  | zero =>
    intro k K m st e hn hkb hK hF hS hI hl he hR
    have e115 : w32 (m 115 f) = (b : Int) := by rw [hF 115 f (by omega) (by decide)]; exact r2
    refine zgo_ok (n := 60) hE xmo_174 (cs := zc_174) ?_
    simp only [ynok_30, ynok_31, w32c_0, w32c_1, w32c_2, w32c_3, w32c_4, w32c_5, w32c_6, w32c_7, w32c_8, w32c_9, w32c_10, w32c_11, w32c_12, w32c_13, w32c_14, w32c_m1, w32c_m2, w32c_118, Int.reduceAdd, Int.reduceSub, Int.reduceMul, yput_s, yput_n, znl_n, znl_0, znl_1, znl_4, ysum_n, ysum_0, ysum_1, ysum_4, true_and, and_true, Nat.reduceAdd, Nat.reduceLeDiff, true_implies, eq_self, true_or, or_true, or_false, false_or, not_true_eq_false, not_false_eq_true, false_implies, implies_true, yset_s, yset_o, yset_d, ne_eq, Nat.reduceEqDiff, Int.reduceToNat, Int.reduceEq, Int.reduceLE, Int.reduceLT, Classical.not_not, Nat.reduceLT, ↓zvk_s, ↓zvk_n, ↓s_174_0, ↓s_174_1, ↓s_174_2, ↓s_174_5, ↓s_174_6, ↓s_174_9, ↓s_174_10, ↓s_174_11n, ↓s_174_11i, ↓s_174_11p, ↓g_174_12, ↓k_174_12, ↓s_174_13, ↓s_174_14, ↓s_174_17, ↓s_174_18, ↓s_174_19, ↓s_174_22, ↓s_174_23, ↓s_174_26, ↓s_174_27, ↓s_174_28, ↓s_174_29, ↓s_174_32, ↓s_174_33, ↓s_174_34, ↓s_174_37, ↓s_174_38, ↓s_174_39, ↓s_174_42, ↓s_174_45, ↓s_174_46, ↓s_174_47, ↓s_174_48, ↓s_174_51, ↓s_174_52, ↓s_174_55, ↓s_174_56, ↓s_174_59, ↓s_174_60, ↓s_174_61, ↓s_174_64, ↓s_174_65, ↓s_174_68, ↓s_174_69, ↓s_174_70, ↓s_174_71, ↓s_174_74, ↓s_174_75, ↓s_174_78, ↓s_174_79, ↓s_174_82, ↓s_174_83, ↓s_174_84, ↓s_174_85, ↓s_174_86, ↓s_174_87a, ↓s_174_87b, ↓s_174_88, ↓s_174_91, ↓s_174_92, ↓s_174_93, ↓s_174_96n, ↓s_174_96i, ↓s_174_96p, ↓s_174_99, ↓s_174_102, ↓s_174_103, zar_114, zia_114, zln_114, zit_114, zar_115, zia_115, zln_115, zit_115, zar_116, zia_116, zln_116, zit_116, zar_117, zia_117, zln_117, zit_117, zar_131, zia_131, zln_131, zit_131, zar_130, zia_130, zln_130, zit_130, zio_95, fs]
    exact ⟨⟨by omega, by omega⟩, fun _ => hQ 1 m hF (Or.inr ⟨st, hR, w32c_1, hS, by omega⟩), fun h => absurd (show w32 (m 115 f) ≤ w32 K by omega) h⟩
  | succ n ih =>
    intro k K m st e hn hkb hK hF hS hI hl he hR
    have e115 : w32 (m 115 f) = (b : Int) := by rw [hF 115 f (by omega) (by decide)]; exact r2
    have hk1 : w32 (K + 1) = ((k + 1 : Nat) : Int) := by rw [w32_ad (by rw [w32c_1]; omega) (by rw [w32c_1]; omega), w32c_1]; omega
    have kt : (w32 K).toNat = k := by rw [hK]; exact Int.toNat_natCast _
    have hko : k < o.length := by omega
    obtain ⟨q1, q2⟩ := r5 k hko
    have hq := r6 _ (knD_m hko)
    have e116 : m 116 k = mem 116 k := hF 116 k (by omega) (by decide)
    have e117 : m 117 k = mem 117 k := hF 117 k (by omega) (by decide)
    have h52 : w32 (m 95 52) = (st.length : Int) := hS.1
    have i52 : (w32 (m 95 52)).toNat = st.length := by rw [h52]; exact Int.toNat_natCast _
    simp only [zpf] at he
    rw [q1, q2] at he
    have go : ∀ m2 st2, rzF mem m2 → rSt m2 st2 → (∀ w ∈ st2, eIn w) → st2.length ≤ k + 1 → zp1 (rKt (knD o k).1) (rKv (knD o k).1 (knD o k).2) (st.length : Int) = some (st2.length : Int) → eAp nm (knD o k) st = some st2 → zG E (d + 2) xm_174 12 [some (1, 95), some (0, s), some (0, K + 1)] [] m2 Q := fun m2 st2 F2 S2 I2 l2 z2 a2 => by
      rw [z2] at he
      exact ih (k + 1) (K + 1) m2 st2 e (by omega) (by omega) hk1 F2 S2 I2 l2 he (by
        rw [hR]
        show (match eAp nm (knD o k) st with | some st' => eRn (knD o) nm n (k + 1) st' | none => none) = _
        rw [a2])
    have push : ∀ x, (eAp nm (knD o k) st = some (w64 x :: st)) → eIn (w64 x) → zp1 (rKt (knD o k).1) (rKv (knD o k).1 (knD o k).2) (st.length : Int) = some ((st.length + 1 : Nat) : Int) → zG E (d + 2) xm_174 12 [some (1, 95), some (0, s), some (0, K + 1)] [] (yset (yset m 131 st.length x) 95 52 (m 95 52 + 1)) Q := fun x ax ix zx => go _ (w64 x :: st) (rzF_tr hF (rzF_tr rzF_131 rzF_52)) ⟨by rw [yset_s, w32_ad (by rw [w32c_1]; omega) (by rw [w32c_1]; omega), w32c_1, h52]; rfl, by rw [yset_o (by decide), yset_s], rSk_fr hS.2 (fun j hj => by rw [yset_o (by decide), yset_d (by omega)])⟩ (fun w hw => by
        rcases List.mem_cons.mp hw with rfl | hw
        · exact ix
        · exact hI w hw) (by show st.length + 1 ≤ k + 1; omega) zx ax
    refine zgo_ok (n := 60) hE xmo_174 (cs := zc_174) ?_
    simp only [ynok_30, ynok_31, w32c_0, w32c_1, w32c_2, w32c_3, w32c_4, w32c_5, w32c_6, w32c_7, w32c_8, w32c_9, w32c_10, w32c_11, w32c_12, w32c_13, w32c_14, w32c_m1, w32c_m2, w32c_118, Int.reduceAdd, Int.reduceSub, Int.reduceMul, yput_s, yput_n, znl_n, znl_0, znl_1, znl_4, ysum_n, ysum_0, ysum_1, ysum_4, true_and, and_true, Nat.reduceAdd, Nat.reduceLeDiff, true_implies, eq_self, true_or, or_true, or_false, false_or, not_true_eq_false, not_false_eq_true, false_implies, implies_true, yset_s, yset_o, yset_d, ne_eq, Nat.reduceEqDiff, Int.reduceToNat, Int.reduceEq, Int.reduceLE, Int.reduceLT, Classical.not_not, Nat.reduceLT, ↓zvk_s, ↓zvk_n, ↓s_174_0, ↓s_174_1, ↓s_174_2, ↓s_174_5, ↓s_174_6, ↓s_174_9, ↓s_174_10, ↓s_174_11n, ↓s_174_11i, ↓s_174_11p, ↓g_174_12, ↓k_174_12, ↓s_174_13, ↓s_174_14, ↓s_174_17, ↓s_174_18, ↓s_174_19, ↓s_174_22, ↓s_174_23, ↓s_174_26, ↓s_174_27, ↓s_174_28, ↓s_174_29, ↓s_174_32, ↓s_174_33, ↓s_174_34, ↓s_174_37, ↓s_174_38, ↓s_174_39, ↓s_174_42, ↓s_174_45, ↓s_174_46, ↓s_174_47, ↓s_174_48, ↓s_174_51, ↓s_174_52, ↓s_174_55, ↓s_174_56, ↓s_174_59, ↓s_174_60, ↓s_174_61, ↓s_174_64, ↓s_174_65, ↓s_174_68, ↓s_174_69, ↓s_174_70, ↓s_174_71, ↓s_174_74, ↓s_174_75, ↓s_174_78, ↓s_174_79, ↓s_174_82, ↓s_174_83, ↓s_174_84, ↓s_174_85, ↓s_174_86, ↓s_174_87a, ↓s_174_87b, ↓s_174_88, ↓s_174_91, ↓s_174_92, ↓s_174_93, ↓s_174_96n, ↓s_174_96i, ↓s_174_96p, ↓s_174_99, ↓s_174_102, ↓s_174_103, zar_114, zia_114, zln_114, zit_114, zar_115, zia_115, zln_115, zit_115, zar_116, zia_116, zln_116, zit_116, zar_117, zia_117, zln_117, zit_117, zar_131, zia_131, zln_131, zit_131, zar_130, zia_130, zln_130, zit_130, zio_95, fs, kt, e116, e117, i52]
    rw [e115, hK, h52]
    obtain ⟨q, hqe⟩ : ∃ q, q = knD o k := ⟨_, rfl⟩
    rw [← hqe] at q1 q2 hq he go push
    have hT0 : q.1 = 2 → rKt q.1 = 0 := fun e => by unfold rKt; rw [if_pos e]
    have hT1 : 33 ≤ q.1 → rKt q.1 = 1 := fun e => by unfold rKt; rw [if_neg (by omega), if_pos e]
    have x0 : (0 ≤ (k : Int) ∧ (k : Int) < ((128 : Nat) : Int)) := ⟨by omega, by omega⟩
    rw [q1]
    refine ⟨⟨by omega, by omega⟩, fun z => absurd z (by omega), fun _ => ⟨x0, fun n2 => ⟨x0, fun n0 => ⟨x0, ?_⟩, fun e0 => ⟨x0, ⟨by omega, by omega⟩, ?_⟩⟩, fun e2 => ⟨x0, ?_⟩⟩⟩
    · have k33 : 33 ≤ q.1 ∧ q.1 ≤ 39 := by
        rcases hq with hq | hq | hq
        · exact absurd (hT0 hq) n0
        · exact hq
        · exact absurd (rKv_s q.1 (by have := sLv_k hq; omega) hq).2 n2
      have e7 : w32 (mem 117 k) = ((q.1 - 33 : Nat) : Int) := by rw [q2]; unfold rKv; rw [if_neg (by omega), if_pos k33.1]; omega
      have i7 := w32_t e7
      obtain ⟨n1, nI⟩ := r7 (q.1 - 33) (by omega)
      rw [i7]
      refine ⟨⟨by omega, by omega⟩, ⟨by omega, by omega⟩, push _ ?_ ?_ ?_⟩
      · rw [hF 130 _ (by omega) (by decide), n1]
        unfold eAp
        rw [if_neg (by omega), if_pos k33]
      · rw [hF 130 _ (by omega) (by decide), n1]
        exact nI
      · rw [← q2, e7, hT1 k33.1]
        unfold zp1
        rw [if_neg (by decide), if_pos (Or.inr ⟨by omega, by omega⟩)]
        rfl
    · have k2 : q.1 = 2 := by
        rcases hq with hq | hq | hq
        · exact hq
        · exact absurd ((hT1 hq.1).symm.trans e0) (by decide)
        · exact absurd ((rKv_s q.1 (by have := sLv_k hq; omega) hq).2.symm.trans e0) (by decide)
      refine push _ ?_ ?_ ?_
      · rw [w64_w32, q2]
        unfold eAp rKv
        rw [if_pos k2, if_pos k2]
      · rw [w64_w32]
        exact eIn_32 _
      · rw [hT0 k2]
        unfold zp1
        rw [if_neg (by decide), if_pos (Or.inl rfl)]
        rfl
    · have hk3 : 1 ≤ sLv q.1 := by
        rcases hq with hq | hq | hq
        · exact absurd ((hT0 hq).symm.trans e2) (by decide)
        · exact absurd ((hT1 hq.1).symm.trans e2) (by decide)
        · exact hq
      have kl := sLv_k hk3
      have kk := kOk_lv hk3
      obtain ⟨k260, -⟩ := rKv_s q.1 (by omega) hk3
      rw [← rKv_0 (v := q.2) kk.1] at k260
      have hd : if q.1 = 32 then 1 ≤ st.length else 2 ≤ st.length := by
        rw [e2] at he
        unfold zp1 at he
        rw [if_pos rfl] at he
        by_cases c : q.1 = 32
        · rw [if_pos c]
          rw [if_pos (k260.mpr c)] at he
          by_cases c2 : (1 : Int) ≤ (st.length : Int)
          · omega
          · rw [if_neg c2] at he
            cases he
        · rw [if_neg c]
          rw [if_neg (fun z => c (k260.mp z))] at he
          by_cases c2 : (2 : Int) ≤ (st.length : Int)
          · omega
          · rw [if_neg c2] at he
            cases he
      have ev : eAp nm q st = eAp nm (q.1, 0) st := eAp_v (k := q.1) (v := q.2) hk3
      have hR2 : R = (match eAp nm q st with | some st' => eRn (knD o) nm n (k + 1) st' | none => none) := by
        rw [hR, hqe]
        rfl
      refine re_works (nm := nm) hE (by omega) (k := q.1) (v := q.2) hk3 q2 hS (by omega) hI hd (fun x m' F' c => ?_)
      refine zgk_s hE xmo_174 60 zc_174 ?_
      simp only [ynok_30, ynok_31, w32c_0, w32c_1, w32c_2, w32c_3, w32c_4, w32c_5, w32c_6, w32c_7, w32c_8, w32c_9, w32c_10, w32c_11, w32c_12, w32c_13, w32c_14, w32c_m1, w32c_m2, w32c_118, Int.reduceAdd, Int.reduceSub, Int.reduceMul, yput_s, yput_n, znl_n, znl_0, znl_1, znl_4, ysum_n, ysum_0, ysum_1, ysum_4, true_and, and_true, Nat.reduceAdd, Nat.reduceLeDiff, true_implies, eq_self, true_or, or_true, or_false, false_or, not_true_eq_false, not_false_eq_true, false_implies, implies_true, yset_s, yset_o, yset_d, ne_eq, Nat.reduceEqDiff, Int.reduceToNat, Int.reduceEq, Int.reduceLE, Int.reduceLT, Classical.not_not, Nat.reduceLT, ↓zvk_s, ↓zvk_n, ↓s_174_0, ↓s_174_1, ↓s_174_2, ↓s_174_5, ↓s_174_6, ↓s_174_9, ↓s_174_10, ↓s_174_11n, ↓s_174_11i, ↓s_174_11p, ↓g_174_12, ↓k_174_12, ↓s_174_13, ↓s_174_14, ↓s_174_17, ↓s_174_18, ↓s_174_19, ↓s_174_22, ↓s_174_23, ↓s_174_26, ↓s_174_27, ↓s_174_28, ↓s_174_29, ↓s_174_32, ↓s_174_33, ↓s_174_34, ↓s_174_37, ↓s_174_38, ↓s_174_39, ↓s_174_42, ↓s_174_45, ↓s_174_46, ↓s_174_47, ↓s_174_48, ↓s_174_51, ↓s_174_52, ↓s_174_55, ↓s_174_56, ↓s_174_59, ↓s_174_60, ↓s_174_61, ↓s_174_64, ↓s_174_65, ↓s_174_68, ↓s_174_69, ↓s_174_70, ↓s_174_71, ↓s_174_74, ↓s_174_75, ↓s_174_78, ↓s_174_79, ↓s_174_82, ↓s_174_83, ↓s_174_84, ↓s_174_85, ↓s_174_86, ↓s_174_87a, ↓s_174_87b, ↓s_174_88, ↓s_174_91, ↓s_174_92, ↓s_174_93, ↓s_174_96n, ↓s_174_96i, ↓s_174_96p, ↓s_174_99, ↓s_174_102, ↓s_174_103, zar_114, zia_114, zln_114, zit_114, zar_115, zia_115, zln_115, zit_115, zar_116, zia_116, zln_116, zit_116, zar_117, zia_117, zln_117, zit_117, zar_131, zia_131, zln_131, zit_131, zar_130, zia_130, zln_130, zit_130, zio_95]
      rw [← ev] at c
      refine ⟨fun z => ?_, fun z => ?_⟩
      · rcases c with ⟨c1, c2⟩ | ⟨st', c1, c2, c3, c4⟩
        · exact absurd c2 z
        · have ln := eAp_ln hk3 (by rw [← ev]; exact c1) hd
          refine go m' st' (rzF_tr hF F') c3 c4 (by rw [ln]; split <;> omega) ?_ c1
          rw [e2]
          unfold zp1
          rw [if_pos rfl]
          by_cases c : q.1 = 32
          · rw [if_pos c] at ln hd
            rw [if_pos (k260.mpr c), if_pos (by omega), ln]
          · rw [if_neg c] at ln hd
            rw [if_neg (fun z => c (k260.mp z)), if_pos (by omega), ln]
            congr 1
            omega
      · rcases c with ⟨c1, c2⟩ | ⟨st', c1, c2, c3, c4⟩
        · exact hQ 0 m' (rzF_tr hF F') (Or.inl ⟨by rw [hR2, c1], w32c_0⟩)
        · omega
theorem re_goes (hE : yEok E) {D0 : Nat} (hD : 3 ≤ D0) {s : Int} {o : sK} {f a b : Nat} (hf : w32 s = (f : Int)) (hf5 : f < 5) (hab : a ≤ b) (hR : rFm mem o f a b nm) {e : Int} (he : zpf (mem 116) (mem 117) (b - a) a 0 = some e) (hQ : ∀ x m, rzF mem m → ((eRn (knD o) nm (b - a) a [] = none ∧ w32 x = 0) ∨ ∃ st', eRn (knD o) nm (b - a) a [] = some st' ∧ w32 x = 1 ∧ rSt m st' ∧ st'.length ≤ 64) → Q (some (0, x)) m) : yCon E D0 xm_174 [(1, 95), (0, s)] mem Q := by
  obtain ⟨d, rfl⟩ := Nat.exists_eq_add_of_le' hD
  have fs : (w32 s).toNat = f := by rw [hf]; exact Int.toNat_natCast _
  have h114 := hR.1.1
  refine e_174 ?_
  refine zvc_ok hE 60 zc_174 _ _ _ _ _ _ _ xmo_174 ?_
  simp only [ynok_30, ynok_31, w32c_0, w32c_1, w32c_2, w32c_3, w32c_4, w32c_5, w32c_6, w32c_7, w32c_8, w32c_9, w32c_10, w32c_11, w32c_12, w32c_13, w32c_14, w32c_m1, w32c_m2, w32c_118, Int.reduceAdd, Int.reduceSub, Int.reduceMul, yput_s, yput_n, znl_n, znl_0, znl_1, znl_4, ysum_n, ysum_0, ysum_1, ysum_4, true_and, and_true, Nat.reduceAdd, Nat.reduceLeDiff, true_implies, eq_self, true_or, or_true, or_false, false_or, not_true_eq_false, not_false_eq_true, false_implies, implies_true, yset_s, yset_o, yset_d, ne_eq, Nat.reduceEqDiff, Int.reduceToNat, Int.reduceEq, Int.reduceLE, Int.reduceLT, Classical.not_not, Nat.reduceLT, ↓zvk_s, ↓zvk_n, ↓s_174_0, ↓s_174_1, ↓s_174_2, ↓s_174_5, ↓s_174_6, ↓s_174_9, ↓s_174_10, ↓s_174_11n, ↓s_174_11i, ↓s_174_11p, ↓g_174_12, ↓k_174_12, ↓s_174_13, ↓s_174_14, ↓s_174_17, ↓s_174_18, ↓s_174_19, ↓s_174_22, ↓s_174_23, ↓s_174_26, ↓s_174_27, ↓s_174_28, ↓s_174_29, ↓s_174_32, ↓s_174_33, ↓s_174_34, ↓s_174_37, ↓s_174_38, ↓s_174_39, ↓s_174_42, ↓s_174_45, ↓s_174_46, ↓s_174_47, ↓s_174_48, ↓s_174_51, ↓s_174_52, ↓s_174_55, ↓s_174_56, ↓s_174_59, ↓s_174_60, ↓s_174_61, ↓s_174_64, ↓s_174_65, ↓s_174_68, ↓s_174_69, ↓s_174_70, ↓s_174_71, ↓s_174_74, ↓s_174_75, ↓s_174_78, ↓s_174_79, ↓s_174_82, ↓s_174_83, ↓s_174_84, ↓s_174_85, ↓s_174_86, ↓s_174_87a, ↓s_174_87b, ↓s_174_88, ↓s_174_91, ↓s_174_92, ↓s_174_93, ↓s_174_96n, ↓s_174_96i, ↓s_174_96p, ↓s_174_99, ↓s_174_102, ↓s_174_103, zar_114, zia_114, zln_114, zit_114, zar_115, zia_115, zln_115, zit_115, zar_116, zia_116, zln_116, zit_116, zar_117, zia_117, zln_117, zit_117, zar_131, zia_131, zln_131, zit_131, zar_130, zia_130, zln_130, zit_130, zio_95, fs]
  refine ⟨⟨by omega, by omega⟩, ?_⟩
  exact re_goes_l hE hf hf5 hR (R := eRn (knD o) nm (b - a) a []) hQ (b - a) a _ _ [] e rfl hab h114 rzF_52 ⟨by rw [yset_s]; exact w32c_0, trivial⟩ (fun w hw => absurd hw List.not_mem_nil) (Nat.zero_le _) he rfl
end RX
end
section
def zc_95 : List Nat := [39, 84]
theorem s_95_0 {E : yE} {n d : Nat} {mem : yMem} {Post : Option yV → yMem → Prop} {st : List yV} {r1 r2 r3 r4 r5 : Option yV} {x : Int} : zvc E (n + 1) zc_95 d xm_95 0 [some (1, x), r1, r2, r3, r4, r5] (st) mem Post = (zvc E n zc_95 d xm_95 1 [some (1, x), r1, r2, r3, r4, r5] ((1, x) :: st) mem Post) := zrf rfl
theorem s_95_1 {E : yE} {n d : Nat} {mem : yMem} {Post : Option yV → yMem → Prop} {st : List yV} {r0 r1 r2 r3 r4 r5 : Option yV} : zvc E (n + 1) zc_95 d xm_95 1 [r0, r1, r2, r3, r4, r5] ((1, 73) :: st) mem Post = (zvc E n zc_95 d xm_95 4 [r0, r1, r2, r3, r4, r5] ((1, 2) :: st) mem Post) := zrf rfl
theorem s_95_4_2 {E : yE} {n d : Nat} {mem : yMem} {Post : Option yV → yMem → Prop} {st : List yV} {r0 r1 r2 r3 r4 r5 : Option yV} : zvc E (n + 1) zc_95 d xm_95 4 [r0, r1, r2, r3, r4, r5] ((1, 2) :: st) mem Post = (zvc E n zc_95 d xm_95 7 [r0, r1, r2, r3, r4, r5] ((1, 22) :: st) mem Post) := zrf rfl
theorem s_95_4_28 {E : yE} {n d : Nat} {mem : yMem} {Post : Option yV → yMem → Prop} {st : List yV} {r0 r1 r2 r3 r4 r5 : Option yV} : zvc E (n + 1) zc_95 d xm_95 4 [r0, r1, r2, r3, r4, r5] ((1, 28) :: st) mem Post = (zvc E n zc_95 d xm_95 7 [r0, r1, r2, r3, r4, r5] ((1, 48) :: st) mem Post) := zrf rfl
theorem s_95_7n {E : yE} {n d : Nat} {mem : yMem} {Post : Option yV → yMem → Prop} {st : List yV} {r0 r1 r2 r4 r5 : Option yV} {x : Int} : zvc E (n + 1) zc_95 d xm_95 7 [r0, r1, r2, none, r4, r5] ((1, x) :: st) mem Post = (zvc E n zc_95 d xm_95 9 [r0, r1, r2, none, some (1, x), r5] (st) mem Post) := zrf rfl
theorem s_95_7i {E : yE} {n d : Nat} {mem : yMem} {Post : Option yV → yMem → Prop} {st : List yV} {r0 r1 r2 r4 r5 : Option yV} {x w : Int} : zvc E (n + 1) zc_95 d xm_95 7 [r0, r1, r2, some (0, w), r4, r5] ((1, x) :: st) mem Post = (zvc E n zc_95 d xm_95 9 [r0, r1, r2, some (0, w), some (1, x), r5] (st) mem Post) := zrf rfl
theorem s_95_7p {E : yE} {n d : Nat} {mem : yMem} {Post : Option yV → yMem → Prop} {st : List yV} {r0 r1 r2 r4 r5 : Option yV} {x w : Int} : zvc E (n + 1) zc_95 d xm_95 7 [r0, r1, r2, some (1, w), r4, r5] ((1, x) :: st) mem Post = (zvc E n zc_95 d xm_95 9 [r0, r1, r2, some (1, w), some (1, x), r5] (st) mem Post) := zrf rfl
theorem s_95_7j {E : yE} {n d : Nat} {mem : yMem} {Post : Option yV → yMem → Prop} {st : List yV} {r0 r1 r2 r3 r4 r5 : Option yV} {x : Int} : zvc E (n + 1) zc_95 d xm_95 7 [r0, r1, r2, r3, r4, r5] ((1, x) :: st) mem Post = (zvc E n zc_95 d xm_95 9 [r0, r1, r2, znl r3, some (1, x), r5] (st) mem Post) := zrf rfl
theorem s_95_9 {E : yE} {n d : Nat} {mem : yMem} {Post : Option yV → yMem → Prop} {st : List yV} {r0 r1 r2 r3 r5 : Option yV} {x : Int} : zvc E (n + 1) zc_95 d xm_95 9 [r0, r1, r2, r3, some (1, x), r5] (st) mem Post = (zvc E n zc_95 d xm_95 11 [r0, r1, r2, r3, some (1, x), r5] ((1, x) :: st) mem Post) := zrf rfl
theorem s_95_11 {E : yE} {n d : Nat} {mem : yMem} {Post : Option yV → yMem → Prop} {st : List yV} {r0 r2 r3 r4 r5 : Option yV} {x : Int} : zvc E (n + 1) zc_95 d xm_95 11 [r0, some (0, x), r2, r3, r4, r5] (st) mem Post = (zvc E n zc_95 d xm_95 12 [r0, some (0, x), r2, r3, r4, r5] ((0, x) :: st) mem Post) := zrf rfl
theorem s_95_12 {E : yE} {n d : Nat} {mem : yMem} {Post : Option yV → yMem → Prop} {st : List yV} {r0 r1 r2 r3 r4 r5 : Option yV} {z a0 : Int} : zvc E (n + 1) zc_95 (d + 1) xm_95 12 [r0, r1, r2, r3, r4, r5] ((0, a0) :: (1, z) :: st) mem Post = (zio z 2 = true ∧ ysum st ≤ 8 ∧ zvc E n [] d xm_64 0 [some (1, z), some (0, a0)] [] mem (fun v mem' => zvk E n zc_95 (d + 1) xm_95 15 [r0, r1, r2, r3, r4, r5] st v mem' Post)) := zrf rfl
theorem s_95_15 {E : yE} {n d : Nat} {mem : yMem} {Post : Option yV → yMem → Prop} {st : List yV} {r0 r1 r2 r3 r4 r5 : Option yV} {x : Int} : zvc E (n + 1) zc_95 d xm_95 15 [r0, r1, r2, r3, r4, r5] ((0, x) :: st) mem Post = ((¬ w32 x = w32 0 → zvc E n zc_95 d xm_95 20 [r0, r1, r2, r3, r4, r5] (st) mem Post) ∧ (¬ (¬ w32 x = w32 0) → zvc E n zc_95 d xm_95 18 [r0, r1, r2, r3, r4, r5] (st) mem Post)) := zrf rfl
theorem s_95_18 {E : yE} {n d : Nat} {mem : yMem} {Post : Option yV → yMem → Prop} {st : List yV} {r0 r1 r2 r4 r5 : Option yV} {x : Int} : zvc E (n + 1) zc_95 d xm_95 18 [r0, r1, r2, some (0, x), r4, r5] (st) mem Post = (zvc E n zc_95 d xm_95 19 [r0, r1, r2, some (0, x), r4, r5] ((0, x) :: st) mem Post) := zrf rfl
theorem s_95_19 {E : yE} {n d : Nat} {mem : yMem} {Post : Option yV → yMem → Prop} {r0 r1 r2 r3 r4 r5 : Option yV} {x : Int} : zvc E (n + 1) zc_95 d xm_95 19 [r0, r1, r2, r3, r4, r5] ([(0, x)]) mem Post = (Post (some (0, x)) mem) := zrf rfl
theorem s_95_20 {E : yE} {n d : Nat} {mem : yMem} {Post : Option yV → yMem → Prop} {st : List yV} {r1 r2 r3 r4 r5 : Option yV} {x : Int} : zvc E (n + 1) zc_95 d xm_95 20 [some (1, x), r1, r2, r3, r4, r5] (st) mem Post = (zvc E n zc_95 d xm_95 21 [some (1, x), r1, r2, r3, r4, r5] ((1, x) :: st) mem Post) := zrf rfl
theorem s_95_21 {E : yE} {n d : Nat} {mem : yMem} {Post : Option yV → yMem → Prop} {st : List yV} {r0 r1 r2 r3 r4 r5 : Option yV} : zvc E (n + 1) zc_95 d xm_95 21 [r0, r1, r2, r3, r4, r5] (st) mem Post = (zvc E n zc_95 d xm_95 22 [r0, r1, r2, r3, r4, r5] ((0, 0) :: st) mem Post) := zrf rfl
theorem s_95_22 {E : yE} {n d : Nat} {mem : yMem} {Post : Option yV → yMem → Prop} {st : List yV} {r0 r1 r2 r3 r4 r5 : Option yV} {x : Int} : zvc E (n + 1) zc_95 d xm_95 22 [r0, r1, r2, r3, r4, r5] ((0, x) :: (1, 73) :: st) mem Post = (zvc E n zc_95 d xm_95 25 [r0, r1, r2, r3, r4, r5] (st) (yset mem 73 4 x) Post) := zrf rfl
theorem s_95_25 {E : yE} {n d : Nat} {mem : yMem} {Post : Option yV → yMem → Prop} {st : List yV} {r1 r2 r3 r4 r5 : Option yV} {x : Int} : zvc E (n + 1) zc_95 d xm_95 25 [some (1, x), r1, r2, r3, r4, r5] (st) mem Post = (zvc E n zc_95 d xm_95 26 [some (1, x), r1, r2, r3, r4, r5] ((1, x) :: st) mem Post) := zrf rfl
theorem s_95_26 {E : yE} {n d : Nat} {mem : yMem} {Post : Option yV → yMem → Prop} {st : List yV} {r0 r1 r2 r3 r4 r5 : Option yV} : zvc E (n + 1) zc_95 d xm_95 26 [r0, r1, r2, r3, r4, r5] (st) mem Post = (zvc E n zc_95 d xm_95 27 [r0, r1, r2, r3, r4, r5] ((0, 0) :: st) mem Post) := zrf rfl
theorem s_95_27 {E : yE} {n d : Nat} {mem : yMem} {Post : Option yV → yMem → Prop} {st : List yV} {r0 r1 r2 r3 r4 r5 : Option yV} {x : Int} : zvc E (n + 1) zc_95 d xm_95 27 [r0, r1, r2, r3, r4, r5] ((0, x) :: (1, 73) :: st) mem Post = ((w32 x = 0 ∨ w32 x = 1) ∧ zvc E n zc_95 d xm_95 30 [r0, r1, r2, r3, r4, r5] (st) (yset mem 73 5 x) Post) := zrf rfl
theorem s_95_30 {E : yE} {n d : Nat} {mem : yMem} {Post : Option yV → yMem → Prop} {st : List yV} {r0 r1 r2 r3 r5 : Option yV} {x : Int} : zvc E (n + 1) zc_95 d xm_95 30 [r0, r1, r2, r3, some (1, x), r5] (st) mem Post = (zvc E n zc_95 d xm_95 32 [r0, r1, r2, r3, some (1, x), r5] ((1, x) :: st) mem Post) := zrf rfl
theorem s_95_32_22 {E : yE} {n d : Nat} {mem : yMem} {Post : Option yV → yMem → Prop} {st : List yV} {r0 r1 r2 r3 r4 r5 : Option yV} : zvc E (n + 1) zc_95 d xm_95 32 [r0, r1, r2, r3, r4, r5] ((1, 22) :: st) mem Post = (zvc E n zc_95 d xm_95 35 [r0, r1, r2, r3, r4, r5] ((1, 25) :: st) mem Post) := zrf rfl
theorem s_95_32_48 {E : yE} {n d : Nat} {mem : yMem} {Post : Option yV → yMem → Prop} {st : List yV} {r0 r1 r2 r3 r4 r5 : Option yV} : zvc E (n + 1) zc_95 d xm_95 32 [r0, r1, r2, r3, r4, r5] ((1, 48) :: st) mem Post = (zvc E n zc_95 d xm_95 35 [r0, r1, r2, r3, r4, r5] ((1, 51) :: st) mem Post) := zrf rfl
theorem s_95_35 {E : yE} {n d : Nat} {mem : yMem} {Post : Option yV → yMem → Prop} {st : List yV} {r0 r2 r3 r4 r5 : Option yV} {x : Int} : zvc E (n + 1) zc_95 d xm_95 35 [r0, some (0, x), r2, r3, r4, r5] (st) mem Post = (zvc E n zc_95 d xm_95 36 [r0, some (0, x), r2, r3, r4, r5] ((0, x) :: st) mem Post) := zrf rfl
theorem s_95_36 {E : yE} {n d : Nat} {mem : yMem} {Post : Option yV → yMem → Prop} {st : List yV} {r0 r1 r2 r3 r4 r5 : Option yV} {z j : Int} : zvc E (n + 1) zc_95 d xm_95 36 [r0, r1, r2, r3, r4, r5] ((0, j) :: (1, z) :: st) mem Post = ((0 ≤ w32 j ∧ w32 j < ((zar z 0 : Nat) : Int)) ∧ zvc E n zc_95 d xm_95 37 [r0, r1, r2, r3, r4, r5] ((0, mem z.toNat (w32 j).toNat) :: st) mem Post) := zrf rfl
theorem s_95_37n {E : yE} {n d : Nat} {mem : yMem} {Post : Option yV → yMem → Prop} {st : List yV} {r0 r1 r2 r3 r5 : Option yV} {x : Int} : zvc E (n + 1) zc_95 d xm_95 37 [r0, r1, r2, r3, none, r5] ((0, x) :: st) mem Post = (zvc E n zc_95 d xm_95 39 [r0, r1, r2, r3, none, some (0, x)] (st) mem Post) := zrf rfl
theorem s_95_37i {E : yE} {n d : Nat} {mem : yMem} {Post : Option yV → yMem → Prop} {st : List yV} {r0 r1 r2 r3 r5 : Option yV} {x w : Int} : zvc E (n + 1) zc_95 d xm_95 37 [r0, r1, r2, r3, some (0, w), r5] ((0, x) :: st) mem Post = (zvc E n zc_95 d xm_95 39 [r0, r1, r2, r3, some (0, w), some (0, x)] (st) mem Post) := zrf rfl
theorem s_95_37p {E : yE} {n d : Nat} {mem : yMem} {Post : Option yV → yMem → Prop} {st : List yV} {r0 r1 r2 r3 r5 : Option yV} {x w : Int} : zvc E (n + 1) zc_95 d xm_95 37 [r0, r1, r2, r3, some (1, w), r5] ((0, x) :: st) mem Post = (zvc E n zc_95 d xm_95 39 [r0, r1, r2, r3, some (1, w), some (0, x)] (st) mem Post) := zrf rfl
theorem s_95_37j {E : yE} {n d : Nat} {mem : yMem} {Post : Option yV → yMem → Prop} {st : List yV} {r0 r1 r2 r3 r4 r5 : Option yV} {x : Int} : zvc E (n + 1) zc_95 d xm_95 37 [r0, r1, r2, r3, r4, r5] ((0, x) :: st) mem Post = (zvc E n zc_95 d xm_95 39 [r0, r1, r2, r3, znl r4, some (0, x)] (st) mem Post) := zrf rfl
theorem g_95_39 {E : yE} {n d : Nat} {mem : yMem} {Post : Option yV → yMem → Prop} {st : List yV} {r0 r1 r2 r3 r4 : Option yV} {x : Int} : zgo E n zc_95 d xm_95 39 [r0, r1, r2, r3, r4, some (0, x)] (st) mem Post = (zvc E n zc_95 d xm_95 41 [r0, r1, r2, r3, r4, some (0, x)] ((0, x) :: st) mem Post) := zrf rfl
theorem k_95_39 {E : yE} {n d : Nat} {mem : yMem} {Post : Option yV → yMem → Prop} {st : List yV} {rg : zR} : zvc E (n + 1) zc_95 d xm_95 39 rg st mem Post = zG E d xm_95 39 rg st mem Post := zrf rfl
theorem s_95_41 {E : yE} {n d : Nat} {mem : yMem} {Post : Option yV → yMem → Prop} {st : List yV} {r0 r1 r2 r3 r5 : Option yV} {x : Int} : zvc E (n + 1) zc_95 d xm_95 41 [r0, r1, r2, r3, some (1, x), r5] (st) mem Post = (zvc E n zc_95 d xm_95 43 [r0, r1, r2, r3, some (1, x), r5] ((1, x) :: st) mem Post) := zrf rfl
theorem s_95_43_22 {E : yE} {n d : Nat} {mem : yMem} {Post : Option yV → yMem → Prop} {st : List yV} {r0 r1 r2 r3 r4 r5 : Option yV} : zvc E (n + 1) zc_95 d xm_95 43 [r0, r1, r2, r3, r4, r5] ((1, 22) :: st) mem Post = (zvc E n zc_95 d xm_95 46 [r0, r1, r2, r3, r4, r5] ((1, 26) :: st) mem Post) := zrf rfl
theorem s_95_43_48 {E : yE} {n d : Nat} {mem : yMem} {Post : Option yV → yMem → Prop} {st : List yV} {r0 r1 r2 r3 r4 r5 : Option yV} : zvc E (n + 1) zc_95 d xm_95 43 [r0, r1, r2, r3, r4, r5] ((1, 48) :: st) mem Post = (zvc E n zc_95 d xm_95 46 [r0, r1, r2, r3, r4, r5] ((1, 52) :: st) mem Post) := zrf rfl
theorem s_95_46 {E : yE} {n d : Nat} {mem : yMem} {Post : Option yV → yMem → Prop} {st : List yV} {r0 r2 r3 r4 r5 : Option yV} {x : Int} : zvc E (n + 1) zc_95 d xm_95 46 [r0, some (0, x), r2, r3, r4, r5] (st) mem Post = (zvc E n zc_95 d xm_95 47 [r0, some (0, x), r2, r3, r4, r5] ((0, x) :: st) mem Post) := zrf rfl
theorem s_95_47 {E : yE} {n d : Nat} {mem : yMem} {Post : Option yV → yMem → Prop} {st : List yV} {r0 r1 r2 r3 r4 r5 : Option yV} {z j : Int} : zvc E (n + 1) zc_95 d xm_95 47 [r0, r1, r2, r3, r4, r5] ((0, j) :: (1, z) :: st) mem Post = ((0 ≤ w32 j ∧ w32 j < ((zar z 0 : Nat) : Int)) ∧ zvc E n zc_95 d xm_95 48 [r0, r1, r2, r3, r4, r5] ((0, mem z.toNat (w32 j).toNat) :: st) mem Post) := zrf rfl
theorem s_95_48 {E : yE} {n d : Nat} {mem : yMem} {Post : Option yV → yMem → Prop} {st : List yV} {r0 r1 r2 r3 r4 r5 : Option yV} {x y : Int} : zvc E (n + 1) zc_95 d xm_95 48 [r0, r1, r2, r3, r4, r5] ((0, y) :: (0, x) :: st) mem Post = ((w32 y ≤ w32 x → zvc E n zc_95 d xm_95 84 [r0, r1, r2, r3, r4, r5] (st) mem Post) ∧ (¬ (w32 y ≤ w32 x) → zvc E n zc_95 d xm_95 51 [r0, r1, r2, r3, r4, r5] (st) mem Post)) := zrf rfl
theorem s_95_51 {E : yE} {n d : Nat} {mem : yMem} {Post : Option yV → yMem → Prop} {st : List yV} {r1 r2 r3 r4 r5 : Option yV} {x : Int} : zvc E (n + 1) zc_95 d xm_95 51 [some (1, x), r1, r2, r3, r4, r5] (st) mem Post = (zvc E n zc_95 d xm_95 52 [some (1, x), r1, r2, r3, r4, r5] ((1, x) :: st) mem Post) := zrf rfl
theorem s_95_52 {E : yE} {n d : Nat} {mem : yMem} {Post : Option yV → yMem → Prop} {st : List yV} {r0 r1 r2 r3 r4 r5 : Option yV} : zvc E (n + 1) zc_95 d xm_95 52 [r0, r1, r2, r3, r4, r5] ((1, 73) :: st) mem Post = (zvc E n zc_95 d xm_95 55 [r0, r1, r2, r3, r4, r5] ((0, mem 73 5) :: st) mem Post) := zrf rfl
theorem s_95_55 {E : yE} {n d : Nat} {mem : yMem} {Post : Option yV → yMem → Prop} {st : List yV} {r0 r1 r2 r3 r4 r5 : Option yV} {x : Int} : zvc E (n + 1) zc_95 d xm_95 55 [r0, r1, r2, r3, r4, r5] ((0, x) :: st) mem Post = ((¬ w32 x = w32 0 → zvc E n zc_95 d xm_95 84 [r0, r1, r2, r3, r4, r5] (st) mem Post) ∧ (¬ (¬ w32 x = w32 0) → zvc E n zc_95 d xm_95 58 [r0, r1, r2, r3, r4, r5] (st) mem Post)) := zrf rfl
theorem s_95_58 {E : yE} {n d : Nat} {mem : yMem} {Post : Option yV → yMem → Prop} {st : List yV} {r1 r2 r3 r4 r5 : Option yV} {x : Int} : zvc E (n + 1) zc_95 d xm_95 58 [some (1, x), r1, r2, r3, r4, r5] (st) mem Post = (zvc E n zc_95 d xm_95 59 [some (1, x), r1, r2, r3, r4, r5] ((1, x) :: st) mem Post) := zrf rfl
theorem s_95_59 {E : yE} {n d : Nat} {mem : yMem} {Post : Option yV → yMem → Prop} {st : List yV} {r0 r1 r2 r3 r5 : Option yV} {x : Int} : zvc E (n + 1) zc_95 d xm_95 59 [r0, r1, r2, r3, some (1, x), r5] (st) mem Post = (zvc E n zc_95 d xm_95 61 [r0, r1, r2, r3, some (1, x), r5] ((1, x) :: st) mem Post) := zrf rfl
theorem s_95_61_22 {E : yE} {n d : Nat} {mem : yMem} {Post : Option yV → yMem → Prop} {st : List yV} {r0 r1 r2 r3 r4 r5 : Option yV} : zvc E (n + 1) zc_95 d xm_95 61 [r0, r1, r2, r3, r4, r5] ((1, 22) :: st) mem Post = (zvc E n zc_95 d xm_95 64 [r0, r1, r2, r3, r4, r5] ((1, 23) :: st) mem Post) := zrf rfl
theorem s_95_61_48 {E : yE} {n d : Nat} {mem : yMem} {Post : Option yV → yMem → Prop} {st : List yV} {r0 r1 r2 r3 r4 r5 : Option yV} : zvc E (n + 1) zc_95 d xm_95 61 [r0, r1, r2, r3, r4, r5] ((1, 48) :: st) mem Post = (zvc E n zc_95 d xm_95 64 [r0, r1, r2, r3, r4, r5] ((1, 49) :: st) mem Post) := zrf rfl
theorem s_95_64 {E : yE} {n d : Nat} {mem : yMem} {Post : Option yV → yMem → Prop} {st : List yV} {r0 r1 r2 r3 r4 : Option yV} {x : Int} : zvc E (n + 1) zc_95 d xm_95 64 [r0, r1, r2, r3, r4, some (0, x)] (st) mem Post = (zvc E n zc_95 d xm_95 66 [r0, r1, r2, r3, r4, some (0, x)] ((0, x) :: st) mem Post) := zrf rfl
theorem s_95_66 {E : yE} {n d : Nat} {mem : yMem} {Post : Option yV → yMem → Prop} {st : List yV} {r0 r1 r2 r3 r4 r5 : Option yV} {z j : Int} : zvc E (n + 1) zc_95 d xm_95 66 [r0, r1, r2, r3, r4, r5] ((0, j) :: (1, z) :: st) mem Post = ((0 ≤ w32 j ∧ w32 j < ((zar z 0 : Nat) : Int)) ∧ zvc E n zc_95 d xm_95 67 [r0, r1, r2, r3, r4, r5] ((0, mem z.toNat (w32 j).toNat) :: st) mem Post) := zrf rfl
theorem s_95_67 {E : yE} {n d : Nat} {mem : yMem} {Post : Option yV → yMem → Prop} {st : List yV} {r0 r1 r2 r3 r5 : Option yV} {x : Int} : zvc E (n + 1) zc_95 d xm_95 67 [r0, r1, r2, r3, some (1, x), r5] (st) mem Post = (zvc E n zc_95 d xm_95 69 [r0, r1, r2, r3, some (1, x), r5] ((1, x) :: st) mem Post) := zrf rfl
theorem s_95_69_22 {E : yE} {n d : Nat} {mem : yMem} {Post : Option yV → yMem → Prop} {st : List yV} {r0 r1 r2 r3 r4 r5 : Option yV} : zvc E (n + 1) zc_95 d xm_95 69 [r0, r1, r2, r3, r4, r5] ((1, 22) :: st) mem Post = (zvc E n zc_95 d xm_95 72 [r0, r1, r2, r3, r4, r5] ((1, 24) :: st) mem Post) := zrf rfl
theorem s_95_69_48 {E : yE} {n d : Nat} {mem : yMem} {Post : Option yV → yMem → Prop} {st : List yV} {r0 r1 r2 r3 r4 r5 : Option yV} : zvc E (n + 1) zc_95 d xm_95 69 [r0, r1, r2, r3, r4, r5] ((1, 48) :: st) mem Post = (zvc E n zc_95 d xm_95 72 [r0, r1, r2, r3, r4, r5] ((1, 50) :: st) mem Post) := zrf rfl
theorem s_95_72 {E : yE} {n d : Nat} {mem : yMem} {Post : Option yV → yMem → Prop} {st : List yV} {r0 r1 r2 r3 r4 : Option yV} {x : Int} : zvc E (n + 1) zc_95 d xm_95 72 [r0, r1, r2, r3, r4, some (0, x)] (st) mem Post = (zvc E n zc_95 d xm_95 74 [r0, r1, r2, r3, r4, some (0, x)] ((0, x) :: st) mem Post) := zrf rfl
theorem s_95_74 {E : yE} {n d : Nat} {mem : yMem} {Post : Option yV → yMem → Prop} {st : List yV} {r0 r1 r2 r3 r4 r5 : Option yV} {z j : Int} : zvc E (n + 1) zc_95 d xm_95 74 [r0, r1, r2, r3, r4, r5] ((0, j) :: (1, z) :: st) mem Post = ((0 ≤ w32 j ∧ w32 j < ((zar z 0 : Nat) : Int)) ∧ zvc E n zc_95 d xm_95 75 [r0, r1, r2, r3, r4, r5] ((0, mem z.toNat (w32 j).toNat) :: st) mem Post) := zrf rfl
theorem s_95_75 {E : yE} {n d : Nat} {mem : yMem} {Post : Option yV → yMem → Prop} {st : List yV} {r0 r1 r2 r3 r4 r5 : Option yV} {z a0 a1 : Int} : zvc E (n + 1) zc_95 d xm_95 75 [r0, r1, r2, r3, r4, r5] ((0, a1) :: (0, a0) :: (1, z) :: st) mem Post = (zio z 5 = true ∧ ysum st ≤ 8 ∧ yCon E d xm_88 [(1, z), (0, a0), (0, a1)] mem (fun v mem' => zgk E d xm_95 78 [r0, r1, r2, r3, r4, r5] st v mem' Post)) := zrf rfl
theorem s_95_78n {E : yE} {n d : Nat} {mem : yMem} {Post : Option yV → yMem → Prop} {st : List yV} {r0 r1 r2 r3 : Option yV} {x : Int} : zvc E (n + 1) zc_95 d xm_95 78 [r0, r1, r2, r3, none, some (0, x)] (st) mem Post = (zvc E n zc_95 d xm_95 81 [r0, r1, r2, r3, none, some (0, x + 1)] (st) mem Post) := zrf rfl
theorem s_95_78i {E : yE} {n d : Nat} {mem : yMem} {Post : Option yV → yMem → Prop} {st : List yV} {r0 r1 r2 r3 : Option yV} {x w : Int} : zvc E (n + 1) zc_95 d xm_95 78 [r0, r1, r2, r3, some (0, w), some (0, x)] (st) mem Post = (zvc E n zc_95 d xm_95 81 [r0, r1, r2, r3, some (0, w), some (0, x + 1)] (st) mem Post) := zrf rfl
theorem s_95_78p {E : yE} {n d : Nat} {mem : yMem} {Post : Option yV → yMem → Prop} {st : List yV} {r0 r1 r2 r3 : Option yV} {x w : Int} : zvc E (n + 1) zc_95 d xm_95 78 [r0, r1, r2, r3, some (1, w), some (0, x)] (st) mem Post = (zvc E n zc_95 d xm_95 81 [r0, r1, r2, r3, some (1, w), some (0, x + 1)] (st) mem Post) := zrf rfl
theorem s_95_78j {E : yE} {n d : Nat} {mem : yMem} {Post : Option yV → yMem → Prop} {st : List yV} {r0 r1 r2 r3 r4 : Option yV} {x : Int} : zvc E (n + 1) zc_95 d xm_95 78 [r0, r1, r2, r3, r4, some (0, x)] (st) mem Post = (zvc E n zc_95 d xm_95 81 [r0, r1, r2, r3, znl r4, some (0, x + 1)] (st) mem Post) := zrf rfl
theorem s_95_81 {E : yE} {n d : Nat} {mem : yMem} {Post : Option yV → yMem → Prop} {st : List yV} {r0 r1 r2 r3 r4 r5 : Option yV} : zvc E (n + 1) zc_95 d xm_95 81 [r0, r1, r2, r3, r4, r5] (st) mem Post = (zvc E n zc_95 d xm_95 39 [r0, r1, r2, r3, r4, r5] (st) mem Post) := zrf rfl
theorem g_95_84 {E : yE} {n d : Nat} {mem : yMem} {Post : Option yV → yMem → Prop} {st : List yV} {r1 r2 r3 r4 r5 : Option yV} {x : Int} : zgo E n zc_95 d xm_95 84 [some (1, x), r1, r2, r3, r4, r5] (st) mem Post = (zvc E n zc_95 d xm_95 85 [some (1, x), r1, r2, r3, r4, r5] ((1, x) :: st) mem Post) := zrf rfl
theorem k_95_84 {E : yE} {n d : Nat} {mem : yMem} {Post : Option yV → yMem → Prop} {st : List yV} {rg : zR} : zvc E (n + 1) zc_95 d xm_95 84 rg st mem Post = zG E d xm_95 84 rg st mem Post := zrf rfl
theorem s_95_85 {E : yE} {n d : Nat} {mem : yMem} {Post : Option yV → yMem → Prop} {st : List yV} {r0 r1 r2 r3 r4 r5 : Option yV} : zvc E (n + 1) zc_95 d xm_95 85 [r0, r1, r2, r3, r4, r5] ((1, 73) :: st) mem Post = (zvc E n zc_95 d xm_95 88 [r0, r1, r2, r3, r4, r5] ((0, mem 73 5) :: st) mem Post) := zrf rfl
theorem s_95_88 {E : yE} {n d : Nat} {mem : yMem} {Post : Option yV → yMem → Prop} {st : List yV} {r0 r1 r2 r3 r4 r5 : Option yV} {x : Int} : zvc E (n + 1) zc_95 d xm_95 88 [r0, r1, r2, r3, r4, r5] ((0, x) :: st) mem Post = ((w32 x = w32 0 → zvc E n zc_95 d xm_95 93 [r0, r1, r2, r3, r4, r5] (st) mem Post) ∧ (¬ (w32 x = w32 0) → zvc E n zc_95 d xm_95 91 [r0, r1, r2, r3, r4, r5] (st) mem Post)) := zrf rfl
theorem s_95_91 {E : yE} {n d : Nat} {mem : yMem} {Post : Option yV → yMem → Prop} {st : List yV} {r0 r1 r2 r4 r5 : Option yV} {x : Int} : zvc E (n + 1) zc_95 d xm_95 91 [r0, r1, r2, some (0, x), r4, r5] (st) mem Post = (zvc E n zc_95 d xm_95 92 [r0, r1, r2, some (0, x), r4, r5] ((0, x) :: st) mem Post) := zrf rfl
theorem s_95_92 {E : yE} {n d : Nat} {mem : yMem} {Post : Option yV → yMem → Prop} {r0 r1 r2 r3 r4 r5 : Option yV} {x : Int} : zvc E (n + 1) zc_95 d xm_95 92 [r0, r1, r2, r3, r4, r5] ([(0, x)]) mem Post = (Post (some (0, x)) mem) := zrf rfl
theorem s_95_93 {E : yE} {n d : Nat} {mem : yMem} {Post : Option yV → yMem → Prop} {st : List yV} {r0 r1 r2 r3 r4 r5 : Option yV} : zvc E (n + 1) zc_95 d xm_95 93 [r0, r1, r2, r3, r4, r5] (st) mem Post = (zvc E n zc_95 d xm_95 94 [r0, r1, r2, r3, r4, r5] ((4, 0) :: st) mem Post) := zrf rfl
theorem s_95_94 {E : yE} {n d : Nat} {mem : yMem} {Post : Option yV → yMem → Prop} {st : List yV} {r0 r1 r3 r4 r5 : Option yV} {x : Int} : zvc E (n + 1) zc_95 d xm_95 94 [r0, r1, some (0, x), r3, r4, r5] (st) mem Post = (zvc E n zc_95 d xm_95 95 [r0, r1, some (0, x), r3, r4, r5] ((0, x) :: st) mem Post) := zrf rfl
theorem s_95_95 {E : yE} {n d : Nat} {mem : yMem} {Post : Option yV → yMem → Prop} {st : List yV} {r0 r1 r2 r3 r4 r5 : Option yV} {x : Int} : zvc E (n + 1) zc_95 d xm_95 95 [r0, r1, r2, r3, r4, r5] ((0, x) :: st) mem Post = (zvc E n zc_95 d xm_95 96 [r0, r1, r2, r3, r4, r5] ((4, w32 x) :: st) mem Post) := zrf rfl
theorem s_95_96 {E : yE} {n d : Nat} {mem : yMem} {Post : Option yV → yMem → Prop} {st : List yV} {r1 r2 r3 r4 r5 : Option yV} {x : Int} : zvc E (n + 1) zc_95 d xm_95 96 [some (1, x), r1, r2, r3, r4, r5] (st) mem Post = (zvc E n zc_95 d xm_95 97 [some (1, x), r1, r2, r3, r4, r5] ((1, x) :: st) mem Post) := zrf rfl
theorem s_95_97 {E : yE} {n d : Nat} {mem : yMem} {Post : Option yV → yMem → Prop} {st : List yV} {r0 r1 r2 r3 r4 r5 : Option yV} {z : Int} : zvc E (n + 1) zc_95 d xm_95 97 [r0, r1, r2, r3, r4, r5] ((1, z) :: st) mem Post = (zio z 5 = true ∧ ysum st ≤ 8 ∧ yCon E d xm_93 [(1, z)] mem (fun v mem' => zgk E d xm_95 100 [r0, r1, r2, r3, r4, r5] st v mem' Post)) := zrf rfl
theorem s_95_100 {E : yE} {n d : Nat} {mem : yMem} {Post : Option yV → yMem → Prop} {st : List yV} {r0 r1 r2 r3 r4 r5 : Option yV} {x y : Int} : zvc E (n + 1) zc_95 d xm_95 100 [r0, r1, r2, r3, r4, r5] ((4, y) :: (4, x) :: st) mem Post = (ysum st ≤ 8 ∧ zvc E n zc_95 d xm_95 103 [r0, r1, r2, r3, r4, r5] ((4, zmnl x y) :: st) mem Post) := zrf rfl
theorem s_95_103 {E : yE} {n d : Nat} {mem : yMem} {Post : Option yV → yMem → Prop} {st : List yV} {r0 r1 r2 r3 r4 r5 : Option yV} {x y : Int} : zvc E (n + 1) zc_95 d xm_95 103 [r0, r1, r2, r3, r4, r5] ((4, y) :: (4, x) :: st) mem Post = (ysum st ≤ 8 ∧ zvc E n zc_95 d xm_95 106 [r0, r1, r2, r3, r4, r5] ((4, zmxl x y) :: st) mem Post) := zrf rfl
theorem s_95_106 {E : yE} {n d : Nat} {mem : yMem} {Post : Option yV → yMem → Prop} {st : List yV} {r0 r1 r2 r3 r4 r5 : Option yV} {x : Int} : zvc E (n + 1) zc_95 d xm_95 106 [r0, r1, r2, r3, r4, r5] ((4, x) :: st) mem Post = (zvc E n zc_95 d xm_95 107 [r0, r1, r2, r3, r4, r5] ((0, x) :: st) mem Post) := zrf rfl
theorem s_95_107 {E : yE} {n d : Nat} {mem : yMem} {Post : Option yV → yMem → Prop} {r0 r1 r2 r3 r4 r5 : Option yV} {x : Int} : zvc E (n + 1) zc_95 d xm_95 107 [r0, r1, r2, r3, r4, r5] ([(0, x)]) mem Post = (Post (some (0, x)) mem) := zrf rfl
theorem e_95 {E : yE} {d : Nat} {mem : yMem} {Q : Option yV → yMem → Prop} {z a0 a1 a2 : Int} (h : zG E d xm_95 0 [some (1, z), some (0, a0), some (0, a1), some (0, a2), none, none] [] mem Q) : yCon E (d + 1) xm_95 [(1, z), (0, a0), (0, a1), (0, a2)] mem Q := zcon_of xmo_95 (Nat.le_of_ble_eq_true rfl) h

/-! THE CLASS works out an E -/
/-- what an E comes to, within 0 .. most; oth: what it is otherwise -/
def eWn (fs : dFs) (f : Nat) (most oth : Int) (nm : Nat → Int) : Int := if (fs.1 f).2 ≤ (fs.1 f).1 then oth else match eRn (knD fs.2.2) nm ((fs.1 f).2 - (fs.1 f).1).toNat (fs.1 f).1.toNat [] with
  | none => oth
  | some st => max 0 (min most (st.headD 0))
/-- an E that can be worked out: its KNOTS are put one behind another, and come to one value -/
def fOk (fs : dFs) (f : Nat) : Prop := 0 ≤ (fs.1 f).1 ∧ (fs.1 f).1 ≤ (fs.1 f).2 ∧ (fs.1 f).2 ≤ (fs.2.2.length : Int)
theorem eAp_len {nm : Nat → Int} {q : Nat × Int} {st st' : List Int} (h : eAp nm q st = some st') : st'.length ≤ st.length + 1 := by
  unfold eAp at h
  have l1 := List.length_tail (l := st)
  have l2 := List.length_tail (l := st.tail)
  split at h
  · cases h; exact Nat.le_refl _
  · split at h
    · cases h; exact Nat.le_refl _
    · split at h
      · cases h
        show st.tail.length + 1 ≤ _
        omega
      · split at h
        · cases h
          show st.tail.tail.length + 1 ≤ _
          omega
        · cases h
theorem clampv {a w : Int} (h0 : 0 ≤ w32 a) : w32 (zmxl 0 (zmnl (w32 a) w)) = max 0 (min (w32 a) (w64 w)) := by
  have ha := w32_hi a
  have ea : w64 (w32 a) = w32 a := w64_of (by omega) (by omega)
  have k : w64 (zmxl 0 (zmnl (w32 a) w)) = max 0 (min (w32 a) (w64 w)) := by
    unfold zmxl zmnl
    rw [w64_0, ea]
    by_cases h1 : w64 w < w32 a
    · rw [if_pos h1]
      by_cases h2 : w64 w < 0
      · rw [if_pos h2, w64_0]; omega
      · rw [if_neg h2]; omega
    · rw [if_neg h1, ea, if_neg (by omega), ea]; omega
  rw [← w32_w64, k]
  exact w32_of (by omega) (by omega)
section EX
variable {E : yE} {mem : yMem} {Q : Option yV → yMem → Prop} {st : List Int} {nm : Nat → Int}
theorem xr84 (hE : yEok E) {d : Nat} {F A B i : Int} {m : yMem} (hA : 0 ≤ w32 A) (hl : st.length ≤ 64) (h : eSt m st 0) (hQ : ∀ r m', evF m m' → w32 r = max 0 (min (w32 A) (st.headD 0)) → Q (some (0, r)) m') : zG E (d + 1) xm_95 84 [some (1, 73), some (0, F), some (0, A), some (0, B), some (1, 22), some (0, i)] [] m Q := by
  refine zgo_ok (n := 60) hE xmo_95 (cs := zc_95) ?_
  have h5 : w32 (m 73 5) = 0 := h.2.2
  simp only [ynok_30, ynok_31, w32c_0, w32c_1, w32c_2, w32c_3, w32c_4, w32c_5, w32c_6, w32c_7, w32c_8, w32c_9, w32c_10, w32c_11, w32c_12, w32c_13, w32c_14, w32c_m1, w32c_m2, w32c_118, Int.reduceAdd, Int.reduceSub, Int.reduceMul, yput_s, yput_n, znl_n, znl_0, znl_1, znl_4, ysum_n, ysum_0, ysum_1, ysum_4, true_and, and_true, Nat.reduceAdd, Nat.reduceLeDiff, true_implies, eq_self, true_or, or_true, or_false, false_or, not_true_eq_false, not_false_eq_true, false_implies, implies_true, yset_s, yset_o, yset_d, ne_eq, Nat.reduceEqDiff, Int.reduceToNat, Int.reduceEq, Int.reduceLE, Int.reduceLT, Classical.not_not, Nat.reduceLT, ↓zvk_s, ↓zvk_n, ↓s_95_0, ↓s_95_1, ↓s_95_4_2, ↓s_95_4_28, ↓s_95_7n, ↓s_95_7i, ↓s_95_7p, ↓s_95_9, ↓s_95_11, ↓s_95_12, ↓s_95_15, ↓s_95_18, ↓s_95_19, ↓s_95_20, ↓s_95_21, ↓s_95_22, ↓s_95_25, ↓s_95_26, ↓s_95_27, ↓s_95_30, ↓s_95_32_22, ↓s_95_32_48, ↓s_95_35, ↓s_95_36, ↓s_95_37n, ↓s_95_37i, ↓s_95_37p, ↓g_95_39, ↓k_95_39, ↓s_95_41, ↓s_95_43_22, ↓s_95_43_48, ↓s_95_46, ↓s_95_47, ↓s_95_48, ↓s_95_51, ↓s_95_52, ↓s_95_55, ↓s_95_58, ↓s_95_59, ↓s_95_61_22, ↓s_95_61_48, ↓s_95_64, ↓s_95_66, ↓s_95_67, ↓s_95_69_22, ↓s_95_69_48, ↓s_95_72, ↓s_95_74, ↓s_95_75, ↓s_95_78n, ↓s_95_78i, ↓s_95_78p, ↓s_95_81, ↓g_95_84, ↓k_95_84, ↓s_95_85, ↓s_95_88, ↓s_95_91, ↓s_95_92, ↓s_95_93, ↓s_95_94, ↓s_95_95, ↓s_95_96, ↓s_95_97, ↓s_95_100, ↓s_95_103, ↓s_95_106, ↓s_95_107, zio_2, zio_73, zio_48, zar_49, zia_49, zln_49, zit_49, zar_50, zia_50, zln_50, zit_50, zar_51, zia_51, zln_51, zit_51, zar_52, zia_52, zln_52, zit_52, zio_22, zar_23, zia_23, zln_23, zit_23, zar_24, zia_24, zln_24, zit_24, zar_25, zia_25, zln_25, zit_25, zar_26, zia_26, zln_26, zit_26, zio_28, h5]
  refine xe_pop hE (by omega) h hl (fun x m1 hx F1 _ => ?_)
  refine zgk_s hE xmo_95 60 zc_95 ?_
  simp only [ynok_30, ynok_31, w32c_0, w32c_1, w32c_2, w32c_3, w32c_4, w32c_5, w32c_6, w32c_7, w32c_8, w32c_9, w32c_10, w32c_11, w32c_12, w32c_13, w32c_14, w32c_m1, w32c_m2, w32c_118, Int.reduceAdd, Int.reduceSub, Int.reduceMul, yput_s, yput_n, znl_n, znl_0, znl_1, znl_4, ysum_n, ysum_0, ysum_1, ysum_4, true_and, and_true, Nat.reduceAdd, Nat.reduceLeDiff, true_implies, eq_self, true_or, or_true, or_false, false_or, not_true_eq_false, not_false_eq_true, false_implies, implies_true, yset_s, yset_o, yset_d, ne_eq, Nat.reduceEqDiff, Int.reduceToNat, Int.reduceEq, Int.reduceLE, Int.reduceLT, Classical.not_not, Nat.reduceLT, ↓zvk_s, ↓zvk_n, ↓s_95_0, ↓s_95_1, ↓s_95_4_2, ↓s_95_4_28, ↓s_95_7n, ↓s_95_7i, ↓s_95_7p, ↓s_95_9, ↓s_95_11, ↓s_95_12, ↓s_95_15, ↓s_95_18, ↓s_95_19, ↓s_95_20, ↓s_95_21, ↓s_95_22, ↓s_95_25, ↓s_95_26, ↓s_95_27, ↓s_95_30, ↓s_95_32_22, ↓s_95_32_48, ↓s_95_35, ↓s_95_36, ↓s_95_37n, ↓s_95_37i, ↓s_95_37p, ↓g_95_39, ↓k_95_39, ↓s_95_41, ↓s_95_43_22, ↓s_95_43_48, ↓s_95_46, ↓s_95_47, ↓s_95_48, ↓s_95_51, ↓s_95_52, ↓s_95_55, ↓s_95_58, ↓s_95_59, ↓s_95_61_22, ↓s_95_61_48, ↓s_95_64, ↓s_95_66, ↓s_95_67, ↓s_95_69_22, ↓s_95_69_48, ↓s_95_72, ↓s_95_74, ↓s_95_75, ↓s_95_78n, ↓s_95_78i, ↓s_95_78p, ↓s_95_81, ↓g_95_84, ↓k_95_84, ↓s_95_85, ↓s_95_88, ↓s_95_91, ↓s_95_92, ↓s_95_93, ↓s_95_94, ↓s_95_95, ↓s_95_96, ↓s_95_97, ↓s_95_100, ↓s_95_103, ↓s_95_106, ↓s_95_107, zio_2, zio_73, zio_48, zar_49, zia_49, zln_49, zit_49, zar_50, zia_50, zln_50, zit_50, zar_51, zia_51, zln_51, zit_51, zar_52, zia_52, zln_52, zit_52, zio_22, zar_23, zia_23, zln_23, zit_23, zar_24, zia_24, zln_24, zit_24, zar_25, zia_25, zln_25, zit_25, zar_26, zia_26, zln_26, zit_26, zio_28]
  exact hQ _ m1 F1 (by rw [clampv hA, hx])
theorem xr84e (hE : yEok E) {d : Nat} {F A B i : Int} {m : yMem} (h : w32 (m 73 5) = 1) (hQ : Q (some (0, B)) m) : zG E (d + 1) xm_95 84 [some (1, 73), some (0, F), some (0, A), some (0, B), some (1, 22), some (0, i)] [] m Q := by
  refine zgo_ok (n := 60) hE xmo_95 (cs := zc_95) ?_
  simp only [ynok_30, ynok_31, w32c_0, w32c_1, w32c_2, w32c_3, w32c_4, w32c_5, w32c_6, w32c_7, w32c_8, w32c_9, w32c_10, w32c_11, w32c_12, w32c_13, w32c_14, w32c_m1, w32c_m2, w32c_118, Int.reduceAdd, Int.reduceSub, Int.reduceMul, yput_s, yput_n, znl_n, znl_0, znl_1, znl_4, ysum_n, ysum_0, ysum_1, ysum_4, true_and, and_true, Nat.reduceAdd, Nat.reduceLeDiff, true_implies, eq_self, true_or, or_true, or_false, false_or, not_true_eq_false, not_false_eq_true, false_implies, implies_true, yset_s, yset_o, yset_d, ne_eq, Nat.reduceEqDiff, Int.reduceToNat, Int.reduceEq, Int.reduceLE, Int.reduceLT, Classical.not_not, Nat.reduceLT, ↓zvk_s, ↓zvk_n, ↓s_95_0, ↓s_95_1, ↓s_95_4_2, ↓s_95_4_28, ↓s_95_7n, ↓s_95_7i, ↓s_95_7p, ↓s_95_9, ↓s_95_11, ↓s_95_12, ↓s_95_15, ↓s_95_18, ↓s_95_19, ↓s_95_20, ↓s_95_21, ↓s_95_22, ↓s_95_25, ↓s_95_26, ↓s_95_27, ↓s_95_30, ↓s_95_32_22, ↓s_95_32_48, ↓s_95_35, ↓s_95_36, ↓s_95_37n, ↓s_95_37i, ↓s_95_37p, ↓g_95_39, ↓k_95_39, ↓s_95_41, ↓s_95_43_22, ↓s_95_43_48, ↓s_95_46, ↓s_95_47, ↓s_95_48, ↓s_95_51, ↓s_95_52, ↓s_95_55, ↓s_95_58, ↓s_95_59, ↓s_95_61_22, ↓s_95_61_48, ↓s_95_64, ↓s_95_66, ↓s_95_67, ↓s_95_69_22, ↓s_95_69_48, ↓s_95_72, ↓s_95_74, ↓s_95_75, ↓s_95_78n, ↓s_95_78i, ↓s_95_78p, ↓s_95_81, ↓g_95_84, ↓k_95_84, ↓s_95_85, ↓s_95_88, ↓s_95_91, ↓s_95_92, ↓s_95_93, ↓s_95_94, ↓s_95_95, ↓s_95_96, ↓s_95_97, ↓s_95_100, ↓s_95_103, ↓s_95_106, ↓s_95_107, zio_2, zio_73, zio_48, zar_49, zia_49, zln_49, zit_49, zar_50, zia_50, zln_50, zit_50, zar_51, zia_51, zln_51, zit_51, zar_52, zia_52, zln_52, zit_52, zio_22, zar_23, zia_23, zln_23, zit_23, zar_24, zia_24, zln_24, zit_24, zar_25, zia_25, zln_25, zit_25, zar_26, zia_26, zln_26, zit_26, zio_28, h]
  exact hQ
theorem xr39 (hE : yEok E) {d : Nat} {fs : dFs} {f : Nat} {F A B : Int} (hf : w32 F = (f : Int)) (hf5 : f < 5) (hA : 0 ≤ w32 A) (hFs : cFh mem fs) (hk : ∀ q ∈ fs.2.2, kOk q.1) (hN : ∀ i, i < 7 → w64 (mem 74 i) = nm i ∧ eIn (nm i)) {b : Nat} (hb : (fs.1 f).2 = (b : Int)) (hbl : b ≤ fs.2.2.length) {R : Option (List Int)} (hQ : ∀ r m, evF mem m → ((R = none ∧ w32 r = w32 B) ∨ ∃ st, R = some st ∧ w32 r = max 0 (min (w32 A) (st.headD 0))) → Q (some (0, r)) m) : ∀ (n k : Nat) (K : Int) (m : yMem) (st : List Int), b - k = n → k ≤ b → w32 K = (k : Int) → evF mem m → eSt m st 0 → (∀ w ∈ st, eIn w) → st.length ≤ k → R = eRn (knD fs.2.2) nm n k st → zG E (d + 3) xm_95 39 [some (1, 73), some (0, F), some (0, A), some (0, B), some (1, 22), some (0, K)] [] m Q := by
  obtain ⟨c1, ⟨c2, c3⟩, c4⟩ := hFs
  have ft : (w32 F).toNat = f := by rw [hf]; exact Int.toNat_natCast _
  intro n
  induction n with
  | zero =>
    intro k K m st hn hkb hK hF hS hI hl hR
    have e26 : w32 (m 26 f) = (b : Int) := by rw [hF 26 f (by omega) (by decide), (c1 f hf5).2]; exact hb
    refine zgo_ok (n := 60) hE xmo_95 (cs := zc_95) ?_
    simp only [ynok_30, ynok_31, w32c_0, w32c_1, w32c_2, w32c_3, w32c_4, w32c_5, w32c_6, w32c_7, w32c_8, w32c_9, w32c_10, w32c_11, w32c_12, w32c_13, w32c_14, w32c_m1, w32c_m2, w32c_118, Int.reduceAdd, Int.reduceSub, Int.reduceMul, yput_s, yput_n, znl_n, znl_0, znl_1, znl_4, ysum_n, ysum_0, ysum_1, ysum_4, true_and, and_true, Nat.reduceAdd, Nat.reduceLeDiff, true_implies, eq_self, true_or, or_true, or_false, false_or, not_true_eq_false, not_false_eq_true, false_implies, implies_true, yset_s, yset_o, yset_d, ne_eq, Nat.reduceEqDiff, Int.reduceToNat, Int.reduceEq, Int.reduceLE, Int.reduceLT, Classical.not_not, Nat.reduceLT, ↓zvk_s, ↓zvk_n, ↓s_95_0, ↓s_95_1, ↓s_95_4_2, ↓s_95_4_28, ↓s_95_7n, ↓s_95_7i, ↓s_95_7p, ↓s_95_9, ↓s_95_11, ↓s_95_12, ↓s_95_15, ↓s_95_18, ↓s_95_19, ↓s_95_20, ↓s_95_21, ↓s_95_22, ↓s_95_25, ↓s_95_26, ↓s_95_27, ↓s_95_30, ↓s_95_32_22, ↓s_95_32_48, ↓s_95_35, ↓s_95_36, ↓s_95_37n, ↓s_95_37i, ↓s_95_37p, ↓g_95_39, ↓k_95_39, ↓s_95_41, ↓s_95_43_22, ↓s_95_43_48, ↓s_95_46, ↓s_95_47, ↓s_95_48, ↓s_95_51, ↓s_95_52, ↓s_95_55, ↓s_95_58, ↓s_95_59, ↓s_95_61_22, ↓s_95_61_48, ↓s_95_64, ↓s_95_66, ↓s_95_67, ↓s_95_69_22, ↓s_95_69_48, ↓s_95_72, ↓s_95_74, ↓s_95_75, ↓s_95_78n, ↓s_95_78i, ↓s_95_78p, ↓s_95_81, ↓g_95_84, ↓k_95_84, ↓s_95_85, ↓s_95_88, ↓s_95_91, ↓s_95_92, ↓s_95_93, ↓s_95_94, ↓s_95_95, ↓s_95_96, ↓s_95_97, ↓s_95_100, ↓s_95_103, ↓s_95_106, ↓s_95_107, zio_2, zio_73, zio_48, zar_49, zia_49, zln_49, zit_49, zar_50, zia_50, zln_50, zit_50, zar_51, zia_51, zln_51, zit_51, zar_52, zia_52, zln_52, zit_52, zio_22, zar_23, zia_23, zln_23, zit_23, zar_24, zia_24, zln_24, zit_24, zar_25, zia_25, zln_25, zit_25, zar_26, zia_26, zln_26, zit_26, zio_28, ft]
    refine ⟨⟨by omega, by omega⟩, fun _ => xr84 hE hA (by omega) hS (fun r m' F' hr => hQ r m' (evF_tr hF F') (Or.inr ⟨st, hR, hr⟩)), fun h => absurd (show w32 (m 26 f) ≤ w32 K by omega) h⟩
  | succ n ih =>
    intro k K m st hn hkb hK hF hS hI hl hR
    have e26 : w32 (m 26 f) = (b : Int) := by rw [hF 26 f (by omega) (by decide), (c1 f hf5).2]; exact hb
    have hk1 : w32 (K + 1) = ((k + 1 : Nat) : Int) := by rw [w32_ad (by rw [w32c_1]; omega) (by rw [w32c_1]; omega), w32c_1]; omega
    have kt : (w32 K).toNat = k := by rw [hK]; exact Int.toNat_natCast _
    have hko : k < fs.2.2.length := by omega
    obtain ⟨q1, q2⟩ := cKh_kn c4 k hko
    have hq := hk _ (knD_m hko)
    have e5 : w32 (m 73 5) = 0 := hS.2.2
    refine zgo_ok (n := 60) hE xmo_95 (cs := zc_95) ?_
    simp only [ynok_30, ynok_31, w32c_0, w32c_1, w32c_2, w32c_3, w32c_4, w32c_5, w32c_6, w32c_7, w32c_8, w32c_9, w32c_10, w32c_11, w32c_12, w32c_13, w32c_14, w32c_m1, w32c_m2, w32c_118, Int.reduceAdd, Int.reduceSub, Int.reduceMul, yput_s, yput_n, znl_n, znl_0, znl_1, znl_4, ysum_n, ysum_0, ysum_1, ysum_4, true_and, and_true, Nat.reduceAdd, Nat.reduceLeDiff, true_implies, eq_self, true_or, or_true, or_false, false_or, not_true_eq_false, not_false_eq_true, false_implies, implies_true, yset_s, yset_o, yset_d, ne_eq, Nat.reduceEqDiff, Int.reduceToNat, Int.reduceEq, Int.reduceLE, Int.reduceLT, Classical.not_not, Nat.reduceLT, ↓zvk_s, ↓zvk_n, ↓s_95_0, ↓s_95_1, ↓s_95_4_2, ↓s_95_4_28, ↓s_95_7n, ↓s_95_7i, ↓s_95_7p, ↓s_95_9, ↓s_95_11, ↓s_95_12, ↓s_95_15, ↓s_95_18, ↓s_95_19, ↓s_95_20, ↓s_95_21, ↓s_95_22, ↓s_95_25, ↓s_95_26, ↓s_95_27, ↓s_95_30, ↓s_95_32_22, ↓s_95_32_48, ↓s_95_35, ↓s_95_36, ↓s_95_37n, ↓s_95_37i, ↓s_95_37p, ↓g_95_39, ↓k_95_39, ↓s_95_41, ↓s_95_43_22, ↓s_95_43_48, ↓s_95_46, ↓s_95_47, ↓s_95_48, ↓s_95_51, ↓s_95_52, ↓s_95_55, ↓s_95_58, ↓s_95_59, ↓s_95_61_22, ↓s_95_61_48, ↓s_95_64, ↓s_95_66, ↓s_95_67, ↓s_95_69_22, ↓s_95_69_48, ↓s_95_72, ↓s_95_74, ↓s_95_75, ↓s_95_78n, ↓s_95_78i, ↓s_95_78p, ↓s_95_81, ↓g_95_84, ↓k_95_84, ↓s_95_85, ↓s_95_88, ↓s_95_91, ↓s_95_92, ↓s_95_93, ↓s_95_94, ↓s_95_95, ↓s_95_96, ↓s_95_97, ↓s_95_100, ↓s_95_103, ↓s_95_106, ↓s_95_107, zio_2, zio_73, zio_48, zar_49, zia_49, zln_49, zit_49, zar_50, zia_50, zln_50, zit_50, zar_51, zia_51, zln_51, zit_51, zar_52, zia_52, zln_52, zit_52, zio_22, zar_23, zia_23, zln_23, zit_23, zar_24, zia_24, zln_24, zit_24, zar_25, zia_25, zln_25, zit_25, zar_26, zia_26, zln_26, zit_26, zio_28, ft, kt, e5]
    refine ⟨⟨by omega, by omega⟩, fun h => absurd h (by omega), fun _ => ⟨⟨by omega, by omega⟩, ⟨by omega, by omega⟩, ?_⟩⟩
    refine xe_apply (q := knD fs.2.2 k) (nm := nm) hE (by omega) (by rw [hF 23 k (by omega) (by decide)]; exact q1) hq (fun z => by rw [hF 24 k (by omega) (by decide)]; exact q2 z) (fun i hi => by rw [hF 74 i (by omega) (by decide)]; exact hN i hi) hS hI (by omega) (fun m1 F1 g1 g2 => ?_)
    refine zgk_n hE xmo_95 60 zc_95 ?_
    simp only [ynok_30, ynok_31, w32c_0, w32c_1, w32c_2, w32c_3, w32c_4, w32c_5, w32c_6, w32c_7, w32c_8, w32c_9, w32c_10, w32c_11, w32c_12, w32c_13, w32c_14, w32c_m1, w32c_m2, w32c_118, Int.reduceAdd, Int.reduceSub, Int.reduceMul, yput_s, yput_n, znl_n, znl_0, znl_1, znl_4, ysum_n, ysum_0, ysum_1, ysum_4, true_and, and_true, Nat.reduceAdd, Nat.reduceLeDiff, true_implies, eq_self, true_or, or_true, or_false, false_or, not_true_eq_false, not_false_eq_true, false_implies, implies_true, yset_s, yset_o, yset_d, ne_eq, Nat.reduceEqDiff, Int.reduceToNat, Int.reduceEq, Int.reduceLE, Int.reduceLT, Classical.not_not, Nat.reduceLT, ↓zvk_s, ↓zvk_n, ↓s_95_0, ↓s_95_1, ↓s_95_4_2, ↓s_95_4_28, ↓s_95_7n, ↓s_95_7i, ↓s_95_7p, ↓s_95_9, ↓s_95_11, ↓s_95_12, ↓s_95_15, ↓s_95_18, ↓s_95_19, ↓s_95_20, ↓s_95_21, ↓s_95_22, ↓s_95_25, ↓s_95_26, ↓s_95_27, ↓s_95_30, ↓s_95_32_22, ↓s_95_32_48, ↓s_95_35, ↓s_95_36, ↓s_95_37n, ↓s_95_37i, ↓s_95_37p, ↓g_95_39, ↓k_95_39, ↓s_95_41, ↓s_95_43_22, ↓s_95_43_48, ↓s_95_46, ↓s_95_47, ↓s_95_48, ↓s_95_51, ↓s_95_52, ↓s_95_55, ↓s_95_58, ↓s_95_59, ↓s_95_61_22, ↓s_95_61_48, ↓s_95_64, ↓s_95_66, ↓s_95_67, ↓s_95_69_22, ↓s_95_69_48, ↓s_95_72, ↓s_95_74, ↓s_95_75, ↓s_95_78n, ↓s_95_78i, ↓s_95_78p, ↓s_95_81, ↓g_95_84, ↓k_95_84, ↓s_95_85, ↓s_95_88, ↓s_95_91, ↓s_95_92, ↓s_95_93, ↓s_95_94, ↓s_95_95, ↓s_95_96, ↓s_95_97, ↓s_95_100, ↓s_95_103, ↓s_95_106, ↓s_95_107, zio_2, zio_73, zio_48, zar_49, zia_49, zln_49, zit_49, zar_50, zia_50, zln_50, zit_50, zar_51, zia_51, zln_51, zit_51, zar_52, zia_52, zln_52, zit_52, zio_22, zar_23, zia_23, zln_23, zit_23, zar_24, zia_24, zln_24, zit_24, zar_25, zia_25, zln_25, zit_25, zar_26, zia_26, zln_26, zit_26, zio_28]
    have hR : R = (match eAp nm (knD fs.2.2 k) st with | some st' => eRn (knD fs.2.2) nm n (k + 1) st' | none => none) := hR
    cases ha : eAp nm (knD fs.2.2 k) st with
    | some st' =>
      rw [ha] at hR
      obtain ⟨s1, s2⟩ := g1 st' ha
      have := eAp_len ha
      exact ih (k + 1) (K + 1) m1 st' (by omega) (by omega) hk1 (evF_tr hF F1) s1 s2 (by omega) hR
    | none =>
      rw [ha] at hR
      have e5' := g2 ha
      have e26' : w32 (m1 26 f) = (b : Int) := by rw [F1 26 f (by omega) (by decide)]; exact e26
      refine zgo_ok (n := 60) hE xmo_95 (cs := zc_95) ?_
      simp only [ynok_30, ynok_31, w32c_0, w32c_1, w32c_2, w32c_3, w32c_4, w32c_5, w32c_6, w32c_7, w32c_8, w32c_9, w32c_10, w32c_11, w32c_12, w32c_13, w32c_14, w32c_m1, w32c_m2, w32c_118, Int.reduceAdd, Int.reduceSub, Int.reduceMul, yput_s, yput_n, znl_n, znl_0, znl_1, znl_4, ysum_n, ysum_0, ysum_1, ysum_4, true_and, and_true, Nat.reduceAdd, Nat.reduceLeDiff, true_implies, eq_self, true_or, or_true, or_false, false_or, not_true_eq_false, not_false_eq_true, false_implies, implies_true, yset_s, yset_o, yset_d, ne_eq, Nat.reduceEqDiff, Int.reduceToNat, Int.reduceEq, Int.reduceLE, Int.reduceLT, Classical.not_not, Nat.reduceLT, ↓zvk_s, ↓zvk_n, ↓s_95_0, ↓s_95_1, ↓s_95_4_2, ↓s_95_4_28, ↓s_95_7n, ↓s_95_7i, ↓s_95_7p, ↓s_95_9, ↓s_95_11, ↓s_95_12, ↓s_95_15, ↓s_95_18, ↓s_95_19, ↓s_95_20, ↓s_95_21, ↓s_95_22, ↓s_95_25, ↓s_95_26, ↓s_95_27, ↓s_95_30, ↓s_95_32_22, ↓s_95_32_48, ↓s_95_35, ↓s_95_36, ↓s_95_37n, ↓s_95_37i, ↓s_95_37p, ↓g_95_39, ↓k_95_39, ↓s_95_41, ↓s_95_43_22, ↓s_95_43_48, ↓s_95_46, ↓s_95_47, ↓s_95_48, ↓s_95_51, ↓s_95_52, ↓s_95_55, ↓s_95_58, ↓s_95_59, ↓s_95_61_22, ↓s_95_61_48, ↓s_95_64, ↓s_95_66, ↓s_95_67, ↓s_95_69_22, ↓s_95_69_48, ↓s_95_72, ↓s_95_74, ↓s_95_75, ↓s_95_78n, ↓s_95_78i, ↓s_95_78p, ↓s_95_81, ↓g_95_84, ↓k_95_84, ↓s_95_85, ↓s_95_88, ↓s_95_91, ↓s_95_92, ↓s_95_93, ↓s_95_94, ↓s_95_95, ↓s_95_96, ↓s_95_97, ↓s_95_100, ↓s_95_103, ↓s_95_106, ↓s_95_107, zio_2, zio_73, zio_48, zar_49, zia_49, zln_49, zit_49, zar_50, zia_50, zln_50, zit_50, zar_51, zia_51, zln_51, zit_51, zar_52, zia_52, zln_52, zit_52, zio_22, zar_23, zia_23, zln_23, zit_23, zar_24, zia_24, zln_24, zit_24, zar_25, zia_25, zln_25, zit_25, zar_26, zia_26, zln_26, zit_26, zio_28, ft, e5']
      have q : Q (some (0, B)) m1 := hQ B m1 (evF_tr hF F1) (Or.inl ⟨hR, rfl⟩)
      exact ⟨⟨by omega, by omega⟩, fun _ => xr84e hE e5' q, fun _ => xr84e hE e5' q⟩
theorem xe_reckon (hE : yEok E) {D : Nat} (hD : 4 ≤ D) {fs : dFs} {f : Nat} {F A B : Int} (hf : w32 F = (f : Int)) (hf5 : f < 5) (hA : 0 ≤ w32 A) (hFs : cFh mem fs) (hk : ∀ q ∈ fs.2.2, kOk q.1) (hO : fOk fs f) (hN : ∀ i, i < 7 → w64 (mem 74 i) = nm i ∧ eIn (nm i)) (hQ : ∀ r m, evF mem m → w32 r = eWn fs f (w32 A) (w32 B) nm → Q (some (0, r)) m) : yCon E D xm_95 [(1, 73), (0, F), (0, A), (0, B)] mem Q := by
  obtain ⟨d, rfl⟩ := Nat.exists_eq_add_of_le' hD
  refine e_95 ?_
  refine zvc_ok hE 60 zc_95 _ _ _ _ _ _ _ xmo_95 ?_
  have ft : (w32 F).toNat = f := by rw [hf]; exact Int.toNat_natCast _
  obtain ⟨o1, o2, o3⟩ := hO
  have c1 := (hFs.1 f hf5).1
  have c2 := (hFs.1 f hf5).2
  simp only [ynok_30, ynok_31, w32c_0, w32c_1, w32c_2, w32c_3, w32c_4, w32c_5, w32c_6, w32c_7, w32c_8, w32c_9, w32c_10, w32c_11, w32c_12, w32c_13, w32c_14, w32c_m1, w32c_m2, w32c_118, Int.reduceAdd, Int.reduceSub, Int.reduceMul, yput_s, yput_n, znl_n, znl_0, znl_1, znl_4, ysum_n, ysum_0, ysum_1, ysum_4, true_and, and_true, Nat.reduceAdd, Nat.reduceLeDiff, true_implies, eq_self, true_or, or_true, or_false, false_or, not_true_eq_false, not_false_eq_true, false_implies, implies_true, yset_s, yset_o, yset_d, ne_eq, Nat.reduceEqDiff, Int.reduceToNat, Int.reduceEq, Int.reduceLE, Int.reduceLT, Classical.not_not, Nat.reduceLT, ↓zvk_s, ↓zvk_n, ↓s_95_0, ↓s_95_1, ↓s_95_4_2, ↓s_95_4_28, ↓s_95_7n, ↓s_95_7i, ↓s_95_7p, ↓s_95_9, ↓s_95_11, ↓s_95_12, ↓s_95_15, ↓s_95_18, ↓s_95_19, ↓s_95_20, ↓s_95_21, ↓s_95_22, ↓s_95_25, ↓s_95_26, ↓s_95_27, ↓s_95_30, ↓s_95_32_22, ↓s_95_32_48, ↓s_95_35, ↓s_95_36, ↓s_95_37n, ↓s_95_37i, ↓s_95_37p, ↓g_95_39, ↓k_95_39, ↓s_95_41, ↓s_95_43_22, ↓s_95_43_48, ↓s_95_46, ↓s_95_47, ↓s_95_48, ↓s_95_51, ↓s_95_52, ↓s_95_55, ↓s_95_58, ↓s_95_59, ↓s_95_61_22, ↓s_95_61_48, ↓s_95_64, ↓s_95_66, ↓s_95_67, ↓s_95_69_22, ↓s_95_69_48, ↓s_95_72, ↓s_95_74, ↓s_95_75, ↓s_95_78n, ↓s_95_78i, ↓s_95_78p, ↓s_95_81, ↓g_95_84, ↓k_95_84, ↓s_95_85, ↓s_95_88, ↓s_95_91, ↓s_95_92, ↓s_95_93, ↓s_95_94, ↓s_95_95, ↓s_95_96, ↓s_95_97, ↓s_95_100, ↓s_95_103, ↓s_95_106, ↓s_95_107, ↓s_64_0, ↓s_64_1_22, ↓s_64_1_48, ↓s_64_4, ↓s_64_5, ↓s_64_6, ↓s_64_7_22, ↓s_64_7_48, ↓s_64_10, ↓s_64_11, ↓s_64_12, ↓s_64_15, ↓s_64_16, ↓s_64_19, ↓s_64_20, zio_2, zio_73, zio_48, zar_49, zia_49, zln_49, zit_49, zar_50, zia_50, zln_50, zit_50, zar_51, zia_51, zln_51, zit_51, zar_52, zia_52, zln_52, zit_52, zio_22, zar_23, zia_23, zln_23, zit_23, zar_24, zia_24, zln_24, zit_24, zar_25, zia_25, zln_25, zit_25, zar_26, zia_26, zln_26, zit_26, zio_28, ft]
  obtain ⟨a, ea⟩ := Int.eq_ofNat_of_zero_le o1
  obtain ⟨b, eb⟩ := Int.eq_ofNat_of_zero_le (show 0 ≤ (fs.1 f).2 by omega)
  refine ⟨⟨by omega, by omega⟩, ⟨by omega, by omega⟩, fun z => hQ B mem evF_rf ?_, fun z => ⟨⟨by omega, by omega⟩, ?_⟩⟩
  · unfold eWn
    rw [if_pos (by omega)]
  · refine xr39 hE hf hf5 hA hFs hk hN (b := b) eb (by omega) (R := eRn (knD fs.2.2) nm (b - a) a []) (fun r m F c => hQ r m F ?_) (b - a) a _ _ [] rfl (by omega) (by rw [c1]; exact ea) (fun i j p q => ?_) ⟨by rw [yset_d (by decide), yset_s]; exact w32c_0, trivial, by rw [yset_s]; exact w32c_0⟩ (fun w hw => absurd hw List.not_mem_nil) (Nat.zero_le _) rfl
    · unfold eWn
      rw [if_neg (by omega), ea, eb, show ((b : Int) - (a : Int)).toNat = b - a by omega, Int.toNat_natCast]
      rcases c with ⟨k1, k2⟩ | ⟨st, k1, k2⟩
      · rw [k1]; exact k2
      · rw [k1]; exact k2
    · simp only [yset_a]
      repeat' split
      all_goals first | rfl | omega
end EX
theorem dFo_f {fs : dFs} (h : dFo fs) {f : Nat} (hf : f < 5) : fOk fs f := by
  obtain ⟨a, b, h1, h2, h3, -⟩ := h.2 f hf
  unfold fOk
  rw [h1]
  exact ⟨by show (0 : Int) ≤ (a : Int); omega, by show (a : Int) ≤ (b : Int); omega, by show (b : Int) ≤ _; omega⟩
end
section
/-! THE REFERENCE works out an E, within bounds -/
section RY
variable {E : yE} {mem : yMem} {Q : Option yV → yMem → Prop} {nm : Nat → Int}
theorem re_within (hE : yEok E) {D0 : Nat} (hD : 4 ≤ D0) {D : dDc} {f : Nat} {F A B : Int} (hf : w32 F = (f : Int)) (hf5 : f < 5) (hA : 0 ≤ w32 A) (h : rDl mem D) (hk : dOk D) (hO : OmA mem) (hN : ∀ i, i < 7 → w64 (mem 130 i) = nm i ∧ eIn (nm i)) (hQ : ∀ r m, rzF mem m → w32 r = eWn D.2.2.2.2.2.2 f (w32 A) (w32 B) nm → Q (some (0, r)) m) : yCon E D0 xm_251 [(1, 95), (0, F), (0, A), (0, B)] mem Q := by
  obtain ⟨d, rfl⟩ := Nat.exists_eq_add_of_le' hD
  obtain ⟨-, -, -, -, -, c1, ⟨c2, c3⟩, c4⟩ := h
  obtain ⟨-, -, k1, k2⟩ := hk
  obtain ⟨a, b, k3, k4, k5, k6⟩ := k2 f hf5
  obtain ⟨e, he⟩ := hO f hf5
  have ft := w32_t hf
  have v1 : w32 (mem 114 f) = (a : Int) := by rw [(c1 f hf5).1, k3]
  have v2 : w32 (mem 115 f) = (b : Int) := by rw [(c1 f hf5).2, k3]
  rw [v1, v2, show ((b : Int) - (a : Int)).toNat = b - a by omega, Int.toNat_natCast] at he
  refine e_251 ?_
  refine zvc_ok hE 60 [] _ _ _ _ _ _ _ xmo_251 ?_
  simp only [ynok_30, ynok_31, w32c_0, w32c_1, w32c_2, w32c_3, w32c_4, w32c_5, w32c_6, w32c_7, w32c_8, w32c_9, w32c_10, w32c_11, w32c_12, w32c_13, w32c_14, w32c_m1, w32c_m2, w32c_118, Int.reduceAdd, Int.reduceSub, Int.reduceMul, yput_s, yput_n, znl_n, znl_0, znl_1, znl_4, ysum_n, ysum_0, ysum_1, ysum_4, true_and, and_true, Nat.reduceAdd, Nat.reduceLeDiff, true_implies, eq_self, true_or, or_true, or_false, false_or, not_true_eq_false, not_false_eq_true, false_implies, implies_true, yset_s, yset_o, yset_d, ne_eq, Nat.reduceEqDiff, Int.reduceToNat, Int.reduceEq, Int.reduceLE, Int.reduceLT, Classical.not_not, Nat.reduceLT, ↓zvk_s, ↓zvk_n, ↓s_251_0, ↓s_251_1, ↓s_251_4, ↓s_251_5, ↓s_251_6, ↓s_251_7, ↓s_251_10, ↓s_251_11, ↓s_251_12, ↓s_251_15, ↓s_251_16, ↓s_251_17, ↓s_251_20, ↓s_251_23, ↓s_251_24, ↓s_251_25, ↓s_251_26, ↓s_251_27, ↓s_251_28, ↓s_251_29, ↓s_251_32, ↓s_251_33, ↓s_251_34, ↓s_251_37, ↓s_251_40, ↓s_251_41, zar_114, zia_114, zln_114, zit_114, zar_115, zia_115, zln_115, zit_115, zar_131, zia_131, zln_131, zit_131, zio_95, ft, v1, v2]
  have q1 : ((D.2.2.2.2.2.2).1 f).1 = (a : Int) := by rw [k3]
  have q2 : ((D.2.2.2.2.2.2).1 f).2 = (b : Int) := by rw [k3]
  have key : ¬ (b : Int) ≤ (a : Int) → eWn D.2.2.2.2.2.2 f (w32 A) (w32 B) nm = match eRn (knD D.2.2.2.2.2.2.2.2) nm (b - a) a [] with
    | none => w32 B
    | some st => max 0 (min (w32 A) (st.headD 0)) := fun z => by
    unfold eWn
    rw [q1, q2, if_neg z, show ((b : Int) - (a : Int)).toNat = b - a by omega, Int.toNat_natCast]
    all_goals (cases eRn (knD D.2.2.2.2.2.2.2.2) nm (b - a) a [] <;> rfl)
  refine ⟨⟨by omega, by omega⟩, ⟨by omega, by omega⟩, fun z => hQ B mem rzF_rf ?_, fun z => ?_⟩
  · unfold eWn
    rw [q1, q2, if_pos (by omega)]
  · have kk := key (by omega)
    have one := eRn_one (nm := nm) k4 k5 (k6 (by omega) nm)
    refine re_goes hE (by omega) hf hf5 k4 ⟨⟨v1, v2, k5, c3⟩, rKl_kn c4, k1, hN⟩ he (fun x m F c => ?_)
    refine zgk_s hE xmo_251 60 [] ?_
    simp only [ynok_30, ynok_31, w32c_0, w32c_1, w32c_2, w32c_3, w32c_4, w32c_5, w32c_6, w32c_7, w32c_8, w32c_9, w32c_10, w32c_11, w32c_12, w32c_13, w32c_14, w32c_m1, w32c_m2, w32c_118, Int.reduceAdd, Int.reduceSub, Int.reduceMul, yput_s, yput_n, znl_n, znl_0, znl_1, znl_4, ysum_n, ysum_0, ysum_1, ysum_4, true_and, and_true, Nat.reduceAdd, Nat.reduceLeDiff, true_implies, eq_self, true_or, or_true, or_false, false_or, not_true_eq_false, not_false_eq_true, false_implies, implies_true, yset_s, yset_o, yset_d, ne_eq, Nat.reduceEqDiff, Int.reduceToNat, Int.reduceEq, Int.reduceLE, Int.reduceLT, Classical.not_not, Nat.reduceLT, ↓zvk_s, ↓zvk_n, ↓s_251_0, ↓s_251_1, ↓s_251_4, ↓s_251_5, ↓s_251_6, ↓s_251_7, ↓s_251_10, ↓s_251_11, ↓s_251_12, ↓s_251_15, ↓s_251_16, ↓s_251_17, ↓s_251_20, ↓s_251_23, ↓s_251_24, ↓s_251_25, ↓s_251_26, ↓s_251_27, ↓s_251_28, ↓s_251_29, ↓s_251_32, ↓s_251_33, ↓s_251_34, ↓s_251_37, ↓s_251_40, ↓s_251_41, zar_114, zia_114, zln_114, zit_114, zar_115, zia_115, zln_115, zit_115, zar_131, zia_131, zln_131, zit_131, zio_95]
    rcases c with ⟨g1, g2⟩ | ⟨st', g1, g2, g3, g4⟩
    · have q : Q (some (0, B)) m := hQ B m F (by rw [kk, g1])
      first | exact ⟨fun _ => q, fun y => absurd g2 y⟩ | exact ⟨fun y => absurd g2 y, fun _ => q⟩
    · rcases one with o | ⟨v, o⟩
      · rw [o] at g1
        cases g1
      · rw [o] at g1
        cases g1
        have q : Q (some (0, zmxl 0 (zmnl (w32 A) (m 131 0)))) m := hQ _ m F (by
          rw [kk, o, clampv hA, show w64 (m 131 0) = v from g3.2.1]
          rfl)
        have n0 : ¬ w32 x = 0 := by omega
        first | exact ⟨fun y => absurd y n0, fun _ => ⟨by decide, q⟩⟩ | exact ⟨fun _ => ⟨by decide, q⟩, fun y => absurd y n0⟩
end RY
end
