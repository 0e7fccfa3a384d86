/-! A DOCUMENT THAT A TEXT TELLS: what holds of it -/
def dTk (t : Int × Int × Int) : Prop := 0 ≤ t.2.2 ∧ t.2.2 ≤ 9999
def dVk (nt : Nat) (t : tVo) : Prop := 1 ≤ t.2.1 ∧ (-1 ≤ t.2.2.2.2.1 ∧ t.2.2.2.2.1 < (nt : Int)) ∧ 0 ≤ t.2.2.2.2.2.1 ∧ t.2.2.2.2.2.1 ≤ 99
/-- the KNOT at a place -/
def knD (o : sK) (i : Nat) : Nat × Int := o.reverse.getD i (0, 0)
theorem knD_c {q : Nat × Int} {o : sK} {i : Nat} (h : i < o.length) : knD (q :: o) i = knD o i := by
  unfold knD
  rw [List.reverse_cons, List.getD_eq_getElem?_getD, List.getD_eq_getElem?_getD, List.getElem?_append_left (by rw [List.length_reverse]; exact h)]
theorem knD_l {q : Nat × Int} {o : sK} : knD (q :: o) o.length = q := by
  unfold knD
  rw [List.reverse_cons, List.getD_eq_getElem?_getD, List.getElem?_append_right (by rw [List.length_reverse]; exact Nat.le_refl _), List.length_reverse, Nat.sub_self]
  rfl
theorem knD_m {o : sK} {i : Nat} (h : i < o.length) : knD o i ∈ o := by
  unfold knD
  rw [List.getD_eq_getElem?_getD, List.getElem?_eq_getElem (by rw [List.length_reverse]; exact h)]
  exact List.mem_reverse.mp (List.getElem_mem _)
/-- KNOTS from place a to place b -/
def dSl (o : sK) (a b : Nat) : sK := (o.drop (o.length - b)).take (b - a)
theorem dropA {α : Type} : ∀ (ks o : List α) (n : Nat), (ks ++ o).drop (ks.length + n) = o.drop n
  | [], o, n => by
    show o.drop (0 + n) = _
    rw [Nat.zero_add]
  | k :: ks, o, n => by
    show (k :: (ks ++ o)).drop (ks.length + 1 + n) = _
    rw [show ks.length + 1 + n = (ks.length + n) + 1 by omega]
    exact dropA ks o n
theorem takeA {α : Type} : ∀ (ks o : List α), (ks ++ o).take ks.length = ks
  | [], o => by cases o <;> rfl
  | k :: ks, o => by
    show k :: (ks ++ o).take ks.length = k :: ks
    rw [takeA ks o]
theorem dSl_app {ks o : sK} {a b : Nat} (hb : b ≤ o.length) : dSl (ks ++ o) a b = dSl o a b := by
  unfold dSl
  rw [List.length_append, show ks.length + o.length - b = ks.length + (o.length - b) by omega, dropA]
theorem dSl_new {ks o : sK} : dSl (ks ++ o) o.length (ks ++ o).length = ks := by
  unfold dSl
  rw [Nat.sub_self, List.length_append, Nat.add_sub_cancel]
  exact takeA ks o
theorem knD_i {o : sK} {i : Nat} (h : i < o.length) (hj : o.length - (i + 1) < o.length) : knD o i = o[o.length - (i + 1)] := by
  unfold knD
  rw [List.getD_eq_getElem?_getD, List.getElem?_eq_getElem (by rw [List.length_reverse]; exact h)]
  show o.reverse[i]'(by rw [List.length_reverse]; exact h) = _
  rw [List.getElem_reverse]
  congr 1
  omega
theorem dSl_s {o : sK} {a b : Nat} (hab : a ≤ b) (hb : b < o.length) : dSl o a (b + 1) = knD o b :: dSl o a b := by
  unfold dSl
  rw [List.drop_eq_getElem_cons (show o.length - (b + 1) < o.length by omega), show o.length - (b + 1) + 1 = o.length - b by omega, show b + 1 - a = (b - a) + 1 by omega, List.take_succ_cons, knD_i hb]
theorem eRn_s (kn : Nat → Nat × Int) (nm : Nat → Int) : ∀ (n a : Nat) (st : List Int), eRn kn nm (n + 1) a st = match eRn kn nm n a st with
    | some s => eAp nm (kn (a + n)) s
    | none => none
  | 0, a, st => by
    show (match eAp nm (kn a) st with | some st' => some st' | none => none) = eAp nm (kn (a + 0)) st
    rw [Nat.add_zero]
    cases eAp nm (kn a) st <;> rfl
  | n + 1, a, st => by
    show (match eAp nm (kn a) st with | some st' => eRn kn nm (n + 1) (a + 1) st' | none => none) = match (match eAp nm (kn a) st with | some st' => eRn kn nm n (a + 1) st' | none => none) with
      | some s => eAp nm (kn (a + (n + 1))) s
      | none => none
    cases eAp nm (kn a) st with
    | none => rfl
    | some s =>
      show eRn kn nm (n + 1) (a + 1) s = _
      rw [eRn_s kn nm n (a + 1) s, show a + 1 + n = a + (n + 1) by omega]
theorem eRn_l {o : sK} {nm : Nat → Int} {a : Nat} {st : List Int} : ∀ n, a + n ≤ o.length → eRn (knD o) nm n a st = eRl nm (dSl o a (a + n)) st
  | 0, _ => by
    unfold dSl
    rw [Nat.add_zero, Nat.sub_self]
    show some st = eRl nm (List.take 0 _) st
    rw [List.take_zero]
    rfl
  | n + 1, h => by
    rw [eRn_s, eRn_l n (by omega), show a + (n + 1) = a + n + 1 by omega, dSl_s (by omega) (by omega)]
    rfl
theorem eRn_one {o : sK} {nm : Nat → Int} {a b : Nat} (hab : a ≤ b) (hb : b ≤ o.length) (h : eG nm (dSl o a b)) : eRn (knD o) nm (b - a) a [] = none ∨ ∃ v, eRn (knD o) nm (b - a) a [] = some [v] := by
  rw [eRn_l (b - a) (by omega), show a + (b - a) = b by omega]
  exact h []
/-- formulas that can be worked out -/
def dFo (fs : dFs) : Prop := (∀ q ∈ fs.2.2, kOk q.1) ∧ ∀ f, f < 5 → ∃ a b : Nat, fs.1 f = ((a : Int), (b : Int)) ∧ a ≤ b ∧ b ≤ fs.2.2.length ∧ (a < b → ∀ nm, eG nm (dSl fs.2.2 a b))
def dOk (D : dDc) : Prop := (∀ t ∈ D.1, dTk t) ∧ (∀ t ∈ D.2.1, dVk D.1.length t) ∧ dFo D.2.2.2.2.2.2
theorem dOk_0 : dOk dD0 := ⟨fun t h => absurd h List.not_mem_nil, fun t h => absurd h List.not_mem_nil, fun t h => absurd h List.not_mem_nil, fun f _ => ⟨0, 0, rfl, Nat.le_refl _, Nat.le_refl _, fun h => absurd h (Nat.lt_irrefl _)⟩⟩
theorem sFd_rg {f : Nat → Int} {v : Int} : ∀ c i : Nat, -1 ≤ sFd f v c i ∧ sFd f v c i < ((i + c : Nat) : Int)
  | 0, i => by
    show (-1 : Int) ≤ -1 ∧ (-1 : Int) < _
    omega
  | c + 1, i => by
    have h := sFd_rg (f := f) (v := v) c (i + 1)
    simp only [sFd]
    split <;> omega
theorem yTt_rg (nm : List Int) (x : sY) : -1 ≤ (yTt nm x).1 ∧ (yTt nm x).1 < (nm.length : Int) := by
  have h := sFd_rg (f := fun j => nm.getD j 0) (v := yVl x) nm.length 0
  rw [Nat.zero_add] at h
  unfold yTt
  split
  · split
    · dsimp only
      omega
    · exact h
  · dsimp only
    omega
theorem pV2_rg (tn : List Int) (x : sY) : (-1 ≤ (pV2 tn x).2.1 ∧ (pV2 tn x).2.1 < (tn.length : Int)) ∧ 0 ≤ (pV2 tn x).2.2 ∧ (pV2 tn x).2.2 ≤ 99 := by
  have h := yTt_rg tn (yNx x)
  have g := yNm_bd 0 99 (yTt tn (yNx x)).2 (by decide)
  unfold pV2
  split
  · exact ⟨h, g⟩
  · dsimp only
    omega
theorem yBg_bad {nm : List Int} {mx : Nat} {x : sY} (h : (yBg nm mx x).1 = -1) : ¬ yOk (yBg nm mx x).2 := by
  revert h
  unfold yBg
  split
  · exact fun _ => yOk_fl
  · split
    · exact fun _ => yOk_fl
    · split
      · exact fun _ => yOk_fl
      · intro h
        dsimp only at h
        omega
theorem pTv_ok {tav : dTv} {x : sY} (h : yOk (pTv tav x).1) : dTk (pTv tav x).2 := by
  unfold pTv at h ⊢
  by_cases e : (yBg (tav.map (fun t => t.1)) 3 x).1 = -1
  · rw [if_pos e] at h
    exact absurd h (yBg_bad e)
  · rw [if_neg e]
    exact yNm_bd 0 9999 _ (by decide)
theorem pVo_ok {tn : List Int} {vo : dVo} {x : sY} (h : yOk (pVo tn vo x).1) : dVk tn.length (pVo tn vo x).2 := by
  unfold pVo at h ⊢
  by_cases e : (yBg (vo.map (fun t => t.1)) 6 x).1 = -1
  · rw [if_pos e] at h
    exact absurd h (yBg_bad e)
  · rw [if_neg e]
    exact ⟨(yNm_bd 1 40 _ (by decide)).1, (pV2_rg _ _).1, (pV2_rg _ _).2⟩
theorem dVk_le {a b : Nat} {t : tVo} (h : dVk a t) (hab : a ≤ b) : dVk b t := ⟨h.1, ⟨h.2.1.1, by have := h.2.1.2; omega⟩, h.2.2⟩
def eKs (u : sU) (o : sK) : Prop := ∃ ks, u.2.2.2 = ks ++ o ∧ (∀ q ∈ ks, kOk q.1) ∧ ∀ nm, eG nm ks
theorem pE_dk {y : sY} {cn : Nat} {o : sK} {u : sU} (h : pE y cn o = .inr u) : eKs u o := by
  cases y with
  | inl e => cases h
  | inr l =>
    obtain ⟨ks, k1, k2, _, k3⟩ := pE_eG h
    exact ⟨ks, k1, k2, k3⟩
theorem pBk_dk {bk : dBk} {cn : Nat} {o : sK} {x : sY} {u : sU} (h : (pBk bk cn o x).1 = .inr u) : eKs u o := by
  unfold pBk at h
  by_cases e : (yBg (bk.map (fun t => t.1)) 3 x).1 = -1
  · rw [if_pos e] at h
    dsimp only at h
    split at h <;> cases h
  · rw [if_neg e] at h
    exact pE_dk h
theorem pL1_dk {tl : Bool} {cn : Nat} {o : sK} {y : sY} {u : sU} (h : pL1 tl cn o y = .inr u) : eKs u o := by
  unfold pL1 at h
  split at h
  · exact (xFl_r h).elim
  · exact pE_dk h
theorem pLw_dk {tl : Nat → Bool} {cn : Nat} {o : sK} {x : sY} {u : sU} (h : (pLw tl cn o x).1 = .inr u) : eKs u o := by
  unfold pLw at h
  split at h
  · exact pL1_dk h
  · split at h
    · exact pL1_dk h
    · exact (xFl_r h).elim
theorem dFo_x {fs : dFs} {f : Nat} {x : sX} (h : dFo fs) (hp : ∀ u, x = .inr u → eKs u fs.2.2) : dFo (dFx fs f x) := by
  cases x with
  | inl e => exact h
  | inr u =>
    obtain ⟨ks, k1, k2, k3⟩ := hp u rfl
    refine ⟨fun q hq => ?_, fun g hg => ?_⟩
    · have hq : q ∈ u.2.2.2 := hq
      rw [k1] at hq
      exact (List.mem_append.mp hq).elim (k2 q) (h.1 q)
    · by_cases e : g = f
      · refine ⟨fs.2.2.length, u.2.2.2.length, if_pos e, ?_, Nat.le_refl _, fun _ nm => ?_⟩
        · rw [k1, List.length_append]
          omega
        · show eG nm (dSl u.2.2.2 fs.2.2.length u.2.2.2.length)
          rw [k1, dSl_new]
          exact k3 nm
      · obtain ⟨a, b, h1, h2, h3, h4⟩ := h.2 g hg
        refine ⟨a, b, (if_neg e).trans h1, h2, ?_, fun hab nm => ?_⟩
        · show b ≤ u.2.2.2.length
          rw [k1, List.length_append]
          omega
        · show eG nm (dSl u.2.2.2 a b)
          rw [k1, dSl_app h3]
          exact h4 hab nm
theorem dOk_ln {x : sY} {D : dDc} (h : dOk D) (hk : yOk (pLine x D).1) : dOk (pLine x D).2 := by
  obtain ⟨h1, h2, h3⟩ := h
  unfold pLine at hk ⊢
  by_cases e17 : yKd x = 17
  · rw [if_pos e17] at hk ⊢
    refine ⟨fun t ht => ?_, fun t ht => ?_, h3⟩
    · rcases List.mem_append.mp ht with ht | ht
      · exact h1 t ht
      · rw [List.mem_singleton] at ht
        subst ht
        exact pTv_ok hk
    · show dVk (D.1 ++ [(pTv D.1 x).2]).length t
      rw [List.length_append]
      exact dVk_le (h2 t ht) (Nat.le_add_right _ _)
  · rw [if_neg e17] at hk ⊢
    by_cases e18 : yKd x = 18
    · rw [if_pos e18] at hk ⊢
      refine ⟨h1, fun t ht => ?_, h3⟩
      rcases List.mem_append.mp ht with ht | ht
      · exact h2 t ht
      · rw [List.mem_singleton] at ht
        subst ht
        have := pVo_ok hk
        rw [List.length_map] at this
        exact this
    · rw [if_neg e18] at hk ⊢
      by_cases e19 : yKd x = 19
      · rw [if_pos e19]
        exact ⟨h1, h2, h3⟩
      · rw [if_neg e19] at hk ⊢
        by_cases e20 : yKd x = 20
        · rw [if_pos e20]
          exact ⟨h1, h2, dFo_x h3 (fun u hu => pBk_dk hu)⟩
        · rw [if_neg e20] at hk ⊢
          by_cases e21 : yKd x = 21
          · rw [if_pos e21]
            exact ⟨h1, h2, h3⟩
          · rw [if_neg e21] at hk ⊢
            by_cases e22 : yKd x = 22
            · rw [if_pos e22]
              exact ⟨h1, h2, h3⟩
            · rw [if_neg e22] at hk ⊢
              by_cases e23 : yKd x = 23
              · rw [if_pos e23]
                exact ⟨h1, h2, dFo_x h3 (fun u hu => pLw_dk hu)⟩
              · rw [if_neg e23] at hk
                exact absurd hk yOk_fl
theorem pTx_in : ∀ (f : Nat) (e : Nat × Nat) (D : dDc) (k : Int), ¬ yOk (pTx f (.inl e) D k).1
  | 0, e, D, k => yOk_in
  | f + 1, e, D, k => by
    show ¬ yOk (if yKd (.inl e) = 0 then (_ : sY × dDc × Int) else _).1
    rw [if_pos (show yKd (.inl e) = 0 from rfl)]
    exact yOk_in
theorem pTx_ok : ∀ (f : Nat) (x : sY) (D : dDc) (k : Int), dOk D → yOk (pTx f x D k).1 → dOk (pTx f x D k).2.1
  | 0, x, D, k, h, _ => h
  | f + 1, x, D, k, h, hk => by
    have hp : pTx (f + 1) x D k = if yKd x = 0 then (x, D, k) else if yKd (pLine x D).1 = 4 then pTx f (yNx (pLine x D).1) (pLine x D).2 (k + 1) else pTx f (yFl 1 (pLine x D).1) (pLine x D).2 k := rfl
    rw [hp] at hk ⊢
    by_cases e0 : yKd x = 0
    · rw [if_pos e0]
      exact h
    · rw [if_neg e0] at hk ⊢
      by_cases e4 : yKd (pLine x D).1 = 4
      · rw [if_pos e4] at hk ⊢
        exact pTx_ok f _ _ _ (dOk_ln h (yOk_kd (by rw [e4]; decide))) hk
      · rw [if_neg e4] at hk
        obtain ⟨e, he⟩ := yFl_inl 1 (pLine x D).1
        rw [he] at hk
        exact absurd hk (pTx_in _ _ _ _)
