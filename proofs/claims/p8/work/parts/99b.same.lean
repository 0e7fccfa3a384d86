theorem sLv_6 (k : Nat) : sLv k ≤ 6 := by
  unfold sLv
  repeat' split
  all_goals omega
theorem sAg_tr {w : List Nat} {v v' : Bool} {u u' : sU} {pe0 pe1 : List Nat} {b : Nat} {N : Nat → List Nat → Prop} {x : sX} (hg : sGo v (pe0 ++ w) u v' (pe1 ++ w) u') (ho : u'.2.2.1 = u.2.2.1) (h : sAg w v' u' pe1 b N x) : sAg w v u pe0 b N x := by
  cases x with
  | inl e =>
    rcases h with h | h
    · exact Or.inl h
    · exact Or.inr (sEn_tr hg h)
  | inr z =>
    obtain ⟨h1, pe, o, h2, h3, h4, h5⟩ := h
    exact ⟨h1.trans ho, pe, o, h2, h3, sGo_tr hg h4, h5⟩
theorem sAg_seq {w : List Nat} {v : Bool} {u : sU} {pe0 : List Nat} {b b1 : Nat} {N N1 : Nat → List Nat → Prop} {x : sX} {lp : sU → sX} (hb : b ≤ b1) (h : sAg w v u pe0 b1 N1 x) (hl : ∀ pe o l cn op, (∀ k ∈ pe, b ≤ sLv k) → N1 (sLv (sHd l).1) pe → sAg w false (l, cn, op, o) pe b N (lp (l, cn, op, sPt pe o))) : sAg w v u pe0 b N (sBd x lp) := by
  cases x with
  | inl e => exact h
  | inr z =>
    obtain ⟨h1, pe, o, h2, h3, h4, h5⟩ := h
    obtain ⟨l, cn, op, oo⟩ := z
    dsimp only at h1 h3 h4 h5
    subst h3
    exact sAg_tr h4 h1 (hl pe o l cn op (fun k hk => Nat.le_trans hb (h2 k hk)) h5)
/-- a sign that binds so tightly comes -/
theorem sy_sg {n b : Nat} {w : List Nat} {l : List sT} {cn op : Nat} {o : sK} (hb : sLv (sHd l).1 = b) (h0 : b ≠ 0) (h3 : b ≠ 3) (h4 : b ≠ 4) : sy (n + 1) false w (l, cn, op, o) = sKn (sHd l).2.1 (l, cn, op, (sSt b w o).2) (fun u => sy n true ((sHd l).1 :: (sSt b w o).1) (u.1.tail, u.2)) := by
  have h6 : ¬ (sHd l).1 = 6 := fun h => by
    rw [h] at hb
    exact h0 (hb.symm.trans (by decide))
  simp only [sy]
  rw [if_neg (fun z => h6 z.1), if_neg (by omega), if_neg (by omega), hb]
theorem sAg_loop {w : List Nat} {b b1 : Nat} {N N1 N0 : Nat → List Nat → Prop} {sub lp : sU → sX} {pe0 : List Nat} {l : List sT} {cn op : Nat} {o0 : sK} (h0 : b ≠ 0) (h3 : b ≠ 3) (h4 : b ≠ 4) (hbb : b ≤ b1) (hw : sTp w < b) (hpe : ∀ k ∈ pe0, b ≤ sLv k)
    (hsub : ∀ k u, sLv k = b → (((sHd l).1 = k) → sAg (k :: w) true u [] b1 N1 (sub u)))
    (hN1 : ∀ t pe k, sLv k = b → N1 t pe → N0 t (pe ++ [k]))
    (hlp : ∀ pe o l cn op, (∀ k ∈ pe, b ≤ sLv k) → N0 (sLv (sHd l).1) pe → sAg w false (l, cn, op, o) pe b N (lp (l, cn, op, sPt pe o)))
    (hno : ¬ sLv (sHd l).1 = b → N (sLv (sHd l).1) pe0) :
    sAg w false (l, cn, op, o0) pe0 b N (if sLv (sHd l).1 = b then sKn (sHd l).2.1 (l, cn, op, sPt pe0 o0) (fun v => sBd (sub (v.1.tail, v.2)) (fun z => lp (z.1, z.2.1, z.2.2.1, ((sHd l).1, 0) :: z.2.2.2))) else .inr (l, cn, op, sPt pe0 o0)) := by
  by_cases hl : sLv (sHd l).1 = b
  · rw [if_pos hl]
    have stp : ∀ n, sy (n + 1) false (pe0 ++ w) (l, cn, op, o0) = sKn (sHd l).2.1 (l, cn, op, sPt pe0 o0) (fun u => sy n true ((sHd l).1 :: w) (u.1.tail, u.2)) := fun n => by
      rw [sy_sg hl h0 h3 h4, sSt_pe pe0 w o0 hpe hw]
    unfold sKn at stp ⊢
    dsimp only at stp ⊢
    by_cases hc : cn = 64
    · rw [if_pos hc]
      exact Or.inr (sEn_1 (fun n => by rw [stp n, if_pos hc]))
    · rw [if_neg hc]
      have go : sGo false (pe0 ++ w) (l, cn, op, o0) true ((sHd l).1 :: w) (l.tail, cn + 1, op, sPt pe0 o0) := sGo_1 (fun n => by rw [stp n, if_neg hc])
      have hs := hsub (sHd l).1 (l.tail, cn + 1, op, sPt pe0 o0) hl rfl
      generalize sub (l.tail, cn + 1, op, sPt pe0 o0) = x at hs ⊢
      cases x with
      | inl e =>
        rcases hs with h | h
        · exact Or.inl h
        · exact Or.inr (sEn_tr go h)
      | inr z =>
        obtain ⟨z1, z2, z3, z4⟩ := z
        obtain ⟨g1, pe, o, g2, g3, g4, g5⟩ := hs
        dsimp only at g1 g3 g4 g5
        have key := hlp (pe ++ [(sHd l).1]) o z1 z2 z3 (fun k hk => by
          rcases List.mem_append.mp hk with h | h
          · exact Nat.le_trans hbb (g2 k h)
          · simp only [List.mem_cons, List.not_mem_nil, or_false] at h
            subst h
            exact Nat.le_of_eq hl.symm) (hN1 _ _ _ hl g5)
        rw [sPt_app] at key
        have e : sPt [(sHd l).1] (sPt pe o) = ((sHd l).1, 0) :: z4 := by rw [g3]; rfl
        rw [e] at key
        refine sAg_tr (sGo_tr go ?_) g1 key
        rw [List.append_assoc]
        exact g4
  · rw [if_neg hl]
    exact ⟨rfl, pe0, o0, hpe, rfl, sGo_rf, hno hl⟩
def sN0 (_ : Nat) (pe : List Nat) : Prop := pe = []
def sN1 (t : Nat) (_ : List Nat) : Prop := t ≠ 6
def sN3 (t : Nat) (_ : List Nat) : Prop := t ≠ 6 ∧ t ≠ 5
def sN5 (t : Nat) (pe : List Nat) : Prop := t ≠ 6 ∧ t ≠ 5 ∧ (t = 4 → sHc pe)
def sN6 (t : Nat) (pe : List Nat) : Prop := sN5 t pe ∧ t ≠ 2
def sN8 (t : Nat) (pe : List Nat) : Prop := sN6 t pe ∧ t ≠ 1
theorem sN5_app {t : Nat} {pe : List Nat} (q : List Nat) (h : sN5 t pe) : sN5 t (pe ++ q) := ⟨h.1, h.2.1, fun z => sHc_app q (h.2.2 z)⟩
theorem sT_lt7 {k : Nat} {pe : List Nat} (h : ∀ k ∈ pe, 7 ≤ sLv k) : pe = [] := by
  cases pe with
  | nil => rfl
  | cons a r =>
    have := h a List.mem_cons_self
    have := sLv_6 a
    omega
/-- THE TWO READ ALIKE -/
theorem rd_sy : ∀ f : Nat,
    (∀ u w, ((sHd u.1).1 = 32 → 3 < sTp w) → sAg w true u [] 7 sN0 (rd f 0 u)) ∧
    (∀ u w, ((sHd u.1).1 = 32 → 3 < sTp w) → sTp w < 6 → sAg w true u [] 6 sN1 (rd f 1 u)) ∧
    (∀ w pe l cn op o, sTp w < 6 → (∀ k ∈ pe, 6 ≤ sLv k) → sAg w false (l, cn, op, o) pe 6 sN1 (rd f 2 (l, cn, op, sPt pe o))) ∧
    (∀ u w, ((sHd u.1).1 = 32 → 3 < sTp w) → sTp w < 5 → sAg w true u [] 5 sN3 (rd f 3 u)) ∧
    (∀ w pe l cn op o, sTp w < 5 → (∀ k ∈ pe, 5 ≤ sLv k) → sN1 (sLv (sHd l).1) pe → sAg w false (l, cn, op, o) pe 5 sN3 (rd f 4 (l, cn, op, sPt pe o))) ∧
    (∀ u w, sTp w ≤ 3 → sAg w true u [] 3 sN5 (rd f 5 u)) ∧
    (∀ u w, sTp w < 2 → sAg w true u [] 2 sN6 (rd f 6 u)) ∧
    (∀ w pe l cn op o, sTp w < 2 → (∀ k ∈ pe, 2 ≤ sLv k) → sN5 (sLv (sHd l).1) pe → sAg w false (l, cn, op, o) pe 2 sN6 (rd f 7 (l, cn, op, sPt pe o))) ∧
    (∀ u w, sTp w < 1 → sAg w true u [] 1 sN8 (rd f 8 u)) ∧
    (∀ w pe l cn op o, sTp w < 1 → (∀ k ∈ pe, 1 ≤ sLv k) → sN6 (sLv (sHd l).1) pe → sAg w false (l, cn, op, o) pe 1 sN8 (rd f 9 (l, cn, op, sPt pe o))) := by
  intro f
  induction f with
  | zero =>
    exact ⟨fun _ _ _ => Or.inl rfl, fun _ _ _ _ => Or.inl rfl, fun _ _ _ _ _ _ _ _ => Or.inl rfl, fun _ _ _ _ => Or.inl rfl, fun _ _ _ _ _ _ _ _ _ => Or.inl rfl, fun _ _ _ => Or.inl rfl, fun _ _ _ => Or.inl rfl, fun _ _ _ _ _ _ _ _ _ => Or.inl rfl, fun _ _ _ => Or.inl rfl, fun _ _ _ _ _ _ _ _ _ => Or.inl rfl⟩
  | succ f ih =>
    obtain ⟨i0, i1, i2, i3, i4, i5, i6, i7, i8, i9⟩ := ih
    refine ⟨?_, ?_, ?_, ?_, ?_, ?_, ?_, ?_, ?_, ?_⟩
    · rintro ⟨l, cn, op, o⟩ w hN
      simp only [rd]
      dsimp only at hN
      have sv : ∀ n, sy (n + 1) true w (l, cn, op, o) = (if (sHd l).1 = 5 then (if op = 8 then .inl (2, (sHd l).2.1) else sy n true (5 :: w) (l.tail, cn, op + 1, o)) else if (sHd l).1 = 32 ∧ sTp w ≤ 3 then sKn (sHd l).2.1 (l, cn, op, o) (fun u => sy n true (32 :: w) (u.1.tail, u.2)) else if ¬ ((sHd l).1 = 2 ∨ (33 ≤ (sHd l).1 ∧ (sHd l).1 ≤ 39)) then .inl (1, (sHd l).2.1) else if (sHd l).1 = 2 ∧ 9999 < (sHd l).2.2 then .inl (2, (sHd l).2.1) else sKn (sHd l).2.1 (l, cn, op, o) (fun u => sy n false w (u.1.tail, u.2.1, u.2.2.1, ((sHd l).1, if (sHd l).1 = 2 then (sHd l).2.2 else 0) :: u.2.2.2))) := fun n => rfl
      by_cases h5 : (sHd l).1 = 5
      · rw [if_pos h5]
        by_cases h8 : op = 8
        · rw [if_pos h8]
          exact Or.inr (sEn_1 (fun n => by rw [List.nil_append, sv, if_pos h5, if_pos h8]))
        · rw [if_neg h8]
          have go : sGo true ([] ++ w) (l, cn, op, o) true (5 :: w) (l.tail, cn, op + 1, o) := sGo_1 (fun n => by rw [List.nil_append, sv, if_pos h5, if_neg h8])
          have hs := i8 (l.tail, cn, op + 1, o) (5 :: w) (show sLv 5 < 1 by decide)
          generalize rd f 8 (l.tail, cn, op + 1, o) = x at hs ⊢
          cases x with
          | inl e =>
            rcases hs with h | h
            · exact Or.inl h
            · exact Or.inr (sEn_tr go h)
          | inr z =>
            obtain ⟨z1, z2, z3, z4⟩ := z
            obtain ⟨g1, pe, oo, g2, g3, g4, g5⟩ := hs
            dsimp only at g1 g3 g4 g5
            subst g1
            have gg := sGo_tr go g4
            have st1 := sSt_pe pe (5 :: w) oo g2 (show sLv 5 < 1 by decide)
            show sAg w true (l, cn, op, o) [] 7 sN0 (if (sHd z1).1 = 6 then .inr (z1.tail, z2, op + 1 - 1, z4) else .inl (1, (sHd z1).2.1))
            by_cases h6 : (sHd z1).1 = 6
            · rw [if_pos h6]
              refine ⟨by show op + 1 - 1 = op; omega, [], z4, (fun k hk => by cases hk), rfl, sGo_tr gg (sGo_1 (fun n => ?_)), rfl⟩
              simp only [sy]
              rw [if_pos ⟨h6, by omega⟩, st1, g3]
              rfl
            · rw [if_neg h6]
              refine Or.inr (sEn_tr gg (sEn_1 (fun n => ?_)))
              have lv := sLv_6 (sHd z1).1
              simp only [sy]
              rw [if_neg (fun z => h6 z.1)]
              by_cases h03 : sLv (sHd z1).1 = 0 ∨ sLv (sHd z1).1 = 3
              · rw [if_pos h03, if_pos (by omega)]
              · rw [if_neg h03]
                have hq := g5
                unfold sN8 sN6 sN5 at hq
                have h4 : sLv (sHd z1).1 = 4 := by omega
                rw [if_pos h4, if_pos (sHc_st (hq.1.1.2.2 h4))]
      · rw [if_neg h5]
        have hn32 : ¬ ((sHd l).1 = 32 ∧ sTp w ≤ 3) := fun z => by have := hN z.1; omega
        by_cases hk : ¬ ((sHd l).1 = 2 ∨ (33 ≤ (sHd l).1 ∧ (sHd l).1 ≤ 39))
        · rw [if_pos hk]
          exact Or.inr (sEn_1 (fun n => by rw [List.nil_append, sv, if_neg h5, if_neg hn32, if_pos hk]))
        · rw [if_neg hk]
          by_cases hv : (sHd l).1 = 2 ∧ 9999 < (sHd l).2.2
          · rw [if_pos hv]
            exact Or.inr (sEn_1 (fun n => by rw [List.nil_append, sv, if_neg h5, if_neg hn32, if_neg hk, if_pos hv]))
          · rw [if_neg hv]
            unfold sKn at sv ⊢
            dsimp only at sv ⊢
            by_cases hc : cn = 64
            · rw [if_pos hc]
              exact Or.inr (sEn_1 (fun n => by rw [List.nil_append, sv, if_neg h5, if_neg hn32, if_neg hk, if_neg hv, if_pos hc]))
            · rw [if_neg hc]
              exact ⟨rfl, [], _, (fun k hk => by cases hk), rfl, sGo_1 (fun n => by rw [List.nil_append, sv, if_neg h5, if_neg hn32, if_neg hk, if_neg hv, if_neg hc]), rfl⟩
    · intro u w hN hw
      simp only [rd]
      exact sAg_seq (by decide) (i0 u w hN) (fun pe o l cn op hp _ => i2 w pe l cn op o hw hp)
    · intro w pe l cn op o hw hp
      simp only [rd]
      exact sAg_loop (N0 := fun _ _ => True) (N1 := sN0) (b1 := 7) (sub := rd f 0) (by decide) (by decide) (by decide) (by decide) hw hp (fun k u hk _ => i0 u (k :: w) (fun _ => by show 3 < sLv k; omega)) (fun _ _ _ _ _ => trivial) (fun pe o l cn op hp _ => i2 w pe l cn op o hw hp) (fun h => h)
    · intro u w hN hw
      simp only [rd]
      exact sAg_seq (by decide) (i1 u w hN (by omega)) (fun pe o l cn op hp hn => i4 w pe l cn op o hw hp hn)
    · intro w pe l cn op o hw hp hn
      simp only [rd]
      exact sAg_loop (N0 := sN1) (N1 := sN1) (b1 := 6) (sub := rd f 1) (by decide) (by decide) (by decide) (by decide) hw hp (fun k u hk _ => i1 u (k :: w) (fun _ => by show 3 < sLv k; omega) (by show sLv k < 6; omega)) (fun _ _ _ _ h => h) (fun pe o l cn op hp h => i4 w pe l cn op o hw hp h) (fun h => ⟨hn, h⟩)
    · rintro ⟨l, cn, op, o⟩ w hw
      simp only [rd]
      by_cases h32 : (sHd l).1 = 32
      · rw [if_pos h32]
        have sv : ∀ n, sy (n + 1) true w (l, cn, op, o) = sKn (sHd l).2.1 (l, cn, op, o) (fun u => sy n true (32 :: w) (u.1.tail, u.2)) := fun n => by
          simp only [sy]
          rw [if_neg (by omega), if_pos ⟨h32, hw⟩]
        unfold sKn at sv ⊢
        dsimp only at sv ⊢
        by_cases hc : cn = 64
        · rw [if_pos hc]
          exact Or.inr (sEn_1 (fun n => by rw [List.nil_append, sv, if_pos hc]))
        · rw [if_neg hc]
          have go : sGo true ([] ++ w) (l, cn, op, o) true (32 :: w) (l.tail, cn + 1, op, o) := sGo_1 (fun n => by rw [List.nil_append, sv, if_neg hc])
          have hs := i5 (l.tail, cn + 1, op, o) (32 :: w) (show sLv 32 ≤ 3 by decide)
          generalize rd f 5 (l.tail, cn + 1, op, o) = x at hs ⊢
          cases x with
          | inl e =>
            rcases hs with h | h
            · exact Or.inl h
            · exact Or.inr (sEn_tr go h)
          | inr z =>
            obtain ⟨z1, z2, z3, z4⟩ := z
            obtain ⟨g1, pe, oo, g2, g3, g4, g5⟩ := hs
            dsimp only at g1 g3 g4 g5
            refine ⟨g1, pe ++ [32], oo, fun k hk => ?_, ?_, ?_, sN5_app [32] g5⟩
            · rcases List.mem_append.mp hk with h | h
              · exact g2 k h
              · simp only [List.mem_cons, List.not_mem_nil, or_false] at h
                subst h
                decide
            · rw [sPt_app, g3]; rfl
            · rw [List.append_assoc]
              exact sGo_tr go g4
      · rw [if_neg h32]
        have hs := i3 (l, cn, op, o) w (fun h => absurd h h32) (by omega)
        generalize rd f 3 (l, cn, op, o) = x at hs ⊢
        cases x with
        | inl e => exact hs
        | inr z =>
          obtain ⟨z1, z2, z3, z4⟩ := z
          obtain ⟨g1, pe, oo, g2, g3, g4, g5⟩ := hs
          dsimp only at g1 g3 g4 g5
          show sAg w true (l, cn, op, o) [] 3 sN5 (if sLv (sHd z1).1 = 4 then sKn (sHd z1).2.1 (z1, z2, z3, z4) (fun v => sBd (rd f 3 (v.1.tail, v.2)) (fun z => .inr (z.1, z.2.1, z.2.2.1, ((sHd z1).1, 0) :: z.2.2.2))) else .inr (z1, z2, z3, z4))
          by_cases h4 : sLv (sHd z1).1 = 4
          · rw [if_pos h4]
            have st5 := sSt_pe pe w oo g2 (by omega)
            have sg : ∀ n, sy (n + 1) false (pe ++ w) (z1, z2, z3, oo) = sKn (sHd z1).2.1 (z1, z2, z3, z4) (fun u => sy n true ((sHd z1).1 :: w) (u.1.tail, u.2)) := fun n => by
              have h6 : ¬ (sHd z1).1 = 6 := fun h => by
                rw [h] at h4
                exact absurd h4 (by decide)
              simp only [sy]
              rw [if_neg (fun z => h6 z.1), if_neg (by omega), if_pos h4, st5, if_neg (by show ¬ sTp w = 4; omega), g3]
            unfold sKn at sg ⊢
            dsimp only at sg ⊢
            by_cases hc : z2 = 64
            · rw [if_pos hc]
              exact Or.inr (sEn_tr g4 (sEn_1 (fun n => by rw [sg, if_pos hc])))
            · rw [if_neg hc]
              have go : sGo true ([] ++ w) (l, cn, op, o) true ((sHd z1).1 :: w) (z1.tail, z2 + 1, z3, z4) := sGo_tr g4 (sGo_1 (fun n => by rw [sg, if_neg hc]))
              have hs := i3 (z1.tail, z2 + 1, z3, z4) ((sHd z1).1 :: w) (fun _ => by show 3 < sLv (sHd z1).1; omega) (by show sLv (sHd z1).1 < 5; omega)
              generalize rd f 3 (z1.tail, z2 + 1, z3, z4) = x at hs ⊢
              cases x with
              | inl e =>
                rcases hs with h | h
                · exact Or.inl h
                · exact Or.inr (sEn_tr go h)
              | inr y =>
                obtain ⟨y1, y2, y3, y4⟩ := y
                obtain ⟨q1, pe2, o2, q2, q3, q4, q5⟩ := hs
                dsimp only at q1 q3 q4 q5
                refine ⟨q1.trans g1, pe2 ++ [(sHd z1).1], o2, fun k hk => ?_, ?_, ?_, q5.1, q5.2, fun _ => ⟨pe2, (sHd z1).1, [], rfl, q2, h4⟩⟩
                · rcases List.mem_append.mp hk with h | h
                  · exact Nat.le_trans (by decide) (q2 k h)
                  · simp only [List.mem_cons, List.not_mem_nil, or_false] at h
                    subst h
                    omega
                · rw [sPt_app, q3]; rfl
                · rw [List.append_assoc]
                  exact sGo_tr go q4
          · rw [if_neg h4]
            exact ⟨g1, pe, oo, fun k hk => Nat.le_trans (by decide) (g2 k hk), g3, g4, g5.1, g5.2, fun h => absurd h h4⟩
    · intro u w hw
      simp only [rd]
      exact sAg_seq (by decide) (i5 u w (by omega)) (fun pe o l cn op hp hn => i7 w pe l cn op o hw hp hn)
    · intro w pe l cn op o hw hp hn
      simp only [rd]
      exact sAg_loop (N0 := sN5) (N1 := sN5) (b1 := 3) (sub := rd f 5) (by decide) (by decide) (by decide) (by decide) hw hp (fun k u hk _ => i5 u (k :: w) (by show sLv k ≤ 3; omega)) (fun _ _ k _ h => sN5_app [k] h) (fun pe o l cn op hp h => i7 w pe l cn op o hw hp h) (fun h => ⟨hn, h⟩)
    · intro u w hw
      simp only [rd]
      exact sAg_seq (by decide) (i6 u w (by omega)) (fun pe o l cn op hp hn => i9 w pe l cn op o hw hp hn)
    · intro w pe l cn op o hw hp hn
      simp only [rd]
      exact sAg_loop (N0 := sN6) (N1 := sN6) (b1 := 2) (sub := rd f 6) (by decide) (by decide) (by decide) (by decide) hw hp (fun k u hk _ => i6 u (k :: w) (by show sLv k < 2; omega)) (fun _ _ k _ h => ⟨sN5_app [k] h.1, h.2⟩) (fun pe o l cn op hp h => i9 w pe l cn op o hw hp h) (fun h => ⟨hn, h⟩)
/-- a whole E: the class ends as the reference does, or finds at once a comparison that can't stand there -/
theorem rd_sy_all {f : Nat} {l : List sT} {cn : Nat} {o : sK} (h : ∀ e, rd f 8 (l, cn, 0, o) = .inl e → e.1 ≠ 0) : sEn true [] (l, cn, 0, o) (rd f 8 (l, cn, 0, o)) ∨ ∃ z, rd f 8 (l, cn, 0, o) = .inr z ∧ sLv (sHd z.1).1 = 4 ∧ sEn true [] (l, cn, 0, o) (.inl (1, (sHd z.1).2.1)) := by
  have hs := (rd_sy f).2.2.2.2.2.2.2.2.1 (l, cn, 0, o) [] (by decide)
  generalize hx : rd f 8 (l, cn, 0, o) = x at hs h ⊢
  cases x with
  | inl e =>
    rcases hs with hs | hs
    · exact absurd hs (h e rfl)
    · exact Or.inl hs
  | inr z =>
    obtain ⟨z1, z2, z3, z4⟩ := z
    obtain ⟨g1, pe, oo, g2, g3, g4, g5⟩ := hs
    dsimp only at g1 g3 g4 g5
    subst g1
    have lv := sLv_6 (sHd z1).1
    by_cases h4 : sLv (sHd z1).1 = 4
    · refine Or.inr ⟨_, rfl, h4, sEn_tr g4 (sEn_1 (fun n => ?_))⟩
      have h6 : ¬ (sHd z1).1 = 6 := fun h => by
        rw [h] at h4
        exact absurd h4 (by decide)
      simp only [sy]
      rw [if_neg (fun z => h6 z.1), if_neg (by omega), if_pos h4, if_pos (sHc_st (g5.1.1.2.2 h4))]
    · refine Or.inl (sEn_tr g4 (sEn_1 (fun n => ?_)))
      have hq := g5
      unfold sN8 sN6 sN5 at hq
      have st1 := sSt_pe pe [] oo g2 (by decide)
      simp only [sy]
      rw [if_neg (fun z => by have := z.2; omega), if_pos (by omega), if_neg (by omega), st1, g3]
