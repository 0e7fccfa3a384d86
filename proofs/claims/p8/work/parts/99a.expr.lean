/-! AN E, twice: as the reference goes down its grammar (rd), as the class holds back its signs (sy). A token: kind, place, value. A state: tokens, knots counted, open ones, knots put (the last one first). A FAULT: kind (0: no fuel left), place -/
abbrev sT : Type := Nat × Nat × Int
abbrev sK : Type := List (Nat × Int)
abbrev sU : Type := List sT × Nat × Nat × sK
abbrev sX : Type := (Nat × Nat) ⊕ sU
def sHd (l : List sT) : sT := l.headD (0, 0, 0)
def sLv (k : Nat) : Nat := if k = 30 then 1 else if k = 31 then 2 else if k = 32 then 3 else if 7 ≤ k ∧ k ≤ 12 then 4 else if k = 13 ∨ k = 14 then 5 else if k = 15 ∨ k = 16 then 6 else 0
def sTp (w : List Nat) : Nat := match w with
  | [] => 0
  | k :: _ => sLv k
def sBd (x : sX) (f : sU → sX) : sX := match x with
  | .inl e => .inl e
  | .inr u => f u
/-- one knot more, if there is room -/
def sKn (p : Nat) (u : sU) (f : sU → sX) : sX := if u.2.1 = 64 then .inl (2, p) else f (u.1, u.2.1 + 1, u.2.2)
def rd : Nat → Nat → sU → sX
  | 0, _, _ => .inl (0, 0)
  | f + 1, 0, (l, cn, op, o) =>
    if (sHd l).1 = 5 then (if op = 8 then .inl (2, (sHd l).2.1) else sBd (rd f 8 (l.tail, cn, op + 1, o)) (fun u => if (sHd u.1).1 = 6 then .inr (u.1.tail, u.2.1, u.2.2.1 - 1, u.2.2.2) else .inl (1, (sHd u.1).2.1)))
    else if ¬ ((sHd l).1 = 2 ∨ (33 ≤ (sHd l).1 ∧ (sHd l).1 ≤ 39)) then .inl (1, (sHd l).2.1)
    else if (sHd l).1 = 2 ∧ 9999 < (sHd l).2.2 then .inl (2, (sHd l).2.1)
    else sKn (sHd l).2.1 (l, cn, op, o) (fun u => .inr (u.1.tail, u.2.1, u.2.2.1, ((sHd l).1, if (sHd l).1 = 2 then (sHd l).2.2 else 0) :: u.2.2.2))
  | f + 1, 1, u => sBd (rd f 0 u) (rd f 2)
  | f + 1, 2, u => if sLv (sHd u.1).1 = 6 then sKn (sHd u.1).2.1 u (fun v => sBd (rd f 0 (v.1.tail, v.2)) (fun z => rd f 2 (z.1, z.2.1, z.2.2.1, ((sHd u.1).1, 0) :: z.2.2.2))) else .inr u
  | f + 1, 3, u => sBd (rd f 1 u) (rd f 4)
  | f + 1, 4, u => if sLv (sHd u.1).1 = 5 then sKn (sHd u.1).2.1 u (fun v => sBd (rd f 1 (v.1.tail, v.2)) (fun z => rd f 4 (z.1, z.2.1, z.2.2.1, ((sHd u.1).1, 0) :: z.2.2.2))) else .inr u
  | f + 1, 5, u => if (sHd u.1).1 = 32 then sKn (sHd u.1).2.1 u (fun v => sBd (rd f 5 (v.1.tail, v.2)) (fun z => .inr (z.1, z.2.1, z.2.2.1, (32, 0) :: z.2.2.2)))
    else sBd (rd f 3 u) (fun y => if sLv (sHd y.1).1 = 4 then sKn (sHd y.1).2.1 y (fun v => sBd (rd f 3 (v.1.tail, v.2)) (fun z => .inr (z.1, z.2.1, z.2.2.1, ((sHd y.1).1, 0) :: z.2.2.2))) else .inr y)
  | f + 1, 6, u => sBd (rd f 5 u) (rd f 7)
  | f + 1, 7, u => if sLv (sHd u.1).1 = 2 then sKn (sHd u.1).2.1 u (fun v => sBd (rd f 5 (v.1.tail, v.2)) (fun z => rd f 7 (z.1, z.2.1, z.2.2.1, ((sHd u.1).1, 0) :: z.2.2.2))) else .inr u
  | f + 1, 8, u => sBd (rd f 6 u) (rd f 9)
  | f + 1, _, u => if sLv (sHd u.1).1 = 1 then sKn (sHd u.1).2.1 u (fun v => sBd (rd f 6 (v.1.tail, v.2)) (fun z => rd f 9 (z.1, z.2.1, z.2.2.1, ((sHd u.1).1, 0) :: z.2.2.2))) else .inr u
/-- what binds at least so tightly has its right side now -/
def sSt (L : Nat) : List Nat → sK → List Nat × sK
  | [], o => ([], o)
  | k :: w, o => if L ≤ sLv k then sSt L w ((k, 0) :: o) else (k :: w, o)
def sy : Nat → Bool → List Nat → sU → sX
  | 0, _, _, _ => .inl (0, 0)
  | f + 1, true, w, (l, cn, op, o) =>
    if (sHd l).1 = 5 then (if op = 8 then .inl (2, (sHd l).2.1) else sy f true (5 :: w) (l.tail, cn, op + 1, o))
    else if (sHd l).1 = 32 ∧ sTp w ≤ 3 then sKn (sHd l).2.1 (l, cn, op, o) (fun u => sy f true (32 :: w) (u.1.tail, u.2))
    else if ¬ ((sHd l).1 = 2 ∨ (33 ≤ (sHd l).1 ∧ (sHd l).1 ≤ 39)) then .inl (1, (sHd l).2.1)
    else if (sHd l).1 = 2 ∧ 9999 < (sHd l).2.2 then .inl (2, (sHd l).2.1)
    else sKn (sHd l).2.1 (l, cn, op, o) (fun u => sy f false w (u.1.tail, u.2.1, u.2.2.1, ((sHd l).1, if (sHd l).1 = 2 then (sHd l).2.2 else 0) :: u.2.2.2))
  | f + 1, false, w, (l, cn, op, o) =>
    if (sHd l).1 = 6 ∧ 0 < op then sy f false (sSt 1 w o).1.tail (l.tail, cn, op - 1, (sSt 1 w o).2)
    else if sLv (sHd l).1 = 0 ∨ sLv (sHd l).1 = 3 then (if 0 < op then .inl (1, (sHd l).2.1) else .inr (l, cn, op, (sSt 1 w o).2))
    else if sLv (sHd l).1 = 4 then (if sTp (sSt 5 w o).1 = 4 then .inl (1, (sHd l).2.1) else sKn (sHd l).2.1 (l, cn, op, (sSt 5 w o).2) (fun u => sy f true ((sHd l).1 :: (sSt 5 w o).1) (u.1.tail, u.2)))
    else sKn (sHd l).2.1 (l, cn, op, (sSt (sLv (sHd l).1) w o).2) (fun u => sy f true ((sHd l).1 :: (sSt (sLv (sHd l).1) w o).1) (u.1.tail, u.2))
/-- all that is held back is put -/
def sPt : List Nat → sK → sK
  | [], o => o
  | k :: w, o => sPt w ((k, 0) :: o)
theorem sPt_app (b : List Nat) : ∀ (a : List Nat) (o : sK), sPt (a ++ b) o = sPt b (sPt a o)
  | [], o => rfl
  | k :: a, o => sPt_app b a ((k, 0) :: o)
theorem sSt_pe {L : Nat} : ∀ (pe w : List Nat) (o : sK), (∀ k ∈ pe, L ≤ sLv k) → sTp w < L → sSt L (pe ++ w) o = (w, sPt pe o)
  | [], [], o, _, _ => rfl
  | [], k :: w, o, _, h => by
    show sSt L (k :: w) o = _
    unfold sSt
    rw [if_neg (show ¬ L ≤ sLv k from Nat.not_le.mpr h)]
    rfl
  | k :: pe, w, o, hp, h => by
    show sSt L (k :: (pe ++ w)) o = _
    unfold sSt
    rw [if_pos (hp k List.mem_cons_self)]
    exact sSt_pe pe w _ (fun k' h' => hp k' (List.mem_cons_of_mem _ h')) h
/-- a comparison is held back, and nothing above it but what binds more tightly -/
def sHc (pe : List Nat) : Prop := ∃ a k b, pe = a ++ k :: b ∧ (∀ x ∈ a, 5 ≤ sLv x) ∧ sLv k = 4
theorem sHc_app {pe : List Nat} (q : List Nat) (h : sHc pe) : sHc (pe ++ q) := by
  obtain ⟨a, k, b, rfl, h1, h2⟩ := h
  exact ⟨a, k, b ++ q, by simp, h1, h2⟩
theorem sHc_st {pe w : List Nat} {o : sK} (h : sHc pe) : sTp (sSt 5 (pe ++ w) o).1 = 4 := by
  obtain ⟨a, k, b, rfl, h1, h2⟩ := h
  rw [List.append_assoc, sSt_pe a (k :: b ++ w) o h1 (by show sLv k < 5; omega)]
  exact h2
/-- sy goes from one state to another -/
def sGo (v : Bool) (w : List Nat) (u : sU) (v' : Bool) (w' : List Nat) (u' : sU) : Prop := ∃ c, ∀ n, sy (n + c) v w u = sy n v' w' u'
def sEn (v : Bool) (w : List Nat) (u : sU) (x : sX) : Prop := ∃ c, ∀ n, sy (n + c) v w u = x
theorem sGo_rf {v : Bool} {w : List Nat} {u : sU} : sGo v w u v w u := ⟨0, fun _ => rfl⟩
theorem sGo_tr {v v' v'' : Bool} {w w' w'' : List Nat} {u u' u'' : sU} (h1 : sGo v w u v' w' u') (h2 : sGo v' w' u' v'' w'' u'') : sGo v w u v'' w'' u'' := by
  obtain ⟨c1, h1⟩ := h1
  obtain ⟨c2, h2⟩ := h2
  refine ⟨c2 + c1, fun n => ?_⟩
  rw [← Nat.add_assoc, h1, h2]
theorem sEn_tr {v v' : Bool} {w w' : List Nat} {u u' : sU} {x : sX} (h1 : sGo v w u v' w' u') (h2 : sEn v' w' u' x) : sEn v w u x := by
  obtain ⟨c1, h1⟩ := h1
  obtain ⟨c2, h2⟩ := h2
  refine ⟨c2 + c1, fun n => ?_⟩
  rw [← Nat.add_assoc, h1, h2]
theorem sGo_1 {v v' : Bool} {w w' : List Nat} {u u' : sU} (h : ∀ n, sy (n + 1) v w u = sy n v' w' u') : sGo v w u v' w' u' := ⟨1, h⟩
theorem sEn_1 {v : Bool} {w : List Nat} {u : sU} {x : sX} (h : ∀ n, sy (n + 1) v w u = x) : sEn v w u x := ⟨1, h⟩
/-- what rd's answer says of sy: b what binds in it at least, N what its next token may be -/
def sAg (w : List Nat) (v : Bool) (u : sU) (pe0 : List Nat) (b : Nat) (N : Nat → List Nat → Prop) (x : sX) : Prop := match x with
  | .inl e => e.1 = 0 ∨ sEn v (pe0 ++ w) u (.inl e)
  | .inr z => z.2.2.1 = u.2.2.1 ∧ ∃ pe o, (∀ k ∈ pe, b ≤ sLv k) ∧ z.2.2.2 = sPt pe o ∧ sGo v (pe0 ++ w) u false (pe ++ w) (z.1, z.2.1, z.2.2.1, o) ∧ N (sLv (sHd z.1).1) pe
