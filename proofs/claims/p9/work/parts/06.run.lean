/-! THE RUN of a method over abstract things -/
abbrev xMy (M : xM) : MethodName := M.1
abbrev xMc (M : xM) : ByteArray := M.2.1
abbrev xMl (M : xM) : Nat := M.2.2.1
abbrev xMr (M : xM) : Option FieldType := M.2.2.2.1
abbrev xMn (M : xM) : Nat := M.2.2.2.2.1
abbrev xMo (M : xM) : String := M.2.2.2.2.2.1
abbrev xMm (M : xM) : Room := M.2.2.2.2.2.2.1
abbrev xMk (M : xM) : List (Nat × xOp) := M.2.2.2.2.2.2.2
def xfind : List (Nat × xOp) → Nat → Option xOp
  | [], _ => none
  | q :: r, pc => if Nat.beq q.1 pc then some q.2 else xfind r pc
theorem xfind_mem : ∀ {l : List (Nat × xOp)} {pc : Nat} {o : xOp}, xfind l pc = some o → (pc, o) ∈ l
  | q :: r, pc, o, h => by
    simp only [xfind] at h
    split at h
    · next he =>
      cases h
      rw [Nat.beq_eq] at he
      subst he
      exact List.mem_cons_self
    · exact List.mem_cons_of_mem _ (xfind_mem h)
def xlk : xL → Nat → Option xV
  | [], _ => none
  | q :: r, i => if Nat.beq q.1 i then some q.2 else xlk r i
theorem xlk_mem : ∀ {l : xL} {i : Nat} {v : xV}, xlk l i = some v → (i, v) ∈ l
  | q :: r, i, o, h => by
    simp only [xlk] at h
    split at h
    · next he =>
      cases h
      rw [Nat.beq_eq] at he
      subst he
      exact List.mem_cons_self
    · exact List.mem_cons_of_mem _ (xlk_mem h)
def xkdb (k : Nat) (v : xV) : Bool := match k with
  | 0 => Nat.beq v.1 0 || Nat.beq v.1 3
  | 1 => Nat.beq v.1 1 || (Nat.beq v.1 2 || (Nat.beq v.1 5 || (Nat.beq v.1 6 || Nat.beq v.1 7)))
  | _ => Nat.beq v.1 4
def xcat (v : xV) : Nat := match v with
  | (0, _) => 1
  | (1, _) => 1
  | (2, _) => 1
  | (3, _) => 1
  | (5, _) => 1
  | (6, _) => 1
  | (7, _) => 1
  | _ => 2
theorem xcat_ok {b : Nat} {ρ : Nat → Int32} {sa : Nat → Nat} (v : xV) : (xdv b ρ sa v).category = xcat v := by
  match v with
  | (0, _) | (1, _) | (2, _) | (3, _) | (4, _) | (5, _) | (6, _) => rfl
  | (7, _) =>
    simp only [xdv, xcat]
    split <;> rfl
  | (n + 8, _) => rfl
theorem xk0 {v : xV} (h : xkdb 0 v = true) {b : Nat} {ρ : Nat → Int32} {sa : Nat → Nat} : xdv b ρ sa v = .int (xdi ρ v) := by
  match v, h with
  | (0, _), _ => rfl
  | (3, _), _ => rfl
  | (1, _), h | (2, _), h => cases h
  | (n + 4, _), h => cases h
theorem xk1 {v : xV} (h : xkdb 1 v = true) {b : Nat} {ρ : Nat → Int32} {sa : Nat → Nat} : xkd 1 (xdv b ρ sa v) := by
  match v, h with
  | (1, _), _ => exact Or.inr ⟨_, rfl⟩
  | (2, _), _ => exact Or.inl rfl
  | (5, _), _ => exact Or.inr ⟨_, rfl⟩
  | (6, _), _ => exact Or.inr ⟨_, rfl⟩
  | (7, _), _ =>
    simp only [xdv]
    split
    · exact Or.inl rfl
    · exact Or.inr ⟨_, rfl⟩
  | (0, _), h | (3, _), h | (4, _), h => cases h
  | (n + 8, _), h => cases h
theorem xk2 {v : xV} (h : xkdb 2 v = true) {b : Nat} {ρ : Nat → Int32} {sa : Nat → Nat} : xdv b ρ sa v = .long (lN v.2) := by
  match v, h with
  | (4, _), _ => rfl
  | (0, _), h | (1, _), h | (2, _), h | (3, _), h => cases h
  | (n + 5, _), h => cases h
theorem xkk {k : Nat} (hk : k < 3) {v : xV} (h : xkdb k v = true) {b : Nat} {ρ : Nat → Int32} {sa : Nat → Nat} : xkd k (xdv b ρ sa v) := by
  match k, hk, h with
  | 0, _, h => exact ⟨_, xk0 h⟩
  | 1, _, h => exact xk1 h
  | 2, _, h => exact ⟨_, xk2 h⟩
def xflb (k i : Nat) (q : Nat × xV) : Bool := match k with
  | 2 => !(Nat.beq q.1 i) && (!(Nat.beq q.1 (i + 1)) && !(Nat.beq (q.1 + 1) i && Nat.beq (xcat q.2) 2))
  | _ => !(Nat.beq q.1 i) && !(Nat.beq (q.1 + 1) i && Nat.beq (xcat q.2) 2)
theorem xbeq (a b : Nat) : (a == b) = Nat.beq a b := by
  rw [Bool.eq_iff_iff]
  simp
def xdL (b : Nat) (ρ : Nat → Int32) (sa : Nat → Nat) (lv : xL) : List (Nat × Value) := lv.map (fun q => (q.1, xdv b ρ sa q.2))
theorem xflb_ok {b : Nat} {ρ : Nat → Int32} {sa : Nat → Nat} (k i : Nat) (lv : xL) : (xdL b ρ sa lv).filter (xfl k i) = xdL b ρ sa (lv.filter (xflb k i)) := by
  unfold xdL
  rw [List.filter_map]
  congr 1
  apply List.filter_congr
  intro q _
  show xfl k i (q.1, xdv b ρ sa q.2) = xflb k i q
  match k with
  | 0 | 1 => simp only [xfl, xflb, xbeq, xcat_ok]
  | 2 => simp only [xfl, xflb, xbeq, xcat_ok]
  | n + 3 => simp only [xfl, xflb, xbeq, xcat_ok]
def xeqd (d t : Nat × xV × xV) : Bool := Nat.beq d.1 t.1 && (Nat.beq d.2.1.1 t.2.1.1 && (Nat.beq d.2.1.2 t.2.1.2 && (Nat.beq d.2.2.1 t.2.2.1 && Nat.beq d.2.2.2 t.2.2.2)))
def xidx : xD → Nat × xV × xV → Nat → Option Nat
  | [], _, _ => none
  | d :: r, t, k => if xeqd d t then some k else xidx r t (k + 1)
def xfd (ρ : Nat → Int32) (o : Nat) (x y : xV) : Int32 := if o = 11 then (xdi ρ x).toInt8.toInt32 else fbin o (xdi ρ x) (xdi ρ y)
def xdok (ρ : Nat → Int32) (ds : xD) : Prop := ∀ (k o : Nat) (x y : xV), ds[k]? = some (o, x, y) → o < 90 → ρ k = xfd ρ o x y
theorem xidx_ok : ∀ {ds : xD} {t : Nat × xV × xV} {j k : Nat}, xidx ds t j = some k → ∃ i, k = j + i ∧ ds[i]? = some t
  | d :: r, t, j, k, h => by
    simp only [xidx] at h
    split at h
    · next he =>
      cases h
      simp only [xeqd, Bool.and_eq_true, Nat.beq_eq] at he
      refine ⟨0, rfl, ?_⟩
      obtain ⟨a, ⟨b1, b2⟩, c1, c2⟩ := d
      obtain ⟨a', ⟨b1', b2'⟩, c1', c2'⟩ := t
      simp only at he
      obtain ⟨rfl, rfl, rfl, rfl, rfl⟩ := he
      rfl
    · obtain ⟨i, h1, h2⟩ := xidx_ok h
      exact ⟨i + 1, by omega, by simpa using h2⟩
def xall {α : Type} : List α → (α → Option (List xR)) → Option (List xR)
  | [], _ => some []
  | a :: r, f => xadd (f a) (xall r f)
theorem xall_ok {α : Type} {f : α → Option (List xR)} : ∀ {l : List α} {L : List xR}, xall l f = some L → ∀ a ∈ l, ∃ x, f a = some x ∧ ∀ q ∈ x, q ∈ L
  | a0 :: r, L, h, a, ha => by
    simp only [xall] at h
    cases h1 : f a0 with
    | none => rw [h1] at h; cases h
    | some x1 =>
      cases h2 : xall r f with
      | none => rw [h1, h2] at h; cases h
      | some x2 =>
        rw [h1, h2] at h
        cases h
        rcases List.mem_cons.mp ha with rfl | ha
        · exact ⟨x1, h1, fun q hq => List.mem_append_left _ hq⟩
        · obtain ⟨x, hx, hq⟩ := xall_ok h2 a ha
          exact ⟨x, hx, fun q h => List.mem_append_right _ (hq q h)⟩
abbrev xRec : Type := Nat → xL → List xV → xH → Nat → Nat → xK → Option (List xR)
abbrev xCal : Type := xM → List xV → xH → xK → Option (List xR)
/-- a switch, case by case -/
def xsw (x : xV) (kd : xK → Option (List xR)) (kc : Nat → xK → Option (List xR)) : List (Nat × Nat) → xK → Option (List xR)
  | [], κ => kd κ
  | q :: r, κ => xfork κ 0 x (0, q.1) (kc q.2) (xsw x kd kc r)
theorem xsw_ok {ρ : Nat → Int32} {x : xV} {kd : xK → Option (List xR)} {kc : Nat → xK → Option (List xR)} : ∀ {cs : List (Nat × Nat)} {κ : xK} {Ls : List xR}, xKok ρ κ → xsw x kd kc cs κ = some Ls →
    (∃ q ∈ cs, xdi ρ x = nI q.1 ∧ ∃ κ' L, kc q.2 κ' = some L ∧ xKok ρ κ' ∧ ∀ z ∈ L, z ∈ Ls) ∨ ((∀ q ∈ cs, ¬ xdi ρ x = nI q.1) ∧ ∃ κ' L, kd κ' = some L ∧ xKok ρ κ' ∧ ∀ z ∈ L, z ∈ Ls)
  | [], κ, Ls, hκ, h => Or.inr ⟨fun q hq => (by cases hq), κ, Ls, h, hκ, fun _ z => z⟩
  | q :: r, κ, Ls, hκ, h => by
    simp only [xsw] at h
    obtain ⟨h1, h2⟩ := xfork_ok hκ h
    by_cases hc : xdi ρ x = nI q.1
    · exact Or.inl ⟨q, List.mem_cons_self, hc, h1 hc⟩
    · obtain ⟨κ', L, h3, h4, h5⟩ := h2 hc
      rcases xsw_ok h4 h3 with ⟨q', hq, e, κ2, L2, g1, g2, g3⟩ | ⟨hn, κ2, L2, g1, g2, g3⟩
      · exact Or.inl ⟨q', List.mem_cons_of_mem _ hq, e, κ2, L2, g1, g2, fun z hz => h5 z (g3 z hz)⟩
      · refine Or.inr ⟨fun q' hq => ?_, κ2, L2, g1, g2, fun z hz => h5 z (g3 z hz)⟩
        rcases List.mem_cons.mp hq with rfl | hq
        · exact hc
        · exact hn q' hq
/-- may a field of this type hold it: 0 int, 2 long, 3 boolean, 4 a reference -/
def xfit (t : Nat) (v : xV) : Bool := match t with
  | 0 => xkdb 0 v
  | 2 => xkdb 2 v
  | 3 => Nat.beq v.1 0 && Nat.ble v.2 1
  | 4 => xkdb 1 v
  | _ => false
def xtc (ty : FieldType) : Nat := match ty with
  | .int => 0
  | .long => 2
  | .boolean => 3
  | .object _ => 4
  | .array _ => 4
  | _ => 9
theorem xfit_ok {ty : FieldType} {v : xV} (h : xfit (xtc ty) v = true) {b : Nat} {ρ : Nat → Int32} {sa : Nat → Nat} : narrow ty (xdv b ρ sa v) = xdv b ρ sa v ∧ fits ty (xdv b ρ sa v) = true := by
  cases ty with
  | int => rw [xk0 h]; exact ⟨rfl, rfl⟩
  | long => rw [xk2 h]; exact ⟨rfl, rfl⟩
  | boolean =>
    simp only [xtc, xfit, Bool.and_eq_true, Nat.beq_eq, Nat.ble_eq] at h
    obtain ⟨t, n⟩ := v
    obtain ⟨rfl, h2⟩ := h
    dsimp only at h2
    rcases (show n = 0 ∨ n = 1 by omega) with rfl | rfl
    · show narrow .boolean (.int (nI 0)) = .int (nI 0) ∧ fits .boolean (.int (nI 0)) = true
      decide +kernel
    · show narrow .boolean (.int (nI 1)) = .int (nI 1) ∧ fits .boolean (.int (nI 1)) = true
      decide +kernel
  | object C =>
    rcases xk1 h (b := b) (ρ := ρ) (sa := sa) with e | ⟨a, e⟩ <;> rw [e] <;> exact ⟨rfl, rfl⟩
  | array t =>
    rcases xk1 h (b := b) (ρ := ρ) (sa := sa) with e | ⟨a, e⟩ <;> rw [e] <;> exact ⟨rfl, rfl⟩
  | _ => cases h
/-- may an array of this type take it -/
def xwok (ds : xD) (t : Nat) (v : xV) : Bool := match t with
  | 0 => xkdb 0 v
  | 1 => match v with
    | (3, k) => match ds[k]? with
      | some d => Nat.beq d.1 11
      | none => false
    | _ => false
  | 3 => Nat.beq v.1 0 && Nat.ble v.2 1
  | _ => false
theorem xnarb {n : Nat} (h : n ≤ 1) : vp_nar .boolean (nI n) = nI n := by
  rcases (show n = 0 ∨ n = 1 by omega) with rfl | rfl <;> decide +kernel
theorem xwok_ok {ρ : Nat → Int32} {ds : xD} (hds : xdok ρ ds) {t : Nat} {v : xV} (h : xwok ds t v = true) : (t = 0 ∨ t = 1 ∨ t = 3) ∧ xkdb 0 v = true ∧ vp_nar (xty t) (xdi ρ v) = xdi ρ v := by
  match t, h with
  | 0, h => exact ⟨Or.inl rfl, h, rfl⟩
  | 1, h =>
    match v, h with
    | (3, k), h =>
      simp only [xwok] at h
      cases hk : ds[k]? with
      | none => rw [hk] at h; cases h
      | some q =>
        obtain ⟨o, x, y⟩ := q
        rw [hk] at h
        have ho : o = 11 := Nat.eq_of_beq_eq_true h
        subst ho
        have hd := hds _ _ _ _ hk (by omega)
        rw [xfd, if_pos rfl] at hd
        refine ⟨Or.inr (Or.inl rfl), rfl, ?_⟩
        show vp_nar .byte (ρ k) = ρ k
        rw [hd]
        exact pk_vb _
    | (0, _), h | (1, _), h | (2, _), h => cases h
    | (n + 4, _), h => cases h
  | 3, h =>
    simp only [xwok, Bool.and_eq_true, Nat.beq_eq, Nat.ble_eq] at h
    obtain ⟨v1, v2⟩ := v
    obtain ⟨hv1, hv2⟩ := h
    dsimp only at hv1 hv2
    subst hv1
    exact ⟨Or.inr (Or.inr rfl), rfl, xnarb hv2⟩
  | 2, h => cases h
  | n + 4, h => cases h
def xlb (o x y : Nat) : Option Nat := match o with
  | 3 => some (Nat.land x y)
  | 5 => some (Nat.xor x y)
  | _ => none
def flb (o : Nat) (x y : Int64) : Int64 := match o with
  | 3 => x &&& y
  | 5 => x ^^^ y
  | _ => 0
theorem xlb_ok {o x y z : Nat} (h : xlb o x y = some z) : flb o (lN x) (lN y) = lN z := by
  match o, h with
  | 3, h =>
    cases h
    apply Int64.toBitVec_inj.mp
    show BitVec.ofNat 64 x &&& BitVec.ofNat 64 y = BitVec.ofNat 64 (x &&& y)
    apply BitVec.eq_of_toNat_eq
    simp [Nat.and_mod_two_pow]
  | 5, h =>
    cases h
    apply Int64.toBitVec_inj.mp
    show BitVec.ofNat 64 x ^^^ BitVec.ofNat 64 y = BitVec.ofNat 64 (x ^^^ y)
    apply BitVec.eq_of_toNat_eq
    simp [Nat.xor_mod_two_pow]
def xsum : List xV → Nat
  | [] => 0
  | v :: r => xcat v + xsum r
theorem xsum_ok {b : Nat} {ρ : Nat → Int32} {sa : Nat → Nat} : ∀ st : List xV, ((st.map (xdv b ρ sa)).map fun v => v.category).sum = xsum st
  | [] => rfl
  | v :: r => by
    simp only [List.map_cons, List.sum_cons, xsum, xcat_ok]
    rw [xsum_ok r]
def xargs : Nat → List xV → xL
  | _, [] => []
  | i, v :: r => (i, v) :: xargs (i + xcat v) r
theorem xargs_ok {b : Nat} {ρ : Nat → Int32} {sa : Nat → Nat} : ∀ (vs : List xV) (i : Nat), lv_args i (vs.map (xdv b ρ sa)) = xdL b ρ sa (xargs i vs)
  | [], _ => rfl
  | v :: r, i => by
    simp only [List.map_cons, lv_args, xargs, xdL]
    rw [xcat_ok]
    congr 1
    have e : (if xcat v = 2 then i + 2 else i + 1) = i + xcat v := by
      match v with
      | (0, _) | (1, _) | (2, _) | (3, _) | (4, _) | (5, _) | (6, _) | (7, _) => rfl
      | (n + 8, _) => rfl
    rw [e]
    exact xargs_ok r (i + xcat v)
theorem xlen_ok {b : Nat} {ρ : Nat → Int32} {sa : Nat → Nat} : ∀ vs : List xV, (lg_sl (vs.map (xdv b ρ sa))).length = xsum vs
  | [] => rfl
  | v :: r => by
    have ih := xlen_ok (b := b) (ρ := ρ) (sa := sa) r
    simp only [lg_sl, List.map_cons, List.flatMap_cons, List.length_append, xsum] at ih ⊢
    rw [ih, xcat_ok]
    match v with
    | (0, _) | (1, _) | (2, _) | (3, _) | (4, _) | (5, _) | (6, _) | (7, _) => rfl
    | (n + 8, _) => rfl
/-- a room that holds what a callee asks -/
def xroom (R : Room) (M' : xM) (ce sl : Nat) : Bool := Nat.ble ((xMm M').frames + 1) R.frames && (Nat.ble (8 + (xMl M' + 11) + (xMm M').locals) R.locals && (Nat.ble (ce + (xMm M').cells) R.cells && Nat.ble (sl + (xMm M').slots) R.slots))
def xput (st : List xV) (r : Option xV) : List xV := match r with
  | some v => v :: st
  | none => st
def xh_call (mt : List xM) (M : xM) (rec : xRec) (call : xCal) (n0 nx mi : Nat) (lv : xL) (st : List xV) (K : xH) (ce sl : Nat) (κ : xK) : Option (List xR) := match mt[mi]? with
  | none => none
  | some M' =>
    if Nat.ble (xMn M' + n0) st.length && (xroom (xMm M) M' ce sl && (Nat.ble (xsum (st.drop (xMn M' + n0))) 8 && Nat.ble (xsum (st.take (xMn M' + n0))) (xMl M'))) then
      match call M' (st.take (xMn M' + n0)).reverse K κ with
      | none => none
      | some L => xall L (fun lf => rec nx lv (xput (st.drop (xMn M' + n0)) lf.2.1) lf.2.2 (ce + (xMm M').cells) (sl + (xMm M').slots) lf.1)
    else none
/-- the script's length, where it is told -/
def xSc (ds : xD) : Option Nat := match ds with
  | (98, (0, L), _) :: _ => some L
  | _ => none
def xob (K : xH) (i ci : Nat) : Option (List xV) := match K[i]? with
  | some (.inr (c, fs)) => if Nat.beq c ci then some fs else none
  | _ => none
def xfr (fs : List xV) (k : Nat) : Option Nat := match fs[k]? with
  | some (1, h) => some h
  | _ => none
/-- the object at i has no voices -/
def xlkb (K : xH) (i : Nat) : Bool := match xob K i 11 with
  | some fs => match xfr fs 1 with
    | some h => match xob K h 4 with
      | some gs => match xfr gs 1 with
        | some v => match xob K v 6 with
          | some rs => match rs[1]? with
            | some (0, 0) => true
            | _ => false
          | none => false
        | none => false
      | none => false
    | none => false
  | none => false
noncomputable def xnth (l : List xV) : Nat → Option xV := List.rec (motive := fun _ => Nat → Option xV) (fun _ => none) (fun a _ ih n => Nat.rec (motive := fun _ => Option xV) (some a) (fun k _ => ih k) n) l
theorem xnth_ok : ∀ (l : List xV) (n : Nat), xnth l n = l[n]?
  | [], _ => rfl
  | _ :: _, 0 => rfl
  | a :: r, n + 1 => by
    show xnth r n = (a :: r)[n + 1]?
    rw [xnth_ok r n, List.getElem?_cons_succ]
def xeqv (w v : xV) : Bool := Nat.beq w.1 v.1 && Nat.beq w.2 v.2
theorem xeqv_ok {w v : xV} (h : xeqv w v = true) : w = v := by
  simp only [xeqv, Bool.and_eq_true, Nat.beq_eq] at h
  obtain ⟨a, b⟩ := w
  obtain ⟨c, d⟩ := v
  obtain ⟨h1, h2⟩ := h
  dsimp only at h1 h2
  rw [h1, h2]
theorem xset_id {α : Type} {l : List α} {n : Nat} {v : α} (h : l[n]? = some v) : l.set n v = l := by
  apply List.ext_getElem?
  intro j
  by_cases e : n = j
  · subst e
    rw [List.getElem?_set_self (List.getElem?_eq_some_iff.mp h).1, h]
  · rw [List.getElem?_set_ne e]
theorem xset_same {K : xH} {i t n : Nat} {vs : List xV} {v : xV} (hK : K[i]? = some (.inl (t, vs))) (hv : vs[n]? = some v) : K.set i (.inl (t, vs.set n v)) = K := by
  rw [xset_id hv]
  exact xset_id hK
/-- the first n of a list are zeros -/
noncomputable def xzs (n : Nat) : List xV → Bool := Nat.rec (motive := fun _ => List xV → Bool) (fun _ => true) (fun _ ih l => List.rec (motive := fun _ => Bool) false (fun a r _ => xeqv a (0, 0) && ih r) l) n
theorem xzs_ok : ∀ {n : Nat} {l : List xV}, xzs n l = true → ∀ i, i < n → l[i]? = some (0, 0)
  | 0, _, _, i, hi => absurd hi (Nat.not_lt_zero i)
  | n + 1, [], h, _, _ => by
    change false = true at h
    cases h
  | n + 1, a :: r, h, i, hi => by
    change (xeqv a (0, 0) && xzs n r) = true at h
    rw [Bool.and_eq_true] at h
    cases i with
    | zero =>
      rw [xeqv_ok h.1]
      rfl
    | succ i =>
      rw [List.getElem?_cons_succ]
      exact xzs_ok h.2 i (by omega)
noncomputable def xzf (K : xH) (fs : List xV) (k n : Nat) : Bool := match xfr fs k with
  | some a => match K[a]? with
    | some (.inl (0, vs)) => xzs n vs
    | _ => false
  | none => false
theorem xfr_ok {fs : List xV} {k h : Nat} (hh : xfr fs k = some h) : fs[k]? = some (1, h) := by
  simp only [xfr] at hh
  split at hh
  · next q hk =>
    cases hh
    exact hk
  · cases hh
theorem xob_ok {K : xH} {i ci : Nat} {fs : List xV} (h : xob K i ci = some fs) : K[i]? = some (.inr (ci, fs)) := by
  simp only [xob] at h
  split at h
  · next c gs hk =>
    split at h
    · next he =>
      rw [Nat.beq_eq] at he
      cases h
      rw [hk, he]
    · cases h
  · cases h
theorem xzf_ok {K : xH} {fs : List xV} {k n : Nat} (h : xzf K fs k n = true) : ∃ (a : Nat) (vs : List xV), fs[k]? = some (1, a) ∧ K[a]? = some (.inl (0, vs)) ∧ ∀ i, i < n → vs[i]? = some (0, 0) := by
  simp only [xzf] at h
  split at h
  · next a ha =>
    split at h
    · next vs hk => exact ⟨a, vs, xfr_ok ha, hk, xzs_ok h⟩
    · cases h
  · cases h
def xin0 (iv : List (Nat × Nat)) (k : Nat) : Bool := match iv[k]? with
  | some q => Nat.ble 2147483648 q.1 && Nat.blt q.2 2147484648
  | none => false
theorem xin0_ok {ρ : Nat → Int32} {κ : xK} (hκ : xKok ρ κ) {k : Nat} (h : xin0 κ.2 k = true) : ∃ n, n < 1000 ∧ ρ k = nI n := by
  simp only [xin0] at h
  split at h
  · next q hq =>
    obtain ⟨lo, hi⟩ := q
    simp only [Bool.and_eq_true, Nat.ble_eq, Nat.blt_eq] at h
    obtain ⟨h1, h2⟩ := hκ.2 k lo hi hq
    refine ⟨sgI (ρ k) - 2147483648, by omega, ?_⟩
    have e := sgI_eq (x := ρ k) (n := sgI (ρ k)) (sgI_lt _) rfl
    have e2 : xsg (sgI (ρ k)) = sgI (ρ k) - 2147483648 := by
      simp only [xsg]
      omega
    rw [e2] at e
    exact e
  · cases h
def xlv3 (lv : xL) : Option (Nat × Nat) := match lv with
  | [(2, (0, 0)), (0, (1, o)), (1, (3, k))] => some (o, k)
  | _ => none
theorem xlv3_ok {lv : xL} {o k : Nat} (h : xlv3 lv = some (o, k)) : lv = [(2, (0, 0)), (0, (1, o)), (1, (3, k))] := by
  unfold xlv3 at h
  split at h
  · cases h
    rfl
  · cases h
def xnl0 (st : List xV) : Bool := match st with
  | [] => true
  | _ => false
theorem xnl0_ok {st : List xV} (h : xnl0 st = true) : st = [] := by
  cases st with
  | nil => rfl
  | cons a r => cases h
/-- the loop that clears the cells 0 to x of two arrays -/
def xlops : List (Nat × xOp) := [(6, (2, 7, 0, 2, [])), (7, (2, 8, 0, 1, [])), (8, (13, 11, 53, 4, [])), (11, (2, 12, 1, 0, [])), (12, (16, 15, 12, 53, [])), (15, (0, 18, 1000, 0, [])), (18, (2, 19, 1, 0, [])), (19, (16, 22, 12, 3, [])), (22, (0, 23, 2, 0, [])), (23, (19, 24, 0, 0, [])), (24, (5, 25, 2, 0, [])), (25, (2, 26, 0, 2, [])), (26, (5, 27, 0, 0, [])), (27, (0, 28, 0, 0, [])), (28, (21, 29, 0, 0, [])), (29, (2, 30, 1, 0, [])), (30, (16, 33, 12, 54, [])), (33, (0, 36, 1000, 0, [])), (36, (2, 37, 1, 0, [])), (37, (16, 40, 12, 3, [])), (40, (0, 41, 2, 0, [])), (41, (19, 42, 0, 0, [])), (42, (5, 43, 2, 0, [])), (43, (2, 44, 0, 2, [])), (44, (5, 45, 0, 0, [])), (45, (0, 46, 0, 0, [])), (46, (21, 47, 0, 0, [])), (47, (4, 50, 2, 1, [])), (50, (14, 6, 0, 0, []))]
noncomputable def xstep (mt : List xM) (ds : xD) (al : Bool) (M : xM) (rec : xRec) (call : xCal) (op : xOp) (lv : xL) (st : List xV) (K : xH) (ce sl : Nat) (κ : xK) : Option (List xR) := match op.1 with
  | 0 => rec op.2.1 lv ((0, op.2.2.1) :: st) K ce sl κ
  | 1 => rec op.2.1 lv ((4, op.2.2.1) :: st) K ce sl κ
  | 2 => match xlk lv op.2.2.2.1 with
    | none => none
    | some v => if xkdb op.2.2.1 v then rec op.2.1 lv (xnm κ.2 v :: st) K ce sl κ else none
  | 3 => match st with
    | [] => none
    | v :: st' => if xkdb op.2.2.1 v && Nat.blt (op.2.2.2.1 + xwd op.2.2.1) (xMl M) then rec op.2.1 ((op.2.2.2.1, v) :: lv.filter (xflb op.2.2.1 op.2.2.2.1)) st' K ce sl κ else none
  | 4 => match xlk lv op.2.2.1 with
    | some (0, x) => if Nat.blt op.2.2.1 (xMl M) then rec op.2.1 ((op.2.2.1, (0, (x + op.2.2.2.1) % 4294967296)) :: lv.filter (xflb 0 op.2.2.1)) st K ce sl κ else none
    | _ => none
  | 5 => match st with
    | y :: x :: st' => match xnm κ.2 y, xnm κ.2 x with
      | (0, y'), (0, x') => match xbin op.2.2.1 x' y' with
        | none => none
        | some z => rec op.2.1 lv ((0, z) :: st') K ce sl κ
      | y', x' => if xkdb 0 y' && (xkdb 0 x' && Nat.blt op.2.2.1 9) then
          match xidx ds (op.2.2.1, x', y') 0 with
          | none => none
          | some k => rec op.2.1 lv ((3, k) :: st') K ce sl κ
        else none
    | _ => none
  | 6 => match st with
    | x :: st' => if xkdb 0 x then
        match xidx ds (11, x, (0, 0)) 0 with
        | none => none
        | some k => rec op.2.1 lv ((3, k) :: st') K ce sl κ
      else none
    | _ => none
  | 7 => match st with
    | (4, y) :: (4, x) :: st' => match xlb op.2.2.1 x y with
      | none => none
      | some z => rec op.2.1 lv ((4, z) :: st') K ce sl κ
    | _ => none
  | 8 => match st with
    | (4, y) :: (4, x) :: st' => if Nat.beq x y || (Nat.blt x 9223372036854775808 && Nat.blt y 9223372036854775808) then
        rec op.2.1 lv ((0, if Nat.blt y x then 1 else if Nat.beq x y then 0 else 4294967295) :: st') K ce sl κ
      else none
    | _ => none
  | 9 => match st with
    | v :: st' => if Nat.beq (xcat v) 1 then rec op.2.1 lv (v :: v :: st') K ce sl κ else none
    | _ => none
  | 10 => match st with
    | v :: st' => if Nat.beq (xcat v) 1 then rec op.2.1 lv st' K ce sl κ else none
    | _ => none
  | 11 => match st with
    | v :: w :: st' => if Nat.beq (xcat v) 1 && Nat.beq (xcat w) 1 then rec op.2.1 lv (v :: w :: v :: w :: st') K ce sl κ else none
    | _ => none
  | 12 => match st with
    | x :: st' => if xkdb 0 x then xfork κ op.2.2.2.1 x (0, 0) (fun κ' => rec op.2.2.1 lv st' K ce sl κ') (fun κ' => rec op.2.1 lv st' K ce sl κ') else none
    | _ => none
  | 13 => match st with
    | y :: x :: st' => if xkdb 0 x && xkdb 0 y then xfork κ op.2.2.2.1 x y (fun κ' => rec op.2.2.1 lv st' K ce sl κ') (fun κ' => rec op.2.1 lv st' K ce sl κ') else none
    | _ => none
  | 14 => rec op.2.1 lv st K ce sl κ
  | 15 => match st with
    | x :: st' => if xkdb 0 x then xsw x (fun κ' => rec op.2.2.1 lv st' K ce sl κ') (fun t κ' => rec t lv st' K ce sl κ') op.2.2.2.2 κ else none
    | _ => none
  | 16 => match st with
    | (1, i) :: st' => match K[i]? with
      | some (.inr (ci, fs)) => if Nat.beq ci op.2.2.1 then
          match fs[op.2.2.2.1]? with
          | none => none
          | some v => rec op.2.1 lv (v :: st') K ce sl κ
        else none
      | _ => none
    | _ => none
  | 17 => match st with
    | v :: (1, i) :: st' => match K[i]? with
      | some (.inr (ci, fs)) => match op.2.2.2.2 with
        | [q] => if Nat.beq ci op.2.2.1 && (xfit q.1 v && Nat.blt op.2.2.2.1 fs.length) then rec op.2.1 lv st' (K.set i (.inr (ci, fs.set op.2.2.2.1 v))) ce sl κ else none
        | _ => none
      | _ => none
    | _ => none
  | 18 => match st with
    | (1, i) :: st' => match K[i]? with
      | some (.inl (t, vs)) => if Nat.blt t 5 then rec op.2.1 lv ((0, vs.length) :: st') K ce sl κ else none
      | _ => none
    | (6, k) :: st' => if Nat.blt k 3 then rec op.2.1 lv ((0, xlen.getD k 0) :: st') K ce sl κ else none
    | _ => none
  | 19 => match st with
    | j :: (1, i) :: st' => match K[i]?, xnm κ.2 j with
      | some (.inl (t, vs)), (0, n) => if Nat.beq t op.2.2.1 && Nat.blt n 2147483648 then
          match xnth vs n with
          | none => none
          | some v => if xkdb 0 v then rec op.2.1 lv (v :: st') K ce sl κ else none
        else none
      | some (.inl (t, vs)), (3, k) => if Nat.beq t op.2.2.1 && (xin0 κ.2 k && xzs 1000 vs) then rec op.2.1 lv ((0, 0) :: st') K ce sl κ else none
      | _, _ => none
    | _ => none
  | 20 => match st with
    | j :: (1, i) :: st' => match K[i]?, xnm κ.2 j with
      | some (.inl (4, vs)), (0, n) => if Nat.blt n 2147483648 then
          match vs[n]? with
          | some (1, q) => rec op.2.1 lv ((1, q) :: st') K ce sl κ
          | _ => none
        else none
      | _, _ => none
    | _ => none
  | 21 => match st with
    | v :: j :: (1, i) :: st' => match K[i]?, xnm κ.2 j with
      | some (.inl (t, vs)), (0, n) =>
        if Nat.beq t op.2.2.1 && (Nat.blt n 2147483648 && xwok ds t v) then
          match xnth vs n with
          | none => none
          | some w => if xeqv w v then rec op.2.1 lv st' K ce sl κ else rec op.2.1 lv st' (K.set i (.inl (t, vs.set n v))) ce sl κ
        else none
      | _, _ => none
    | _ => none
  | 22 => if al && (Nat.blt ce (xMm M).cells && (Nat.ble (sl + op.2.2.2.1) (xMm M).slots && op.2.2.2.2.all (fun q => Nat.beq q.1 0 || (Nat.beq q.1 2 || Nat.beq q.1 4)))) then rec op.2.1 lv ((1, K.length) :: st) (K ++ [.inr (op.2.2.1, op.2.2.2.2)]) (ce + 1) (sl + op.2.2.2.1) κ else none
  | 23 => match st with
    | (0, n) :: st' => if al && (Nat.blt ce (xMm M).cells && (Nat.ble (sl + n) (xMm M).slots && Nat.blt n 67108864)) then rec op.2.1 lv ((1, K.length) :: st') (K ++ [.inl (op.2.2.1, List.replicate n (xzero op.2.2.1))]) (ce + 1) (sl + n) κ else none
    | _ => none
  | 24 => match st with
    | (0, k) :: (0, n) :: st' => if al && (Nat.ble (ce + (1 + n)) (xMm M).cells && (Nat.ble (sl + (n + n * k)) (xMm M).slots && (Nat.ble n 1000 && Nat.ble k 1000))) then
        rec op.2.1 lv ((1, K.length) :: st') (K ++ (.inl (4, (List.range n).map (fun i => (1, K.length + 1 + i))) :: List.replicate n (.inl (0, List.replicate k (0, 0))))) (ce + 1 + n) (sl + n + n * k) κ
      else none
    | _ => none
  | 25 => match st with
    | (1, _) :: st' => if Nat.ble 1 (xMm M).frames && Nat.ble (xsum st' + 12) (xMm M).locals then rec op.2.1 lv st' K ce sl κ else none
    | _ => none
  | 26 => match st with
    | (0, n) :: (0, dp) :: (1, d) :: (0, sp) :: (1, s) :: st' => match K[s]?, K[d]? with
      | some (.inl (0, vs)), some (.inl (0, ws)) => if Nat.ble (sp + n) vs.length && (Nat.ble (dp + n) ws.length && (Nat.blt (sp + n) 2147483648 && (Nat.blt (dp + n) 2147483648 && (Nat.ble 1 (xMm M).frames && Nat.ble (xsum st' + (nativeFrameWords "java/lang/System" "arraycopy" 5 + 11)) (xMm M).locals)))) then
          rec op.2.1 lv st' (K.set d (.inl (0, ws.take dp ++ ((vs.drop sp).take n ++ ws.drop (dp + n))))) ce sl κ
        else none
      | _, _ => none
    | _ => none
  | 27 => xh_call mt M rec call 0 op.2.1 op.2.2.1 lv st K ce sl κ
  | 28 => match mt[op.2.2.1]? with
    | none => none
    | some M' => match st.drop (xMn M') with
      | (1, i) :: _ => match K[i]? with
        | some (.inr (ci, _)) => if Nat.beq ci op.2.2.2.1 then xh_call mt M rec call 1 op.2.1 op.2.2.1 lv st K ce sl κ else none
        | _ => none
      | _ => none
  | 29 => match mt[op.2.2.1]? with
    | none => none
    | some M' => match st.drop (xMn M') with
      | (1, _) :: _ => xh_call mt M rec call 1 op.2.1 op.2.2.1 lv st K ce sl κ
      | _ => none
  | 30 => match st with
    | [v] => if xfit op.2.2.2.1 v && (Nat.ble ce (xMm M).cells && Nat.ble sl (xMm M).slots) then some [(κ, some (xnm κ.2 v), K)] else none
    | _ => none
  | 31 => match st with
    | [v] => if xkdb 2 v && (Nat.ble ce (xMm M).cells && Nat.ble sl (xMm M).slots) then some [(κ, some v, K)] else none
    | _ => none
  | 32 => match st with
    | [] => if Nat.ble ce (xMm M).cells && Nat.ble sl (xMm M).slots then some [(κ, none, K)] else none
    | _ => none
  | 33 => rec op.2.1 lv ((5, op.2.2.1) :: st) K ce sl κ
  | 34 => rec op.2.1 lv ((0, 1) :: st) K ce sl κ
  | 35 => match st with
    | (5, k) :: st' => if Nat.blt k 3 then rec op.2.1 lv ((if Nat.beq op.2.2.1 0 then (6, k) else (0, 0)) :: st') K ce sl κ else none
    | _ => none
  | 36 => match st with
    | y :: x :: st' => match xnm κ.2 y, xnm κ.2 x with
      | (0, y'), (0, x') => if Nat.blt y' 4294967296 && (Nat.blt x' 4294967296 && (Nat.ble 1 (xMm M).frames && (Nat.ble (xsum st' + 13) (xMm M).locals && (Nat.ble ce (xMm M).cells && Nat.ble sl (xMm M).slots)))) then
          rec op.2.1 lv ((0, if xcb 2 y' x' then y' else x') :: st') K ce sl κ
        else none
      | _, _ => none
    | _ => none
  | 37 => match st with
    | j :: (6, k) :: st' => match xnm κ.2 j with
      | (0, n) => if Nat.blt k 3 && (Nat.blt n (xlen.getD k 0) && Nat.blt n 2147483648) then rec op.2.1 lv ((0, (xbyt.getD k []).getD n 0) :: st') K ce sl κ else none
      | _ => none
    | _ => none
  | 38 => match st with
    | (0, n) :: st' => if Nat.blt n 65536 then rec op.2.1 lv ((0, n) :: st') K ce sl κ else none
    | _ => none
  | 39 => match mt[op.2.2.1]? with
    | none => none
    | some M' => match st.drop (xMn M') with
      | (5, k) :: _ => if Nat.blt k 3 then xh_call mt M rec call 1 op.2.1 op.2.2.1 lv st K ce sl κ else none
      | _ => none
  | 40 => match st with
    | [(0, n)] => if Nat.blt n (if Nat.beq op.2.2.2.1 5 then 65536 else 128) && (Nat.ble ce (xMm M).cells && Nat.ble sl (xMm M).slots) then some [(κ, some (0, n), K)] else none
    | _ => none
  | 41 => rec op.2.1 lv ((7, 0) :: st) K ce sl κ
  | 42 => match st with
    | (5, 50) :: st' => match xSc ds with
      | some L => rec op.2.1 lv ((0, L) :: st') K ce sl κ
      | none => none
    | _ => none
  | 43 => match st with
    | j :: (5, 50) :: st' => match xSc ds, xnm κ.2 j with
      | some L, (0, n) => if Nat.blt n L && Nat.blt L 2147483648 then rec op.2.1 lv (xnm κ.2 (3, n + 1) :: st') K ce sl κ else none
      | _, _ => none
    | _ => none
  | 44 => match xlv3 lv with
    | some q => match xob K q.1 12 with
      | some fs => if xnl0 st && (xin0 κ.2 q.2 && (Nat.blt 2 (xMl M) && (xzf K fs 53 1000 && (xzf K fs 54 1000 && (xzf K fs 3 3 && xlops.all (fun z => decide (z ∈ xMk M))))))) then rec 53 [(0, (1, q.1)), (1, (3, q.2))] st K ce sl κ else none
      | none => none
    | none => none
  | _ => none
noncomputable def xgo (mt : List xM) (ds : xD) (al : Bool) (ih : xM → xRec) (M : xM) : xRec := fun pc lv st K ce sl κ => match xfind (xMk M) pc with
  | none => none
  | some op => xstep mt ds al M (ih M) (fun M' avs K' κ' => ih M' 0 (xargs 0 avs) [] K' 0 0 κ') op lv st K ce sl κ
noncomputable def xe (mt : List xM) (ds : xD) (al : Bool) (n : Nat) : xM → xRec := Nat.rec (fun _ _ _ _ _ _ _ _ => none) (fun _ ih M => xgo mt ds al ih M) n
theorem xe_succ (mt : List xM) (ds : xD) (al : Bool) (n : Nat) (M : xM) : xe mt ds al (n + 1) M = xgo mt ds al (xe mt ds al n) M := rfl
