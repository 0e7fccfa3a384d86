/-! the two objects as the constructors leave them: the memory -/
def ymv (v : xV) : Int := match v with
  | (0, n) => cI n
  | (4, n) => cL n
  | _ => 0
def ymc (c : xC) (j : Nat) : Int := match c with
  | .inl (_, vs) => ymv (vs.getD j (0, 0))
  | .inr (_, fs) => ymv (fs.getD j (0, 0))
def ym0 : yMem := fun i j => match xK0[i]? with
  | some c => ymc c j
  | none => 0
def yfr : List xV → List yV → Bool
  | [], [] => true
  | f :: r, g :: s => ((Nat.beq f.1 0 && Nat.beq g.1 0) || (Nat.beq f.1 1 && (Nat.beq g.1 1 && decide (((f.2 : Nat) : Int) = g.2)))) && yfr r s
  | _, _ => false
def yrel (c : xC) (S : yS) : Bool := match c, S with
  | .inl (k, vs), .inl (k', n, rs) => Nat.beq k k' && (Nat.beq vs.length n && (match k with
    | 2 => vs.all (fun v => Nat.beq v.1 4)
    | 4 => decide (vs = rs.map (fun q => (1, q)))
    | _ => vs.all (fun v => Nat.beq v.1 0)))
  | .inr (ci, fs), .inr (ci', gs) => Nat.beq ci ci' && yfr fs gs
  | _, _ => false
def yrelL : List xC → List yS → Bool
  | [], [] => true
  | c :: K, S :: L => yrel c S && yrelL K L
  | _, _ => false
theorem getD_all {α : Type} {p : α → Bool} {d : α} (hd : p d = true) : ∀ (l : List α) (j : Nat), l.all p = true → p (l.getD j d) = true
  | [], j, _ => by simpa using hd
  | a :: r, 0, h => by
    simp only [List.all_cons, Bool.and_eq_true] at h
    simpa using h.1
  | a :: r, j + 1, h => by
    simp only [List.all_cons, Bool.and_eq_true] at h
    have := getD_all hd r j h.2
    simpa using this
theorem ymv0 {v : xV} (h : v.1 = 0) : ymv v = cI v.2 := by
  obtain ⟨a, n⟩ := v
  dsimp only at h
  subst h
  rfl
theorem ymv4 {v : xV} (h : v.1 = 4) : ymv v = cL v.2 := by
  obtain ⟨a, n⟩ := v
  dsimp only at h
  subst h
  rfl
section WD
variable {E : yE} {ρ : Nat → Int32}
theorem yarr_i {vs : List xV} (h : vs.all (fun v => Nat.beq v.1 0) = true) (j : Nat) : xdi ρ (vs.getD j (0, 0)) = iI (ymv (vs.getD j (0, 0))) := by
  have := getD_all (p := fun v : xV => Nat.beq v.1 0) (d := (0, 0)) rfl vs j h
  rw [Nat.beq_eq] at this
  rw [ymv0 this, iI_c]
  generalize vs.getD j (0, 0) = v at this ⊢
  obtain ⟨a, n⟩ := v
  dsimp only at this
  subst this
  rfl
theorem yarr_l {vs : List xV} (h : vs.all (fun v => Nat.beq v.1 4) = true) (j : Nat) : xdl (vs.getD j (4, 0)) = lI (ymv (vs.getD j (0, 0))) := by
  have h1 := getD_all (p := fun v : xV => Nat.beq v.1 4) (d := (4, 0)) rfl vs j h
  by_cases hj : j < vs.length
  · have e : vs.getD j (4, 0) = vs.getD j (0, 0) := by
      rw [List.getD_eq_getElem?_getD, List.getD_eq_getElem?_getD, List.getElem?_eq_getElem hj]
      rfl
    rw [e] at h1 ⊢
    rw [Nat.beq_eq] at h1
    rw [ymv4 h1, lI_c]
    rfl
  · have e : ∀ d : xV, vs.getD j d = d := fun d => by
      rw [List.getD_eq_getElem?_getD, List.getElem?_eq_none (by omega)]
      rfl
    rw [e, e]
    decide
theorem yfr_ok {f : Nat → Int} : ∀ (fs : List xV) (gs : List yV) (o : Nat), yfr fs gs = true → (∀ j, f (o + j) = ymv (fs.getD j (0, 0))) → fs.map (xdv (yb E) ρ (ysa E)) = yfs E o gs f
  | [], [], o, _, _ => rfl
  | v :: r, g :: s, o, h, hf => by
    simp only [yfr, Bool.and_eq_true, Bool.or_eq_true, Nat.beq_eq, decide_eq_true_eq] at h
    obtain ⟨h1, h2⟩ := h
    simp only [List.map_cons, yfs]
    have hv : f o = ymv v := by
      have := hf 0
      simpa using this
    congr 1
    · obtain ⟨a, n⟩ := v
      obtain ⟨t, x⟩ := g
      rcases h1 with ⟨e1, e2⟩ | ⟨e1, e2, e3⟩
      · dsimp only at e1 e2
        subst e1; subst e2
        rw [hv]
        show Value.int (nI n) = Value.int (iI (cI n))
        rw [iI_c]
      · dsimp only at e1 e2 e3
        subst e1; subst e2; subst e3
        show Value.ref (yb E + n) = Value.ref (yb E + ((n : Nat) : Int).toNat)
        rw [Int.toNat_natCast]
    · refine yfr_ok r s (o + 1) h2 (fun j => ?_)
      have := hf (j + 1)
      rw [show o + 1 + j = o + (j + 1) by omega, this]
      simp
  | [], _ :: _, _, h, _ => by cases h
  | _ :: _, [], _, h, _ => by cases h
theorem yrel_ok {c : xC} {S : yS} (h : yrel c S = true) : xce (yb E) ρ (ysa E) (yda E) c = yce E S (ymc c) := by
  match c, S, h with
  | .inr (ci, fs), .inr (ci', gs), h =>
    simp only [yrel, Bool.and_eq_true, Nat.beq_eq] at h
    obtain ⟨rfl, h2⟩ := h
    show Sum.inr (ci, fs.map (xdv (yb E) ρ (ysa E))) = Sum.inr (ci, yfs E 0 gs (ymc (.inr (ci, fs))))
    rw [yfr_ok (f := ymc (.inr (ci, fs))) fs gs 0 h2 (fun j => by rw [Nat.zero_add]; rfl)]
  | .inl (k, vs), .inl (k', n, rs), h =>
    simp only [yrel, Bool.and_eq_true, Nat.beq_eq] at h
    obtain ⟨rfl, rfl, h3⟩ := h
    match k, h3 with
    | 2, h3 =>
      show Sum.inl (yda E 2, vs.length, _) = Sum.inl (yda E 2, vs.length, _)
      congr 5
      funext j
      exact yarr_l h3 j
    | 4, h3 =>
      have h3 : vs = rs.map (fun q => (1, q)) := of_decide_eq_true h3
      show Sum.inl (yda E 4, vs.length, Sum.inr (Sum.inr (Sum.inr (Sum.inr (fun j => xdr (yb E) (vs.getD j (2, 0))))))) = Sum.inl (yda E 4, vs.length, Sum.inr (Sum.inr (Sum.inr (Sum.inr (fun j => (rs[j]?).map (fun q => yb E + q))))))
      congr 7
      funext j
      rw [h3, List.getD_eq_getElem?_getD, List.getElem?_map]
      cases rs[j]? <;> rfl
    | 0, h3 =>
      show Sum.inl (yda E 0, vs.length, _) = Sum.inl (yda E 0, vs.length, _)
      congr 4
      funext j
      exact yarr_i h3 j
    | 1, h3 =>
      show Sum.inl (yda E 1, vs.length, _) = Sum.inl (yda E 1, vs.length, _)
      congr 4
      funext j
      exact yarr_i h3 j
    | 3, h3 =>
      show Sum.inl (yda E 3, vs.length, _) = Sum.inl (yda E 3, vs.length, _)
      congr 4
      funext j
      exact yarr_i h3 j
    | k + 5, h3 =>
      show Sum.inl (yda E (k + 5), vs.length, _) = Sum.inl (yda E (k + 5), vs.length, _)
      congr 4
      funext j
      exact yarr_i h3 j
  | .inl _, .inr _, h => cases h
  | .inr _, .inl _, h => cases h
theorem ycx_of {mem : yMem} : ∀ (K : xH) (L : List yS) (o : Nat), yrelL K L = true → (∀ i c, K[i]? = some c → mem (o + i) = ymc c) → xcx (yb E) ρ (ysa E) (yda E) o K = ycx E mem o L
  | [], [], _, _, _ => rfl
  | c :: K, S :: L, o, h, hm => by
    simp only [yrelL, Bool.and_eq_true] at h
    simp only [xcx, ycx]
    have h0 : mem o = ymc c := hm 0 c rfl
    rw [yrel_ok h.1, h0, ycx_of K L (o + 1) h.2 (fun i c' hc => by rw [show o + 1 + i = o + (i + 1) by omega]; exact hm (i + 1) c' (by simpa using hc))]
  | [], _ :: _, _, h, _ => by cases h
  | _ :: _, [], _, h, _ => by cases h
end WD
set_option maxRecDepth 1000000 in
theorem yrel_0 : yrelL xK0 ysh = true := by decide +kernel
theorem yworld {E : yE} {ρ : Nat → Int32} : xcx (yb E) ρ (ysa E) (yda E) 0 xK0 = yW E ym0 := ycx_of xK0 ysh 0 yrel_0 (fun i c hc => by
  funext j
  show (match xK0[0 + i]? with
    | some c => ymc c j
    | none => 0) = ymc c j
  rw [Nat.zero_add, hc])
/-! it is within the intervals -/
def yinb (v : xV) (q : Int × Int) : Bool := if Nat.beq v.2 0 then decide (q.1 ≤ 0) && decide (0 ≤ q.2) else decide (q.1 ≤ w32 (ymv v)) && decide (w32 (ymv v) ≤ q.2)
theorem yinb_ok {v : xV} {q : Int × Int} (h : yinb v q = true) : q.1 ≤ w32 (ymv v) ∧ w32 (ymv v) ≤ q.2 := by
  unfold yinb at h
  split at h
  · next e =>
    simp only [Bool.and_eq_true, decide_eq_true_eq] at h
    rw [Nat.beq_eq] at e
    have e0 : ymv v = 0 := by
      obtain ⟨a, n⟩ := v
      dsimp only at e
      subst e
      unfold ymv
      split
      · next h' => cases h'; rfl
      · next h' => cases h'; rfl
      · rfl
    rw [e0, w32c_0]
    exact h
  · simp only [Bool.and_eq_true, decide_eq_true_eq] at h
    exact h
def ygl : List xV → List (Int × Int) → Int × Int → Bool
  | [], l, d => l.all (fun q => yinb (0, 0) q) && yinb (0, 0) d
  | v :: r, [], d => yinb v d && ygl r [] d
  | v :: r, q :: l, d => yinb v q && ygl r l d
theorem ygl_ok {d : Int × Int} : ∀ (vs : List xV) (l : List (Int × Int)) (j : Nat), ygl vs l d = true → yinb (vs.getD j (0, 0)) (l.getD j d) = true
  | [], l, j, h => by
    simp only [ygl, Bool.and_eq_true] at h
    have := getD_all (p := fun q => yinb (0, 0) q) (d := d) h.2 l j h.1
    simpa using this
  | v :: r, [], 0, h => by
    simp only [ygl, Bool.and_eq_true] at h
    simpa using h.1
  | v :: r, [], j + 1, h => by
    simp only [ygl, Bool.and_eq_true] at h
    have := ygl_ok r [] j h.2
    simpa using this
  | v :: r, q :: l, 0, h => by
    simp only [ygl, Bool.and_eq_true] at h
    simpa using h.1
  | v :: r, q :: l, j + 1, h => by
    simp only [ygl, Bool.and_eq_true] at h
    have := ygl_ok r l j h.2
    simpa using this
def yvs (c : xC) : List xV := match c with
  | .inl (_, vs) => vs
  | .inr (_, fs) => fs
theorem ymc_vs (c : xC) (j : Nat) : ymc c j = ymv ((yvs c).getD j (0, 0)) := by
  match c with
  | .inl (_, vs) => rfl
  | .inr (_, fs) => rfl
def yglL : List xC → List ((Int × Int) × List (Int × Int)) → Bool
  | [], [] => true
  | c :: K, e :: L => ygl (yvs c) e.2 e.1 && yglL K L
  | _, _ => false
theorem yglL_ok : ∀ (K : List xC) (L : List ((Int × Int) × List (Int × Int))) (i j : Nat) (c : xC), yglL K L = true → K[i]? = some c → ∃ e, L[i]? = some e ∧ e.2.getD j e.1 = e.2.getD j e.1 ∧ yinb ((yvs c).getD j (0, 0)) (e.2.getD j e.1) = true
  | c :: K, e :: L, 0, j, c', h, hc => by
    simp only [List.getElem?_cons_zero, Option.some.injEq] at hc
    subst hc
    simp only [yglL, Bool.and_eq_true] at h
    exact ⟨e, rfl, rfl, ygl_ok _ _ j h.1⟩
  | c :: K, e :: L, i + 1, j, c', h, hc => by
    simp only [yglL, Bool.and_eq_true] at h
    obtain ⟨e', h1, h2⟩ := yglL_ok K L i j c' h.2 (by simpa using hc)
    exact ⟨e', by simpa using h1, h2⟩
  | [], _, i, j, c, _, hc => by simp at hc
  | _ :: _, [], _, _, _, h, _ => by cases h
set_option maxRecDepth 1000000 in
theorem ygl_0 : yglL xK0 ygam = true := by decide +kernel
set_option maxRecDepth 1000000 in
theorem yk_len : xK0.length = 144 ∧ ygam.length = 144 := by decide +kernel
theorem ym0_ok : aGok ym0 := by
  intro i j
  show (agam i j).1 ≤ w32 (match xK0[i]? with
    | some c => ymc c j
    | none => 0) ∧ w32 (match xK0[i]? with
    | some c => ymc c j
    | none => 0) ≤ (agam i j).2
  cases hc : xK0[i]? with
  | none =>
    dsimp only
    have hi : ¬ i < 144 := fun hi => by
      rw [List.getElem?_eq_getElem (by rw [yk_len.1]; exact hi)] at hc
      cases hc
    have e : ygam[i]? = none := List.getElem?_eq_none (by rw [yk_len.2]; omega)
    rw [w32c_0]
    unfold agam aent
    rw [e]
    show (([] : List (Int × Int)).getD j a32).1 ≤ 0 ∧ 0 ≤ (([] : List (Int × Int)).getD j a32).2
    rw [show ([] : List (Int × Int)).getD j a32 = a32 by simp]
    decide
  | some c =>
    dsimp only
    obtain ⟨e, h1, -, h2⟩ := yglL_ok xK0 ygam i j c ygl_0 hc
    have := yinb_ok h2
    rw [ymc_vs]
    unfold agam aent
    rw [h1]
    exact this
theorem ym0_Om : Om ym0 := by
  have a : ∀ s, s < 5 → ym0 114 s = 0 ∧ ym0 115 s = 0 := by decide +kernel
  have b : ym0 127 0 = 0 ∧ ym0 127 1 = 0 := by decide +kernel
  have c : ym0 97 1 = 0 := by decide +kernel
  refine ⟨fun s hs => ?_, ⟨⟨fun i hi => ?_, fun i j _ hj => ?_⟩, ⟨fun i hi => ?_, fun i j _ hj => ?_⟩⟩, fun v hv => ?_⟩
  · rw [(a s hs).1, (a s hs).2]
    exact ⟨_, rfl⟩
  · rw [b.1, w32c_0] at hi; omega
  · rw [b.1, w32c_0] at hj; omega
  · rw [b.2, w32c_0] at hi; omega
  · rw [b.2, w32c_0] at hj; omega
  · rw [c, w32c_0] at hv; omega
theorem ym0_tp (j : Nat) : ym0 1 j = 0 ∧ ym0 96 j = 0 := by
  have e1 : xK0[1]? = some (.inl (1, List.replicate 800 (0, 0))) := by decide +kernel
  have e2 : xK0[96]? = some (.inl (0, List.replicate 800 (0, 0))) := by decide +kernel
  have r : ymv ((List.replicate 800 ((0 : Nat), (0 : Nat))).getD j (0, 0)) = 0 := by
    rw [List.getD_eq_getElem?_getD, List.getElem?_replicate]
    split <;> decide
  refine ⟨?_, ?_⟩
  · show (match xK0[1]? with
    | some c => ymc c j
    | none => 0) = 0
    rw [e1]
    exact r
  · show (match xK0[96]? with
    | some c => ymc c j
    | none => 0) = 0
    rw [e2]
    exact r
theorem ym0_wd : cWd ym0 := by
  have : ∀ i, i < 23 → w32 (ym0 56 i) = sWd.getD i 0 := by decide +kernel
  exact this
theorem ym0_LId : LId ym0 := by
  have h0 : w32 (ym0 3 1) = 0 ∧ w32 (ym0 5 1) = 0 ∧ w32 (ym0 7 1) = 0 ∧ w32 (ym0 9 1) = 0 ∧ w32 (ym0 2 16) = 0 ∧ w32 (ym0 2 17) = 0 ∧ w32 (ym0 2 18) = 0 ∧ w32 (ym0 22 4) = 0 := by decide +kernel
  have h1 : ∀ j, j < 7 → w32 (ym0 97 j) = 0 := by decide +kernel
  have h2 : ∀ j, j < 5 → w32 (ym0 25 j) = 0 ∧ w32 (ym0 26 j) = 0 ∧ w32 (ym0 114 j) = 0 ∧ w32 (ym0 115 j) = 0 := by decide +kernel
  obtain ⟨a1, a2, a3, a4, a5, a6, a7, a8⟩ := h0
  have n1 : ∀ {z mx : Nat}, w32 (ym0 z 1) = 0 → cNm ym0 z mx [] := fun h => ⟨h, Nat.zero_le _, fun j hj => absurd hj (Nat.not_lt_zero j)⟩
  have n2 : ∀ {z q mx : Nat}, q < 7 → rNl ym0 z q mx [] := fun h => ⟨h1 _ h, Nat.zero_le _, fun j hj => absurd hj (Nat.not_lt_zero j)⟩
  refine ⟨dD0, ⟨⟨n1 a1, fun j t h => (by cases h)⟩, ⟨n1 a2, a5, fun t h => (by cases h), fun j t h => (by cases h)⟩, ⟨n1 a3, fun j t h => (by cases h)⟩, ⟨n1 a4, fun j t h => (by cases h)⟩, ⟨a6, a7⟩, fun j hj => ⟨(h2 j hj).1, (h2 j hj).2.1⟩, ⟨a8, Nat.zero_le _⟩, trivial⟩, ⟨n2 (by decide), fun j t h => (by cases h)⟩, ⟨n2 (by decide), fun j t h => (by cases h)⟩, ⟨n2 (by decide), fun j t h => (by cases h)⟩, ⟨n2 (by decide), fun j t h => (by cases h)⟩, ⟨h1 4 (by decide), h1 5 (by decide)⟩, fun j hj => (h2 j hj).2.2, ⟨h1 6 (by decide), Nat.zero_le _⟩, trivial⟩
theorem ym0_LI : LI ym0 := ⟨ym0_ok, ym0_Om, by
  have : ym0 0 11 = ym0 95 2 := by decide +kernel
  rw [this], fun j => by rw [(ym0_tp j).1, (ym0_tp j).2]; decide +kernel, ym0_wd, ⟨by
  have : ym0 0 12 = ym0 95 33 := by decide +kernel
  rw [this], by
  have : ym0 0 13 = ym0 95 34 := by decide +kernel
  rw [this]⟩, ym0_LId⟩
