/-! TWO CONTRACTS of one call speak of one run -/
def yRl (i j : Nat) : Bool := match ysh[i]? with
  | some (.inl (0, n, _)) => Nat.blt j n
  | some (.inl (1, n, _)) => Nat.blt j n
  | some (.inl (3, n, _)) => Nat.blt j n
  | some (.inr (_, fs)) => (match fs[j]? with
    | some (0, _) => true
    | _ => false)
  | _ => false
/-- alike in all slots that there are -/
def yAl (m m2 : yMem) : Prop := ∀ i j, yRl i j = true → w32 (m i j) = w32 (m2 i j)
theorem w32_iI {x y : Int} (h : iI x = iI y) : w32 x = w32 y := by
  show (iI x).toInt = (iI y).toInt
  rw [h]
theorem ysh_N : (List.range 144).all (fun i => match ysh[i]? with
  | some (.inr (ci, fs)) => (match vwCl[ci]? with
    | some r => Nat.ble fs.length r.2.2
    | none => true)
  | _ => true) = true := by decide +kernel
theorem ysh_l : ysh.length = 144 := by decide +kernel
theorem yAl_of {E : yE} {m m2 : yMem} {H : Heap} (h1 : va_P (yD E) vwCl (yW E m) H) (h2 : va_P (yD E) vwCl (yW E m2) H) : yAl m m2 := by
  intro i j hr
  unfold yRl at hr
  have g : ∀ (mm : yMem) (S : yS), ysh[i]? = some S → va_P (yD E) vwCl (yW E mm) H → va_at (yD E) vwCl (yb E + i, yce E S (mm i)) H := fun mm S hs hP => by
    have := hP i (yb E + (0 + i), yce E S (mm (0 + i))) (by rw [ycx_get, hs]; rfl)
    rw [Nat.zero_add] at this
    exact this
  have ar : ∀ (n : Nat) (c : ClassId), Nat.blt j n = true → H[yb E + i]? = some (arrV c n (fun j => .int (iI (m i j)))) → H[yb E + i]? = some (arrV c n (fun j => .int (iI (m2 i j)))) → w32 (m i j) = w32 (m2 i j) := fun n c hj a1 a2 => by
    have hj : j < n := Nat.le_of_ble_eq_true hj
    have e := Option.some.inj (a1.symm.trans a2)
    have e2 : (arrV c n (fun j => .int (iI (m i j)))).slots[j]? = (arrV c n (fun j => .int (iI (m2 i j)))).slots[j]? := by rw [e]
    rw [arrV_read _ _ hj, arrV_read _ _ hj] at e2
    exact w32_iI (Value.int.inj (Option.some.inj e2))
  cases hs : ysh[i]? with
  | none => rw [hs] at hr; cases hr
  | some S =>
    rw [hs] at hr
    have a1 := g m S hs h1
    have a2 := g m2 S hs h2
    cases S with
    | inl q =>
      obtain ⟨k, n, rs⟩ := q
      match k, hr, a1, a2 with
      | 0, hr, a1, a2 => exact ar n _ hr a1 a2
      | 1, hr, a1, a2 => exact ar n _ hr a1 a2
      | 2, hr, _, _ => cases hr
      | 3, hr, a1, a2 => exact ar n _ hr a1 a2
      | 4, hr, _, _ => cases hr
      | k + 5, hr, _, _ => cases hr
    | inr q =>
      obtain ⟨ci, fs⟩ := q
      obtain ⟨r, k1, cell, c1, _, _, c4⟩ := a1
      obtain ⟨r', k1', cell', c1', _, _, c4'⟩ := a2
      have er : r = r' := Option.some.inj (k1.symm.trans k1')
      subst er
      have ec : cell = cell' := Option.some.inj (c1.symm.trans c1')
      subst ec
      have hi : i < 144 := by rw [← ysh_l]; exact (List.getElem?_eq_some_iff.mp hs).1
      have hN := List.all_eq_true.mp ysh_N i (List.mem_range.mpr hi)
      rw [hs] at hN
      dsimp only at hN k1
      rw [k1] at hN
      have hN : fs.length ≤ r.2.2 := Nat.le_of_ble_eq_true hN
      have hr : (match fs[j]? with
        | some (0, _) => true
        | _ => false) = true := hr
      have vv : ∀ f : Nat → Int, (∃ x, fs[j]? = some (0, x)) → vp_V (yfs E 0 fs f) j = .int (iI (f j)) := fun f hx => by
        obtain ⟨x, hx⟩ := hx
        unfold vp_V
        rw [List.getD_eq_getElem?_getD, yfs_get, hx, Nat.zero_add]
        rfl
      have hx : ∃ x, fs[j]? = some (0, x) := by
        split at hr
        · next x hx => exact ⟨x, hx⟩
        · cases hr
      have hj : j < r.2.2 := by
        obtain ⟨x, hx⟩ := hx
        exact Nat.lt_of_lt_of_le (List.getElem?_eq_some_iff.mp hx).1 hN
      have e1 := c4 j hj
      have e2 := c4' j hj
      rw [vv _ hx] at e1 e2
      exact w32_iI (Value.int.inj (Option.some.inj (e1.symm.trans e2)))
theorem en_len {s : State} {below : List Frame} {v : Option Value} (h : Ended s below (.returned v)) : s.frames.length = below.length := by
  unfold Ended at h
  split at h
  · next heq => cases heq
  · split at h
    · obtain ⟨c, i, len, _, _, h⟩ := h
      rw [h]
      rfl
    · rw [h]
      rfl
    · rw [h]
      rfl
    · rw [h.2]
theorem wi_len {s : State} {below : List Frame} (h : Within s below) : below.length < s.frames.length := by
  obtain ⟨above, h1, h2, _⟩ := h
  rw [h1, List.length_append]
  have := List.length_pos_iff.mpr h2
  omega
theorem tl_inj {α : Type} {a b : Option α} (h : a.toList = b.toList) : a = b := by
  cases a <;> cases b <;> simp_all [Option.toList]
theorem en_u {s : State} {below : List Frame} {v w : Option Value} (h : Ended s below (.returned v)) (h' : Ended s below (.returned w)) : v = w := by
  unfold Ended at h h'
  dsimp only at h h'
  split at h
  · obtain ⟨c, i, len, _, _, h⟩ := h
    obtain ⟨c', i', len', _, _, h'⟩ := h'
    have e := h.symm.trans h'
    have e2 := congrArg (fun fs : List Frame => match fs with
      | .java f :: _ => f.stack
      | _ => []) e
    exact tl_inj (List.append_cancel_right e2)
  · have e := h.symm.trans h'
    have e2 := congrArg (fun fs : List Frame => match fs with
      | .native f :: _ => f.answer
      | _ => none) e
    exact Outcome.returned.inj (Option.some.inj e2)
  · have e := h.symm.trans h'
    have e2 := congrArg (fun fs : List Frame => match fs with
      | .proc f :: _ => f.answer
      | _ => none) e
    exact Outcome.returned.inj (Option.some.inj e2)
  · split at h' <;> simp_all
theorem yCon_and {E : yE} {d : Nat} {M : xM} {avs : List yV} {mem : yMem} {P1 P2 : Option yV → yMem → Prop} (h1 : yCon E d M avs mem P1) (h2 : yCon E d M avs mem P2) : yCon E d M avs mem (fun r m => P1 r m ∧ ∃ r2 m2, P2 r2 m2 ∧ yAl m m2 ∧ r.map (ydv E) = r2.map (ydv E)) := by
  intro sz hb p e ha hc hk s m args below hf happ hP hK
  obtain ⟨n, o, a1, a2, a3, ⟨r, mem', k1, ko, kP, kF⟩, a5⟩ := h1 sz hb p e ha hc hk s m args below hf happ hP hK
  obtain ⟨n', o', b1, b2, b3, ⟨r2, mem2, l1, lo, lP, lF⟩, b5⟩ := h2 sz hb p e ha hc hk s m args below hf happ hP hK
  subst ko
  subst lo
  have en : n = n' := by
    rcases Nat.lt_trichotomy n n' with h | h | h
    · have := wi_len (b1 n h)
      have := en_len a3
      omega
    · exact h
    · have := wi_len (a1 n' h)
      have := en_len b3
      omega
  subst en
  exact ⟨n, _, a1, a2, a3, ⟨r, mem', ⟨k1, r2, mem2, l1, yAl_of kP lP, en_u a3 b3⟩, rfl, kP, kF⟩, a5⟩
