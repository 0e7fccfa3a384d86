/-! rd, as a relation: some fuel is enough -/
def rGd (x : sX) : Prop := ∀ e, x = .inl e → e.1 ≠ 0
theorem rGd_r {u : sU} : rGd (.inr u) := fun e h => by cases h
theorem rGd_l {e : Nat × Nat} (h : e.1 ≠ 0) : rGd (.inl e) := fun e' h' => by cases h'; exact h
theorem sBd_m {a a' : sX} {g g' : sU → sX} {x : sX} (hx : rGd x) (h1 : ∀ y, rGd y → a = y → a' = y) (h2 : ∀ u, g u = x → g' u = x) (h : sBd a g = x) : sBd a' g' = x := by
  cases a with
  | inl e =>
    have e1 : (.inl e : sX) = x := h
    rw [h1 (.inl e) (by rw [e1]; exact hx) rfl]
    exact e1
  | inr u =>
    rw [h1 (.inr u) rGd_r rfl]
    exact h2 u h
theorem sBd_r {a : sX} {g : sU → sX} {z : sU} (h : sBd a g = .inr z) : ∃ y, a = .inr y ∧ g y = .inr z := by
  cases a with
  | inl e => cases h
  | inr y => exact ⟨y, rfl, h⟩
theorem sKn_r {p : Nat} {u : sU} {g : sU → sX} {z : sU} (h : sKn p u g = .inr z) : u.2.1 ≠ 64 ∧ g (u.1, u.2.1 + 1, u.2.2) = .inr z := by
  unfold sKn at h
  by_cases hc : u.2.1 = 64
  · rw [if_pos hc] at h; cases h
  · rw [if_neg hc] at h; exact ⟨hc, h⟩
abbrev rSq (k k1 k2 : Nat) : Prop := ∀ f u, rd (f + 1) k u = sBd (rd f k1 u) (rd f k2)
abbrev rLp (k k1 b : Nat) : Prop := ∀ f u, rd (f + 1) k u = if sLv (sHd u.1).1 = b then sKn (sHd u.1).2.1 u (fun v => sBd (rd f k1 (v.1.tail, v.2)) (fun z => rd f k (z.1, z.2.1, z.2.2.1, ((sHd u.1).1, 0) :: z.2.2.2))) else .inr u
theorem rSq_1 : rSq 1 0 2 := fun f u => by simp only [rd]
theorem rSq_3 : rSq 3 1 4 := fun f u => by simp only [rd]
theorem rSq_6 : rSq 6 5 7 := fun f u => by simp only [rd]
theorem rSq_8 : rSq 8 6 9 := fun f u => by simp only [rd]
theorem rLp_2 : rLp 2 0 6 := fun f u => by simp only [rd]
theorem rLp_4 : rLp 4 1 5 := fun f u => by simp only [rd]
theorem rLp_7 : rLp 7 5 2 := fun f u => by simp only [rd]
theorem rLp_9 : rLp 9 6 1 := fun f u => by simp only [rd]
theorem rd_e0 (f : Nat) (l : List sT) (cn op : Nat) (o : sK) : rd (f + 1) 0 (l, cn, op, o) = (if (sHd l).1 = 5 then (if op = 8 then .inl (2, (sHd l).2.1) else sBd (rd f 8 (l.tail, cn, op + 1, o)) (fun u => if (sHd u.1).1 = 6 then .inr (u.1.tail, u.2.1, u.2.2.1 - 1, u.2.2.2) else .inl (1, (sHd u.1).2.1)))
    else if ¬ ((sHd l).1 = 2 ∨ (33 ≤ (sHd l).1 ∧ (sHd l).1 ≤ 39)) then .inl (1, (sHd l).2.1)
    else if (sHd l).1 = 2 ∧ 9999 < (sHd l).2.2 then .inl (2, (sHd l).2.1)
    else sKn (sHd l).2.1 (l, cn, op, o) (fun u => .inr (u.1.tail, u.2.1, u.2.2.1, ((sHd l).1, if (sHd l).1 = 2 then (sHd l).2.2 else 0) :: u.2.2.2))) := by simp only [rd]
theorem rd_e5 (f : Nat) (u : sU) : rd (f + 1) 5 u = (if (sHd u.1).1 = 32 then sKn (sHd u.1).2.1 u (fun v => sBd (rd f 5 (v.1.tail, v.2)) (fun z => .inr (z.1, z.2.1, z.2.2.1, (32, 0) :: z.2.2.2)))
    else sBd (rd f 3 u) (fun y => if sLv (sHd y.1).1 = 4 then sKn (sHd y.1).2.1 y (fun v => sBd (rd f 3 (v.1.tail, v.2)) (fun z => .inr (z.1, z.2.1, z.2.2.1, ((sHd y.1).1, 0) :: z.2.2.2))) else .inr y)) := by simp only [rd]
theorem rd_z (k : Nat) (u : sU) : rd 0 k u = .inl (0, 0) := by simp only [rd]
theorem rd_mono : ∀ (f k : Nat), k ≤ 9 → ∀ (u : sU) (x : sX), rGd x → rd f k u = x → rd (f + 1) k u = x := by
  intro f
  induction f with
  | zero =>
    intro k _ u x hx h
    rw [rd_z] at h
    exact absurd rfl (hx (0, 0) h.symm)
  | succ f ih =>
    intro k hk u x hx h
    have hlp : ∀ k k1 b, rLp k k1 b → k ≤ 9 → k1 ≤ 9 → rd (f + 1) k u = x → rd (f + 1 + 1) k u = x := fun k k1 b hL q1 q2 h => by
      rw [hL] at h ⊢
      by_cases hl : sLv (sHd u.1).1 = b
      · rw [if_pos hl] at h ⊢
        exact sKn_m (fun v hv => sBd_m hx (fun y hy e => ih k1 q2 _ y hy e) (fun z e => ih k q1 _ x hx e) hv) h
      · rw [if_neg hl] at h ⊢
        exact h
    have hsq : ∀ k k1 k2, rSq k k1 k2 → k1 ≤ 9 → k2 ≤ 9 → rd (f + 1) k u = x → rd (f + 1 + 1) k u = x := fun k k1 k2 hL q1 q2 h => by
      rw [hL] at h ⊢
      exact sBd_m hx (fun y hy e => ih k1 q1 _ y hy e) (fun z e => ih k2 q2 _ x hx e) h
    match k, hk, h with
    | 0, _, h =>
      obtain ⟨l, cn, op, o⟩ := u
      rw [rd_e0] at h ⊢
      by_cases h5 : (sHd l).1 = 5
      · rw [if_pos h5] at h ⊢
        by_cases h8 : op = 8
        · rw [if_pos h8] at h ⊢; exact h
        · rw [if_neg h8] at h ⊢
          exact sBd_m hx (fun y hy e => ih 8 (by decide) _ y hy e) (fun z e => e) h
      · rw [if_neg h5] at h ⊢
        exact h
    | 1, _, h => exact hsq 1 0 2 rSq_1 (by decide) (by decide) h
    | 2, _, h => exact hlp 2 0 6 rLp_2 (by decide) (by decide) h
    | 3, _, h => exact hsq 3 1 4 rSq_3 (by decide) (by decide) h
    | 4, _, h => exact hlp 4 1 5 rLp_4 (by decide) (by decide) h
    | 5, _, h =>
      rw [rd_e5] at h ⊢
      by_cases h3 : (sHd u.1).1 = 32
      · rw [if_pos h3] at h ⊢
        exact sKn_m (fun v hv => sBd_m hx (fun y hy e => ih 5 (by decide) _ y hy e) (fun z e => e) hv) h
      · rw [if_neg h3] at h ⊢
        refine sBd_m hx (fun y hy e => ih 3 (by decide) _ y hy e) (fun y e => ?_) h
        by_cases h4 : sLv (sHd y.1).1 = 4
        · rw [if_pos h4] at e ⊢
          exact sKn_m (fun v hv => sBd_m hx (fun y hy e => ih 3 (by decide) _ y hy e) (fun z e => e) hv) e
        · rw [if_neg h4] at e ⊢
          exact e
    | 6, _, h => exact hsq 6 5 7 rSq_6 (by decide) (by decide) h
    | 7, _, h => exact hlp 7 5 2 rLp_7 (by decide) (by decide) h
    | 8, _, h => exact hsq 8 6 9 rSq_8 (by decide) (by decide) h
    | 9, _, h => exact hlp 9 6 1 rLp_9 (by decide) (by decide) h
    | k + 10, hk, _ => exact absurd hk (by omega)
theorem rd_add {k : Nat} (hk : k ≤ 9) {u : sU} {x : sX} (hx : rGd x) {f : Nat} (h : rd f k u = x) : ∀ c, rd (f + c) k u = x
  | 0 => h
  | c + 1 => rd_mono (f + c) k hk u x hx (rd_add hk hx h c)
def rX (k : Nat) (u : sU) (x : sX) : Prop := (∃ f, rd f k u = x) ∧ rGd x
theorem rX_sq {k k1 k2 : Nat} (hL : rSq k k1 k2) (q1 : k1 ≤ 9) (q2 : k2 ≤ 9) {u : sU} : (∀ e, rX k1 u (.inl e) → rX k u (.inl e)) ∧ (∀ z x, rX k1 u (.inr z) → rX k2 z x → rX k u x) := by
  refine ⟨fun e h => ?_, fun z x h1 h2 => ?_⟩
  · obtain ⟨⟨f, h⟩, hx⟩ := h
    exact ⟨⟨f + 1, by rw [hL, h]; rfl⟩, hx⟩
  · obtain ⟨⟨f, h1⟩, _⟩ := h1
    obtain ⟨⟨g, h2⟩, hx⟩ := h2
    refine ⟨⟨f + g + 1, ?_⟩, hx⟩
    rw [hL, rd_add q1 rGd_r h1 g]
    show rd (f + g) k2 z = x
    rw [Nat.add_comm f g]
    exact rd_add q2 hx h2 f
theorem rX_lp {k k1 b : Nat} (hL : rLp k k1 b) (q1 : k1 ≤ 9) (q2 : k ≤ 9) {u : sU} : (¬ sLv (sHd u.1).1 = b → rX k u (.inr u)) ∧ (sLv (sHd u.1).1 = b → u.2.1 = 64 → rX k u (.inl (2, (sHd u.1).2.1))) ∧ (sLv (sHd u.1).1 = b → ¬ u.2.1 = 64 → (∀ e, rX k1 (u.1.tail, u.2.1 + 1, u.2.2) (.inl e) → rX k u (.inl e)) ∧ (∀ z x, rX k1 (u.1.tail, u.2.1 + 1, u.2.2) (.inr z) → rX k (z.1, z.2.1, z.2.2.1, ((sHd u.1).1, 0) :: z.2.2.2) x → rX k u x)) := by
  refine ⟨fun h => ⟨⟨1, by rw [hL, if_neg h]⟩, rGd_r⟩, fun h h6 => ⟨⟨1, by rw [hL, if_pos h]; unfold sKn; rw [if_pos h6]⟩, rGd_l (show (2 : Nat) ≠ 0 by decide)⟩, fun hl h6 => ⟨fun e h => ?_, fun z x h1 h2 => ?_⟩⟩
  · obtain ⟨⟨f, h⟩, hx⟩ := h
    refine ⟨⟨f + 1, ?_⟩, hx⟩
    rw [hL, if_pos hl]
    unfold sKn
    rw [if_neg h6]
    show sBd (rd f k1 (u.1.tail, u.2.1 + 1, u.2.2)) _ = _
    rw [h]
    rfl
  · obtain ⟨⟨f, h1⟩, _⟩ := h1
    obtain ⟨⟨g, h2⟩, hx⟩ := h2
    refine ⟨⟨f + g + 1, ?_⟩, hx⟩
    rw [hL, if_pos hl]
    unfold sKn
    rw [if_neg h6]
    show sBd (rd (f + g) k1 (u.1.tail, u.2.1 + 1, u.2.2)) _ = _
    rw [rd_add q1 rGd_r h1 g]
    show rd (f + g) k (z.1, z.2.1, z.2.2.1, ((sHd u.1).1, 0) :: z.2.2.2) = x
    rw [Nat.add_comm f g]
    exact rd_add q2 hx h2 f
/-! what stays: the open ones, as many knots put as counted -/
def rI (w : Nat) (u z : sU) : Prop := z.2.2.1 = u.2.2.1 ∧ z.2.1 + u.2.2.2.length = u.2.1 + z.2.2.2.length ∧ u.2.2.2.length + w ≤ z.2.2.2.length ∧ (u.2.1 ≤ 64 → z.2.1 ≤ 64)
def rWt (k : Nat) : Nat := if k = 2 ∨ k = 4 ∨ k = 7 ∨ k = 9 then 0 else 1
theorem rI_tr {a b w : Nat} {u y z : sU} (h1 : rI a u y) (h2 : rI b y z) (hw : w ≤ a + b) : rI w u z := by
  obtain ⟨c1, c2, c3, c4⟩ := h1
  obtain ⟨d1, d2, d3, d4⟩ := h2
  exact ⟨by omega, by omega, by omega, fun h => d4 (c4 h)⟩
theorem rI_kn {k : Nat} {v : Int} {l1 : List sT} {u y : sU} (hc : u.2.1 ≠ 64) (h : rI 1 (l1, u.2.1 + 1, u.2.2) y) : rI 1 u (y.1, y.2.1, y.2.2.1, (k, v) :: y.2.2.2) := by
  obtain ⟨c1, c2, c3, c4⟩ := h
  dsimp only at c1 c2 c3 c4
  refine ⟨c1, ?_, ?_, fun h => c4 (by omega)⟩
  · show y.2.1 + u.2.2.2.length = u.2.1 + (y.2.2.2.length + 1)
    omega
  · show u.2.2.2.length + 1 ≤ y.2.2.2.length + 1
    omega
theorem rd_inv : ∀ (f k : Nat), k ≤ 9 → ∀ (u z : sU), rd f k u = .inr z → rI (rWt k) u z := by
  intro f
  induction f with
  | zero =>
    intro k _ u z h
    rw [rd_z] at h
    cases h
  | succ f ih =>
    intro k hk u z h
    have hlp : ∀ k k1 b, rLp k k1 b → k ≤ 9 → k1 ≤ 9 → rWt k = 0 → rWt k1 = 1 → rd (f + 1) k u = .inr z → rI (rWt k) u z := fun k k1 b hL q1 q2 w1 w2 h => by
      rw [hL] at h
      by_cases hl : sLv (sHd u.1).1 = b
      · rw [if_pos hl] at h
        obtain ⟨hc, h⟩ := sKn_r h
        obtain ⟨y, g1, g2⟩ := sBd_r h
        have i1 := ih k1 q2 _ _ g1
        have i2 := ih k q1 _ _ g2
        rw [w2] at i1
        exact rI_tr (rI_kn hc i1) i2 (by omega)
      · rw [if_neg hl] at h
        cases h
        exact ⟨rfl, Nat.add_comm _ _ ▸ rfl, by omega, fun h => h⟩
    have hsq : ∀ k k1 k2, rSq k k1 k2 → k1 ≤ 9 → k2 ≤ 9 → rWt k ≤ rWt k1 + rWt k2 → rd (f + 1) k u = .inr z → rI (rWt k) u z := fun k k1 k2 hL q1 q2 hw h => by
      rw [hL] at h
      obtain ⟨y, g1, g2⟩ := sBd_r h
      exact rI_tr (ih k1 q1 _ _ g1) (ih k2 q2 _ _ g2) hw
    match k, hk, h with
    | 0, _, h =>
      obtain ⟨l, cn, op, o⟩ := u
      rw [rd_e0] at h
      by_cases h5 : (sHd l).1 = 5
      · rw [if_pos h5] at h
        by_cases h8 : op = 8
        · rw [if_pos h8] at h; cases h
        · rw [if_neg h8] at h
          obtain ⟨y, g1, g2⟩ := sBd_r h
          obtain ⟨c1, c2, c3, c4⟩ := ih 8 (by decide) _ _ g1
          dsimp only at c1 c2 c3 c4 g2
          by_cases h6 : (sHd y.1).1 = 6
          · rw [if_pos h6] at g2
            cases g2
            exact ⟨by show y.2.2.1 - 1 = op; omega, c2, c3, c4⟩
          · rw [if_neg h6] at g2
            cases g2
      · rw [if_neg h5] at h
        by_cases h2 : ¬ ((sHd l).1 = 2 ∨ (33 ≤ (sHd l).1 ∧ (sHd l).1 ≤ 39))
        · rw [if_pos h2] at h; cases h
        · rw [if_neg h2] at h
          by_cases h9 : (sHd l).1 = 2 ∧ 9999 < (sHd l).2.2
          · rw [if_pos h9] at h; cases h
          · rw [if_neg h9] at h
            obtain ⟨hc, h⟩ := sKn_r h
            dsimp only at hc h
            cases h
            refine ⟨rfl, ?_, ?_, fun h => ?_⟩
            · show cn + 1 + o.length = cn + (o.length + 1)
              omega
            · show o.length + 1 ≤ o.length + 1
              omega
            · show cn + 1 ≤ 64
              have h : cn ≤ 64 := h
              omega
    | 1, _, h => exact hsq 1 0 2 rSq_1 (by decide) (by decide) (by decide) h
    | 2, _, h => exact hlp 2 0 6 rLp_2 (by decide) (by decide) (by decide) (by decide) h
    | 3, _, h => exact hsq 3 1 4 rSq_3 (by decide) (by decide) (by decide) h
    | 4, _, h => exact hlp 4 1 5 rLp_4 (by decide) (by decide) (by decide) (by decide) h
    | 5, _, h =>
      rw [rd_e5] at h
      by_cases h3 : (sHd u.1).1 = 32
      · rw [if_pos h3] at h
        obtain ⟨hc, h⟩ := sKn_r h
        obtain ⟨y, g1, g2⟩ := sBd_r h
        cases g2
        exact rI_kn hc (ih 5 (by decide) _ _ g1)
      · rw [if_neg h3] at h
        obtain ⟨y, g1, g2⟩ := sBd_r h
        have i1 := ih 3 (by decide) _ _ g1
        by_cases h4 : sLv (sHd y.1).1 = 4
        · rw [if_pos h4] at g2
          obtain ⟨hc, g2⟩ := sKn_r g2
          obtain ⟨t, g3, g4⟩ := sBd_r g2
          cases g4
          exact rI_tr i1 (rI_kn hc (ih 3 (by decide) _ _ g3)) (by decide)
        · rw [if_neg h4] at g2
          cases g2
          exact i1
    | 6, _, h => exact hsq 6 5 7 rSq_6 (by decide) (by decide) (by decide) h
    | 7, _, h => exact hlp 7 5 2 rLp_7 (by decide) (by decide) (by decide) (by decide) h
    | 8, _, h => exact hsq 8 6 9 rSq_8 (by decide) (by decide) (by decide) h
    | 9, _, h => exact hlp 9 6 1 rLp_9 (by decide) (by decide) (by decide) (by decide) h
    | k + 10, hk, _ => exact absurd hk (by omega)
theorem rX_inv {k : Nat} (hk : k ≤ 9) {u z : sU} (h : rX k u (.inr z)) : rI (rWt k) u z := by
  obtain ⟨⟨f, h⟩, _⟩ := h
  exact rd_inv f k hk u z h
