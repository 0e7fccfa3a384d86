/-! SYMBOLIC RUNS BY REWRITING. Registers: a list, one entry a local; zvc runs a method's instructions (n of them at most, up to a cut, into small callees) and says what must hold; s_.. rows rewrite it instruction by instruction. -/
abbrev zR : Type := List (Option yV)
def zrl : Nat → zR → yL
  | _, [] => []
  | i, none :: r => zrl (i + 1) r
  | i, some v :: r => (i, v) :: zrl (i + 1) r
def zG (E : yE) (d : Nat) (M : xM) (pc : Nat) (rg : zR) (st : List yV) (mem : yMem) (Post : Option yV → yMem → Prop) : Prop := yG E (yR (d + 1)) M pc (zrl 0 rg) st mem 0 0 Post
theorem zG_sub {E : yE} {R : Room} {M : xM} {pc : Nat} {lv lv' : yL} {st : List yV} {mem : yMem} {ce sl : Nat} {Post : Option yV → yMem → Prop} (hs : ∀ q ∈ lv', q ∈ lv) (h : yG E R M pc lv' st mem ce sl Post) : yG E R M pc lv st mem ce sl Post := by
  intro p e s m args below meth c A Qc hC hQ H locs ls hl hP hS
  refine h p e s m args below meth c A Qc hC hQ H locs ls ⟨hl.1, hl.2.1, fun q hq => ?_⟩ hP hS
  obtain ⟨a, ha, rfl⟩ := List.mem_map.mp hq
  exact hl.2.2 _ (List.mem_map.mpr ⟨a, hs a ha, rfl⟩)
theorem yCon_mono {E : yE} {d : Nat} {M : xM} {avs : List yV} {mem : yMem} {P1 P2 : Option yV → yMem → Prop} (h : yCon E d M avs mem P1) (hp : ∀ r mem', P1 r mem' → P2 r mem') : yCon E d M avs mem P2 := by
  intro sz hb p e ha hc hk s m args below hf happ hP hK
  obtain ⟨n, o, h1, h2, h3, ⟨r, mem', k1, k2⟩, h5⟩ := h sz hb p e ha hc hk s m args below hf happ hP hK
  exact ⟨n, o, h1, h2, h3, ⟨r, mem', hp _ _ k1, k2⟩, h5⟩
def znl (q : Option yV) : Option yV := match q with
  | some v => (match ycat v with
    | 2 => none
    | _ => some v)
  | none => none
def zdr : zR → zR
  | [] => []
  | _ :: r => none :: r
def zset (k : Nat) (v : yV) : zR → Nat → zR
  | [], _ => []
  | _ :: r, 0 => some v :: (match k with
    | 2 => zdr r
    | _ => r)
  | q :: r, i + 1 => (match i with
    | 0 => znl q
    | _ => q) :: zset k v r i
theorem zrl_lo : ∀ (rg : zR) (o : Nat) (q : Nat × yV), q ∈ zrl o rg → o ≤ q.1
  | [], _, q, h => by cases h
  | none :: r, o, q, h => by have := zrl_lo r (o + 1) q h; omega
  | some v :: r, o, q, h => by
    rcases List.mem_cons.mp h with rfl | h
    · exact Nat.le_refl _
    · have := zrl_lo r (o + 1) q h; omega
theorem zrl_cons {o : Nat} {q0 : Option yV} {r : zR} {q : Nat × yV} (h : q ∈ zrl (o + 1) r) : q ∈ zrl o (q0 :: r) := by
  cases q0 with
  | none => exact h
  | some v => exact List.mem_cons_of_mem _ h
theorem yfl_far {k i : Nat} {q : Nat × yV} (h1 : i + 2 ≤ q.1) : yflb k i q = true := by
  have e1 : Nat.beq q.1 i = false := by rw [← Bool.not_eq_true, Nat.beq_eq]; omega
  have e2 : Nat.beq q.1 (i + 1) = false := by rw [← Bool.not_eq_true, Nat.beq_eq]; omega
  have e3 : Nat.beq (q.1 + 1) i = false := by rw [← Bool.not_eq_true, Nat.beq_eq]; omega
  unfold yflb
  split <;> simp [e1, e2, e3]
theorem yfl_next {k i : Nat} {q : Nat × yV} (hk : k ≠ 2) (h1 : i + 1 ≤ q.1) : yflb k i q = true := by
  have e1 : Nat.beq q.1 i = false := by rw [← Bool.not_eq_true, Nat.beq_eq]; omega
  have e3 : Nat.beq (q.1 + 1) i = false := by rw [← Bool.not_eq_true, Nat.beq_eq]; omega
  unfold yflb
  split
  · exact absurd rfl hk
  · simp [e1, e3]
theorem yfl_prev {k i : Nat} {q : Nat × yV} (h1 : q.1 < i) (h2 : q.1 + 1 = i → ycat q.2 ≠ 2) : yflb k i q = true := by
  have e1 : Nat.beq q.1 i = false := by rw [← Bool.not_eq_true, Nat.beq_eq]; omega
  have e2 : Nat.beq q.1 (i + 1) = false := by rw [← Bool.not_eq_true, Nat.beq_eq]; omega
  have e3 : (Nat.beq (q.1 + 1) i && Nat.beq (ycat q.2) 2) = false := by
    rw [← Bool.not_eq_true, Bool.and_eq_true, Nat.beq_eq, Nat.beq_eq]
    exact fun h => h2 h.1 h.2
  unfold yflb
  split <;> simp [e1, e2, e3]
theorem zset_ok {k : Nat} {v : yV} : ∀ (rg : zR) (o i : Nat) (q : Nat × yV), q ∈ zrl o (zset k v rg i) → q ∈ (o + i, v) :: (zrl o rg).filter (yflb k (o + i))
  | [], o, i, q, h => by cases h
  | q0 :: r, o, 0, q, h => by
    have key : ∀ r' : zR, q ∈ zrl (o + 1) r' → q ∈ zrl (o + 1) r → yflb k o q = true → q ∈ (o + 0, v) :: (zrl o (q0 :: r)).filter (yflb k (o + 0)) := fun r' _ h2 h3 =>
      List.mem_cons_of_mem _ (List.mem_filter.mpr ⟨zrl_cons h2, by rw [Nat.add_zero]; exact h3⟩)
    simp only [zset] at h
    rcases List.mem_cons.mp h with rfl | h
    · exact List.mem_cons_self
    · split at h
      · match r, h with
        | a :: r', h =>
          have h1 := zrl_lo r' (o + 2) q h
          exact key _ (zrl_cons (q0 := none) h) (zrl_cons h) (yfl_far h1)
      · next hk => exact key _ h h (yfl_next (fun e => hk e) (zrl_lo _ _ _ h))
  | q0 :: r, o, i + 1, q, h => by
    simp only [zset] at h
    have rest : q ∈ zrl (o + 1) (zset k v r i) → q ∈ (o + (i + 1), v) :: (zrl o (q0 :: r)).filter (yflb k (o + (i + 1))) := by
      intro h
      have := zset_ok r (o + 1) i q h
      rw [show o + 1 + i = o + (i + 1) by omega] at this
      rcases List.mem_cons.mp this with h | h
      · rw [h]; exact List.mem_cons_self
      · obtain ⟨h1, h2⟩ := List.mem_filter.mp h
        exact List.mem_cons_of_mem _ (List.mem_filter.mpr ⟨zrl_cons h1, h2⟩)
    have one : ∀ w : yV, q0 = some w → q = (o, w) → (i = 0 → ycat w ≠ 2) → q ∈ (o + (i + 1), v) :: (zrl o (q0 :: r)).filter (yflb k (o + (i + 1))) := by
      intro w h1 h2 h3
      subst h1; subst h2
      exact List.mem_cons_of_mem _ (List.mem_filter.mpr ⟨List.mem_cons_self, yfl_prev (show o < o + (i + 1) by omega) (fun e => h3 (by dsimp only at e; omega))⟩)
    split at h
    · cases q0 with
      | none => exact rest h
      | some w =>
        simp only [znl] at h
        split at h
        · exact rest h
        · next hw =>
          rcases List.mem_cons.mp h with h | h
          · exact one w rfl h (fun _ => hw)
          · exact rest h
    · next hi =>
      cases q0 with
      | none => exact rest h
      | some w =>
        rcases List.mem_cons.mp h with h | h
        · exact one w rfl h (fun e => absurd e hi)
        · exact rest h
theorem zrl_get : ∀ (rg : zR) (o i : Nat) (v : yV), rg[i]? = some (some v) → ylk (zrl o rg) (o + i) = some v
  | [], o, i, v, h => by simp at h
  | none :: r, o, 0, v, h => by simp at h
  | some w :: r, o, 0, v, h => by
    simp only [List.getElem?_cons_zero, Option.some.injEq] at h
    subst h
    simp only [zrl, ylk, Nat.add_zero]
    rw [if_pos ((Nat.beq_eq (x := o) (y := o)).mpr rfl)]
  | none :: r, o, i + 1, v, h => by
    have := zrl_get r (o + 1) i v (by simpa using h)
    rw [show o + 1 + i = o + (i + 1) by omega] at this
    exact this
  | some w :: r, o, i + 1, v, h => by
    have := zrl_get r (o + 1) i v (by simpa using h)
    rw [show o + 1 + i = o + (i + 1) by omega] at this
    simp only [zrl, ylk]
    rw [if_neg (by rw [Nat.beq_eq]; omega)]
    exact this
/-- how long the array at cell z is, if its elements are of type t -/
def zar (z : Int) (t : Nat) : Nat := match ysh[z.toNat]? with
  | some (.inl (t', n, _)) => if t' = t then n else 0
  | _ => 0
theorem zar_ok {z : Int} {t : Nat} {j : Int} (h1 : 0 ≤ j) (h2 : j < ((zar z t : Nat) : Int)) : ∃ n rs, ysh[z.toNat]? = some (.inl (t, n, rs)) ∧ zar z t = n := by
  unfold zar at h2 ⊢
  split at h2
  · next t' n rs e =>
    split at h2
    · next e2 => subst e2; rw [if_pos rfl]; exact ⟨n, rs, e, rfl⟩
    · omega
  · omega
def zcut (cs : List Nat) (pc : Nat) : Bool := match cs with
  | [] => false
  | a :: r => Nat.beq a pc || zcut r pc
def zis (l : List Nat) (a : Nat) : Bool := match l with
  | [] => false
  | b :: r => Nat.beq a b || zis r a
def zarg : Nat → List yV → zR
  | m, [] => List.replicate m none
  | m, v :: r => match ycat v with
    | 2 => some v :: none :: zarg (m - 2) r
    | _ => some v :: zarg (m - 1) r
theorem zrl_none : ∀ (m o : Nat), zrl o (List.replicate m none) = []
  | 0, _ => rfl
  | m + 1, o => by rw [List.replicate_succ]; exact zrl_none m (o + 1)
theorem ycat_12 (v : yV) : ycat v = 1 ∨ ycat v = 2 := by
  match v with
  | (0, _) | (1, _) | (2, _) | (5, _) | (6, _) | (7, _) => exact Or.inl rfl
  | (3, _) | (4, _) => exact Or.inr rfl
  | (n + 8, _) => exact Or.inr rfl
theorem zarg_ok : ∀ (vs : List yV) (m o : Nat), zrl o (zarg m vs) = yargs o vs
  | [], m, o => zrl_none m o
  | v :: r, m, o => by
    rcases ycat_12 v with e | e
    · simp only [zarg, yargs, e]
      show (o, v) :: zrl (o + 1) (zarg (m - 1) r) = _
      rw [zarg_ok r]
    · simp only [zarg, yargs, e]
      show (o, v) :: zrl (o + 1 + 1) (zarg (m - 2) r) = _
      rw [zarg_ok r]
theorem zcon_of {E : yE} {d : Nat} {M : xM} (hM : xMok xmt M) {avs : List yV} {mem : yMem} {Post : Option yV → yMem → Prop} (hs : ysum avs ≤ xMl M) (h : zG E d M 0 (zarg (xMl M) avs) [] mem Post) : yCon E (d + 1) M avs mem Post := by
  refine yCon_of hM hs ?_
  have := h
  unfold zG at this
  rw [zarg_ok] at this
  exact this
