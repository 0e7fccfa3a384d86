/-! AN E AS IT IS READ is worked out to one value -/
theorem sBd_i {x : sX} {f : sU → sX} {z : sU} (h : sBd x f = .inr z) : ∃ u, x = .inr u ∧ f u = .inr z := by
  cases x with
  | inl e => cases h
  | inr u => exact ⟨u, rfl, h⟩
theorem sKn_i {p : Nat} {u : sU} {f : sU → sX} {z : sU} (h : sKn p u f = .inr z) : f (u.1, u.2.1 + 1, u.2.2) = .inr z := by
  unfold sKn at h
  split at h
  · cases h
  · exact h
/-- KNOTS, the last one first, worked out in their order -/
def eRl (nm : Nat → Int) : sK → List Int → Option (List Int)
  | [], st => some st
  | q :: o, st => match eRl nm o st with
    | some s => eAp nm q s
    | none => none
theorem eRl_app (nm : Nat → Int) (b : sK) (st : List Int) : ∀ a : sK, eRl nm (a ++ b) st = match eRl nm b st with
    | some s => eRl nm a s
    | none => none
  | [] => by
    show eRl nm b st = _
    cases eRl nm b st <;> rfl
  | q :: a => by
    show (match eRl nm (a ++ b) st with | some s => eAp nm q s | none => none) = _
    rw [eRl_app nm b st a]
    cases eRl nm b st <;> rfl
/-- one value more; the one on top is another one -/
def eG (nm : Nat → Int) (ks : sK) : Prop := ∀ st, eRl nm ks st = none ∨ ∃ v, eRl nm ks st = some (v :: st)
def eT (nm : Nat → Int) (ks : sK) : Prop := ∀ x st, eRl nm ks (x :: st) = none ∨ ∃ v, eRl nm ks (x :: st) = some (v :: st)
/-- kinds that a KNOT may have -/
def kOk (k : Nat) : Prop := k = 2 ∨ (33 ≤ k ∧ k ≤ 39) ∨ 1 ≤ sLv k
theorem kOk_lv {k : Nat} (h : 1 ≤ sLv k) : k ≠ 2 ∧ ¬ (33 ≤ k ∧ k ≤ 39) := by
  unfold sLv at h
  constructor
  · intro e; subst e; simp at h
  · intro e
    rw [if_neg (by omega), if_neg (by omega), if_neg (by omega), if_neg (by omega), if_neg (by omega), if_neg (by omega)] at h
    omega
variable {nm : Nat → Int}
theorem eT_nil : eT nm [] := fun x st => Or.inr ⟨x, rfl⟩
theorem eG_1 {k : Nat} {v : Int} (h : k = 2 ∨ (33 ≤ k ∧ k ≤ 39)) : eG nm [(k, v)] := fun st => by
  refine Or.inr ?_
  show ∃ w, eAp nm (k, v) st = some (w :: st)
  unfold eAp
  by_cases h2 : k = 2
  · exact ⟨v, if_pos h2⟩
  · rw [if_neg h2, if_pos (by omega)]
    exact ⟨_, rfl⟩
theorem eG_T {a b : sK} (ha : eG nm a) (hb : eT nm b) : eG nm (b ++ a) := fun st => by
  rw [eRl_app]
  rcases ha st with h | ⟨v, h⟩
  · rw [h]; exact Or.inl rfl
  · rw [h]; exact hb v st
theorem eT_T {a b : sK} (ha : eT nm a) (hb : eT nm b) : eT nm (b ++ a) := fun x st => by
  rw [eRl_app]
  rcases ha x st with h | ⟨v, h⟩
  · rw [h]; exact Or.inl rfl
  · rw [h]; exact hb v st
theorem eG_not {b : sK} (hb : eG nm b) : eG nm ((32, 0) :: b) := fun st => by
  show (match eRl nm b st with | some s => eAp nm (32, 0) s | none => none) = none ∨ ∃ v, (match eRl nm b st with | some s => eAp nm (32, 0) s | none => none) = some (v :: st)
  rcases hb st with h | ⟨v, h⟩
  · rw [h]; exact Or.inl rfl
  · rw [h]; exact Or.inr ⟨_, rfl⟩
theorem eT_op {k : Nat} {b : sK} (hk : 1 ≤ sLv k) (h32 : k ≠ 32) (hb : eG nm b) : eT nm ((k, 0) :: b) := fun x st => by
  show (match eRl nm b (x :: st) with | some s => eAp nm (k, 0) s | none => none) = none ∨ ∃ v, (match eRl nm b (x :: st) with | some s => eAp nm (k, 0) s | none => none) = some (v :: st)
  rcases hb (x :: st) with h | ⟨v, h⟩
  · rw [h]; exact Or.inl rfl
  · rw [h]
    have h2 := kOk_lv hk
    show eAp nm (k, 0) (v :: x :: st) = none ∨ ∃ w, eAp nm (k, 0) (v :: x :: st) = some (w :: st)
    unfold eAp
    rw [if_neg h2.1, if_neg h2.2, if_neg h32]
    show (match eOp k x v with | some v => some (v :: st) | none => none) = none ∨ ∃ w, (match eOp k x v with | some v => some (v :: st) | none => none) = some (w :: st)
    cases eOp k x v with
    | none => exact Or.inl rfl
    | some w => exact Or.inr ⟨w, rfl⟩
theorem lv_32 {k L : Nat} (h : sLv k = L) (hL : L ≠ 3) : k ≠ 32 := fun e => by
  subst e
  exact hL h.symm
def eM (nm : Nat → Int) (mode : Nat) (ks : sK) : Prop := if mode = 2 ∨ mode = 4 ∨ mode = 7 ∨ 9 ≤ mode then eT nm ks else eG nm ks
def eR (nm : Nat → Int) (mode : Nat) (u z : sU) : Prop := ∃ ks, z.2.2.2 = ks ++ u.2.2.2 ∧ (∀ q ∈ ks, kOk q.1) ∧ eM nm mode ks
theorem eR_seq {m1 m2 m3 : Nat} {u v z : sU} (h1 : eR nm m1 u v) (h2 : eR nm m2 v z) (e1 : ∀ ks, eM nm m1 ks → eG nm ks) (e2 : ∀ ks, eM nm m2 ks → eT nm ks) (e3 : ∀ ks, eG nm ks → eM nm m3 ks) : eR nm m3 u z := by
  obtain ⟨a, a1, a2, a3⟩ := h1
  obtain ⟨b, b1, b2, b3⟩ := h2
  exact ⟨b ++ a, by rw [b1, a1, List.append_assoc], fun q hq => (List.mem_append.mp hq).elim (b2 q) (a2 q), e3 _ (eG_T (e1 a a3) (e2 b b3))⟩
/-- a sign and its right side, then more of the loop -/
theorem eR_loop {m1 m2 k L : Nat} {u y v w z : sU} (hk : sLv k = L) (h1 : 1 ≤ L) (h3 : L ≠ 3) (hv : eR nm m1 y v) (hy : y.2.2.2 = u.2.2.2) (hw : w.2.2.2 = (k, 0) :: v.2.2.2) (hz : eR nm m2 w z) (e1 : ∀ ks, eM nm m1 ks → eG nm ks) (e2 : ∀ ks, eM nm m2 ks → eT nm ks) (e3 : ∀ ks, eT nm ks → eM nm m2 ks) : eR nm m2 u z := by
  obtain ⟨a, a1, a2, a3⟩ := hv
  obtain ⟨b, b1, b2, b3⟩ := hz
  have hk1 : 1 ≤ sLv k := by omega
  refine ⟨b ++ ((k, 0) :: a), ?_, fun q hq => ?_, e3 _ (eT_T (eT_op hk1 (lv_32 hk h3) (e1 a a3)) (e2 b b3))⟩
  · rw [b1, hw, a1, hy, List.append_assoc]; rfl
  · rcases List.mem_append.mp hq with h | h
    · exact b2 q h
    · rcases List.mem_cons.mp h with rfl | h
      · exact Or.inr (Or.inr hk1)
      · exact a2 q h
theorem eM_G {m : Nat} (h : ¬ (m = 2 ∨ m = 4 ∨ m = 7 ∨ 9 ≤ m)) (ks : sK) : eM nm m ks ↔ eG nm ks := by unfold eM; rw [if_neg h]
theorem eM_T {m : Nat} (h : m = 2 ∨ m = 4 ∨ m = 7 ∨ 9 ≤ m) (ks : sK) : eM nm m ks ↔ eT nm ks := by unfold eM; rw [if_pos h]
theorem eR_0 {m : Nat} (h : m = 2 ∨ m = 4 ∨ m = 7 ∨ 9 ≤ m) {u : sU} : eR nm m u u := ⟨[], rfl, fun q hq => absurd hq List.not_mem_nil, (eM_T h []).mpr eT_nil⟩
theorem rd_eR : ∀ (f mode : Nat) (u z : sU), rd f mode u = .inr z → eR nm mode u z
  | 0, _, _, _, h => by cases h
  | f + 1, 0, (l, cn, op, o), z, h => by
    simp only [rd] at h
    split at h
    · split at h
      · cases h
      · obtain ⟨v, hv, h⟩ := sBd_i h
        split at h
        · cases h
          obtain ⟨a, a1, a2, a3⟩ := rd_eR f 8 _ v hv
          exact ⟨a, a1, a2, (eM_G (by decide) a).mpr ((eM_G (by decide) a).mp a3)⟩
        · cases h
    · split at h
      · cases h
      · next hk =>
        split at h
        · cases h
        · have h := sKn_i h
          cases h
          exact ⟨[((sHd l).1, if (sHd l).1 = 2 then (sHd l).2.2 else 0)], rfl, fun q hq => by
            rw [List.mem_singleton] at hq
            subst hq
            show kOk (sHd l).1
            unfold kOk
            have := Classical.not_not.mp hk
            omega, (eM_G (by decide) _).mpr (eG_1 (by have := Classical.not_not.mp hk; omega))⟩
  | f + 1, 1, u, z, h => by
    obtain ⟨v, hv, h⟩ := sBd_i (show sBd (rd f 0 u) (rd f 2) = .inr z from h)
    exact eR_seq (rd_eR f 0 u v hv) (rd_eR f 2 v z h) (fun ks => (eM_G (by decide) ks).mp) (fun ks => (eM_T (by decide) ks).mp) (fun ks => (eM_G (by decide) ks).mpr)
  | f + 1, 2, u, z, h => by
    simp only [rd] at h
    split at h
    · next hk =>
      obtain ⟨v, hv, h⟩ := sBd_i (sKn_i h)
      exact eR_loop hk (by decide) (by decide) (rd_eR f 0 _ v hv) rfl rfl (rd_eR f 2 _ z h) (fun ks => (eM_G (by decide) ks).mp) (fun ks => (eM_T (by decide) ks).mp) (fun ks => (eM_T (by decide) ks).mpr)
    · cases h; exact eR_0 (by decide)
  | f + 1, 3, u, z, h => by
    obtain ⟨v, hv, h⟩ := sBd_i (show sBd (rd f 1 u) (rd f 4) = .inr z from h)
    exact eR_seq (rd_eR f 1 u v hv) (rd_eR f 4 v z h) (fun ks => (eM_G (by decide) ks).mp) (fun ks => (eM_T (by decide) ks).mp) (fun ks => (eM_G (by decide) ks).mpr)
  | f + 1, 4, u, z, h => by
    simp only [rd] at h
    split at h
    · next hk =>
      obtain ⟨v, hv, h⟩ := sBd_i (sKn_i h)
      exact eR_loop hk (by decide) (by decide) (rd_eR f 1 _ v hv) rfl rfl (rd_eR f 4 _ z h) (fun ks => (eM_G (by decide) ks).mp) (fun ks => (eM_T (by decide) ks).mp) (fun ks => (eM_T (by decide) ks).mpr)
    · cases h; exact eR_0 (by decide)
  | f + 1, 5, u, z, h => by
    simp only [rd] at h
    split at h
    · obtain ⟨v, hv, h⟩ := sBd_i (sKn_i h)
      cases h
      obtain ⟨a, a1, a2, a3⟩ := rd_eR f 5 _ v hv
      refine ⟨(32, 0) :: a, by show (32, 0) :: v.2.2.2 = _; rw [a1]; rfl, fun q hq => ?_, (eM_G (by decide) _).mpr (eG_not ((eM_G (by decide) _).mp a3))⟩
      rcases List.mem_cons.mp hq with rfl | hq
      · exact Or.inr (Or.inr (by decide))
      · exact a2 q hq
    · obtain ⟨y, hy, h⟩ := sBd_i h
      have r1 := rd_eR f 3 u y hy
      split at h
      · next hk =>
        obtain ⟨v, hv, h⟩ := sBd_i (sKn_i h)
        cases h
        obtain ⟨a, a1, a2, a3⟩ := r1
        obtain ⟨b, b1, b2, b3⟩ := rd_eR f 3 _ v hv
        have hk1 : 1 ≤ sLv (sHd y.1).1 := by omega
        refine ⟨((sHd y.1).1, 0) :: b ++ a, ?_, fun q hq => ?_, (eM_G (by decide) _).mpr (eG_T ((eM_G (by decide) _).mp a3) (eT_op hk1 (lv_32 hk (by decide)) ((eM_G (by decide) _).mp b3)))⟩
        · show ((sHd y.1).1, 0) :: v.2.2.2 = _
          rw [b1]
          show ((sHd y.1).1, 0) :: (b ++ y.2.2.2) = ((sHd y.1).1, 0) :: (b ++ a ++ u.2.2.2)
          rw [a1, List.append_assoc]
        · rcases List.mem_append.mp hq with hq | hq
          · rcases List.mem_cons.mp hq with rfl | hq
            · exact Or.inr (Or.inr hk1)
            · exact b2 q hq
          · exact a2 q hq
      · cases h
        obtain ⟨a, a1, a2, a3⟩ := r1
        exact ⟨a, a1, a2, (eM_G (by decide) a).mpr ((eM_G (by decide) a).mp a3)⟩
  | f + 1, 6, u, z, h => by
    obtain ⟨v, hv, h⟩ := sBd_i (show sBd (rd f 5 u) (rd f 7) = .inr z from h)
    exact eR_seq (rd_eR f 5 u v hv) (rd_eR f 7 v z h) (fun ks => (eM_G (by decide) ks).mp) (fun ks => (eM_T (by decide) ks).mp) (fun ks => (eM_G (by decide) ks).mpr)
  | f + 1, 7, u, z, h => by
    simp only [rd] at h
    split at h
    · next hk =>
      obtain ⟨v, hv, h⟩ := sBd_i (sKn_i h)
      exact eR_loop hk (by decide) (by decide) (rd_eR f 5 _ v hv) rfl rfl (rd_eR f 7 _ z h) (fun ks => (eM_G (by decide) ks).mp) (fun ks => (eM_T (by decide) ks).mp) (fun ks => (eM_T (by decide) ks).mpr)
    · cases h; exact eR_0 (by decide)
  | f + 1, 8, u, z, h => by
    obtain ⟨v, hv, h⟩ := sBd_i (show sBd (rd f 6 u) (rd f 9) = .inr z from h)
    exact eR_seq (rd_eR f 6 u v hv) (rd_eR f 9 v z h) (fun ks => (eM_G (by decide) ks).mp) (fun ks => (eM_T (by decide) ks).mp) (fun ks => (eM_G (by decide) ks).mpr)
  | f + 1, n + 9, u, z, h => by
    simp only [rd] at h
    split at h
    · next hk =>
      obtain ⟨v, hv, h⟩ := sBd_i (sKn_i h)
      obtain ⟨a, a1, a2, a3⟩ := rd_eR f 9 _ z h
      have r9 : eR nm (n + 9) _ z := ⟨a, a1, a2, (eM_T (by omega) a).mpr ((eM_T (by decide) a).mp a3)⟩
      exact eR_loop hk (by decide) (by decide) (rd_eR f 6 _ v hv) rfl rfl r9 (fun ks => (eM_G (by decide) ks).mp) (fun ks => (eM_T (by omega) ks).mp) (fun ks => (eM_T (by omega) ks).mpr)
    · cases h; exact eR_0 (by omega)
theorem eTl_le {α : Type} (l : List α) : l.tail.length ≤ l.length := by rw [List.length_tail]; omega
theorem rd_len : ∀ (f mode : Nat) (u z : sU), rd f mode u = .inr z → z.1.length ≤ u.1.length
  | 0, _, _, _, h => by cases h
  | f + 1, 0, (l, cn, op, o), z, h => by
    simp only [rd] at h
    have t := eTl_le l
    split at h
    · split at h
      · cases h
      · obtain ⟨v, hv, h⟩ := sBd_i h
        have i1 : v.1.length ≤ l.tail.length := rd_len f 8 _ v hv
        have t2 := eTl_le v.1
        split at h
        · cases h
          show v.1.tail.length ≤ l.length
          omega
        · cases h
    · split at h
      · cases h
      · split at h
        · cases h
        · have h := sKn_i h
          cases h
          exact t
  | f + 1, 1, u, z, h => by
    obtain ⟨v, hv, h⟩ := sBd_i (show sBd (rd f 0 u) (rd f 2) = .inr z from h)
    exact Nat.le_trans (rd_len f 2 v z h) (rd_len f 0 u v hv)
  | f + 1, 2, u, z, h => by
    simp only [rd] at h
    split at h
    · obtain ⟨v, hv, h⟩ := sBd_i (sKn_i h)
      exact Nat.le_trans (rd_len f 2 _ z h) (Nat.le_trans (rd_len f 0 _ v hv) (eTl_le u.1))
    · cases h; exact Nat.le_refl _
  | f + 1, 3, u, z, h => by
    obtain ⟨v, hv, h⟩ := sBd_i (show sBd (rd f 1 u) (rd f 4) = .inr z from h)
    exact Nat.le_trans (rd_len f 4 v z h) (rd_len f 1 u v hv)
  | f + 1, 4, u, z, h => by
    simp only [rd] at h
    split at h
    · obtain ⟨v, hv, h⟩ := sBd_i (sKn_i h)
      exact Nat.le_trans (rd_len f 4 _ z h) (Nat.le_trans (rd_len f 1 _ v hv) (eTl_le u.1))
    · cases h; exact Nat.le_refl _
  | f + 1, 5, u, z, h => by
    simp only [rd] at h
    split at h
    · obtain ⟨v, hv, h⟩ := sBd_i (sKn_i h)
      cases h
      exact Nat.le_trans (rd_len f 5 _ v hv) (eTl_le u.1)
    · obtain ⟨y, hy, h⟩ := sBd_i h
      have r1 := rd_len f 3 u y hy
      split at h
      · obtain ⟨v, hv, h⟩ := sBd_i (sKn_i h)
        cases h
        exact Nat.le_trans (Nat.le_trans (rd_len f 3 _ v hv) (eTl_le y.1)) r1
      · cases h; exact r1
  | f + 1, 6, u, z, h => by
    obtain ⟨v, hv, h⟩ := sBd_i (show sBd (rd f 5 u) (rd f 7) = .inr z from h)
    exact Nat.le_trans (rd_len f 7 v z h) (rd_len f 5 u v hv)
  | f + 1, 7, u, z, h => by
    simp only [rd] at h
    split at h
    · obtain ⟨v, hv, h⟩ := sBd_i (sKn_i h)
      exact Nat.le_trans (rd_len f 7 _ z h) (Nat.le_trans (rd_len f 5 _ v hv) (eTl_le u.1))
    · cases h; exact Nat.le_refl _
  | f + 1, 8, u, z, h => by
    obtain ⟨v, hv, h⟩ := sBd_i (show sBd (rd f 6 u) (rd f 9) = .inr z from h)
    exact Nat.le_trans (rd_len f 9 v z h) (rd_len f 6 u v hv)
  | f + 1, n + 9, u, z, h => by
    simp only [rd] at h
    split at h
    · obtain ⟨v, hv, h⟩ := sBd_i (sKn_i h)
      exact Nat.le_trans (rd_len f 9 _ z h) (Nat.le_trans (rd_len f 6 _ v hv) (eTl_le u.1))
    · cases h; exact Nat.le_refl _
theorem hd_ne {l : List sT} (h : ¬ (sHd l).1 = 0) : l.tail.length < l.length := by
  cases l with
  | nil => exact absurd rfl h
  | cons a r => exact Nat.lt_succ_self _
theorem hd_lv {l : List sT} {b : Nat} (h : sLv (sHd l).1 = b) (hb : 1 ≤ b) : l.tail.length < l.length := hd_ne (fun e => by rw [e] at h; have h : 0 = b := h; omega)
theorem rX_len {k : Nat} {u z : sU} (h : rX k u (.inr z)) : z.1.length ≤ u.1.length := by
  obtain ⟨⟨f, h⟩, _⟩ := h
  exact rd_len f k u z h
/-- the reference's descent ends -/
theorem rX_tot : ∀ n : Nat, ∀ u : sU, u.1.length ≤ n → ∀ k, k ≤ 9 → ∃ x, rX k u x := by
  intro n
  induction n using Nat.strongRecOn with
  | ind n IH =>
    have ih : ∀ u : sU, u.1.length < n → ∀ k, k ≤ 9 → ∃ x, rX k u x := fun u hu k hk => IH u.1.length hu u (Nat.le_refl _) k hk
    have lp : ∀ k k1 b, rLp k k1 b → k1 ≤ 9 → k ≤ 9 → 1 ≤ b → ∀ u : sU, u.1.length ≤ n → ∃ x, rX k u x := fun k k1 b hL q1 q2 hb u hu => by
      obtain ⟨g1, g2, g3⟩ := rX_lp hL q1 q2 (u := u)
      by_cases h : sLv (sHd u.1).1 = b
      · by_cases h6 : u.2.1 = 64
        · exact ⟨_, g2 h h6⟩
        · have tl := hd_lv h hb
          obtain ⟨x1, hx1⟩ := ih (u.1.tail, u.2.1 + 1, u.2.2) (show u.1.tail.length < n by omega) k1 q1
          cases x1 with
          | inl e => exact ⟨_, (g3 h h6).1 e hx1⟩
          | inr z =>
            have l2 : z.1.length ≤ u.1.tail.length := rX_len hx1
            obtain ⟨x2, hx2⟩ := ih (z.1, z.2.1, z.2.2.1, ((sHd u.1).1, 0) :: z.2.2.2) (show z.1.length < n by omega) k q2
            exact ⟨_, (g3 h h6).2 z x2 hx1 hx2⟩
      · exact ⟨_, g1 h⟩
    have sq : ∀ k k1 k2, rSq k k1 k2 → k1 ≤ 9 → k2 ≤ 9 → (∀ u : sU, u.1.length ≤ n → ∃ x, rX k1 u x) → (∀ u : sU, u.1.length ≤ n → ∃ x, rX k2 u x) → ∀ u : sU, u.1.length ≤ n → ∃ x, rX k u x := fun k k1 k2 hL q1 q2 a1 a2 u hu => by
      obtain ⟨g1, g2⟩ := rX_sq hL q1 q2 (u := u)
      obtain ⟨x1, hx1⟩ := a1 u hu
      cases x1 with
      | inl e => exact ⟨_, g1 e hx1⟩
      | inr z =>
        obtain ⟨x2, hx2⟩ := a2 z (Nat.le_trans (rX_len hx1) hu)
        exact ⟨_, g2 z x2 hx1 hx2⟩
    have m0 : ∀ u : sU, u.1.length ≤ n → ∃ x, rX 0 u x := fun ⟨l, cn, op, o⟩ hu => by
      have hu : l.length ≤ n := hu
      obtain ⟨g1, g2, g3⟩ := rX_0 (l := l) (cn := cn) (op := op) (o := o)
      by_cases h5 : (sHd l).1 = 5
      · by_cases h8 : op = 8
        · exact ⟨_, g1 h5 h8⟩
        · have tl := hd_ne (l := l) (by omega)
          obtain ⟨x1, hx1⟩ := ih (l.tail, cn, op + 1, o) (show l.tail.length < n by omega) 8 (by decide)
          cases x1 with
          | inl e => exact ⟨_, (g2 h5 h8).1 e hx1⟩
          | inr z =>
            by_cases h6 : (sHd z.1).1 = 6
            · exact ⟨_, ((g2 h5 h8).2 z hx1).1 h6⟩
            · exact ⟨_, ((g2 h5 h8).2 z hx1).2 h6⟩
      · by_cases h2 : (sHd l).1 = 2 ∨ (33 ≤ (sHd l).1 ∧ (sHd l).1 ≤ 39)
        · by_cases h9 : (sHd l).1 = 2 ∧ 9999 < (sHd l).2.2
          · exact ⟨_, (g3 h5).2.1 h9⟩
          · by_cases h6 : cn = 64
            · exact ⟨_, ((g3 h5).2.2 h2 h9).1 h6⟩
            · exact ⟨_, ((g3 h5).2.2 h2 h9).2 h6⟩
        · exact ⟨_, (g3 h5).1 h2⟩
    have m1 := sq 1 0 2 rSq_1 (by decide) (by decide) m0 (lp 2 0 6 rLp_2 (by decide) (by decide) (by decide))
    have m3 := sq 3 1 4 rSq_3 (by decide) (by decide) m1 (lp 4 1 5 rLp_4 (by decide) (by decide) (by decide))
    have m5 : ∀ u : sU, u.1.length ≤ n → ∃ x, rX 5 u x := fun u hu => by
      by_cases h : (sHd u.1).1 = 32
      · obtain ⟨g1, g2⟩ := rX_5n h
        by_cases h6 : u.2.1 = 64
        · exact ⟨_, g1 h6⟩
        · have tl := hd_ne (l := u.1) (by omega)
          obtain ⟨x1, hx1⟩ := ih (u.1.tail, u.2.1 + 1, u.2.2) (show u.1.tail.length < n by omega) 5 (by decide)
          cases x1 with
          | inl e => exact ⟨_, (g2 h6).1 e hx1⟩
          | inr z => exact ⟨_, (g2 h6).2 z hx1⟩
      · obtain ⟨g1, g2⟩ := rX_5s h
        obtain ⟨x1, hx1⟩ := m3 u hu
        cases x1 with
        | inl e => exact ⟨_, g1 e hx1⟩
        | inr y =>
          obtain ⟨k1, k2⟩ := g2 y hx1
          by_cases h4 : sLv (sHd y.1).1 = 4
          · by_cases h6 : y.2.1 = 64
            · exact ⟨_, (k2 h4).1 h6⟩
            · have l1 := rX_len hx1
              have tl := hd_lv h4 (by decide)
              obtain ⟨x2, hx2⟩ := ih (y.1.tail, y.2.1 + 1, y.2.2) (show y.1.tail.length < n by omega) 3 (by decide)
              cases x2 with
              | inl e => exact ⟨_, ((k2 h4).2 h6).1 e hx2⟩
              | inr z => exact ⟨_, ((k2 h4).2 h6).2 z hx2⟩
          · exact ⟨_, k1 h4⟩
    have m6 := sq 6 5 7 rSq_6 (by decide) (by decide) m5 (lp 7 5 2 rLp_7 (by decide) (by decide) (by decide))
    have m8 := sq 8 6 9 rSq_8 (by decide) (by decide) m6 (lp 9 6 1 rLp_9 (by decide) (by decide) (by decide))
    intro u hu k hk
    match k, hk with
    | 0, _ => exact m0 u hu
    | 1, _ => exact m1 u hu
    | 2, _ => exact lp 2 0 6 rLp_2 (by decide) (by decide) (by decide) u hu
    | 3, _ => exact m3 u hu
    | 4, _ => exact lp 4 1 5 rLp_4 (by decide) (by decide) (by decide) u hu
    | 5, _ => exact m5 u hu
    | 6, _ => exact m6 u hu
    | 7, _ => exact lp 7 5 2 rLp_7 (by decide) (by decide) (by decide) u hu
    | 8, _ => exact m8 u hu
    | 9, _ => exact lp 9 6 1 rLp_9 (by decide) (by decide) (by decide) u hu
/-- an E as both read it -/
theorem pE_eG {l : List sT} {cn : Nat} {o : sK} {u : sU} (h : pE (.inr l) cn o = .inr u) : ∃ ks, u.2.2.2 = ks ++ o ∧ (∀ q ∈ ks, kOk q.1) ∧ 1 ≤ ks.length ∧ ∀ nm, eG nm ks := by
  obtain ⟨x, ⟨f, hf⟩, hg⟩ := rX_tot l.length (l, cn, 0, o) (Nat.le_refl _) 8 (by decide)
  have hr : rd f 8 (l, cn, 0, o) = .inr u := by
    rcases rd_sy_all (f := f) (l := l) (cn := cn) (o := o) (fun e he => hg e (hf.symm.trans he)) with h1 | ⟨z, h1, h2, h3⟩
    · rw [pE_en h1] at h
      exact h
    · rw [pE_en h3] at h
      cases h
  have key : ∀ nm : Nat → Int, ∃ ks, u.2.2.2 = ks ++ o ∧ (∀ q ∈ ks, kOk q.1) ∧ eG nm ks := fun nm => by
    obtain ⟨ks, k1, k2, k3⟩ := rd_eR (nm := nm) f 8 _ _ hr
    exact ⟨ks, k1, k2, (eM_G (by decide) ks).mp k3⟩
  obtain ⟨ks, k1, k2, k3⟩ := key (fun _ => 0)
  refine ⟨ks, k1, k2, ?_, fun nm => ?_⟩
  · have hi := (rd_inv f 8 (by decide) _ _ hr).2.2.1
    rw [k1, List.length_append] at hi
    have hi : o.length + 1 ≤ ks.length + o.length := hi
    omega
  · obtain ⟨ks', j1, j2, j3⟩ := key nm
    rw [k1] at j1
    rw [List.append_cancel_right j1]
    exact j3
