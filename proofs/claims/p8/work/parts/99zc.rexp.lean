/-! THE REFERENCE: an E -/
def rKt (k : Nat) : Int := if k = 2 then 0 else if 33 ≤ k then 1 else 2
def rKv (k : Nat) (v : Int) : Int := if k = 2 then v else if 33 ≤ k then (k : Int) - 33 else if k = 30 then 262 else if k = 31 then 261 else if k = 32 then 260 else sSc k
def rKs (m : yMem) : sK → Prop
  | [] => True
  | q :: o => (w32 (m 116 (64 + o.length)) = rKt q.1 ∧ w32 (m 117 (64 + o.length)) = rKv q.1 q.2) ∧ rKs m o
theorem rKs_fr {b m : yMem} : ∀ {o : sK}, rKs b o → (∀ j, j < 64 + o.length → m 116 j = b 116 j ∧ m 117 j = b 117 j) → rKs m o
  | [], _, _ => trivial
  | q :: o, h, hm => by
    have e := hm (64 + o.length) (by rw [List.length_cons]; omega)
    exact ⟨by rw [e.1, e.2]; exact h.1, rKs_fr h.2 (fun j hj => hm j (by rw [List.length_cons]; omega))⟩
def rEx (ch : Nat → Int) (n : Nat) (m : yMem) (u : sU) : Prop := rTk ch n m (.inr u.1) ∧ (w32 (m 95 36) = (u.2.1 : Int) ∧ u.2.1 ≤ 64) ∧ (w32 (m 95 35) = (u.2.2.1 : Int) ∧ u.2.2.1 ≤ 8) ∧ (w32 (m 97 13) = (u.2.2.2.length : Int) ∧ u.2.2.2.length ≤ u.2.1) ∧ rKs m u.2.2.2
def rEr (ch : Nat → Int) (n : Nat) (m : yMem) (x : sX) : Prop := match x with
  | .inl e => rTk ch n m (.inl e)
  | .inr u => rEx ch n m u
section RH
variable {ch : Nat → Int} {n : Nat} {m m' : yMem} {u z : sU}
theorem rEx_kn (h : rEx ch n m u) (hc : ¬ u.2.1 = 64) : rEx ch n (yset m 95 36 (m 95 36 + 1)) (u.1, u.2.1 + 1, u.2.2) := by
  obtain ⟨h1, ⟨h2, h3⟩, ⟨h4, h5⟩, ⟨h6, h7⟩, h8⟩ := h
  have e1 : w32 (m 95 36 + 1) = ((u.2.1 + 1 : Nat) : Int) := by rw [w32_ad (by rw [w32c_1]; omega) (by rw [w32c_1]; omega), w32c_1]; omega
  exact ⟨rTk_of h1 (fun j _ j2 => yset_d (by omega)) (fun j => yset_o (by decide)), ⟨by rw [yset_s]; exact e1, by show u.2.1 + 1 ≤ 64; omega⟩, ⟨by rw [yset_d (by decide)]; exact h4, h5⟩, ⟨by rw [yset_o (by decide)]; exact h6, by show u.2.2.2.length ≤ u.2.1 + 1; omega⟩, rKs_fr h8 (fun j _ => ⟨yset_o (by decide), yset_o (by decide)⟩)⟩
theorem rEx_op (h : rEx ch n m u) {V : Int} {k : Nat} (hV : w32 V = (k : Int)) (hk : k ≤ 8) : rEx ch n (yset m 95 35 V) (u.1, u.2.1, k, u.2.2.2) := by
  obtain ⟨h1, ⟨h2, h3⟩, ⟨h4, h5⟩, ⟨h6, h7⟩, h8⟩ := h
  exact ⟨rTk_of h1 (fun j _ j2 => yset_d (by omega)) (fun j => yset_o (by decide)), ⟨by rw [yset_d (by decide)]; exact h2, h3⟩, ⟨by rw [yset_s]; exact hV, hk⟩, ⟨by rw [yset_o (by decide)]; exact h6, h7⟩, rKs_fr h8 (fun j _ => ⟨yset_o (by decide), yset_o (by decide)⟩)⟩
theorem rEx_tk (h : rEx ch n m u) (F : aFrm tkF m m') (t : rTk ch n m' (.inr (sNx u.1))) : rEx ch n m' (sNx u.1, u.2) := by
  obtain ⟨h1, ⟨h2, h3⟩, ⟨h4, h5⟩, ⟨h6, h7⟩, h8⟩ := h
  exact ⟨t, ⟨by rw [F 95 36 rfl]; exact h2, h3⟩, ⟨by rw [F 95 35 rfl]; exact h4, h5⟩, ⟨by rw [F 97 13 rfl]; exact h6, h7⟩, rKs_fr h8 (fun j _ => ⟨F 116 j rfl, F 117 j rfl⟩)⟩
theorem sNx_t {l : List sT} (h : (sHd l).1 ≠ 0) : sNx l = l.tail := by
  unfold sNx
  rw [if_neg h]
theorem rEx_pt (h : rEx ch n m z) (hl : z.2.2.2.length < z.2.1) {k : Nat} {v K V : Int} (hK : w32 K = rKt k) (hV : w32 V = rKv k v) : rEx ch n (zput m K V) (z.1, z.2.1, z.2.2.1, (k, v) :: z.2.2.2) ∧ w32 (64 + m 97 13) = 64 + (z.2.2.2.length : Int) ∧ aFrm zpW m (zput m K V) := by
  obtain ⟨h1, ⟨h2, h3⟩, ⟨h4, h5⟩, ⟨h6, h7⟩, h8⟩ := h
  have e64 : w32 64 = 64 := by decide
  have e2 : w32 (64 + m 97 13) = 64 + (z.2.2.2.length : Int) := by rw [w32_ad (by rw [e64]; omega) (by rw [e64]; omega), e64]; omega
  have ei : (w32 (64 + m 97 13)).toNat = 64 + z.2.2.2.length := by omega
  have e1 : w32 (m 97 13 + 1) = ((z.2.2.2.length + 1 : Nat) : Int) := by rw [w32_ad (by rw [w32c_1]; omega) (by rw [w32c_1]; omega), w32c_1]; omega
  have hh := zpW_hi (64 + z.2.2.2.length) (by omega) (by omega)
  refine ⟨?_, e2, ?_⟩
  · unfold zput
    rw [ei]
    refine ⟨rTk_s (rTk_s (rTk_s h1 (by decide)) (by decide)) (by decide), ⟨by rw [yset_o (by decide), yset_o (by decide), yset_o (by decide)]; exact h2, h3⟩, ⟨by rw [yset_o (by decide), yset_o (by decide), yset_o (by decide)]; exact h4, h5⟩, ⟨by rw [yset_s]; exact e1, by show z.2.2.2.length + 1 ≤ z.2.1; omega⟩, ⟨⟨?_, ?_⟩, rKs_fr h8 (fun j hj => ⟨?_, ?_⟩)⟩⟩
    · rw [yset_o (by decide), yset_o (by decide), yset_s]; exact hK
    · rw [yset_o (by decide), yset_s]; exact hV
    · rw [yset_o (by decide), yset_o (by decide), yset_d (by omega)]
    · rw [yset_o (by decide), yset_d (by omega), yset_o (by decide)]
  · unfold zput
    rw [ei]
    exact aFrm_set (aFrm_set (aFrm_set aFrm_rf hh.1) hh.2) rfl
end RH
/-- a piece of an E, at op open ones, with D0 frames: on a FAULT nothing -/
def CRd (ch : Nat → Int) (n : Nat) (E : yE) (M : xM) (k op D0 : Nat) : Prop := ∀ D, D0 ≤ D → ∀ (mem : yMem) (Q : Option yV → yMem → Prop), (¬ w32 (mem 95 31) = 0 → Q none mem → yCon E D M [(1, 95)] mem Q) ∧ (∀ u, rEx ch n mem u → u.2.2.1 = op → (∀ m x, rX k u x → aFrm exW mem m → rEr ch n m x → Q none m) → yCon E D M [(1, 95)] mem Q)
theorem sLv_ne {k b : Nat} (h : sLv k = b) (hb : b ≠ 0) : k ≠ 0 := fun e => by
  rw [e] at h
  exact hb (h.symm.trans (by decide))
theorem sLv_k6 {k : Nat} : sLv k = 6 ↔ k = 15 ∨ k = 16 := by
  unfold sLv
  repeat' split
  all_goals omega
theorem sLv_k5 {k : Nat} : sLv k = 5 ↔ k = 13 ∨ k = 14 := by
  unfold sLv
  repeat' split
  all_goals omega
theorem sLv_k4 {k : Nat} : sLv k = 4 ↔ 7 ≤ k ∧ k ≤ 12 := by
  unfold sLv
  repeat' split
  all_goals omega
theorem sLv_k2 {k : Nat} : sLv k = 2 ↔ k = 31 := by
  unfold sLv
  repeat' split
  all_goals omega
theorem sLv_k1 {k : Nat} : sLv k = 1 ↔ k = 30 := by
  unfold sLv
  repeat' split
  all_goals omega
theorem rK_sg {k : Nat} (h1 : 4 ≤ k) (h2 : k ≤ 16) : rKt k = 2 ∧ rKv k 0 = sSc k := by
  unfold rKt rKv
  rw [if_neg (by omega), if_neg (by omega), if_neg (by omega), if_neg (by omega), if_neg (by omega), if_neg (by omega), if_neg (by omega)]
  exact ⟨rfl, rfl⟩
/-- the sign that stands -/
theorem rf_sg {ch : Nat → Int} {n : Nat} {m : yMem} {l : List sT} (h : rTk ch n m (.inr l)) (h1 : 4 ≤ (sHd l).1) (h2 : (sHd l).1 ≤ 16) : w32 (m 95 29) = 3 ∧ w32 (m 95 30) = sSc (sHd l).1 := by
  have := rTk_rk h
  unfold sRk at this
  omega
theorem ex_w2 {b : yMem} : aFrm exW b (yset (yset b 95 31 2) 95 32 (b 95 28)) := aFrm_set (aFrm_set aFrm_rf rfl) rfl
theorem tk_ex {a b : yMem} (h : aFrm tkF a b) : aFrm exW a b := aFrm_w h rfl
