/-! what abstract things mean, the symbols being ρ -/
def aok (ρ : List Int) (v : aV) (y : yV) : Prop := match v.1 with
  | 0 => y.1 = 0 ∧ w32 y.2 = v.2.2
  | 3 => y.1 = 0 ∧ ∃ x, ρ[v.2.1]? = some x ∧ w32 y.2 = x + v.2.2
  | 1 => y = (1, (v.2.1 : Int))
  | 4 => y.1 = 4 ∧ w64 y.2 = v.2.2
  | 8 => y.1 = 4 ∧ ρ[v.2.1]? = some (w64 y.2)
  | 9 => y.1 = 0 ∧ ∃ x, ρ[v.2.1]? = some x ∧ w32 y.2 = (if v.2.2 < x then 1 else if x = v.2.2 then 0 else -1)
  | _ => False
theorem agrow {ρ σ : List Int} {k : Nat} {x : Int} (h : ρ[k]? = some x) : (ρ ++ σ)[k]? = some x := by
  rw [List.getElem?_append_left (List.getElem?_eq_some_iff.mp h).1]
  exact h
theorem aok_grow {ρ σ : List Int} {v : aV} {y : yV} (h : aok ρ v y) : aok (ρ ++ σ) v y := by
  obtain ⟨t, k, c⟩ := v
  match t, h with
  | 0, h => exact h
  | 1, h => exact h
  | 3, ⟨h1, x, h2, h3⟩ => exact ⟨h1, x, agrow h2, h3⟩
  | 4, h => exact h
  | 8, ⟨h1, h2⟩ => exact ⟨h1, agrow h2⟩
  | 9, ⟨h1, x, h2, h3⟩ => exact ⟨h1, x, agrow h2, h3⟩
  | 2, h | 5, h | 6, h | 7, h => exact h.elim
  | n + 10, h => exact h.elim
def tv (ρ : List Int) (t : aT) (x : Int) : Prop := match t.1 with
  | none => x = t.2
  | some k => ∃ z, ρ[k]? = some z ∧ x = z + t.2
theorem tv_grow {ρ σ : List Int} {t : aT} {x : Int} (h : tv ρ t x) : tv (ρ ++ σ) t x := by
  obtain ⟨k, c⟩ := t
  cases k with
  | none => exact h
  | some k =>
    obtain ⟨z, h1, h2⟩ := h
    exact ⟨z, agrow h1, h2⟩
def aGok (mem : yMem) : Prop := ∀ i j, (agam i j).1 ≤ w32 (mem i j) ∧ w32 (mem i j) ≤ (agam i j).2
def aMok (ρ : List Int) (mp : aMp) (mem : yMem) : Prop := ∀ q ∈ mp, aok ρ q.2 (0, mem q.1.1 q.1.2)
def aIok (ρ : List Int) (iv : aI) : Prop := ρ.length = iv.length ∧ ∀ (k : Nat) (q : Int × Int), iv[k]? = some q → ∃ x, ρ[k]? = some x ∧ q.1 ≤ x ∧ x ≤ q.2
def aNok (ρ : List Int) (ne : aN) : Prop := ∀ q ∈ ne, ∃ x, ρ[q.1]? = some x ∧ x ≠ q.2
def aSat (ρ : List Int) (S : aSt) (mem : yMem) : Prop := aGok mem ∧ aMok ρ S.1 mem ∧ aIok ρ S.2.1 ∧ aNok ρ S.2.2
theorem aiv_ok {ρ : List Int} {iv : aI} (h : aIok ρ iv) {k : Nat} {x : Int} (hx : ρ[k]? = some x) : (aiv iv k).1 ≤ x ∧ x ≤ (aiv iv k).2 := by
  have hl : k < iv.length := by rw [← h.1]; exact (List.getElem?_eq_some_iff.mp hx).1
  have e : iv[k]? = some iv[k] := List.getElem?_eq_getElem hl
  obtain ⟨z, h1, h2, h3⟩ := h.2 k _ e
  rw [hx] at h1
  cases h1
  simp only [aiv, e]
  exact ⟨h2, h3⟩
theorem trng_ok {ρ : List Int} {iv : aI} (h : aIok ρ iv) {t : aT} {x : Int} (ht : tv ρ t x) : (trng iv t).1 ≤ x ∧ x ≤ (trng iv t).2 := by
  obtain ⟨k, c⟩ := t
  cases k with
  | none =>
    have : x = c := ht
    simp only [trng]
    omega
  | some k =>
    obtain ⟨z, h1, h2⟩ := ht
    have := aiv_ok h h1
    dsimp only at h2
    simp only [trng]
    omega
theorem aterm_ok {ρ : List Int} {v : aV} {t : aT} {y : yV} (h : aterm v = some t) (hv : aok ρ v y) : y.1 = 0 ∧ tv ρ t (w32 y.2) := by
  obtain ⟨g, k, c⟩ := v
  match g, h, hv with
  | 0, h, hv => cases h; exact ⟨hv.1, hv.2⟩
  | 3, h, ⟨h1, x, h2, h3⟩ => cases h; exact ⟨h1, x, h2, h3⟩
  | 1, h, _ | 2, h, _ => cases h
  | n + 4, h, _ => cases h
theorem aint {ρ : List Int} {v : aV} {y : yV} (h : akdb 0 v = true) (hv : aok ρ v y) : y.1 = 0 := by
  obtain ⟨g, k, c⟩ := v
  match g, h, hv with
  | 0, _, hv => exact hv.1
  | 3, _, hv => exact hv.1
  | 9, _, hv => exact hv.1
  | 1, h, _ | 2, h, _ | 4, h, _ | 5, h, _ | 6, h, _ | 7, h, _ | 8, h, _ => cases h
  | n + 10, h, _ => cases h
theorem along {ρ : List Int} {v : aV} {y : yV} (h : akdb 2 v = true) (hv : aok ρ v y) : y.1 = 4 := by
  obtain ⟨g, k, c⟩ := v
  match g, h, hv with
  | 4, _, hv => exact hv.1
  | 8, _, hv => exact hv.1
  | 0, h, _ | 1, h, _ | 2, h, _ | 3, h, _ | 5, h, _ | 6, h, _ | 7, h, _ => cases h
  | n + 9, h, _ => cases h
theorem arng_ok {ρ : List Int} {iv : aI} (h : aIok ρ iv) {v : aV} {y : yV} (hk : akdb 0 v = true) (hv : aok ρ v y) : (arng iv v).1 ≤ w32 y.2 ∧ w32 y.2 ≤ (arng iv v).2 := by
  unfold arng
  cases ht : aterm v with
  | some t => exact trng_ok h (aterm_ok ht hv).2
  | none =>
    have h1 := w32_lo y.2
    have h2 := w32_hi y.2
    exact ⟨h1, by show w32 y.2 ≤ 2147483647; omega⟩
theorem aset_ok {ρ : List Int} {iv : aI} (h : aIok ρ iv) {t : aT} {x lo hi : Int} (ht : tv ρ t x) (h1 : lo ≤ x) (h2 : x ≤ hi) : aIok ρ (aset iv t lo hi) := by
  obtain ⟨k, c⟩ := t
  cases k with
  | none => exact h
  | some k =>
    obtain ⟨z, g1, g2⟩ := ht
    dsimp only at g2
    unfold aset
    dsimp only
    cases hk : iv[k]? with
    | none => exact h
    | some q =>
      dsimp only
      refine ⟨by rw [List.length_set]; exact h.1, fun j r hj => ?_⟩
      by_cases e : j = k
      · subst e
        rw [List.getElem?_set_self (List.getElem?_eq_some_iff.mp hk).1] at hj
        cases hj
        obtain ⟨x', g3, g4, g5⟩ := h.2 j q hk
        rw [g1] at g3
        cases g3
        refine ⟨z, g1, ?_, ?_⟩
        · dsimp only; rw [zmax_ok]; omega
        · dsimp only; rw [zmin_ok]; omega
      · rw [List.getElem?_set_ne (Ne.symm e)] at hj
        exact h.2 j r hj
theorem acons_ok {ρ : List Int} {iv : aI} (h : aIok ρ iv) : acons iv = true := by
  have key : ∀ (l : aI), (∀ q ∈ l, q.1 ≤ q.2) → acons l = true := by
    intro l
    induction l with
    | nil => exact fun _ => rfl
    | cons q r ih =>
      intro hq
      simp only [acons, Bool.and_eq_true, zle_ok]
      exact ⟨hq q List.mem_cons_self, ih (fun z hz => hq z (List.mem_cons_of_mem _ hz))⟩
  refine key iv (fun q hq => ?_)
  obtain ⟨k, hk⟩ := List.getElem?_of_mem hq
  obtain ⟨x, -, h2, h3⟩ := h.2 k q hk
  omega
theorem akeep_ok {l : List (Bool × aI × aN)} {o : Bool × aI × aN} (h : o ∈ l) (hc : acons o.2.1 = true) : o ∈ akeep l := by
  induction l with
  | nil => cases h
  | cons q r ih =>
    simp only [akeep]
    rcases List.mem_cons.mp h with rfl | h
    · rw [if_pos hc]
      exact List.mem_cons_self
    · split
      · exact List.mem_cons_of_mem _ (ih h)
      · exact ih h
/-- one of the outcomes is the real one -/
def aOut (ρ : List Int) (l : List (Bool × aI × aN)) (P : Prop) : Prop := ∃ o ∈ l, (o.1 = true ↔ P) ∧ aIok ρ o.2.1 ∧ aNok ρ o.2.2
theorem adifk_ok {ρ : List Int} {iv : aI} {ne : aN} (h : aIok ρ iv) (hn : aNok ρ ne) {k : Nat} {c w : Int} (hw : ρ[k]? = some w) (hc : w ≠ c) : aIok ρ (adifk iv ne k c).1 ∧ aNok ρ (adifk iv ne k c).2 := by
  have hk := aiv_ok h hw
  have htk : tv ρ (some k, 0) w := ⟨w, hw, by dsimp only; omega⟩
  refine ⟨?_, ?_⟩
  · simp only [adifk]
    split
    · next e => rw [zeq_ok] at e; exact aset_ok h htk (by omega) (by omega)
    · split
      · next e => rw [zeq_ok] at e; exact aset_ok h htk (by omega) (by omega)
      · exact h
  · intro q hq
    rcases List.mem_cons.mp hq with rfl | hq
    · exact ⟨w, hw, hc⟩
    · exact hn q hq
theorem aeq_ok {ρ : List Int} {iv : aI} {ne : aN} (h : aIok ρ iv) (hn : aNok ρ ne) {t u : aT} {x y : Int} (ht : tv ρ t x) (hu : tv ρ u y) : aOut ρ (aeq iv ne t u) (x = y) := by
  have ha := trng_ok h ht
  have hb := trng_ok h hu
  unfold aeq
  dsimp only
  split
  · next hc =>
    simp only [Bool.and_eq_true, zle_ok] at hc
    exact ⟨_, List.mem_cons_self, ⟨fun _ => by omega, fun _ => rfl⟩, h, hn⟩
  · split
    · next hc =>
      simp only [Bool.or_eq_true, zlt_ok] at hc
      refine ⟨_, List.mem_cons_self, ⟨fun z => (by cases z), fun z => ?_⟩, h, hn⟩
      exfalso
      rcases hc with hc | hc | hc
      · omega
      · omega
      · obtain ⟨tk, tc⟩ := t
        obtain ⟨uk, uc⟩ := u
        cases tk with
        | none => cases hc
        | some k =>
          cases uk with
          | some _ => cases hc
          | none =>
            simp only [aneq, List.any_eq_true, Bool.and_eq_true, Nat.beq_eq, zeq_ok] at hc
            obtain ⟨q, hq, e1, e2⟩ := hc
            obtain ⟨w, g1, g2⟩ := hn q hq
            obtain ⟨w', g3, g4⟩ := ht
            rw [e1, g3] at g1
            cases g1
            have hu' : y = uc := hu
            dsimp only at g4
            exact g2 (by omega)
    · by_cases hxy : x = y
      · have h2 := aset_ok (aset_ok h ht (lo := (trng iv u).1) (hi := (trng iv u).2) (by omega) (by omega)) hu (lo := (trng iv t).1) (hi := (trng iv t).2) (by omega) (by omega)
        exact ⟨_, akeep_ok List.mem_cons_self (acons_ok h2), ⟨fun _ => hxy, fun _ => rfl⟩, h2, hn⟩
      · have h2 : aIok ρ (adif iv ne t u).1 ∧ aNok ρ (adif iv ne t u).2 := by
          obtain ⟨tk, tc⟩ := t
          obtain ⟨uk, uc⟩ := u
          cases tk with
          | none =>
            cases uk with
            | none => exact ⟨h, hn⟩
            | some k =>
              obtain ⟨w, g3, g4⟩ := hu
              have ht' : x = tc := ht
              dsimp only at g4
              exact adifk_ok h hn g3 (by dsimp only; omega)
          | some k =>
            cases uk with
            | some _ => exact ⟨h, hn⟩
            | none =>
              obtain ⟨w, g3, g4⟩ := ht
              have hu' : y = uc := hu
              dsimp only at g4
              exact adifk_ok h hn g3 (by dsimp only; omega)
        exact ⟨(false, adif iv ne t u), akeep_ok (List.mem_cons_of_mem _ List.mem_cons_self) (acons_ok h2.1), ⟨fun z => (by cases z), fun z => absurd z hxy⟩, h2.1, h2.2⟩
theorem alt_ok {ρ : List Int} {iv : aI} {ne : aN} (h : aIok ρ iv) (hn : aNok ρ ne) {t u : aT} {x y : Int} (ht : tv ρ t x) (hu : tv ρ u y) : aOut ρ (alt iv ne t u) (x < y) := by
  have ha := trng_ok h ht
  have hb := trng_ok h hu
  unfold alt
  dsimp only
  split
  · next hc =>
    rw [zlt_ok] at hc
    exact ⟨_, List.mem_cons_self, ⟨fun _ => by omega, fun _ => rfl⟩, h, hn⟩
  · split
    · next hc =>
      rw [zle_ok] at hc
      exact ⟨_, List.mem_cons_self, ⟨fun z => (by cases z), fun z => absurd z (by omega)⟩, h, hn⟩
    · by_cases hxy : x < y
      · have h2 := aset_ok (aset_ok h ht (lo := (trng iv t).1) (hi := (trng iv u).2 - 1) (by omega) (by omega)) hu (lo := (trng iv t).1 + 1) (hi := (trng iv u).2) (by omega) (by omega)
        exact ⟨_, akeep_ok List.mem_cons_self (acons_ok h2), ⟨fun _ => hxy, fun _ => rfl⟩, h2, hn⟩
      · have h2 := aset_ok (aset_ok h ht (lo := (trng iv u).1) (hi := (trng iv t).2) (by omega) (by omega)) hu (lo := (trng iv u).1) (hi := (trng iv t).2) (by omega) (by omega)
        exact ⟨_, akeep_ok (List.mem_cons_of_mem _ List.mem_cons_self) (acons_ok h2), ⟨fun z => (by cases z), fun z => absurd z hxy⟩, h2, hn⟩
theorem anot_ok {ρ : List Int} {l : List (Bool × aI × aN)} {P : Prop} (h : aOut ρ l P) : aOut ρ (anot l) (¬ P) := by
  obtain ⟨o, ho, h1, h2⟩ := h
  have key : ∀ l : List (Bool × aI × aN), o ∈ l → (!o.1, o.2) ∈ anot l := by
    intro l
    induction l with
    | nil => exact fun z => (by cases z)
    | cons q r ih =>
      intro z
      rcases List.mem_cons.mp z with rfl | z
      · exact List.mem_cons_self
      · exact List.mem_cons_of_mem _ (ih z)
  refine ⟨_, key l ho, ?_, h2⟩
  rw [← h1]
  cases o.1 <;> simp
def relc (c : Nat) (x y : Int) : Prop := match c with
  | 0 => x = y
  | 1 => ¬ x = y
  | 2 => x < y
  | 3 => y ≤ x
  | 4 => y < x
  | _ => x ≤ y
theorem aOut.iff {ρ : List Int} {l : List (Bool × aI × aN)} {P Q : Prop} (h : aOut ρ l P) (hq : P ↔ Q) : aOut ρ l Q := by
  obtain ⟨o, ho, h1, h2⟩ := h
  exact ⟨o, ho, h1.trans hq, h2⟩
theorem acmp_ok {ρ : List Int} {iv : aI} {ne : aN} (h : aIok ρ iv) (hn : aNok ρ ne) {t u : aT} {x y : Int} (ht : tv ρ t x) (hu : tv ρ u y) (c : Nat) : aOut ρ (acmp c iv ne t u) (relc c x y) := by
  match c with
  | 0 => exact aeq_ok h hn ht hu
  | 1 => exact anot_ok (aeq_ok h hn ht hu)
  | 2 => exact alt_ok h hn ht hu
  | 3 => exact (anot_ok (alt_ok h hn ht hu)).iff (by simp only [relc]; omega)
  | 4 => exact alt_ok h hn hu ht
  | n + 5 => exact (anot_ok (alt_ok h hn hu ht)).iff (by simp only [relc]; omega)
theorem ycp_rel (c : Nat) (x y : Int) : ycp c x y ↔ relc c (w32 x) (w32 y) := by
  match c with
  | 0 | 1 | 2 | 3 | 4 => exact Iff.rfl
  | n + 5 => exact Iff.rfl
theorem aall_ok {l : List (Bool × aI × aN)} {f : Bool → aI → aN → Bool} (h : aall l f = true) {o : Bool × aI × aN} (ho : o ∈ l) : f o.1 o.2.1 o.2.2 = true := by
  induction l with
  | nil => cases ho
  | cons q r ih =>
    simp only [aall, Bool.and_eq_true] at h
    rcases List.mem_cons.mp ho with rfl | ho
    · exact h.1
    · exact ih h.2 ho
/-- a new symbol -/
theorem aI_new {ρ : List Int} {iv : aI} (h : aIok ρ iv) {x : Int} {q : Int × Int} (h1 : q.1 ≤ x) (h2 : x ≤ q.2) : aIok (ρ ++ [x]) (iv ++ [q]) ∧ (ρ ++ [x])[iv.length]? = some x := by
  have hx : (ρ ++ [x])[iv.length]? = some x := by
    rw [← h.1, List.getElem?_append_right (Nat.le_refl _)]
    simp
  refine ⟨⟨by simp [h.1], fun k r hk => ?_⟩, hx⟩
  by_cases e : k < iv.length
  · rw [List.getElem?_append_left e] at hk
    obtain ⟨z, g1, g2, g3⟩ := h.2 k r hk
    exact ⟨z, agrow g1, g2, g3⟩
  · have : k < (iv ++ [q]).length := (List.getElem?_eq_some_iff.mp hk).1
    have e2 : k = iv.length := by
      simp at this
      omega
    subst e2
    rw [List.getElem?_append_right (Nat.le_refl _)] at hk
    simp at hk
    subst hk
    exact ⟨x, hx, h1, h2⟩
theorem aM_grow {ρ σ : List Int} {mp : aMp} {mem : yMem} (h : aMok ρ mp mem) : aMok (ρ ++ σ) mp mem := fun q hq => aok_grow (h q hq)
theorem aN_grow {ρ σ : List Int} {ne : aN} (h : aNok ρ ne) : aNok (ρ ++ σ) ne := fun q hq => by
  obtain ⟨x, h1, h2⟩ := h q hq
  exact ⟨x, agrow h1, h2⟩
theorem aS_new {ρ : List Int} {S : aSt} {mem : yMem} (h : aSat ρ S mem) {x : Int} {q : Int × Int} (h1 : q.1 ≤ x) (h2 : x ≤ q.2) : aSat (ρ ++ [x]) (anew S q) mem ∧ (ρ ++ [x])[S.2.1.length]? = some x := by
  obtain ⟨g1, g2, g3, g4⟩ := h
  obtain ⟨k1, k2⟩ := aI_new g3 h1 h2
  exact ⟨⟨g1, aM_grow g2, k1, aN_grow g4⟩, k2⟩
/-! locals and stack -/
theorem acat_ok {ρ : List Int} {v : aV} {y : yV} (h : aok ρ v y) : acat v = ycat y := by
  obtain ⟨g, k, c⟩ := v
  obtain ⟨y1, y2⟩ := y
  match g, h with
  | 0, h => have e : y1 = 0 := h.1; subst e; rfl
  | 3, h => have e : y1 = 0 := h.1; subst e; rfl
  | 9, h => have e : y1 = 0 := h.1; subst e; rfl
  | 1, h => have e : ((y1, y2) : yV) = (1, (k : Int)) := h; cases e; rfl
  | 4, h => have e : y1 = 4 := h.1; subst e; rfl
  | 8, h => have e : y1 = 4 := h.1; subst e; rfl
  | 2, h | 5, h | 6, h | 7, h => exact h.elim
  | n + 10, h => exact h.elim
def aLm (ρ : List Int) : aL → yL → Prop
  | [], [] => True
  | q :: r, p :: s => q.1 = p.1 ∧ aok ρ q.2 p.2 ∧ aLm ρ r s
  | _, _ => False
def aSm (ρ : List Int) : List aV → List yV → Prop
  | [], [] => True
  | v :: r, y :: s => aok ρ v y ∧ aSm ρ r s
  | _, _ => False
theorem aLm_grow {ρ σ : List Int} : ∀ {lv : aL} {l : yL}, aLm ρ lv l → aLm (ρ ++ σ) lv l
  | [], [], _ => trivial
  | _ :: _, _ :: _, h => ⟨h.1, aok_grow h.2.1, aLm_grow h.2.2⟩
  | [], _ :: _, h => h.elim
  | _ :: _, [], h => h.elim
theorem aSm_grow {ρ σ : List Int} : ∀ {st : List aV} {l : List yV}, aSm ρ st l → aSm (ρ ++ σ) st l
  | [], [], _ => trivial
  | _ :: _, _ :: _, h => ⟨aok_grow h.1, aSm_grow h.2⟩
  | [], _ :: _, h => h.elim
  | _ :: _, [], h => h.elim
theorem alk_ok {ρ : List Int} {i : Nat} {v : aV} : ∀ {lv : aL} {l : yL}, aLm ρ lv l → alk lv i = some v → ∃ y, ylk l i = some y ∧ aok ρ v y
  | [], [], _, h => by cases h
  | q :: r, p :: s, hm, h => by
    simp only [alk] at h
    split at h
    · next he =>
      cases h
      refine ⟨p.2, ?_, hm.2.1⟩
      simp only [ylk]
      rw [← hm.1, if_pos he]
    · next he =>
      obtain ⟨y, h1, h2⟩ := alk_ok hm.2.2 h
      refine ⟨y, ?_, h2⟩
      simp only [ylk]
      rw [← hm.1, if_neg he]
      exact h1
  | [], _ :: _, hm, _ => hm.elim
  | _ :: _, [], hm, _ => hm.elim
theorem aflt_ok {ρ : List Int} {k i : Nat} : ∀ {lv : aL} {l : yL}, aLm ρ lv l → aLm ρ (aflt k i lv) (l.filter (yflb k i))
  | [], [], _ => trivial
  | q :: r, p :: s, hm => by
    have e : aflb k i q = yflb k i p := by
      match k with
      | 0 | 1 => simp only [aflb, yflb, hm.1, acat_ok hm.2.1]
      | 2 => simp only [aflb, yflb, hm.1, acat_ok hm.2.1]
      | n + 3 => simp only [aflb, yflb, hm.1, acat_ok hm.2.1]
    simp only [aflt, List.filter_cons]
    rw [e]
    split
    · exact ⟨hm.1, hm.2.1, aflt_ok hm.2.2⟩
    · exact aflt_ok hm.2.2
  | [], _ :: _, hm => hm.elim
  | _ :: _, [], hm => hm.elim
theorem aSm_len {ρ : List Int} : ∀ {st : List aV} {l : List yV}, aSm ρ st l → st.length = l.length
  | [], [], _ => rfl
  | _ :: _, _ :: _, h => by simp [aSm_len h.2]
  | [], _ :: _, h => h.elim
  | _ :: _, [], h => h.elim
theorem aSm_drop {ρ : List Int} : ∀ (n : Nat) {st : List aV} {l : List yV}, aSm ρ st l → aSm ρ (st.drop n) (l.drop n)
  | 0, _, _, h => h
  | n + 1, [], [], _ => trivial
  | n + 1, _ :: _, _ :: _, h => aSm_drop n h.2
  | _ + 1, [], _ :: _, h => h.elim
  | _ + 1, _ :: _, [], h => h.elim
theorem aSm_take {ρ : List Int} : ∀ (n : Nat) {st : List aV} {l : List yV}, aSm ρ st l → aSm ρ (st.take n) (l.take n)
  | 0, _, _, _ => trivial
  | n + 1, [], [], _ => trivial
  | n + 1, _ :: _, _ :: _, h => ⟨h.1, aSm_take n h.2⟩
  | _ + 1, [], _ :: _, h => h.elim
  | _ + 1, _ :: _, [], h => h.elim
theorem aSm_app {ρ : List Int} {b : List aV} {d : List yV} (hb : aSm ρ b d) : ∀ {a : List aV} {c : List yV}, aSm ρ a c → aSm ρ (a ++ b) (c ++ d)
  | [], [], _ => hb
  | _ :: _, _ :: _, h => ⟨h.1, aSm_app hb h.2⟩
  | [], _ :: _, h => h.elim
  | _ :: _, [], h => h.elim
theorem aSm_rev {ρ : List Int} : ∀ {a : List aV} {c : List yV}, aSm ρ a c → aSm ρ a.reverse c.reverse
  | [], [], _ => trivial
  | v :: r, y :: s, h => by
    rw [List.reverse_cons, List.reverse_cons]
    exact aSm_app (b := [v]) (d := [y]) ⟨h.1, trivial⟩ (aSm_rev h.2)
  | [], _ :: _, h => h.elim
  | _ :: _, [], h => h.elim
theorem asum_ok {ρ : List Int} : ∀ {a : List aV} {c : List yV}, aSm ρ a c → asum a = ysum c
  | [], [], _ => rfl
  | _ :: _, _ :: _, h => by simp only [asum, ysum, acat_ok h.1, asum_ok h.2]
  | [], _ :: _, h => h.elim
  | _ :: _, [], h => h.elim
theorem aargl_ok {ρ : List Int} : ∀ (i : Nat) {a : List aV} {c : List yV}, aSm ρ a c → aLm ρ (aargl i a) (yargs i c)
  | _, [], [], _ => trivial
  | i, _ :: _, _ :: _, h => by
    refine ⟨rfl, h.1, ?_⟩
    rw [acat_ok h.1]
    exact aargl_ok _ h.2
  | _, [], _ :: _, h => h.elim
  | _, _ :: _, [], h => h.elim
