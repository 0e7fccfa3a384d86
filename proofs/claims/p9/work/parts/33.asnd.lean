/-! contracts -/
def aArgOk (a : aArg) (y : yV) : Prop := match a.1 with
  | 0 => y.1 = 0 ∧ w32 y.2 = a.2.2.1
  | 3 => y.1 = 0 ∧ a.2.2.1 ≤ w32 y.2 ∧ w32 y.2 ≤ a.2.2.2
  | 1 => y = (1, (a.2.1 : Int))
  | 8 => y.1 = 4
  | _ => False
def aArgsOk : List aArg → List yV → Prop
  | [], [] => True
  | a :: r, y :: s => aArgOk a y ∧ aArgsOk r s
  | _, _ => False
def aFok (f : aFct) (mem : yMem) : Prop := ∀ q ∈ f, q.2.1 ≤ w32 (mem q.1.1 q.1.2) ∧ w32 (mem q.1.1 q.1.2) ≤ q.2.2
def aFrm (w : List (Nat × Nat)) (mem mem' : yMem) : Prop := ∀ i j, amod w i j = false → mem' i j = mem i j
def aRetOk (a : aArg) (r : Option yV) : Prop := match r with
  | none => a.1 = 99
  | some y => aArgOk a y
def aEnd (Om : yMem → Prop) (c : aCon) (mem0 : yMem) (r : Option yV) (mem' : yMem) : Prop := aRetOk (acR c) r ∧ aGok mem' ∧ Om mem' ∧ aFrm (acW c) mem0 mem' ∧ aFok (acQ c) mem'
/-- THE CONTRACT holds -/
def aSnd (Om : yMem → Prop) (c : aCon) : Prop := ∀ (E : yE), yEok E → ∀ D : Nat, acD c ≤ D → ∀ M : xM, xmt[acM c]? = some M → ∀ (args : List yV) (mem : yMem) (Q : Option yV → yMem → Prop), aArgsOk (acA c) args → aGok mem → Om mem → aFok (acP c) mem → (∀ r mem', aEnd Om c mem r mem' → Q r mem') → yCon E D M args mem Q
def adis (oc : List Nat) (w : List (Nat × Nat)) : Bool := w.all (fun q => !(oc.any (fun i => Nat.beq q.1 i)))
def aOmF (oc : List Nat) (Om : yMem → Prop) : Prop := ∀ mem mem' : yMem, (∀ i j, i ∈ oc → mem' i j = mem i j) → Om mem → Om mem'
theorem amod_dis {oc : List Nat} {i j : Nat} (hi : i ∈ oc) : ∀ {w : List (Nat × Nat)}, adis oc w = true → amod w i j = false
  | [], _ => rfl
  | q :: r, h => by
    simp only [adis, List.all_cons, Bool.and_eq_true, Bool.not_eq_true'] at h
    simp only [amod, Bool.or_eq_false_iff, Bool.and_eq_false_iff]
    refine ⟨Or.inl ?_, amod_dis hi h.2⟩
    have h1 := h.1
    rw [List.any_eq_false] at h1
    have := h1 i hi
    cases hh : Nat.beq q.1 i with
    | false => rfl
    | true => rw [hh] at this; exact absurd rfl this
theorem aFrm_Om {oc : List Nat} {Om : yMem → Prop} (hO : aOmF oc Om) {w : List (Nat × Nat)} (hd : adis oc w = true) {mem mem' : yMem} (hf : aFrm w mem mem') (h : Om mem) : Om mem' := hO mem mem' (fun i j hi => hf i j (amod_dis hi hd)) h
theorem aFrm_refl {w : List (Nat × Nat)} {mem : yMem} : aFrm w mem mem := fun _ _ _ => rfl
theorem amodA_mod {w : List (Nat × Nat)} {i : Nat} (j : Nat) (h : amodA w i = true) : amod w i j = true := by
  induction w with
  | nil => cases h
  | cons q r ih =>
    simp only [amodA, Bool.or_eq_true, Bool.and_eq_true] at h
    simp only [amod, Bool.or_eq_true, Bool.and_eq_true]
    rcases h with h | h
    · exact Or.inl ⟨h.1, Or.inl h.2⟩
    · exact Or.inr (ih h)
theorem amsub_ok {a b : List (Nat × Nat)} (h : amsub a b = true) {i j : Nat} (hm : amod a i j = true) : amod b i j = true := by
  induction a with
  | nil => cases hm
  | cons q r ih =>
    simp only [amsub, Bool.and_eq_true] at h
    simp only [amod, Bool.or_eq_true, Bool.and_eq_true, Nat.beq_eq] at hm
    rcases hm with ⟨e1, e2⟩ | hm
    · obtain ⟨q1, q2⟩ := q
      dsimp only at e1 e2 h
      subst e1
      cases q2 with
      | zero => exact amodA_mod j h.1
      | succ k =>
        rcases e2 with e2 | e2
        · omega
        · have : k = j := by omega
          subst this
          exact h.1
    · exact ih h.2 hm
theorem aFrm_sub {a b : List (Nat × Nat)} (h : amsub a b = true) {mem0 mem mem' : yMem} (h0 : aFrm b mem0 mem) (h1 : aFrm a mem mem') : aFrm b mem0 mem' := fun i j hm => by
  rw [h1 i j, h0 i j hm]
  cases hh : amod a i j with
  | false => rfl
  | true => rw [amsub_ok h hh] at hm; cases hm
theorem aok_int {ρ : List Int} {v : aV} {z : Int} (h : aok ρ v (0, z)) : akdb 0 v = true := by
  obtain ⟨g, k, c⟩ := v
  match g, h with
  | 0, _ => rfl
  | 3, _ => rfl
  | 9, _ => rfl
  | 1, h =>
    have h : ((0, z) : yV) = (1, (k : Int)) := h
    cases h
  | 4, h => have h : (0 : Nat) = 4 := h.1; cases h
  | 8, h => have h : (0 : Nat) = 4 := h.1; cases h
  | 2, h | 5, h | 6, h | 7, h => exact h.elim
  | n + 10, h => exact h.elim
theorem aslot_ok {ρ : List Int} {S : aSt} {mem : yMem} (hS : aSat ρ S mem) (i j : Nat) : (aslot S i j).1 ≤ w32 (mem i j) ∧ w32 (mem i j) ≤ (aslot S i j).2 := by
  unfold aslot
  split
  · next v hv =>
    have := hS.2.1 _ (amlk_ok hv)
    exact arng_ok hS.2.2.1 (aok_int this) this
  · exact hS.1 i j
theorem afcts_ok {ρ : List Int} {S : aSt} {mem : yMem} (hS : aSat ρ S mem) : ∀ {f : aFct}, afcts S f = true → aFok f mem
  | [], _ => fun q hq => by cases hq
  | f :: r, h => by
    simp only [afcts, Bool.and_eq_true, ain_ok] at h
    intro q hq
    rcases List.mem_cons.mp hq with rfl | hq
    · have := aslot_ok hS q.1.1 q.1.2
      omega
    · exact afcts_ok hS h.2 q hq
theorem aargI_ok {ρ : List Int} {iv : aI} (hI : aIok ρ iv) {v : aV} {a : aArg} {y : yV} (h : aargI iv v a = true) (hv : aok ρ v y) : aArgOk a y := by
  obtain ⟨g, i, lo, hi⟩ := a
  match g, h with
  | 0, h =>
    simp only [aargI] at h
    split at h
    · next t ht =>
      simp only [Bool.and_eq_true, zle_ok] at h
      obtain ⟨h1, h2⟩ := aterm_ok ht hv
      have := trng_ok hI h2
      exact ⟨h1, by dsimp only at h ⊢; omega⟩
    · cases h
  | 3, h =>
    simp only [aargI] at h
    split at h
    · next t ht =>
      simp only [Bool.and_eq_true, zle_ok] at h
      obtain ⟨h1, h2⟩ := aterm_ok ht hv
      have := trng_ok hI h2
      exact ⟨h1, by dsimp only at h ⊢; omega⟩
    · simp only [Bool.and_eq_true, zle_ok, Nat.beq_eq] at h
      obtain ⟨g, k, c⟩ := v
      obtain ⟨h0, h1, h2⟩ := h
      dsimp only at h0 h1 h2
      subst h0
      obtain ⟨e1, x, -, e2⟩ := hv
      refine ⟨e1, ?_⟩
      rw [e2]
      dsimp only
      split
      · omega
      · split <;> omega
  | 1, h =>
    simp only [aargI, Bool.and_eq_true, Nat.beq_eq] at h
    obtain ⟨g, k, c⟩ := v
    obtain ⟨h0, h1⟩ := h
    dsimp only at h0 h1
    subst h0
    subst h1
    exact hv
  | 8, h =>
    simp only [aargI, Bool.or_eq_true] at h
    exact along (by simp only [akdb, Bool.or_eq_true]; exact h) hv
  | 2, h | 4, h | 5, h | 6, h | 7, h => cases h
  | n + 9, h => cases h
theorem aargs_ok {ρ : List Int} {iv : aI} (hI : aIok ρ iv) : ∀ {vs : List aV} {as : List aArg} {ys : List yV}, aargs iv vs as = true → aSm ρ vs ys → aArgsOk as ys
  | [], [], [], _, _ => trivial
  | v :: r, a :: s, y :: t, h, hm => by
    simp only [aargs, Bool.and_eq_true] at h
    exact ⟨aargI_ok hI h.1 hm.1, aargs_ok hI h.2 hm.2⟩
  | [], [], _ :: _, _, hm => hm.elim
  | _ :: _, [], _, h, _ => by cases h
  | [], _ :: _, _, h, _ => by cases h
  | _ :: _, _ :: _, [], _, hm => hm.elim
theorem afbeg_ok {mem : yMem} : ∀ {f : aFct} {mp : aMp} {iv : aI} {ρ : List Int}, aFok f mem → aMok ρ mp mem → aIok ρ iv → ∃ σ, aMok (ρ ++ σ) (afbeg f mp iv).1 mem ∧ aIok (ρ ++ σ) (afbeg f mp iv).2
  | [], mp, iv, ρ, _, hM, hI => ⟨[], by rw [List.append_nil]; exact hM, by rw [List.append_nil]; exact hI⟩
  | f :: r, mp, iv, ρ, hF, hM, hI => by
    have hf := hF f List.mem_cons_self
    obtain ⟨k1, k2⟩ := aI_new hI hf.1 hf.2
    obtain ⟨σ, g1, g2⟩ := afbeg_ok (f := r) (mp := (f.1, (3, iv.length, 0)) :: mp) (iv := iv ++ [f.2]) (ρ := ρ ++ [w32 (mem f.1.1 f.1.2)]) (fun q hq => hF q (List.mem_cons_of_mem _ hq)) (fun q hq => by
      rcases List.mem_cons.mp hq with rfl | hq
      · exact ⟨rfl, _, k2, by show w32 (mem f.1.1 f.1.2) = w32 (mem f.1.1 f.1.2) + 0; omega⟩
      · exact aM_grow hM q hq) k1
    refine ⟨w32 (mem f.1.1 f.1.2) :: σ, ?_⟩
    rw [show ρ ++ w32 (mem f.1.1 f.1.2) :: σ = ρ ++ [w32 (mem f.1.1 f.1.2)] ++ σ by simp]
    exact ⟨g1, g2⟩
def aAnn : List (Nat × aArg) → yL → Prop
  | [], [] => True
  | a :: r, p :: s => a.1 = p.1 ∧ aArgOk a.2 p.2 ∧ aAnn r s
  | _, _ => False
theorem albeg_ok : ∀ {as : List (Nat × aArg)} {l : yL} {iv : aI} {ρ : List Int}, aAnn as l → aIok ρ iv → ∃ σ, aLm (ρ ++ σ) (albeg as iv).1 l ∧ aIok (ρ ++ σ) (albeg as iv).2
  | [], [], iv, ρ, _, hI => ⟨[], trivial, by rw [List.append_nil]; exact hI⟩
  | a :: r, p :: s, iv, ρ, hA, hI => by
    obtain ⟨i, g, c, lo, hi⟩ := a
    obtain ⟨e1, e2, e3⟩ := hA
    match g, e2 with
    | 0, e2 =>
      obtain ⟨σ, h1, h2⟩ := albeg_ok e3 hI
      exact ⟨σ, ⟨e1, e2, h1⟩, h2⟩
    | 1, e2 =>
      obtain ⟨σ, h1, h2⟩ := albeg_ok e3 hI
      exact ⟨σ, ⟨e1, e2, h1⟩, h2⟩
    | 3, e2 =>
      obtain ⟨e4, e5⟩ := e2
      obtain ⟨k1, k2⟩ := aI_new hI (q := (lo, hi)) e5.1 e5.2
      obtain ⟨σ, h1, h2⟩ := albeg_ok e3 k1
      refine ⟨w32 p.2.2 :: σ, ?_⟩
      rw [show ρ ++ w32 p.2.2 :: σ = ρ ++ [w32 p.2.2] ++ σ by simp]
      exact ⟨⟨e1, ⟨e4, _, agrow k2, by show w32 p.2.2 = w32 p.2.2 + 0; omega⟩, h1⟩, h2⟩
    | 8, e2 =>
      have b1 := w64_lo p.2.2
      have b2 := w64_hi p.2.2
      obtain ⟨k1, k2⟩ := aI_new hI (q := a64) (x := w64 p.2.2) b1 (by show _ ≤ (9223372036854775807 : Int); omega)
      obtain ⟨σ, h1, h2⟩ := albeg_ok e3 k1
      refine ⟨w64 p.2.2 :: σ, ?_⟩
      rw [show ρ ++ w64 p.2.2 :: σ = ρ ++ [w64 p.2.2] ++ σ by simp]
      exact ⟨⟨e1, ⟨e2, agrow k2⟩, h1⟩, h2⟩
    | 2, e2 | 4, e2 | 5, e2 | 6, e2 | 7, e2 => exact e2.elim
    | n + 9, e2 => exact e2.elim
  | [], _ :: _, _, _, h, _ => h.elim
  | _ :: _, [], _, _, h, _ => h.elim
theorem aidx_ok : ∀ {as : List aArg} {ys : List yV} (i : Nat), aArgsOk as ys → aAnn (aidx i as) (yargs i ys)
  | [], [], _, _ => trivial
  | a :: r, y :: s, i, h => by
    refine ⟨rfl, h.1, ?_⟩
    have e : (if Nat.beq a.1 8 then 2 else 1) = ycat y := by
      obtain ⟨g, c, lo, hi⟩ := a
      obtain ⟨y1, y2⟩ := y
      match g, h.1 with
      | 0, h => have e : y1 = 0 := h.1; subst e; rfl
      | 3, h => have e : y1 = 0 := h.1; subst e; rfl
      | 1, h => have e : ((y1, y2) : yV) = (1, (c : Int)) := h; cases e; rfl
      | 8, h => have e : y1 = 4 := h; subst e; rfl
      | 2, h | 4, h | 5, h | 6, h | 7, h => exact h.elim
      | n + 9, h => exact h.elim
    rw [e]
    exact aidx_ok _ h.2
  | [], _ :: _, _, h => h.elim
  | _ :: _, [], _, h => h.elim
/-! memory -/
theorem yset_at {mem : yMem} {i j : Nat} {z : Int} : yset mem i j z i j = z := by simp [yset]
theorem yset_ne {mem : yMem} {i j a b : Nat} {z : Int} (h : ¬ (a = i ∧ b = j)) : yset mem i j z a b = mem a b := by
  simp only [yset]
  by_cases h1 : a = i
  · by_cases h2 : b = j
    · exact absurd ⟨h1, h2⟩ h
    · rw [if_pos h1, if_neg h2]
  · rw [if_neg h1]
theorem adrop_ok {ρ : List Int} {w : List (Nat × Nat)} {mem mem' : yMem} (hf : aFrm w mem mem') : ∀ {mp : aMp}, aMok ρ mp mem → aMok ρ (adrop w mp) mem'
  | [], _ => fun q hq => by cases hq
  | p :: r, h => by
    have hr := adrop_ok hf (mp := r) (fun q hq => h q (List.mem_cons_of_mem _ hq))
    simp only [adrop]
    split
    · exact hr
    · next hc =>
      intro q hq
      rcases List.mem_cons.mp hq with rfl | hq
      · rw [hf _ _ (by simpa using hc)]
        exact h _ List.mem_cons_self
      · exact hr q hq
theorem adrop1_ok {ρ : List Int} {i j : Nat} {mem mem' : yMem} (hf : ∀ a b, ¬ (a = i ∧ b = j) → mem' a b = mem a b) : ∀ {mp : aMp}, aMok ρ mp mem → aMok ρ (adrop1 i j mp) mem'
  | [], _ => fun q hq => by cases hq
  | p :: r, h => by
    have hr := adrop1_ok hf (mp := r) (fun q hq => h q (List.mem_cons_of_mem _ hq))
    simp only [adrop1]
    split
    · exact hr
    · next hc =>
      intro q hq
      rcases List.mem_cons.mp hq with rfl | hq
      · rw [hf _ _ (fun z => hc (by simp only [Bool.and_eq_true, Nat.beq_eq]; exact z))]
        exact h _ List.mem_cons_self
      · exact hr q hq
theorem adropA_ok {ρ : List Int} {i : Nat} {mem mem' : yMem} (hf : ∀ a b, ¬ a = i → mem' a b = mem a b) : ∀ {mp : aMp}, aMok ρ mp mem → aMok ρ (adropA i mp) mem'
  | [], _ => fun q hq => by cases hq
  | p :: r, h => by
    have hr := adropA_ok hf (mp := r) (fun q hq => h q (List.mem_cons_of_mem _ hq))
    simp only [adropA]
    split
    · exact hr
    · next hc =>
      intro q hq
      rcases List.mem_cons.mp hq with rfl | hq
      · rw [hf _ _ (fun z => hc (by rw [Nat.beq_eq]; exact z))]
        exact h _ List.mem_cons_self
      · exact hr q hq
theorem agam_def {i j : Nat} (h : (aent i).2 = []) : agam i j = (aent i).1 := by
  unfold agam
  rw [h]
  rfl
theorem adefl_ok {mem : yMem} (h : aGok mem) (i j : Nat) : (adefl i).1 ≤ w32 (mem i j) ∧ w32 (mem i j) ≤ (adefl i).2 := by
  unfold adefl
  split
  · next e =>
    rw [← agam_def (j := j) e]
    exact h i j
  · have h1 := w32_lo (mem i j)
    have h2 := w32_hi (mem i j)
    exact ⟨h1, by show _ ≤ (2147483647 : Int); omega⟩
theorem awrS_ok {ρ : List Int} {S : aSt} {c : aCon} {mem0 mem : yMem} {i j : Nat} {v : aV} {z : Int} {k : aSt → Bool} (h : awrS c S i j v k = true) (hS : aSat ρ S mem) (hF : aFrm (acW c) mem0 mem) (hv : aok ρ v (0, z)) : ∃ S', k S' = true ∧ aSat ρ S' (yset mem i j z) ∧ aFrm (acW c) mem0 (yset mem i j z) := by
  unfold awrS at h
  simp only [Bool.and_eq_true, ain_ok] at h
  obtain ⟨h1, h2, h3⟩ := h
  have hb := arng_ok hS.2.2.1 (aok_int hv) hv
  dsimp only at hb
  refine ⟨_, h3, ⟨fun a b => ?_, fun q hq => ?_, hS.2.2⟩, fun a b hm => ?_⟩
  · by_cases e : a = i ∧ b = j
    · obtain ⟨rfl, rfl⟩ := e
      rw [yset_at]
      omega
    · rw [yset_ne e]
      exact hS.1 a b
  · rcases List.mem_cons.mp hq with rfl | hq
    · dsimp only
      rw [yset_at]
      exact hv
    · exact adrop1_ok (fun a b e => yset_ne e) hS.2.1 q hq
  · by_cases e : a = i ∧ b = j
    · obtain ⟨rfl, rfl⟩ := e
      rw [h2] at hm
      cases hm
    · rw [yset_ne e]
      exact hF a b hm
/-- a write into a cell all of whose slots are of one interval -/
theorem acell_ok {ρ : List Int} {S : aSt} {c : aCon} {mem0 mem mem' : yMem} {i : Nat} (hS : aSat ρ S mem) (hF : aFrm (acW c) mem0 mem) (h0 : (aent i).2 = []) (hw : amodA (acW c) i = true) (hf : ∀ a b, ¬ a = i → mem' a b = mem a b) (hb : ∀ b, (aent i).1.1 ≤ w32 (mem' i b) ∧ w32 (mem' i b) ≤ (aent i).1.2) : aSat ρ (adropA i S.1, S.2.1, S.2.2) mem' ∧ aFrm (acW c) mem0 mem' := by
  refine ⟨⟨fun a b => ?_, adropA_ok hf hS.2.1, hS.2.2⟩, fun a b hm => ?_⟩
  · by_cases e : a = i
    · subst e
      rw [agam_def h0]
      exact hb b
    · rw [hf a b e]
      exact hS.1 a b
  · by_cases e : a = i
    · subst e
      rw [amodA_mod b hw] at hm
      cases hm
    · rw [hf a b e]
      exact hF a b hm
theorem awrA_ok {ρ : List Int} {S : aSt} {c : aCon} {mem0 mem : yMem} {i j : Nat} {v : aV} {z : Int} {k : aSt → Bool} (h : awrA c S i v k = true) (hS : aSat ρ S mem) (hF : aFrm (acW c) mem0 mem) (hv : aok ρ v (0, z)) : ∃ S', k S' = true ∧ aSat ρ S' (yset mem i j z) ∧ aFrm (acW c) mem0 (yset mem i j z) := by
  unfold awrA at h
  simp only [Bool.and_eq_true, ain_ok] at h
  obtain ⟨h0, h1, h2, h3⟩ := h
  have e0 : (aent i).2 = [] := by
    cases hh : (aent i).2 with
    | nil => rfl
    | cons a b => rw [hh] at h0; cases h0
  have hb := arng_ok hS.2.2.1 (aok_int hv) hv
  dsimp only at hb
  have := acell_ok (mem' := yset mem i j z) hS hF e0 h2 (fun a b e => yset_ne (fun q => e q.1)) (fun b => by
    by_cases e : b = j
    · subst e
      rw [yset_at]
      omega
    · rw [yset_ne (fun q => e q.2), ← agam_def (j := b) e0]
      exact hS.1 i b)
  exact ⟨_, h3, this.1, this.2⟩
