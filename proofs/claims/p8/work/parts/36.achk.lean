/-! ranks -/
def aexv (e : aExp) (l : yL) (mem : yMem) : Int := match e.1 with
  | 0 => e.2.2.2.2
  | 1 => (match ylk l e.2.1 with
    | some y => e.2.2.2.2 + e.2.2.2.1 * w32 y.2
    | none => e.2.2.2.2)
  | _ => e.2.2.2.2 + e.2.2.2.1 * w32 (mem e.2.1 e.2.2.1)
section AR
variable {ρ : List Int} {iv : aI} {lv : aL} {l : yL} {S : aSt} {mem : yMem}
theorem arr_ok (hl : aLm ρ lv l) (hS : aSat ρ S mem) {e : aExp} (h : aexok lv S e = true) : aRv ρ (arr lv S e) (aexv e l mem) := by
  obtain ⟨k, i, j, s, c⟩ := e
  unfold aRv arr
  match k, h with
  | 0, h => exact ⟨0, rfl, by show c = c + 0 * 0; omega⟩
  | 1, h =>
    simp only [aexok] at h
    cases hv : alk lv i with
    | none => rw [hv] at h; cases h
    | some v =>
      rw [hv] at h
      simp only [atm] at h
      cases ht : aterm v with
      | none => rw [ht] at h; cases h
      | some t =>
        obtain ⟨y, h1, h2⟩ := alk_ok hl hv
        obtain ⟨-, h4⟩ := aterm_ok ht h2
        simp only [aval, hv, ht, aexv, h1]
        exact ⟨w32 y.2, h4, rfl⟩
  | n + 2, h =>
    simp only [aexok] at h
    cases hv : amlk S.1 i j with
    | none => rw [hv] at h; cases h
    | some v =>
      rw [hv] at h
      simp only [atm] at h
      cases ht : aterm v with
      | none => rw [ht] at h; cases h
      | some t =>
        have h2 := hS.2.1 _ (amlk_ok hv)
        obtain ⟨-, h4⟩ := aterm_ok ht h2
        simp only [aval, hv, ht, aexv]
        exact ⟨w32 (mem i j), h4, rfl⟩
theorem rb_ok (hI : aIok ρ iv) {r : aRk} {v : Int} (h : aRv ρ r v) : rlo iv r ≤ v ∧ v ≤ rhi iv r := by
  obtain ⟨x, h1, h2⟩ := h
  have hb := trng_ok hI h1
  unfold rlo rhi
  by_cases hs : 0 ≤ r.1
  · rw [if_pos (zle_ok.mpr hs), if_pos (zle_ok.mpr hs), h2]
    have m1 := Int.mul_le_mul_of_nonneg_left hb.1 hs
    have m2 := Int.mul_le_mul_of_nonneg_left hb.2 hs
    omega
  · rw [if_neg (fun z => hs (zle_ok.mp z)), if_neg (fun z => hs (zle_ok.mp z)), h2]
    have m1 := Int.mul_le_mul_of_nonneg_left hb.1 (show 0 ≤ -r.1 by omega)
    have m2 := Int.mul_le_mul_of_nonneg_left hb.2 (show 0 ≤ -r.1 by omega)
    rw [Int.neg_mul, Int.neg_mul] at m1 m2
    omega
theorem rsame_ok {r q : aRk} {v w : Int} (h : rsame r q = true) (hr : aRv ρ r v) (hq : aRv ρ q w) : v - w = (r.2.2 + r.1 * r.2.1.2) - (q.2.2 + q.1 * q.2.1.2) := by
  obtain ⟨s, ⟨k, a⟩, c⟩ := r
  obtain ⟨s', ⟨k', a'⟩, c'⟩ := q
  obtain ⟨x, h1, h2⟩ := hr
  obtain ⟨y, h3, h4⟩ := hq
  simp only [rsame, Bool.and_eq_true, zeq_ok] at h
  obtain ⟨e1, e2⟩ := h
  subst e1
  dsimp only at h2 h4 ⊢
  cases k with
  | none =>
    cases k' with
    | none =>
      have h1 : x = a := h1
      have h3 : y = a' := h3
      rw [h2, h4, h1, h3]
    | some _ => cases e2
  | some k =>
    cases k' with
    | none => cases e2
    | some k' =>
      have e2 : k = k' := Nat.eq_of_beq_eq_true e2
      subst e2
      obtain ⟨z, g1, g2⟩ := h1
      obtain ⟨z', g3, g4⟩ := h3
      rw [g1] at g3
      cases g3
      dsimp only at g2 g4
      rw [h2, h4, g2, g4, Int.mul_add, Int.mul_add]
      omega
theorem rlt_ok (hI : aIok ρ iv) {r q : aRk} {v w : Int} (h : rlt iv r q = true) (hr : aRv ρ r v) (hq : aRv ρ q w) : v.toNat < w.toNat := by
  simp only [rlt, Bool.and_eq_true, Bool.or_eq_true, zle_ok, zlt_ok] at h
  have b1 := rb_ok hI hr
  have b2 := rb_ok hI hq
  obtain ⟨h1, h2⟩ := h
  rcases h2 with h2 | h2
  · have := rsame_ok h2.1 hr hq
    omega
  · omega
theorem rle_ok (hI : aIok ρ iv) {r q : aRk} {v w : Int} (h : rle iv r q = true) (hr : aRv ρ r v) (hq : aRv ρ q w) : v.toNat ≤ w.toNat := by
  simp only [rle, Bool.and_eq_true, Bool.or_eq_true, zle_ok] at h
  have b1 := rb_ok hI hr
  have b2 := rb_ok hI hq
  rcases h with h2 | h2
  · have := rsame_ok h2.1 hr hq
    omega
  · omega
def aLess (a : Nat × Nat × Nat) (b : Nat × Nat × Nat) : Prop := a.1 < b.1 ∨ (a.1 = b.1 ∧ (a.2.1 < b.2.1 ∨ (a.2.1 = b.2.1 ∧ a.2.2 < b.2.2)))
theorem arank_ok (hI : aIok ρ iv) {g g' : aRank} {v1 v2 w1 w2 : Int} (h : arank iv g' g = true) (h1 : aRv ρ g'.2.1 v1) (h2 : aRv ρ g'.2.2 v2) (h3 : aRv ρ g.2.1 w1) (h4 : aRv ρ g.2.2 w2) : aLess (g'.1, v1.toNat, v2.toNat) (g.1, w1.toNat, w2.toNat) := by
  simp only [arank, Bool.or_eq_true, Bool.and_eq_true, Nat.blt_eq, Nat.beq_eq] at h
  rcases h with h | ⟨h, hh⟩
  · exact Or.inl h
  · refine Or.inr ⟨h, ?_⟩
    rcases hh with hh | ⟨hh, hk⟩
    · exact Or.inl (rlt_ok hI hh h1 h3)
    · have a1 := rle_ok hI hh h1 h3
      have a2 := rlt_ok hI hk h2 h4
      dsimp only
      omega
theorem alocs_ok (hI : aIok ρ iv) (hl : aLm ρ lv l) : ∀ {as : List (Nat × aArg)}, alocs iv lv as = true → ∃ l' : yL, (∀ q ∈ l', q ∈ l) ∧ aAnn as l' ∧ ∀ q ∈ l', ylk l q.1 = some q.2
  | [], _ => ⟨[], fun q hq => (by cases hq), trivial, fun q hq => (by cases hq)⟩
  | a :: r, h => by
    simp only [alocs, Bool.and_eq_true] at h
    obtain ⟨l', k1, k2, k3⟩ := alocs_ok hI hl h.2
    have h1 := h.1
    split at h1
    · next v hv =>
      obtain ⟨y, g1, g2⟩ := alk_ok hl hv
      refine ⟨(a.1, y) :: l', fun q hq => ?_, ⟨rfl, aargI_ok hI h1 g2, k2⟩, fun q hq => ?_⟩
      · rcases List.mem_cons.mp hq with rfl | hq
        · exact ylk_mem g1
        · exact k1 q hq
      · rcases List.mem_cons.mp hq with rfl | hq
        · exact g1
        · exact k3 q hq
    · cases h1
end AR
theorem yG_sub {E : yE} {R : Room} {M : xM} {pc : Nat} {lv lv' : yL} {st : List yV} {mem : yMem} {ce sl : Nat} {Post : Option yV → yMem → Prop} (hs : ∀ q ∈ lv', q ∈ lv) (h : yG E R M pc lv' st mem ce sl Post) : yG E R M pc lv st mem ce sl Post := by
  intro p e s m args below meth c A Qc hC hQ H locs ls hl hP hS
  refine h p e s m args below meth c A Qc hC hQ H locs ls ⟨hl.1, hl.2.1, fun q hq => hl.2.2 q ?_⟩ hP hS
  obtain ⟨z, hz, rfl⟩ := List.mem_map.mp hq
  exact List.mem_map.mpr ⟨z, hs z hz, rfl⟩
section AC
variable {E : yE} {Om : yMem → Prop} {oc : List Nat} {T : List aCon} {c : aCon} {mem0 : yMem} {D : Nat} {M0 : xM} {g : aRank} {v1 v2 : Int}
/-- what is known at a cut -/
def aAt (c : aCon) (mem0 : yMem) (a : aCut) (l : yL) (mem : yMem) : Prop := aAnn a.1 l ∧ aFok a.2.1 mem ∧ aGok mem ∧ aFrm (acW c) mem0 mem
def aHyp (E : yE) (Om : yMem → Prop) (c : aCon) (mem0 : yMem) (D : Nat) (M0 : xM) (b : Nat × Nat × Nat) : Prop := ∀ (pc : Nat) (q : Nat × List aCut), acf (acC c) pc = some q → ∀ a ∈ q.2, ∀ (l : yL) (mem : yMem), aAt c mem0 a l mem → aLess (a.2.2.1, (aexv a.2.2.2.1 l mem).toNat, (aexv a.2.2.2.2 l mem).toNat) b → ∀ Q : Option yV → yMem → Prop, (∀ r mem', aEnd Om c mem0 r mem' → Q r mem') → yG E (yR D) M0 pc l [] mem 0 0 Q
theorem aexv_sub {e : aExp} {l l' : yL} {mem : yMem} {lv : aL} {S : aSt} {ρ : List Int} (h : e.1 = 1 → ylk l' e.2.1 = ylk l e.2.1) : aexv e l' mem = aexv e l mem := by
  obtain ⟨k, i, j, s, z⟩ := e
  match k, h with
  | 0, _ => rfl
  | 1, h =>
    simp only [aexv]
    rw [h rfl]
  | n + 2, _ => rfl
/-- the ranks' locals are among those that are told -/
def acov (a : aCut) : Bool := (!(Nat.beq a.2.2.2.1.1 1) || a.1.any (fun q => Nat.beq q.1 a.2.2.2.1.2.1)) && (!(Nat.beq a.2.2.2.2.1 1) || a.1.any (fun q => Nat.beq q.1 a.2.2.2.2.2.1))
theorem acov_lk {as : List (Nat × aArg)} {l l' : yL} (ha : aAnn as l') (hk : ∀ q ∈ l', ylk l q.1 = some q.2) {i : Nat} (hi : as.any (fun q => Nat.beq q.1 i) = true) : ylk l' i = ylk l i := by
  have key : ∀ (as : List (Nat × aArg)) (m : yL), aAnn as m → (∀ q ∈ m, ylk l q.1 = some q.2) → as.any (fun q => Nat.beq q.1 i) = true → ylk m i = ylk l i := by
    intro as
    induction as with
    | nil => intro m _ _ h; cases h
    | cons a r ih =>
      intro m hm hk h
      cases m with
      | nil => exact hm.elim
      | cons p s =>
        simp only [ylk]
        by_cases hp : Nat.beq p.1 i = true
        · rw [if_pos hp]
          have := hk p List.mem_cons_self
          rw [Nat.beq_eq] at hp
          rw [hp] at this
          exact this.symm
        · rw [if_neg hp]
          refine ih s hm.2.2 (fun q hq => hk q (List.mem_cons_of_mem _ hq)) ?_
          simp only [List.any_cons, Bool.or_eq_true] at h
          rcases h with h | h
          · rw [hm.1] at h
            exact absurd h hp
          · exact h
  exact key as l' ha hk hi
theorem acuts_ok {lv : aL} {S : aSt} {ρ : List Int} {mem : yMem} {l : yL} {Q : Option yV → yMem → Prop} {pc : Nat} {q : Nat × List aCut} (hq : acf (acC c) pc = some q) (hcov : ∀ a ∈ q.2, acov a = true) (hH : aHyp E Om c mem0 D M0 (g.1, v1.toNat, v2.toNat)) (h1 : aRv ρ g.2.1 v1) (h2 : aRv ρ g.2.2 v2) (hS : aSat ρ S mem) (hF : aFrm (acW c) mem0 mem) (hl : aLm ρ lv l) (hK : ∀ r mem', aEnd Om c mem0 r mem' → Q r mem') : ∀ {cs : List aCut}, (∀ a ∈ cs, a ∈ q.2) → acuts lv S g cs = true → yG E (yR D) M0 pc l [] mem 0 0 Q
  | [], _, h => by cases h
  | a :: r, hsub, h => by
    simp only [acuts, Bool.or_eq_true] at h
    rcases h with h | h
    · simp only [acut1, Bool.and_eq_true] at h
      obtain ⟨⟨⟨k1, k2⟩, k3⟩, k4, k5⟩ := h
      obtain ⟨l', g1, g2, g3⟩ := alocs_ok hS.2.2.1 hl k3
      refine yG_sub g1 (hH pc q hq a (hsub a List.mem_cons_self) l' mem ⟨g2, afcts_ok hS k4, hS.1, hF⟩ ?_ Q hK)
      have hc := hcov a (hsub a List.mem_cons_self)
      simp only [acov, Bool.and_eq_true, Bool.or_eq_true, Bool.not_eq_true'] at hc
      have e1 : aexv a.2.2.2.1 l' mem = aexv a.2.2.2.1 l mem := aexv_sub (lv := lv) (S := S) (ρ := ρ) (fun e => by
        rcases hc.1 with z | z
        · rw [e] at z; cases z
        · exact acov_lk g2 g3 z)
      have e2 : aexv a.2.2.2.2 l' mem = aexv a.2.2.2.2 l mem := aexv_sub (lv := lv) (S := S) (ρ := ρ) (fun e => by
        rcases hc.2 with z | z
        · rw [e] at z; cases z
        · exact acov_lk g2 g3 z)
      rw [e1, e2]
      exact arank_ok hS.2.2.1 k5 (arr_ok hl hS k1) (arr_ok hl hS k2) h1 h2
    · exact acuts_ok hq hcov hH h1 h2 hS hF hl hK (fun z hz => hsub z (List.mem_cons_of_mem _ hz)) h
theorem ai_ok (hE : yEok E) (hT : ∀ e ∈ T, aSnd Om e) (hO : aOmF oc Om) (hdis : adis oc (acW c) = true) (hOm0 : Om mem0) (hcD : acD c ≤ D) (hcov : ∀ pc q, acf (acC c) pc = some q → ∀ a ∈ q.2, acov a = true) (hH : aHyp E Om c mem0 D M0 (g.1, v1.toNat, v2.toNat)) : ∀ n : Nat, aRs E Om c mem0 D M0 g v1 v2 (ai T c g n) := by
  intro n
  induction n with
  | zero =>
    intro M pc lv st frs S h
    cases h
  | succ n ih =>
    intro M pc lv st frs S h hM hfl ρ mem d l s Q hX hDd hS hF hl hs hK
    rw [ai_succ] at h
    simp only [ago] at h
    split at h
    · next q hq =>
      split at h
      · have e := hX.1
        have e : M = M0 := e
        subst e
        rw [aSm_nil hs]
        simp only [List.length_nil, Nat.add_zero] at hDd
        rw [← hDd]
        obtain ⟨q1, q2⟩ := q
        unfold acutc at h
        dsimp only at h
        split at h
        · exact acuts_ok hq (hcov pc _ hq) hH hX.2.1 hX.2.2 hS hF hl hK (fun a ha => ha) h
        · split at h
          · next v hv =>
            split at h
            · next h3 =>
              obtain ⟨y, -, h2⟩ := alk_ok hl hv
              obtain ⟨g9, k, z⟩ := v
              have h3 : g9 = 3 := Nat.eq_of_beq_eq_true h3
              subst h3
              obtain ⟨-, x, f1, -⟩ := h2
              obtain ⟨S', f2, f3, f4, -, -⟩ := aspl_ok hS f1 h
              exact acuts_ok hq (hcov pc _ hq) hH hX.2.1 hX.2.2 f4 hF hl hK (fun a ha => ha) f3
            · exact acuts_ok hq (hcov pc _ hq) hH hX.2.1 hX.2.2 hS hF hl hK (fun a ha => ha) h
          · cases h
      · cases h
    · split at h
      · cases h
      · next op hop => exact astep_ok hX hE hT hO hdis hOm0 hcD ih hM hfl hDd hS hF hl hs hK (hM.2.2.2.2.2 _ (xfind_mem hop)) h
theorem lex3 {P : Nat × Nat × Nat → Prop} (h : ∀ b, (∀ a, aLess a b → P a) → P b) : ∀ b, P b := by
  have k : ∀ (n m k : Nat), P (n, m, k) := by
    intro n
    induction n using Nat.strongRecOn with
    | _ n ihn =>
      intro m
      induction m using Nat.strongRecOn with
      | _ m ihm =>
        intro k
        induction k using Nat.strongRecOn with
        | _ k ihk =>
          refine h _ (fun a ha => ?_)
          obtain ⟨a1, a2, a3⟩ := a
          rcases ha with ha | ⟨e, ha⟩
          · exact ihn a1 ha a2 a3
          · have e : a1 = n := e
            subst e
            rcases ha with ha | ⟨e, ha⟩
            · exact ihm a2 ha a3
            · have e : a2 = m := e
              subst e
              exact ihk a3 ha
  exact fun b => k b.1 b.2.1 b.2.2
theorem acf_mem {pc : Nat} {q : Nat × List aCut} : ∀ {cs : List (Nat × Nat × List aCut)}, acf cs pc = some q → (pc, q) ∈ cs
  | p :: r, h => by
    simp only [acf] at h
    split at h
    · next e =>
      cases h
      rw [Nat.beq_eq] at e
      subst e
      exact List.mem_cons_self
    · exact List.mem_cons_of_mem _ (acf_mem h)
theorem abeg_ok {a : aCut} {l : yL} {mem : yMem} (h : aAt c mem0 a l mem) : ∃ ρ, aLm ρ (abeg a).1 l ∧ aSat ρ (abeg a).2 mem := by
  obtain ⟨h1, h2, h3, h4⟩ := h
  obtain ⟨σ, g1, g2⟩ := albeg_ok (iv := []) (ρ := []) h1 ⟨rfl, fun k q hk => by simp at hk⟩
  rw [List.nil_append] at g1 g2
  obtain ⟨τ, g3, g4⟩ := afbeg_ok (mp := []) h2 (fun q hq => by cases hq) g2
  exact ⟨σ ++ τ, aLm_grow g1, h3, g3, g4, fun q hq => by cases hq⟩
theorem arun_ok (hE : yEok E) (hT : ∀ e ∈ T, aSnd Om e) (hO : aOmF oc Om) (hdis : adis oc (acW c) = true) (hOm0 : Om mem0) (h1D : 1 ≤ acD c) (hcD : acD c ≤ D) (hM0 : xMok xmt M0) (hcov : ∀ pc q, acf (acC c) pc = some q → ∀ a ∈ q.2, acov a = true) (hH : aHyp E Om c mem0 D M0 (g.1, v1.toNat, v2.toNat)) {n pc : Nat} {lv : aL} {S : aSt} {ρ : List Int} {l : yL} {mem : yMem} {Q : Option yV → yMem → Prop} (h1 : aRv ρ g.2.1 v1) (h2 : aRv ρ g.2.2 v2) (hl : aLm ρ lv l) (hS : aSat ρ S mem) (hF : aFrm (acW c) mem0 mem) (hK : ∀ r mem', aEnd Om c mem0 r mem' → Q r mem') (h : arun T c g n M0 pc lv S = true) : yG E (yR D) M0 pc l [] mem 0 0 Q := by
  unfold arun at h
  split at h
  · cases h
  · next op hop =>
    obtain ⟨d, rfl⟩ : ∃ d, D = d + 1 := ⟨D - 1, by omega⟩
    exact astep_ok (d := d) (frs := []) (st := []) (s := []) ⟨rfl, h1, h2⟩ hE hT hO hdis hOm0 hcD (ai_ok hE hT hO hdis hOm0 hcD hcov hH n) hM0 (by simp only [List.length_nil]; omega) (by simp) hS hF hl trivial hK (hM0.2.2.2.2.2 _ (xfind_mem hop)) h
theorem achkC_ok {n pc : Nat} {M : xM} : ∀ {cs : List aCut}, achkC T c n M pc cs = true → ∀ a ∈ cs, aexok (abeg a).1 (abeg a).2 a.2.2.2.1 = true ∧ aexok (abeg a).1 (abeg a).2 a.2.2.2.2 = true ∧ arun T c (a.2.2.1, arr (abeg a).1 (abeg a).2 a.2.2.2.1, arr (abeg a).1 (abeg a).2 a.2.2.2.2) n M pc (abeg a).1 (abeg a).2 = true
  | [], _, a, ha => by cases ha
  | p :: r, h, a, ha => by
    simp only [achkC, Bool.and_eq_true] at h
    rcases List.mem_cons.mp ha with rfl | ha
    · exact ⟨h.1.1.1, h.1.1.2, h.1.2⟩
    · exact achkC_ok h.2 a ha
theorem achkL_ok {n : Nat} {M : xM} : ∀ {cs : List (Nat × Nat × List aCut)}, achkL T c n M cs = true → ∀ q ∈ cs, achkC T c n M q.1 q.2.2 = true
  | [], _, q, hq => by cases hq
  | p :: r, h, q, hq => by
    simp only [achkL, Bool.and_eq_true] at h
    rcases List.mem_cons.mp hq with rfl | hq
    · exact h.1
    · exact achkL_ok h.2 q hq
end AC
def acovL (c : aCon) : Bool := (acC c).all (fun q => q.2.2.all acov)
def asumA : List aArg → Nat
  | [] => 0
  | a :: r => (if Nat.beq a.1 8 then 2 else 1) + asumA r
theorem asumA_ok : ∀ {as : List aArg} {ys : List yV}, aArgsOk as ys → asumA as = ysum ys
  | [], [], _ => rfl
  | a :: r, y :: s, h => by
    have e : (if Nat.beq a.1 8 then 2 else 1) = ycat y := by
      obtain ⟨g, c, lo, hi⟩ := a
      obtain ⟨y1, y2⟩ := y
      match g, h.1 with
      | 0, h => have e : y1 = 0 := h.1; subst e; rfl
      | 3, h => have e : y1 = 0 := h.1; subst e; rfl
      | 1, h => have e : ((y1, y2) : yV) = (1, (c : Int)) := h; cases e; rfl
      | 8, h => have e : y1 = 4 := h; subst e; rfl
      | 2, h | 4, h | 5, h | 6, h | 7, h => exact h.elim
      | n + 9, h => exact h.elim
    simp only [asumA, ysum, e, asumA_ok h.2]
  | [], _ :: _, h => h.elim
  | _ :: _, [], h => h.elim
/-- all that is asked of a contract besides its runs -/
def acok (oc : List Nat) (c : aCon) : Bool := adis oc (acW c) && (acovL c && (match xmt[acM c]? with
  | some M => Nat.ble (asumA (acA c)) (xMl M)
  | none => false))
/-- A CONTRACT BY A RUN -/
theorem aSnd_of {Om : yMem → Prop} {oc : List Nat} {T : List aCon} {c : aCon} (hO : aOmF oc Om) (hT : ∀ e ∈ T, aSnd Om e) (n : Nat) (hk : acok oc c = true) (h : achk T c n = true) : aSnd Om c := by
  intro E hE D hD M hM args mem Q hA hG hOm hP hQ
  simp only [acok, Bool.and_eq_true] at hk
  obtain ⟨hdis, hcv, hsz⟩ := hk
  unfold achk at h
  rw [hM] at h hsz
  simp only [Bool.and_eq_true, Nat.ble_eq] at h hsz
  obtain ⟨h1, h2, h3⟩ := h
  have hM0 := xmt_ok _ M hM
  have hcov : ∀ pc q, acf (acC c) pc = some q → ∀ a ∈ q.2, acov a = true := fun pc q hq a ha => List.all_eq_true.mp (List.all_eq_true.mp hcv _ (acf_mem hq)) a ha
  have hH : ∀ b, aHyp E Om c mem D M b := by
    intro b
    refine lex3 (P := fun b => aHyp E Om c mem D M b) ?_ b
    intro b ih pc q hq a ha l mem' hat hless Q' hQ'
    obtain ⟨ρ, g1, g2⟩ := abeg_ok hat
    obtain ⟨k1, k2, k3⟩ := achkC_ok (achkL_ok h3 _ (acf_mem hq)) a ha
    exact arun_ok (g := (a.2.2.1, arr (abeg a).1 (abeg a).2 a.2.2.2.1, arr (abeg a).1 (abeg a).2 a.2.2.2.2)) (v1 := aexv a.2.2.2.1 l mem') (v2 := aexv a.2.2.2.2 l mem') hE hT hO hdis hOm h1 hD hM0 hcov (ih _ hless) (arr_ok g1 g2 k1) (arr_ok g1 g2 k2) g1 g2 hat.2.2.2 hQ' k3
  refine yCon_of hM0 (by rw [← asumA_ok hA]; exact hsz) ?_
  have hat : aAt c mem (aidx 0 (acA c), acP c, 0, (0, 0, 0, 0, 0), (0, 0, 0, 0, 0)) (yargs 0 args) mem := ⟨aidx_ok 0 hA, hP, hG, aFrm_refl⟩
  obtain ⟨ρ, g1, g2⟩ := abeg_ok hat
  exact arun_ok (g := (1000000, azr, azr)) (v1 := 0) (v2 := 0) hE hT hO hdis hOm h1 hD hM0 hcov (hH _) ⟨0, rfl, rfl⟩ ⟨0, rfl, rfl⟩ g1 g2 aFrm_refl hQ h2
/-- a contract whose arguments are of one of two kinds -/
theorem aSnd_or {Om : yMem → Prop} {c c1 c2 : aCon} (h1 : aSnd Om c1) (h2 : aSnd Om c2) (e1 : c1 = (acM c, acA c1, c.2.2.1, c.2.2.2.1, c.2.2.2.2.1, c.2.2.2.2.2.1, acD c1, acC c1)) (e2 : c2 = (acM c, acA c2, c.2.2.1, c.2.2.2.1, c.2.2.2.2.1, c.2.2.2.2.2.1, acD c2, acC c2)) (d1 : acD c1 ≤ acD c) (d2 : acD c2 ≤ acD c) (hA : ∀ args, aArgsOk (acA c) args → aArgsOk (acA c1) args ∨ aArgsOk (acA c2) args) : aSnd Om c := by
  intro E hE D hD M hM args mem Q ha hG hOm hP hQ
  rcases hA args ha with ha | ha
  · have f1 : acM c1 = acM c := by rw [e1]
    have f2 : acP c1 = acP c := by rw [e1]
    refine h1 E hE D (by omega) M (by rw [f1]; exact hM) args mem Q ha hG hOm (by rw [f2]; exact hP) (fun r mem' he => hQ r mem' ?_)
    rw [e1] at he
    exact he
  · have f1 : acM c2 = acM c := by rw [e2]
    have f2 : acP c2 = acP c := by rw [e2]
    refine h2 E hE D (by omega) M (by rw [f1]; exact hM) args mem Q ha hG hOm (by rw [f2]; exact hP) (fun r mem' he => hQ r mem' ?_)
    rw [e2] at he
    exact he
