section
section AK
variable {E : yE} {Om : yMem → Prop} {oc : List Nat} {T : List aCon} {c : aCon} {mem0 : yMem} {D : Nat}
def aKs (E : yE) (Om : yMem → Prop) (c : aCon) (mem0 : yMem) : Nat → List aFr → List Int → (Option yV → yMem → Prop) → Prop
  | _, [], _, Q => ∀ r mem', aEnd Om c mem0 r mem' → Q r mem'
  | d, f :: fs, ρ, Q => ∃ (l : yL) (s : List yV) (Q' : Option yV → yMem → Prop), xMok xmt f.1 ∧ aLm ρ f.2.2.1 l ∧ aSm ρ f.2.2.2 s ∧ aKs E Om c mem0 (d + 1) fs ρ Q' ∧ ∀ r mem', yG E (yR (d + 1)) f.1 f.2.1 l (yput s r) mem' 0 0 Q' → Q r mem'
theorem aKs_grow {σ : List Int} : ∀ {d : Nat} {frs : List aFr} {ρ : List Int} {Q : Option yV → yMem → Prop}, aKs E Om c mem0 d frs ρ Q → aKs E Om c mem0 d frs (ρ ++ σ) Q
  | _, [], _, _, h => h
  | _, _ :: _, _, _, ⟨l, s, Q', h1, h2, h3, h4, h5⟩ => ⟨l, s, Q', h1, aLm_grow h2, aSm_grow h3, aKs_grow h4, h5⟩
def aTop : List aFr → xM → xM
  | [], M => M
  | f :: fs, _ => aTop fs f.1
/-- what a rank comes to -/
def aRv (ρ : List Int) (r : aRk) (v : Int) : Prop := ∃ x, tv ρ r.2.1 x ∧ v = r.2.2 + r.1 * x
def aX (M0 : xM) (g : aRank) (v1 v2 : Int) (ρ : List Int) (frs : List aFr) (M : xM) : Prop := aTop frs M = M0 ∧ aRv ρ g.2.1 v1 ∧ aRv ρ g.2.2 v2
theorem aRv_grow {ρ σ : List Int} {r : aRk} {v : Int} (h : aRv ρ r v) : aRv (ρ ++ σ) r v := by
  obtain ⟨x, h1, h2⟩ := h
  exact ⟨x, tv_grow h1, h2⟩
theorem aX_grow {M0 : xM} {g : aRank} {v1 v2 : Int} {ρ σ : List Int} {frs : List aFr} {M : xM} (h : aX M0 g v1 v2 ρ frs M) : aX M0 g v1 v2 (ρ ++ σ) frs M := ⟨h.1, aRv_grow h.2.1, aRv_grow h.2.2⟩
theorem aX_push {M0 : xM} {g : aRank} {v1 v2 : Int} {ρ : List Int} {frs : List aFr} {M M' : xM} {q : Nat × aL × List aV} (h : aX M0 g v1 v2 ρ frs M) : aX M0 g v1 v2 ρ ((M, q) :: frs) M' := h
theorem aX_pop {M0 : xM} {g : aRank} {v1 v2 : Int} {ρ : List Int} {f : aFr} {frs : List aFr} {M : xM} (h : aX M0 g v1 v2 ρ (f :: frs) M) : aX M0 g v1 v2 ρ frs f.1 := h
def aRs (E : yE) (Om : yMem → Prop) (c : aCon) (mem0 : yMem) (D : Nat) (M0 : xM) (g : aRank) (v1 v2 : Int) (rec : aRec) : Prop := ∀ (M : xM) (pc : Nat) (lv : aL) (st : List aV) (frs : List aFr) (S : aSt), rec M pc lv st frs S = true → xMok xmt M → frs.length + 1 ≤ acD c → ∀ (ρ : List Int) (mem : yMem) (d : Nat) (l : yL) (s : List yV) (Q : Option yV → yMem → Prop), aX M0 g v1 v2 ρ frs M → D = d + 1 + frs.length → aSat ρ S mem → aFrm (acW c) mem0 mem → aLm ρ lv l → aSm ρ st s → aKs E Om c mem0 (d + 1) frs ρ Q → yG E (yR (d + 1)) M pc l s mem 0 0 Q
theorem aSm_cons {ρ : List Int} {v : aV} {st : List aV} {s : List yV} (h : aSm ρ (v :: st) s) : ∃ y s', s = y :: s' ∧ aok ρ v y ∧ aSm ρ st s' := by
  cases s with
  | nil => exact h.elim
  | cons y s' => exact ⟨y, s', rfl, h.1, h.2⟩
theorem aSm_nil {ρ : List Int} {s : List yV} (h : aSm ρ [] s) : s = [] := by
  cases s with
  | nil => rfl
  | cons y s' => exact h.elim
theorem akk {ρ : List Int} {k : Nat} {v : aV} {y : yV} (h : akdb k v = true) (hv : aok ρ v y) : ykdb k y = true := by
  obtain ⟨y1, y2⟩ := y
  match k, h with
  | 0, h => have e : y1 = 0 := aint h hv; subst e; rfl
  | 1, h =>
    obtain ⟨g, i, z⟩ := v
    have e : g = 1 := Nat.eq_of_beq_eq_true h
    subst e
    have e : ((y1, y2) : yV) = (1, (i : Int)) := hv
    cases e
    rfl
  | 2, h => have e : y1 = 4 := along h hv; subst e; rfl
  | n + 3, h => have e : y1 = 4 := along (v := v) h hv; subst e; rfl
theorem arefv {ρ : List Int} {v : aV} {y : yV} {S : yS} (h : acell v = some S) (hv : aok ρ v y) : y = (1, (v.2.1 : Int)) ∧ ysh[v.2.1]? = some S := by
  unfold acell at h
  split at h
  · next e =>
    obtain ⟨g, i, z⟩ := v
    have e : g = 1 := Nat.eq_of_beq_eq_true e
    subst e
    exact ⟨hv, h⟩
  · cases h
variable {M0 : xM} {g : aRank} {v1 v2 : Int} {rec : aRec} {M : xM} {lv : aL} {st : List aV} {frs : List aFr} {S : aSt} {ρ : List Int} {mem : yMem} {d : Nat} {l : yL} {s : List yV} {Q : Option yV → yMem → Prop} {nx : Nat}
theorem a_push (hX : aX M0 g v1 v2 ρ frs M) (hrec : aRs E Om c mem0 D M0 g v1 v2 rec) (hM : xMok xmt M) (hfl : frs.length + 1 ≤ acD c) (hDd : D = d + 1 + frs.length) (hF : aFrm (acW c) mem0 mem) (hl : aLm ρ lv l) (hs : aSm ρ st s) (hK : aKs E Om c mem0 (d + 1) frs ρ Q) {y : yV} (hg : aGets ρ mem y (fun w S' => rec M nx lv (w :: st) frs S')) : yG E (yR (d + 1)) M nx l (y :: s) mem 0 0 Q := by
  obtain ⟨σ, v, S', k1, k2, k3⟩ := hg
  exact hrec M nx lv (v :: st) frs S' k1 hM hfl (ρ ++ σ) mem d l (y :: s) Q (aX_grow hX) hDd k2 hF (aLm_grow hl) ⟨k3, aSm_grow hs⟩ (aKs_grow hK)
theorem asw_ok {f : Nat → aI → aN → Bool} {dflt : Nat} {t : aT} {x : Int} : ∀ {cs : List (Nat × Nat)} {iv : aI} {ne : aN}, aIok ρ iv → aNok ρ ne → tv ρ t x → asw f dflt t cs iv ne = true →
    (∃ q ∈ cs, x = cI q.1 ∧ ∃ iv' ne', aIok ρ iv' ∧ aNok ρ ne' ∧ f q.2 iv' ne' = true) ∨ ((∀ q ∈ cs, ¬ x = cI q.1) ∧ ∃ iv' ne', aIok ρ iv' ∧ aNok ρ ne' ∧ f dflt iv' ne' = true)
  | [], iv, ne, hI, hN, ht, h => Or.inr ⟨fun q hq => (by cases hq), iv, ne, hI, hN, h⟩
  | q :: r, iv, ne, hI, hN, ht, h => by
    simp only [asw] at h
    obtain ⟨o, ho, h1, h2, h3⟩ := aeq_ok hI hN ht (u := (none, cI q.1)) (y := cI q.1) rfl
    have h4 := aall_ok h ho
    by_cases hx : x = cI q.1
    · rw [if_pos (h1.mpr hx)] at h4
      exact Or.inl ⟨q, List.mem_cons_self, hx, _, _, h2, h3, h4⟩
    · rw [if_neg (fun z => hx (h1.mp z))] at h4
      rcases asw_ok h2 h3 ht h4 with ⟨q', hq', e, iv', ne', g1, g2, g3⟩ | ⟨hn, iv', ne', g1, g2, g3⟩
      · exact Or.inl ⟨q', List.mem_cons_of_mem _ hq', e, iv', ne', g1, g2, g3⟩
      · refine Or.inr ⟨fun q' hq' => ?_, iv', ne', g1, g2, g3⟩
        rcases List.mem_cons.mp hq' with rfl | hq'
        · exact hx
        · exact hn q' hq'
theorem acsl_ok : ∀ {cs : List (Nat × Nat)}, acsl cs = true → ∀ q ∈ cs, q.1 < 4294967296
  | [], _, q, hq => by cases hq
  | p :: r, h, q, hq => by
    simp only [acsl, Bool.and_eq_true, Nat.blt_eq] at h
    rcases List.mem_cons.mp hq with rfl | hq
    · exact h.1
    · exact acsl_ok h.2.2 q hq
theorem acsl_inj : ∀ {cs : List (Nat × Nat)}, acsl cs = true → ∀ q ∈ cs, ∀ q' ∈ cs, q.1 = q'.1 → q = q'
  | [], _, q, hq, _, _, _ => by cases hq
  | p :: r, h, q, hq, q', hq', e => by
    simp only [acsl, Bool.and_eq_true, Bool.not_eq_true', List.any_eq_false, Nat.beq_eq] at h
    rcases List.mem_cons.mp hq with e1 | h1
    · rcases List.mem_cons.mp hq' with e2 | h2
      · rw [e1, e2]
      · exact absurd (by rw [← e1]; exact e.symm) (h.2.1 q' h2)
    · rcases List.mem_cons.mp hq' with e2 | h2
      · exact absurd (by rw [← e2]; exact e) (h.2.1 q h1)
      · exact acsl_inj h.2.2 q h1 q' h2 e
/-- every value of a symbol -/
theorem asplit_ok {f : aSt → Bool} {k : Nat} {z : Int} (hS : aSat ρ S mem) (hz : ρ[k]? = some z) : ∀ {n : Nat} {x : Int}, asplit f S k n x = true → x ≤ z → z < x + n → f (S.1, aset S.2.1 (some k, 0) z z, S.2.2) = true
  | 0, x, h, h1, h2 => by omega
  | n + 1, x, h, h1, h2 => by
    simp only [asplit, Bool.and_eq_true] at h
    by_cases e : z = x
    · rw [e]
      exact h.1
    · exact asplit_ok hS hz h.2 (by omega) (by omega)
theorem aspl_ok {f : aSt → Bool} {k : Nat} {z : Int} (hS : aSat ρ S mem) (hz : ρ[k]? = some z) (h : aspl S k f = true) : ∃ S', S'.1 = S.1 ∧ f S' = true ∧ aSat ρ S' mem ∧ S'.2.2 = S.2.2 ∧ S'.2.1 = aset S.2.1 (some k, 0) z z := by
  have hb := aiv_ok hS.2.2.1 hz
  refine ⟨(S.1, aset S.2.1 (some k, 0) z z, S.2.2), rfl, asplit_ok hS hz h hb.1 (by omega), ⟨hS.1, hS.2.1, ?_, hS.2.2.2⟩, rfl, rfl⟩
  exact aset_ok hS.2.2.1 (t := (some k, 0)) (x := z) ⟨z, hz, by omega⟩ (Int.le_refl _) (Int.le_refl _)
theorem anz_ok {v : aV} {y : yV} (hS : aSat ρ S mem) (h : anz S v = true) (hv : aok ρ v y) : y.1 = 4 ∧ ¬ w64 y.2 = 0 := by
  obtain ⟨g, k, z⟩ := v
  match g, h, hv with
  | 4, h, hv =>
    refine ⟨hv.1, fun e => ?_⟩
    have h2 := hv.2
    dsimp only at h2
    simp only [anz, Bool.not_eq_true'] at h
    have : zeq z 0 = true := zeq_ok.mpr (by omega)
    rw [this] at h
    cases h
  | 8, h, hv =>
    obtain ⟨h1, h2⟩ := hv
    refine ⟨h1, fun e => ?_⟩
    simp only [anz, Bool.or_eq_true, zle_ok] at h
    have hb := aiv_ok hS.2.2.1 h2
    rcases h with h | h | h
    · exact aneq_ok hS.2.2.2 (t := (some k, 0)) (x := w64 y.2) ⟨_, h2, by dsimp only; omega⟩ h e
    · dsimp only at h hb; omega
    · dsimp only at h hb; omega
  | 0, h, _ | 1, h, _ | 2, h, _ | 3, h, _ | 5, h, _ | 6, h, _ | 7, h, _ => cases h
  | n + 9, h, _ => cases h
theorem afind_ok {mi : Nat} {iv : aI} {vs : List aV} : ∀ {T : List aCon} {e : aCon}, afind T mi iv vs = some e → e ∈ T ∧ acM e = mi ∧ aargs iv vs (acA e) = true
  | p :: r, e, h => by
    simp only [afind] at h
    split at h
    · next hc =>
      simp only [Bool.and_eq_true, Nat.beq_eq] at hc
      cases h
      exact ⟨List.mem_cons_self, hc.1, hc.2⟩
    · obtain ⟨h1, h2⟩ := afind_ok h
      exact ⟨List.mem_cons_of_mem _ h1, h2⟩
theorem yput_push {r : Option yV} {v : Option aV} (hr : match v, r with
  | none, none => True
  | some v, some y => aok ρ v y
  | _, _ => False) (hs : aSm ρ st s) : aSm ρ (apush v st) (yput s r) := by
  cases v with
  | none => cases r with
    | none => exact hs
    | some y => exact hr.elim
  | some v => cases r with
    | none => exact hr.elim
    | some y => exact ⟨hr, hs⟩
theorem aretn_ok (hX : aX M0 g v1 v2 ρ frs M) (hrec : aRs E Om c mem0 D M0 g v1 v2 rec) (hO : aOmF oc Om) (hdis : adis oc (acW c) = true) (hOm0 : Om mem0) (hfl : frs.length + 1 ≤ acD c) (hDd : D = d + 1 + frs.length) (hS : aSat ρ S mem) (hF : aFrm (acW c) mem0 mem) (hK : aKs E Om c mem0 (d + 1) frs ρ Q) {v : Option aV} {r : Option yV} (hr : match v, r with
  | none, none => True
  | some v, some y => aok ρ v y
  | _, _ => False) (h : aretn c rec v frs S = true) : Q r mem := by
  cases frs with
  | nil =>
    refine hK r mem ?_
    simp only [aretn, aend, Bool.and_eq_true] at h
    refine ⟨?_, hS.1, aFrm_Om hO hdis hF hOm0, hF, afcts_ok hS h.2⟩
    cases v with
    | none => cases r with
      | none => exact Nat.eq_of_beq_eq_true h.1
      | some y => exact hr.elim
    | some v => cases r with
      | none => exact hr.elim
      | some y => exact aargI_ok hS.2.2.1 h.1 hr
  | cons f fs =>
    obtain ⟨l', s', Q', k1, k2, k3, k4, k5⟩ := hK
    refine k5 r mem ?_
    simp only [List.length_cons] at hfl hDd
    exact hrec f.1 f.2.1 f.2.2.1 (apush v f.2.2.2) fs S h k1 (by omega) ρ mem (d + 1) l' (yput s' r) Q' (aX_pop hX) (by omega) hS hF k2 (yput_push hr k3) k4
theorem acall_ok (hX : aX M0 g v1 v2 ρ frs M) (hE : yEok E) (hT : ∀ e ∈ T, aSnd Om e) (hO : aOmF oc Om) (hdis : adis oc (acW c) = true) (hOm0 : Om mem0) (hcD : acD c ≤ D) (hrec : aRs E Om c mem0 D M0 g v1 v2 rec) (hM : xMok xmt M) (hfl : frs.length + 1 ≤ acD c) (hDd : D = d + 1 + frs.length) (hS : aSat ρ S mem) (hF : aFrm (acW c) mem0 mem) (hl : aLm ρ lv l) (hs : aSm ρ st s) (hK : aKs E Om c mem0 (d + 1) frs ρ Q) {mi n0 : Nat} (h : acall T c M rec nx mi n0 lv st frs S = true) : ycall E d mi n0 s mem (fun st' mem' => yG E (yR (d + 1)) M nx l st' mem' 0 0 Q) := by
  unfold acall at h
  unfold ycall
  cases hmi : xmt[mi]? with
  | none => rw [hmi] at h; cases h
  | some M' =>
    rw [hmi] at h
    dsimp only at h ⊢
    simp only [Bool.and_eq_true, Nat.ble_eq] at h
    obtain ⟨h1, h2, h3, h4, h5⟩ := h
    have ht := aSm_take (xMn M' + n0) hs
    have hd := aSm_drop (xMn M' + n0) hs
    have hr := aSm_rev ht
    refine ⟨by rw [← aSm_len hs]; exact h1, by rw [← asum_ok hd]; exact h2, by rw [← asum_ok ht]; exact h3, h4, ?_⟩
    split at h5
    · next e he =>
      simp only [Bool.and_eq_true, Nat.ble_eq] at h5
      obtain ⟨g1, g2, g3, g4⟩ := h5
      obtain ⟨f1, f2, f3⟩ := afind_ok he
      refine hT e f1 E hE d (by omega) M' (by rw [f2]; exact hmi) _ mem _ (aargs_ok hS.2.2.1 f3 hr) hS.1 (aFrm_Om hO hdis hF hOm0) (afcts_ok hS g2) ?_
      rintro r mem' ⟨e1, e2, e3, e4, e5⟩
      obtain ⟨σ, k1, k2⟩ := afbeg_ok (f := acQ e) (mp := adrop (acW e) S.1) (iv := S.2.1) (ρ := ρ) e5 (adrop_ok e4 hS.2.1) hS.2.2.1
      have hF' := aFrm_sub g3 hF e4
      have hS' : aSat (ρ ++ σ) ((afbeg (acQ e) (adrop (acW e) S.1) S.2.1).1, (afbeg (acQ e) (adrop (acW e) S.1) S.2.1).2, S.2.2) mem' := ⟨e2, k1, k2, aN_grow hS.2.2.2⟩
      generalize hq : afbeg (acQ e) (adrop (acW e) S.1) S.2.1 = q at g4 hS' k2
      rcases hR : acR e with ⟨g9, i9, lo, hi⟩
      unfold aRetOk at e1
      rw [hR] at e1 g4
      dsimp only at g4 e1
      cases r with
      | none =>
        have e1 : g9 = 99 := e1
        subst e1
        exact hrec M nx lv _ frs _ g4 hM hfl (ρ ++ σ) mem' d l _ Q (aX_grow hX) hDd hS' hF' (aLm_grow hl) (aSm_grow hd) (aKs_grow hK)
      | some y =>
        match g9, e1, g4 with
        | 0, e1, g4 => exact hrec M nx lv _ frs _ g4 hM hfl (ρ ++ σ) mem' d l _ Q (aX_grow hX) hDd hS' hF' (aLm_grow hl) ⟨e1, aSm_grow hd⟩ (aKs_grow hK)
        | 3, e1, g4 =>
          obtain ⟨b1, b2⟩ := aS_new hS' (q := (lo, hi)) (x := w32 y.2) e1.2.1 e1.2.2
          exact hrec M nx lv _ frs _ g4 hM hfl (ρ ++ σ ++ [w32 y.2]) mem' d l _ Q (aX_grow (aX_grow hX)) hDd b1 hF' (aLm_grow (aLm_grow hl)) ⟨⟨e1.1, _, b2, by show w32 y.2 = w32 y.2 + 0; omega⟩, aSm_grow (aSm_grow hd)⟩ (aKs_grow (aKs_grow hK))
        | 8, e1, g4 =>
          have b0 := w64_lo y.2
          have b3 := w64_hi y.2
          obtain ⟨b1, b2⟩ := aS_new hS' (q := a64) (x := w64 y.2) b0 (by show _ ≤ (9223372036854775807 : Int); omega)
          exact hrec M nx lv _ frs _ g4 hM hfl (ρ ++ σ ++ [w64 y.2]) mem' d l _ Q (aX_grow (aX_grow hX)) hDd b1 hF' (aLm_grow (aLm_grow hl)) ⟨⟨e1, b2⟩, aSm_grow (aSm_grow hd)⟩ (aKs_grow (aKs_grow hK))
        | 1, e1, g4 => cases g4
        | 2, e1, g4 | 4, e1, g4 | 5, e1, g4 | 6, e1, g4 | 7, e1, g4 => exact e1.elim
        | n + 9, e1, g4 => exact e1.elim
    · simp only [Bool.and_eq_true, Nat.ble_eq] at h5
      obtain ⟨g1, g2⟩ := h5
      have hM' := xmt_ok mi M' hmi
      cases d with
      | zero => omega
      | succ d' =>
        refine yCon_of hM' (by rw [ysum_rev, ← asum_ok ht]; exact h3) ?_
        exact hrec M' 0 _ [] _ S g2 hM' (by simp only [List.length_cons]; omega) ρ mem d' _ [] _ (aX_push hX) (by simp only [List.length_cons]; omega) hS hF (aargl_ok 0 hr) trivial ⟨l, s.drop (xMn M' + n0), Q, hM, hl, hd, hK, fun r mem' z => z⟩
end AK
end
section
section AM
variable {E : yE} {Om : yMem → Prop} {oc : List Nat} {T : List aCon} {c : aCon} {mem0 : yMem} {D : Nat} {M0 : xM} {g : aRank} {v1 v2 : Int} {rec : aRec} {M : xM} {pc : Nat} {lv : aL} {st : List aV} {frs : List aFr} {S : aSt} {ρ : List Int} {mem : yMem} {d : Nat} {l : yL} {s : List yV} {Q : Option yV → yMem → Prop}
theorem yv0 {y : yV} (h : y.1 = 0) : y = (0, y.2) := by
  obtain ⟨a, b⟩ := y
  have h : a = 0 := h
  subst h
  rfl
theorem yv4 {y : yV} (h : y.1 = 4) : y = (4, y.2) := by
  obtain ⟨a, b⟩ := y
  have h : a = 4 := h
  subst h
  rfl
theorem cL_ok {a : Nat} (h : a < 18446744073709551616) : w64 (cL a) = cL a := by
  apply w64_of
  · unfold cL
    split
    · omega
    · next h2 => rw [Nat.blt_eq] at h2; omega
  · unfold cL
    split
    · next h2 => rw [Nat.blt_eq] at h2; omega
    · omega
theorem aeqv_ok {iv : aI} {t : aT} {x z : Int} (hI : aIok ρ iv) (ht : tv ρ t x) (h : aeqv (trng iv t) = some z) : x = z := by
  unfold aeqv at h
  split at h
  · next hc =>
    rw [zle_ok] at hc
    cases h
    have := trng_ok hI ht
    omega
  · cases h
theorem aneg_nz {z : Int} (h : ¬ w64 z = 0) : ¬ w64 (-z) = 0 := by
  intro e
  apply h
  have e1 : lI (-z) = 0 := (lI_inj.mpr (by rw [e]; decide) : lI (-z) = lI 0).trans (by decide)
  have e2 : lI (-z) = -lI z := Int64.ofInt_neg z
  rw [e2] at e1
  have e3 : lI z = 0 := by
    have := congrArg (fun q => -q) e1
    simpa using this
  show (lI z).toInt = 0
  rw [e3]
  rfl
theorem acopy_mem {mem : yMem} {ss sp dd dp n : Nat} {a b : Nat} (h : ¬ a = dd) : ycpy mem ss sp dd dp n a b = mem a b := by
  simp only [ycpy]
  rw [if_neg h]
set_option maxHeartbeats 8000000 in
theorem astep_ok (hX : aX M0 g v1 v2 ρ frs M) (hE : yEok E) (hT : ∀ e ∈ T, aSnd Om e) (hO : aOmF oc Om) (hdis : adis oc (acW c) = true) (hOm0 : Om mem0) (hcD : acD c ≤ D) (hrec : aRs E Om c mem0 D M0 g v1 v2 rec) (hM : xMok xmt M) (hfl : frs.length + 1 ≤ acD c) (hDd : D = d + 1 + frs.length) (hS : aSat ρ S mem) (hF : aFrm (acW c) mem0 mem) (hl : aLm ρ lv l) (hs : aSm ρ st s) (hK : aKs E Om c mem0 (d + 1) frs ρ Q) {op : xOp} (hok : xok xmt M pc op) (h : astep T c M rec op lv st frs S = true) : yG E (yR (d + 1)) M pc l s mem 0 0 Q := by
  refine yst (d := d) hE ⟨Nat.le_refl _, by show 64 * d + 64 ≤ 64 * (d + 1); omega⟩ ⟨Nat.le_refl _, Nat.le_refl _⟩ hok ?_
  have go : ∀ (nx : Nat) (lv' : aL) (st' : List aV) (S' : aSt) (mem' : yMem) (l' : yL) (s' : List yV), rec M nx lv' st' frs S' = true → aSat ρ S' mem' → aFrm (acW c) mem0 mem' → aLm ρ lv' l' → aSm ρ st' s' → yG E (yR (d + 1)) M nx l' s' mem' 0 0 Q := fun nx lv' st' S' mem' l' s' h1 h2 h3 h4 h5 => hrec M nx lv' st' frs S' h1 hM hfl ρ mem' d l' s' Q hX hDd h2 h3 h4 h5 hK
  have gp : ∀ {nx : Nat} {st' : List aV} {s' : List yV} {y : yV}, aSm ρ st' s' → aGets ρ mem y (fun w S' => rec M nx lv (w :: st') frs S') → yG E (yR (d + 1)) M nx l (y :: s') mem 0 0 Q := fun h1 h2 => a_push hX hrec hM hfl hDd hF hl h1 hK h2
  clear hok
  obtain ⟨tg, nx, a, b, cs⟩ := op
  match tg, h with
  | 0, h =>
    simp only [astep, Bool.and_eq_true, Nat.blt_eq] at h
    exact go nx lv _ S mem l _ h.2 hS hF hl ⟨⟨rfl, w32_c h.1⟩, hs⟩
  | 1, h =>
    simp only [astep, Bool.and_eq_true, Nat.blt_eq] at h
    exact go nx lv _ S mem l _ h.2 hS hF hl ⟨⟨rfl, cL_ok h.1⟩, hs⟩
  | 2, h =>
    simp only [astep] at h
    split at h
    · next v hv =>
      rw [Bool.and_eq_true] at h
      obtain ⟨y, h1, h2⟩ := alk_ok hl hv
      exact ⟨y, h1, akk h.1 h2, go nx lv _ S mem l _ h.2 hS hF hl ⟨h2, hs⟩⟩
    · cases h
  | 3, h =>
    match st, hs, h with
    | v :: st', hs, h =>
      obtain ⟨y, s', rfl, hy, hs'⟩ := aSm_cons hs
      simp only [astep, Bool.and_eq_true, Nat.blt_eq] at h
      exact ⟨akk h.1 hy, h.2.1, go nx _ st' S mem _ s' h.2.2 hS hF ⟨rfl, hy, aflt_ok hl⟩ hs'⟩
  | 4, h =>
    simp only [astep] at h
    split at h
    · next v hv =>
      simp only [Bool.and_eq_true, Nat.blt_eq] at h
      obtain ⟨y, h1, h2⟩ := alk_ok hl hv
      obtain ⟨k1, -, -, σ, w, S', k2, k3, k4⟩ := abin_ok (yy := (0, cI b)) h.2.2 hS h2 ⟨rfl, w32_c h.1⟩ rfl rfl
      refine ⟨y.2, by rw [h1, ← yv0 k1], h.2.1, ?_⟩
      exact hrec M nx _ st frs S' k2 hM hfl (ρ ++ σ) mem d _ s Q (aX_grow hX) hDd k3 hF ⟨rfl, k4, aLm_grow (aflt_ok hl)⟩ (aSm_grow hs) (aKs_grow hK)
    · cases h
  | 5, h =>
    match st, hs, h with
    | vy :: vx :: st', hs, h =>
      obtain ⟨y, s1, rfl, hy, hs1⟩ := aSm_cons hs
      obtain ⟨x, s', rfl, hx, hs'⟩ := aSm_cons hs1
      obtain ⟨k1, k2, k3, k4⟩ := abin_ok h hS hx hy rfl rfl
      rw [yv0 k1, yv0 k2]
      exact ⟨k3, gp hs' k4⟩
  | 6, h =>
    match st, hs, h with
    | vx :: st', hs, h =>
      obtain ⟨x, s', rfl, hx, hs'⟩ := aSm_cons hs
      simp only [astep, Bool.and_eq_true] at h
      rw [yv0 (aint h.1 hx)]
      refine gp hs' (afr_ok h.2 hS ?_ ?_)
      · have := Int8.le_toInt (iI x.2).toInt8
        rw [show w32 ((iI x.2).toInt8.toInt32.toInt) = (iI x.2).toInt8.toInt by
          show (iI _).toInt = _
          rw [iI_t, Int8.toInt_toInt32]]
        simpa using this
      · have := Int8.toInt_lt (iI x.2).toInt8
        rw [show w32 ((iI x.2).toInt8.toInt32.toInt) = (iI x.2).toInt8.toInt by
          show (iI _).toInt = _
          rw [iI_t, Int8.toInt_toInt32]]
        have : (iI x.2).toInt8.toInt < 128 := by simpa using this
        show _ ≤ (127 : Int)
        omega
  | 8, h =>
    match st, hs, h with
    | vy :: vx :: st', hs, h =>
      obtain ⟨y, s1, rfl, hy, hs1⟩ := aSm_cons hs
      obtain ⟨x, s', rfl, hx, hs'⟩ := aSm_cons hs1
      simp only [astep, Bool.and_eq_true] at h
      obtain ⟨h1, h2, h3⟩ := h
      have e1 := along h1 hx
      have e2 := along h2 hy
      rw [yv4 e1, yv4 e2]
      split at h3
      · next hc =>
        simp only [Nat.beq_eq] at hc
        refine go nx lv _ S mem l _ h3 hS hF hl ⟨?_, hs'⟩
        obtain ⟨gx, kx, cx⟩ := vx
        obtain ⟨gy, ky, cy⟩ := vy
        obtain ⟨c1, c2⟩ := hc
        dsimp only at c1 c2
        subst c1
        subst c2
        refine ⟨rfl, _, hx.2, ?_⟩
        have e3 : w64 y.2 = cy := hy.2
        show w32 (ycmp x.2 y.2) = _
        unfold ycmp
        rw [e3]
        dsimp only
        split
        · decide
        · split <;> decide
      · refine gp hs' (afr_ok h3 hS ?_ ?_)
        · unfold ycmp
          split
          · decide
          · split <;> decide
        · unfold ycmp
          split
          · decide
          · split <;> decide
  | 9, h =>
    match st, hs, h with
    | v :: st', hs, h =>
      obtain ⟨y, s', rfl, hy, hs'⟩ := aSm_cons hs
      simp only [astep, Bool.and_eq_true, Nat.beq_eq] at h
      exact ⟨by rw [← acat_ok hy]; exact h.1, go nx lv _ S mem l _ h.2 hS hF hl ⟨hy, hy, hs'⟩⟩
  | 10, h =>
    match st, hs, h with
    | v :: st', hs, h =>
      obtain ⟨y, s', rfl, hy, hs'⟩ := aSm_cons hs
      simp only [astep, Bool.and_eq_true, Nat.beq_eq] at h
      exact ⟨by rw [← acat_ok hy]; exact h.1, go nx lv _ S mem l _ h.2 hS hF hl hs'⟩
  | 11, h =>
    match st, hs, h with
    | v :: w :: st', hs, h =>
      obtain ⟨y, s1, rfl, hy, hs1⟩ := aSm_cons hs
      obtain ⟨x, s', rfl, hx, hs'⟩ := aSm_cons hs1
      simp only [astep, Bool.and_eq_true, Nat.beq_eq] at h
      exact ⟨by rw [← acat_ok hy]; exact h.1, by rw [← acat_ok hx]; exact h.2.1, go nx lv _ S mem l _ h.2.2 hS hF hl ⟨hy, hx, hy, hx, hs'⟩⟩
  | 12, h =>
    match st, hs, h with
    | vx :: st', hs, h =>
      obtain ⟨x, s', rfl, hx, hs'⟩ := aSm_cons hs
      simp only [astep] at h
      split at h
      · next q hq =>
        have key : x.1 = 0 ∧ aOut ρ (acmp b S.2.1 S.2.2 q.1 q.2) (ycp b x.2 0) := by
          unfold atermc at hq
          split at hq
          · next h9 =>
            cases hq
            obtain ⟨g, k, z⟩ := vx
            have h9 : g = 9 := Nat.eq_of_beq_eq_true h9
            subst h9
            obtain ⟨e1, w, e2, e3⟩ := hx
            refine ⟨e1, (acmp_ok hS.2.2.1 hS.2.2.2 (t := (some k, 0)) (u := (none, z)) (x := w) (y := z) ⟨w, e2, by dsimp only; omega⟩ rfl b).iff ?_⟩
            rw [ycp_rel, e3, show w32 0 = 0 by decide]
            dsimp only
            match b with
            | 0 => simp only [relc]; split <;> (try split) <;> omega
            | 1 => simp only [relc]; split <;> (try split) <;> omega
            | 2 => simp only [relc]; split <;> (try split) <;> omega
            | 3 => simp only [relc]; split <;> (try split) <;> omega
            | 4 => simp only [relc]; split <;> (try split) <;> omega
            | n + 5 => simp only [relc]; split <;> (try split) <;> omega
          · split at hq
            · next t ht =>
              cases hq
              obtain ⟨e1, e2⟩ := aterm_ok ht hx
              refine ⟨e1, (acmp_ok hS.2.2.1 hS.2.2.2 e2 (u := (none, 0)) (y := 0) rfl b).iff ?_⟩
              rw [ycp_rel, show w32 0 = 0 by decide]
            · cases hq
        obtain ⟨e1, o, ho, k1, k2, k3⟩ := key
        rw [yv0 e1]
        have h4 := aall_ok h ho
        refine ⟨fun z => ?_, fun z => ?_⟩
        · rw [if_pos (k1.mpr z)] at h4
          exact go a lv st' _ mem l s' h4 ⟨hS.1, hS.2.1, k2, k3⟩ hF hl hs'
        · rw [if_neg (fun w => z (k1.mp w))] at h4
          exact go nx lv st' _ mem l s' h4 ⟨hS.1, hS.2.1, k2, k3⟩ hF hl hs'
      · cases h
  | 13, h =>
    match st, hs, h with
    | vy :: vx :: st', hs, h =>
      obtain ⟨y, s1, rfl, hy, hs1⟩ := aSm_cons hs
      obtain ⟨x, s', rfl, hx, hs'⟩ := aSm_cons hs1
      simp only [astep] at h
      split at h
      · next t u ht hu =>
        obtain ⟨e1, e2⟩ := aterm_ok ht hx
        obtain ⟨e3, e4⟩ := aterm_ok hu hy
        obtain ⟨o, ho, k1, k2, k3⟩ := (acmp_ok hS.2.2.1 hS.2.2.2 e2 e4 b).iff (ycp_rel b x.2 y.2).symm
        rw [yv0 e1, yv0 e3]
        have h4 := aall_ok h ho
        refine ⟨fun z => ?_, fun z => ?_⟩
        · rw [if_pos (k1.mpr z)] at h4
          exact go a lv st' _ mem l s' h4 ⟨hS.1, hS.2.1, k2, k3⟩ hF hl hs'
        · rw [if_neg (fun w => z (k1.mp w))] at h4
          exact go nx lv st' _ mem l s' h4 ⟨hS.1, hS.2.1, k2, k3⟩ hF hl hs'
      · cases h
  | 14, h => exact go nx lv st S mem l s h hS hF hl hs
  | 15, h =>
    match st, hs, h with
    | vx :: st', hs, h =>
      obtain ⟨x, s', rfl, hx, hs'⟩ := aSm_cons hs
      simp only [astep] at h
      split at h
      · next t ht =>
        rw [Bool.and_eq_true] at h
        obtain ⟨e1, e2⟩ := aterm_ok ht hx
        rw [yv0 e1]
        have key := asw_ok hS.2.2.1 hS.2.2.2 e2 h.2
        have hc := acsl_ok h.1
        have inj : ∀ (q q' : Nat × Nat), q ∈ cs → q' ∈ cs → cI q.1 = cI q'.1 → q.1 = q'.1 := fun q q' h1 h2 e => by
          have b1 := hc q h1
          have b2 := hc q' h2
          unfold cI at e
          split at e <;> split at e <;> omega
        refine ⟨fun q hq e => ?_, fun hn => ?_, hc⟩
        · rcases key with ⟨q', hq', e', iv', ne', g1, g2, g3⟩ | ⟨hn, -⟩
          · have e3 := acsl_inj h.1 q hq q' hq' (inj q q' hq hq' (by rw [← e, ← e']))
            subst e3
            exact go _ lv st' _ mem l s' g3 ⟨hS.1, hS.2.1, g1, g2⟩ hF hl hs'
          · exact absurd e (hn q hq)
        · rcases key with ⟨q', hq', e', -⟩ | ⟨-, iv', ne', g1, g2, g3⟩
          · exact absurd e' (hn q' hq')
          · exact go a lv st' _ mem l s' g3 ⟨hS.1, hS.2.1, g1, g2⟩ hF hl hs'
      · cases h
  | 16, h =>
    match st, hs, h with
    | v :: st', hs, h =>
      obtain ⟨y, s', rfl, hy, hs'⟩ := aSm_cons hs
      simp only [astep] at h
      split at h
      · next ci fs hc =>
        obtain ⟨rfl, e2⟩ := arefv hc hy
        rw [Bool.and_eq_true, Nat.beq_eq] at h
        obtain ⟨h1, h2⟩ := h
        subst h1
        split at h2
        · next z hz => exact ⟨fs, (0, z), e2, hz, gp hs' (ardS_ok h2 hS)⟩
        · next z hz =>
          rw [Bool.and_eq_true, zle_ok] at h2
          refine ⟨fs, (1, z), e2, hz, go nx lv _ S mem l _ h2.2 hS hF hl ⟨?_, hs'⟩⟩
          show ((1, z) : yV) = (1, (z.toNat : Int))
          rw [Int.toNat_of_nonneg h2.1]
        · cases h2
      · cases h
  | 17, h =>
    match st, hs, cs, h with
    | vx :: v :: st', hs, [q], h =>
      obtain ⟨x, s1, rfl, hx, hs1⟩ := aSm_cons hs
      obtain ⟨y, s', rfl, hy, hs'⟩ := aSm_cons hs1
      simp only [astep] at h
      split at h
      · next ci fs hc =>
        obtain ⟨rfl, e2⟩ := arefv hc hy
        rw [Bool.and_eq_true, Nat.beq_eq] at h
        obtain ⟨h1, h2⟩ := h
        subst h1
        split at h2
        · next z hz =>
          rw [Bool.and_eq_true, Bool.or_eq_true] at h2
          obtain ⟨h3, h4⟩ := h2
          have hk : akdb 0 vx = true := by
            rcases h3 with h3 | h3
            · rw [Bool.and_eq_true] at h3; exact h3.2
            · simp only [Bool.and_eq_true] at h3; exact h3.2.1
          have e1 := aint hk hx
          have hx' : aok ρ vx (0, x.2) := by rw [← yv0 e1]; exact hx
          obtain ⟨S', k1, k2, k3⟩ := awrS_ok h4 hS hF hx'
          refine ⟨fs, (0, z), e2, hz, ?_, go nx lv st' S' _ l s' k1 k2 k3 hl hs'⟩
          rcases h3 with h3 | h3
          · rw [Bool.and_eq_true, Nat.beq_eq] at h3
            rw [h3.1]
            exact ⟨e1, rfl⟩
          · simp only [Bool.and_eq_true, Nat.beq_eq, ain_ok] at h3
            rw [h3.1]
            have := arng_ok hS.2.2.1 hk hx
            exact ⟨e1, by omega, rfl⟩
        · cases h2
      · cases h
  | 18, h =>
    match st, hs, h with
    | v :: st', hs, h =>
      obtain ⟨y, s', rfl, hy, hs'⟩ := aSm_cons hs
      simp only [astep] at h
      split at h
      · next t n rs hc =>
        obtain ⟨rfl, e2⟩ := arefv hc hy
        rw [Bool.and_eq_true, Nat.blt_eq] at h
        refine ⟨t, n, rs, e2, h.1, go nx lv _ S mem l _ h.2 hS hF hl ⟨⟨rfl, ?_⟩, hs'⟩⟩
        have key : ∀ S ∈ ysh, (match S with
          | .inl (_, n, _) => Nat.blt n 1000000
          | _ => true) = true := by decide +kernel
        have := key _ (List.mem_of_getElem? e2)
        dsimp only at this
        rw [Nat.blt_eq] at this
        exact w32_of (by omega) (by omega)
      · cases h
  | 19, h =>
    match st, hs, h with
    | vj :: v :: st', hs, h =>
      obtain ⟨j, s1, rfl, hj, hs1⟩ := aSm_cons hs
      obtain ⟨y, s', rfl, hy, hs'⟩ := aSm_cons hs1
      simp only [astep] at h
      split at h
      · next t n rs u hc hu =>
        obtain ⟨rfl, e2⟩ := arefv hc hy
        obtain ⟨e1, e3⟩ := aterm_ok hu hj
        have hb := trng_ok hS.2.2.1 e3
        simp only [Bool.and_eq_true, Nat.beq_eq, zle_ok, zlt_ok] at h
        obtain ⟨h1, h2, h3, h4⟩ := h
        subst h1
        rw [yv0 e1]
        refine ⟨n, rs, e2, by omega, by omega, ?_⟩
        split at h4
        · next z hz =>
          have := aeqv_ok hS.2.2.1 e3 hz
          dsimp only
          rw [this]
          exact gp hs' (ardS_ok h4 hS)
        · have := adefl_ok hS.1 v.2.1 (w32 j.2).toNat
          exact gp hs' (afr_ok h4 hS this.1 this.2)
      · cases h
  | 20, h =>
    match st, hs, h with
    | vj :: v :: st', hs, h =>
      obtain ⟨j, s1, rfl, hj, hs1⟩ := aSm_cons hs
      obtain ⟨y, s', rfl, hy, hs'⟩ := aSm_cons hs1
      simp only [astep] at h
      split at h
      · next n rs u hc hu =>
        obtain ⟨rfl, e2⟩ := arefv hc hy
        obtain ⟨e1, e3⟩ := aterm_ok hu hj
        rw [yv0 e1]
        have fin : ∀ (S' : aSt) (z : Int), aSat ρ S' mem → w32 j.2 = z → (zle 0 z && (zlt z (n : Int) && (match rs[z.toNat]? with
            | some q => rec M nx lv ((1, q, 0) :: st') frs S'
            | none => false))) = true → ∃ n' rs' q, ysh[((v.2.1 : Int)).toNat]? = some (.inl (4, n', rs')) ∧ 0 ≤ w32 j.2 ∧ w32 j.2 < (n' : Int) ∧ rs'[(w32 j.2).toNat]? = some q ∧ yG E (yR (d + 1)) M nx l ((1, (q : Int)) :: s') mem 0 0 Q := by
          intro S' z hS' ez hh
          simp only [Bool.and_eq_true, zle_ok, zlt_ok] at hh
          obtain ⟨g1, g2, g3⟩ := hh
          split at g3
          · next q hq =>
            refine ⟨n, rs, q, e2, by omega, by omega, by rw [ez]; exact hq, go nx lv _ S' mem l _ g3 hS' hF hl ⟨rfl, hs'⟩⟩
          · cases g3
        split at h
        · next z hz => exact fin S z hS (aeqv_ok hS.2.2.1 e3 hz) h
        · split at h
          · next k hk =>
            obtain ⟨uk, uc⟩ := u
            dsimp only at hk
            subst hk
            obtain ⟨z, g1, g2⟩ := e3
            obtain ⟨S', f1, f2, f3, f4, f5⟩ := aspl_ok hS g1 h
            split at f2
            · next w hw => exact fin S' w f3 (aeqv_ok f3.2.2.1 (t := (some k, uc)) ⟨z, g1, g2⟩ hw) f2
            · cases f2
          · cases h
      · cases h
  | 21, h =>
    match st, hs, h with
    | vx :: vj :: v :: st', hs, h =>
      obtain ⟨x, s0, rfl, hx, hs0⟩ := aSm_cons hs
      obtain ⟨j, s1, rfl, hj, hs1⟩ := aSm_cons hs0
      obtain ⟨y, s', rfl, hy, hs'⟩ := aSm_cons hs1
      simp only [astep] at h
      split at h
      · next t n rs u hc hu =>
        obtain ⟨rfl, e2⟩ := arefv hc hy
        obtain ⟨e1, e3⟩ := aterm_ok hu hj
        have hb := trng_ok hS.2.2.1 e3
        simp only [Bool.and_eq_true, Nat.beq_eq, zle_ok, zlt_ok] at h
        obtain ⟨h1, h2, h3, h4, h5, h6⟩ := h
        subst h1
        have e0 := aint h2 hx
        have hxr := arng_ok hS.2.2.1 h2 hx
        have hx' : aok ρ vx (0, x.2) := by rw [← yv0 e0]; exact hx
        rw [yv0 e0, yv0 e1]
        refine ⟨n, rs, e2, by omega, by omega, ?_, ?_⟩
        · match t, h5 with
          | 0, _ => trivial
          | 1, h5 =>
            have h5 : ain (arng S.2.1 vx) (-128, 127) = true := h5
            rw [ain_ok] at h5
            exact ⟨by dsimp only at h5; omega, by dsimp only at h5; omega⟩
          | 3, h5 =>
            have h5 : ain (arng S.2.1 vx) (0, 1) = true := h5
            rw [ain_ok] at h5
            show w32 x.2 = 0 ∨ w32 x.2 = 1
            dsimp only at h5
            omega
          | 2, h5 => cases h5
          | k + 4, h5 => cases h5
        · split at h6
          · next z hz =>
            have := aeqv_ok hS.2.2.1 e3 hz
            obtain ⟨S', k1, k2, k3⟩ := awrS_ok h6 hS hF hx'
            dsimp only
            rw [this]
            exact go nx lv st' S' _ l s' k1 k2 k3 hl hs'
          · obtain ⟨S', k1, k2, k3⟩ := awrA_ok (j := (w32 j.2).toNat) h6 hS hF hx'
            exact go nx lv st' S' _ l s' k1 k2 k3 hl hs'
      · cases h
  | 26, h =>
    match st, hs, h with
    | vn :: vdp :: vd :: vsp :: vs :: st', hs, h =>
      obtain ⟨n, s0, rfl, hn, hs0⟩ := aSm_cons hs
      obtain ⟨dp, s1, rfl, hdp, hs1⟩ := aSm_cons hs0
      obtain ⟨dv, s2, rfl, hdv, hs2⟩ := aSm_cons hs1
      obtain ⟨sp, s3, rfl, hsp, hs3⟩ := aSm_cons hs2
      obtain ⟨sv, s', rfl, hsv, hs'⟩ := aSm_cons hs3
      simp only [astep] at h
      split at h
      · next n0 r0 n1 r1 tn td ts c1 c2 c3 c4 c5 =>
        obtain ⟨rfl, e1⟩ := arefv c1 hsv
        obtain ⟨rfl, e2⟩ := arefv c2 hdv
        obtain ⟨f1, f2⟩ := aterm_ok c3 hn
        obtain ⟨f3, f4⟩ := aterm_ok c4 hdp
        obtain ⟨f5, f6⟩ := aterm_ok c5 hsp
        have b1 := trng_ok hS.2.2.1 f2
        have b2 := trng_ok hS.2.2.1 f4
        have b3 := trng_ok hS.2.2.1 f6
        simp only [Bool.and_eq_true, Nat.ble_eq, zle_ok, ain_ok] at h
        obtain ⟨h1, h2, h3, h4, h5, h6, h7, h8, h9, h10⟩ := h
        have e0 : (aent vd.2.1).2 = [] := by
          cases hh : (aent vd.2.1).2 with
          | nil => rfl
          | cons _ _ => rw [hh] at h7; cases h7
        rw [yv0 f1, yv0 f3, yv0 f5]
        refine ⟨by rw [← asum_ok hs']; exact h1, n0, r0, n1, r1, e1, e2, by omega, by omega, by omega, by omega, by omega, ?_⟩
        have := acell_ok (mem' := ycpy mem vs.2.1 (w32 sp.2).toNat vd.2.1 (w32 dp.2).toNat (w32 n.2).toNat) hS hF e0 h9 (fun a b e => acopy_mem e) (fun b => by
          simp only [ycpy, if_true]
          split
          · have := adefl_ok hS.1 vs.2.1 ((w32 sp.2).toNat + (b - (w32 dp.2).toNat))
            omega
          · rw [← agam_def (j := b) e0]
            exact hS.1 _ b)
        exact go nx lv st' _ _ l s' h10 this.1 this.2 hl hs'
      · cases h
  | 27, h => exact acall_ok hX hE hT hO hdis hOm0 hcD hrec hM hfl hDd hS hF hl hs hK h
  | 47, h => exact acall_ok hX hE hT hO hdis hOm0 hcD hrec hM hfl hDd hS hF hl hs hK h
  | 28, h =>
    simp only [astep, Bool.and_eq_true] at h
    refine ⟨?_, acall_ok hX hE hT hO hdis hOm0 hcD hrec hM hfl hDd hS hF hl hs hK h.2⟩
    have h1 := h.1
    dsimp only at h1 ⊢
    cases hmi : xmt[a]? with
    | none => rw [hmi] at h1; cases h1
    | some M' =>
      rw [hmi] at h1
      dsimp only at h1 ⊢
      have hd := aSm_drop (xMn M') hs
      split at h1
      · next v r hv =>
        rw [hv] at hd
        obtain ⟨y, s', e, hy, -⟩ := aSm_cons hd
        rw [e]
        split at h1
        · next ci fs hc =>
          obtain ⟨rfl, e2⟩ := arefv hc hy
          rw [Nat.beq_eq] at h1
          subst h1
          exact ⟨fs, e2⟩
        · cases h1
      · cases h1
  | 30, h =>
    match st, hs, h with
    | [v], hs, h =>
      obtain ⟨y, s', rfl, hy, hs'⟩ := aSm_cons hs
      rw [aSm_nil hs']
      simp only [astep, Bool.and_eq_true] at h
      obtain ⟨h1, h2, h3⟩ := h
      have e1 := aint h1 hy
      rw [yv0 e1]
      refine ⟨?_, aretn_ok hX hrec hO hdis hOm0 hfl hDd hS hF hK (v := some v) (r := some (0, y.2)) (by dsimp only; rw [← yv0 e1]; exact hy) h3⟩
      simp only [Bool.or_eq_true, Bool.and_eq_true, Nat.beq_eq, ain_ok] at h2
      rcases h2 with h2 | h2
      · exact Or.inl h2
      · have := arng_ok hS.2.2.1 h1 hy
        exact Or.inr ⟨h2.1, by omega⟩
  | 31, h =>
    match st, hs, h with
    | [v], hs, h =>
      obtain ⟨y, s', rfl, hy, hs'⟩ := aSm_cons hs
      rw [aSm_nil hs']
      simp only [astep, Bool.and_eq_true] at h
      have e1 := along h.1 hy
      rw [yv4 e1]
      exact aretn_ok hX hrec hO hdis hOm0 hfl hDd hS hF hK (v := some v) (r := some (4, y.2)) (by dsimp only; rw [← yv4 e1]; exact hy) h.2
  | 32, h =>
    match st, hs, h with
    | [], hs, h =>
      rw [aSm_nil hs]
      exact aretn_ok hX hrec hO hdis hOm0 hfl hDd hS hF hK (v := none) (r := none) trivial h
  | 60, h =>
    match st, hs, h with
    | vy :: vx :: st', hs, h =>
      obtain ⟨y, s1, rfl, hy, hs1⟩ := aSm_cons hs
      obtain ⟨x, s', rfl, hx, hs'⟩ := aSm_cons hs1
      simp only [astep, Bool.and_eq_true] at h
      rw [yv4 (along h.1 hx), yv4 (along h.2.1 hy)]
      exact gp hs' (afrL_ok h.2.2 hS)
  | 61, h =>
    match st, hs, h with
    | vy :: vx :: st', hs, h =>
      obtain ⟨y, s1, rfl, hy, hs1⟩ := aSm_cons hs
      obtain ⟨x, s', rfl, hx, hs'⟩ := aSm_cons hs1
      simp only [astep, Bool.and_eq_true] at h
      have hz := anz_ok hS h.2.1 hy
      rw [yv4 (along h.1 hx), yv4 hz.1]
      exact ⟨hz.2, gp hs' (afrL_ok h.2.2 hS)⟩
  | 62, h =>
    match st, hs, h with
    | vy :: vx :: st', hs, h =>
      obtain ⟨y, s1, rfl, hy, hs1⟩ := aSm_cons hs
      obtain ⟨x, s', rfl, hx, hs'⟩ := aSm_cons hs1
      simp only [astep, Bool.and_eq_true] at h
      rw [yv4 (along h.1 hx), yv0 (aint h.2.1 hy)]
      exact gp hs' (afrL_ok h.2.2 hS)
  | 63, h =>
    match st, hs, h with
    | vy :: vx :: st', hs, h =>
      obtain ⟨y, s1, rfl, hy, hs1⟩ := aSm_cons hs
      obtain ⟨x, s', rfl, hx, hs'⟩ := aSm_cons hs1
      simp only [astep, Bool.and_eq_true] at h
      rw [yv4 (along h.1 hx), yv0 (aint h.2.1 hy)]
      exact gp hs' (afrL_ok h.2.2 hS)
  | 64, h =>
    match st, hs, h with
    | vx :: st', hs, h =>
      obtain ⟨x, s', rfl, hx, hs'⟩ := aSm_cons hs
      simp only [astep, Bool.and_eq_true] at h
      obtain ⟨h1, h2⟩ := h
      rw [yv4 (along h1 hx)]
      split at h2
      · next hz =>
        have hnz := aneg_nz (anz_ok hS hz hx).2
        have b0 := w64_lo (-x.2)
        have b3 := w64_hi (-x.2)
        obtain ⟨b1, b2⟩ := aS_new hS (q := a64) (x := w64 (-x.2)) b0 (by show _ ≤ (9223372036854775807 : Int); omega)
        refine hrec M nx lv _ frs _ h2 hM hfl (ρ ++ [w64 (-x.2)]) mem d l _ Q (aX_grow hX) hDd ⟨b1.1, b1.2.1, b1.2.2.1, fun q hq => ?_⟩ hF (aLm_grow hl) ⟨⟨rfl, b2⟩, aSm_grow hs'⟩ (aKs_grow hK)
        rcases List.mem_cons.mp hq with rfl | hq
        · exact ⟨_, b2, hnz⟩
        · exact b1.2.2.2 q hq
      · exact gp hs' (afrL_ok h2 hS)
  | 65, h =>
    match st, hs, h with
    | vx :: st', hs, h =>
      obtain ⟨x, s', rfl, hx, hs'⟩ := aSm_cons hs
      simp only [astep, Bool.and_eq_true] at h
      rw [yv0 (aint h.1 hx)]
      exact gp hs' (afrL_ok h.2 hS)
  | 66, h =>
    match st, hs, h with
    | vx :: st', hs, h =>
      obtain ⟨x, s', rfl, hx, hs'⟩ := aSm_cons hs
      simp only [astep, Bool.and_eq_true] at h
      rw [yv4 (along h.1 hx)]
      exact gp hs' (afr32_ok h.2 hS)
  | 67, h =>
    match st, hs, h with
    | vj :: v :: st', hs, h =>
      obtain ⟨j, s1, rfl, hj, hs1⟩ := aSm_cons hs
      obtain ⟨y, s', rfl, hy, hs'⟩ := aSm_cons hs1
      simp only [astep] at h
      split at h
      · next n rs u hc hu =>
        obtain ⟨rfl, e2⟩ := arefv hc hy
        obtain ⟨e1, e3⟩ := aterm_ok hu hj
        have hb := trng_ok hS.2.2.1 e3
        simp only [Bool.and_eq_true, zle_ok, zlt_ok] at h
        rw [yv0 e1]
        exact ⟨n, rs, e2, by omega, by omega, gp hs' (afrL_ok h.2.2 hS)⟩
      · cases h
  | 68, h =>
    match st, hs, h with
    | vx :: vj :: v :: st', hs, h =>
      obtain ⟨x, s0, rfl, hx, hs0⟩ := aSm_cons hs
      obtain ⟨j, s1, rfl, hj, hs1⟩ := aSm_cons hs0
      obtain ⟨y, s', rfl, hy, hs'⟩ := aSm_cons hs1
      simp only [astep] at h
      split at h
      · next n rs u hc hu =>
        obtain ⟨rfl, e2⟩ := arefv hc hy
        obtain ⟨e1, e3⟩ := aterm_ok hu hj
        have hb := trng_ok hS.2.2.1 e3
        simp only [Bool.and_eq_true, zle_ok, zlt_ok] at h
        obtain ⟨h1, h2, h3, h4, h5, h6⟩ := h
        have e0 : (aent v.2.1).2 = [] ∧ ain a32 (aent v.2.1).1 = true := by
          cases hh : (aent v.2.1).2 with
          | nil => rw [hh] at h4; exact ⟨rfl, h4⟩
          | cons _ _ => rw [hh] at h4; cases h4
        rw [yv0 e1, yv4 (along h1 hx)]
        have h7 := ain_ok.mp e0.2
        have := acell_ok (mem' := yset mem v.2.1 (w32 j.2).toNat x.2) hS hF e0.1 h5 (fun a b e => yset_ne (fun q => e q.1)) (fun b => by
          have b1 := w32_lo (yset mem v.2.1 (w32 j.2).toNat x.2 v.2.1 b)
          have b2 := w32_hi (yset mem v.2.1 (w32 j.2).toNat x.2 v.2.1 b)
          simp only [a32] at h7
          omega)
        exact ⟨n, rs, e2, by omega, by omega, go nx lv st' _ _ l s' h6 this.1 this.2 hl hs'⟩
      · cases h
  | 70, h =>
    match st, hs, h with
    | vy :: vx :: st', hs, h =>
      obtain ⟨y, s1, rfl, hy, hs1⟩ := aSm_cons hs
      obtain ⟨x, s', rfl, hx, hs'⟩ := aSm_cons hs1
      simp only [astep] at h
      split at h
      · next t u ht hu =>
        obtain ⟨e1, e2⟩ := aterm_ok ht hx
        obtain ⟨e3, e4⟩ := aterm_ok hu hy
        have b1 := trng_ok hS.2.2.1 e2
        have b2 := trng_ok hS.2.2.1 e4
        rw [Bool.and_eq_true, Nat.ble_eq] at h
        rw [yv0 e1, yv0 e3]
        refine ⟨by rw [← asum_ok hs']; exact h.1, ?_⟩
        have h5 := h.2
        simp only [Nat.beq_eq] at h5
        dsimp only
        by_cases ha : a = 0
        · rw [if_pos ha] at h5 ⊢
          refine gp hs' (afr_ok h5 hS ?_ ?_)
          · dsimp only
            rw [zmin_ok]
            split <;> omega
          · dsimp only
            rw [zmin_ok]
            split <;> omega
        · rw [if_neg ha] at h5 ⊢
          refine gp hs' (afr_ok h5 hS ?_ ?_)
          · dsimp only
            rw [zmax_ok]
            split <;> omega
          · dsimp only
            rw [zmax_ok]
            split <;> omega
      · cases h
  | 71, h =>
    match st, hs, h with
    | vy :: vx :: st', hs, h =>
      obtain ⟨y, s1, rfl, hy, hs1⟩ := aSm_cons hs
      obtain ⟨x, s', rfl, hx, hs'⟩ := aSm_cons hs1
      simp only [astep, Bool.and_eq_true, Nat.ble_eq] at h
      rw [yv4 (along h.1 hx), yv4 (along h.2.1 hy)]
      exact ⟨by rw [← asum_ok hs']; exact h.2.2.1, gp hs' (afrL_ok h.2.2.2 hS)⟩
  | 72, h =>
    match st, hs, h with
    | vx :: st', hs, h =>
      obtain ⟨x, s', rfl, hx, hs'⟩ := aSm_cons hs
      simp only [astep, Bool.and_eq_true, Nat.ble_eq] at h
      obtain ⟨h1, h0, h2⟩ := h
      rw [yv4 (along h1 hx)]
      refine ⟨by rw [← asum_ok hs']; exact h0, ?_⟩
      split at h2
      · next hz =>
        have hn := (anz_ok hS hz hx).2
        have hnz : ¬ w64 (if 0 < w64 x.2 then x.2 else -x.2) = 0 := by
          split
          · exact hn
          · exact aneg_nz hn
        have b0 := w64_lo (if 0 < w64 x.2 then x.2 else -x.2)
        have b3 := w64_hi (if 0 < w64 x.2 then x.2 else -x.2)
        obtain ⟨b1, b2⟩ := aS_new hS (q := a64) (x := w64 (if 0 < w64 x.2 then x.2 else -x.2)) b0 (by show _ ≤ (9223372036854775807 : Int); omega)
        refine hrec M nx lv _ frs _ h2 hM hfl (ρ ++ [w64 (if 0 < w64 x.2 then x.2 else -x.2)]) mem d l _ Q (aX_grow hX) hDd ⟨b1.1, b1.2.1, b1.2.2.1, fun q hq => ?_⟩ hF (aLm_grow hl) ⟨⟨rfl, b2⟩, aSm_grow hs'⟩ (aKs_grow hK)
        rcases List.mem_cons.mp hq with rfl | hq
        · exact ⟨_, b2, hnz⟩
        · exact b1.2.2.2 q hq
      · exact gp hs' (afrL_ok h2 hS)
end AM
end
section
/-! ranks -/
def aexv (e : aExp) (l : yL) (mem : yMem) : Int := match e.1 with
  | 0 => e.2.2.2.2
  | 1 => (match ylk l e.2.1 with
    | some y => e.2.2.2.2 + e.2.2.2.1 * w32 y.2
    | none => e.2.2.2.2)
  | _ => e.2.2.2.2 + e.2.2.2.1 * w32 (mem e.2.1 e.2.2.1)
section AR
variable {ρ : List Int} {iv : aI} {lv : aL} {l : yL} {S : aSt} {mem : yMem}
theorem arr_ok (hl : aLm ρ lv l) (hS : aSat ρ S mem) {e : aExp} (h : aexok lv S e = true) : aRv ρ (arr lv S e) (aexv e l mem) := by
  obtain ⟨k, i, j, s, c⟩ := e
  unfold aRv arr
  match k, h with
  | 0, h => exact ⟨0, rfl, by show c = c + 0 * 0; omega⟩
  | 1, h =>
    simp only [aexok] at h
    cases hv : alk lv i with
    | none => rw [hv] at h; cases h
    | some v =>
      rw [hv] at h
      simp only [atm] at h
      cases ht : aterm v with
      | none => rw [ht] at h; cases h
      | some t =>
        obtain ⟨y, h1, h2⟩ := alk_ok hl hv
        obtain ⟨-, h4⟩ := aterm_ok ht h2
        simp only [aval, hv, ht, aexv, h1]
        exact ⟨w32 y.2, h4, rfl⟩
  | n + 2, h =>
    simp only [aexok] at h
    cases hv : amlk S.1 i j with
    | none => rw [hv] at h; cases h
    | some v =>
      rw [hv] at h
      simp only [atm] at h
      cases ht : aterm v with
      | none => rw [ht] at h; cases h
      | some t =>
        have h2 := hS.2.1 _ (amlk_ok hv)
        obtain ⟨-, h4⟩ := aterm_ok ht h2
        simp only [aval, hv, ht, aexv]
        exact ⟨w32 (mem i j), h4, rfl⟩
theorem rb_ok (hI : aIok ρ iv) {r : aRk} {v : Int} (h : aRv ρ r v) : rlo iv r ≤ v ∧ v ≤ rhi iv r := by
  obtain ⟨x, h1, h2⟩ := h
  have hb := trng_ok hI h1
  unfold rlo rhi
  by_cases hs : 0 ≤ r.1
  · rw [if_pos (zle_ok.mpr hs), if_pos (zle_ok.mpr hs), h2]
    have m1 := Int.mul_le_mul_of_nonneg_left hb.1 hs
    have m2 := Int.mul_le_mul_of_nonneg_left hb.2 hs
    omega
  · rw [if_neg (fun z => hs (zle_ok.mp z)), if_neg (fun z => hs (zle_ok.mp z)), h2]
    have m1 := Int.mul_le_mul_of_nonneg_left hb.1 (show 0 ≤ -r.1 by omega)
    have m2 := Int.mul_le_mul_of_nonneg_left hb.2 (show 0 ≤ -r.1 by omega)
    rw [Int.neg_mul, Int.neg_mul] at m1 m2
    omega
theorem rsame_ok {r q : aRk} {v w : Int} (h : rsame r q = true) (hr : aRv ρ r v) (hq : aRv ρ q w) : v - w = (r.2.2 + r.1 * r.2.1.2) - (q.2.2 + q.1 * q.2.1.2) := by
  obtain ⟨s, ⟨k, a⟩, c⟩ := r
  obtain ⟨s', ⟨k', a'⟩, c'⟩ := q
  obtain ⟨x, h1, h2⟩ := hr
  obtain ⟨y, h3, h4⟩ := hq
  simp only [rsame, Bool.and_eq_true, zeq_ok] at h
  obtain ⟨e1, e2⟩ := h
  subst e1
  dsimp only at h2 h4 ⊢
  cases k with
  | none =>
    cases k' with
    | none =>
      have h1 : x = a := h1
      have h3 : y = a' := h3
      rw [h2, h4, h1, h3]
    | some _ => cases e2
  | some k =>
    cases k' with
    | none => cases e2
    | some k' =>
      have e2 : k = k' := Nat.eq_of_beq_eq_true e2
      subst e2
      obtain ⟨z, g1, g2⟩ := h1
      obtain ⟨z', g3, g4⟩ := h3
      rw [g1] at g3
      cases g3
      dsimp only at g2 g4
      rw [h2, h4, g2, g4, Int.mul_add, Int.mul_add]
      omega
theorem rlt_ok (hI : aIok ρ iv) {r q : aRk} {v w : Int} (h : rlt iv r q = true) (hr : aRv ρ r v) (hq : aRv ρ q w) : v.toNat < w.toNat := by
  simp only [rlt, Bool.and_eq_true, Bool.or_eq_true, zle_ok, zlt_ok] at h
  have b1 := rb_ok hI hr
  have b2 := rb_ok hI hq
  obtain ⟨h1, h2⟩ := h
  rcases h2 with h2 | h2
  · have := rsame_ok h2.1 hr hq
    omega
  · omega
theorem rle_ok (hI : aIok ρ iv) {r q : aRk} {v w : Int} (h : rle iv r q = true) (hr : aRv ρ r v) (hq : aRv ρ q w) : v.toNat ≤ w.toNat := by
  simp only [rle, Bool.and_eq_true, Bool.or_eq_true, zle_ok] at h
  have b1 := rb_ok hI hr
  have b2 := rb_ok hI hq
  rcases h with h2 | h2
  · have := rsame_ok h2.1 hr hq
    omega
  · omega
def aLess (a : Nat × Nat × Nat) (b : Nat × Nat × Nat) : Prop := a.1 < b.1 ∨ (a.1 = b.1 ∧ (a.2.1 < b.2.1 ∨ (a.2.1 = b.2.1 ∧ a.2.2 < b.2.2)))
theorem arank_ok (hI : aIok ρ iv) {g g' : aRank} {v1 v2 w1 w2 : Int} (h : arank iv g' g = true) (h1 : aRv ρ g'.2.1 v1) (h2 : aRv ρ g'.2.2 v2) (h3 : aRv ρ g.2.1 w1) (h4 : aRv ρ g.2.2 w2) : aLess (g'.1, v1.toNat, v2.toNat) (g.1, w1.toNat, w2.toNat) := by
  simp only [arank, Bool.or_eq_true, Bool.and_eq_true, Nat.blt_eq, Nat.beq_eq] at h
  rcases h with h | ⟨h, hh⟩
  · exact Or.inl h
  · refine Or.inr ⟨h, ?_⟩
    rcases hh with hh | ⟨hh, hk⟩
    · exact Or.inl (rlt_ok hI hh h1 h3)
    · have a1 := rle_ok hI hh h1 h3
      have a2 := rlt_ok hI hk h2 h4
      dsimp only
      omega
theorem alocs_ok (hI : aIok ρ iv) (hl : aLm ρ lv l) : ∀ {as : List (Nat × aArg)}, alocs iv lv as = true → ∃ l' : yL, (∀ q ∈ l', q ∈ l) ∧ aAnn as l' ∧ ∀ q ∈ l', ylk l q.1 = some q.2
  | [], _ => ⟨[], fun q hq => (by cases hq), trivial, fun q hq => (by cases hq)⟩
  | a :: r, h => by
    simp only [alocs, Bool.and_eq_true] at h
    obtain ⟨l', k1, k2, k3⟩ := alocs_ok hI hl h.2
    have h1 := h.1
    split at h1
    · next v hv =>
      obtain ⟨y, g1, g2⟩ := alk_ok hl hv
      refine ⟨(a.1, y) :: l', fun q hq => ?_, ⟨rfl, aargI_ok hI h1 g2, k2⟩, fun q hq => ?_⟩
      · rcases List.mem_cons.mp hq with rfl | hq
        · exact ylk_mem g1
        · exact k1 q hq
      · rcases List.mem_cons.mp hq with rfl | hq
        · exact g1
        · exact k3 q hq
    · cases h1
end AR
theorem yG_sub {E : yE} {R : Room} {M : xM} {pc : Nat} {lv lv' : yL} {st : List yV} {mem : yMem} {ce sl : Nat} {Post : Option yV → yMem → Prop} (hs : ∀ q ∈ lv', q ∈ lv) (h : yG E R M pc lv' st mem ce sl Post) : yG E R M pc lv st mem ce sl Post := by
  intro p e s m args below meth c A Qc hC hQ H locs ls hl hP hS
  refine h p e s m args below meth c A Qc hC hQ H locs ls ⟨hl.1, hl.2.1, fun q hq => hl.2.2 q ?_⟩ hP hS
  obtain ⟨z, hz, rfl⟩ := List.mem_map.mp hq
  exact List.mem_map.mpr ⟨z, hs z hz, rfl⟩
section AC
variable {E : yE} {Om : yMem → Prop} {oc : List Nat} {T : List aCon} {c : aCon} {mem0 : yMem} {D : Nat} {M0 : xM} {g : aRank} {v1 v2 : Int}
/-- what is known at a cut -/
def aAt (c : aCon) (mem0 : yMem) (a : aCut) (l : yL) (mem : yMem) : Prop := aAnn a.1 l ∧ aFok a.2.1 mem ∧ aGok mem ∧ aFrm (acW c) mem0 mem
def aHyp (E : yE) (Om : yMem → Prop) (c : aCon) (mem0 : yMem) (D : Nat) (M0 : xM) (b : Nat × Nat × Nat) : Prop := ∀ (pc : Nat) (q : Nat × List aCut), acf (acC c) pc = some q → ∀ a ∈ q.2, ∀ (l : yL) (mem : yMem), aAt c mem0 a l mem → aLess (a.2.2.1, (aexv a.2.2.2.1 l mem).toNat, (aexv a.2.2.2.2 l mem).toNat) b → ∀ Q : Option yV → yMem → Prop, (∀ r mem', aEnd Om c mem0 r mem' → Q r mem') → yG E (yR D) M0 pc l [] mem 0 0 Q
theorem aexv_sub {e : aExp} {l l' : yL} {mem : yMem} {lv : aL} {S : aSt} {ρ : List Int} (h : e.1 = 1 → ylk l' e.2.1 = ylk l e.2.1) : aexv e l' mem = aexv e l mem := by
  obtain ⟨k, i, j, s, z⟩ := e
  match k, h with
  | 0, _ => rfl
  | 1, h =>
    simp only [aexv]
    rw [h rfl]
  | n + 2, _ => rfl
/-- the ranks' locals are among those that are told -/
def acov (a : aCut) : Bool := (!(Nat.beq a.2.2.2.1.1 1) || a.1.any (fun q => Nat.beq q.1 a.2.2.2.1.2.1)) && (!(Nat.beq a.2.2.2.2.1 1) || a.1.any (fun q => Nat.beq q.1 a.2.2.2.2.2.1))
theorem acov_lk {as : List (Nat × aArg)} {l l' : yL} (ha : aAnn as l') (hk : ∀ q ∈ l', ylk l q.1 = some q.2) {i : Nat} (hi : as.any (fun q => Nat.beq q.1 i) = true) : ylk l' i = ylk l i := by
  have key : ∀ (as : List (Nat × aArg)) (m : yL), aAnn as m → (∀ q ∈ m, ylk l q.1 = some q.2) → as.any (fun q => Nat.beq q.1 i) = true → ylk m i = ylk l i := by
    intro as
    induction as with
    | nil => intro m _ _ h; cases h
    | cons a r ih =>
      intro m hm hk h
      cases m with
      | nil => exact hm.elim
      | cons p s =>
        simp only [ylk]
        by_cases hp : Nat.beq p.1 i = true
        · rw [if_pos hp]
          have := hk p List.mem_cons_self
          rw [Nat.beq_eq] at hp
          rw [hp] at this
          exact this.symm
        · rw [if_neg hp]
          refine ih s hm.2.2 (fun q hq => hk q (List.mem_cons_of_mem _ hq)) ?_
          simp only [List.any_cons, Bool.or_eq_true] at h
          rcases h with h | h
          · rw [hm.1] at h
            exact absurd h hp
          · exact h
  exact key as l' ha hk hi
theorem acuts_ok {lv : aL} {S : aSt} {ρ : List Int} {mem : yMem} {l : yL} {Q : Option yV → yMem → Prop} {pc : Nat} {q : Nat × List aCut} (hq : acf (acC c) pc = some q) (hcov : ∀ a ∈ q.2, acov a = true) (hH : aHyp E Om c mem0 D M0 (g.1, v1.toNat, v2.toNat)) (h1 : aRv ρ g.2.1 v1) (h2 : aRv ρ g.2.2 v2) (hS : aSat ρ S mem) (hF : aFrm (acW c) mem0 mem) (hl : aLm ρ lv l) (hK : ∀ r mem', aEnd Om c mem0 r mem' → Q r mem') : ∀ {cs : List aCut}, (∀ a ∈ cs, a ∈ q.2) → acuts lv S g cs = true → yG E (yR D) M0 pc l [] mem 0 0 Q
  | [], _, h => by cases h
  | a :: r, hsub, h => by
    simp only [acuts, Bool.or_eq_true] at h
    rcases h with h | h
    · simp only [acut1, Bool.and_eq_true] at h
      obtain ⟨⟨⟨k1, k2⟩, k3⟩, k4, k5⟩ := h
      obtain ⟨l', g1, g2, g3⟩ := alocs_ok hS.2.2.1 hl k3
      refine yG_sub g1 (hH pc q hq a (hsub a List.mem_cons_self) l' mem ⟨g2, afcts_ok hS k4, hS.1, hF⟩ ?_ Q hK)
      have hc := hcov a (hsub a List.mem_cons_self)
      simp only [acov, Bool.and_eq_true, Bool.or_eq_true, Bool.not_eq_true'] at hc
      have e1 : aexv a.2.2.2.1 l' mem = aexv a.2.2.2.1 l mem := aexv_sub (lv := lv) (S := S) (ρ := ρ) (fun e => by
        rcases hc.1 with z | z
        · rw [e] at z; cases z
        · exact acov_lk g2 g3 z)
      have e2 : aexv a.2.2.2.2 l' mem = aexv a.2.2.2.2 l mem := aexv_sub (lv := lv) (S := S) (ρ := ρ) (fun e => by
        rcases hc.2 with z | z
        · rw [e] at z; cases z
        · exact acov_lk g2 g3 z)
      rw [e1, e2]
      exact arank_ok hS.2.2.1 k5 (arr_ok hl hS k1) (arr_ok hl hS k2) h1 h2
    · exact acuts_ok hq hcov hH h1 h2 hS hF hl hK (fun z hz => hsub z (List.mem_cons_of_mem _ hz)) h
theorem ai_ok (hE : yEok E) (hT : ∀ e ∈ T, aSnd Om e) (hO : aOmF oc Om) (hdis : adis oc (acW c) = true) (hOm0 : Om mem0) (hcD : acD c ≤ D) (hcov : ∀ pc q, acf (acC c) pc = some q → ∀ a ∈ q.2, acov a = true) (hH : aHyp E Om c mem0 D M0 (g.1, v1.toNat, v2.toNat)) : ∀ n : Nat, aRs E Om c mem0 D M0 g v1 v2 (ai T c g n) := by
  intro n
  induction n with
  | zero =>
    intro M pc lv st frs S h
    cases h
  | succ n ih =>
    intro M pc lv st frs S h hM hfl ρ mem d l s Q hX hDd hS hF hl hs hK
    rw [ai_succ] at h
    simp only [ago] at h
    split at h
    · next q hq =>
      split at h
      · have e := hX.1
        have e : M = M0 := e
        subst e
        rw [aSm_nil hs]
        simp only [List.length_nil, Nat.add_zero] at hDd
        rw [← hDd]
        obtain ⟨q1, q2⟩ := q
        unfold acutc at h
        dsimp only at h
        split at h
        · exact acuts_ok hq (hcov pc _ hq) hH hX.2.1 hX.2.2 hS hF hl hK (fun a ha => ha) h
        · split at h
          · next v hv =>
            split at h
            · next h3 =>
              obtain ⟨y, -, h2⟩ := alk_ok hl hv
              obtain ⟨g9, k, z⟩ := v
              have h3 : g9 = 3 := Nat.eq_of_beq_eq_true h3
              subst h3
              obtain ⟨-, x, f1, -⟩ := h2
              obtain ⟨S', f2, f3, f4, -, -⟩ := aspl_ok hS f1 h
              exact acuts_ok hq (hcov pc _ hq) hH hX.2.1 hX.2.2 f4 hF hl hK (fun a ha => ha) f3
            · exact acuts_ok hq (hcov pc _ hq) hH hX.2.1 hX.2.2 hS hF hl hK (fun a ha => ha) h
          · cases h
      · cases h
    · split at h
      · cases h
      · next op hop => exact astep_ok hX hE hT hO hdis hOm0 hcD ih hM hfl hDd hS hF hl hs hK (hM.2.2.2.2.2 _ (xfind_mem hop)) h
theorem lex3 {P : Nat × Nat × Nat → Prop} (h : ∀ b, (∀ a, aLess a b → P a) → P b) : ∀ b, P b := by
  have k : ∀ (n m k : Nat), P (n, m, k) := by
    intro n
    induction n using Nat.strongRecOn with
    | _ n ihn =>
      intro m
      induction m using Nat.strongRecOn with
      | _ m ihm =>
        intro k
        induction k using Nat.strongRecOn with
        | _ k ihk =>
          refine h _ (fun a ha => ?_)
          obtain ⟨a1, a2, a3⟩ := a
          rcases ha with ha | ⟨e, ha⟩
          · exact ihn a1 ha a2 a3
          · have e : a1 = n := e
            subst e
            rcases ha with ha | ⟨e, ha⟩
            · exact ihm a2 ha a3
            · have e : a2 = m := e
              subst e
              exact ihk a3 ha
  exact fun b => k b.1 b.2.1 b.2.2
theorem acf_mem {pc : Nat} {q : Nat × List aCut} : ∀ {cs : List (Nat × Nat × List aCut)}, acf cs pc = some q → (pc, q) ∈ cs
  | p :: r, h => by
    simp only [acf] at h
    split at h
    · next e =>
      cases h
      rw [Nat.beq_eq] at e
      subst e
      exact List.mem_cons_self
    · exact List.mem_cons_of_mem _ (acf_mem h)
theorem abeg_ok {a : aCut} {l : yL} {mem : yMem} (h : aAt c mem0 a l mem) : ∃ ρ, aLm ρ (abeg a).1 l ∧ aSat ρ (abeg a).2 mem := by
  obtain ⟨h1, h2, h3, h4⟩ := h
  obtain ⟨σ, g1, g2⟩ := albeg_ok (iv := []) (ρ := []) h1 ⟨rfl, fun k q hk => by simp at hk⟩
  rw [List.nil_append] at g1 g2
  obtain ⟨τ, g3, g4⟩ := afbeg_ok (mp := []) h2 (fun q hq => by cases hq) g2
  exact ⟨σ ++ τ, aLm_grow g1, h3, g3, g4, fun q hq => by cases hq⟩
theorem arun_ok (hE : yEok E) (hT : ∀ e ∈ T, aSnd Om e) (hO : aOmF oc Om) (hdis : adis oc (acW c) = true) (hOm0 : Om mem0) (h1D : 1 ≤ acD c) (hcD : acD c ≤ D) (hM0 : xMok xmt M0) (hcov : ∀ pc q, acf (acC c) pc = some q → ∀ a ∈ q.2, acov a = true) (hH : aHyp E Om c mem0 D M0 (g.1, v1.toNat, v2.toNat)) {n pc : Nat} {lv : aL} {S : aSt} {ρ : List Int} {l : yL} {mem : yMem} {Q : Option yV → yMem → Prop} (h1 : aRv ρ g.2.1 v1) (h2 : aRv ρ g.2.2 v2) (hl : aLm ρ lv l) (hS : aSat ρ S mem) (hF : aFrm (acW c) mem0 mem) (hK : ∀ r mem', aEnd Om c mem0 r mem' → Q r mem') (h : arun T c g n M0 pc lv S = true) : yG E (yR D) M0 pc l [] mem 0 0 Q := by
  unfold arun at h
  split at h
  · cases h
  · next op hop =>
    obtain ⟨d, rfl⟩ : ∃ d, D = d + 1 := ⟨D - 1, by omega⟩
    exact astep_ok (d := d) (frs := []) (st := []) (s := []) ⟨rfl, h1, h2⟩ hE hT hO hdis hOm0 hcD (ai_ok hE hT hO hdis hOm0 hcD hcov hH n) hM0 (by simp only [List.length_nil]; omega) (by simp) hS hF hl trivial hK (hM0.2.2.2.2.2 _ (xfind_mem hop)) h
theorem achkC_ok {n pc : Nat} {M : xM} : ∀ {cs : List aCut}, achkC T c n M pc cs = true → ∀ a ∈ cs, aexok (abeg a).1 (abeg a).2 a.2.2.2.1 = true ∧ aexok (abeg a).1 (abeg a).2 a.2.2.2.2 = true ∧ arun T c (a.2.2.1, arr (abeg a).1 (abeg a).2 a.2.2.2.1, arr (abeg a).1 (abeg a).2 a.2.2.2.2) n M pc (abeg a).1 (abeg a).2 = true
  | [], _, a, ha => by cases ha
  | p :: r, h, a, ha => by
    simp only [achkC, Bool.and_eq_true] at h
    rcases List.mem_cons.mp ha with rfl | ha
    · exact ⟨h.1.1.1, h.1.1.2, h.1.2⟩
    · exact achkC_ok h.2 a ha
theorem achkL_ok {n : Nat} {M : xM} : ∀ {cs : List (Nat × Nat × List aCut)}, achkL T c n M cs = true → ∀ q ∈ cs, achkC T c n M q.1 q.2.2 = true
  | [], _, q, hq => by cases hq
  | p :: r, h, q, hq => by
    simp only [achkL, Bool.and_eq_true] at h
    rcases List.mem_cons.mp hq with rfl | hq
    · exact h.1
    · exact achkL_ok h.2 q hq
end AC
def acovL (c : aCon) : Bool := (acC c).all (fun q => q.2.2.all acov)
def asumA : List aArg → Nat
  | [] => 0
  | a :: r => (if Nat.beq a.1 8 then 2 else 1) + asumA r
theorem asumA_ok : ∀ {as : List aArg} {ys : List yV}, aArgsOk as ys → asumA as = ysum ys
  | [], [], _ => rfl
  | a :: r, y :: s, h => by
    have e : (if Nat.beq a.1 8 then 2 else 1) = ycat y := by
      obtain ⟨g, c, lo, hi⟩ := a
      obtain ⟨y1, y2⟩ := y
      match g, h.1 with
      | 0, h => have e : y1 = 0 := h.1; subst e; rfl
      | 3, h => have e : y1 = 0 := h.1; subst e; rfl
      | 1, h => have e : ((y1, y2) : yV) = (1, (c : Int)) := h; cases e; rfl
      | 8, h => have e : y1 = 4 := h; subst e; rfl
      | 2, h | 4, h | 5, h | 6, h | 7, h => exact h.elim
      | n + 9, h => exact h.elim
    simp only [asumA, ysum, e, asumA_ok h.2]
  | [], _ :: _, h => h.elim
  | _ :: _, [], h => h.elim
/-- all that is asked of a contract besides its runs -/
def acok (oc : List Nat) (c : aCon) : Bool := adis oc (acW c) && (acovL c && (match xmt[acM c]? with
  | some M => Nat.ble (asumA (acA c)) (xMl M)
  | none => false))
/-- A CONTRACT BY A RUN -/
theorem aSnd_of {Om : yMem → Prop} {oc : List Nat} {T : List aCon} {c : aCon} (hO : aOmF oc Om) (hT : ∀ e ∈ T, aSnd Om e) (n : Nat) (hk : acok oc c = true) (h : achk T c n = true) : aSnd Om c := by
  intro E hE D hD M hM args mem Q hA hG hOm hP hQ
  simp only [acok, Bool.and_eq_true] at hk
  obtain ⟨hdis, hcv, hsz⟩ := hk
  unfold achk at h
  rw [hM] at h hsz
  simp only [Bool.and_eq_true, Nat.ble_eq] at h hsz
  obtain ⟨h1, h2, h3⟩ := h
  have hM0 := xmt_ok _ M hM
  have hcov : ∀ pc q, acf (acC c) pc = some q → ∀ a ∈ q.2, acov a = true := fun pc q hq a ha => List.all_eq_true.mp (List.all_eq_true.mp hcv _ (acf_mem hq)) a ha
  have hH : ∀ b, aHyp E Om c mem D M b := by
    intro b
    refine lex3 (P := fun b => aHyp E Om c mem D M b) ?_ b
    intro b ih pc q hq a ha l mem' hat hless Q' hQ'
    obtain ⟨ρ, g1, g2⟩ := abeg_ok hat
    obtain ⟨k1, k2, k3⟩ := achkC_ok (achkL_ok h3 _ (acf_mem hq)) a ha
    exact arun_ok (g := (a.2.2.1, arr (abeg a).1 (abeg a).2 a.2.2.2.1, arr (abeg a).1 (abeg a).2 a.2.2.2.2)) (v1 := aexv a.2.2.2.1 l mem') (v2 := aexv a.2.2.2.2 l mem') hE hT hO hdis hOm h1 hD hM0 hcov (ih _ hless) (arr_ok g1 g2 k1) (arr_ok g1 g2 k2) g1 g2 hat.2.2.2 hQ' k3
  refine yCon_of hM0 (by rw [← asumA_ok hA]; exact hsz) ?_
  have hat : aAt c mem (aidx 0 (acA c), acP c, 0, (0, 0, 0, 0, 0), (0, 0, 0, 0, 0)) (yargs 0 args) mem := ⟨aidx_ok 0 hA, hP, hG, aFrm_refl⟩
  obtain ⟨ρ, g1, g2⟩ := abeg_ok hat
  exact arun_ok (g := (1000000, azr, azr)) (v1 := 0) (v2 := 0) hE hT hO hdis hOm h1 hD hM0 hcov (hH _) ⟨0, rfl, rfl⟩ ⟨0, rfl, rfl⟩ g1 g2 aFrm_refl hQ h2
end
section
/-! SYMBOLIC RUNS BY REWRITING. Registers: a list, one entry a local; zvc runs a method's instructions (n of them at most, up to a cut, into small callees) and says what must hold; s_.. rows rewrite it instruction by instruction. -/
abbrev zR : Type := List (Option yV)
def zrl : Nat → zR → yL
  | _, [] => []
  | i, none :: r => zrl (i + 1) r
  | i, some v :: r => (i, v) :: zrl (i + 1) r
def zG (E : yE) (d : Nat) (M : xM) (pc : Nat) (rg : zR) (st : List yV) (mem : yMem) (Post : Option yV → yMem → Prop) : Prop := yG E (yR (d + 1)) M pc (zrl 0 rg) st mem 0 0 Post
theorem zG_sub {E : yE} {R : Room} {M : xM} {pc : Nat} {lv lv' : yL} {st : List yV} {mem : yMem} {ce sl : Nat} {Post : Option yV → yMem → Prop} (hs : ∀ q ∈ lv', q ∈ lv) (h : yG E R M pc lv' st mem ce sl Post) : yG E R M pc lv st mem ce sl Post := by
  intro p e s m args below meth c A Qc hC hQ H locs ls hl hP hS
  refine h p e s m args below meth c A Qc hC hQ H locs ls ⟨hl.1, hl.2.1, fun q hq => ?_⟩ hP hS
  obtain ⟨a, ha, rfl⟩ := List.mem_map.mp hq
  exact hl.2.2 _ (List.mem_map.mpr ⟨a, hs a ha, rfl⟩)
theorem yCon_mono {E : yE} {d : Nat} {M : xM} {avs : List yV} {mem : yMem} {P1 P2 : Option yV → yMem → Prop} (h : yCon E d M avs mem P1) (hp : ∀ r mem', P1 r mem' → P2 r mem') : yCon E d M avs mem P2 := by
  intro sz hb p e ha hc hk s m args below hf happ hP hK
  obtain ⟨n, o, h1, h2, h3, ⟨r, mem', k1, k2⟩, h5⟩ := h sz hb p e ha hc hk s m args below hf happ hP hK
  exact ⟨n, o, h1, h2, h3, ⟨r, mem', hp _ _ k1, k2⟩, h5⟩
def znl (q : Option yV) : Option yV := match q with
  | some v => (match ycat v with
    | 2 => none
    | _ => some v)
  | none => none
def zdr : zR → zR
  | [] => []
  | _ :: r => none :: r
def zset (k : Nat) (v : yV) : zR → Nat → zR
  | [], _ => []
  | _ :: r, 0 => some v :: (match k with
    | 2 => zdr r
    | _ => r)
  | q :: r, i + 1 => (match i with
    | 0 => znl q
    | _ => q) :: zset k v r i
theorem zrl_lo : ∀ (rg : zR) (o : Nat) (q : Nat × yV), q ∈ zrl o rg → o ≤ q.1
  | [], _, q, h => by cases h
  | none :: r, o, q, h => by have := zrl_lo r (o + 1) q h; omega
  | some v :: r, o, q, h => by
    rcases List.mem_cons.mp h with rfl | h
    · exact Nat.le_refl _
    · have := zrl_lo r (o + 1) q h; omega
theorem zrl_cons {o : Nat} {q0 : Option yV} {r : zR} {q : Nat × yV} (h : q ∈ zrl (o + 1) r) : q ∈ zrl o (q0 :: r) := by
  cases q0 with
  | none => exact h
  | some v => exact List.mem_cons_of_mem _ h
theorem yfl_far {k i : Nat} {q : Nat × yV} (h1 : i + 2 ≤ q.1) : yflb k i q = true := by
  have e1 : Nat.beq q.1 i = false := by rw [← Bool.not_eq_true, Nat.beq_eq]; omega
  have e2 : Nat.beq q.1 (i + 1) = false := by rw [← Bool.not_eq_true, Nat.beq_eq]; omega
  have e3 : Nat.beq (q.1 + 1) i = false := by rw [← Bool.not_eq_true, Nat.beq_eq]; omega
  unfold yflb
  split <;> simp [e1, e2, e3]
theorem yfl_next {k i : Nat} {q : Nat × yV} (hk : k ≠ 2) (h1 : i + 1 ≤ q.1) : yflb k i q = true := by
  have e1 : Nat.beq q.1 i = false := by rw [← Bool.not_eq_true, Nat.beq_eq]; omega
  have e3 : Nat.beq (q.1 + 1) i = false := by rw [← Bool.not_eq_true, Nat.beq_eq]; omega
  unfold yflb
  split
  · exact absurd rfl hk
  · simp [e1, e3]
theorem yfl_prev {k i : Nat} {q : Nat × yV} (h1 : q.1 < i) (h2 : q.1 + 1 = i → ycat q.2 ≠ 2) : yflb k i q = true := by
  have e1 : Nat.beq q.1 i = false := by rw [← Bool.not_eq_true, Nat.beq_eq]; omega
  have e2 : Nat.beq q.1 (i + 1) = false := by rw [← Bool.not_eq_true, Nat.beq_eq]; omega
  have e3 : (Nat.beq (q.1 + 1) i && Nat.beq (ycat q.2) 2) = false := by
    rw [← Bool.not_eq_true, Bool.and_eq_true, Nat.beq_eq, Nat.beq_eq]
    exact fun h => h2 h.1 h.2
  unfold yflb
  split <;> simp [e1, e2, e3]
theorem zset_ok {k : Nat} {v : yV} : ∀ (rg : zR) (o i : Nat) (q : Nat × yV), q ∈ zrl o (zset k v rg i) → q ∈ (o + i, v) :: (zrl o rg).filter (yflb k (o + i))
  | [], o, i, q, h => by cases h
  | q0 :: r, o, 0, q, h => by
    have key : ∀ r' : zR, q ∈ zrl (o + 1) r' → q ∈ zrl (o + 1) r → yflb k o q = true → q ∈ (o + 0, v) :: (zrl o (q0 :: r)).filter (yflb k (o + 0)) := fun r' _ h2 h3 =>
      List.mem_cons_of_mem _ (List.mem_filter.mpr ⟨zrl_cons h2, by rw [Nat.add_zero]; exact h3⟩)
    simp only [zset] at h
    rcases List.mem_cons.mp h with rfl | h
    · exact List.mem_cons_self
    · split at h
      · match r, h with
        | a :: r', h =>
          have h1 := zrl_lo r' (o + 2) q h
          exact key _ (zrl_cons (q0 := none) h) (zrl_cons h) (yfl_far h1)
      · next hk => exact key _ h h (yfl_next (fun e => hk e) (zrl_lo _ _ _ h))
  | q0 :: r, o, i + 1, q, h => by
    simp only [zset] at h
    have rest : q ∈ zrl (o + 1) (zset k v r i) → q ∈ (o + (i + 1), v) :: (zrl o (q0 :: r)).filter (yflb k (o + (i + 1))) := by
      intro h
      have := zset_ok r (o + 1) i q h
      rw [show o + 1 + i = o + (i + 1) by omega] at this
      rcases List.mem_cons.mp this with h | h
      · rw [h]; exact List.mem_cons_self
      · obtain ⟨h1, h2⟩ := List.mem_filter.mp h
        exact List.mem_cons_of_mem _ (List.mem_filter.mpr ⟨zrl_cons h1, h2⟩)
    have one : ∀ w : yV, q0 = some w → q = (o, w) → (i = 0 → ycat w ≠ 2) → q ∈ (o + (i + 1), v) :: (zrl o (q0 :: r)).filter (yflb k (o + (i + 1))) := by
      intro w h1 h2 h3
      subst h1; subst h2
      exact List.mem_cons_of_mem _ (List.mem_filter.mpr ⟨List.mem_cons_self, yfl_prev (show o < o + (i + 1) by omega) (fun e => h3 (by dsimp only at e; omega))⟩)
    split at h
    · cases q0 with
      | none => exact rest h
      | some w =>
        simp only [znl] at h
        split at h
        · exact rest h
        · next hw =>
          rcases List.mem_cons.mp h with h | h
          · exact one w rfl h (fun _ => hw)
          · exact rest h
    · next hi =>
      cases q0 with
      | none => exact rest h
      | some w =>
        rcases List.mem_cons.mp h with h | h
        · exact one w rfl h (fun e => absurd e hi)
        · exact rest h
theorem zrl_get : ∀ (rg : zR) (o i : Nat) (v : yV), rg[i]? = some (some v) → ylk (zrl o rg) (o + i) = some v
  | [], o, i, v, h => by simp at h
  | none :: r, o, 0, v, h => by simp at h
  | some w :: r, o, 0, v, h => by
    simp only [List.getElem?_cons_zero, Option.some.injEq] at h
    subst h
    simp only [zrl, ylk, Nat.add_zero]
    rw [if_pos ((Nat.beq_eq (x := o) (y := o)).mpr rfl)]
  | none :: r, o, i + 1, v, h => by
    have := zrl_get r (o + 1) i v (by simpa using h)
    rw [show o + 1 + i = o + (i + 1) by omega] at this
    exact this
  | some w :: r, o, i + 1, v, h => by
    have := zrl_get r (o + 1) i v (by simpa using h)
    rw [show o + 1 + i = o + (i + 1) by omega] at this
    simp only [zrl, ylk]
    rw [if_neg (by rw [Nat.beq_eq]; omega)]
    exact this
/-- how long the array at cell z is, if its elements are of type t -/
def zar (z : Int) (t : Nat) : Nat := match ysh[z.toNat]? with
  | some (.inl (t', n, _)) => if t' = t then n else 0
  | _ => 0
theorem zar_ok {z : Int} {t : Nat} {j : Int} (h1 : 0 ≤ j) (h2 : j < ((zar z t : Nat) : Int)) : ∃ n rs, ysh[z.toNat]? = some (.inl (t, n, rs)) ∧ zar z t = n := by
  unfold zar at h2 ⊢
  split at h2
  · next t' n rs e =>
    split at h2
    · next e2 => subst e2; rw [if_pos rfl]; exact ⟨n, rs, e, rfl⟩
    · omega
  · omega
def zcut (cs : List Nat) (pc : Nat) : Bool := match cs with
  | [] => false
  | a :: r => Nat.beq a pc || zcut r pc
def zis (l : List Nat) (a : Nat) : Bool := match l with
  | [] => false
  | b :: r => Nat.beq a b || zis r a
def zarg : Nat → List yV → zR
  | m, [] => List.replicate m none
  | m, v :: r => match ycat v with
    | 2 => some v :: none :: zarg (m - 2) r
    | _ => some v :: zarg (m - 1) r
theorem zrl_none : ∀ (m o : Nat), zrl o (List.replicate m none) = []
  | 0, _ => rfl
  | m + 1, o => by rw [List.replicate_succ]; exact zrl_none m (o + 1)
theorem ycat_12 (v : yV) : ycat v = 1 ∨ ycat v = 2 := by
  match v with
  | (0, _) | (1, _) | (2, _) | (5, _) | (6, _) | (7, _) => exact Or.inl rfl
  | (3, _) | (4, _) => exact Or.inr rfl
  | (n + 8, _) => exact Or.inr rfl
theorem zarg_ok : ∀ (vs : List yV) (m o : Nat), zrl o (zarg m vs) = yargs o vs
  | [], m, o => zrl_none m o
  | v :: r, m, o => by
    rcases ycat_12 v with e | e
    · simp only [zarg, yargs, e]
      show (o, v) :: zrl (o + 1) (zarg (m - 1) r) = _
      rw [zarg_ok r]
    · simp only [zarg, yargs, e]
      show (o, v) :: zrl (o + 1 + 1) (zarg (m - 2) r) = _
      rw [zarg_ok r]
theorem zcon_of {E : yE} {d : Nat} {M : xM} (hM : xMok xmt M) {avs : List yV} {mem : yMem} {Post : Option yV → yMem → Prop} (hs : ysum avs ≤ xMl M) (h : zG E d M 0 (zarg (xMl M) avs) [] mem Post) : yCon E (d + 1) M avs mem Post := by
  refine yCon_of hM hs ?_
  have := h
  unfold zG at this
  rw [zarg_ok] at this
  exact this
end
section
/-- small methods that a symbolic run goes into -/
def zin : List Nat := [143, 170, 173, 178, 181, 183, 184, 185, 188, 189, 190, 191, 192, 194, 196, 197, 198, 200, 202, 219, 220, 221, 254, 160, 34, 17, 20, 139, 62, 63, 64, 66, 72, 78, 79, 81, 82, 103, 104, 101, 123, 124, 125, 119, 258, 259, 260, 262, 264]
def zpop : Nat → List yV → List yV → Option (List yV × List yV)
  | 0, acc, st => some (acc, st)
  | n + 1, acc, v :: st => zpop n (v :: acc) st
  | _ + 1, _, [] => none
theorem zpop_ok : ∀ {n : Nat} {acc st as r : List yV}, zpop n acc st = some (as, r) → n ≤ st.length ∧ as = (st.take n).reverse ++ acc ∧ r = st.drop n
  | 0, acc, st, as, r, h => by
    simp only [zpop, Option.some.injEq, Prod.mk.injEq] at h
    obtain ⟨rfl, rfl⟩ := h
    simp
  | n + 1, acc, [], as, r, h => by cases h
  | n + 1, acc, v :: st, as, r, h => by
    obtain ⟨h1, h2, h3⟩ := zpop_ok (n := n) h
    refine ⟨by rw [List.length_cons]; omega, ?_, by rw [h3]; rfl⟩
    rw [h2, List.take_succ_cons, List.reverse_cons, List.append_assoc]
    rfl
/-- is the cell z an array of type t; an object of class c; how long is the array -/
def zit (z : Int) (t : Nat) : Bool := match ysh[z.toNat]? with
  | some (.inl (t', _, _)) => Nat.beq t' t
  | _ => false
def zio (z : Int) (c : Nat) : Bool := match ysh[z.toNat]? with
  | some (.inr (c', _)) => Nat.beq c' c
  | _ => false
def zia (z : Int) : Bool := match ysh[z.toNat]? with
  | some (.inl (t, _, _)) => Nat.blt t 5
  | _ => false
def zln (z : Int) : Nat := match ysh[z.toNat]? with
  | some (.inl (_, n, _)) => n
  | _ => 0
theorem zit_ok {z : Int} {t : Nat} (h : zit z t = true) : ∃ rs, ysh[z.toNat]? = some (.inl (t, zar z t, rs)) := by
  unfold zit at h
  unfold zar
  split at h
  · next t' n rs e =>
    rw [Nat.beq_eq] at h
    subst h
    refine ⟨rs, ?_⟩
    rw [e]
    simp
  · cases h
theorem zio_ok {z : Int} {c : Nat} (h : zio z c = true) : ∃ fs, ysh[z.toNat]? = some (.inr (c, fs)) := by
  unfold zio at h
  split at h
  · next t' fs e =>
    rw [Nat.beq_eq] at h
    subst h
    exact ⟨fs, e⟩
  · cases h
theorem zia_ok {z : Int} (h : zia z = true) : ∃ t rs, ysh[z.toNat]? = some (.inl (t, zln z, rs)) ∧ t < 5 := by
  unfold zia at h
  unfold zln
  split at h
  · next t n rs e =>
    refine ⟨t, rs, ?_, ?_⟩
    · rw [e]
    · exact Nat.le_of_ble_eq_true h
  · cases h
def zcall (E : yE) (d mi n0 nx : Nat) (rg : zR) (st : List yV) (mem : yMem) (rcv : List yV → Prop) (k : Nat → zR → List yV → yMem → Prop) (kg : Nat → zR → List yV → yMem → Prop) (kin : xM → List yV → yMem → (Option yV → yMem → Prop) → Prop) : Prop := match xmt[mi]? with
  | none => False
  | some M' => match zpop (xMn M' + n0) [] st with
    | none => False
    | some (as, r) => match Nat.ble (xMl M') 45 && Nat.ble (ysum as) (xMl M') with
      | false => False
      | true => rcv as ∧ ysum r ≤ 8 ∧ (match zis zin mi with
        | true => kin M' as mem (fun v mem' => k nx rg (yput r v) mem')
        | false => yCon E d M' as mem (fun v mem' => kg nx rg (yput r v) mem'))
def zsw (x : Int) (k : Nat → Prop) (dflt : Nat) : List (Nat × Nat) → Prop
  | [] => k dflt
  | q :: r => (w32 x = cI q.1 → k q.2) ∧ (¬ w32 x = cI q.1 → zsw x k dflt r)
theorem cI_inj {a b : Nat} (ha : a < 4294967296) (hb : b < 4294967296) (h : cI a = cI b) : a = b := by
  have e : ∀ a : Nat, cI a = if a < 2147483648 then (a : Int) else (a : Int) - 4294967296 := fun a => by
    unfold cI
    by_cases h : a < 2147483648
    · rw [if_pos h, if_pos (show a.blt 2147483648 = true from Nat.ble_eq_true_of_le h)]
    · rw [if_neg h, if_neg (fun z : a.blt 2147483648 = true => h (Nat.le_of_ble_eq_true z))]
  rw [e, e] at h
  split at h <;> split at h <;> omega
theorem zsw_ok {x : Int} {k : Nat → Prop} {dflt : Nat} : ∀ {cs : List (Nat × Nat)}, acsl cs = true → zsw x k dflt cs → (∀ q ∈ cs, w32 x = cI q.1 → k q.2) ∧ ((∀ q ∈ cs, ¬ w32 x = cI q.1) → k dflt) ∧ (∀ q ∈ cs, q.1 < 4294967296)
  | [], _, h => ⟨fun q hq => (by cases hq), fun _ => h, fun q hq => (by cases hq)⟩
  | q :: r, hc, h => by
    simp only [acsl, Bool.and_eq_true, Bool.not_eq_true'] at hc
    obtain ⟨h1, h2, h3⟩ := hc
    have hb : q.1 < 4294967296 := Nat.le_of_ble_eq_true h1
    by_cases e : w32 x = cI q.1
    · refine ⟨fun p hp e2 => ?_, fun h => absurd e (h q List.mem_cons_self), fun p hp => ?_⟩
      · rcases List.mem_cons.mp hp with rfl | hp
        · exact h.1 e
        · exfalso
          rw [List.any_eq_false] at h2
          have hp2 : p.1 < 4294967296 := by
            have : ∀ (l : List (Nat × Nat)), acsl l = true → ∀ p ∈ l, p.1 < 4294967296 := by
              intro l
              induction l with
              | nil => intro _ p hp; cases hp
              | cons a l ih =>
                intro hl p hp
                simp only [acsl, Bool.and_eq_true] at hl
                rcases List.mem_cons.mp hp with rfl | hp
                · exact Nat.le_of_ble_eq_true hl.1
                · exact ih hl.2.2 p hp
            exact this r h3 p hp
          exact h2 p hp (Nat.beq_eq.mpr (cI_inj hp2 hb (by rw [← e2, e])))
      · rcases List.mem_cons.mp hp with rfl | hp
        · exact hb
        · have : ∀ (l : List (Nat × Nat)), acsl l = true → ∀ p ∈ l, p.1 < 4294967296 := by
            intro l
            induction l with
            | nil => intro _ p hp; cases hp
            | cons a l ih =>
              intro hl p hp
              simp only [acsl, Bool.and_eq_true] at hl
              rcases List.mem_cons.mp hp with rfl | hp
              · exact Nat.le_of_ble_eq_true hl.1
              · exact ih hl.2.2 p hp
          exact this r h3 p hp
    · obtain ⟨g1, g2, g3⟩ := zsw_ok h3 (h.2 e)
      refine ⟨fun p hp e2 => ?_, fun h => g2 (fun p hp => h p (List.mem_cons_of_mem _ hp)), fun p hp => ?_⟩
      · rcases List.mem_cons.mp hp with rfl | hp
        · exact absurd e2 e
        · exact g1 p hp e2
      · rcases List.mem_cons.mp hp with rfl | hp
        · exact hb
        · exact g3 p hp
def zstep (E : yE) (d : Nat) (M : xM) (op : xOp) (rg : zR) (st : List yV) (mem : yMem) (Post : Option yV → yMem → Prop) (k : Nat → zR → List yV → yMem → Prop) (kg : Nat → zR → List yV → yMem → Prop) (kin : xM → List yV → yMem → (Option yV → yMem → Prop) → Prop) : Prop := match op.1 with
  | 2 => match rg[op.2.2.2.1]? with
    | some (some v) => (match ykdb op.2.2.1 v with
      | true => k op.2.1 rg (v :: st) mem
      | false => False)
    | _ => False
  | 3 => match st with
    | v :: st' => (match ykdb op.2.2.1 v && Nat.blt (op.2.2.2.1 + xwd op.2.2.1) (xMl M) with
      | true => k op.2.1 (zset op.2.2.1 v rg op.2.2.2.1) st' mem
      | false => False)
    | [] => False
  | 4 => match rg[op.2.2.1]? with
    | some (some (0, x)) => (match Nat.blt op.2.2.1 (xMl M) with
      | true => k op.2.1 (zset 0 (0, x + cI op.2.2.2.1) rg op.2.2.1) st mem
      | false => False)
    | _ => False
  | 5 => match st with
    | (0, y) :: (0, x) :: st' => (match op.2.2.1 with
      | 9 => ¬ w32 y = 0 ∧ k op.2.1 rg ((0, ybin 9 x y) :: st') mem
      | 10 => ¬ w32 y = 0 ∧ k op.2.1 rg ((0, ybin 10 x y) :: st') mem
      | o => k op.2.1 rg ((0, ybin o x y) :: st') mem)
    | _ => False
  | 9 => match st with
    | v :: st' => (match ycat v with
      | 1 => k op.2.1 rg (v :: v :: st') mem
      | _ => False)
    | _ => False
  | 10 => match st with
    | v :: st' => (match ycat v with
      | 1 => k op.2.1 rg st' mem
      | _ => False)
    | _ => False
  | 11 => match st with
    | v :: w :: st' => (match ycat v, ycat w with
      | 1, 1 => k op.2.1 rg (v :: w :: v :: w :: st') mem
      | _, _ => False)
    | _ => False
  | 15 => match st with
    | (0, x) :: st' => (match acsl op.2.2.2.2 with
      | true => zsw x (fun t => k t rg st' mem) op.2.2.1 op.2.2.2.2
      | false => False)
    | _ => False
  | 16 => match st with
    | (1, i) :: st' => (match ysh[i.toNat]? with
      | some (.inr (ci, fs)) => (match Nat.beq ci op.2.2.1, fs[op.2.2.2.1]? with
        | true, some v => k op.2.1 rg (yfv v (mem i.toNat op.2.2.2.1) :: st') mem
        | _, _ => False)
      | _ => False)
    | _ => False
  | 17 => match st, op.2.2.2.2 with
    | v :: (1, i) :: st', [q] => (match ysh[i.toNat]? with
      | some (.inr (ci, fs)) => (match Nat.beq ci op.2.2.1, fs[op.2.2.2.1]? with
        | true, some w => (match q.1, Nat.beq v.1 0 && Nat.beq w.1 0 with
          | 0, true => k op.2.1 rg st' (yset mem i.toNat op.2.2.2.1 v.2)
          | 3, true => (w32 v.2 = 0 ∨ w32 v.2 = 1) ∧ k op.2.1 rg st' (yset mem i.toNat op.2.2.2.1 v.2)
          | _, _ => False)
        | _, _ => False)
      | _ => False)
    | _, _ => False
  | 18 => match st with
    | (1, i) :: st' => zia i = true ∧ k op.2.1 rg ((0, ((zln i : Nat) : Int)) :: st') mem
    | (6, i) :: st' => i.toNat < 3 ∧ k op.2.1 rg ((0, ((xlen.getD i.toNat 0 : Nat) : Int)) :: st') mem
    | _ => False
  | 19 => match st with
    | (0, j) :: (1, i) :: st' => (0 ≤ w32 j ∧ w32 j < ((zar i op.2.2.1 : Nat) : Int)) ∧ k op.2.1 rg ((0, mem i.toNat (w32 j).toNat) :: st') mem
    | _ => False
  | 20 => match st with
    | (0, j) :: (1, i) :: st' => ∃ n rs q, ysh[i.toNat]? = some (.inl (4, n, rs)) ∧ 0 ≤ w32 j ∧ w32 j < (n : Int) ∧ rs[(w32 j).toNat]? = some q ∧ k op.2.1 rg ((1, (q : Int)) :: st') mem
    | _ => False
  | 21 => match st with
    | (0, x) :: (0, j) :: (1, i) :: st' => (0 ≤ w32 j ∧ w32 j < ((zar i op.2.2.1 : Nat) : Int)) ∧ (match op.2.2.1 with
      | 0 => k op.2.1 rg st' (yset mem i.toNat (w32 j).toNat x)
      | t => ynok t x ∧ k op.2.1 rg st' (yset mem i.toNat (w32 j).toNat x))
    | _ => False
  | 26 => match st with
    | (0, n) :: (0, dp) :: (1, dd) :: (0, sp) :: (1, ss) :: st' => ysum st' ≤ 8 ∧ zit ss 0 = true ∧ zit dd 0 = true ∧ 0 ≤ w32 n ∧ 0 ≤ w32 sp ∧ 0 ≤ w32 dp ∧ w32 sp + w32 n ≤ ((zar ss 0 : Nat) : Int) ∧ w32 dp + w32 n ≤ ((zar dd 0 : Nat) : Int) ∧ k op.2.1 rg st' (ycpy mem ss.toNat (w32 sp).toNat dd.toNat (w32 dp).toNat (w32 n).toNat)
    | _ => False
  | 27 => zcall E d op.2.2.1 0 op.2.1 rg st mem (fun _ => True) k kg kin
  | 47 => zcall E d op.2.2.1 0 op.2.1 rg st mem (fun _ => True) k kg kin
  | 28 => zcall E d op.2.2.1 1 op.2.1 rg st mem (fun as => match as with
    | (1, i) :: _ => zio i op.2.2.2.1 = true
    | _ => False) k kg kin
  | 39 => zcall E d op.2.2.1 1 op.2.1 rg st mem (fun as => match as with
    | (5, i) :: _ => i.toNat < 3
    | _ => False) k kg kin
  | 30 => match st with
    | [(0, x)] => (match op.2.2.2.1 with
      | 0 => Post (some (0, x)) mem
      | 3 => (w32 x = 0 ∨ w32 x = 1) ∧ Post (some (0, x)) mem
      | _ => False)
    | _ => False
  | 67 => match st with
    | (0, j) :: (1, i) :: st' => (0 ≤ w32 j ∧ w32 j < ((zar i 2 : Nat) : Int)) ∧ k op.2.1 rg ((4, mem i.toNat (w32 j).toNat) :: st') mem
    | _ => False
  | 68 => match st with
    | (4, x) :: (0, j) :: (1, i) :: st' => (0 ≤ w32 j ∧ w32 j < ((zar i 2 : Nat) : Int)) ∧ k op.2.1 rg st' (yset mem i.toNat (w32 j).toNat x)
    | _ => False
  | 69 => match st with
    | v :: st' => (match ycat v with
      | 2 => k op.2.1 rg st' mem
      | _ => False)
    | _ => False
  | _ => ystep E (yR (d + 1)) d M op [] st mem Post (fun pc' _ st' mem' => k pc' rg st' mem')
def zvc (E : yE) : Nat → List Nat → Nat → xM → Nat → zR → List yV → yMem → (Option yV → yMem → Prop) → Prop
  | 0, _, d, M, pc, rg, st, mem, Post => zG E d M pc rg st mem Post
  | n + 1, cs, d, M, pc, rg, st, mem, Post => match zcut cs pc with
    | true => zG E d M pc rg st mem Post
    | false => match xfind (xMk M) pc with
      | none => False
      | some op => zstep E d M op rg st mem Post (fun pc' rg' st' mem' => zvc E n cs d M pc' rg' st' mem' Post) (fun pc' rg' st' mem' => zG E d M pc' rg' st' mem' Post) (fun M' as mem' P => match d with
        | 0 => False
        | d' + 1 => zvc E n [] d' M' 0 (zarg (xMl M') as) [] mem' P)
/-- from a cut on -/
def zgo (E : yE) (n : Nat) (cs : List Nat) (d : Nat) (M : xM) (pc : Nat) (rg : zR) (st : List yV) (mem : yMem) (Post : Option yV → yMem → Prop) : Prop := match xfind (xMk M) pc with
  | none => False
  | some op => zstep E d M op rg st mem Post (fun pc' rg' st' mem' => zvc E n cs d M pc' rg' st' mem' Post) (fun pc' rg' st' mem' => zG E d M pc' rg' st' mem' Post) (fun M' as mem' P => match d with
    | 0 => False
    | d' + 1 => zvc E n [] d' M' 0 (zarg (xMl M') as) [] mem' P)
/-- Math.min and the like -/
def zmnl (x y : Int) : Int := if w64 y < w64 x then y else x
def zmxl (x y : Int) : Int := if w64 y < w64 x then x else y
def zmni (x y : Int) : Int := if w32 y < w32 x then y else x
def zmxi (x y : Int) : Int := if w32 x < w32 y then y else x
def zabl (x : Int) : Int := if 0 < w64 x then x else -x
theorem zrf {α : Sort _} {a b : α} (h : a = b) : a = b := h
def zvk (E : yE) (n : Nat) (cs : List Nat) (d : Nat) (M : xM) (pc : Nat) (rg : zR) (st : List yV) (v : Option yV) (mem : yMem) (Post : Option yV → yMem → Prop) : Prop := zvc E n cs d M pc rg (yput st v) mem Post
theorem zvk_s {E : yE} {n : Nat} {cs : List Nat} {d : Nat} {M : xM} {pc : Nat} {rg : zR} {st : List yV} {v : yV} {mem : yMem} {Post : Option yV → yMem → Prop} : zvk E n cs d M pc rg st (some v) mem Post = zvc E n cs d M pc rg (v :: st) mem Post := zrf rfl
theorem zvk_n {E : yE} {n : Nat} {cs : List Nat} {d : Nat} {M : xM} {pc : Nat} {rg : zR} {st : List yV} {mem : yMem} {Post : Option yV → yMem → Prop} : zvk E n cs d M pc rg st none mem Post = zvc E n cs d M pc rg st mem Post := zrf rfl
def zgk (E : yE) (d : Nat) (M : xM) (pc : Nat) (rg : zR) (st : List yV) (v : Option yV) (mem : yMem) (Post : Option yV → yMem → Prop) : Prop := zG E d M pc rg (yput st v) mem Post
end
section
section ZO
variable {E : yE} {d : Nat} {M : xM} {pc : Nat} {rg : zR} {st : List yV} {mem : yMem} {Post : Option yV → yMem → Prop}
/-- ops that leave the locals alone and aren't told anew in zstep -/
theorem zdel {R : Room} {op : xOp} {k1 : Nat → yL → List yV → yMem → Prop} {k2 : Nat → yL → List yV → yMem → Prop} {lv lv' : yL} (hk : ∀ pc st mem, k1 pc lv st mem → k2 pc lv' st mem) (hn : zis [0, 1, 6, 8, 12, 13, 14, 15, 30, 31, 32, 33, 34, 35, 37, 38, 40, 41, 60, 61, 62, 63, 64, 65, 66, 70, 71, 72] op.1 = true) (h : ystep E R d M op lv st mem Post k1) : ystep E R d M op lv' st mem Post k2 := by
  obtain ⟨tg, nx, a, b, cs⟩ := op
  match tg, hn, h with
  | 0, _, h => exact hk _ _ _ h
  | 1, _, h => exact hk _ _ _ h
  | 6, _, h =>
    match st, h with
    | (0, x) :: st', h => exact hk _ _ _ h
  | 8, _, h =>
    match st, h with
    | (4, y) :: (4, x) :: st', h => exact hk _ _ _ h
  | 12, _, h =>
    match st, h with
    | (0, x) :: st', h => exact ⟨fun c => hk _ _ _ (h.1 c), fun c => hk _ _ _ (h.2 c)⟩
  | 13, _, h =>
    match st, h with
    | (0, y) :: (0, x) :: st', h => exact ⟨fun c => hk _ _ _ (h.1 c), fun c => hk _ _ _ (h.2 c)⟩
  | 14, _, h => exact hk _ _ _ h
  | 15, _, h =>
    match st, h with
    | (0, x) :: st', h => exact ⟨fun q hq c => hk _ _ _ (h.1 q hq c), fun c => hk _ _ _ (h.2.1 c), h.2.2⟩
  | 30, _, h =>
    match st, h with
    | [(0, x)], h => exact h
  | 31, _, h =>
    match st, h with
    | [(4, x)], h => exact h
  | 32, _, h =>
    match st, h with
    | [], h => exact h
  | 33, _, h => exact hk _ _ _ h
  | 34, _, h => exact hk _ _ _ h
  | 35, _, h =>
    match st, h with
    | (5, i) :: st', h => exact ⟨h.1, hk _ _ _ h.2⟩
  | 37, _, h =>
    match st, h with
    | (0, j) :: (6, i) :: st', h => exact ⟨h.1, h.2.1, h.2.2.1, hk _ _ _ h.2.2.2⟩
  | 38, _, h =>
    match st, h with
    | (0, x) :: st', h => exact ⟨h.1, h.2.1, hk _ _ _ h.2.2⟩
  | 40, _, h =>
    match st, h with
    | [(0, x)], h => exact h
  | 41, _, h => exact hk _ _ _ h
  | 60, _, h =>
    match st, h with
    | (4, y) :: (4, x) :: st', h => exact hk _ _ _ h
  | 61, _, h =>
    match st, h with
    | (4, y) :: (4, x) :: st', h => exact ⟨h.1, hk _ _ _ h.2⟩
  | 62, _, h =>
    match st, h with
    | (0, y) :: (4, x) :: st', h => exact hk _ _ _ h
  | 63, _, h =>
    match st, h with
    | (0, y) :: (4, x) :: st', h => exact hk _ _ _ h
  | 64, _, h =>
    match st, h with
    | (4, x) :: st', h => exact hk _ _ _ h
  | 65, _, h =>
    match st, h with
    | (0, x) :: st', h => exact hk _ _ _ h
  | 66, _, h =>
    match st, h with
    | (4, x) :: st', h => exact hk _ _ _ h
  | 70, _, h =>
    match st, h with
    | (0, y) :: (0, x) :: st', h => exact ⟨h.1, hk _ _ _ h.2⟩
  | 71, _, h =>
    match st, h with
    | (4, y) :: (4, x) :: st', h => exact ⟨h.1, hk _ _ _ h.2⟩
  | 72, _, h =>
    match st, h with
    | (4, x) :: st', h => exact ⟨h.1, hk _ _ _ h.2⟩
theorem ztop {st : List yV} {n : Nat} {v : yV} {r : List yV} (hl : n + 1 ≤ st.length) (e : (st.take (n + 1)).reverse = v :: r) : ∃ r', st.drop n = v :: r' := by
  have e4 : st.take (n + 1) = r.reverse ++ [v] := by
    have := congrArg List.reverse e
    rw [List.reverse_reverse, List.reverse_cons] at this
    exact this
  have hr : r.length = n := by
    have h5 := congrArg List.length e4
    rw [List.length_take, List.length_append, List.length_reverse] at h5
    simp at h5
    omega
  have h2 : (st.take (n + 1))[n]? = some v := by
    rw [e4, List.getElem?_append_right (by simp [hr])]
    simp [hr]
  rw [List.getElem?_take_of_lt (by omega)] at h2
  obtain ⟨h6, h7⟩ := List.getElem?_eq_some_iff.mp h2
  refine ⟨st.drop (n + 1), ?_⟩
  rw [List.drop_eq_getElem_cons h6, h7]
theorem zcall_ok {mi n0 nx : Nat} {rcv : List yV → Prop} {k kg : Nat → zR → List yV → yMem → Prop} {kin : xM → List yV → yMem → (Option yV → yMem → Prop) → Prop} (hk : ∀ pc rg st mem, k pc rg st mem → zG E d M pc rg st mem Post) (hkg : ∀ pc rg st mem, kg pc rg st mem → zG E d M pc rg st mem Post) (hkin : ∀ M' as mem P, xMok xmt M' → ysum as ≤ xMl M' → kin M' as mem P → yCon E d M' as mem P) (h : zcall E d mi n0 nx rg st mem rcv k kg kin) : ∃ M', xmt[mi]? = some M' ∧ rcv (st.take (xMn M' + n0)).reverse ∧ ycall E d mi n0 st mem (fun st' mem' => yG E (yR (d + 1)) M nx (zrl 0 rg) st' mem' 0 0 Post) := by
  unfold zcall at h
  split at h
  · exact h.elim
  · next M' hM' =>
    refine ⟨M', hM', ?_⟩
    split at h
    · exact h.elim
    · next as r hp =>
      obtain ⟨h1, h2, h3⟩ := zpop_ok hp
      rw [List.append_nil] at h2
      subst h2; subst h3
      split at h
      · exact h.elim
      · next hb =>
        rw [Bool.and_eq_true, Nat.ble_eq, Nat.ble_eq] at hb
        obtain ⟨g1, g2, g3⟩ := h
        refine ⟨g1, ?_⟩
        unfold ycall
        rw [hM']
        refine ⟨h1, g2, by rw [← ysum_rev]; exact hb.2, hb.1, ?_⟩
        split at g3
        · exact yCon_mono (hkin M' _ mem _ (xmt_ok mi M' hM') hb.2 g3) (fun r mem' z => hk _ _ _ _ z)
        · exact yCon_mono g3 (fun r mem' z => hkg _ _ _ _ z)
set_option maxHeartbeats 4000000 in
theorem zst (hE : yEok E) {op : xOp} (hok : xok xmt M pc op) {k kg : Nat → zR → List yV → yMem → Prop} {kin : xM → List yV → yMem → (Option yV → yMem → Prop) → Prop} (hk : ∀ pc rg st mem, k pc rg st mem → zG E d M pc rg st mem Post) (hkg : ∀ pc rg st mem, kg pc rg st mem → zG E d M pc rg st mem Post) (hkin : ∀ M' as mem P, xMok xmt M' → ysum as ≤ xMl M' → kin M' as mem P → yCon E d M' as mem P) (h : zstep E d M op rg st mem Post k kg kin) : zG E d M pc rg st mem Post := by
  unfold zG
  refine yst hE (d := d) ⟨Nat.le_refl _, (show 64 * d + 64 ≤ 64 * (d + 1) by omega)⟩ ⟨Nat.le_refl _, Nat.le_refl _⟩ hok ?_
  have del : zis [0, 1, 6, 8, 12, 13, 14, 15, 30, 31, 32, 33, 34, 35, 37, 38, 40, 41, 60, 61, 62, 63, 64, 65, 66, 70, 71, 72] op.1 = true → ystep E (yR (d + 1)) d M op [] st mem Post (fun pc' _ st' mem' => k pc' rg st' mem') → ystep E (yR (d + 1)) d M op (zrl 0 rg) st mem Post (fun pc' lv' st' mem' => yG E (yR (d + 1)) M pc' lv' st' mem' 0 0 Post) :=
    fun hn h => zdel (fun pc st mem z => hk pc rg st mem z) hn h
  obtain ⟨tg, nx, a, b, cs⟩ := op
  match tg, h, del with
  | 0, h, del => exact del rfl h
  | 1, h, del => exact del rfl h
  | 2, h, _ =>
    simp only [zstep] at h
    split at h
    · next v hv =>
      split at h
      · next hb => exact ⟨v, by have := zrl_get rg 0 b v hv; rwa [Nat.zero_add] at this, hb, hk _ _ _ _ h⟩
      · exact h.elim
    · exact h.elim
  | 3, h, _ =>
    match st, h with
    | v :: st', h =>
      simp only [zstep] at h
      split at h
      · next hb =>
        rw [Bool.and_eq_true] at hb
        refine ⟨hb.1, Nat.le_of_ble_eq_true hb.2, ?_⟩
        refine zG_sub (fun q hq => ?_) (hk _ _ _ _ h)
        have := zset_ok rg 0 b q hq
        rwa [Nat.zero_add] at this
      · exact h.elim
  | 4, h, _ =>
    simp only [zstep] at h
    split at h
    · next x hv =>
      split at h
      · next hb =>
        refine ⟨x, by have := zrl_get rg 0 a _ hv; rwa [Nat.zero_add] at this, Nat.le_of_ble_eq_true hb, ?_⟩
        refine zG_sub (fun q hq => ?_) (hk _ _ _ _ h)
        have := zset_ok rg 0 a q hq
        rwa [Nat.zero_add] at this
      · exact h.elim
    · exact h.elim
  | 5, h, _ =>
    match st, h with
    | (0, y) :: (0, x) :: st', h =>
      simp only [zstep] at h
      split at h
      · exact ⟨fun _ => h.1, hk _ _ _ _ h.2⟩
      · exact ⟨fun _ => h.1, hk _ _ _ _ h.2⟩
      · next h9 h10 => exact ⟨fun z => z.elim (fun e => (h9 e).elim) (fun e => (h10 e).elim), hk _ _ _ _ h⟩
  | 6, h, del => exact del rfl h
  | 8, h, del => exact del rfl h
  | 9, h, _ =>
    match st, h with
    | v :: st', h =>
      simp only [zstep] at h
      split at h
      · next e => exact ⟨e, hk _ _ _ _ h⟩
      · exact h.elim
  | 10, h, _ =>
    match st, h with
    | v :: st', h =>
      simp only [zstep] at h
      split at h
      · next e => exact ⟨e, hk _ _ _ _ h⟩
      · exact h.elim
  | 11, h, _ =>
    match st, h with
    | v :: w :: st', h =>
      simp only [zstep] at h
      split at h
      · next e1 e2 => exact ⟨e1, e2, hk _ _ _ _ h⟩
      · exact h.elim
  | 12, h, del => exact del rfl h
  | 13, h, del => exact del rfl h
  | 14, h, del => exact del rfl h
  | 15, h, _ =>
    match st, h with
    | (0, x) :: st', h =>
      simp only [zstep] at h
      split at h
      · next hc =>
        obtain ⟨g1, g2, g3⟩ := zsw_ok hc h
        exact ⟨fun q hq e => hk _ _ _ _ (g1 q hq e), fun e => hk _ _ _ _ (g2 e), g3⟩
      · exact h.elim
  | 16, h, _ =>
    match st, h with
    | (1, i) :: st', h =>
      simp only [zstep] at h
      split at h
      · next ci fs e =>
        split at h
        · next v e1 e2 =>
          have e3 := Nat.eq_of_beq_eq_true e1
          refine ⟨fs, v, ?_, e2, hk _ _ _ _ h⟩
          rw [e, e3]
        · exact h.elim
      · exact h.elim
  | 17, h, _ =>
    match st, cs, h with
    | v :: (1, i) :: st', [q], h =>
      simp only [zstep] at h
      split at h
      · next ci fs e =>
        split at h
        · next w e1 e2 =>
          have e3 := Nat.eq_of_beq_eq_true e1
          split at h
          · next q0 q1 =>
            rw [Bool.and_eq_true, Nat.beq_eq, Nat.beq_eq] at q1
            refine ⟨fs, w, by rw [e, e3], e2, ?_, hk _ _ _ _ h⟩
            rw [q0]
            exact q1
          · next q0 q1 =>
            rw [Bool.and_eq_true, Nat.beq_eq, Nat.beq_eq] at q1
            refine ⟨fs, w, by rw [e, e3], e2, ?_, hk _ _ _ _ h.2⟩
            rw [q0]
            exact ⟨q1.1, h.1, q1.2⟩
          · exact h.elim
        · exact h.elim
      · exact h.elim
  | 18, h, _ =>
    match st, h with
    | (1, i) :: st', h =>
      obtain ⟨t, rs, e1, e2⟩ := zia_ok h.1
      exact ⟨t, _, rs, e1, e2, hk _ _ _ _ h.2⟩
    | (6, i) :: st', h => exact ⟨h.1, hk _ _ _ _ h.2⟩
  | 19, h, _ =>
    match st, h with
    | (0, j) :: (1, i) :: st', h =>
      obtain ⟨⟨h1, h2⟩, h3⟩ := h
      obtain ⟨n, rs, e1, e2⟩ := zar_ok h1 h2
      dsimp only at h2 e2
      rw [e2] at h2
      exact ⟨n, rs, e1, h1, h2, hk _ _ _ _ h3⟩
  | 20, h, _ =>
    match st, h with
    | (0, j) :: (1, i) :: st', h =>
      obtain ⟨n, rs, q, h1, h2, h3, h4, h5⟩ := h
      exact ⟨n, rs, q, h1, h2, h3, h4, hk _ _ _ _ h5⟩
  | 21, h, _ =>
    match st, h with
    | (0, x) :: (0, j) :: (1, i) :: st', h =>
      obtain ⟨⟨h1, h2⟩, h3⟩ := h
      obtain ⟨n, rs, e1, e2⟩ := zar_ok h1 h2
      dsimp only at h2 e2 h3
      rw [e2] at h2
      split at h3
      · exact ⟨n, rs, e1, h1, h2, trivial, hk _ _ _ _ h3⟩
      · exact ⟨n, rs, e1, h1, h2, h3.1, hk _ _ _ _ h3.2⟩
  | 26, h, _ =>
    match st, h with
    | (0, n) :: (0, dp) :: (1, dd) :: (0, sp) :: (1, ss) :: st', h =>
      obtain ⟨h0, h1, h2, h3, h4, h5, h6, h7, h8⟩ := h
      obtain ⟨r0, e0⟩ := zit_ok h1
      obtain ⟨r1, e1⟩ := zit_ok h2
      exact ⟨h0, _, r0, _, r1, e0, e1, h3, h4, h5, h6, h7, hk _ _ _ _ h8⟩
  | 27, h, _ =>
    obtain ⟨M', h1, h2, h3⟩ := zcall_ok hk hkg hkin h
    exact h3
  | 47, h, _ =>
    obtain ⟨M', h1, h2, h3⟩ := zcall_ok hk hkg hkin h
    exact h3
  | 28, h, _ =>
    obtain ⟨M', h1, h2, h3⟩ := zcall_ok hk hkg hkin h
    refine ⟨?_, h3⟩
    dsimp only at h1 ⊢
    rw [h1]
    dsimp only at h2 ⊢
    have hl : xMn M' + 1 ≤ st.length := by
      unfold ycall at h3
      dsimp only at h3
      rw [h1] at h3
      exact h3.1
    split at h2
    · next i r e =>
      obtain ⟨fs, e3⟩ := zio_ok h2
      obtain ⟨r', e5⟩ := ztop hl e
      rw [e5]
      exact ⟨fs, e3⟩
    · exact h2.elim
  | 30, h, _ =>
    match st, h with
    | [(0, x)], h =>
      simp only [zstep] at h
      split at h
      · exact ⟨Or.inl rfl, h⟩
      · exact ⟨Or.inr ⟨rfl, h.1⟩, h.2⟩
      · exact h.elim
  | 31, h, del => exact del rfl h
  | 32, h, del => exact del rfl h
  | 33, h, del => exact del rfl h
  | 34, h, del => exact del rfl h
  | 35, h, del => exact del rfl h
  | 37, h, del => exact del rfl h
  | 38, h, del => exact del rfl h
  | 39, h, _ =>
    obtain ⟨M', h1, h2, h3⟩ := zcall_ok hk hkg hkin h
    refine ⟨?_, h3⟩
    dsimp only at h1 ⊢
    rw [h1]
    dsimp only at h2 ⊢
    have hl : xMn M' + 1 ≤ st.length := by
      unfold ycall at h3
      dsimp only at h3
      rw [h1] at h3
      exact h3.1
    split at h2
    · next i r e =>
      obtain ⟨r', e5⟩ := ztop hl e
      rw [e5]
      exact h2
    · exact h2.elim
  | 40, h, del => exact del rfl h
  | 41, h, del => exact del rfl h
  | 60, h, del => exact del rfl h
  | 61, h, del => exact del rfl h
  | 62, h, del => exact del rfl h
  | 63, h, del => exact del rfl h
  | 64, h, del => exact del rfl h
  | 65, h, del => exact del rfl h
  | 66, h, del => exact del rfl h
  | 67, h, _ =>
    match st, h with
    | (0, j) :: (1, i) :: st', h =>
      obtain ⟨⟨h1, h2⟩, h3⟩ := h
      obtain ⟨n, rs, e1, e2⟩ := zar_ok h1 h2
      rw [e2] at h2
      exact ⟨n, rs, e1, h1, h2, hk _ _ _ _ h3⟩
  | 68, h, _ =>
    match st, h with
    | (4, x) :: (0, j) :: (1, i) :: st', h =>
      obtain ⟨⟨h1, h2⟩, h3⟩ := h
      obtain ⟨n, rs, e1, e2⟩ := zar_ok h1 h2
      rw [e2] at h2
      exact ⟨n, rs, e1, h1, h2, hk _ _ _ _ h3⟩
  | 69, h, _ =>
    match st, h with
    | v :: st', h =>
      simp only [zstep] at h
      split at h
      · next e => exact ⟨e, hk _ _ _ _ h⟩
      · exact h.elim
  | 70, h, del => exact del rfl h
  | 71, h, del => exact del rfl h
  | 72, h, del => exact del rfl h
theorem zvc_ok (hE : yEok E) : ∀ (n : Nat) (cs : List Nat) (d : Nat) (M : xM) (pc : Nat) (rg : zR) (st : List yV) (mem : yMem) (Post : Option yV → yMem → Prop), xMok xmt M → zvc E n cs d M pc rg st mem Post → zG E d M pc rg st mem Post
  | 0, cs, d, M, pc, rg, st, mem, Post, hM, h => h
  | n + 1, cs, d, M, pc, rg, st, mem, Post, hM, h => by
    simp only [zvc] at h
    split at h
    · exact h
    · split at h
      · exact h.elim
      · next op hop =>
        refine zst hE (hM.2.2.2.2.2 _ (xfind_mem hop)) (fun pc rg st mem z => zvc_ok hE n cs d M pc rg st mem Post hM z) (fun pc rg st mem z => z) (fun M' as mem P hM' hs z => ?_) h
        match d, z with
        | d' + 1, z => exact zcon_of hM' hs (zvc_ok hE n [] d' M' 0 _ [] mem P hM' z)
theorem zgo_ok (hE : yEok E) {n : Nat} {cs : List Nat} (hM : xMok xmt M) (h : zgo E n cs d M pc rg st mem Post) : zG E d M pc rg st mem Post := by
  unfold zgo at h
  split at h
  · exact h.elim
  · next op hop =>
    refine zst hE (hM.2.2.2.2.2 _ (xfind_mem hop)) (fun pc rg st mem z => zvc_ok hE n cs d M pc rg st mem Post hM z) (fun pc rg st mem z => z) (fun M' as mem P hM' hs z => ?_) h
    match d, z with
    | d' + 1, z => exact zcon_of hM' hs (zvc_ok hE n [] d' M' 0 _ [] mem P hM' z)
theorem zgk_s (hE : yEok E) (hM : xMok xmt M) (n : Nat) (cs : List Nat) {v : yV} (h : zvc E n cs d M pc rg (v :: st) mem Post) : zgk E d M pc rg st (some v) mem Post := zvc_ok hE n cs d M pc rg (v :: st) mem Post hM h
theorem zgk_n (hE : yEok E) (hM : xMok xmt M) (n : Nat) (cs : List Nat) (h : zvc E n cs d M pc rg st mem Post) : zgk E d M pc rg st none mem Post := zvc_ok hE n cs d M pc rg st mem Post hM h
end ZO
end
section
/-! what symbolic runs are simplified by -/
theorem yput_s (st : List yV) (v : yV) : yput st (some v) = v :: st := rfl
theorem yput_n (st : List yV) : yput st none = st := rfl
theorem znl_n : znl none = none := rfl
theorem znl_0 (x : Int) : znl (some (0, x)) = some (0, x) := rfl
theorem znl_1 (x : Int) : znl (some (1, x)) = some (1, x) := rfl
theorem znl_4 (x : Int) : znl (some (4, x)) = none := rfl
theorem ysum_n : ysum [] = 0 := rfl
theorem ysum_0 (x : Int) (r : List yV) : ysum ((0, x) :: r) = 1 + ysum r := rfl
theorem ysum_1 (x : Int) (r : List yV) : ysum ((1, x) :: r) = 1 + ysum r := rfl
theorem ysum_4 (x : Int) (r : List yV) : ysum ((4, x) :: r) = 2 + ysum r := rfl
theorem yset_a (mem : yMem) (i n : Nat) (x : Int) (c j : Nat) : yset mem i n x c j = if c = i then (if j = n then x else mem c j) else mem c j := rfl
theorem yset_o {mem : yMem} {i n : Nat} {x : Int} {c j : Nat} (h : c ≠ i) : yset mem i n x c j = mem c j := if_neg h
theorem yset_s {mem : yMem} {i n : Nat} {x : Int} : yset mem i n x i n = x := by simp [yset]
theorem yset_d {mem : yMem} {i n : Nat} {x : Int} {j : Nat} (h : j ≠ n) : yset mem i n x i j = mem i j := by simp [yset, h]
theorem w32_ad {x y : Int} (h1 : -2147483648 ≤ w32 x + w32 y) (h2 : w32 x + w32 y < 2147483648) : w32 (x + y) = w32 x + w32 y := by
  have : iI (x + y) = iI (w32 x + w32 y) := by
    rw [show iI (x + y) = iI x + iI y from Int32.ofInt_add x y, show iI (w32 x + w32 y) = iI (w32 x) + iI (w32 y) from Int32.ofInt_add _ _, iI_w, iI_w]
  show (iI (x + y)).toInt = _
  rw [this]
  exact w32_of h1 h2
theorem w32_sb {x y : Int} (h1 : -2147483648 ≤ w32 x - w32 y) (h2 : w32 x - w32 y < 2147483648) : w32 (x - y) = w32 x - w32 y := by
  have : iI (x - y) = iI (w32 x - w32 y) := by
    rw [show iI (x - y) = iI x - iI y from Int32.ofInt_sub x y, show iI (w32 x - w32 y) = iI (w32 x) - iI (w32 y) from Int32.ofInt_sub _ _, iI_w, iI_w]
  show (iI (x - y)).toInt = _
  rw [this]
  exact w32_of h1 h2
theorem w32_ml (x y : Int) : w32 (x * y) = w32 (w32 x * w32 y) := by
  have : iI (x * y) = iI (w32 x * w32 y) := by
    rw [show iI (x * y) = iI x * iI y from Int32.ofInt_mul x y, show iI (w32 x * w32 y) = iI (w32 x) * iI (w32 y) from Int32.ofInt_mul _ _, iI_w, iI_w]
  show (iI (x * y)).toInt = _
  rw [this]
  rfl
theorem w32_k {c : Int} {x : Int} (hc : w32 c = c) (h1 : -2147483648 ≤ c * w32 x) (h2 : c * w32 x < 2147483648) : w32 (c * x) = c * w32 x := by
  rw [w32_ml, hc, w32_of h1 h2]
theorem ag {mem : yMem} (hG : aGok mem) (i j : Nat) {lo hi : Int} (h : agam i j = (lo, hi)) : lo ≤ w32 (mem i j) ∧ w32 (mem i j) ≤ hi := by
  have := hG i j
  rw [h] at this
  exact this
/-- of an array without told slots -/
theorem agA {mem : yMem} (hG : aGok mem) (i j : Nat) {lo hi : Int} (h : aent i = ((lo, hi), [])) : lo ≤ w32 (mem i j) ∧ w32 (mem i j) ≤ hi := by
  refine ag hG i j ?_
  unfold agam
  rw [h]
  rfl
theorem aGok_set {mem : yMem} (hG : aGok mem) {i n : Nat} {x : Int} (h : (agam i n).1 ≤ w32 x ∧ w32 x ≤ (agam i n).2) : aGok (yset mem i n x) := by
  intro a b
  unfold yset
  split
  · next e =>
    subst e
    split
    · next e => subst e; exact h
    · exact hG a b
  · exact hG a b
theorem agam_A {i j : Nat} {q : Int × Int} (h : aent i = (q, [])) : agam i j = q := by
  unfold agam
  rw [h]
  rfl
theorem ynok_30 : ynok 3 0 = True := eq_true (Or.inl (by decide))
theorem ynok_31 : ynok 3 1 = True := eq_true (Or.inr (by decide))
end
section
theorem zio_0 : zio 0 11 = true := rfl
theorem zar_1 : zar 1 1 = 800 := rfl
theorem zia_1 : zia 1 = true := rfl
theorem zit_1 : zit 1 1 = true := rfl
theorem zln_1 : zln 1 = 800 := rfl
theorem zio_2 : zio 2 4 = true := rfl
theorem zio_3 : zio 3 6 = true := rfl
theorem zar_4 : zar 4 0 = 3 := rfl
theorem zia_4 : zia 4 = true := rfl
theorem zit_4 : zit 4 0 = true := rfl
theorem zln_4 : zln 4 = 3 := rfl
theorem zio_5 : zio 5 6 = true := rfl
theorem zar_6 : zar 6 0 = 6 := rfl
theorem zia_6 : zia 6 = true := rfl
theorem zit_6 : zit 6 0 = true := rfl
theorem zln_6 : zln 6 = 6 := rfl
theorem zio_7 : zio 7 6 = true := rfl
theorem zar_8 : zar 8 0 = 4 := rfl
theorem zia_8 : zia 8 = true := rfl
theorem zit_8 : zit 8 0 = true := rfl
theorem zln_8 : zln 8 = 4 := rfl
theorem zio_9 : zio 9 6 = true := rfl
theorem zar_10 : zar 10 0 = 3 := rfl
theorem zia_10 : zia 10 = true := rfl
theorem zit_10 : zit 10 0 = true := rfl
theorem zln_10 : zln 10 = 3 := rfl
theorem zar_11 : zar 11 0 = 3 := rfl
theorem zia_11 : zia 11 = true := rfl
theorem zit_11 : zit 11 0 = true := rfl
theorem zln_11 : zln 11 = 3 := rfl
theorem zar_12 : zar 12 0 = 3 := rfl
theorem zia_12 : zia 12 = true := rfl
theorem zit_12 : zit 12 0 = true := rfl
theorem zln_12 : zln 12 = 3 := rfl
theorem zar_13 : zar 13 0 = 6 := rfl
theorem zia_13 : zia 13 = true := rfl
theorem zit_13 : zit 13 0 = true := rfl
theorem zln_13 : zln 13 = 6 := rfl
theorem zar_14 : zar 14 0 = 6 := rfl
theorem zia_14 : zia 14 = true := rfl
theorem zit_14 : zit 14 0 = true := rfl
theorem zln_14 : zln 14 = 6 := rfl
theorem zar_15 : zar 15 0 = 6 := rfl
theorem zia_15 : zia 15 = true := rfl
theorem zit_15 : zit 15 0 = true := rfl
theorem zln_15 : zln 15 = 6 := rfl
theorem zar_16 : zar 16 0 = 6 := rfl
theorem zia_16 : zia 16 = true := rfl
theorem zit_16 : zit 16 0 = true := rfl
theorem zln_16 : zln 16 = 6 := rfl
theorem zar_17 : zar 17 0 = 6 := rfl
theorem zia_17 : zia 17 = true := rfl
theorem zit_17 : zit 17 0 = true := rfl
theorem zln_17 : zln 17 = 6 := rfl
theorem zar_18 : zar 18 0 = 4 := rfl
theorem zia_18 : zia 18 = true := rfl
theorem zit_18 : zit 18 0 = true := rfl
theorem zln_18 : zln 18 = 4 := rfl
theorem zar_19 : zar 19 0 = 12 := rfl
theorem zia_19 : zia 19 = true := rfl
theorem zit_19 : zit 19 0 = true := rfl
theorem zln_19 : zln 19 = 12 := rfl
theorem zar_20 : zar 20 0 = 96 := rfl
theorem zia_20 : zia 20 = true := rfl
theorem zit_20 : zit 20 0 = true := rfl
theorem zln_20 : zln 20 = 96 := rfl
theorem zar_21 : zar 21 0 = 3 := rfl
theorem zia_21 : zia 21 = true := rfl
theorem zit_21 : zit 21 0 = true := rfl
theorem zln_21 : zln 21 = 3 := rfl
theorem zio_22 : zio 22 2 = true := rfl
theorem zar_23 : zar 23 0 = 64 := rfl
theorem zia_23 : zia 23 = true := rfl
theorem zit_23 : zit 23 0 = true := rfl
theorem zln_23 : zln 23 = 64 := rfl
theorem zar_24 : zar 24 0 = 64 := rfl
theorem zia_24 : zia 24 = true := rfl
theorem zit_24 : zit 24 0 = true := rfl
theorem zln_24 : zln 24 = 64 := rfl
theorem zar_25 : zar 25 0 = 5 := rfl
theorem zia_25 : zia 25 = true := rfl
theorem zit_25 : zit 25 0 = true := rfl
theorem zln_25 : zln 25 = 5 := rfl
theorem zar_26 : zar 26 0 = 5 := rfl
theorem zia_26 : zia 26 = true := rfl
theorem zit_26 : zit 26 0 = true := rfl
theorem zln_26 : zln 26 = 5 := rfl
theorem zar_27 : zar 27 0 = 72 := rfl
theorem zia_27 : zia 27 = true := rfl
theorem zit_27 : zit 27 0 = true := rfl
theorem zln_27 : zln 27 = 72 := rfl
theorem zio_28 : zio 28 4 = true := rfl
theorem zio_29 : zio 29 6 = true := rfl
theorem zar_30 : zar 30 0 = 3 := rfl
theorem zia_30 : zia 30 = true := rfl
theorem zit_30 : zit 30 0 = true := rfl
theorem zln_30 : zln 30 = 3 := rfl
theorem zio_31 : zio 31 6 = true := rfl
theorem zar_32 : zar 32 0 = 6 := rfl
theorem zia_32 : zia 32 = true := rfl
theorem zit_32 : zit 32 0 = true := rfl
theorem zln_32 : zln 32 = 6 := rfl
theorem zio_33 : zio 33 6 = true := rfl
theorem zar_34 : zar 34 0 = 4 := rfl
theorem zia_34 : zia 34 = true := rfl
theorem zit_34 : zit 34 0 = true := rfl
theorem zln_34 : zln 34 = 4 := rfl
theorem zio_35 : zio 35 6 = true := rfl
theorem zar_36 : zar 36 0 = 3 := rfl
theorem zia_36 : zia 36 = true := rfl
theorem zit_36 : zit 36 0 = true := rfl
theorem zln_36 : zln 36 = 3 := rfl
theorem zar_37 : zar 37 0 = 3 := rfl
theorem zia_37 : zia 37 = true := rfl
theorem zit_37 : zit 37 0 = true := rfl
theorem zln_37 : zln 37 = 3 := rfl
theorem zar_38 : zar 38 0 = 3 := rfl
theorem zia_38 : zia 38 = true := rfl
theorem zit_38 : zit 38 0 = true := rfl
theorem zln_38 : zln 38 = 3 := rfl
theorem zar_39 : zar 39 0 = 6 := rfl
theorem zia_39 : zia 39 = true := rfl
theorem zit_39 : zit 39 0 = true := rfl
theorem zln_39 : zln 39 = 6 := rfl
theorem zar_40 : zar 40 0 = 6 := rfl
theorem zia_40 : zia 40 = true := rfl
theorem zit_40 : zit 40 0 = true := rfl
theorem zln_40 : zln 40 = 6 := rfl
theorem zar_41 : zar 41 0 = 6 := rfl
theorem zia_41 : zia 41 = true := rfl
theorem zit_41 : zit 41 0 = true := rfl
theorem zln_41 : zln 41 = 6 := rfl
theorem zar_42 : zar 42 0 = 6 := rfl
theorem zia_42 : zia 42 = true := rfl
theorem zit_42 : zit 42 0 = true := rfl
theorem zln_42 : zln 42 = 6 := rfl
theorem zar_43 : zar 43 0 = 6 := rfl
theorem zia_43 : zia 43 = true := rfl
theorem zit_43 : zit 43 0 = true := rfl
theorem zln_43 : zln 43 = 6 := rfl
theorem zar_44 : zar 44 0 = 4 := rfl
theorem zia_44 : zia 44 = true := rfl
theorem zit_44 : zit 44 0 = true := rfl
theorem zln_44 : zln 44 = 4 := rfl
theorem zar_45 : zar 45 0 = 12 := rfl
theorem zia_45 : zia 45 = true := rfl
theorem zit_45 : zit 45 0 = true := rfl
theorem zln_45 : zln 45 = 12 := rfl
theorem zar_46 : zar 46 0 = 96 := rfl
theorem zia_46 : zia 46 = true := rfl
theorem zit_46 : zit 46 0 = true := rfl
theorem zln_46 : zln 46 = 96 := rfl
theorem zar_47 : zar 47 0 = 3 := rfl
theorem zia_47 : zia 47 = true := rfl
theorem zit_47 : zit 47 0 = true := rfl
theorem zln_47 : zln 47 = 3 := rfl
theorem zio_48 : zio 48 2 = true := rfl
theorem zar_49 : zar 49 0 = 64 := rfl
theorem zia_49 : zia 49 = true := rfl
theorem zit_49 : zit 49 0 = true := rfl
theorem zln_49 : zln 49 = 64 := rfl
theorem zar_50 : zar 50 0 = 64 := rfl
theorem zia_50 : zia 50 = true := rfl
theorem zit_50 : zit 50 0 = true := rfl
theorem zln_50 : zln 50 = 64 := rfl
theorem zar_51 : zar 51 0 = 5 := rfl
theorem zia_51 : zia 51 = true := rfl
theorem zit_51 : zit 51 0 = true := rfl
theorem zln_51 : zln 51 = 5 := rfl
theorem zar_52 : zar 52 0 = 5 := rfl
theorem zia_52 : zia 52 = true := rfl
theorem zit_52 : zit 52 0 = true := rfl
theorem zln_52 : zln 52 = 5 := rfl
theorem zar_53 : zar 53 0 = 72 := rfl
theorem zia_53 : zia 53 = true := rfl
theorem zit_53 : zit 53 0 = true := rfl
theorem zln_53 : zln 53 = 72 := rfl
theorem zio_54 : zio 54 8 = true := rfl
theorem zio_55 : zio 55 9 = true := rfl
theorem zar_56 : zar 56 0 = 23 := rfl
theorem zia_56 : zia 56 = true := rfl
theorem zit_56 : zit 56 0 = true := rfl
theorem zln_56 : zln 56 = 23 := rfl
theorem zio_57 : zio 57 10 = true := rfl
theorem zar_58 : zar 58 0 = 3 := rfl
theorem zia_58 : zia 58 = true := rfl
theorem zit_58 : zit 58 0 = true := rfl
theorem zln_58 : zln 58 = 3 := rfl
theorem zar_59 : zar 59 0 = 6 := rfl
theorem zia_59 : zia 59 = true := rfl
theorem zit_59 : zit 59 0 = true := rfl
theorem zln_59 : zln 59 = 6 := rfl
theorem zar_60 : zar 60 0 = 3 := rfl
theorem zia_60 : zia 60 = true := rfl
theorem zit_60 : zit 60 0 = true := rfl
theorem zln_60 : zln 60 = 3 := rfl
theorem zar_61 : zar 61 0 = 12 := rfl
theorem zia_61 : zia 61 = true := rfl
theorem zit_61 : zit 61 0 = true := rfl
theorem zln_61 : zln 61 = 12 := rfl
theorem zar_62 : zar 62 0 = 12 := rfl
theorem zia_62 : zia 62 = true := rfl
theorem zit_62 : zit 62 0 = true := rfl
theorem zln_62 : zln 62 = 12 := rfl
theorem zar_63 : zar 63 0 = 12 := rfl
theorem zia_63 : zia 63 = true := rfl
theorem zit_63 : zit 63 0 = true := rfl
theorem zln_63 : zln 63 = 12 := rfl
theorem zio_64 : zio 64 10 = true := rfl
theorem zar_65 : zar 65 0 = 3 := rfl
theorem zia_65 : zia 65 = true := rfl
theorem zit_65 : zit 65 0 = true := rfl
theorem zln_65 : zln 65 = 3 := rfl
theorem zar_66 : zar 66 0 = 6 := rfl
theorem zia_66 : zia 66 = true := rfl
theorem zit_66 : zit 66 0 = true := rfl
theorem zln_66 : zln 66 = 6 := rfl
theorem zar_67 : zar 67 0 = 3 := rfl
theorem zia_67 : zia 67 = true := rfl
theorem zit_67 : zit 67 0 = true := rfl
theorem zln_67 : zln 67 = 3 := rfl
theorem zar_68 : zar 68 0 = 12 := rfl
theorem zia_68 : zia 68 = true := rfl
theorem zit_68 : zit 68 0 = true := rfl
theorem zln_68 : zln 68 = 12 := rfl
theorem zar_69 : zar 69 0 = 12 := rfl
theorem zia_69 : zia 69 = true := rfl
theorem zit_69 : zit 69 0 = true := rfl
theorem zln_69 : zln 69 = 12 := rfl
theorem zar_70 : zar 70 0 = 12 := rfl
theorem zia_70 : zia 70 = true := rfl
theorem zit_70 : zit 70 0 = true := rfl
theorem zln_70 : zln 70 = 12 := rfl
theorem zio_71 : zio 71 3 = true := rfl
theorem zar_72 : zar 72 0 = 24 := rfl
theorem zia_72 : zia 72 = true := rfl
theorem zit_72 : zit 72 0 = true := rfl
theorem zln_72 : zln 72 = 24 := rfl
theorem zio_73 : zio 73 5 = true := rfl
theorem zar_74 : zar 74 2 = 7 := rfl
theorem zia_74 : zia 74 = true := rfl
theorem zit_74 : zit 74 2 = true := rfl
theorem zln_74 : zln 74 = 7 := rfl
theorem zar_75 : zar 75 2 = 64 := rfl
theorem zia_75 : zia 75 = true := rfl
theorem zit_75 : zit 75 2 = true := rfl
theorem zln_75 : zln 75 = 64 := rfl
theorem zio_76 : zio 76 1 = true := rfl
theorem zar_79 : zar 79 0 = 25 := rfl
theorem zia_79 : zia 79 = true := rfl
theorem zit_79 : zit 79 0 = true := rfl
theorem zln_79 : zln 79 = 25 := rfl
theorem zar_80 : zar 80 4 = 5 := rfl
theorem zia_80 : zia 80 = true := rfl
theorem zit_80 : zit 80 4 = true := rfl
theorem zln_80 : zln 80 = 5 := rfl
theorem zio_87 : zio 87 7 = true := rfl
theorem zar_88 : zar 88 0 = 4 := rfl
theorem zia_88 : zia 88 = true := rfl
theorem zit_88 : zit 88 0 = true := rfl
theorem zln_88 : zln 88 = 4 := rfl
theorem zar_89 : zar 89 0 = 4 := rfl
theorem zia_89 : zia 89 = true := rfl
theorem zit_89 : zit 89 0 = true := rfl
theorem zln_89 : zln 89 = 4 := rfl
theorem zar_90 : zar 90 0 = 3 := rfl
theorem zia_90 : zia 90 = true := rfl
theorem zit_90 : zit 90 0 = true := rfl
theorem zln_90 : zln 90 = 3 := rfl
theorem zio_95 : zio 95 12 = true := rfl
theorem zar_96 : zar 96 0 = 800 := rfl
theorem zia_96 : zia 96 = true := rfl
theorem zit_96 : zit 96 0 = true := rfl
theorem zln_96 : zln 96 = 800 := rfl
theorem zar_97 : zar 97 0 = 14 := rfl
theorem zia_97 : zia 97 = true := rfl
theorem zit_97 : zit 97 0 = true := rfl
theorem zln_97 : zln 97 = 14 := rfl
theorem zar_98 : zar 98 0 = 6 := rfl
theorem zia_98 : zia 98 = true := rfl
theorem zit_98 : zit 98 0 = true := rfl
theorem zln_98 : zln 98 = 6 := rfl
theorem zar_99 : zar 99 0 = 6 := rfl
theorem zia_99 : zia 99 = true := rfl
theorem zit_99 : zit 99 0 = true := rfl
theorem zln_99 : zln 99 = 6 := rfl
theorem zar_100 : zar 100 0 = 6 := rfl
theorem zia_100 : zia 100 = true := rfl
theorem zit_100 : zit 100 0 = true := rfl
theorem zln_100 : zln 100 = 6 := rfl
theorem zar_101 : zar 101 0 = 12 := rfl
theorem zia_101 : zia 101 = true := rfl
theorem zit_101 : zit 101 0 = true := rfl
theorem zln_101 : zln 101 = 12 := rfl
theorem zar_102 : zar 102 0 = 12 := rfl
theorem zia_102 : zia 102 = true := rfl
theorem zit_102 : zit 102 0 = true := rfl
theorem zln_102 : zln 102 = 12 := rfl
theorem zar_103 : zar 103 0 = 12 := rfl
theorem zia_103 : zia 103 = true := rfl
theorem zit_103 : zit 103 0 = true := rfl
theorem zln_103 : zln 103 = 12 := rfl
theorem zar_104 : zar 104 3 = 12 := rfl
theorem zia_104 : zia 104 = true := rfl
theorem zit_104 : zit 104 3 = true := rfl
theorem zln_104 : zln 104 = 12 := rfl
theorem zar_105 : zar 105 0 = 12 := rfl
theorem zia_105 : zia 105 = true := rfl
theorem zit_105 : zit 105 0 = true := rfl
theorem zln_105 : zln 105 = 12 := rfl
theorem zar_106 : zar 106 0 = 12 := rfl
theorem zia_106 : zia 106 = true := rfl
theorem zit_106 : zit 106 0 = true := rfl
theorem zln_106 : zln 106 = 12 := rfl
theorem zar_107 : zar 107 0 = 12 := rfl
theorem zia_107 : zia 107 = true := rfl
theorem zit_107 : zit 107 0 = true := rfl
theorem zln_107 : zln 107 = 12 := rfl
theorem zar_108 : zar 108 0 = 8 := rfl
theorem zia_108 : zia 108 = true := rfl
theorem zit_108 : zit 108 0 = true := rfl
theorem zln_108 : zln 108 = 8 := rfl
theorem zar_109 : zar 109 0 = 8 := rfl
theorem zia_109 : zia 109 = true := rfl
theorem zit_109 : zit 109 0 = true := rfl
theorem zln_109 : zln 109 = 8 := rfl
theorem zar_110 : zar 110 0 = 24 := rfl
theorem zia_110 : zia 110 = true := rfl
theorem zit_110 : zit 110 0 = true := rfl
theorem zln_110 : zln 110 = 24 := rfl
theorem zar_111 : zar 111 0 = 192 := rfl
theorem zia_111 : zia 111 = true := rfl
theorem zit_111 : zit 111 0 = true := rfl
theorem zln_111 : zln 111 = 192 := rfl
theorem zar_112 : zar 112 0 = 6 := rfl
theorem zia_112 : zia 112 = true := rfl
theorem zit_112 : zit 112 0 = true := rfl
theorem zln_112 : zln 112 = 6 := rfl
theorem zar_113 : zar 113 0 = 6 := rfl
theorem zia_113 : zia 113 = true := rfl
theorem zit_113 : zit 113 0 = true := rfl
theorem zln_113 : zln 113 = 6 := rfl
theorem zar_114 : zar 114 0 = 10 := rfl
theorem zia_114 : zia 114 = true := rfl
theorem zit_114 : zit 114 0 = true := rfl
theorem zln_114 : zln 114 = 10 := rfl
theorem zar_115 : zar 115 0 = 10 := rfl
theorem zia_115 : zia 115 = true := rfl
theorem zit_115 : zit 115 0 = true := rfl
theorem zln_115 : zln 115 = 10 := rfl
theorem zar_116 : zar 116 0 = 128 := rfl
theorem zia_116 : zia 116 = true := rfl
theorem zit_116 : zit 116 0 = true := rfl
theorem zln_116 : zln 116 = 128 := rfl
theorem zar_117 : zar 117 0 = 128 := rfl
theorem zia_117 : zia 117 = true := rfl
theorem zit_117 : zit 117 0 = true := rfl
theorem zln_117 : zln 117 = 128 := rfl
theorem zar_118 : zar 118 0 = 2 := rfl
theorem zia_118 : zia 118 = true := rfl
theorem zit_118 : zit 118 0 = true := rfl
theorem zln_118 : zln 118 = 2 := rfl
theorem zar_119 : zar 119 0 = 2 := rfl
theorem zia_119 : zia 119 = true := rfl
theorem zit_119 : zit 119 0 = true := rfl
theorem zln_119 : zln 119 = 2 := rfl
theorem zar_120 : zar 120 0 = 2 := rfl
theorem zia_120 : zia 120 = true := rfl
theorem zit_120 : zit 120 0 = true := rfl
theorem zln_120 : zln 120 = 2 := rfl
theorem zar_121 : zar 121 0 = 2 := rfl
theorem zia_121 : zia 121 = true := rfl
theorem zit_121 : zit 121 0 = true := rfl
theorem zln_121 : zln 121 = 2 := rfl
theorem zar_122 : zar 122 0 = 2 := rfl
theorem zia_122 : zia 122 = true := rfl
theorem zit_122 : zit 122 0 = true := rfl
theorem zln_122 : zln 122 = 2 := rfl
theorem zar_123 : zar 123 0 = 6 := rfl
theorem zia_123 : zia 123 = true := rfl
theorem zit_123 : zit 123 0 = true := rfl
theorem zln_123 : zln 123 = 6 := rfl
theorem zar_124 : zar 124 0 = 6 := rfl
theorem zia_124 : zia 124 = true := rfl
theorem zit_124 : zit 124 0 = true := rfl
theorem zln_124 : zln 124 = 6 := rfl
theorem zar_125 : zar 125 0 = 12 := rfl
theorem zia_125 : zia 125 = true := rfl
theorem zit_125 : zit 125 0 = true := rfl
theorem zln_125 : zln 125 = 12 := rfl
theorem zar_126 : zar 126 0 = 24 := rfl
theorem zia_126 : zia 126 = true := rfl
theorem zit_126 : zit 126 0 = true := rfl
theorem zln_126 : zln 126 = 24 := rfl
theorem zar_127 : zar 127 0 = 2 := rfl
theorem zia_127 : zia 127 = true := rfl
theorem zit_127 : zit 127 0 = true := rfl
theorem zln_127 : zln 127 = 2 := rfl
theorem zar_128 : zar 128 0 = 24 := rfl
theorem zia_128 : zia 128 = true := rfl
theorem zit_128 : zit 128 0 = true := rfl
theorem zln_128 : zln 128 = 24 := rfl
theorem zar_129 : zar 129 0 = 24 := rfl
theorem zia_129 : zia 129 = true := rfl
theorem zit_129 : zit 129 0 = true := rfl
theorem zln_129 : zln 129 = 24 := rfl
theorem zar_130 : zar 130 2 = 7 := rfl
theorem zia_130 : zia 130 = true := rfl
theorem zit_130 : zit 130 2 = true := rfl
theorem zln_130 : zln 130 = 7 := rfl
theorem zar_131 : zar 131 2 = 64 := rfl
theorem zia_131 : zia 131 = true := rfl
theorem zit_131 : zit 131 2 = true := rfl
theorem zln_131 : zln 131 = 64 := rfl
theorem zar_132 : zar 132 0 = 5000 := rfl
theorem zia_132 : zia 132 = true := rfl
theorem zit_132 : zit 132 0 = true := rfl
theorem zln_132 : zln 132 = 5000 := rfl
theorem zar_133 : zar 133 0 = 5000 := rfl
theorem zia_133 : zia 133 = true := rfl
theorem zit_133 : zit 133 0 = true := rfl
theorem zln_133 : zln 133 = 5000 := rfl
theorem zar_134 : zar 134 0 = 72 := rfl
theorem zia_134 : zia 134 = true := rfl
theorem zit_134 : zit 134 0 = true := rfl
theorem zln_134 : zln 134 = 72 := rfl
theorem zar_135 : zar 135 0 = 72 := rfl
theorem zia_135 : zia 135 = true := rfl
theorem zit_135 : zit 135 0 = true := rfl
theorem zln_135 : zln 135 = 72 := rfl
theorem zar_136 : zar 136 0 = 3 := rfl
theorem zia_136 : zia 136 = true := rfl
theorem zit_136 : zit 136 0 = true := rfl
theorem zln_136 : zln 136 = 3 := rfl
theorem zar_137 : zar 137 0 = 3 := rfl
theorem zia_137 : zia 137 = true := rfl
theorem zit_137 : zit 137 0 = true := rfl
theorem zln_137 : zln 137 = 3 := rfl
theorem zar_138 : zar 138 0 = 24 := rfl
theorem zia_138 : zia 138 = true := rfl
theorem zit_138 : zit 138 0 = true := rfl
theorem zln_138 : zln 138 = 24 := rfl
theorem zar_139 : zar 139 0 = 24 := rfl
theorem zia_139 : zia 139 = true := rfl
theorem zit_139 : zit 139 0 = true := rfl
theorem zln_139 : zln 139 = 24 := rfl
set_option maxRecDepth 100000 in
theorem ag_0_11 : agam 0 11 = (0, 800) := by decide +kernel
set_option maxRecDepth 100000 in
theorem ag_0_12 : agam 0 12 = (-2147483648, 2147483647) := by decide +kernel
set_option maxRecDepth 100000 in
theorem ag_0_13 : agam 0 13 = (-2147483648, 2147483647) := by decide +kernel
set_option maxRecDepth 100000 in
theorem ag_0_14 : agam 0 14 = (0, 1) := by decide +kernel
set_option maxRecDepth 100000 in
theorem ae_1 : aent 1 = ((-128, 127), []) := by decide +kernel
set_option maxRecDepth 100000 in
theorem ag_3_1 : agam 3 1 = (0, 3) := by decide +kernel
set_option maxRecDepth 100000 in
theorem ag_5_1 : agam 5 1 = (0, 6) := by decide +kernel
set_option maxRecDepth 100000 in
theorem ag_9_1 : agam 9 1 = (0, 3) := by decide +kernel
set_option maxRecDepth 100000 in
theorem ag_48_4 : agam 48 4 = (0, 64) := by decide +kernel
set_option maxRecDepth 100000 in
theorem ag_48_6 : agam 48 6 = (0, 72) := by decide +kernel
set_option maxRecDepth 100000 in
theorem ag_48_7 : agam 48 7 = (0, 8) := by decide +kernel
set_option maxRecDepth 100000 in
theorem ag_48_8 : agam 48 8 = (0, 64) := by decide +kernel
set_option maxRecDepth 100000 in
theorem ag_48_9 : agam 48 9 = (0, 1) := by decide +kernel
set_option maxRecDepth 100000 in
theorem ae_49 : aent 49 = ((-2147483648, 2147483647), []) := by decide +kernel
set_option maxRecDepth 100000 in
theorem ae_50 : aent 50 = ((-2147483648, 2147483647), []) := by decide +kernel
set_option maxRecDepth 100000 in
theorem ae_51 : aent 51 = ((0, 64), []) := by decide +kernel
set_option maxRecDepth 100000 in
theorem ae_52 : aent 52 = ((0, 64), []) := by decide +kernel
set_option maxRecDepth 100000 in
theorem ae_53 : aent 53 = ((-2147483648, 2147483647), []) := by decide +kernel
set_option maxRecDepth 100000 in
theorem ag_55_3 : agam 55 3 = (0, 801) := by decide +kernel
set_option maxRecDepth 100000 in
theorem ag_55_4 : agam 55 4 = (-2147483648, 2147483647) := by decide +kernel
set_option maxRecDepth 100000 in
theorem ag_55_7 : agam 55 7 = (-2147483648, 2147483647) := by decide +kernel
set_option maxRecDepth 100000 in
theorem ag_55_8 : agam 55 8 = (-2147483648, 2147483647) := by decide +kernel
set_option maxRecDepth 100000 in
theorem ag_71_1 : agam 71 1 = (0, 24) := by decide +kernel
set_option maxRecDepth 100000 in
theorem ag_76_8 : agam 76 8 = (0, 24) := by decide +kernel
set_option maxRecDepth 100000 in
theorem ag_76_10 : agam 76 10 = (0, 1) := by decide +kernel
set_option maxRecDepth 100000 in
theorem ae_81 : aent 81 = ((-2147483648, 2147483647), []) := by decide +kernel
set_option maxRecDepth 100000 in
theorem ae_82 : aent 82 = ((-2147483648, 2147483647), []) := by decide +kernel
set_option maxRecDepth 100000 in
theorem ae_83 : aent 83 = ((-2147483648, 2147483647), []) := by decide +kernel
set_option maxRecDepth 100000 in
theorem ae_84 : aent 84 = ((-2147483648, 2147483647), []) := by decide +kernel
set_option maxRecDepth 100000 in
theorem ag_95_0 : agam 95 0 = (-2147483648, 2147483647) := by decide +kernel
set_option maxRecDepth 100000 in
theorem ag_95_2 : agam 95 2 = (0, 800) := by decide +kernel
set_option maxRecDepth 100000 in
theorem ag_95_24 : agam 95 24 = (-2147483648, 2147483647) := by decide +kernel
set_option maxRecDepth 100000 in
theorem ag_95_25 : agam 95 25 = (-2147483648, 2147483647) := by decide +kernel
set_option maxRecDepth 100000 in
theorem ag_95_26 : agam 95 26 = (0, 800) := by decide +kernel
set_option maxRecDepth 100000 in
theorem ag_95_27 : agam 95 27 = (0, 802) := by decide +kernel
set_option maxRecDepth 100000 in
theorem ag_95_28 : agam 95 28 = (0, 802) := by decide +kernel
set_option maxRecDepth 100000 in
theorem ag_95_29 : agam 95 29 = (-2147483648, 2147483647) := by decide +kernel
set_option maxRecDepth 100000 in
theorem ag_95_30 : agam 95 30 = (-2147483648, 2147483647) := by decide +kernel
set_option maxRecDepth 100000 in
theorem ag_95_31 : agam 95 31 = (-2147483648, 2147483647) := by decide +kernel
set_option maxRecDepth 100000 in
theorem ag_95_32 : agam 95 32 = (-2147483648, 2147483647) := by decide +kernel
set_option maxRecDepth 100000 in
theorem ag_95_33 : agam 95 33 = (-2147483648, 2147483647) := by decide +kernel
set_option maxRecDepth 100000 in
theorem ag_95_34 : agam 95 34 = (-2147483648, 2147483647) := by decide +kernel
set_option maxRecDepth 100000 in
theorem ag_95_35 : agam 95 35 = (0, 8) := by decide +kernel
set_option maxRecDepth 100000 in
theorem ag_95_36 : agam 95 36 = (0, 64) := by decide +kernel
set_option maxRecDepth 100000 in
theorem ag_95_49 : agam 95 49 = (0, 1) := by decide +kernel
set_option maxRecDepth 100000 in
theorem ag_95_52 : agam 95 52 = (0, 64) := by decide +kernel
set_option maxRecDepth 100000 in
theorem ag_95_61 : agam 95 61 = (0, 24) := by decide +kernel
set_option maxRecDepth 100000 in
theorem ag_95_62 : agam 95 62 = (-1, 24) := by decide +kernel
set_option maxRecDepth 100000 in
theorem ae_96 : aent 96 = ((0, 255), []) := by decide +kernel
set_option maxRecDepth 100000 in
theorem ag_97_1 : agam 97 1 = (0, 6) := by decide +kernel
set_option maxRecDepth 100000 in
theorem ag_97_2 : agam 97 2 = (0, 4) := by decide +kernel
set_option maxRecDepth 100000 in
theorem ag_97_7 : agam 97 7 = (0, 3) := by decide +kernel
set_option maxRecDepth 100000 in
theorem ag_97_8 : agam 97 8 = (0, 6) := by decide +kernel
set_option maxRecDepth 100000 in
theorem ag_97_9 : agam 97 9 = (0, 4) := by decide +kernel
set_option maxRecDepth 100000 in
theorem ag_97_10 : agam 97 10 = (0, 3) := by decide +kernel
set_option maxRecDepth 100000 in
theorem ag_97_13 : agam 97 13 = (0, 64) := by decide +kernel
set_option maxRecDepth 100000 in
theorem ae_98 : aent 98 = ((-2147483648, 2147483647), []) := by decide +kernel
set_option maxRecDepth 100000 in
theorem ae_99 : aent 99 = ((-2147483648, 2147483647), []) := by decide +kernel
set_option maxRecDepth 100000 in
theorem ae_100 : aent 100 = ((-2147483648, 2147483647), []) := by decide +kernel
set_option maxRecDepth 100000 in
theorem ae_101 : aent 101 = ((-2147483648, 2147483647), []) := by decide +kernel
set_option maxRecDepth 100000 in
theorem ae_102 : aent 102 = ((-2147483648, 2147483647), []) := by decide +kernel
set_option maxRecDepth 100000 in
theorem ae_103 : aent 103 = ((-2147483648, 2147483647), []) := by decide +kernel
set_option maxRecDepth 100000 in
theorem ae_104 : aent 104 = ((0, 1), []) := by decide +kernel
set_option maxRecDepth 100000 in
theorem ae_105 : aent 105 = ((-1, 2), []) := by decide +kernel
set_option maxRecDepth 100000 in
theorem ae_106 : aent 106 = ((0, 99), []) := by decide +kernel
set_option maxRecDepth 100000 in
theorem ae_107 : aent 107 = ((-2147483648, 2147483647), []) := by decide +kernel
set_option maxRecDepth 100000 in
theorem ae_108 : aent 108 = ((-2147483648, 2147483647), []) := by decide +kernel
set_option maxRecDepth 100000 in
theorem ae_109 : aent 109 = ((0, 3), []) := by decide +kernel
set_option maxRecDepth 100000 in
theorem ae_110 : aent 110 = ((0, 8), []) := by decide +kernel
set_option maxRecDepth 100000 in
theorem ae_111 : aent 111 = ((-2147483648, 2147483647), []) := by decide +kernel
set_option maxRecDepth 100000 in
theorem ae_112 : aent 112 = ((-2147483648, 2147483647), []) := by decide +kernel
set_option maxRecDepth 100000 in
theorem ae_113 : aent 113 = ((-2147483648, 2147483647), []) := by decide +kernel
set_option maxRecDepth 100000 in
theorem ae_114 : aent 114 = ((0, 64), []) := by decide +kernel
set_option maxRecDepth 100000 in
theorem ae_115 : aent 115 = ((0, 64), []) := by decide +kernel
set_option maxRecDepth 100000 in
theorem ae_116 : aent 116 = ((-2147483648, 2147483647), []) := by decide +kernel
set_option maxRecDepth 100000 in
theorem ae_117 : aent 117 = ((-2147483648, 2147483647), []) := by decide +kernel
set_option maxRecDepth 100000 in
theorem ae_118 : aent 118 = ((-2147483648, 2147483647), []) := by decide +kernel
set_option maxRecDepth 100000 in
theorem ae_119 : aent 119 = ((-2147483648, 2147483647), []) := by decide +kernel
set_option maxRecDepth 100000 in
theorem ae_120 : aent 120 = ((-2147483648, 2147483647), []) := by decide +kernel
set_option maxRecDepth 100000 in
theorem ae_121 : aent 121 = ((-2147483648, 2147483647), []) := by decide +kernel
set_option maxRecDepth 100000 in
theorem ae_122 : aent 122 = ((-2147483648, 2147483647), []) := by decide +kernel
set_option maxRecDepth 100000 in
theorem ae_123 : aent 123 = ((-2147483648, 2147483647), []) := by decide +kernel
set_option maxRecDepth 100000 in
theorem ae_124 : aent 124 = ((-2147483648, 2147483647), []) := by decide +kernel
set_option maxRecDepth 100000 in
theorem ae_125 : aent 125 = ((-2147483648, 2147483647), []) := by decide +kernel
set_option maxRecDepth 100000 in
theorem ae_126 : aent 126 = ((-1, 5), []) := by decide +kernel
set_option maxRecDepth 100000 in
theorem ae_127 : aent 127 = ((0, 12), []) := by decide +kernel
set_option maxRecDepth 100000 in
theorem ae_128 : aent 128 = ((0, 11), []) := by decide +kernel
set_option maxRecDepth 100000 in
theorem ae_129 : aent 129 = ((-2147483648, 2147483647), []) := by decide +kernel
set_option maxRecDepth 100000 in
theorem ae_131 : aent 131 = ((-2147483648, 2147483647), []) := by decide +kernel
set_option maxRecDepth 100000 in
theorem ae_132 : aent 132 = ((-2147483648, 2147483647), []) := by decide +kernel
set_option maxRecDepth 100000 in
theorem ae_133 : aent 133 = ((-2147483648, 2147483647), []) := by decide +kernel
set_option maxRecDepth 100000 in
theorem ae_134 : aent 134 = ((0, 999), []) := by decide +kernel
set_option maxRecDepth 100000 in
theorem ae_135 : aent 135 = ((0, 8), []) := by decide +kernel
set_option maxRecDepth 100000 in
theorem ae_136 : aent 136 = ((0, 6), []) := by decide +kernel
set_option maxRecDepth 100000 in
theorem ae_143 : aent 143 = ((-2147483648, 2147483647), []) := by decide +kernel
theorem w32c_m2 : w32 (-2) = (-2) := by decide +kernel
theorem w32c_m1 : w32 (-1) = (-1) := by decide +kernel
theorem w32c_0 : w32 0 = 0 := by decide +kernel
theorem w32c_1 : w32 1 = 1 := by decide +kernel
theorem w32c_2 : w32 2 = 2 := by decide +kernel
theorem w32c_3 : w32 3 = 3 := by decide +kernel
theorem w32c_4 : w32 4 = 4 := by decide +kernel
theorem w32c_5 : w32 5 = 5 := by decide +kernel
theorem w32c_6 : w32 6 = 6 := by decide +kernel
theorem w32c_7 : w32 7 = 7 := by decide +kernel
theorem w32c_8 : w32 8 = 8 := by decide +kernel
theorem w32c_9 : w32 9 = 9 := by decide +kernel
theorem w32c_10 : w32 10 = 10 := by decide +kernel
theorem w32c_11 : w32 11 = 11 := by decide +kernel
theorem w32c_12 : w32 12 = 12 := by decide +kernel
theorem w32c_13 : w32 13 = 13 := by decide +kernel
theorem w32c_14 : w32 14 = 14 := by decide +kernel
theorem w32c_15 : w32 15 = 15 := by decide +kernel
theorem w32c_16 : w32 16 = 16 := by decide +kernel
theorem w32c_17 : w32 17 = 17 := by decide +kernel
theorem w32c_20 : w32 20 = 20 := by decide +kernel
theorem w32c_23 : w32 23 = 23 := by decide +kernel
theorem w32c_24 : w32 24 = 24 := by decide +kernel
theorem w32c_25 : w32 25 = 25 := by decide +kernel
theorem w32c_26 : w32 26 = 26 := by decide +kernel
theorem w32c_27 : w32 27 = 27 := by decide +kernel
theorem w32c_28 : w32 28 = 28 := by decide +kernel
theorem w32c_29 : w32 29 = 29 := by decide +kernel
theorem w32c_32 : w32 32 = 32 := by decide +kernel
theorem w32c_33 : w32 33 = 33 := by decide +kernel
theorem w32c_39 : w32 39 = 39 := by decide +kernel
theorem w32c_40 : w32 40 = 40 := by decide +kernel
theorem w32c_41 : w32 41 = 41 := by decide +kernel
theorem w32c_42 : w32 42 = 42 := by decide +kernel
theorem w32c_43 : w32 43 = 43 := by decide +kernel
theorem w32c_45 : w32 45 = 45 := by decide +kernel
theorem w32c_47 : w32 47 = 47 := by decide +kernel
theorem w32c_48 : w32 48 = 48 := by decide +kernel
theorem w32c_57 : w32 57 = 57 := by decide +kernel
theorem w32c_59 : w32 59 = 59 := by decide +kernel
theorem w32c_60 : w32 60 = 60 := by decide +kernel
theorem w32c_61 : w32 61 = 61 := by decide +kernel
theorem w32c_62 : w32 62 = 62 := by decide +kernel
theorem w32c_63 : w32 63 = 63 := by decide +kernel
theorem w32c_64 : w32 64 = 64 := by decide +kernel
theorem w32c_96 : w32 96 = 96 := by decide +kernel
theorem w32c_97 : w32 97 = 97 := by decide +kernel
theorem w32c_99 : w32 99 = 99 := by decide +kernel
theorem w32c_100 : w32 100 = 100 := by decide +kernel
theorem w32c_118 : w32 118 = 118 := by decide +kernel
theorem w32c_122 : w32 122 = 122 := by decide +kernel
theorem w32c_255 : w32 255 = 255 := by decide +kernel
theorem w32c_256 : w32 256 = 256 := by decide +kernel
theorem w32c_257 : w32 257 = 257 := by decide +kernel
theorem w32c_258 : w32 258 = 258 := by decide +kernel
theorem w32c_260 : w32 260 = 260 := by decide +kernel
theorem w32c_261 : w32 261 = 261 := by decide +kernel
theorem w32c_262 : w32 262 = 262 := by decide +kernel
theorem w32c_780 : w32 780 = 780 := by decide +kernel
theorem w32c_800 : w32 800 = 800 := by decide +kernel
theorem w32c_999 : w32 999 = 999 := by decide +kernel
theorem w32c_1000 : w32 1000 = 1000 := by decide +kernel
theorem w32c_9999 : w32 9999 = 9999 := by decide +kernel
theorem w32c_65536 : w32 65536 = 65536 := by decide +kernel
theorem w32c_99999 : w32 99999 = 99999 := by decide +kernel
theorem w32c_1000000 : w32 1000000 = 1000000 := by decide +kernel
end
section
def zc_153 : List Nat := [6]
theorem s_153_0 {E : yE} {n d : Nat} {mem : yMem} {Post : Option yV → yMem → Prop} {st : List yV} {r1 r2 r3 r4 r5 r6 r7 r8 r9 : Option yV} {x : Int} : zvc E (n + 1) zc_153 d xm_153 0 [some (4, x), r1, r2, r3, r4, r5, r6, r7, r8, r9] (st) mem Post = (zvc E n zc_153 d xm_153 1 [some (4, x), r1, r2, r3, r4, r5, r6, r7, r8, r9] ((4, x) :: st) mem Post) := zrf rfl
theorem s_153_1n {E : yE} {n d : Nat} {mem : yMem} {Post : Option yV → yMem → Prop} {st : List yV} {r0 r1 r2 r4 r5 r6 r7 r8 r9 : Option yV} {x : Int} : zvc E (n + 1) zc_153 d xm_153 1 [r0, r1, r2, none, r4, r5, r6, r7, r8, r9] ((4, x) :: st) mem Post = (zvc E n zc_153 d xm_153 3 [r0, r1, r2, none, some (4, x), none, r6, r7, r8, r9] (st) mem Post) := zrf rfl
theorem s_153_1i {E : yE} {n d : Nat} {mem : yMem} {Post : Option yV → yMem → Prop} {st : List yV} {r0 r1 r2 r4 r5 r6 r7 r8 r9 : Option yV} {x w : Int} : zvc E (n + 1) zc_153 d xm_153 1 [r0, r1, r2, some (0, w), r4, r5, r6, r7, r8, r9] ((4, x) :: st) mem Post = (zvc E n zc_153 d xm_153 3 [r0, r1, r2, some (0, w), some (4, x), none, r6, r7, r8, r9] (st) mem Post) := zrf rfl
theorem s_153_1p {E : yE} {n d : Nat} {mem : yMem} {Post : Option yV → yMem → Prop} {st : List yV} {r0 r1 r2 r4 r5 r6 r7 r8 r9 : Option yV} {x w : Int} : zvc E (n + 1) zc_153 d xm_153 1 [r0, r1, r2, some (1, w), r4, r5, r6, r7, r8, r9] ((4, x) :: st) mem Post = (zvc E n zc_153 d xm_153 3 [r0, r1, r2, some (1, w), some (4, x), none, r6, r7, r8, r9] (st) mem Post) := zrf rfl
theorem s_153_1l {E : yE} {n d : Nat} {mem : yMem} {Post : Option yV → yMem → Prop} {st : List yV} {r0 r1 r2 r4 r5 r6 r7 r8 r9 : Option yV} {x w : Int} : zvc E (n + 1) zc_153 d xm_153 1 [r0, r1, r2, some (4, w), r4, r5, r6, r7, r8, r9] ((4, x) :: st) mem Post = (zvc E n zc_153 d xm_153 3 [r0, r1, r2, none, some (4, x), none, r6, r7, r8, r9] (st) mem Post) := zrf rfl
theorem s_153_1j {E : yE} {n d : Nat} {mem : yMem} {Post : Option yV → yMem → Prop} {st : List yV} {r0 r1 r2 r3 r4 r5 r6 r7 r8 r9 : Option yV} {x : Int} : zvc E (n + 1) zc_153 d xm_153 1 [r0, r1, r2, r3, r4, r5, r6, r7, r8, r9] ((4, x) :: st) mem Post = (zvc E n zc_153 d xm_153 3 [r0, r1, r2, znl r3, some (4, x), none, r6, r7, r8, r9] (st) mem Post) := zrf rfl
theorem s_153_3 {E : yE} {n d : Nat} {mem : yMem} {Post : Option yV → yMem → Prop} {st : List yV} {r0 r1 r3 r4 r5 r6 r7 r8 r9 : Option yV} {x : Int} : zvc E (n + 1) zc_153 d xm_153 3 [r0, r1, some (4, x), r3, r4, r5, r6, r7, r8, r9] (st) mem Post = (zvc E n zc_153 d xm_153 4 [r0, r1, some (4, x), r3, r4, r5, r6, r7, r8, r9] ((4, x) :: st) mem Post) := zrf rfl
theorem s_153_4n {E : yE} {n d : Nat} {mem : yMem} {Post : Option yV → yMem → Prop} {st : List yV} {r0 r1 r2 r3 r4 r6 r7 r8 r9 : Option yV} {x : Int} : zvc E (n + 1) zc_153 d xm_153 4 [r0, r1, r2, r3, r4, none, r6, r7, r8, r9] ((4, x) :: st) mem Post = (zvc E n zc_153 d xm_153 6 [r0, r1, r2, r3, r4, none, some (4, x), none, r8, r9] (st) mem Post) := zrf rfl
theorem s_153_4i {E : yE} {n d : Nat} {mem : yMem} {Post : Option yV → yMem → Prop} {st : List yV} {r0 r1 r2 r3 r4 r6 r7 r8 r9 : Option yV} {x w : Int} : zvc E (n + 1) zc_153 d xm_153 4 [r0, r1, r2, r3, r4, some (0, w), r6, r7, r8, r9] ((4, x) :: st) mem Post = (zvc E n zc_153 d xm_153 6 [r0, r1, r2, r3, r4, some (0, w), some (4, x), none, r8, r9] (st) mem Post) := zrf rfl
theorem s_153_4p {E : yE} {n d : Nat} {mem : yMem} {Post : Option yV → yMem → Prop} {st : List yV} {r0 r1 r2 r3 r4 r6 r7 r8 r9 : Option yV} {x w : Int} : zvc E (n + 1) zc_153 d xm_153 4 [r0, r1, r2, r3, r4, some (1, w), r6, r7, r8, r9] ((4, x) :: st) mem Post = (zvc E n zc_153 d xm_153 6 [r0, r1, r2, r3, r4, some (1, w), some (4, x), none, r8, r9] (st) mem Post) := zrf rfl
theorem s_153_4l {E : yE} {n d : Nat} {mem : yMem} {Post : Option yV → yMem → Prop} {st : List yV} {r0 r1 r2 r3 r4 r6 r7 r8 r9 : Option yV} {x w : Int} : zvc E (n + 1) zc_153 d xm_153 4 [r0, r1, r2, r3, r4, some (4, w), r6, r7, r8, r9] ((4, x) :: st) mem Post = (zvc E n zc_153 d xm_153 6 [r0, r1, r2, r3, r4, none, some (4, x), none, r8, r9] (st) mem Post) := zrf rfl
theorem s_153_4j {E : yE} {n d : Nat} {mem : yMem} {Post : Option yV → yMem → Prop} {st : List yV} {r0 r1 r2 r3 r4 r5 r6 r7 r8 r9 : Option yV} {x : Int} : zvc E (n + 1) zc_153 d xm_153 4 [r0, r1, r2, r3, r4, r5, r6, r7, r8, r9] ((4, x) :: st) mem Post = (zvc E n zc_153 d xm_153 6 [r0, r1, r2, r3, r4, znl r5, some (4, x), none, r8, r9] (st) mem Post) := zrf rfl
theorem g_153_6 {E : yE} {n d : Nat} {mem : yMem} {Post : Option yV → yMem → Prop} {st : List yV} {r0 r1 r2 r3 r4 r5 r7 r8 r9 : Option yV} {x : Int} : zgo E n zc_153 d xm_153 6 [r0, r1, r2, r3, r4, r5, some (4, x), r7, r8, r9] (st) mem Post = (zvc E n zc_153 d xm_153 8 [r0, r1, r2, r3, r4, r5, some (4, x), r7, r8, r9] ((4, x) :: st) mem Post) := zrf rfl
theorem k_153_6 {E : yE} {n d : Nat} {mem : yMem} {Post : Option yV → yMem → Prop} {st : List yV} {rg : zR} : zvc E (n + 1) zc_153 d xm_153 6 rg st mem Post = zG E d xm_153 6 rg st mem Post := zrf rfl
theorem s_153_8 {E : yE} {n d : Nat} {mem : yMem} {Post : Option yV → yMem → Prop} {st : List yV} {r0 r1 r2 r3 r4 r5 r6 r7 r8 r9 : Option yV} : zvc E (n + 1) zc_153 d xm_153 8 [r0, r1, r2, r3, r4, r5, r6, r7, r8, r9] (st) mem Post = (zvc E n zc_153 d xm_153 9 [r0, r1, r2, r3, r4, r5, r6, r7, r8, r9] ((4, 0) :: st) mem Post) := zrf rfl
theorem s_153_9 {E : yE} {n d : Nat} {mem : yMem} {Post : Option yV → yMem → Prop} {st : List yV} {r0 r1 r2 r3 r4 r5 r6 r7 r8 r9 : Option yV} {x y : Int} : zvc E (n + 1) zc_153 d xm_153 9 [r0, r1, r2, r3, r4, r5, r6, r7, r8, r9] ((4, y) :: (4, x) :: st) mem Post = (zvc E n zc_153 d xm_153 10 [r0, r1, r2, r3, r4, r5, r6, r7, r8, r9] ((0, ycmp x y) :: st) mem Post) := zrf rfl
theorem s_153_10 {E : yE} {n d : Nat} {mem : yMem} {Post : Option yV → yMem → Prop} {st : List yV} {r0 r1 r2 r3 r4 r5 r6 r7 r8 r9 : Option yV} {x : Int} : zvc E (n + 1) zc_153 d xm_153 10 [r0, r1, r2, r3, r4, r5, r6, r7, r8, r9] ((0, x) :: st) mem Post = ((w32 x = w32 0 → zvc E n zc_153 d xm_153 31 [r0, r1, r2, r3, r4, r5, r6, r7, r8, r9] (st) mem Post) ∧ (¬ (w32 x = w32 0) → zvc E n zc_153 d xm_153 13 [r0, r1, r2, r3, r4, r5, r6, r7, r8, r9] (st) mem Post)) := zrf rfl
theorem s_153_13 {E : yE} {n d : Nat} {mem : yMem} {Post : Option yV → yMem → Prop} {st : List yV} {r0 r1 r2 r3 r5 r6 r7 r8 r9 : Option yV} {x : Int} : zvc E (n + 1) zc_153 d xm_153 13 [r0, r1, r2, r3, some (4, x), r5, r6, r7, r8, r9] (st) mem Post = (zvc E n zc_153 d xm_153 15 [r0, r1, r2, r3, some (4, x), r5, r6, r7, r8, r9] ((4, x) :: st) mem Post) := zrf rfl
theorem s_153_15 {E : yE} {n d : Nat} {mem : yMem} {Post : Option yV → yMem → Prop} {st : List yV} {r0 r1 r2 r3 r4 r5 r7 r8 r9 : Option yV} {x : Int} : zvc E (n + 1) zc_153 d xm_153 15 [r0, r1, r2, r3, r4, r5, some (4, x), r7, r8, r9] (st) mem Post = (zvc E n zc_153 d xm_153 17 [r0, r1, r2, r3, r4, r5, some (4, x), r7, r8, r9] ((4, x) :: st) mem Post) := zrf rfl
theorem s_153_17 {E : yE} {n d : Nat} {mem : yMem} {Post : Option yV → yMem → Prop} {st : List yV} {r0 r1 r2 r3 r4 r5 r6 r7 r8 r9 : Option yV} {x y : Int} : zvc E (n + 1) zc_153 d xm_153 17 [r0, r1, r2, r3, r4, r5, r6, r7, r8, r9] ((4, y) :: (4, x) :: st) mem Post = (¬ w64 y = 0 ∧ zvc E n zc_153 d xm_153 18 [r0, r1, r2, r3, r4, r5, r6, r7, r8, r9] ((4, ylbin 10 x y) :: st) mem Post) := zrf rfl
theorem s_153_18n {E : yE} {n d : Nat} {mem : yMem} {Post : Option yV → yMem → Prop} {st : List yV} {r0 r1 r2 r3 r4 r5 r6 r8 r9 : Option yV} {x : Int} : zvc E (n + 1) zc_153 d xm_153 18 [r0, r1, r2, r3, r4, r5, r6, none, r8, r9] ((4, x) :: st) mem Post = (zvc E n zc_153 d xm_153 20 [r0, r1, r2, r3, r4, r5, r6, none, some (4, x), none] (st) mem Post) := zrf rfl
theorem s_153_18i {E : yE} {n d : Nat} {mem : yMem} {Post : Option yV → yMem → Prop} {st : List yV} {r0 r1 r2 r3 r4 r5 r6 r8 r9 : Option yV} {x w : Int} : zvc E (n + 1) zc_153 d xm_153 18 [r0, r1, r2, r3, r4, r5, r6, some (0, w), r8, r9] ((4, x) :: st) mem Post = (zvc E n zc_153 d xm_153 20 [r0, r1, r2, r3, r4, r5, r6, some (0, w), some (4, x), none] (st) mem Post) := zrf rfl
theorem s_153_18p {E : yE} {n d : Nat} {mem : yMem} {Post : Option yV → yMem → Prop} {st : List yV} {r0 r1 r2 r3 r4 r5 r6 r8 r9 : Option yV} {x w : Int} : zvc E (n + 1) zc_153 d xm_153 18 [r0, r1, r2, r3, r4, r5, r6, some (1, w), r8, r9] ((4, x) :: st) mem Post = (zvc E n zc_153 d xm_153 20 [r0, r1, r2, r3, r4, r5, r6, some (1, w), some (4, x), none] (st) mem Post) := zrf rfl
theorem s_153_18l {E : yE} {n d : Nat} {mem : yMem} {Post : Option yV → yMem → Prop} {st : List yV} {r0 r1 r2 r3 r4 r5 r6 r8 r9 : Option yV} {x w : Int} : zvc E (n + 1) zc_153 d xm_153 18 [r0, r1, r2, r3, r4, r5, r6, some (4, w), r8, r9] ((4, x) :: st) mem Post = (zvc E n zc_153 d xm_153 20 [r0, r1, r2, r3, r4, r5, r6, none, some (4, x), none] (st) mem Post) := zrf rfl
theorem s_153_18j {E : yE} {n d : Nat} {mem : yMem} {Post : Option yV → yMem → Prop} {st : List yV} {r0 r1 r2 r3 r4 r5 r6 r7 r8 r9 : Option yV} {x : Int} : zvc E (n + 1) zc_153 d xm_153 18 [r0, r1, r2, r3, r4, r5, r6, r7, r8, r9] ((4, x) :: st) mem Post = (zvc E n zc_153 d xm_153 20 [r0, r1, r2, r3, r4, r5, r6, znl r7, some (4, x), none] (st) mem Post) := zrf rfl
theorem s_153_20 {E : yE} {n d : Nat} {mem : yMem} {Post : Option yV → yMem → Prop} {st : List yV} {r0 r1 r2 r3 r4 r5 r7 r8 r9 : Option yV} {x : Int} : zvc E (n + 1) zc_153 d xm_153 20 [r0, r1, r2, r3, r4, r5, some (4, x), r7, r8, r9] (st) mem Post = (zvc E n zc_153 d xm_153 22 [r0, r1, r2, r3, r4, r5, some (4, x), r7, r8, r9] ((4, x) :: st) mem Post) := zrf rfl
theorem s_153_22n {E : yE} {n d : Nat} {mem : yMem} {Post : Option yV → yMem → Prop} {st : List yV} {r0 r1 r2 r4 r5 r6 r7 r8 r9 : Option yV} {x : Int} : zvc E (n + 1) zc_153 d xm_153 22 [r0, r1, r2, none, r4, r5, r6, r7, r8, r9] ((4, x) :: st) mem Post = (zvc E n zc_153 d xm_153 24 [r0, r1, r2, none, some (4, x), none, r6, r7, r8, r9] (st) mem Post) := zrf rfl
theorem s_153_22i {E : yE} {n d : Nat} {mem : yMem} {Post : Option yV → yMem → Prop} {st : List yV} {r0 r1 r2 r4 r5 r6 r7 r8 r9 : Option yV} {x w : Int} : zvc E (n + 1) zc_153 d xm_153 22 [r0, r1, r2, some (0, w), r4, r5, r6, r7, r8, r9] ((4, x) :: st) mem Post = (zvc E n zc_153 d xm_153 24 [r0, r1, r2, some (0, w), some (4, x), none, r6, r7, r8, r9] (st) mem Post) := zrf rfl
theorem s_153_22p {E : yE} {n d : Nat} {mem : yMem} {Post : Option yV → yMem → Prop} {st : List yV} {r0 r1 r2 r4 r5 r6 r7 r8 r9 : Option yV} {x w : Int} : zvc E (n + 1) zc_153 d xm_153 22 [r0, r1, r2, some (1, w), r4, r5, r6, r7, r8, r9] ((4, x) :: st) mem Post = (zvc E n zc_153 d xm_153 24 [r0, r1, r2, some (1, w), some (4, x), none, r6, r7, r8, r9] (st) mem Post) := zrf rfl
theorem s_153_22l {E : yE} {n d : Nat} {mem : yMem} {Post : Option yV → yMem → Prop} {st : List yV} {r0 r1 r2 r4 r5 r6 r7 r8 r9 : Option yV} {x w : Int} : zvc E (n + 1) zc_153 d xm_153 22 [r0, r1, r2, some (4, w), r4, r5, r6, r7, r8, r9] ((4, x) :: st) mem Post = (zvc E n zc_153 d xm_153 24 [r0, r1, r2, none, some (4, x), none, r6, r7, r8, r9] (st) mem Post) := zrf rfl
theorem s_153_22j {E : yE} {n d : Nat} {mem : yMem} {Post : Option yV → yMem → Prop} {st : List yV} {r0 r1 r2 r3 r4 r5 r6 r7 r8 r9 : Option yV} {x : Int} : zvc E (n + 1) zc_153 d xm_153 22 [r0, r1, r2, r3, r4, r5, r6, r7, r8, r9] ((4, x) :: st) mem Post = (zvc E n zc_153 d xm_153 24 [r0, r1, r2, znl r3, some (4, x), none, r6, r7, r8, r9] (st) mem Post) := zrf rfl
theorem s_153_24 {E : yE} {n d : Nat} {mem : yMem} {Post : Option yV → yMem → Prop} {st : List yV} {r0 r1 r2 r3 r4 r5 r6 r7 r9 : Option yV} {x : Int} : zvc E (n + 1) zc_153 d xm_153 24 [r0, r1, r2, r3, r4, r5, r6, r7, some (4, x), r9] (st) mem Post = (zvc E n zc_153 d xm_153 26 [r0, r1, r2, r3, r4, r5, r6, r7, some (4, x), r9] ((4, x) :: st) mem Post) := zrf rfl
theorem s_153_26n {E : yE} {n d : Nat} {mem : yMem} {Post : Option yV → yMem → Prop} {st : List yV} {r0 r1 r2 r3 r4 r6 r7 r8 r9 : Option yV} {x : Int} : zvc E (n + 1) zc_153 d xm_153 26 [r0, r1, r2, r3, r4, none, r6, r7, r8, r9] ((4, x) :: st) mem Post = (zvc E n zc_153 d xm_153 28 [r0, r1, r2, r3, r4, none, some (4, x), none, r8, r9] (st) mem Post) := zrf rfl
theorem s_153_26i {E : yE} {n d : Nat} {mem : yMem} {Post : Option yV → yMem → Prop} {st : List yV} {r0 r1 r2 r3 r4 r6 r7 r8 r9 : Option yV} {x w : Int} : zvc E (n + 1) zc_153 d xm_153 26 [r0, r1, r2, r3, r4, some (0, w), r6, r7, r8, r9] ((4, x) :: st) mem Post = (zvc E n zc_153 d xm_153 28 [r0, r1, r2, r3, r4, some (0, w), some (4, x), none, r8, r9] (st) mem Post) := zrf rfl
theorem s_153_26p {E : yE} {n d : Nat} {mem : yMem} {Post : Option yV → yMem → Prop} {st : List yV} {r0 r1 r2 r3 r4 r6 r7 r8 r9 : Option yV} {x w : Int} : zvc E (n + 1) zc_153 d xm_153 26 [r0, r1, r2, r3, r4, some (1, w), r6, r7, r8, r9] ((4, x) :: st) mem Post = (zvc E n zc_153 d xm_153 28 [r0, r1, r2, r3, r4, some (1, w), some (4, x), none, r8, r9] (st) mem Post) := zrf rfl
theorem s_153_26l {E : yE} {n d : Nat} {mem : yMem} {Post : Option yV → yMem → Prop} {st : List yV} {r0 r1 r2 r3 r4 r6 r7 r8 r9 : Option yV} {x w : Int} : zvc E (n + 1) zc_153 d xm_153 26 [r0, r1, r2, r3, r4, some (4, w), r6, r7, r8, r9] ((4, x) :: st) mem Post = (zvc E n zc_153 d xm_153 28 [r0, r1, r2, r3, r4, none, some (4, x), none, r8, r9] (st) mem Post) := zrf rfl
theorem s_153_26j {E : yE} {n d : Nat} {mem : yMem} {Post : Option yV → yMem → Prop} {st : List yV} {r0 r1 r2 r3 r4 r5 r6 r7 r8 r9 : Option yV} {x : Int} : zvc E (n + 1) zc_153 d xm_153 26 [r0, r1, r2, r3, r4, r5, r6, r7, r8, r9] ((4, x) :: st) mem Post = (zvc E n zc_153 d xm_153 28 [r0, r1, r2, r3, r4, znl r5, some (4, x), none, r8, r9] (st) mem Post) := zrf rfl
theorem s_153_28 {E : yE} {n d : Nat} {mem : yMem} {Post : Option yV → yMem → Prop} {st : List yV} {r0 r1 r2 r3 r4 r5 r6 r7 r8 r9 : Option yV} : zvc E (n + 1) zc_153 d xm_153 28 [r0, r1, r2, r3, r4, r5, r6, r7, r8, r9] (st) mem Post = (zvc E n zc_153 d xm_153 6 [r0, r1, r2, r3, r4, r5, r6, r7, r8, r9] (st) mem Post) := zrf rfl
theorem s_153_31 {E : yE} {n d : Nat} {mem : yMem} {Post : Option yV → yMem → Prop} {st : List yV} {r0 r1 r2 r3 r5 r6 r7 r8 r9 : Option yV} {x : Int} : zvc E (n + 1) zc_153 d xm_153 31 [r0, r1, r2, r3, some (4, x), r5, r6, r7, r8, r9] (st) mem Post = (zvc E n zc_153 d xm_153 33 [r0, r1, r2, r3, some (4, x), r5, r6, r7, r8, r9] ((4, x) :: st) mem Post) := zrf rfl
theorem s_153_33 {E : yE} {n d : Nat} {mem : yMem} {Post : Option yV → yMem → Prop} {r0 r1 r2 r3 r4 r5 r6 r7 r8 r9 : Option yV} {x : Int} : zvc E (n + 1) zc_153 d xm_153 33 [r0, r1, r2, r3, r4, r5, r6, r7, r8, r9] ([(4, x)]) mem Post = (Post (some (4, x)) mem) := zrf rfl
theorem e_153 {E : yE} {d : Nat} {mem : yMem} {Q : Option yV → yMem → Prop} {a0 a1 : Int} (h : zG E d xm_153 0 [some (4, a0), none, some (4, a1), none, none, none, none, none, none, none] [] mem Q) : yCon E (d + 1) xm_153 [(4, a0), (4, a1)] mem Q := zcon_of xmo_153 (Nat.le_of_ble_eq_true rfl) h

theorem lI_div {x y : Int} (hx : 0 ≤ x) (hx2 : x < 9223372036854775808) (hy : 0 < y) (hy2 : y < 9223372036854775808) : lI x / lI y = lI (x / y) := by
  have e1 : (lI x).toInt = x := w64_of (by (first | exact Nat.le_of_ble_eq_true rfl | exact (fun h => absurd h.1 (by decide)) | omega)) hx2
  have e2 : (lI y).toInt = y := w64_of (by (first | exact Nat.le_of_ble_eq_true rfl | exact (fun h => absurd h.1 (by decide)) | omega)) hy2
  have h1 : 0 ≤ x / y := Int.ediv_nonneg hx (by (first | exact Nat.le_of_ble_eq_true rfl | exact (fun h => absurd h.1 (by decide)) | omega))
  have h2 : x / y ≤ x := Int.ediv_le_self _ hx
  apply Int64.toInt_inj.mp
  rw [Int64.toInt_div, e1, e2, Int.tdiv_eq_ediv_of_nonneg hx]
  have e3 : (lI (x / y)).toInt = x / y := w64_of (by (first | exact Nat.le_of_ble_eq_true rfl | exact (fun h => absurd h.1 (by decide)) | omega)) (by (first | exact Nat.le_of_ble_eq_true rfl | exact (fun h => absurd h.1 (by decide)) | omega))
  rw [e3]
  exact Int.bmod_eq_of_le (by (first | exact Nat.le_of_ble_eq_true rfl | exact (fun h => absurd h.1 (by decide)) | omega)) (by (first | exact Nat.le_of_ble_eq_true rfl | exact (fun h => absurd h.1 (by decide)) | omega))
theorem ylb10 {x y : Int} (hx : 0 ≤ x) (hx2 : x < 9223372036854775808) (hy : 0 < y) (hy2 : y < 9223372036854775808) : ylbin 10 x y = x % y := by
  have h1 := Int.emod_nonneg x (show y ≠ 0 by (first | exact Nat.le_of_ble_eq_true rfl | exact (fun h => absurd h.1 (by decide)) | omega))
  have h2 := Int.emod_lt_of_pos x hy
  show (lI x - lI x / lI y * lI y).toInt = x % y
  rw [lI_div hx hx2 hy hy2, show lI (x / y) * lI y = lI (x / y * y) from (Int64.ofInt_mul _ _).symm, show lI x - lI (x / y * y) = lI (x - x / y * y) from (Int64.ofInt_sub _ _).symm]
  have e : x - x / y * y = x % y := by rw [Int.emod_def, Int.mul_comm]
  rw [e]
  exact w64_of (by (first | exact Nat.le_of_ble_eq_true rfl | exact (fun h => absurd h.1 (by decide)) | omega)) (by (first | exact Nat.le_of_ble_eq_true rfl | exact (fun h => absurd h.1 (by decide)) | omega))
theorem ycmp_0 {y : Int} (h0 : 0 ≤ y) (h1 : y < 9223372036854775808) : w32 (ycmp y 0) = 0 ↔ y = 0 := by
  have e1 : w64 y = y := w64_of (by (first | exact Nat.le_of_ble_eq_true rfl | exact (fun h => absurd h.1 (by decide)) | omega)) h1
  have e2 : w64 0 = 0 := by decide
  unfold ycmp
  rw [e1, e2]
  by_cases h : 0 < y
  · rw [if_pos h, show w32 1 = 1 by decide]; (first | exact Nat.le_of_ble_eq_true rfl | exact (fun h => absurd h.1 (by decide)) | omega)
  · rw [if_neg h, if_pos (by (first | exact Nat.le_of_ble_eq_true rfl | exact (fun h => absurd h.1 (by decide)) | omega)), show w32 0 = 0 by decide]; (first | exact Nat.le_of_ble_eq_true rfl | exact (fun h => absurd h.1 (by decide)) | omega)
theorem gcd_em {x y : Int} (hx : 0 ≤ x) (hy : 0 ≤ y) : Int.gcd (x % y) y = Int.gcd x y := by
  obtain ⟨a, rfl⟩ := Int.eq_ofNat_of_zero_le hx
  obtain ⟨b, rfl⟩ := Int.eq_ofNat_of_zero_le hy
  show Nat.gcd (((a : Int) % (b : Int)).natAbs) b = Nat.gcd a b
  rw [← Int.natCast_emod, Int.natAbs_natCast, Nat.gcd_comm a b, Nat.gcd_rec b a]
/-- Euclid's loop -/
theorem common_loop {E : yE} (hE : yEok E) {d : Nat} {mem : yMem} {Q : Option yV → yMem → Prop} {g : Nat} (hQ : Q (some (4, (g : Int))) mem) : ∀ (m : Nat) (x y : Int) (r0 r1 r2 r3 r5 r7 r8 r9 : Option yV), y.toNat ≤ m → 0 ≤ x → x < 9223372036854775808 → 0 ≤ y → y < 9223372036854775808 → Int.gcd x y = g → zG E d xm_153 6 [r0, r1, r2, r3, some (4, x), r5, some (4, y), r7, r8, r9] [] mem Q := by
  intro m
  induction m with
  | zero =>
    intro x y r0 r1 r2 r3 r5 r7 r8 r9 hm hx hx2 hy hy2 hg
    have hy0 : y = 0 := by (first | exact Nat.le_of_ble_eq_true rfl | exact (fun h => absurd h.1 (by decide)) | omega)
    subst hy0
    refine zgo_ok (n := 40) hE xmo_153 (cs := zc_153) ?_
    simp only [ynok_30, ynok_31, w32c_0, w32c_1, w32c_2, w32c_3, w32c_4, w32c_5, w32c_6, w32c_7, w32c_8, w32c_9, w32c_10, w32c_11, w32c_12, w32c_13, w32c_14, w32c_m1, w32c_m2, w32c_118, Int.reduceAdd, Int.reduceSub, Int.reduceMul, yput_s, yput_n, znl_n, znl_0, znl_1, znl_4, ysum_n, ysum_0, ysum_1, ysum_4, true_and, and_true, Nat.reduceAdd, Nat.reduceLeDiff, true_implies, eq_self, true_or, or_true, or_false, false_or, not_true_eq_false, not_false_eq_true, false_implies, implies_true, yset_s, yset_o, yset_d, ne_eq, Nat.reduceEqDiff, Int.reduceToNat, Int.reduceEq, Int.reduceLE, Int.reduceLT, Classical.not_not, Nat.reduceLT, ↓zvk_s, ↓zvk_n, ↓s_153_0, ↓s_153_1n, ↓s_153_1i, ↓s_153_1p, ↓s_153_1l, ↓s_153_1j, ↓s_153_3, ↓s_153_4n, ↓s_153_4i, ↓s_153_4p, ↓s_153_4l, ↓s_153_4j, ↓g_153_6, ↓k_153_6, ↓s_153_8, ↓s_153_9, ↓s_153_10, ↓s_153_13, ↓s_153_15, ↓s_153_17, ↓s_153_18n, ↓s_153_18i, ↓s_153_18p, ↓s_153_18l, ↓s_153_18j, ↓s_153_20, ↓s_153_22n, ↓s_153_22i, ↓s_153_22p, ↓s_153_22l, ↓s_153_22j, ↓s_153_24, ↓s_153_26n, ↓s_153_26i, ↓s_153_26p, ↓s_153_26l, ↓s_153_26j, ↓s_153_28, ↓s_153_31, ↓s_153_33]
    refine ⟨fun _ => ?_, fun h => absurd ((ycmp_0 (by (first | exact Nat.le_of_ble_eq_true rfl | exact (fun h => absurd h.1 (by decide)) | omega)) (by (first | exact Nat.le_of_ble_eq_true rfl | exact (fun h => absurd h.1 (by decide)) | omega))).mpr rfl) h⟩
    rw [Int.gcd_zero_right] at hg
    rw [show x = (g : Int) by (first | exact Nat.le_of_ble_eq_true rfl | exact (fun h => absurd h.1 (by decide)) | omega)]
    exact hQ
  | succ m ih =>
    intro x y r0 r1 r2 r3 r5 r7 r8 r9 hm hx hx2 hy hy2 hg
    refine zgo_ok (n := 40) hE xmo_153 (cs := zc_153) ?_
    simp only [ynok_30, ynok_31, w32c_0, w32c_1, w32c_2, w32c_3, w32c_4, w32c_5, w32c_6, w32c_7, w32c_8, w32c_9, w32c_10, w32c_11, w32c_12, w32c_13, w32c_14, w32c_m1, w32c_m2, w32c_118, Int.reduceAdd, Int.reduceSub, Int.reduceMul, yput_s, yput_n, znl_n, znl_0, znl_1, znl_4, ysum_n, ysum_0, ysum_1, ysum_4, true_and, and_true, Nat.reduceAdd, Nat.reduceLeDiff, true_implies, eq_self, true_or, or_true, or_false, false_or, not_true_eq_false, not_false_eq_true, false_implies, implies_true, yset_s, yset_o, yset_d, ne_eq, Nat.reduceEqDiff, Int.reduceToNat, Int.reduceEq, Int.reduceLE, Int.reduceLT, Classical.not_not, Nat.reduceLT, ↓zvk_s, ↓zvk_n, ↓s_153_0, ↓s_153_1n, ↓s_153_1i, ↓s_153_1p, ↓s_153_1l, ↓s_153_1j, ↓s_153_3, ↓s_153_4n, ↓s_153_4i, ↓s_153_4p, ↓s_153_4l, ↓s_153_4j, ↓g_153_6, ↓k_153_6, ↓s_153_8, ↓s_153_9, ↓s_153_10, ↓s_153_13, ↓s_153_15, ↓s_153_17, ↓s_153_18n, ↓s_153_18i, ↓s_153_18p, ↓s_153_18l, ↓s_153_18j, ↓s_153_20, ↓s_153_22n, ↓s_153_22i, ↓s_153_22p, ↓s_153_22l, ↓s_153_22j, ↓s_153_24, ↓s_153_26n, ↓s_153_26i, ↓s_153_26p, ↓s_153_26l, ↓s_153_26j, ↓s_153_28, ↓s_153_31, ↓s_153_33]
    refine ⟨fun h => ?_, fun h => ⟨?_, ?_⟩⟩
    · have hy0 := (ycmp_0 hy hy2).mp h
      subst hy0
      rw [Int.gcd_zero_right] at hg
      rw [show x = (g : Int) by (first | exact Nat.le_of_ble_eq_true rfl | exact (fun h => absurd h.1 (by decide)) | omega)]
      exact hQ
    · have hy0 : y ≠ 0 := fun e => h ((ycmp_0 hy hy2).mpr e)
      rw [w64_of (by (first | exact Nat.le_of_ble_eq_true rfl | exact (fun h => absurd h.1 (by decide)) | omega)) hy2]
      exact hy0
    · have hy0 : y ≠ 0 := fun e => h ((ycmp_0 hy hy2).mpr e)
      rw [ylb10 hx hx2 (by (first | exact Nat.le_of_ble_eq_true rfl | exact (fun h => absurd h.1 (by decide)) | omega)) hy2]
      have h1 := Int.emod_nonneg x hy0
      have h2 := Int.emod_lt_of_pos x (show 0 < y by (first | exact Nat.le_of_ble_eq_true rfl | exact (fun h => absurd h.1 (by decide)) | omega))
      exact ih y (x % y) _ _ _ _ _ _ _ _ (by (first | exact Nat.le_of_ble_eq_true rfl | exact (fun h => absurd h.1 (by decide)) | omega)) hy hy2 h1 (by (first | exact Nat.le_of_ble_eq_true rfl | exact (fun h => absurd h.1 (by decide)) | omega)) (by rw [← hg, Int.gcd_comm, gcd_em hx hy])
theorem c_common {E : yE} (hE : yEok E) {D : Nat} (hD : 1 ≤ D) {mem : yMem} {Q : Option yV → yMem → Prop} {x y : Int} (hx : 0 ≤ x) (hx2 : x < 9223372036854775808) (hy : 0 ≤ y) (hy2 : y < 9223372036854775808) (hQ : Q (some (4, ((Int.gcd x y : Nat) : Int))) mem) : yCon E D xm_153 [(4, x), (4, y)] mem Q := by
  obtain ⟨d, rfl⟩ := Nat.exists_eq_add_of_le' hD
  refine e_153 ?_
  refine zvc_ok hE 40 zc_153 _ _ _ _ _ _ _ xmo_153 ?_
  simp only [ynok_30, ynok_31, w32c_0, w32c_1, w32c_2, w32c_3, w32c_4, w32c_5, w32c_6, w32c_7, w32c_8, w32c_9, w32c_10, w32c_11, w32c_12, w32c_13, w32c_14, w32c_m1, w32c_m2, w32c_118, Int.reduceAdd, Int.reduceSub, Int.reduceMul, yput_s, yput_n, znl_n, znl_0, znl_1, znl_4, ysum_n, ysum_0, ysum_1, ysum_4, true_and, and_true, Nat.reduceAdd, Nat.reduceLeDiff, true_implies, eq_self, true_or, or_true, or_false, false_or, not_true_eq_false, not_false_eq_true, false_implies, implies_true, yset_s, yset_o, yset_d, ne_eq, Nat.reduceEqDiff, Int.reduceToNat, Int.reduceEq, Int.reduceLE, Int.reduceLT, Classical.not_not, Nat.reduceLT, ↓zvk_s, ↓zvk_n, ↓s_153_0, ↓s_153_1n, ↓s_153_1i, ↓s_153_1p, ↓s_153_1l, ↓s_153_1j, ↓s_153_3, ↓s_153_4n, ↓s_153_4i, ↓s_153_4p, ↓s_153_4l, ↓s_153_4j, ↓g_153_6, ↓k_153_6, ↓s_153_8, ↓s_153_9, ↓s_153_10, ↓s_153_13, ↓s_153_15, ↓s_153_17, ↓s_153_18n, ↓s_153_18i, ↓s_153_18p, ↓s_153_18l, ↓s_153_18j, ↓s_153_20, ↓s_153_22n, ↓s_153_22i, ↓s_153_22p, ↓s_153_22l, ↓s_153_22j, ↓s_153_24, ↓s_153_26n, ↓s_153_26i, ↓s_153_26p, ↓s_153_26l, ↓s_153_26j, ↓s_153_28, ↓s_153_31, ↓s_153_33]
  exact common_loop hE hQ _ _ _ _ _ _ _ _ _ _ _ (Nat.le_refl _) hx hx2 hy hy2 rfl
end
section
theorem s_53_0 {E : yE} {n d : Nat} {mem : yMem} {Post : Option yV → yMem → Prop} {st : List yV} {r1 r2 : Option yV} {x : Int} : zvc E (n + 1) [] d xm_53 0 [some (1, x), r1, r2] (st) mem Post = (zvc E n [] d xm_53 1 [some (1, x), r1, r2] ((1, x) :: st) mem Post) := zrf rfl
theorem s_53_1 {E : yE} {n d : Nat} {mem : yMem} {Post : Option yV → yMem → Prop} {st : List yV} {r0 r1 r2 : Option yV} : zvc E (n + 1) [] d xm_53 1 [r0, r1, r2] ((1, 76) :: st) mem Post = (zvc E n [] d xm_53 4 [r0, r1, r2] ((0, mem 76 8) :: st) mem Post) := zrf rfl
theorem s_53_4 {E : yE} {n d : Nat} {mem : yMem} {Post : Option yV → yMem → Prop} {st : List yV} {r0 r1 : Option yV} {x : Int} : zvc E (n + 1) [] d xm_53 4 [r0, r1, some (0, x)] (st) mem Post = (zvc E n [] d xm_53 5 [r0, r1, some (0, x)] ((0, x) :: st) mem Post) := zrf rfl
theorem s_53_5 {E : yE} {n d : Nat} {mem : yMem} {Post : Option yV → yMem → Prop} {st : List yV} {r0 r1 r2 : Option yV} {x y : Int} : zvc E (n + 1) [] d xm_53 5 [r0, r1, r2] ((0, y) :: (0, x) :: st) mem Post = ((w32 y < w32 x → zvc E n [] d xm_53 43 [r0, r1, r2] (st) mem Post) ∧ (¬ (w32 y < w32 x) → zvc E n [] d xm_53 8 [r0, r1, r2] (st) mem Post)) := zrf rfl
theorem s_53_8 {E : yE} {n d : Nat} {mem : yMem} {Post : Option yV → yMem → Prop} {st : List yV} {r1 r2 : Option yV} {x : Int} : zvc E (n + 1) [] d xm_53 8 [some (1, x), r1, r2] (st) mem Post = (zvc E n [] d xm_53 9 [some (1, x), r1, r2] ((1, x) :: st) mem Post) := zrf rfl
theorem s_53_9 {E : yE} {n d : Nat} {mem : yMem} {Post : Option yV → yMem → Prop} {st : List yV} {r0 r1 r2 : Option yV} : zvc E (n + 1) [] d xm_53 9 [r0, r1, r2] ((1, 76) :: st) mem Post = (zvc E n [] d xm_53 12 [r0, r1, r2] ((0, mem 76 9) :: st) mem Post) := zrf rfl
theorem s_53_12 {E : yE} {n d : Nat} {mem : yMem} {Post : Option yV → yMem → Prop} {st : List yV} {r1 r2 : Option yV} {x : Int} : zvc E (n + 1) [] d xm_53 12 [some (1, x), r1, r2] (st) mem Post = (zvc E n [] d xm_53 13 [some (1, x), r1, r2] ((1, x) :: st) mem Post) := zrf rfl
theorem s_53_13 {E : yE} {n d : Nat} {mem : yMem} {Post : Option yV → yMem → Prop} {st : List yV} {r0 r1 r2 : Option yV} : zvc E (n + 1) [] d xm_53 13 [r0, r1, r2] ((1, 76) :: st) mem Post = (zvc E n [] d xm_53 16 [r0, r1, r2] ((1, 80) :: st) mem Post) := zrf rfl
theorem s_53_16 {E : yE} {n d : Nat} {mem : yMem} {Post : Option yV → yMem → Prop} {st : List yV} {r0 r2 : Option yV} {x : Int} : zvc E (n + 1) [] d xm_53 16 [r0, some (0, x), r2] (st) mem Post = (zvc E n [] d xm_53 17 [r0, some (0, x), r2] ((0, x) :: st) mem Post) := zrf rfl
theorem s_53_17 {E : yE} {n d : Nat} {mem : yMem} {Post : Option yV → yMem → Prop} {st : List yV} {r0 r1 r2 : Option yV} : zvc E (n + 1) [] d xm_53 17 [r0, r1, r2] (st) mem Post = (zvc E n [] d xm_53 18 [r0, r1, r2] ((0, 1) :: st) mem Post) := zrf rfl
theorem s_53_18 {E : yE} {n d : Nat} {mem : yMem} {Post : Option yV → yMem → Prop} {st : List yV} {r0 r1 r2 : Option yV} {x y : Int} : zvc E (n + 1) [] d xm_53 18 [r0, r1, r2] ((0, y) :: (0, x) :: st) mem Post = (zvc E n [] d xm_53 19 [r0, r1, r2] ((0, x + y) :: st) mem Post) := zrf rfl
theorem s_53_19 {E : yE} {n d : Nat} {mem : yMem} {Post : Option yV → yMem → Prop} {st : List yV} {r0 r1 r2 : Option yV} {z j : Int} : zvc E (n + 1) [] d xm_53 19 [r0, r1, r2] ((0, j) :: (1, z) :: st) mem Post = (∃ m rs q, ysh[z.toNat]? = some (.inl (4, m, rs)) ∧ 0 ≤ w32 j ∧ w32 j < (m : Int) ∧ rs[(w32 j).toNat]? = some q ∧ zvc E n [] d xm_53 20 [r0, r1, r2] ((1, (q : Int)) :: st) mem Post) := zrf rfl
theorem s_53_20 {E : yE} {n d : Nat} {mem : yMem} {Post : Option yV → yMem → Prop} {st : List yV} {r0 r1 : Option yV} {x : Int} : zvc E (n + 1) [] d xm_53 20 [r0, r1, some (0, x)] (st) mem Post = (zvc E n [] d xm_53 21 [r0, r1, some (0, x)] ((0, x) :: st) mem Post) := zrf rfl
theorem s_53_21 {E : yE} {n d : Nat} {mem : yMem} {Post : Option yV → yMem → Prop} {st : List yV} {r1 r2 : Option yV} {x : Int} : zvc E (n + 1) [] d xm_53 21 [some (1, x), r1, r2] (st) mem Post = (zvc E n [] d xm_53 22 [some (1, x), r1, r2] ((1, x) :: st) mem Post) := zrf rfl
theorem s_53_22 {E : yE} {n d : Nat} {mem : yMem} {Post : Option yV → yMem → Prop} {st : List yV} {r0 r1 r2 : Option yV} : zvc E (n + 1) [] d xm_53 22 [r0, r1, r2] ((1, 76) :: st) mem Post = (zvc E n [] d xm_53 25 [r0, r1, r2] ((0, mem 76 8) :: st) mem Post) := zrf rfl
theorem s_53_25 {E : yE} {n d : Nat} {mem : yMem} {Post : Option yV → yMem → Prop} {st : List yV} {r0 r1 r2 : Option yV} {x y : Int} : zvc E (n + 1) [] d xm_53 25 [r0, r1, r2] ((0, y) :: (0, x) :: st) mem Post = (zvc E n [] d xm_53 26 [r0, r1, r2] ((0, x - y) :: st) mem Post) := zrf rfl
theorem s_53_26 {E : yE} {n d : Nat} {mem : yMem} {Post : Option yV → yMem → Prop} {st : List yV} {r0 r1 r2 : Option yV} {z j : Int} : zvc E (n + 1) [] d xm_53 26 [r0, r1, r2] ((0, j) :: (1, z) :: st) mem Post = ((0 ≤ w32 j ∧ w32 j < ((zar z 0 : Nat) : Int)) ∧ zvc E n [] d xm_53 27 [r0, r1, r2] ((0, mem z.toNat (w32 j).toNat) :: st) mem Post) := zrf rfl
theorem s_53_27 {E : yE} {n d : Nat} {mem : yMem} {Post : Option yV → yMem → Prop} {st : List yV} {r0 r1 r2 : Option yV} {x y : Int} : zvc E (n + 1) [] d xm_53 27 [r0, r1, r2] ((0, y) :: (0, x) :: st) mem Post = (zvc E n [] d xm_53 28 [r0, r1, r2] ((0, x + y) :: st) mem Post) := zrf rfl
theorem s_53_28 {E : yE} {n d : Nat} {mem : yMem} {Post : Option yV → yMem → Prop} {st : List yV} {r1 r2 : Option yV} {x : Int} : zvc E (n + 1) [] d xm_53 28 [some (1, x), r1, r2] (st) mem Post = (zvc E n [] d xm_53 29 [some (1, x), r1, r2] ((1, x) :: st) mem Post) := zrf rfl
theorem s_53_29 {E : yE} {n d : Nat} {mem : yMem} {Post : Option yV → yMem → Prop} {st : List yV} {r0 r1 r2 : Option yV} : zvc E (n + 1) [] d xm_53 29 [r0, r1, r2] ((1, 76) :: st) mem Post = (zvc E n [] d xm_53 32 [r0, r1, r2] ((1, 80) :: st) mem Post) := zrf rfl
theorem s_53_32 {E : yE} {n d : Nat} {mem : yMem} {Post : Option yV → yMem → Prop} {st : List yV} {r0 r2 : Option yV} {x : Int} : zvc E (n + 1) [] d xm_53 32 [r0, some (0, x), r2] (st) mem Post = (zvc E n [] d xm_53 33 [r0, some (0, x), r2] ((0, x) :: st) mem Post) := zrf rfl
theorem s_53_33 {E : yE} {n d : Nat} {mem : yMem} {Post : Option yV → yMem → Prop} {st : List yV} {r0 r1 r2 : Option yV} {z j : Int} : zvc E (n + 1) [] d xm_53 33 [r0, r1, r2] ((0, j) :: (1, z) :: st) mem Post = (∃ m rs q, ysh[z.toNat]? = some (.inl (4, m, rs)) ∧ 0 ≤ w32 j ∧ w32 j < (m : Int) ∧ rs[(w32 j).toNat]? = some q ∧ zvc E n [] d xm_53 34 [r0, r1, r2] ((1, (q : Int)) :: st) mem Post) := zrf rfl
theorem s_53_34 {E : yE} {n d : Nat} {mem : yMem} {Post : Option yV → yMem → Prop} {st : List yV} {r0 r1 : Option yV} {x : Int} : zvc E (n + 1) [] d xm_53 34 [r0, r1, some (0, x)] (st) mem Post = (zvc E n [] d xm_53 35 [r0, r1, some (0, x)] ((0, x) :: st) mem Post) := zrf rfl
theorem s_53_35 {E : yE} {n d : Nat} {mem : yMem} {Post : Option yV → yMem → Prop} {st : List yV} {r0 r1 r2 : Option yV} {z j : Int} : zvc E (n + 1) [] d xm_53 35 [r0, r1, r2] ((0, j) :: (1, z) :: st) mem Post = ((0 ≤ w32 j ∧ w32 j < ((zar z 0 : Nat) : Int)) ∧ zvc E n [] d xm_53 36 [r0, r1, r2] ((0, mem z.toNat (w32 j).toNat) :: st) mem Post) := zrf rfl
theorem s_53_36 {E : yE} {n d : Nat} {mem : yMem} {Post : Option yV → yMem → Prop} {st : List yV} {r0 r1 r2 : Option yV} {x y : Int} : zvc E (n + 1) [] d xm_53 36 [r0, r1, r2] ((0, y) :: (0, x) :: st) mem Post = ((¬ w32 x = w32 y → zvc E n [] d xm_53 43 [r0, r1, r2] (st) mem Post) ∧ (¬ (¬ w32 x = w32 y) → zvc E n [] d xm_53 39 [r0, r1, r2] (st) mem Post)) := zrf rfl
theorem s_53_39 {E : yE} {n d : Nat} {mem : yMem} {Post : Option yV → yMem → Prop} {st : List yV} {r0 r1 r2 : Option yV} : zvc E (n + 1) [] d xm_53 39 [r0, r1, r2] (st) mem Post = (zvc E n [] d xm_53 40 [r0, r1, r2] ((0, 1) :: st) mem Post) := zrf rfl
theorem s_53_40 {E : yE} {n d : Nat} {mem : yMem} {Post : Option yV → yMem → Prop} {st : List yV} {r0 r1 r2 : Option yV} : zvc E (n + 1) [] d xm_53 40 [r0, r1, r2] (st) mem Post = (zvc E n [] d xm_53 44 [r0, r1, r2] (st) mem Post) := zrf rfl
theorem s_53_43 {E : yE} {n d : Nat} {mem : yMem} {Post : Option yV → yMem → Prop} {st : List yV} {r0 r1 r2 : Option yV} : zvc E (n + 1) [] d xm_53 43 [r0, r1, r2] (st) mem Post = (zvc E n [] d xm_53 44 [r0, r1, r2] ((0, 0) :: st) mem Post) := zrf rfl
theorem s_53_44 {E : yE} {n d : Nat} {mem : yMem} {Post : Option yV → yMem → Prop} {r0 r1 r2 : Option yV} {x : Int} : zvc E (n + 1) [] d xm_53 44 [r0, r1, r2] ([(0, x)]) mem Post = ((w32 x = 0 ∨ w32 x = 1) ∧ Post (some (0, x)) mem) := zrf rfl
theorem e_53 {E : yE} {d : Nat} {mem : yMem} {Q : Option yV → yMem → Prop} {z a0 a1 : Int} (h : zG E d xm_53 0 [some (1, z), some (0, a0), some (0, a1)] [] mem Q) : yCon E (d + 1) xm_53 [(1, z), (0, a0), (0, a1)] mem Q := zcon_of xmo_53 (Nat.le_of_ble_eq_true rfl) h

theorem c_isbest {E : yE} (hE : yEok E) {D : Nat} (hD : 1 ≤ D) {mem : yMem} {Q : Option yV → yMem → Prop} {v l : Int} (hv : 0 ≤ w32 v) (hv2 : w32 v ≤ 3) (hl : w32 l ≤ 96) (hG : aGok mem) (hQ : ∀ x : Int, x = 0 ∨ x = 1 → Q (some (0, x)) mem) : yCon E D xm_53 [(1, 76), (0, v), (0, l)] mem Q := by
  obtain ⟨d, rfl⟩ := Nat.exists_eq_add_of_le' hD
  refine e_53 ?_
  refine zvc_ok hE 60 [] _ _ _ _ _ _ _ xmo_53 ?_
  have hr := ag hG 76 8 ag_76_8
  simp only [ynok_30, ynok_31, w32c_0, w32c_1, w32c_2, w32c_3, w32c_4, w32c_5, w32c_6, w32c_7, w32c_8, w32c_9, w32c_10, w32c_11, w32c_12, w32c_13, w32c_14, w32c_m1, w32c_m2, w32c_118, Int.reduceAdd, Int.reduceSub, Int.reduceMul, yput_s, yput_n, znl_n, znl_0, znl_1, znl_4, ysum_n, ysum_0, ysum_1, ysum_4, true_and, and_true, Nat.reduceAdd, Nat.reduceLeDiff, true_implies, eq_self, true_or, or_true, or_false, false_or, not_true_eq_false, not_false_eq_true, false_implies, implies_true, yset_s, yset_o, yset_d, ne_eq, Nat.reduceEqDiff, Int.reduceToNat, Int.reduceEq, Int.reduceLE, Int.reduceLT, Classical.not_not, Nat.reduceLT, ↓zvk_s, ↓zvk_n, ↓s_53_0, ↓s_53_1, ↓s_53_4, ↓s_53_5, ↓s_53_8, ↓s_53_9, ↓s_53_12, ↓s_53_13, ↓s_53_16, ↓s_53_17, ↓s_53_18, ↓s_53_19, ↓s_53_20, ↓s_53_21, ↓s_53_22, ↓s_53_25, ↓s_53_26, ↓s_53_27, ↓s_53_28, ↓s_53_29, ↓s_53_32, ↓s_53_33, ↓s_53_34, ↓s_53_35, ↓s_53_36, ↓s_53_39, ↓s_53_40, ↓s_53_43, ↓s_53_44, zar_80, zia_80, zln_80, zit_80, zio_76]
  have one : ∀ j : Int, 0 ≤ w32 j → w32 j ≤ 4 → ∃ q : Nat, [81, 82, 83, 84, 85][(w32 j).toNat]? = some q ∧ (zar (q : Int) 0 = 97) := by
    intro j h1 h2
    have : w32 j = 0 ∨ w32 j = 1 ∨ w32 j = 2 ∨ w32 j = 3 ∨ w32 j = 4 := by (first | exact Nat.le_of_ble_eq_true rfl | exact (fun h => absurd h.1 (by decide)) | omega)
    rcases this with e | e | e | e | e <;> rw [e]
    · exact ⟨81, rfl, rfl⟩
    · exact ⟨82, rfl, rfl⟩
    · exact ⟨83, rfl, rfl⟩
    · exact ⟨84, rfl, rfl⟩
    · exact ⟨85, rfl, rfl⟩
  refine ⟨fun _ => hQ _ (Or.inl rfl), fun h => ?_⟩
  have e1 : w32 (v + 1) = w32 v + 1 := by rw [w32_ad (by rw [w32c_1]; (first | exact Nat.le_of_ble_eq_true rfl | exact (fun h => absurd h.1 (by decide)) | omega)) (by rw [w32c_1]; (first | exact Nat.le_of_ble_eq_true rfl | exact (fun h => absurd h.1 (by decide)) | omega)), w32c_1]
  obtain ⟨q1, g1, g2⟩ := one (v + 1) (by (first | exact Nat.le_of_ble_eq_true rfl | exact (fun h => absurd h.1 (by decide)) | omega)) (by (first | exact Nat.le_of_ble_eq_true rfl | exact (fun h => absurd h.1 (by decide)) | omega))
  obtain ⟨q0, g3, g4⟩ := one v (by (first | exact Nat.le_of_ble_eq_true rfl | exact (fun h => absurd h.1 (by decide)) | omega)) (by (first | exact Nat.le_of_ble_eq_true rfl | exact (fun h => absurd h.1 (by decide)) | omega))
  have e2 : w32 (l - mem 76 8) = w32 l - w32 (mem 76 8) := w32_sb (by (first | exact Nat.le_of_ble_eq_true rfl | exact (fun h => absurd h.1 (by decide)) | omega)) (by (first | exact Nat.le_of_ble_eq_true rfl | exact (fun h => absurd h.1 (by decide)) | omega))
  refine ⟨5, [81, 82, 83, 84, 85], q1, rfl, by (first | exact Nat.le_of_ble_eq_true rfl | exact (fun h => absurd h.1 (by decide)) | omega), by (first | exact Nat.le_of_ble_eq_true rfl | exact (fun h => absurd h.1 (by decide)) | omega), g1, ?_⟩
  rw [g2]
  refine ⟨⟨by (first | exact Nat.le_of_ble_eq_true rfl | exact (fun h => absurd h.1 (by decide)) | omega), by (first | exact Nat.le_of_ble_eq_true rfl | exact (fun h => absurd h.1 (by decide)) | omega)⟩, ?_⟩
  refine ⟨5, [81, 82, 83, 84, 85], q0, rfl, by (first | exact Nat.le_of_ble_eq_true rfl | exact (fun h => absurd h.1 (by decide)) | omega), by (first | exact Nat.le_of_ble_eq_true rfl | exact (fun h => absurd h.1 (by decide)) | omega), g3, ?_⟩
  rw [g4]
  refine ⟨⟨by (first | exact Nat.le_of_ble_eq_true rfl | exact (fun h => absurd h.1 (by decide)) | omega), by (first | exact Nat.le_of_ble_eq_true rfl | exact (fun h => absurd h.1 (by decide)) | omega)⟩, ⟨fun _ => hQ _ (Or.inl rfl), fun _ => hQ _ (Or.inr rfl)⟩⟩
end
section
theorem s_255_0 {E : yE} {n d : Nat} {mem : yMem} {Post : Option yV → yMem → Prop} {st : List yV} {x : Int} : zvc E (n + 1) [] d xm_255 0 [some (0, x)] (st) mem Post = (zvc E n [] d xm_255 1 [some (0, x)] ((0, x) :: st) mem Post) := zrf rfl
theorem s_255_1 {E : yE} {n d : Nat} {mem : yMem} {Post : Option yV → yMem → Prop} {st : List yV} {x : Int} : zvc E (n + 1) [] d xm_255 1 [some (0, x)] (st) mem Post = (zvc E n [] d xm_255 2 [some (0, x)] ((0, x) :: st) mem Post) := zrf rfl
theorem s_255_2 {E : yE} {n d : Nat} {mem : yMem} {Post : Option yV → yMem → Prop} {st : List yV} {r0 : Option yV} : zvc E (n + 1) [] d xm_255 2 [r0] (st) mem Post = (zvc E n [] d xm_255 3 [r0] ((0, 1) :: st) mem Post) := zrf rfl
theorem s_255_3 {E : yE} {n d : Nat} {mem : yMem} {Post : Option yV → yMem → Prop} {st : List yV} {r0 : Option yV} {x y : Int} : zvc E (n + 1) [] d xm_255 3 [r0] ((0, y) :: (0, x) :: st) mem Post = (zvc E n [] d xm_255 4 [r0] ((0, ybin 8 x y) :: st) mem Post) := zrf rfl
theorem s_255_4 {E : yE} {n d : Nat} {mem : yMem} {Post : Option yV → yMem → Prop} {st : List yV} {r0 : Option yV} : zvc E (n + 1) [] d xm_255 4 [r0] (st) mem Post = (zvc E n [] d xm_255 7 [r0] ((0, 1431655765) :: st) mem Post) := zrf rfl
theorem s_255_7 {E : yE} {n d : Nat} {mem : yMem} {Post : Option yV → yMem → Prop} {st : List yV} {r0 : Option yV} {x y : Int} : zvc E (n + 1) [] d xm_255 7 [r0] ((0, y) :: (0, x) :: st) mem Post = (zvc E n [] d xm_255 8 [r0] ((0, ybin 3 x y) :: st) mem Post) := zrf rfl
theorem s_255_8 {E : yE} {n d : Nat} {mem : yMem} {Post : Option yV → yMem → Prop} {st : List yV} {r0 : Option yV} {x y : Int} : zvc E (n + 1) [] d xm_255 8 [r0] ((0, y) :: (0, x) :: st) mem Post = (zvc E n [] d xm_255 9 [r0] ((0, x - y) :: st) mem Post) := zrf rfl
theorem s_255_9 {E : yE} {n d : Nat} {mem : yMem} {Post : Option yV → yMem → Prop} {st : List yV} {r0 : Option yV} {x : Int} : zvc E (n + 1) [] d xm_255 9 [r0] ((0, x) :: st) mem Post = (zvc E n [] d xm_255 10 [some (0, x)] (st) mem Post) := zrf rfl
theorem s_255_10 {E : yE} {n d : Nat} {mem : yMem} {Post : Option yV → yMem → Prop} {st : List yV} {x : Int} : zvc E (n + 1) [] d xm_255 10 [some (0, x)] (st) mem Post = (zvc E n [] d xm_255 11 [some (0, x)] ((0, x) :: st) mem Post) := zrf rfl
theorem s_255_11 {E : yE} {n d : Nat} {mem : yMem} {Post : Option yV → yMem → Prop} {st : List yV} {r0 : Option yV} : zvc E (n + 1) [] d xm_255 11 [r0] (st) mem Post = (zvc E n [] d xm_255 14 [r0] ((0, 858993459) :: st) mem Post) := zrf rfl
theorem s_255_14 {E : yE} {n d : Nat} {mem : yMem} {Post : Option yV → yMem → Prop} {st : List yV} {r0 : Option yV} {x y : Int} : zvc E (n + 1) [] d xm_255 14 [r0] ((0, y) :: (0, x) :: st) mem Post = (zvc E n [] d xm_255 15 [r0] ((0, ybin 3 x y) :: st) mem Post) := zrf rfl
theorem s_255_15 {E : yE} {n d : Nat} {mem : yMem} {Post : Option yV → yMem → Prop} {st : List yV} {x : Int} : zvc E (n + 1) [] d xm_255 15 [some (0, x)] (st) mem Post = (zvc E n [] d xm_255 16 [some (0, x)] ((0, x) :: st) mem Post) := zrf rfl
theorem s_255_16 {E : yE} {n d : Nat} {mem : yMem} {Post : Option yV → yMem → Prop} {st : List yV} {r0 : Option yV} : zvc E (n + 1) [] d xm_255 16 [r0] (st) mem Post = (zvc E n [] d xm_255 17 [r0] ((0, 2) :: st) mem Post) := zrf rfl
theorem s_255_17 {E : yE} {n d : Nat} {mem : yMem} {Post : Option yV → yMem → Prop} {st : List yV} {r0 : Option yV} {x y : Int} : zvc E (n + 1) [] d xm_255 17 [r0] ((0, y) :: (0, x) :: st) mem Post = (zvc E n [] d xm_255 18 [r0] ((0, ybin 8 x y) :: st) mem Post) := zrf rfl
theorem s_255_18 {E : yE} {n d : Nat} {mem : yMem} {Post : Option yV → yMem → Prop} {st : List yV} {r0 : Option yV} : zvc E (n + 1) [] d xm_255 18 [r0] (st) mem Post = (zvc E n [] d xm_255 21 [r0] ((0, 858993459) :: st) mem Post) := zrf rfl
theorem s_255_21 {E : yE} {n d : Nat} {mem : yMem} {Post : Option yV → yMem → Prop} {st : List yV} {r0 : Option yV} {x y : Int} : zvc E (n + 1) [] d xm_255 21 [r0] ((0, y) :: (0, x) :: st) mem Post = (zvc E n [] d xm_255 22 [r0] ((0, ybin 3 x y) :: st) mem Post) := zrf rfl
theorem s_255_22 {E : yE} {n d : Nat} {mem : yMem} {Post : Option yV → yMem → Prop} {st : List yV} {r0 : Option yV} {x y : Int} : zvc E (n + 1) [] d xm_255 22 [r0] ((0, y) :: (0, x) :: st) mem Post = (zvc E n [] d xm_255 23 [r0] ((0, x + y) :: st) mem Post) := zrf rfl
theorem s_255_23 {E : yE} {n d : Nat} {mem : yMem} {Post : Option yV → yMem → Prop} {st : List yV} {r0 : Option yV} {x : Int} : zvc E (n + 1) [] d xm_255 23 [r0] ((0, x) :: st) mem Post = (zvc E n [] d xm_255 24 [some (0, x)] (st) mem Post) := zrf rfl
theorem s_255_24 {E : yE} {n d : Nat} {mem : yMem} {Post : Option yV → yMem → Prop} {st : List yV} {x : Int} : zvc E (n + 1) [] d xm_255 24 [some (0, x)] (st) mem Post = (zvc E n [] d xm_255 25 [some (0, x)] ((0, x) :: st) mem Post) := zrf rfl
theorem s_255_25 {E : yE} {n d : Nat} {mem : yMem} {Post : Option yV → yMem → Prop} {st : List yV} {x : Int} : zvc E (n + 1) [] d xm_255 25 [some (0, x)] (st) mem Post = (zvc E n [] d xm_255 26 [some (0, x)] ((0, x) :: st) mem Post) := zrf rfl
theorem s_255_26 {E : yE} {n d : Nat} {mem : yMem} {Post : Option yV → yMem → Prop} {st : List yV} {r0 : Option yV} : zvc E (n + 1) [] d xm_255 26 [r0] (st) mem Post = (zvc E n [] d xm_255 27 [r0] ((0, 4) :: st) mem Post) := zrf rfl
theorem s_255_27 {E : yE} {n d : Nat} {mem : yMem} {Post : Option yV → yMem → Prop} {st : List yV} {r0 : Option yV} {x y : Int} : zvc E (n + 1) [] d xm_255 27 [r0] ((0, y) :: (0, x) :: st) mem Post = (zvc E n [] d xm_255 28 [r0] ((0, ybin 8 x y) :: st) mem Post) := zrf rfl
theorem s_255_28 {E : yE} {n d : Nat} {mem : yMem} {Post : Option yV → yMem → Prop} {st : List yV} {r0 : Option yV} {x y : Int} : zvc E (n + 1) [] d xm_255 28 [r0] ((0, y) :: (0, x) :: st) mem Post = (zvc E n [] d xm_255 29 [r0] ((0, x + y) :: st) mem Post) := zrf rfl
theorem s_255_29 {E : yE} {n d : Nat} {mem : yMem} {Post : Option yV → yMem → Prop} {st : List yV} {r0 : Option yV} : zvc E (n + 1) [] d xm_255 29 [r0] (st) mem Post = (zvc E n [] d xm_255 32 [r0] ((0, 252645135) :: st) mem Post) := zrf rfl
theorem s_255_32 {E : yE} {n d : Nat} {mem : yMem} {Post : Option yV → yMem → Prop} {st : List yV} {r0 : Option yV} {x y : Int} : zvc E (n + 1) [] d xm_255 32 [r0] ((0, y) :: (0, x) :: st) mem Post = (zvc E n [] d xm_255 33 [r0] ((0, ybin 3 x y) :: st) mem Post) := zrf rfl
theorem s_255_33 {E : yE} {n d : Nat} {mem : yMem} {Post : Option yV → yMem → Prop} {st : List yV} {r0 : Option yV} {x : Int} : zvc E (n + 1) [] d xm_255 33 [r0] ((0, x) :: st) mem Post = (zvc E n [] d xm_255 34 [some (0, x)] (st) mem Post) := zrf rfl
theorem s_255_34 {E : yE} {n d : Nat} {mem : yMem} {Post : Option yV → yMem → Prop} {st : List yV} {x : Int} : zvc E (n + 1) [] d xm_255 34 [some (0, x)] (st) mem Post = (zvc E n [] d xm_255 35 [some (0, x)] ((0, x) :: st) mem Post) := zrf rfl
theorem s_255_35 {E : yE} {n d : Nat} {mem : yMem} {Post : Option yV → yMem → Prop} {st : List yV} {x : Int} : zvc E (n + 1) [] d xm_255 35 [some (0, x)] (st) mem Post = (zvc E n [] d xm_255 36 [some (0, x)] ((0, x) :: st) mem Post) := zrf rfl
theorem s_255_36 {E : yE} {n d : Nat} {mem : yMem} {Post : Option yV → yMem → Prop} {st : List yV} {r0 : Option yV} : zvc E (n + 1) [] d xm_255 36 [r0] (st) mem Post = (zvc E n [] d xm_255 38 [r0] ((0, 8) :: st) mem Post) := zrf rfl
theorem s_255_38 {E : yE} {n d : Nat} {mem : yMem} {Post : Option yV → yMem → Prop} {st : List yV} {r0 : Option yV} {x y : Int} : zvc E (n + 1) [] d xm_255 38 [r0] ((0, y) :: (0, x) :: st) mem Post = (zvc E n [] d xm_255 39 [r0] ((0, ybin 8 x y) :: st) mem Post) := zrf rfl
theorem s_255_39 {E : yE} {n d : Nat} {mem : yMem} {Post : Option yV → yMem → Prop} {st : List yV} {r0 : Option yV} {x y : Int} : zvc E (n + 1) [] d xm_255 39 [r0] ((0, y) :: (0, x) :: st) mem Post = (zvc E n [] d xm_255 40 [r0] ((0, x + y) :: st) mem Post) := zrf rfl
theorem s_255_40 {E : yE} {n d : Nat} {mem : yMem} {Post : Option yV → yMem → Prop} {st : List yV} {r0 : Option yV} {x : Int} : zvc E (n + 1) [] d xm_255 40 [r0] ((0, x) :: st) mem Post = (zvc E n [] d xm_255 41 [some (0, x)] (st) mem Post) := zrf rfl
theorem s_255_41 {E : yE} {n d : Nat} {mem : yMem} {Post : Option yV → yMem → Prop} {st : List yV} {x : Int} : zvc E (n + 1) [] d xm_255 41 [some (0, x)] (st) mem Post = (zvc E n [] d xm_255 42 [some (0, x)] ((0, x) :: st) mem Post) := zrf rfl
theorem s_255_42 {E : yE} {n d : Nat} {mem : yMem} {Post : Option yV → yMem → Prop} {st : List yV} {x : Int} : zvc E (n + 1) [] d xm_255 42 [some (0, x)] (st) mem Post = (zvc E n [] d xm_255 43 [some (0, x)] ((0, x) :: st) mem Post) := zrf rfl
theorem s_255_43 {E : yE} {n d : Nat} {mem : yMem} {Post : Option yV → yMem → Prop} {st : List yV} {r0 : Option yV} : zvc E (n + 1) [] d xm_255 43 [r0] (st) mem Post = (zvc E n [] d xm_255 45 [r0] ((0, 16) :: st) mem Post) := zrf rfl
theorem s_255_45 {E : yE} {n d : Nat} {mem : yMem} {Post : Option yV → yMem → Prop} {st : List yV} {r0 : Option yV} {x y : Int} : zvc E (n + 1) [] d xm_255 45 [r0] ((0, y) :: (0, x) :: st) mem Post = (zvc E n [] d xm_255 46 [r0] ((0, ybin 8 x y) :: st) mem Post) := zrf rfl
theorem s_255_46 {E : yE} {n d : Nat} {mem : yMem} {Post : Option yV → yMem → Prop} {st : List yV} {r0 : Option yV} {x y : Int} : zvc E (n + 1) [] d xm_255 46 [r0] ((0, y) :: (0, x) :: st) mem Post = (zvc E n [] d xm_255 47 [r0] ((0, x + y) :: st) mem Post) := zrf rfl
theorem s_255_47 {E : yE} {n d : Nat} {mem : yMem} {Post : Option yV → yMem → Prop} {st : List yV} {r0 : Option yV} {x : Int} : zvc E (n + 1) [] d xm_255 47 [r0] ((0, x) :: st) mem Post = (zvc E n [] d xm_255 48 [some (0, x)] (st) mem Post) := zrf rfl
theorem s_255_48 {E : yE} {n d : Nat} {mem : yMem} {Post : Option yV → yMem → Prop} {st : List yV} {x : Int} : zvc E (n + 1) [] d xm_255 48 [some (0, x)] (st) mem Post = (zvc E n [] d xm_255 49 [some (0, x)] ((0, x) :: st) mem Post) := zrf rfl
theorem s_255_49 {E : yE} {n d : Nat} {mem : yMem} {Post : Option yV → yMem → Prop} {st : List yV} {r0 : Option yV} : zvc E (n + 1) [] d xm_255 49 [r0] (st) mem Post = (zvc E n [] d xm_255 51 [r0] ((0, 63) :: st) mem Post) := zrf rfl
theorem s_255_51 {E : yE} {n d : Nat} {mem : yMem} {Post : Option yV → yMem → Prop} {st : List yV} {r0 : Option yV} {x y : Int} : zvc E (n + 1) [] d xm_255 51 [r0] ((0, y) :: (0, x) :: st) mem Post = (zvc E n [] d xm_255 52 [r0] ((0, ybin 3 x y) :: st) mem Post) := zrf rfl
theorem s_255_52 {E : yE} {n d : Nat} {mem : yMem} {Post : Option yV → yMem → Prop} {r0 : Option yV} {x : Int} : zvc E (n + 1) [] d xm_255 52 [r0] ([(0, x)]) mem Post = (Post (some (0, x)) mem) := zrf rfl
theorem e_255 {E : yE} {d : Nat} {mem : yMem} {Q : Option yV → yMem → Prop} {a0 : Int} (h : zG E d xm_255 0 [some (0, a0)] [] mem Q) : yCon E (d + 1) xm_255 [(0, a0)] mem Q := zcon_of xmo_255 (Nat.le_of_ble_eq_true rfl) h

def zb1 (x : Int) : Int := x - ybin 3 (ybin 8 x 1) 1431655765
def zb2 (x : Int) : Int := ybin 3 x 858993459 + ybin 3 (ybin 8 x 2) 858993459
def zb3 (x : Int) : Int := ybin 3 (x + ybin 8 x 4) 252645135
def zb4 (x : Int) : Int := x + ybin 8 x 8
def zb5 (x : Int) : Int := x + ybin 8 x 16
def zbf (x : Int) : Int := ybin 3 (zb5 (zb4 (zb3 (zb2 (zb1 x))))) 63
def zbg (x : Int32) : Int32 :=
  let a := x - fbin 3 (fbin 8 x (iI 1)) (iI 1431655765)
  let b := fbin 3 a (iI 858993459) + fbin 3 (fbin 8 a (iI 2)) (iI 858993459)
  let c := fbin 3 (b + fbin 8 b (iI 4)) (iI 252645135)
  let d := c + fbin 8 c (iI 8)
  let e := d + fbin 8 d (iI 16)
  fbin 3 e (iI 63)
theorem iI_ad (x y : Int) : iI (x + y) = iI x + iI y := Int32.ofInt_add x y
theorem iI_sb (x y : Int) : iI (x - y) = iI x - iI y := Int32.ofInt_sub x y
theorem zbf_ok (x : Int) : iI (zbf x) = zbg (iI x) := by
  simp only [zbf, zb5, zb4, zb3, zb2, zb1, ybin_ok, iI_ad, iI_sb, zbg]
/-- the ones among the first n bits -/
def zpc : Nat → Nat → Nat
  | 0, _ => 0
  | n + 1, k => k % 2 + zpc n (k / 2)
theorem zbg_all : ∀ k : Nat, k < 256 → (zbg (nI k)).toInt = ((zpc 8 k : Nat) : Int) ∧ zpc 8 k ≤ 8 := by decide +kernel
theorem zbf_w {x : Int} (h1 : 0 ≤ w32 x) (h2 : w32 x ≤ 255) : w32 (zbf x) = ((zpc 8 (w32 x).toNat : Nat) : Int) ∧ zpc 8 (w32 x).toNat ≤ 8 := by
  have := zbg_all (w32 x).toNat (by (first | exact Nat.le_of_ble_eq_true rfl | exact (fun h => absurd h.1 (by decide)) | omega))
  have e : nI (w32 x).toNat = iI x := by rw [← iI_n, Int.toNat_of_nonneg h1, iI_w]
  rw [e, ← zbf_ok] at this
  exact this
theorem c_bitc {E : yE} (hE : yEok E) {D : Nat} (hD : 1 ≤ D) {mem : yMem} {Q : Option yV → yMem → Prop} {x : Int} (hQ : Q (some (0, zbf x)) mem) : yCon E D xm_255 [(0, x)] mem Q := by
  obtain ⟨d, rfl⟩ := Nat.exists_eq_add_of_le' hD
  refine e_255 ?_
  refine zvc_ok hE 60 [] _ _ _ _ _ _ _ xmo_255 ?_
  simp only [ynok_30, ynok_31, w32c_0, w32c_1, w32c_2, w32c_3, w32c_4, w32c_5, w32c_6, w32c_7, w32c_8, w32c_9, w32c_10, w32c_11, w32c_12, w32c_13, w32c_14, w32c_m1, w32c_m2, w32c_118, Int.reduceAdd, Int.reduceSub, Int.reduceMul, yput_s, yput_n, znl_n, znl_0, znl_1, znl_4, ysum_n, ysum_0, ysum_1, ysum_4, true_and, and_true, Nat.reduceAdd, Nat.reduceLeDiff, true_implies, eq_self, true_or, or_true, or_false, false_or, not_true_eq_false, not_false_eq_true, false_implies, implies_true, yset_s, yset_o, yset_d, ne_eq, Nat.reduceEqDiff, Int.reduceToNat, Int.reduceEq, Int.reduceLE, Int.reduceLT, Classical.not_not, Nat.reduceLT, ↓zvk_s, ↓zvk_n, ↓s_255_0, ↓s_255_1, ↓s_255_2, ↓s_255_3, ↓s_255_4, ↓s_255_7, ↓s_255_8, ↓s_255_9, ↓s_255_10, ↓s_255_11, ↓s_255_14, ↓s_255_15, ↓s_255_16, ↓s_255_17, ↓s_255_18, ↓s_255_21, ↓s_255_22, ↓s_255_23, ↓s_255_24, ↓s_255_25, ↓s_255_26, ↓s_255_27, ↓s_255_28, ↓s_255_29, ↓s_255_32, ↓s_255_33, ↓s_255_34, ↓s_255_35, ↓s_255_36, ↓s_255_38, ↓s_255_39, ↓s_255_40, ↓s_255_41, ↓s_255_42, ↓s_255_43, ↓s_255_45, ↓s_255_46, ↓s_255_47, ↓s_255_48, ↓s_255_49, ↓s_255_51, ↓s_255_52, w32c_16, w32c_63]
  exact hQ
end
section
theorem s_181_0 {E : yE} {n d : Nat} {mem : yMem} {Post : Option yV → yMem → Prop} {st : List yV} {x : Int} : zvc E (n + 1) [] d xm_181 0 [some (0, x)] (st) mem Post = (zvc E n [] d xm_181 1 [some (0, x)] ((0, x) :: st) mem Post) := zrf rfl
theorem s_181_1 {E : yE} {n d : Nat} {mem : yMem} {Post : Option yV → yMem → Prop} {st : List yV} {r0 : Option yV} {x : Int} : zvc E (n + 1) [] d xm_181 1 [r0] ((0, x) :: st) mem Post = ((w32 x = w32 0 → zvc E n [] d xm_181 8 [r0] (st) mem Post) ∧ (¬ (w32 x = w32 0) → zvc E n [] d xm_181 4 [r0] (st) mem Post)) := zrf rfl
theorem s_181_4 {E : yE} {n d : Nat} {mem : yMem} {Post : Option yV → yMem → Prop} {st : List yV} {r0 : Option yV} : zvc E (n + 1) [] d xm_181 4 [r0] (st) mem Post = (zvc E n [] d xm_181 5 [r0] ((4, 1) :: st) mem Post) := zrf rfl
theorem s_181_5 {E : yE} {n d : Nat} {mem : yMem} {Post : Option yV → yMem → Prop} {st : List yV} {r0 : Option yV} : zvc E (n + 1) [] d xm_181 5 [r0] (st) mem Post = (zvc E n [] d xm_181 9 [r0] (st) mem Post) := zrf rfl
theorem s_181_8 {E : yE} {n d : Nat} {mem : yMem} {Post : Option yV → yMem → Prop} {st : List yV} {r0 : Option yV} : zvc E (n + 1) [] d xm_181 8 [r0] (st) mem Post = (zvc E n [] d xm_181 9 [r0] ((4, 0) :: st) mem Post) := zrf rfl
theorem s_181_9 {E : yE} {n d : Nat} {mem : yMem} {Post : Option yV → yMem → Prop} {r0 : Option yV} {x : Int} : zvc E (n + 1) [] d xm_181 9 [r0] ([(4, x)]) mem Post = (Post (some (4, x)) mem) := zrf rfl
def zc_253 : List Nat := [407]
theorem s_253_0 {E : yE} {n d : Nat} {mem : yMem} {Post : Option yV → yMem → Prop} {st : List yV} {r1 r2 r3 r4 r5 r6 r7 : Option yV} {x : Int} : zvc E (n + 1) zc_253 d xm_253 0 [some (1, x), r1, r2, r3, r4, r5, r6, r7] (st) mem Post = (zvc E n zc_253 d xm_253 1 [some (1, x), r1, r2, r3, r4, r5, r6, r7] ((1, x) :: st) mem Post) := zrf rfl
theorem s_253_1 {E : yE} {n d : Nat} {mem : yMem} {Post : Option yV → yMem → Prop} {st : List yV} {r0 r1 r2 r3 r4 r5 r6 r7 : Option yV} : zvc E (n + 1) zc_253 d xm_253 1 [r0, r1, r2, r3, r4, r5, r6, r7] ((1, 95) :: st) mem Post = (zvc E n zc_253 d xm_253 4 [r0, r1, r2, r3, r4, r5, r6, r7] ((1, 131) :: st) mem Post) := zrf rfl
theorem s_253_4 {E : yE} {n d : Nat} {mem : yMem} {Post : Option yV → yMem → Prop} {st : List yV} {r1 r2 r3 r4 r5 r6 r7 : Option yV} {x : Int} : zvc E (n + 1) zc_253 d xm_253 4 [some (1, x), r1, r2, r3, r4, r5, r6, r7] (st) mem Post = (zvc E n zc_253 d xm_253 5 [some (1, x), r1, r2, r3, r4, r5, r6, r7] ((1, x) :: st) mem Post) := zrf rfl
theorem s_253_5 {E : yE} {n d : Nat} {mem : yMem} {Post : Option yV → yMem → Prop} {st : List yV} {r0 r1 r2 r3 r4 r5 r6 r7 : Option yV} : zvc E (n + 1) zc_253 d xm_253 5 [r0, r1, r2, r3, r4, r5, r6, r7] ((1, 95) :: st) mem Post = (zvc E n zc_253 d xm_253 8 [r0, r1, r2, r3, r4, r5, r6, r7] ((0, mem 95 52) :: st) mem Post) := zrf rfl
theorem s_253_8 {E : yE} {n d : Nat} {mem : yMem} {Post : Option yV → yMem → Prop} {st : List yV} {r0 r1 r2 r3 r4 r5 r6 r7 : Option yV} : zvc E (n + 1) zc_253 d xm_253 8 [r0, r1, r2, r3, r4, r5, r6, r7] (st) mem Post = (zvc E n zc_253 d xm_253 9 [r0, r1, r2, r3, r4, r5, r6, r7] ((0, 1) :: st) mem Post) := zrf rfl
theorem s_253_9 {E : yE} {n d : Nat} {mem : yMem} {Post : Option yV → yMem → Prop} {st : List yV} {r0 r1 r2 r3 r4 r5 r6 r7 : Option yV} {x y : Int} : zvc E (n + 1) zc_253 d xm_253 9 [r0, r1, r2, r3, r4, r5, r6, r7] ((0, y) :: (0, x) :: st) mem Post = (zvc E n zc_253 d xm_253 10 [r0, r1, r2, r3, r4, r5, r6, r7] ((0, x - y) :: st) mem Post) := zrf rfl
theorem s_253_10 {E : yE} {n d : Nat} {mem : yMem} {Post : Option yV → yMem → Prop} {st : List yV} {r0 r1 r2 r3 r4 r5 r6 r7 : Option yV} {z j : Int} : zvc E (n + 1) zc_253 d xm_253 10 [r0, r1, r2, r3, r4, r5, r6, r7] ((0, j) :: (1, z) :: st) mem Post = ((0 ≤ w32 j ∧ w32 j < ((zar z 2 : Nat) : Int)) ∧ zvc E n zc_253 d xm_253 11 [r0, r1, r2, r3, r4, r5, r6, r7] ((4, mem z.toNat (w32 j).toNat) :: st) mem Post) := zrf rfl
theorem s_253_11n {E : yE} {n d : Nat} {mem : yMem} {Post : Option yV → yMem → Prop} {st : List yV} {r0 r2 r3 r4 r5 r6 r7 : Option yV} {x : Int} : zvc E (n + 1) zc_253 d xm_253 11 [r0, none, r2, r3, r4, r5, r6, r7] ((4, x) :: st) mem Post = (zvc E n zc_253 d xm_253 12 [r0, none, some (4, x), none, r4, r5, r6, r7] (st) mem Post) := zrf rfl
theorem s_253_11i {E : yE} {n d : Nat} {mem : yMem} {Post : Option yV → yMem → Prop} {st : List yV} {r0 r2 r3 r4 r5 r6 r7 : Option yV} {x w : Int} : zvc E (n + 1) zc_253 d xm_253 11 [r0, some (0, w), r2, r3, r4, r5, r6, r7] ((4, x) :: st) mem Post = (zvc E n zc_253 d xm_253 12 [r0, some (0, w), some (4, x), none, r4, r5, r6, r7] (st) mem Post) := zrf rfl
theorem s_253_11p {E : yE} {n d : Nat} {mem : yMem} {Post : Option yV → yMem → Prop} {st : List yV} {r0 r2 r3 r4 r5 r6 r7 : Option yV} {x w : Int} : zvc E (n + 1) zc_253 d xm_253 11 [r0, some (1, w), r2, r3, r4, r5, r6, r7] ((4, x) :: st) mem Post = (zvc E n zc_253 d xm_253 12 [r0, some (1, w), some (4, x), none, r4, r5, r6, r7] (st) mem Post) := zrf rfl
theorem s_253_11l {E : yE} {n d : Nat} {mem : yMem} {Post : Option yV → yMem → Prop} {st : List yV} {r0 r2 r3 r4 r5 r6 r7 : Option yV} {x w : Int} : zvc E (n + 1) zc_253 d xm_253 11 [r0, some (4, w), r2, r3, r4, r5, r6, r7] ((4, x) :: st) mem Post = (zvc E n zc_253 d xm_253 12 [r0, none, some (4, x), none, r4, r5, r6, r7] (st) mem Post) := zrf rfl
theorem s_253_12 {E : yE} {n d : Nat} {mem : yMem} {Post : Option yV → yMem → Prop} {st : List yV} {r0 r2 r3 r4 r5 r6 r7 : Option yV} {x : Int} : zvc E (n + 1) zc_253 d xm_253 12 [r0, some (0, x), r2, r3, r4, r5, r6, r7] (st) mem Post = (zvc E n zc_253 d xm_253 13 [r0, some (0, x), r2, r3, r4, r5, r6, r7] ((0, x) :: st) mem Post) := zrf rfl
theorem s_253_13 {E : yE} {n d : Nat} {mem : yMem} {Post : Option yV → yMem → Prop} {st : List yV} {r0 r1 r2 r3 r4 r5 r6 r7 : Option yV} : zvc E (n + 1) zc_253 d xm_253 13 [r0, r1, r2, r3, r4, r5, r6, r7] (st) mem Post = (zvc E n zc_253 d xm_253 16 [r0, r1, r2, r3, r4, r5, r6, r7] ((0, 260) :: st) mem Post) := zrf rfl
theorem s_253_16 {E : yE} {n d : Nat} {mem : yMem} {Post : Option yV → yMem → Prop} {st : List yV} {r0 r1 r2 r3 r4 r5 r6 r7 : Option yV} {x y : Int} : zvc E (n + 1) zc_253 d xm_253 16 [r0, r1, r2, r3, r4, r5, r6, r7] ((0, y) :: (0, x) :: st) mem Post = ((¬ w32 x = w32 y → zvc E n zc_253 d xm_253 46 [r0, r1, r2, r3, r4, r5, r6, r7] (st) mem Post) ∧ (¬ (¬ w32 x = w32 y) → zvc E n zc_253 d xm_253 19 [r0, r1, r2, r3, r4, r5, r6, r7] (st) mem Post)) := zrf rfl
theorem s_253_19 {E : yE} {n d : Nat} {mem : yMem} {Post : Option yV → yMem → Prop} {st : List yV} {r1 r2 r3 r4 r5 r6 r7 : Option yV} {x : Int} : zvc E (n + 1) zc_253 d xm_253 19 [some (1, x), r1, r2, r3, r4, r5, r6, r7] (st) mem Post = (zvc E n zc_253 d xm_253 20 [some (1, x), r1, r2, r3, r4, r5, r6, r7] ((1, x) :: st) mem Post) := zrf rfl
theorem s_253_20 {E : yE} {n d : Nat} {mem : yMem} {Post : Option yV → yMem → Prop} {st : List yV} {r0 r1 r2 r3 r4 r5 r6 r7 : Option yV} : zvc E (n + 1) zc_253 d xm_253 20 [r0, r1, r2, r3, r4, r5, r6, r7] ((1, 95) :: st) mem Post = (zvc E n zc_253 d xm_253 23 [r0, r1, r2, r3, r4, r5, r6, r7] ((1, 131) :: st) mem Post) := zrf rfl
theorem s_253_23 {E : yE} {n d : Nat} {mem : yMem} {Post : Option yV → yMem → Prop} {st : List yV} {r1 r2 r3 r4 r5 r6 r7 : Option yV} {x : Int} : zvc E (n + 1) zc_253 d xm_253 23 [some (1, x), r1, r2, r3, r4, r5, r6, r7] (st) mem Post = (zvc E n zc_253 d xm_253 24 [some (1, x), r1, r2, r3, r4, r5, r6, r7] ((1, x) :: st) mem Post) := zrf rfl
theorem s_253_24 {E : yE} {n d : Nat} {mem : yMem} {Post : Option yV → yMem → Prop} {st : List yV} {r0 r1 r2 r3 r4 r5 r6 r7 : Option yV} : zvc E (n + 1) zc_253 d xm_253 24 [r0, r1, r2, r3, r4, r5, r6, r7] ((1, 95) :: st) mem Post = (zvc E n zc_253 d xm_253 27 [r0, r1, r2, r3, r4, r5, r6, r7] ((0, mem 95 52) :: st) mem Post) := zrf rfl
theorem s_253_27 {E : yE} {n d : Nat} {mem : yMem} {Post : Option yV → yMem → Prop} {st : List yV} {r0 r1 r2 r3 r4 r5 r6 r7 : Option yV} : zvc E (n + 1) zc_253 d xm_253 27 [r0, r1, r2, r3, r4, r5, r6, r7] (st) mem Post = (zvc E n zc_253 d xm_253 28 [r0, r1, r2, r3, r4, r5, r6, r7] ((0, 1) :: st) mem Post) := zrf rfl
theorem s_253_28 {E : yE} {n d : Nat} {mem : yMem} {Post : Option yV → yMem → Prop} {st : List yV} {r0 r1 r2 r3 r4 r5 r6 r7 : Option yV} {x y : Int} : zvc E (n + 1) zc_253 d xm_253 28 [r0, r1, r2, r3, r4, r5, r6, r7] ((0, y) :: (0, x) :: st) mem Post = (zvc E n zc_253 d xm_253 29 [r0, r1, r2, r3, r4, r5, r6, r7] ((0, x - y) :: st) mem Post) := zrf rfl
theorem s_253_29 {E : yE} {n d : Nat} {mem : yMem} {Post : Option yV → yMem → Prop} {st : List yV} {r0 r1 r3 r4 r5 r6 r7 : Option yV} {x : Int} : zvc E (n + 1) zc_253 d xm_253 29 [r0, r1, some (4, x), r3, r4, r5, r6, r7] (st) mem Post = (zvc E n zc_253 d xm_253 30 [r0, r1, some (4, x), r3, r4, r5, r6, r7] ((4, x) :: st) mem Post) := zrf rfl
theorem s_253_30 {E : yE} {n d : Nat} {mem : yMem} {Post : Option yV → yMem → Prop} {st : List yV} {r0 r1 r2 r3 r4 r5 r6 r7 : Option yV} : zvc E (n + 1) zc_253 d xm_253 30 [r0, r1, r2, r3, r4, r5, r6, r7] (st) mem Post = (zvc E n zc_253 d xm_253 31 [r0, r1, r2, r3, r4, r5, r6, r7] ((4, 0) :: st) mem Post) := zrf rfl
theorem s_253_31 {E : yE} {n d : Nat} {mem : yMem} {Post : Option yV → yMem → Prop} {st : List yV} {r0 r1 r2 r3 r4 r5 r6 r7 : Option yV} {x y : Int} : zvc E (n + 1) zc_253 d xm_253 31 [r0, r1, r2, r3, r4, r5, r6, r7] ((4, y) :: (4, x) :: st) mem Post = (zvc E n zc_253 d xm_253 32 [r0, r1, r2, r3, r4, r5, r6, r7] ((0, ycmp x y) :: st) mem Post) := zrf rfl
theorem s_253_32 {E : yE} {n d : Nat} {mem : yMem} {Post : Option yV → yMem → Prop} {st : List yV} {r0 r1 r2 r3 r4 r5 r6 r7 : Option yV} {x : Int} : zvc E (n + 1) zc_253 d xm_253 32 [r0, r1, r2, r3, r4, r5, r6, r7] ((0, x) :: st) mem Post = ((¬ w32 x = w32 0 → zvc E n zc_253 d xm_253 39 [r0, r1, r2, r3, r4, r5, r6, r7] (st) mem Post) ∧ (¬ (¬ w32 x = w32 0) → zvc E n zc_253 d xm_253 35 [r0, r1, r2, r3, r4, r5, r6, r7] (st) mem Post)) := zrf rfl
theorem s_253_35 {E : yE} {n d : Nat} {mem : yMem} {Post : Option yV → yMem → Prop} {st : List yV} {r0 r1 r2 r3 r4 r5 r6 r7 : Option yV} : zvc E (n + 1) zc_253 d xm_253 35 [r0, r1, r2, r3, r4, r5, r6, r7] (st) mem Post = (zvc E n zc_253 d xm_253 36 [r0, r1, r2, r3, r4, r5, r6, r7] ((0, 1) :: st) mem Post) := zrf rfl
theorem s_253_36 {E : yE} {n d : Nat} {mem : yMem} {Post : Option yV → yMem → Prop} {st : List yV} {r0 r1 r2 r3 r4 r5 r6 r7 : Option yV} : zvc E (n + 1) zc_253 d xm_253 36 [r0, r1, r2, r3, r4, r5, r6, r7] (st) mem Post = (zvc E n zc_253 d xm_253 40 [r0, r1, r2, r3, r4, r5, r6, r7] (st) mem Post) := zrf rfl
theorem s_253_39 {E : yE} {n d : Nat} {mem : yMem} {Post : Option yV → yMem → Prop} {st : List yV} {r0 r1 r2 r3 r4 r5 r6 r7 : Option yV} : zvc E (n + 1) zc_253 d xm_253 39 [r0, r1, r2, r3, r4, r5, r6, r7] (st) mem Post = (zvc E n zc_253 d xm_253 40 [r0, r1, r2, r3, r4, r5, r6, r7] ((0, 0) :: st) mem Post) := zrf rfl
theorem s_253_40 {E : yE} {n d : Nat} {mem : yMem} {Post : Option yV → yMem → Prop} {st : List yV} {r0 r1 r2 r3 r4 r5 r6 r7 : Option yV} {a0 : Int} : zvc E (n + 1) zc_253 (d + 1) xm_253 40 [r0, r1, r2, r3, r4, r5, r6, r7] ((0, a0) :: st) mem Post = (True ∧ ysum st ≤ 8 ∧ zvc E n [] d xm_181 0 [some (0, a0)] [] mem (fun v mem' => zvk E n zc_253 (d + 1) xm_253 43 [r0, r1, r2, r3, r4, r5, r6, r7] st v mem' Post)) := zrf rfl
theorem s_253_43 {E : yE} {n d : Nat} {mem : yMem} {Post : Option yV → yMem → Prop} {st : List yV} {r0 r1 r2 r3 r4 r5 r6 r7 : Option yV} {x z j : Int} : zvc E (n + 1) zc_253 d xm_253 43 [r0, r1, r2, r3, r4, r5, r6, r7] ((4, x) :: (0, j) :: (1, z) :: st) mem Post = ((0 ≤ w32 j ∧ w32 j < ((zar z 2 : Nat) : Int)) ∧ zvc E n zc_253 d xm_253 44 [r0, r1, r2, r3, r4, r5, r6, r7] (st) (yset mem z.toNat (w32 j).toNat x) Post) := zrf rfl
theorem s_253_44 {E : yE} {n d : Nat} {mem : yMem} {Post : Option yV → yMem → Prop} {st : List yV} {r0 r1 r2 r3 r4 r5 r6 r7 : Option yV} : zvc E (n + 1) zc_253 d xm_253 44 [r0, r1, r2, r3, r4, r5, r6, r7] (st) mem Post = (zvc E n zc_253 d xm_253 45 [r0, r1, r2, r3, r4, r5, r6, r7] ((0, 1) :: st) mem Post) := zrf rfl
theorem s_253_45 {E : yE} {n d : Nat} {mem : yMem} {Post : Option yV → yMem → Prop} {r0 r1 r2 r3 r4 r5 r6 r7 : Option yV} {x : Int} : zvc E (n + 1) zc_253 d xm_253 45 [r0, r1, r2, r3, r4, r5, r6, r7] ([(0, x)]) mem Post = ((w32 x = 0 ∨ w32 x = 1) ∧ Post (some (0, x)) mem) := zrf rfl
theorem s_253_46 {E : yE} {n d : Nat} {mem : yMem} {Post : Option yV → yMem → Prop} {st : List yV} {r1 r2 r3 r4 r5 r6 r7 : Option yV} {x : Int} : zvc E (n + 1) zc_253 d xm_253 46 [some (1, x), r1, r2, r3, r4, r5, r6, r7] (st) mem Post = (zvc E n zc_253 d xm_253 47 [some (1, x), r1, r2, r3, r4, r5, r6, r7] ((1, x) :: st) mem Post) := zrf rfl
theorem s_253_47 {E : yE} {n d : Nat} {mem : yMem} {Post : Option yV → yMem → Prop} {st : List yV} {r0 r1 r2 r3 r4 r5 r6 r7 : Option yV} : zvc E (n + 1) zc_253 d xm_253 47 [r0, r1, r2, r3, r4, r5, r6, r7] ((1, 95) :: st) mem Post = (zvc E n zc_253 d xm_253 50 [r0, r1, r2, r3, r4, r5, r6, r7] ((1, 131) :: st) mem Post) := zrf rfl
theorem s_253_50 {E : yE} {n d : Nat} {mem : yMem} {Post : Option yV → yMem → Prop} {st : List yV} {r1 r2 r3 r4 r5 r6 r7 : Option yV} {x : Int} : zvc E (n + 1) zc_253 d xm_253 50 [some (1, x), r1, r2, r3, r4, r5, r6, r7] (st) mem Post = (zvc E n zc_253 d xm_253 51 [some (1, x), r1, r2, r3, r4, r5, r6, r7] ((1, x) :: st) mem Post) := zrf rfl
theorem s_253_51 {E : yE} {n d : Nat} {mem : yMem} {Post : Option yV → yMem → Prop} {st : List yV} {r0 r1 r2 r3 r4 r5 r6 r7 : Option yV} : zvc E (n + 1) zc_253 d xm_253 51 [r0, r1, r2, r3, r4, r5, r6, r7] ((1, 95) :: st) mem Post = (zvc E n zc_253 d xm_253 54 [r0, r1, r2, r3, r4, r5, r6, r7] ((0, mem 95 52) :: st) mem Post) := zrf rfl
theorem s_253_54 {E : yE} {n d : Nat} {mem : yMem} {Post : Option yV → yMem → Prop} {st : List yV} {r0 r1 r2 r3 r4 r5 r6 r7 : Option yV} : zvc E (n + 1) zc_253 d xm_253 54 [r0, r1, r2, r3, r4, r5, r6, r7] (st) mem Post = (zvc E n zc_253 d xm_253 55 [r0, r1, r2, r3, r4, r5, r6, r7] ((0, 2) :: st) mem Post) := zrf rfl
theorem s_253_55 {E : yE} {n d : Nat} {mem : yMem} {Post : Option yV → yMem → Prop} {st : List yV} {r0 r1 r2 r3 r4 r5 r6 r7 : Option yV} {x y : Int} : zvc E (n + 1) zc_253 d xm_253 55 [r0, r1, r2, r3, r4, r5, r6, r7] ((0, y) :: (0, x) :: st) mem Post = (zvc E n zc_253 d xm_253 56 [r0, r1, r2, r3, r4, r5, r6, r7] ((0, x - y) :: st) mem Post) := zrf rfl
theorem s_253_56 {E : yE} {n d : Nat} {mem : yMem} {Post : Option yV → yMem → Prop} {st : List yV} {r0 r1 r2 r3 r4 r5 r6 r7 : Option yV} {z j : Int} : zvc E (n + 1) zc_253 d xm_253 56 [r0, r1, r2, r3, r4, r5, r6, r7] ((0, j) :: (1, z) :: st) mem Post = ((0 ≤ w32 j ∧ w32 j < ((zar z 2 : Nat) : Int)) ∧ zvc E n zc_253 d xm_253 57 [r0, r1, r2, r3, r4, r5, r6, r7] ((4, mem z.toNat (w32 j).toNat) :: st) mem Post) := zrf rfl
theorem s_253_57n {E : yE} {n d : Nat} {mem : yMem} {Post : Option yV → yMem → Prop} {st : List yV} {r0 r1 r2 r4 r5 r6 r7 : Option yV} {x : Int} : zvc E (n + 1) zc_253 d xm_253 57 [r0, r1, r2, none, r4, r5, r6, r7] ((4, x) :: st) mem Post = (zvc E n zc_253 d xm_253 59 [r0, r1, r2, none, some (4, x), none, r6, r7] (st) mem Post) := zrf rfl
theorem s_253_57i {E : yE} {n d : Nat} {mem : yMem} {Post : Option yV → yMem → Prop} {st : List yV} {r0 r1 r2 r4 r5 r6 r7 : Option yV} {x w : Int} : zvc E (n + 1) zc_253 d xm_253 57 [r0, r1, r2, some (0, w), r4, r5, r6, r7] ((4, x) :: st) mem Post = (zvc E n zc_253 d xm_253 59 [r0, r1, r2, some (0, w), some (4, x), none, r6, r7] (st) mem Post) := zrf rfl
theorem s_253_57p {E : yE} {n d : Nat} {mem : yMem} {Post : Option yV → yMem → Prop} {st : List yV} {r0 r1 r2 r4 r5 r6 r7 : Option yV} {x w : Int} : zvc E (n + 1) zc_253 d xm_253 57 [r0, r1, r2, some (1, w), r4, r5, r6, r7] ((4, x) :: st) mem Post = (zvc E n zc_253 d xm_253 59 [r0, r1, r2, some (1, w), some (4, x), none, r6, r7] (st) mem Post) := zrf rfl
theorem s_253_57l {E : yE} {n d : Nat} {mem : yMem} {Post : Option yV → yMem → Prop} {st : List yV} {r0 r1 r2 r4 r5 r6 r7 : Option yV} {x w : Int} : zvc E (n + 1) zc_253 d xm_253 57 [r0, r1, r2, some (4, w), r4, r5, r6, r7] ((4, x) :: st) mem Post = (zvc E n zc_253 d xm_253 59 [r0, r1, r2, none, some (4, x), none, r6, r7] (st) mem Post) := zrf rfl
theorem s_253_59 {E : yE} {n d : Nat} {mem : yMem} {Post : Option yV → yMem → Prop} {st : List yV} {r1 r2 r3 r4 r5 r6 r7 : Option yV} {x : Int} : zvc E (n + 1) zc_253 d xm_253 59 [some (1, x), r1, r2, r3, r4, r5, r6, r7] (st) mem Post = (zvc E n zc_253 d xm_253 60 [some (1, x), r1, r2, r3, r4, r5, r6, r7] ((1, x) :: st) mem Post) := zrf rfl
theorem s_253_60a {E : yE} {n d : Nat} {mem : yMem} {Post : Option yV → yMem → Prop} {st : List yV} {r0 r1 r2 r3 r4 r5 r6 r7 : Option yV} {x : Int} : zvc E (n + 1) zc_253 d xm_253 60 [r0, r1, r2, r3, r4, r5, r6, r7] ((0, x) :: st) mem Post = (zvc E n zc_253 d xm_253 61 [r0, r1, r2, r3, r4, r5, r6, r7] ((0, x) :: (0, x) :: st) mem Post) := zrf rfl
theorem s_253_60b {E : yE} {n d : Nat} {mem : yMem} {Post : Option yV → yMem → Prop} {st : List yV} {r0 r1 r2 r3 r4 r5 r6 r7 : Option yV} {x : Int} : zvc E (n + 1) zc_253 d xm_253 60 [r0, r1, r2, r3, r4, r5, r6, r7] ((1, x) :: st) mem Post = (zvc E n zc_253 d xm_253 61 [r0, r1, r2, r3, r4, r5, r6, r7] ((1, x) :: (1, x) :: st) mem Post) := zrf rfl
theorem s_253_61 {E : yE} {n d : Nat} {mem : yMem} {Post : Option yV → yMem → Prop} {st : List yV} {r0 r1 r2 r3 r4 r5 r6 r7 : Option yV} : zvc E (n + 1) zc_253 d xm_253 61 [r0, r1, r2, r3, r4, r5, r6, r7] ((1, 95) :: st) mem Post = (zvc E n zc_253 d xm_253 64 [r0, r1, r2, r3, r4, r5, r6, r7] ((0, mem 95 52) :: st) mem Post) := zrf rfl
theorem s_253_64 {E : yE} {n d : Nat} {mem : yMem} {Post : Option yV → yMem → Prop} {st : List yV} {r0 r1 r2 r3 r4 r5 r6 r7 : Option yV} : zvc E (n + 1) zc_253 d xm_253 64 [r0, r1, r2, r3, r4, r5, r6, r7] (st) mem Post = (zvc E n zc_253 d xm_253 65 [r0, r1, r2, r3, r4, r5, r6, r7] ((0, 1) :: st) mem Post) := zrf rfl
theorem s_253_65 {E : yE} {n d : Nat} {mem : yMem} {Post : Option yV → yMem → Prop} {st : List yV} {r0 r1 r2 r3 r4 r5 r6 r7 : Option yV} {x y : Int} : zvc E (n + 1) zc_253 d xm_253 65 [r0, r1, r2, r3, r4, r5, r6, r7] ((0, y) :: (0, x) :: st) mem Post = (zvc E n zc_253 d xm_253 66 [r0, r1, r2, r3, r4, r5, r6, r7] ((0, x - y) :: st) mem Post) := zrf rfl
theorem s_253_66 {E : yE} {n d : Nat} {mem : yMem} {Post : Option yV → yMem → Prop} {st : List yV} {r0 r1 r2 r3 r4 r5 r6 r7 : Option yV} {x : Int} : zvc E (n + 1) zc_253 d xm_253 66 [r0, r1, r2, r3, r4, r5, r6, r7] ((0, x) :: (1, 95) :: st) mem Post = (zvc E n zc_253 d xm_253 69 [r0, r1, r2, r3, r4, r5, r6, r7] (st) (yset mem 95 52 x) Post) := zrf rfl
theorem s_253_69 {E : yE} {n d : Nat} {mem : yMem} {Post : Option yV → yMem → Prop} {st : List yV} {r0 r2 r3 r4 r5 r6 r7 : Option yV} {x : Int} : zvc E (n + 1) zc_253 d xm_253 69 [r0, some (0, x), r2, r3, r4, r5, r6, r7] (st) mem Post = (zvc E n zc_253 d xm_253 70 [r0, some (0, x), r2, r3, r4, r5, r6, r7] ((0, x) :: st) mem Post) := zrf rfl
theorem s_253_70 {E : yE} {n d : Nat} {mem : yMem} {Post : Option yV → yMem → Prop} {st : List yV} {r0 r1 r2 r3 r4 r5 r6 r7 : Option yV} {x : Int} : zvc E (n + 1) zc_253 d xm_253 70 [r0, r1, r2, r3, r4, r5, r6, r7] ((0, x) :: st) mem Post = ((w32 x = 42 → zvc E n zc_253 d xm_253 186 [r0, r1, r2, r3, r4, r5, r6, r7] (st) mem Post) ∧ (¬ w32 x = 42 → (w32 x = 43 → zvc E n zc_253 d xm_253 168 [r0, r1, r2, r3, r4, r5, r6, r7] (st) mem Post) ∧ (¬ w32 x = 43 → (w32 x = 45 → zvc E n zc_253 d xm_253 177 [r0, r1, r2, r3, r4, r5, r6, r7] (st) mem Post) ∧ (¬ w32 x = 45 → (w32 x = 47 → zvc E n zc_253 d xm_253 221 [r0, r1, r2, r3, r4, r5, r6, r7] (st) mem Post) ∧ (¬ w32 x = 47 → (w32 x = 60 → zvc E n zc_253 d xm_253 238 [r0, r1, r2, r3, r4, r5, r6, r7] (st) mem Post) ∧ (¬ w32 x = 60 → (w32 x = 61 → zvc E n zc_253 d xm_253 278 [r0, r1, r2, r3, r4, r5, r6, r7] (st) mem Post) ∧ (¬ w32 x = 61 → (w32 x = 62 → zvc E n zc_253 d xm_253 258 [r0, r1, r2, r3, r4, r5, r6, r7] (st) mem Post) ∧ (¬ w32 x = 62 → (w32 x = 256 → zvc E n zc_253 d xm_253 298 [r0, r1, r2, r3, r4, r5, r6, r7] (st) mem Post) ∧ (¬ w32 x = 256 → (w32 x = 257 → zvc E n zc_253 d xm_253 338 [r0, r1, r2, r3, r4, r5, r6, r7] (st) mem Post) ∧ (¬ w32 x = 257 → (w32 x = 258 → zvc E n zc_253 d xm_253 318 [r0, r1, r2, r3, r4, r5, r6, r7] (st) mem Post) ∧ (¬ w32 x = 258 → (w32 x = 261 → zvc E n zc_253 d xm_253 358 [r0, r1, r2, r3, r4, r5, r6, r7] (st) mem Post) ∧ (¬ w32 x = 261 → zvc E n zc_253 d xm_253 384 [r0, r1, r2, r3, r4, r5, r6, r7] (st) mem Post)))))))))))) := zrf rfl
theorem s_253_168 {E : yE} {n d : Nat} {mem : yMem} {Post : Option yV → yMem → Prop} {st : List yV} {r0 r1 r2 r3 r5 r6 r7 : Option yV} {x : Int} : zvc E (n + 1) zc_253 d xm_253 168 [r0, r1, r2, r3, some (4, x), r5, r6, r7] (st) mem Post = (zvc E n zc_253 d xm_253 170 [r0, r1, r2, r3, some (4, x), r5, r6, r7] ((4, x) :: st) mem Post) := zrf rfl
theorem s_253_170 {E : yE} {n d : Nat} {mem : yMem} {Post : Option yV → yMem → Prop} {st : List yV} {r0 r1 r3 r4 r5 r6 r7 : Option yV} {x : Int} : zvc E (n + 1) zc_253 d xm_253 170 [r0, r1, some (4, x), r3, r4, r5, r6, r7] (st) mem Post = (zvc E n zc_253 d xm_253 171 [r0, r1, some (4, x), r3, r4, r5, r6, r7] ((4, x) :: st) mem Post) := zrf rfl
theorem s_253_171 {E : yE} {n d : Nat} {mem : yMem} {Post : Option yV → yMem → Prop} {st : List yV} {r0 r1 r2 r3 r4 r5 r6 r7 : Option yV} {x y : Int} : zvc E (n + 1) zc_253 d xm_253 171 [r0, r1, r2, r3, r4, r5, r6, r7] ((4, y) :: (4, x) :: st) mem Post = (zvc E n zc_253 d xm_253 172 [r0, r1, r2, r3, r4, r5, r6, r7] ((4, x + y) :: st) mem Post) := zrf rfl
theorem s_253_172n {E : yE} {n d : Nat} {mem : yMem} {Post : Option yV → yMem → Prop} {st : List yV} {r0 r1 r2 r3 r4 r6 r7 : Option yV} {x : Int} : zvc E (n + 1) zc_253 d xm_253 172 [r0, r1, r2, r3, r4, none, r6, r7] ((4, x) :: st) mem Post = (zvc E n zc_253 d xm_253 174 [r0, r1, r2, r3, r4, none, some (4, x), none] (st) mem Post) := zrf rfl
theorem s_253_172i {E : yE} {n d : Nat} {mem : yMem} {Post : Option yV → yMem → Prop} {st : List yV} {r0 r1 r2 r3 r4 r6 r7 : Option yV} {x w : Int} : zvc E (n + 1) zc_253 d xm_253 172 [r0, r1, r2, r3, r4, some (0, w), r6, r7] ((4, x) :: st) mem Post = (zvc E n zc_253 d xm_253 174 [r0, r1, r2, r3, r4, some (0, w), some (4, x), none] (st) mem Post) := zrf rfl
theorem s_253_172p {E : yE} {n d : Nat} {mem : yMem} {Post : Option yV → yMem → Prop} {st : List yV} {r0 r1 r2 r3 r4 r6 r7 : Option yV} {x w : Int} : zvc E (n + 1) zc_253 d xm_253 172 [r0, r1, r2, r3, r4, some (1, w), r6, r7] ((4, x) :: st) mem Post = (zvc E n zc_253 d xm_253 174 [r0, r1, r2, r3, r4, some (1, w), some (4, x), none] (st) mem Post) := zrf rfl
theorem s_253_172l {E : yE} {n d : Nat} {mem : yMem} {Post : Option yV → yMem → Prop} {st : List yV} {r0 r1 r2 r3 r4 r6 r7 : Option yV} {x w : Int} : zvc E (n + 1) zc_253 d xm_253 172 [r0, r1, r2, r3, r4, some (4, w), r6, r7] ((4, x) :: st) mem Post = (zvc E n zc_253 d xm_253 174 [r0, r1, r2, r3, r4, none, some (4, x), none] (st) mem Post) := zrf rfl
theorem s_253_174 {E : yE} {n d : Nat} {mem : yMem} {Post : Option yV → yMem → Prop} {st : List yV} {r0 r1 r2 r3 r4 r5 r6 r7 : Option yV} : zvc E (n + 1) zc_253 d xm_253 174 [r0, r1, r2, r3, r4, r5, r6, r7] (st) mem Post = (zvc E n zc_253 d xm_253 407 [r0, r1, r2, r3, r4, r5, r6, r7] (st) mem Post) := zrf rfl
theorem s_253_177 {E : yE} {n d : Nat} {mem : yMem} {Post : Option yV → yMem → Prop} {st : List yV} {r0 r1 r2 r3 r5 r6 r7 : Option yV} {x : Int} : zvc E (n + 1) zc_253 d xm_253 177 [r0, r1, r2, r3, some (4, x), r5, r6, r7] (st) mem Post = (zvc E n zc_253 d xm_253 179 [r0, r1, r2, r3, some (4, x), r5, r6, r7] ((4, x) :: st) mem Post) := zrf rfl
theorem s_253_179 {E : yE} {n d : Nat} {mem : yMem} {Post : Option yV → yMem → Prop} {st : List yV} {r0 r1 r3 r4 r5 r6 r7 : Option yV} {x : Int} : zvc E (n + 1) zc_253 d xm_253 179 [r0, r1, some (4, x), r3, r4, r5, r6, r7] (st) mem Post = (zvc E n zc_253 d xm_253 180 [r0, r1, some (4, x), r3, r4, r5, r6, r7] ((4, x) :: st) mem Post) := zrf rfl
theorem s_253_180 {E : yE} {n d : Nat} {mem : yMem} {Post : Option yV → yMem → Prop} {st : List yV} {r0 r1 r2 r3 r4 r5 r6 r7 : Option yV} {x y : Int} : zvc E (n + 1) zc_253 d xm_253 180 [r0, r1, r2, r3, r4, r5, r6, r7] ((4, y) :: (4, x) :: st) mem Post = (zvc E n zc_253 d xm_253 181 [r0, r1, r2, r3, r4, r5, r6, r7] ((4, x - y) :: st) mem Post) := zrf rfl
theorem s_253_181n {E : yE} {n d : Nat} {mem : yMem} {Post : Option yV → yMem → Prop} {st : List yV} {r0 r1 r2 r3 r4 r6 r7 : Option yV} {x : Int} : zvc E (n + 1) zc_253 d xm_253 181 [r0, r1, r2, r3, r4, none, r6, r7] ((4, x) :: st) mem Post = (zvc E n zc_253 d xm_253 183 [r0, r1, r2, r3, r4, none, some (4, x), none] (st) mem Post) := zrf rfl
theorem s_253_181i {E : yE} {n d : Nat} {mem : yMem} {Post : Option yV → yMem → Prop} {st : List yV} {r0 r1 r2 r3 r4 r6 r7 : Option yV} {x w : Int} : zvc E (n + 1) zc_253 d xm_253 181 [r0, r1, r2, r3, r4, some (0, w), r6, r7] ((4, x) :: st) mem Post = (zvc E n zc_253 d xm_253 183 [r0, r1, r2, r3, r4, some (0, w), some (4, x), none] (st) mem Post) := zrf rfl
theorem s_253_181p {E : yE} {n d : Nat} {mem : yMem} {Post : Option yV → yMem → Prop} {st : List yV} {r0 r1 r2 r3 r4 r6 r7 : Option yV} {x w : Int} : zvc E (n + 1) zc_253 d xm_253 181 [r0, r1, r2, r3, r4, some (1, w), r6, r7] ((4, x) :: st) mem Post = (zvc E n zc_253 d xm_253 183 [r0, r1, r2, r3, r4, some (1, w), some (4, x), none] (st) mem Post) := zrf rfl
theorem s_253_181l {E : yE} {n d : Nat} {mem : yMem} {Post : Option yV → yMem → Prop} {st : List yV} {r0 r1 r2 r3 r4 r6 r7 : Option yV} {x w : Int} : zvc E (n + 1) zc_253 d xm_253 181 [r0, r1, r2, r3, r4, some (4, w), r6, r7] ((4, x) :: st) mem Post = (zvc E n zc_253 d xm_253 183 [r0, r1, r2, r3, r4, none, some (4, x), none] (st) mem Post) := zrf rfl
theorem s_253_183 {E : yE} {n d : Nat} {mem : yMem} {Post : Option yV → yMem → Prop} {st : List yV} {r0 r1 r2 r3 r4 r5 r6 r7 : Option yV} : zvc E (n + 1) zc_253 d xm_253 183 [r0, r1, r2, r3, r4, r5, r6, r7] (st) mem Post = (zvc E n zc_253 d xm_253 407 [r0, r1, r2, r3, r4, r5, r6, r7] (st) mem Post) := zrf rfl
theorem s_253_186 {E : yE} {n d : Nat} {mem : yMem} {Post : Option yV → yMem → Prop} {st : List yV} {r0 r1 r2 r3 r5 r6 r7 : Option yV} {x : Int} : zvc E (n + 1) zc_253 d xm_253 186 [r0, r1, r2, r3, some (4, x), r5, r6, r7] (st) mem Post = (zvc E n zc_253 d xm_253 188 [r0, r1, r2, r3, some (4, x), r5, r6, r7] ((4, x) :: st) mem Post) := zrf rfl
theorem s_253_188 {E : yE} {n d : Nat} {mem : yMem} {Post : Option yV → yMem → Prop} {st : List yV} {r0 r1 r2 r3 r4 r5 r6 r7 : Option yV} : zvc E (n + 1) zc_253 d xm_253 188 [r0, r1, r2, r3, r4, r5, r6, r7] (st) mem Post = (zvc E n zc_253 d xm_253 189 [r0, r1, r2, r3, r4, r5, r6, r7] ((4, 0) :: st) mem Post) := zrf rfl
theorem s_253_189 {E : yE} {n d : Nat} {mem : yMem} {Post : Option yV → yMem → Prop} {st : List yV} {r0 r1 r2 r3 r4 r5 r6 r7 : Option yV} {x y : Int} : zvc E (n + 1) zc_253 d xm_253 189 [r0, r1, r2, r3, r4, r5, r6, r7] ((4, y) :: (4, x) :: st) mem Post = (zvc E n zc_253 d xm_253 190 [r0, r1, r2, r3, r4, r5, r6, r7] ((0, ycmp x y) :: st) mem Post) := zrf rfl
theorem s_253_190 {E : yE} {n d : Nat} {mem : yMem} {Post : Option yV → yMem → Prop} {st : List yV} {r0 r1 r2 r3 r4 r5 r6 r7 : Option yV} {x : Int} : zvc E (n + 1) zc_253 d xm_253 190 [r0, r1, r2, r3, r4, r5, r6, r7] ((0, x) :: st) mem Post = ((w32 x = w32 0 → zvc E n zc_253 d xm_253 212 [r0, r1, r2, r3, r4, r5, r6, r7] (st) mem Post) ∧ (¬ (w32 x = w32 0) → zvc E n zc_253 d xm_253 193 [r0, r1, r2, r3, r4, r5, r6, r7] (st) mem Post)) := zrf rfl
theorem s_253_193 {E : yE} {n d : Nat} {mem : yMem} {Post : Option yV → yMem → Prop} {st : List yV} {r0 r1 r3 r4 r5 r6 r7 : Option yV} {x : Int} : zvc E (n + 1) zc_253 d xm_253 193 [r0, r1, some (4, x), r3, r4, r5, r6, r7] (st) mem Post = (zvc E n zc_253 d xm_253 194 [r0, r1, some (4, x), r3, r4, r5, r6, r7] ((4, x) :: st) mem Post) := zrf rfl
theorem s_253_194 {E : yE} {n d : Nat} {mem : yMem} {Post : Option yV → yMem → Prop} {st : List yV} {r0 r1 r2 r3 r4 r5 r6 r7 : Option yV} {x : Int} : zvc E (n + 1) zc_253 d xm_253 194 [r0, r1, r2, r3, r4, r5, r6, r7] ((4, x) :: st) mem Post = (ysum st ≤ 8 ∧ zvc E n zc_253 d xm_253 197 [r0, r1, r2, r3, r4, r5, r6, r7] ((4, zabl x) :: st) mem Post) := zrf rfl
theorem s_253_197 {E : yE} {n d : Nat} {mem : yMem} {Post : Option yV → yMem → Prop} {st : List yV} {r0 r1 r2 r3 r4 r5 r6 r7 : Option yV} : zvc E (n + 1) zc_253 d xm_253 197 [r0, r1, r2, r3, r4, r5, r6, r7] (st) mem Post = (zvc E n zc_253 d xm_253 200 [r0, r1, r2, r3, r4, r5, r6, r7] ((4, 1000000000000) :: st) mem Post) := zrf rfl
theorem s_253_200 {E : yE} {n d : Nat} {mem : yMem} {Post : Option yV → yMem → Prop} {st : List yV} {r0 r1 r2 r3 r5 r6 r7 : Option yV} {x : Int} : zvc E (n + 1) zc_253 d xm_253 200 [r0, r1, r2, r3, some (4, x), r5, r6, r7] (st) mem Post = (zvc E n zc_253 d xm_253 202 [r0, r1, r2, r3, some (4, x), r5, r6, r7] ((4, x) :: st) mem Post) := zrf rfl
theorem s_253_202 {E : yE} {n d : Nat} {mem : yMem} {Post : Option yV → yMem → Prop} {st : List yV} {r0 r1 r2 r3 r4 r5 r6 r7 : Option yV} {x : Int} : zvc E (n + 1) zc_253 d xm_253 202 [r0, r1, r2, r3, r4, r5, r6, r7] ((4, x) :: st) mem Post = (ysum st ≤ 8 ∧ zvc E n zc_253 d xm_253 205 [r0, r1, r2, r3, r4, r5, r6, r7] ((4, zabl x) :: st) mem Post) := zrf rfl
theorem s_253_205 {E : yE} {n d : Nat} {mem : yMem} {Post : Option yV → yMem → Prop} {st : List yV} {r0 r1 r2 r3 r4 r5 r6 r7 : Option yV} {x y : Int} : zvc E (n + 1) zc_253 d xm_253 205 [r0, r1, r2, r3, r4, r5, r6, r7] ((4, y) :: (4, x) :: st) mem Post = (¬ w64 y = 0 ∧ zvc E n zc_253 d xm_253 206 [r0, r1, r2, r3, r4, r5, r6, r7] ((4, ylbin 9 x y) :: st) mem Post) := zrf rfl
theorem s_253_206 {E : yE} {n d : Nat} {mem : yMem} {Post : Option yV → yMem → Prop} {st : List yV} {r0 r1 r2 r3 r4 r5 r6 r7 : Option yV} {x y : Int} : zvc E (n + 1) zc_253 d xm_253 206 [r0, r1, r2, r3, r4, r5, r6, r7] ((4, y) :: (4, x) :: st) mem Post = (zvc E n zc_253 d xm_253 207 [r0, r1, r2, r3, r4, r5, r6, r7] ((0, ycmp x y) :: st) mem Post) := zrf rfl
theorem s_253_207 {E : yE} {n d : Nat} {mem : yMem} {Post : Option yV → yMem → Prop} {st : List yV} {r0 r1 r2 r3 r4 r5 r6 r7 : Option yV} {x : Int} : zvc E (n + 1) zc_253 d xm_253 207 [r0, r1, r2, r3, r4, r5, r6, r7] ((0, x) :: st) mem Post = ((w32 x ≤ w32 0 → zvc E n zc_253 d xm_253 212 [r0, r1, r2, r3, r4, r5, r6, r7] (st) mem Post) ∧ (¬ (w32 x ≤ w32 0) → zvc E n zc_253 d xm_253 210 [r0, r1, r2, r3, r4, r5, r6, r7] (st) mem Post)) := zrf rfl
theorem s_253_210 {E : yE} {n d : Nat} {mem : yMem} {Post : Option yV → yMem → Prop} {st : List yV} {r0 r1 r2 r3 r4 r5 r6 r7 : Option yV} : zvc E (n + 1) zc_253 d xm_253 210 [r0, r1, r2, r3, r4, r5, r6, r7] (st) mem Post = (zvc E n zc_253 d xm_253 211 [r0, r1, r2, r3, r4, r5, r6, r7] ((0, 0) :: st) mem Post) := zrf rfl
theorem s_253_211 {E : yE} {n d : Nat} {mem : yMem} {Post : Option yV → yMem → Prop} {r0 r1 r2 r3 r4 r5 r6 r7 : Option yV} {x : Int} : zvc E (n + 1) zc_253 d xm_253 211 [r0, r1, r2, r3, r4, r5, r6, r7] ([(0, x)]) mem Post = ((w32 x = 0 ∨ w32 x = 1) ∧ Post (some (0, x)) mem) := zrf rfl
theorem s_253_212 {E : yE} {n d : Nat} {mem : yMem} {Post : Option yV → yMem → Prop} {st : List yV} {r0 r1 r2 r3 r5 r6 r7 : Option yV} {x : Int} : zvc E (n + 1) zc_253 d xm_253 212 [r0, r1, r2, r3, some (4, x), r5, r6, r7] (st) mem Post = (zvc E n zc_253 d xm_253 214 [r0, r1, r2, r3, some (4, x), r5, r6, r7] ((4, x) :: st) mem Post) := zrf rfl
theorem s_253_214 {E : yE} {n d : Nat} {mem : yMem} {Post : Option yV → yMem → Prop} {st : List yV} {r0 r1 r3 r4 r5 r6 r7 : Option yV} {x : Int} : zvc E (n + 1) zc_253 d xm_253 214 [r0, r1, some (4, x), r3, r4, r5, r6, r7] (st) mem Post = (zvc E n zc_253 d xm_253 215 [r0, r1, some (4, x), r3, r4, r5, r6, r7] ((4, x) :: st) mem Post) := zrf rfl
theorem s_253_215 {E : yE} {n d : Nat} {mem : yMem} {Post : Option yV → yMem → Prop} {st : List yV} {r0 r1 r2 r3 r4 r5 r6 r7 : Option yV} {x y : Int} : zvc E (n + 1) zc_253 d xm_253 215 [r0, r1, r2, r3, r4, r5, r6, r7] ((4, y) :: (4, x) :: st) mem Post = (zvc E n zc_253 d xm_253 216 [r0, r1, r2, r3, r4, r5, r6, r7] ((4, x * y) :: st) mem Post) := zrf rfl
theorem s_253_216n {E : yE} {n d : Nat} {mem : yMem} {Post : Option yV → yMem → Prop} {st : List yV} {r0 r1 r2 r3 r4 r6 r7 : Option yV} {x : Int} : zvc E (n + 1) zc_253 d xm_253 216 [r0, r1, r2, r3, r4, none, r6, r7] ((4, x) :: st) mem Post = (zvc E n zc_253 d xm_253 218 [r0, r1, r2, r3, r4, none, some (4, x), none] (st) mem Post) := zrf rfl
theorem s_253_216i {E : yE} {n d : Nat} {mem : yMem} {Post : Option yV → yMem → Prop} {st : List yV} {r0 r1 r2 r3 r4 r6 r7 : Option yV} {x w : Int} : zvc E (n + 1) zc_253 d xm_253 216 [r0, r1, r2, r3, r4, some (0, w), r6, r7] ((4, x) :: st) mem Post = (zvc E n zc_253 d xm_253 218 [r0, r1, r2, r3, r4, some (0, w), some (4, x), none] (st) mem Post) := zrf rfl
theorem s_253_216p {E : yE} {n d : Nat} {mem : yMem} {Post : Option yV → yMem → Prop} {st : List yV} {r0 r1 r2 r3 r4 r6 r7 : Option yV} {x w : Int} : zvc E (n + 1) zc_253 d xm_253 216 [r0, r1, r2, r3, r4, some (1, w), r6, r7] ((4, x) :: st) mem Post = (zvc E n zc_253 d xm_253 218 [r0, r1, r2, r3, r4, some (1, w), some (4, x), none] (st) mem Post) := zrf rfl
theorem s_253_216l {E : yE} {n d : Nat} {mem : yMem} {Post : Option yV → yMem → Prop} {st : List yV} {r0 r1 r2 r3 r4 r6 r7 : Option yV} {x w : Int} : zvc E (n + 1) zc_253 d xm_253 216 [r0, r1, r2, r3, r4, some (4, w), r6, r7] ((4, x) :: st) mem Post = (zvc E n zc_253 d xm_253 218 [r0, r1, r2, r3, r4, none, some (4, x), none] (st) mem Post) := zrf rfl
theorem s_253_218 {E : yE} {n d : Nat} {mem : yMem} {Post : Option yV → yMem → Prop} {st : List yV} {r0 r1 r2 r3 r4 r5 r6 r7 : Option yV} : zvc E (n + 1) zc_253 d xm_253 218 [r0, r1, r2, r3, r4, r5, r6, r7] (st) mem Post = (zvc E n zc_253 d xm_253 407 [r0, r1, r2, r3, r4, r5, r6, r7] (st) mem Post) := zrf rfl
theorem s_253_221 {E : yE} {n d : Nat} {mem : yMem} {Post : Option yV → yMem → Prop} {st : List yV} {r0 r1 r3 r4 r5 r6 r7 : Option yV} {x : Int} : zvc E (n + 1) zc_253 d xm_253 221 [r0, r1, some (4, x), r3, r4, r5, r6, r7] (st) mem Post = (zvc E n zc_253 d xm_253 222 [r0, r1, some (4, x), r3, r4, r5, r6, r7] ((4, x) :: st) mem Post) := zrf rfl
theorem s_253_222 {E : yE} {n d : Nat} {mem : yMem} {Post : Option yV → yMem → Prop} {st : List yV} {r0 r1 r2 r3 r4 r5 r6 r7 : Option yV} : zvc E (n + 1) zc_253 d xm_253 222 [r0, r1, r2, r3, r4, r5, r6, r7] (st) mem Post = (zvc E n zc_253 d xm_253 223 [r0, r1, r2, r3, r4, r5, r6, r7] ((4, 0) :: st) mem Post) := zrf rfl
theorem s_253_223 {E : yE} {n d : Nat} {mem : yMem} {Post : Option yV → yMem → Prop} {st : List yV} {r0 r1 r2 r3 r4 r5 r6 r7 : Option yV} {x y : Int} : zvc E (n + 1) zc_253 d xm_253 223 [r0, r1, r2, r3, r4, r5, r6, r7] ((4, y) :: (4, x) :: st) mem Post = (zvc E n zc_253 d xm_253 224 [r0, r1, r2, r3, r4, r5, r6, r7] ((0, ycmp x y) :: st) mem Post) := zrf rfl
theorem s_253_224 {E : yE} {n d : Nat} {mem : yMem} {Post : Option yV → yMem → Prop} {st : List yV} {r0 r1 r2 r3 r4 r5 r6 r7 : Option yV} {x : Int} : zvc E (n + 1) zc_253 d xm_253 224 [r0, r1, r2, r3, r4, r5, r6, r7] ((0, x) :: st) mem Post = ((¬ w32 x = w32 0 → zvc E n zc_253 d xm_253 229 [r0, r1, r2, r3, r4, r5, r6, r7] (st) mem Post) ∧ (¬ (¬ w32 x = w32 0) → zvc E n zc_253 d xm_253 227 [r0, r1, r2, r3, r4, r5, r6, r7] (st) mem Post)) := zrf rfl
theorem s_253_227 {E : yE} {n d : Nat} {mem : yMem} {Post : Option yV → yMem → Prop} {st : List yV} {r0 r1 r2 r3 r4 r5 r6 r7 : Option yV} : zvc E (n + 1) zc_253 d xm_253 227 [r0, r1, r2, r3, r4, r5, r6, r7] (st) mem Post = (zvc E n zc_253 d xm_253 228 [r0, r1, r2, r3, r4, r5, r6, r7] ((0, 0) :: st) mem Post) := zrf rfl
theorem s_253_228 {E : yE} {n d : Nat} {mem : yMem} {Post : Option yV → yMem → Prop} {r0 r1 r2 r3 r4 r5 r6 r7 : Option yV} {x : Int} : zvc E (n + 1) zc_253 d xm_253 228 [r0, r1, r2, r3, r4, r5, r6, r7] ([(0, x)]) mem Post = ((w32 x = 0 ∨ w32 x = 1) ∧ Post (some (0, x)) mem) := zrf rfl
theorem s_253_229 {E : yE} {n d : Nat} {mem : yMem} {Post : Option yV → yMem → Prop} {st : List yV} {r0 r1 r2 r3 r5 r6 r7 : Option yV} {x : Int} : zvc E (n + 1) zc_253 d xm_253 229 [r0, r1, r2, r3, some (4, x), r5, r6, r7] (st) mem Post = (zvc E n zc_253 d xm_253 231 [r0, r1, r2, r3, some (4, x), r5, r6, r7] ((4, x) :: st) mem Post) := zrf rfl
theorem s_253_231 {E : yE} {n d : Nat} {mem : yMem} {Post : Option yV → yMem → Prop} {st : List yV} {r0 r1 r3 r4 r5 r6 r7 : Option yV} {x : Int} : zvc E (n + 1) zc_253 d xm_253 231 [r0, r1, some (4, x), r3, r4, r5, r6, r7] (st) mem Post = (zvc E n zc_253 d xm_253 232 [r0, r1, some (4, x), r3, r4, r5, r6, r7] ((4, x) :: st) mem Post) := zrf rfl
theorem s_253_232 {E : yE} {n d : Nat} {mem : yMem} {Post : Option yV → yMem → Prop} {st : List yV} {r0 r1 r2 r3 r4 r5 r6 r7 : Option yV} {x y : Int} : zvc E (n + 1) zc_253 d xm_253 232 [r0, r1, r2, r3, r4, r5, r6, r7] ((4, y) :: (4, x) :: st) mem Post = (¬ w64 y = 0 ∧ zvc E n zc_253 d xm_253 233 [r0, r1, r2, r3, r4, r5, r6, r7] ((4, ylbin 9 x y) :: st) mem Post) := zrf rfl
theorem s_253_233n {E : yE} {n d : Nat} {mem : yMem} {Post : Option yV → yMem → Prop} {st : List yV} {r0 r1 r2 r3 r4 r6 r7 : Option yV} {x : Int} : zvc E (n + 1) zc_253 d xm_253 233 [r0, r1, r2, r3, r4, none, r6, r7] ((4, x) :: st) mem Post = (zvc E n zc_253 d xm_253 235 [r0, r1, r2, r3, r4, none, some (4, x), none] (st) mem Post) := zrf rfl
theorem s_253_233i {E : yE} {n d : Nat} {mem : yMem} {Post : Option yV → yMem → Prop} {st : List yV} {r0 r1 r2 r3 r4 r6 r7 : Option yV} {x w : Int} : zvc E (n + 1) zc_253 d xm_253 233 [r0, r1, r2, r3, r4, some (0, w), r6, r7] ((4, x) :: st) mem Post = (zvc E n zc_253 d xm_253 235 [r0, r1, r2, r3, r4, some (0, w), some (4, x), none] (st) mem Post) := zrf rfl
theorem s_253_233p {E : yE} {n d : Nat} {mem : yMem} {Post : Option yV → yMem → Prop} {st : List yV} {r0 r1 r2 r3 r4 r6 r7 : Option yV} {x w : Int} : zvc E (n + 1) zc_253 d xm_253 233 [r0, r1, r2, r3, r4, some (1, w), r6, r7] ((4, x) :: st) mem Post = (zvc E n zc_253 d xm_253 235 [r0, r1, r2, r3, r4, some (1, w), some (4, x), none] (st) mem Post) := zrf rfl
theorem s_253_233l {E : yE} {n d : Nat} {mem : yMem} {Post : Option yV → yMem → Prop} {st : List yV} {r0 r1 r2 r3 r4 r6 r7 : Option yV} {x w : Int} : zvc E (n + 1) zc_253 d xm_253 233 [r0, r1, r2, r3, r4, some (4, w), r6, r7] ((4, x) :: st) mem Post = (zvc E n zc_253 d xm_253 235 [r0, r1, r2, r3, r4, none, some (4, x), none] (st) mem Post) := zrf rfl
theorem s_253_235 {E : yE} {n d : Nat} {mem : yMem} {Post : Option yV → yMem → Prop} {st : List yV} {r0 r1 r2 r3 r4 r5 r6 r7 : Option yV} : zvc E (n + 1) zc_253 d xm_253 235 [r0, r1, r2, r3, r4, r5, r6, r7] (st) mem Post = (zvc E n zc_253 d xm_253 407 [r0, r1, r2, r3, r4, r5, r6, r7] (st) mem Post) := zrf rfl
theorem s_253_238 {E : yE} {n d : Nat} {mem : yMem} {Post : Option yV → yMem → Prop} {st : List yV} {r0 r1 r2 r3 r5 r6 r7 : Option yV} {x : Int} : zvc E (n + 1) zc_253 d xm_253 238 [r0, r1, r2, r3, some (4, x), r5, r6, r7] (st) mem Post = (zvc E n zc_253 d xm_253 240 [r0, r1, r2, r3, some (4, x), r5, r6, r7] ((4, x) :: st) mem Post) := zrf rfl
theorem s_253_240 {E : yE} {n d : Nat} {mem : yMem} {Post : Option yV → yMem → Prop} {st : List yV} {r0 r1 r3 r4 r5 r6 r7 : Option yV} {x : Int} : zvc E (n + 1) zc_253 d xm_253 240 [r0, r1, some (4, x), r3, r4, r5, r6, r7] (st) mem Post = (zvc E n zc_253 d xm_253 241 [r0, r1, some (4, x), r3, r4, r5, r6, r7] ((4, x) :: st) mem Post) := zrf rfl
theorem s_253_241 {E : yE} {n d : Nat} {mem : yMem} {Post : Option yV → yMem → Prop} {st : List yV} {r0 r1 r2 r3 r4 r5 r6 r7 : Option yV} {x y : Int} : zvc E (n + 1) zc_253 d xm_253 241 [r0, r1, r2, r3, r4, r5, r6, r7] ((4, y) :: (4, x) :: st) mem Post = (zvc E n zc_253 d xm_253 242 [r0, r1, r2, r3, r4, r5, r6, r7] ((0, ycmp x y) :: st) mem Post) := zrf rfl
theorem s_253_242 {E : yE} {n d : Nat} {mem : yMem} {Post : Option yV → yMem → Prop} {st : List yV} {r0 r1 r2 r3 r4 r5 r6 r7 : Option yV} {x : Int} : zvc E (n + 1) zc_253 d xm_253 242 [r0, r1, r2, r3, r4, r5, r6, r7] ((0, x) :: st) mem Post = ((w32 0 ≤ w32 x → zvc E n zc_253 d xm_253 249 [r0, r1, r2, r3, r4, r5, r6, r7] (st) mem Post) ∧ (¬ (w32 0 ≤ w32 x) → zvc E n zc_253 d xm_253 245 [r0, r1, r2, r3, r4, r5, r6, r7] (st) mem Post)) := zrf rfl
theorem s_253_245 {E : yE} {n d : Nat} {mem : yMem} {Post : Option yV → yMem → Prop} {st : List yV} {r0 r1 r2 r3 r4 r5 r6 r7 : Option yV} : zvc E (n + 1) zc_253 d xm_253 245 [r0, r1, r2, r3, r4, r5, r6, r7] (st) mem Post = (zvc E n zc_253 d xm_253 246 [r0, r1, r2, r3, r4, r5, r6, r7] ((0, 1) :: st) mem Post) := zrf rfl
theorem s_253_246 {E : yE} {n d : Nat} {mem : yMem} {Post : Option yV → yMem → Prop} {st : List yV} {r0 r1 r2 r3 r4 r5 r6 r7 : Option yV} : zvc E (n + 1) zc_253 d xm_253 246 [r0, r1, r2, r3, r4, r5, r6, r7] (st) mem Post = (zvc E n zc_253 d xm_253 250 [r0, r1, r2, r3, r4, r5, r6, r7] (st) mem Post) := zrf rfl
theorem s_253_249 {E : yE} {n d : Nat} {mem : yMem} {Post : Option yV → yMem → Prop} {st : List yV} {r0 r1 r2 r3 r4 r5 r6 r7 : Option yV} : zvc E (n + 1) zc_253 d xm_253 249 [r0, r1, r2, r3, r4, r5, r6, r7] (st) mem Post = (zvc E n zc_253 d xm_253 250 [r0, r1, r2, r3, r4, r5, r6, r7] ((0, 0) :: st) mem Post) := zrf rfl
theorem s_253_250 {E : yE} {n d : Nat} {mem : yMem} {Post : Option yV → yMem → Prop} {st : List yV} {r0 r1 r2 r3 r4 r5 r6 r7 : Option yV} {a0 : Int} : zvc E (n + 1) zc_253 (d + 1) xm_253 250 [r0, r1, r2, r3, r4, r5, r6, r7] ((0, a0) :: st) mem Post = (True ∧ ysum st ≤ 8 ∧ zvc E n [] d xm_181 0 [some (0, a0)] [] mem (fun v mem' => zvk E n zc_253 (d + 1) xm_253 253 [r0, r1, r2, r3, r4, r5, r6, r7] st v mem' Post)) := zrf rfl
theorem s_253_253n {E : yE} {n d : Nat} {mem : yMem} {Post : Option yV → yMem → Prop} {st : List yV} {r0 r1 r2 r3 r4 r6 r7 : Option yV} {x : Int} : zvc E (n + 1) zc_253 d xm_253 253 [r0, r1, r2, r3, r4, none, r6, r7] ((4, x) :: st) mem Post = (zvc E n zc_253 d xm_253 255 [r0, r1, r2, r3, r4, none, some (4, x), none] (st) mem Post) := zrf rfl
theorem s_253_253i {E : yE} {n d : Nat} {mem : yMem} {Post : Option yV → yMem → Prop} {st : List yV} {r0 r1 r2 r3 r4 r6 r7 : Option yV} {x w : Int} : zvc E (n + 1) zc_253 d xm_253 253 [r0, r1, r2, r3, r4, some (0, w), r6, r7] ((4, x) :: st) mem Post = (zvc E n zc_253 d xm_253 255 [r0, r1, r2, r3, r4, some (0, w), some (4, x), none] (st) mem Post) := zrf rfl
theorem s_253_253p {E : yE} {n d : Nat} {mem : yMem} {Post : Option yV → yMem → Prop} {st : List yV} {r0 r1 r2 r3 r4 r6 r7 : Option yV} {x w : Int} : zvc E (n + 1) zc_253 d xm_253 253 [r0, r1, r2, r3, r4, some (1, w), r6, r7] ((4, x) :: st) mem Post = (zvc E n zc_253 d xm_253 255 [r0, r1, r2, r3, r4, some (1, w), some (4, x), none] (st) mem Post) := zrf rfl
theorem s_253_253l {E : yE} {n d : Nat} {mem : yMem} {Post : Option yV → yMem → Prop} {st : List yV} {r0 r1 r2 r3 r4 r6 r7 : Option yV} {x w : Int} : zvc E (n + 1) zc_253 d xm_253 253 [r0, r1, r2, r3, r4, some (4, w), r6, r7] ((4, x) :: st) mem Post = (zvc E n zc_253 d xm_253 255 [r0, r1, r2, r3, r4, none, some (4, x), none] (st) mem Post) := zrf rfl
theorem s_253_255 {E : yE} {n d : Nat} {mem : yMem} {Post : Option yV → yMem → Prop} {st : List yV} {r0 r1 r2 r3 r4 r5 r6 r7 : Option yV} : zvc E (n + 1) zc_253 d xm_253 255 [r0, r1, r2, r3, r4, r5, r6, r7] (st) mem Post = (zvc E n zc_253 d xm_253 407 [r0, r1, r2, r3, r4, r5, r6, r7] (st) mem Post) := zrf rfl
theorem s_253_258 {E : yE} {n d : Nat} {mem : yMem} {Post : Option yV → yMem → Prop} {st : List yV} {r0 r1 r2 r3 r5 r6 r7 : Option yV} {x : Int} : zvc E (n + 1) zc_253 d xm_253 258 [r0, r1, r2, r3, some (4, x), r5, r6, r7] (st) mem Post = (zvc E n zc_253 d xm_253 260 [r0, r1, r2, r3, some (4, x), r5, r6, r7] ((4, x) :: st) mem Post) := zrf rfl
theorem s_253_260 {E : yE} {n d : Nat} {mem : yMem} {Post : Option yV → yMem → Prop} {st : List yV} {r0 r1 r3 r4 r5 r6 r7 : Option yV} {x : Int} : zvc E (n + 1) zc_253 d xm_253 260 [r0, r1, some (4, x), r3, r4, r5, r6, r7] (st) mem Post = (zvc E n zc_253 d xm_253 261 [r0, r1, some (4, x), r3, r4, r5, r6, r7] ((4, x) :: st) mem Post) := zrf rfl
theorem s_253_261 {E : yE} {n d : Nat} {mem : yMem} {Post : Option yV → yMem → Prop} {st : List yV} {r0 r1 r2 r3 r4 r5 r6 r7 : Option yV} {x y : Int} : zvc E (n + 1) zc_253 d xm_253 261 [r0, r1, r2, r3, r4, r5, r6, r7] ((4, y) :: (4, x) :: st) mem Post = (zvc E n zc_253 d xm_253 262 [r0, r1, r2, r3, r4, r5, r6, r7] ((0, ycmp x y) :: st) mem Post) := zrf rfl
theorem s_253_262 {E : yE} {n d : Nat} {mem : yMem} {Post : Option yV → yMem → Prop} {st : List yV} {r0 r1 r2 r3 r4 r5 r6 r7 : Option yV} {x : Int} : zvc E (n + 1) zc_253 d xm_253 262 [r0, r1, r2, r3, r4, r5, r6, r7] ((0, x) :: st) mem Post = ((w32 x ≤ w32 0 → zvc E n zc_253 d xm_253 269 [r0, r1, r2, r3, r4, r5, r6, r7] (st) mem Post) ∧ (¬ (w32 x ≤ w32 0) → zvc E n zc_253 d xm_253 265 [r0, r1, r2, r3, r4, r5, r6, r7] (st) mem Post)) := zrf rfl
theorem s_253_265 {E : yE} {n d : Nat} {mem : yMem} {Post : Option yV → yMem → Prop} {st : List yV} {r0 r1 r2 r3 r4 r5 r6 r7 : Option yV} : zvc E (n + 1) zc_253 d xm_253 265 [r0, r1, r2, r3, r4, r5, r6, r7] (st) mem Post = (zvc E n zc_253 d xm_253 266 [r0, r1, r2, r3, r4, r5, r6, r7] ((0, 1) :: st) mem Post) := zrf rfl
theorem s_253_266 {E : yE} {n d : Nat} {mem : yMem} {Post : Option yV → yMem → Prop} {st : List yV} {r0 r1 r2 r3 r4 r5 r6 r7 : Option yV} : zvc E (n + 1) zc_253 d xm_253 266 [r0, r1, r2, r3, r4, r5, r6, r7] (st) mem Post = (zvc E n zc_253 d xm_253 270 [r0, r1, r2, r3, r4, r5, r6, r7] (st) mem Post) := zrf rfl
theorem s_253_269 {E : yE} {n d : Nat} {mem : yMem} {Post : Option yV → yMem → Prop} {st : List yV} {r0 r1 r2 r3 r4 r5 r6 r7 : Option yV} : zvc E (n + 1) zc_253 d xm_253 269 [r0, r1, r2, r3, r4, r5, r6, r7] (st) mem Post = (zvc E n zc_253 d xm_253 270 [r0, r1, r2, r3, r4, r5, r6, r7] ((0, 0) :: st) mem Post) := zrf rfl
theorem s_253_270 {E : yE} {n d : Nat} {mem : yMem} {Post : Option yV → yMem → Prop} {st : List yV} {r0 r1 r2 r3 r4 r5 r6 r7 : Option yV} {a0 : Int} : zvc E (n + 1) zc_253 (d + 1) xm_253 270 [r0, r1, r2, r3, r4, r5, r6, r7] ((0, a0) :: st) mem Post = (True ∧ ysum st ≤ 8 ∧ zvc E n [] d xm_181 0 [some (0, a0)] [] mem (fun v mem' => zvk E n zc_253 (d + 1) xm_253 273 [r0, r1, r2, r3, r4, r5, r6, r7] st v mem' Post)) := zrf rfl
theorem s_253_273n {E : yE} {n d : Nat} {mem : yMem} {Post : Option yV → yMem → Prop} {st : List yV} {r0 r1 r2 r3 r4 r6 r7 : Option yV} {x : Int} : zvc E (n + 1) zc_253 d xm_253 273 [r0, r1, r2, r3, r4, none, r6, r7] ((4, x) :: st) mem Post = (zvc E n zc_253 d xm_253 275 [r0, r1, r2, r3, r4, none, some (4, x), none] (st) mem Post) := zrf rfl
theorem s_253_273i {E : yE} {n d : Nat} {mem : yMem} {Post : Option yV → yMem → Prop} {st : List yV} {r0 r1 r2 r3 r4 r6 r7 : Option yV} {x w : Int} : zvc E (n + 1) zc_253 d xm_253 273 [r0, r1, r2, r3, r4, some (0, w), r6, r7] ((4, x) :: st) mem Post = (zvc E n zc_253 d xm_253 275 [r0, r1, r2, r3, r4, some (0, w), some (4, x), none] (st) mem Post) := zrf rfl
theorem s_253_273p {E : yE} {n d : Nat} {mem : yMem} {Post : Option yV → yMem → Prop} {st : List yV} {r0 r1 r2 r3 r4 r6 r7 : Option yV} {x w : Int} : zvc E (n + 1) zc_253 d xm_253 273 [r0, r1, r2, r3, r4, some (1, w), r6, r7] ((4, x) :: st) mem Post = (zvc E n zc_253 d xm_253 275 [r0, r1, r2, r3, r4, some (1, w), some (4, x), none] (st) mem Post) := zrf rfl
theorem s_253_273l {E : yE} {n d : Nat} {mem : yMem} {Post : Option yV → yMem → Prop} {st : List yV} {r0 r1 r2 r3 r4 r6 r7 : Option yV} {x w : Int} : zvc E (n + 1) zc_253 d xm_253 273 [r0, r1, r2, r3, r4, some (4, w), r6, r7] ((4, x) :: st) mem Post = (zvc E n zc_253 d xm_253 275 [r0, r1, r2, r3, r4, none, some (4, x), none] (st) mem Post) := zrf rfl
theorem s_253_275 {E : yE} {n d : Nat} {mem : yMem} {Post : Option yV → yMem → Prop} {st : List yV} {r0 r1 r2 r3 r4 r5 r6 r7 : Option yV} : zvc E (n + 1) zc_253 d xm_253 275 [r0, r1, r2, r3, r4, r5, r6, r7] (st) mem Post = (zvc E n zc_253 d xm_253 407 [r0, r1, r2, r3, r4, r5, r6, r7] (st) mem Post) := zrf rfl
theorem s_253_278 {E : yE} {n d : Nat} {mem : yMem} {Post : Option yV → yMem → Prop} {st : List yV} {r0 r1 r2 r3 r5 r6 r7 : Option yV} {x : Int} : zvc E (n + 1) zc_253 d xm_253 278 [r0, r1, r2, r3, some (4, x), r5, r6, r7] (st) mem Post = (zvc E n zc_253 d xm_253 280 [r0, r1, r2, r3, some (4, x), r5, r6, r7] ((4, x) :: st) mem Post) := zrf rfl
theorem s_253_280 {E : yE} {n d : Nat} {mem : yMem} {Post : Option yV → yMem → Prop} {st : List yV} {r0 r1 r3 r4 r5 r6 r7 : Option yV} {x : Int} : zvc E (n + 1) zc_253 d xm_253 280 [r0, r1, some (4, x), r3, r4, r5, r6, r7] (st) mem Post = (zvc E n zc_253 d xm_253 281 [r0, r1, some (4, x), r3, r4, r5, r6, r7] ((4, x) :: st) mem Post) := zrf rfl
theorem s_253_281 {E : yE} {n d : Nat} {mem : yMem} {Post : Option yV → yMem → Prop} {st : List yV} {r0 r1 r2 r3 r4 r5 r6 r7 : Option yV} {x y : Int} : zvc E (n + 1) zc_253 d xm_253 281 [r0, r1, r2, r3, r4, r5, r6, r7] ((4, y) :: (4, x) :: st) mem Post = (zvc E n zc_253 d xm_253 282 [r0, r1, r2, r3, r4, r5, r6, r7] ((0, ycmp x y) :: st) mem Post) := zrf rfl
theorem s_253_282 {E : yE} {n d : Nat} {mem : yMem} {Post : Option yV → yMem → Prop} {st : List yV} {r0 r1 r2 r3 r4 r5 r6 r7 : Option yV} {x : Int} : zvc E (n + 1) zc_253 d xm_253 282 [r0, r1, r2, r3, r4, r5, r6, r7] ((0, x) :: st) mem Post = ((¬ w32 x = w32 0 → zvc E n zc_253 d xm_253 289 [r0, r1, r2, r3, r4, r5, r6, r7] (st) mem Post) ∧ (¬ (¬ w32 x = w32 0) → zvc E n zc_253 d xm_253 285 [r0, r1, r2, r3, r4, r5, r6, r7] (st) mem Post)) := zrf rfl
theorem s_253_285 {E : yE} {n d : Nat} {mem : yMem} {Post : Option yV → yMem → Prop} {st : List yV} {r0 r1 r2 r3 r4 r5 r6 r7 : Option yV} : zvc E (n + 1) zc_253 d xm_253 285 [r0, r1, r2, r3, r4, r5, r6, r7] (st) mem Post = (zvc E n zc_253 d xm_253 286 [r0, r1, r2, r3, r4, r5, r6, r7] ((0, 1) :: st) mem Post) := zrf rfl
theorem s_253_286 {E : yE} {n d : Nat} {mem : yMem} {Post : Option yV → yMem → Prop} {st : List yV} {r0 r1 r2 r3 r4 r5 r6 r7 : Option yV} : zvc E (n + 1) zc_253 d xm_253 286 [r0, r1, r2, r3, r4, r5, r6, r7] (st) mem Post = (zvc E n zc_253 d xm_253 290 [r0, r1, r2, r3, r4, r5, r6, r7] (st) mem Post) := zrf rfl
theorem s_253_289 {E : yE} {n d : Nat} {mem : yMem} {Post : Option yV → yMem → Prop} {st : List yV} {r0 r1 r2 r3 r4 r5 r6 r7 : Option yV} : zvc E (n + 1) zc_253 d xm_253 289 [r0, r1, r2, r3, r4, r5, r6, r7] (st) mem Post = (zvc E n zc_253 d xm_253 290 [r0, r1, r2, r3, r4, r5, r6, r7] ((0, 0) :: st) mem Post) := zrf rfl
theorem s_253_290 {E : yE} {n d : Nat} {mem : yMem} {Post : Option yV → yMem → Prop} {st : List yV} {r0 r1 r2 r3 r4 r5 r6 r7 : Option yV} {a0 : Int} : zvc E (n + 1) zc_253 (d + 1) xm_253 290 [r0, r1, r2, r3, r4, r5, r6, r7] ((0, a0) :: st) mem Post = (True ∧ ysum st ≤ 8 ∧ zvc E n [] d xm_181 0 [some (0, a0)] [] mem (fun v mem' => zvk E n zc_253 (d + 1) xm_253 293 [r0, r1, r2, r3, r4, r5, r6, r7] st v mem' Post)) := zrf rfl
theorem s_253_293n {E : yE} {n d : Nat} {mem : yMem} {Post : Option yV → yMem → Prop} {st : List yV} {r0 r1 r2 r3 r4 r6 r7 : Option yV} {x : Int} : zvc E (n + 1) zc_253 d xm_253 293 [r0, r1, r2, r3, r4, none, r6, r7] ((4, x) :: st) mem Post = (zvc E n zc_253 d xm_253 295 [r0, r1, r2, r3, r4, none, some (4, x), none] (st) mem Post) := zrf rfl
theorem s_253_293i {E : yE} {n d : Nat} {mem : yMem} {Post : Option yV → yMem → Prop} {st : List yV} {r0 r1 r2 r3 r4 r6 r7 : Option yV} {x w : Int} : zvc E (n + 1) zc_253 d xm_253 293 [r0, r1, r2, r3, r4, some (0, w), r6, r7] ((4, x) :: st) mem Post = (zvc E n zc_253 d xm_253 295 [r0, r1, r2, r3, r4, some (0, w), some (4, x), none] (st) mem Post) := zrf rfl
theorem s_253_293p {E : yE} {n d : Nat} {mem : yMem} {Post : Option yV → yMem → Prop} {st : List yV} {r0 r1 r2 r3 r4 r6 r7 : Option yV} {x w : Int} : zvc E (n + 1) zc_253 d xm_253 293 [r0, r1, r2, r3, r4, some (1, w), r6, r7] ((4, x) :: st) mem Post = (zvc E n zc_253 d xm_253 295 [r0, r1, r2, r3, r4, some (1, w), some (4, x), none] (st) mem Post) := zrf rfl
theorem s_253_293l {E : yE} {n d : Nat} {mem : yMem} {Post : Option yV → yMem → Prop} {st : List yV} {r0 r1 r2 r3 r4 r6 r7 : Option yV} {x w : Int} : zvc E (n + 1) zc_253 d xm_253 293 [r0, r1, r2, r3, r4, some (4, w), r6, r7] ((4, x) :: st) mem Post = (zvc E n zc_253 d xm_253 295 [r0, r1, r2, r3, r4, none, some (4, x), none] (st) mem Post) := zrf rfl
theorem s_253_295 {E : yE} {n d : Nat} {mem : yMem} {Post : Option yV → yMem → Prop} {st : List yV} {r0 r1 r2 r3 r4 r5 r6 r7 : Option yV} : zvc E (n + 1) zc_253 d xm_253 295 [r0, r1, r2, r3, r4, r5, r6, r7] (st) mem Post = (zvc E n zc_253 d xm_253 407 [r0, r1, r2, r3, r4, r5, r6, r7] (st) mem Post) := zrf rfl
theorem s_253_298 {E : yE} {n d : Nat} {mem : yMem} {Post : Option yV → yMem → Prop} {st : List yV} {r0 r1 r2 r3 r5 r6 r7 : Option yV} {x : Int} : zvc E (n + 1) zc_253 d xm_253 298 [r0, r1, r2, r3, some (4, x), r5, r6, r7] (st) mem Post = (zvc E n zc_253 d xm_253 300 [r0, r1, r2, r3, some (4, x), r5, r6, r7] ((4, x) :: st) mem Post) := zrf rfl
theorem s_253_300 {E : yE} {n d : Nat} {mem : yMem} {Post : Option yV → yMem → Prop} {st : List yV} {r0 r1 r3 r4 r5 r6 r7 : Option yV} {x : Int} : zvc E (n + 1) zc_253 d xm_253 300 [r0, r1, some (4, x), r3, r4, r5, r6, r7] (st) mem Post = (zvc E n zc_253 d xm_253 301 [r0, r1, some (4, x), r3, r4, r5, r6, r7] ((4, x) :: st) mem Post) := zrf rfl
theorem s_253_301 {E : yE} {n d : Nat} {mem : yMem} {Post : Option yV → yMem → Prop} {st : List yV} {r0 r1 r2 r3 r4 r5 r6 r7 : Option yV} {x y : Int} : zvc E (n + 1) zc_253 d xm_253 301 [r0, r1, r2, r3, r4, r5, r6, r7] ((4, y) :: (4, x) :: st) mem Post = (zvc E n zc_253 d xm_253 302 [r0, r1, r2, r3, r4, r5, r6, r7] ((0, ycmp x y) :: st) mem Post) := zrf rfl
theorem s_253_302 {E : yE} {n d : Nat} {mem : yMem} {Post : Option yV → yMem → Prop} {st : List yV} {r0 r1 r2 r3 r4 r5 r6 r7 : Option yV} {x : Int} : zvc E (n + 1) zc_253 d xm_253 302 [r0, r1, r2, r3, r4, r5, r6, r7] ((0, x) :: st) mem Post = ((w32 0 < w32 x → zvc E n zc_253 d xm_253 309 [r0, r1, r2, r3, r4, r5, r6, r7] (st) mem Post) ∧ (¬ (w32 0 < w32 x) → zvc E n zc_253 d xm_253 305 [r0, r1, r2, r3, r4, r5, r6, r7] (st) mem Post)) := zrf rfl
theorem s_253_305 {E : yE} {n d : Nat} {mem : yMem} {Post : Option yV → yMem → Prop} {st : List yV} {r0 r1 r2 r3 r4 r5 r6 r7 : Option yV} : zvc E (n + 1) zc_253 d xm_253 305 [r0, r1, r2, r3, r4, r5, r6, r7] (st) mem Post = (zvc E n zc_253 d xm_253 306 [r0, r1, r2, r3, r4, r5, r6, r7] ((0, 1) :: st) mem Post) := zrf rfl
theorem s_253_306 {E : yE} {n d : Nat} {mem : yMem} {Post : Option yV → yMem → Prop} {st : List yV} {r0 r1 r2 r3 r4 r5 r6 r7 : Option yV} : zvc E (n + 1) zc_253 d xm_253 306 [r0, r1, r2, r3, r4, r5, r6, r7] (st) mem Post = (zvc E n zc_253 d xm_253 310 [r0, r1, r2, r3, r4, r5, r6, r7] (st) mem Post) := zrf rfl
theorem s_253_309 {E : yE} {n d : Nat} {mem : yMem} {Post : Option yV → yMem → Prop} {st : List yV} {r0 r1 r2 r3 r4 r5 r6 r7 : Option yV} : zvc E (n + 1) zc_253 d xm_253 309 [r0, r1, r2, r3, r4, r5, r6, r7] (st) mem Post = (zvc E n zc_253 d xm_253 310 [r0, r1, r2, r3, r4, r5, r6, r7] ((0, 0) :: st) mem Post) := zrf rfl
theorem s_253_310 {E : yE} {n d : Nat} {mem : yMem} {Post : Option yV → yMem → Prop} {st : List yV} {r0 r1 r2 r3 r4 r5 r6 r7 : Option yV} {a0 : Int} : zvc E (n + 1) zc_253 (d + 1) xm_253 310 [r0, r1, r2, r3, r4, r5, r6, r7] ((0, a0) :: st) mem Post = (True ∧ ysum st ≤ 8 ∧ zvc E n [] d xm_181 0 [some (0, a0)] [] mem (fun v mem' => zvk E n zc_253 (d + 1) xm_253 313 [r0, r1, r2, r3, r4, r5, r6, r7] st v mem' Post)) := zrf rfl
theorem s_253_313n {E : yE} {n d : Nat} {mem : yMem} {Post : Option yV → yMem → Prop} {st : List yV} {r0 r1 r2 r3 r4 r6 r7 : Option yV} {x : Int} : zvc E (n + 1) zc_253 d xm_253 313 [r0, r1, r2, r3, r4, none, r6, r7] ((4, x) :: st) mem Post = (zvc E n zc_253 d xm_253 315 [r0, r1, r2, r3, r4, none, some (4, x), none] (st) mem Post) := zrf rfl
theorem s_253_313i {E : yE} {n d : Nat} {mem : yMem} {Post : Option yV → yMem → Prop} {st : List yV} {r0 r1 r2 r3 r4 r6 r7 : Option yV} {x w : Int} : zvc E (n + 1) zc_253 d xm_253 313 [r0, r1, r2, r3, r4, some (0, w), r6, r7] ((4, x) :: st) mem Post = (zvc E n zc_253 d xm_253 315 [r0, r1, r2, r3, r4, some (0, w), some (4, x), none] (st) mem Post) := zrf rfl
theorem s_253_313p {E : yE} {n d : Nat} {mem : yMem} {Post : Option yV → yMem → Prop} {st : List yV} {r0 r1 r2 r3 r4 r6 r7 : Option yV} {x w : Int} : zvc E (n + 1) zc_253 d xm_253 313 [r0, r1, r2, r3, r4, some (1, w), r6, r7] ((4, x) :: st) mem Post = (zvc E n zc_253 d xm_253 315 [r0, r1, r2, r3, r4, some (1, w), some (4, x), none] (st) mem Post) := zrf rfl
theorem s_253_313l {E : yE} {n d : Nat} {mem : yMem} {Post : Option yV → yMem → Prop} {st : List yV} {r0 r1 r2 r3 r4 r6 r7 : Option yV} {x w : Int} : zvc E (n + 1) zc_253 d xm_253 313 [r0, r1, r2, r3, r4, some (4, w), r6, r7] ((4, x) :: st) mem Post = (zvc E n zc_253 d xm_253 315 [r0, r1, r2, r3, r4, none, some (4, x), none] (st) mem Post) := zrf rfl
theorem s_253_315 {E : yE} {n d : Nat} {mem : yMem} {Post : Option yV → yMem → Prop} {st : List yV} {r0 r1 r2 r3 r4 r5 r6 r7 : Option yV} : zvc E (n + 1) zc_253 d xm_253 315 [r0, r1, r2, r3, r4, r5, r6, r7] (st) mem Post = (zvc E n zc_253 d xm_253 407 [r0, r1, r2, r3, r4, r5, r6, r7] (st) mem Post) := zrf rfl
theorem s_253_318 {E : yE} {n d : Nat} {mem : yMem} {Post : Option yV → yMem → Prop} {st : List yV} {r0 r1 r2 r3 r5 r6 r7 : Option yV} {x : Int} : zvc E (n + 1) zc_253 d xm_253 318 [r0, r1, r2, r3, some (4, x), r5, r6, r7] (st) mem Post = (zvc E n zc_253 d xm_253 320 [r0, r1, r2, r3, some (4, x), r5, r6, r7] ((4, x) :: st) mem Post) := zrf rfl
theorem s_253_320 {E : yE} {n d : Nat} {mem : yMem} {Post : Option yV → yMem → Prop} {st : List yV} {r0 r1 r3 r4 r5 r6 r7 : Option yV} {x : Int} : zvc E (n + 1) zc_253 d xm_253 320 [r0, r1, some (4, x), r3, r4, r5, r6, r7] (st) mem Post = (zvc E n zc_253 d xm_253 321 [r0, r1, some (4, x), r3, r4, r5, r6, r7] ((4, x) :: st) mem Post) := zrf rfl
theorem s_253_321 {E : yE} {n d : Nat} {mem : yMem} {Post : Option yV → yMem → Prop} {st : List yV} {r0 r1 r2 r3 r4 r5 r6 r7 : Option yV} {x y : Int} : zvc E (n + 1) zc_253 d xm_253 321 [r0, r1, r2, r3, r4, r5, r6, r7] ((4, y) :: (4, x) :: st) mem Post = (zvc E n zc_253 d xm_253 322 [r0, r1, r2, r3, r4, r5, r6, r7] ((0, ycmp x y) :: st) mem Post) := zrf rfl
theorem s_253_322 {E : yE} {n d : Nat} {mem : yMem} {Post : Option yV → yMem → Prop} {st : List yV} {r0 r1 r2 r3 r4 r5 r6 r7 : Option yV} {x : Int} : zvc E (n + 1) zc_253 d xm_253 322 [r0, r1, r2, r3, r4, r5, r6, r7] ((0, x) :: st) mem Post = ((w32 x < w32 0 → zvc E n zc_253 d xm_253 329 [r0, r1, r2, r3, r4, r5, r6, r7] (st) mem Post) ∧ (¬ (w32 x < w32 0) → zvc E n zc_253 d xm_253 325 [r0, r1, r2, r3, r4, r5, r6, r7] (st) mem Post)) := zrf rfl
theorem s_253_325 {E : yE} {n d : Nat} {mem : yMem} {Post : Option yV → yMem → Prop} {st : List yV} {r0 r1 r2 r3 r4 r5 r6 r7 : Option yV} : zvc E (n + 1) zc_253 d xm_253 325 [r0, r1, r2, r3, r4, r5, r6, r7] (st) mem Post = (zvc E n zc_253 d xm_253 326 [r0, r1, r2, r3, r4, r5, r6, r7] ((0, 1) :: st) mem Post) := zrf rfl
theorem s_253_326 {E : yE} {n d : Nat} {mem : yMem} {Post : Option yV → yMem → Prop} {st : List yV} {r0 r1 r2 r3 r4 r5 r6 r7 : Option yV} : zvc E (n + 1) zc_253 d xm_253 326 [r0, r1, r2, r3, r4, r5, r6, r7] (st) mem Post = (zvc E n zc_253 d xm_253 330 [r0, r1, r2, r3, r4, r5, r6, r7] (st) mem Post) := zrf rfl
theorem s_253_329 {E : yE} {n d : Nat} {mem : yMem} {Post : Option yV → yMem → Prop} {st : List yV} {r0 r1 r2 r3 r4 r5 r6 r7 : Option yV} : zvc E (n + 1) zc_253 d xm_253 329 [r0, r1, r2, r3, r4, r5, r6, r7] (st) mem Post = (zvc E n zc_253 d xm_253 330 [r0, r1, r2, r3, r4, r5, r6, r7] ((0, 0) :: st) mem Post) := zrf rfl
theorem s_253_330 {E : yE} {n d : Nat} {mem : yMem} {Post : Option yV → yMem → Prop} {st : List yV} {r0 r1 r2 r3 r4 r5 r6 r7 : Option yV} {a0 : Int} : zvc E (n + 1) zc_253 (d + 1) xm_253 330 [r0, r1, r2, r3, r4, r5, r6, r7] ((0, a0) :: st) mem Post = (True ∧ ysum st ≤ 8 ∧ zvc E n [] d xm_181 0 [some (0, a0)] [] mem (fun v mem' => zvk E n zc_253 (d + 1) xm_253 333 [r0, r1, r2, r3, r4, r5, r6, r7] st v mem' Post)) := zrf rfl
theorem s_253_333n {E : yE} {n d : Nat} {mem : yMem} {Post : Option yV → yMem → Prop} {st : List yV} {r0 r1 r2 r3 r4 r6 r7 : Option yV} {x : Int} : zvc E (n + 1) zc_253 d xm_253 333 [r0, r1, r2, r3, r4, none, r6, r7] ((4, x) :: st) mem Post = (zvc E n zc_253 d xm_253 335 [r0, r1, r2, r3, r4, none, some (4, x), none] (st) mem Post) := zrf rfl
theorem s_253_333i {E : yE} {n d : Nat} {mem : yMem} {Post : Option yV → yMem → Prop} {st : List yV} {r0 r1 r2 r3 r4 r6 r7 : Option yV} {x w : Int} : zvc E (n + 1) zc_253 d xm_253 333 [r0, r1, r2, r3, r4, some (0, w), r6, r7] ((4, x) :: st) mem Post = (zvc E n zc_253 d xm_253 335 [r0, r1, r2, r3, r4, some (0, w), some (4, x), none] (st) mem Post) := zrf rfl
theorem s_253_333p {E : yE} {n d : Nat} {mem : yMem} {Post : Option yV → yMem → Prop} {st : List yV} {r0 r1 r2 r3 r4 r6 r7 : Option yV} {x w : Int} : zvc E (n + 1) zc_253 d xm_253 333 [r0, r1, r2, r3, r4, some (1, w), r6, r7] ((4, x) :: st) mem Post = (zvc E n zc_253 d xm_253 335 [r0, r1, r2, r3, r4, some (1, w), some (4, x), none] (st) mem Post) := zrf rfl
theorem s_253_333l {E : yE} {n d : Nat} {mem : yMem} {Post : Option yV → yMem → Prop} {st : List yV} {r0 r1 r2 r3 r4 r6 r7 : Option yV} {x w : Int} : zvc E (n + 1) zc_253 d xm_253 333 [r0, r1, r2, r3, r4, some (4, w), r6, r7] ((4, x) :: st) mem Post = (zvc E n zc_253 d xm_253 335 [r0, r1, r2, r3, r4, none, some (4, x), none] (st) mem Post) := zrf rfl
theorem s_253_335 {E : yE} {n d : Nat} {mem : yMem} {Post : Option yV → yMem → Prop} {st : List yV} {r0 r1 r2 r3 r4 r5 r6 r7 : Option yV} : zvc E (n + 1) zc_253 d xm_253 335 [r0, r1, r2, r3, r4, r5, r6, r7] (st) mem Post = (zvc E n zc_253 d xm_253 407 [r0, r1, r2, r3, r4, r5, r6, r7] (st) mem Post) := zrf rfl
theorem s_253_338 {E : yE} {n d : Nat} {mem : yMem} {Post : Option yV → yMem → Prop} {st : List yV} {r0 r1 r2 r3 r5 r6 r7 : Option yV} {x : Int} : zvc E (n + 1) zc_253 d xm_253 338 [r0, r1, r2, r3, some (4, x), r5, r6, r7] (st) mem Post = (zvc E n zc_253 d xm_253 340 [r0, r1, r2, r3, some (4, x), r5, r6, r7] ((4, x) :: st) mem Post) := zrf rfl
theorem s_253_340 {E : yE} {n d : Nat} {mem : yMem} {Post : Option yV → yMem → Prop} {st : List yV} {r0 r1 r3 r4 r5 r6 r7 : Option yV} {x : Int} : zvc E (n + 1) zc_253 d xm_253 340 [r0, r1, some (4, x), r3, r4, r5, r6, r7] (st) mem Post = (zvc E n zc_253 d xm_253 341 [r0, r1, some (4, x), r3, r4, r5, r6, r7] ((4, x) :: st) mem Post) := zrf rfl
theorem s_253_341 {E : yE} {n d : Nat} {mem : yMem} {Post : Option yV → yMem → Prop} {st : List yV} {r0 r1 r2 r3 r4 r5 r6 r7 : Option yV} {x y : Int} : zvc E (n + 1) zc_253 d xm_253 341 [r0, r1, r2, r3, r4, r5, r6, r7] ((4, y) :: (4, x) :: st) mem Post = (zvc E n zc_253 d xm_253 342 [r0, r1, r2, r3, r4, r5, r6, r7] ((0, ycmp x y) :: st) mem Post) := zrf rfl
theorem s_253_342 {E : yE} {n d : Nat} {mem : yMem} {Post : Option yV → yMem → Prop} {st : List yV} {r0 r1 r2 r3 r4 r5 r6 r7 : Option yV} {x : Int} : zvc E (n + 1) zc_253 d xm_253 342 [r0, r1, r2, r3, r4, r5, r6, r7] ((0, x) :: st) mem Post = ((w32 x = w32 0 → zvc E n zc_253 d xm_253 349 [r0, r1, r2, r3, r4, r5, r6, r7] (st) mem Post) ∧ (¬ (w32 x = w32 0) → zvc E n zc_253 d xm_253 345 [r0, r1, r2, r3, r4, r5, r6, r7] (st) mem Post)) := zrf rfl
theorem s_253_345 {E : yE} {n d : Nat} {mem : yMem} {Post : Option yV → yMem → Prop} {st : List yV} {r0 r1 r2 r3 r4 r5 r6 r7 : Option yV} : zvc E (n + 1) zc_253 d xm_253 345 [r0, r1, r2, r3, r4, r5, r6, r7] (st) mem Post = (zvc E n zc_253 d xm_253 346 [r0, r1, r2, r3, r4, r5, r6, r7] ((0, 1) :: st) mem Post) := zrf rfl
theorem s_253_346 {E : yE} {n d : Nat} {mem : yMem} {Post : Option yV → yMem → Prop} {st : List yV} {r0 r1 r2 r3 r4 r5 r6 r7 : Option yV} : zvc E (n + 1) zc_253 d xm_253 346 [r0, r1, r2, r3, r4, r5, r6, r7] (st) mem Post = (zvc E n zc_253 d xm_253 350 [r0, r1, r2, r3, r4, r5, r6, r7] (st) mem Post) := zrf rfl
theorem s_253_349 {E : yE} {n d : Nat} {mem : yMem} {Post : Option yV → yMem → Prop} {st : List yV} {r0 r1 r2 r3 r4 r5 r6 r7 : Option yV} : zvc E (n + 1) zc_253 d xm_253 349 [r0, r1, r2, r3, r4, r5, r6, r7] (st) mem Post = (zvc E n zc_253 d xm_253 350 [r0, r1, r2, r3, r4, r5, r6, r7] ((0, 0) :: st) mem Post) := zrf rfl
theorem s_253_350 {E : yE} {n d : Nat} {mem : yMem} {Post : Option yV → yMem → Prop} {st : List yV} {r0 r1 r2 r3 r4 r5 r6 r7 : Option yV} {a0 : Int} : zvc E (n + 1) zc_253 (d + 1) xm_253 350 [r0, r1, r2, r3, r4, r5, r6, r7] ((0, a0) :: st) mem Post = (True ∧ ysum st ≤ 8 ∧ zvc E n [] d xm_181 0 [some (0, a0)] [] mem (fun v mem' => zvk E n zc_253 (d + 1) xm_253 353 [r0, r1, r2, r3, r4, r5, r6, r7] st v mem' Post)) := zrf rfl
theorem s_253_353n {E : yE} {n d : Nat} {mem : yMem} {Post : Option yV → yMem → Prop} {st : List yV} {r0 r1 r2 r3 r4 r6 r7 : Option yV} {x : Int} : zvc E (n + 1) zc_253 d xm_253 353 [r0, r1, r2, r3, r4, none, r6, r7] ((4, x) :: st) mem Post = (zvc E n zc_253 d xm_253 355 [r0, r1, r2, r3, r4, none, some (4, x), none] (st) mem Post) := zrf rfl
theorem s_253_353i {E : yE} {n d : Nat} {mem : yMem} {Post : Option yV → yMem → Prop} {st : List yV} {r0 r1 r2 r3 r4 r6 r7 : Option yV} {x w : Int} : zvc E (n + 1) zc_253 d xm_253 353 [r0, r1, r2, r3, r4, some (0, w), r6, r7] ((4, x) :: st) mem Post = (zvc E n zc_253 d xm_253 355 [r0, r1, r2, r3, r4, some (0, w), some (4, x), none] (st) mem Post) := zrf rfl
theorem s_253_353p {E : yE} {n d : Nat} {mem : yMem} {Post : Option yV → yMem → Prop} {st : List yV} {r0 r1 r2 r3 r4 r6 r7 : Option yV} {x w : Int} : zvc E (n + 1) zc_253 d xm_253 353 [r0, r1, r2, r3, r4, some (1, w), r6, r7] ((4, x) :: st) mem Post = (zvc E n zc_253 d xm_253 355 [r0, r1, r2, r3, r4, some (1, w), some (4, x), none] (st) mem Post) := zrf rfl
theorem s_253_353l {E : yE} {n d : Nat} {mem : yMem} {Post : Option yV → yMem → Prop} {st : List yV} {r0 r1 r2 r3 r4 r6 r7 : Option yV} {x w : Int} : zvc E (n + 1) zc_253 d xm_253 353 [r0, r1, r2, r3, r4, some (4, w), r6, r7] ((4, x) :: st) mem Post = (zvc E n zc_253 d xm_253 355 [r0, r1, r2, r3, r4, none, some (4, x), none] (st) mem Post) := zrf rfl
theorem s_253_355 {E : yE} {n d : Nat} {mem : yMem} {Post : Option yV → yMem → Prop} {st : List yV} {r0 r1 r2 r3 r4 r5 r6 r7 : Option yV} : zvc E (n + 1) zc_253 d xm_253 355 [r0, r1, r2, r3, r4, r5, r6, r7] (st) mem Post = (zvc E n zc_253 d xm_253 407 [r0, r1, r2, r3, r4, r5, r6, r7] (st) mem Post) := zrf rfl
theorem s_253_358 {E : yE} {n d : Nat} {mem : yMem} {Post : Option yV → yMem → Prop} {st : List yV} {r0 r1 r2 r3 r5 r6 r7 : Option yV} {x : Int} : zvc E (n + 1) zc_253 d xm_253 358 [r0, r1, r2, r3, some (4, x), r5, r6, r7] (st) mem Post = (zvc E n zc_253 d xm_253 360 [r0, r1, r2, r3, some (4, x), r5, r6, r7] ((4, x) :: st) mem Post) := zrf rfl
theorem s_253_360 {E : yE} {n d : Nat} {mem : yMem} {Post : Option yV → yMem → Prop} {st : List yV} {r0 r1 r2 r3 r4 r5 r6 r7 : Option yV} : zvc E (n + 1) zc_253 d xm_253 360 [r0, r1, r2, r3, r4, r5, r6, r7] (st) mem Post = (zvc E n zc_253 d xm_253 361 [r0, r1, r2, r3, r4, r5, r6, r7] ((4, 0) :: st) mem Post) := zrf rfl
theorem s_253_361 {E : yE} {n d : Nat} {mem : yMem} {Post : Option yV → yMem → Prop} {st : List yV} {r0 r1 r2 r3 r4 r5 r6 r7 : Option yV} {x y : Int} : zvc E (n + 1) zc_253 d xm_253 361 [r0, r1, r2, r3, r4, r5, r6, r7] ((4, y) :: (4, x) :: st) mem Post = (zvc E n zc_253 d xm_253 362 [r0, r1, r2, r3, r4, r5, r6, r7] ((0, ycmp x y) :: st) mem Post) := zrf rfl
theorem s_253_362 {E : yE} {n d : Nat} {mem : yMem} {Post : Option yV → yMem → Prop} {st : List yV} {r0 r1 r2 r3 r4 r5 r6 r7 : Option yV} {x : Int} : zvc E (n + 1) zc_253 d xm_253 362 [r0, r1, r2, r3, r4, r5, r6, r7] ((0, x) :: st) mem Post = ((w32 x = w32 0 → zvc E n zc_253 d xm_253 375 [r0, r1, r2, r3, r4, r5, r6, r7] (st) mem Post) ∧ (¬ (w32 x = w32 0) → zvc E n zc_253 d xm_253 365 [r0, r1, r2, r3, r4, r5, r6, r7] (st) mem Post)) := zrf rfl
theorem s_253_365 {E : yE} {n d : Nat} {mem : yMem} {Post : Option yV → yMem → Prop} {st : List yV} {r0 r1 r3 r4 r5 r6 r7 : Option yV} {x : Int} : zvc E (n + 1) zc_253 d xm_253 365 [r0, r1, some (4, x), r3, r4, r5, r6, r7] (st) mem Post = (zvc E n zc_253 d xm_253 366 [r0, r1, some (4, x), r3, r4, r5, r6, r7] ((4, x) :: st) mem Post) := zrf rfl
theorem s_253_366 {E : yE} {n d : Nat} {mem : yMem} {Post : Option yV → yMem → Prop} {st : List yV} {r0 r1 r2 r3 r4 r5 r6 r7 : Option yV} : zvc E (n + 1) zc_253 d xm_253 366 [r0, r1, r2, r3, r4, r5, r6, r7] (st) mem Post = (zvc E n zc_253 d xm_253 367 [r0, r1, r2, r3, r4, r5, r6, r7] ((4, 0) :: st) mem Post) := zrf rfl
theorem s_253_367 {E : yE} {n d : Nat} {mem : yMem} {Post : Option yV → yMem → Prop} {st : List yV} {r0 r1 r2 r3 r4 r5 r6 r7 : Option yV} {x y : Int} : zvc E (n + 1) zc_253 d xm_253 367 [r0, r1, r2, r3, r4, r5, r6, r7] ((4, y) :: (4, x) :: st) mem Post = (zvc E n zc_253 d xm_253 368 [r0, r1, r2, r3, r4, r5, r6, r7] ((0, ycmp x y) :: st) mem Post) := zrf rfl
theorem s_253_368 {E : yE} {n d : Nat} {mem : yMem} {Post : Option yV → yMem → Prop} {st : List yV} {r0 r1 r2 r3 r4 r5 r6 r7 : Option yV} {x : Int} : zvc E (n + 1) zc_253 d xm_253 368 [r0, r1, r2, r3, r4, r5, r6, r7] ((0, x) :: st) mem Post = ((w32 x = w32 0 → zvc E n zc_253 d xm_253 375 [r0, r1, r2, r3, r4, r5, r6, r7] (st) mem Post) ∧ (¬ (w32 x = w32 0) → zvc E n zc_253 d xm_253 371 [r0, r1, r2, r3, r4, r5, r6, r7] (st) mem Post)) := zrf rfl
theorem s_253_371 {E : yE} {n d : Nat} {mem : yMem} {Post : Option yV → yMem → Prop} {st : List yV} {r0 r1 r2 r3 r4 r5 r6 r7 : Option yV} : zvc E (n + 1) zc_253 d xm_253 371 [r0, r1, r2, r3, r4, r5, r6, r7] (st) mem Post = (zvc E n zc_253 d xm_253 372 [r0, r1, r2, r3, r4, r5, r6, r7] ((0, 1) :: st) mem Post) := zrf rfl
theorem s_253_372 {E : yE} {n d : Nat} {mem : yMem} {Post : Option yV → yMem → Prop} {st : List yV} {r0 r1 r2 r3 r4 r5 r6 r7 : Option yV} : zvc E (n + 1) zc_253 d xm_253 372 [r0, r1, r2, r3, r4, r5, r6, r7] (st) mem Post = (zvc E n zc_253 d xm_253 376 [r0, r1, r2, r3, r4, r5, r6, r7] (st) mem Post) := zrf rfl
theorem s_253_375 {E : yE} {n d : Nat} {mem : yMem} {Post : Option yV → yMem → Prop} {st : List yV} {r0 r1 r2 r3 r4 r5 r6 r7 : Option yV} : zvc E (n + 1) zc_253 d xm_253 375 [r0, r1, r2, r3, r4, r5, r6, r7] (st) mem Post = (zvc E n zc_253 d xm_253 376 [r0, r1, r2, r3, r4, r5, r6, r7] ((0, 0) :: st) mem Post) := zrf rfl
theorem s_253_376 {E : yE} {n d : Nat} {mem : yMem} {Post : Option yV → yMem → Prop} {st : List yV} {r0 r1 r2 r3 r4 r5 r6 r7 : Option yV} {a0 : Int} : zvc E (n + 1) zc_253 (d + 1) xm_253 376 [r0, r1, r2, r3, r4, r5, r6, r7] ((0, a0) :: st) mem Post = (True ∧ ysum st ≤ 8 ∧ zvc E n [] d xm_181 0 [some (0, a0)] [] mem (fun v mem' => zvk E n zc_253 (d + 1) xm_253 379 [r0, r1, r2, r3, r4, r5, r6, r7] st v mem' Post)) := zrf rfl
theorem s_253_379n {E : yE} {n d : Nat} {mem : yMem} {Post : Option yV → yMem → Prop} {st : List yV} {r0 r1 r2 r3 r4 r6 r7 : Option yV} {x : Int} : zvc E (n + 1) zc_253 d xm_253 379 [r0, r1, r2, r3, r4, none, r6, r7] ((4, x) :: st) mem Post = (zvc E n zc_253 d xm_253 381 [r0, r1, r2, r3, r4, none, some (4, x), none] (st) mem Post) := zrf rfl
theorem s_253_379i {E : yE} {n d : Nat} {mem : yMem} {Post : Option yV → yMem → Prop} {st : List yV} {r0 r1 r2 r3 r4 r6 r7 : Option yV} {x w : Int} : zvc E (n + 1) zc_253 d xm_253 379 [r0, r1, r2, r3, r4, some (0, w), r6, r7] ((4, x) :: st) mem Post = (zvc E n zc_253 d xm_253 381 [r0, r1, r2, r3, r4, some (0, w), some (4, x), none] (st) mem Post) := zrf rfl
theorem s_253_379p {E : yE} {n d : Nat} {mem : yMem} {Post : Option yV → yMem → Prop} {st : List yV} {r0 r1 r2 r3 r4 r6 r7 : Option yV} {x w : Int} : zvc E (n + 1) zc_253 d xm_253 379 [r0, r1, r2, r3, r4, some (1, w), r6, r7] ((4, x) :: st) mem Post = (zvc E n zc_253 d xm_253 381 [r0, r1, r2, r3, r4, some (1, w), some (4, x), none] (st) mem Post) := zrf rfl
theorem s_253_379l {E : yE} {n d : Nat} {mem : yMem} {Post : Option yV → yMem → Prop} {st : List yV} {r0 r1 r2 r3 r4 r6 r7 : Option yV} {x w : Int} : zvc E (n + 1) zc_253 d xm_253 379 [r0, r1, r2, r3, r4, some (4, w), r6, r7] ((4, x) :: st) mem Post = (zvc E n zc_253 d xm_253 381 [r0, r1, r2, r3, r4, none, some (4, x), none] (st) mem Post) := zrf rfl
theorem s_253_381 {E : yE} {n d : Nat} {mem : yMem} {Post : Option yV → yMem → Prop} {st : List yV} {r0 r1 r2 r3 r4 r5 r6 r7 : Option yV} : zvc E (n + 1) zc_253 d xm_253 381 [r0, r1, r2, r3, r4, r5, r6, r7] (st) mem Post = (zvc E n zc_253 d xm_253 407 [r0, r1, r2, r3, r4, r5, r6, r7] (st) mem Post) := zrf rfl
theorem s_253_384 {E : yE} {n d : Nat} {mem : yMem} {Post : Option yV → yMem → Prop} {st : List yV} {r0 r1 r2 r3 r5 r6 r7 : Option yV} {x : Int} : zvc E (n + 1) zc_253 d xm_253 384 [r0, r1, r2, r3, some (4, x), r5, r6, r7] (st) mem Post = (zvc E n zc_253 d xm_253 386 [r0, r1, r2, r3, some (4, x), r5, r6, r7] ((4, x) :: st) mem Post) := zrf rfl
theorem s_253_386 {E : yE} {n d : Nat} {mem : yMem} {Post : Option yV → yMem → Prop} {st : List yV} {r0 r1 r2 r3 r4 r5 r6 r7 : Option yV} : zvc E (n + 1) zc_253 d xm_253 386 [r0, r1, r2, r3, r4, r5, r6, r7] (st) mem Post = (zvc E n zc_253 d xm_253 387 [r0, r1, r2, r3, r4, r5, r6, r7] ((4, 0) :: st) mem Post) := zrf rfl
theorem s_253_387 {E : yE} {n d : Nat} {mem : yMem} {Post : Option yV → yMem → Prop} {st : List yV} {r0 r1 r2 r3 r4 r5 r6 r7 : Option yV} {x y : Int} : zvc E (n + 1) zc_253 d xm_253 387 [r0, r1, r2, r3, r4, r5, r6, r7] ((4, y) :: (4, x) :: st) mem Post = (zvc E n zc_253 d xm_253 388 [r0, r1, r2, r3, r4, r5, r6, r7] ((0, ycmp x y) :: st) mem Post) := zrf rfl
theorem s_253_388 {E : yE} {n d : Nat} {mem : yMem} {Post : Option yV → yMem → Prop} {st : List yV} {r0 r1 r2 r3 r4 r5 r6 r7 : Option yV} {x : Int} : zvc E (n + 1) zc_253 d xm_253 388 [r0, r1, r2, r3, r4, r5, r6, r7] ((0, x) :: st) mem Post = ((¬ w32 x = w32 0 → zvc E n zc_253 d xm_253 397 [r0, r1, r2, r3, r4, r5, r6, r7] (st) mem Post) ∧ (¬ (¬ w32 x = w32 0) → zvc E n zc_253 d xm_253 391 [r0, r1, r2, r3, r4, r5, r6, r7] (st) mem Post)) := zrf rfl
theorem s_253_391 {E : yE} {n d : Nat} {mem : yMem} {Post : Option yV → yMem → Prop} {st : List yV} {r0 r1 r3 r4 r5 r6 r7 : Option yV} {x : Int} : zvc E (n + 1) zc_253 d xm_253 391 [r0, r1, some (4, x), r3, r4, r5, r6, r7] (st) mem Post = (zvc E n zc_253 d xm_253 392 [r0, r1, some (4, x), r3, r4, r5, r6, r7] ((4, x) :: st) mem Post) := zrf rfl
theorem s_253_392 {E : yE} {n d : Nat} {mem : yMem} {Post : Option yV → yMem → Prop} {st : List yV} {r0 r1 r2 r3 r4 r5 r6 r7 : Option yV} : zvc E (n + 1) zc_253 d xm_253 392 [r0, r1, r2, r3, r4, r5, r6, r7] (st) mem Post = (zvc E n zc_253 d xm_253 393 [r0, r1, r2, r3, r4, r5, r6, r7] ((4, 0) :: st) mem Post) := zrf rfl
theorem s_253_393 {E : yE} {n d : Nat} {mem : yMem} {Post : Option yV → yMem → Prop} {st : List yV} {r0 r1 r2 r3 r4 r5 r6 r7 : Option yV} {x y : Int} : zvc E (n + 1) zc_253 d xm_253 393 [r0, r1, r2, r3, r4, r5, r6, r7] ((4, y) :: (4, x) :: st) mem Post = (zvc E n zc_253 d xm_253 394 [r0, r1, r2, r3, r4, r5, r6, r7] ((0, ycmp x y) :: st) mem Post) := zrf rfl
theorem s_253_394 {E : yE} {n d : Nat} {mem : yMem} {Post : Option yV → yMem → Prop} {st : List yV} {r0 r1 r2 r3 r4 r5 r6 r7 : Option yV} {x : Int} : zvc E (n + 1) zc_253 d xm_253 394 [r0, r1, r2, r3, r4, r5, r6, r7] ((0, x) :: st) mem Post = ((w32 x = w32 0 → zvc E n zc_253 d xm_253 401 [r0, r1, r2, r3, r4, r5, r6, r7] (st) mem Post) ∧ (¬ (w32 x = w32 0) → zvc E n zc_253 d xm_253 397 [r0, r1, r2, r3, r4, r5, r6, r7] (st) mem Post)) := zrf rfl
theorem s_253_397 {E : yE} {n d : Nat} {mem : yMem} {Post : Option yV → yMem → Prop} {st : List yV} {r0 r1 r2 r3 r4 r5 r6 r7 : Option yV} : zvc E (n + 1) zc_253 d xm_253 397 [r0, r1, r2, r3, r4, r5, r6, r7] (st) mem Post = (zvc E n zc_253 d xm_253 398 [r0, r1, r2, r3, r4, r5, r6, r7] ((0, 1) :: st) mem Post) := zrf rfl
theorem s_253_398 {E : yE} {n d : Nat} {mem : yMem} {Post : Option yV → yMem → Prop} {st : List yV} {r0 r1 r2 r3 r4 r5 r6 r7 : Option yV} : zvc E (n + 1) zc_253 d xm_253 398 [r0, r1, r2, r3, r4, r5, r6, r7] (st) mem Post = (zvc E n zc_253 d xm_253 402 [r0, r1, r2, r3, r4, r5, r6, r7] (st) mem Post) := zrf rfl
theorem s_253_401 {E : yE} {n d : Nat} {mem : yMem} {Post : Option yV → yMem → Prop} {st : List yV} {r0 r1 r2 r3 r4 r5 r6 r7 : Option yV} : zvc E (n + 1) zc_253 d xm_253 401 [r0, r1, r2, r3, r4, r5, r6, r7] (st) mem Post = (zvc E n zc_253 d xm_253 402 [r0, r1, r2, r3, r4, r5, r6, r7] ((0, 0) :: st) mem Post) := zrf rfl
theorem s_253_402 {E : yE} {n d : Nat} {mem : yMem} {Post : Option yV → yMem → Prop} {st : List yV} {r0 r1 r2 r3 r4 r5 r6 r7 : Option yV} {a0 : Int} : zvc E (n + 1) zc_253 (d + 1) xm_253 402 [r0, r1, r2, r3, r4, r5, r6, r7] ((0, a0) :: st) mem Post = (True ∧ ysum st ≤ 8 ∧ zvc E n [] d xm_181 0 [some (0, a0)] [] mem (fun v mem' => zvk E n zc_253 (d + 1) xm_253 405 [r0, r1, r2, r3, r4, r5, r6, r7] st v mem' Post)) := zrf rfl
theorem s_253_405n {E : yE} {n d : Nat} {mem : yMem} {Post : Option yV → yMem → Prop} {st : List yV} {r0 r1 r2 r3 r4 r6 r7 : Option yV} {x : Int} : zvc E (n + 1) zc_253 d xm_253 405 [r0, r1, r2, r3, r4, none, r6, r7] ((4, x) :: st) mem Post = (zvc E n zc_253 d xm_253 407 [r0, r1, r2, r3, r4, none, some (4, x), none] (st) mem Post) := zrf rfl
theorem s_253_405i {E : yE} {n d : Nat} {mem : yMem} {Post : Option yV → yMem → Prop} {st : List yV} {r0 r1 r2 r3 r4 r6 r7 : Option yV} {x w : Int} : zvc E (n + 1) zc_253 d xm_253 405 [r0, r1, r2, r3, r4, some (0, w), r6, r7] ((4, x) :: st) mem Post = (zvc E n zc_253 d xm_253 407 [r0, r1, r2, r3, r4, some (0, w), some (4, x), none] (st) mem Post) := zrf rfl
theorem s_253_405p {E : yE} {n d : Nat} {mem : yMem} {Post : Option yV → yMem → Prop} {st : List yV} {r0 r1 r2 r3 r4 r6 r7 : Option yV} {x w : Int} : zvc E (n + 1) zc_253 d xm_253 405 [r0, r1, r2, r3, r4, some (1, w), r6, r7] ((4, x) :: st) mem Post = (zvc E n zc_253 d xm_253 407 [r0, r1, r2, r3, r4, some (1, w), some (4, x), none] (st) mem Post) := zrf rfl
theorem s_253_405l {E : yE} {n d : Nat} {mem : yMem} {Post : Option yV → yMem → Prop} {st : List yV} {r0 r1 r2 r3 r4 r6 r7 : Option yV} {x w : Int} : zvc E (n + 1) zc_253 d xm_253 405 [r0, r1, r2, r3, r4, some (4, w), r6, r7] ((4, x) :: st) mem Post = (zvc E n zc_253 d xm_253 407 [r0, r1, r2, r3, r4, none, some (4, x), none] (st) mem Post) := zrf rfl
theorem g_253_407 {E : yE} {n d : Nat} {mem : yMem} {Post : Option yV → yMem → Prop} {st : List yV} {r1 r2 r3 r4 r5 r6 r7 : Option yV} {x : Int} : zgo E n zc_253 d xm_253 407 [some (1, x), r1, r2, r3, r4, r5, r6, r7] (st) mem Post = (zvc E n zc_253 d xm_253 408 [some (1, x), r1, r2, r3, r4, r5, r6, r7] ((1, x) :: st) mem Post) := zrf rfl
theorem k_253_407 {E : yE} {n d : Nat} {mem : yMem} {Post : Option yV → yMem → Prop} {st : List yV} {rg : zR} : zvc E (n + 1) zc_253 d xm_253 407 rg st mem Post = zG E d xm_253 407 rg st mem Post := zrf rfl
theorem s_253_408 {E : yE} {n d : Nat} {mem : yMem} {Post : Option yV → yMem → Prop} {st : List yV} {r0 r1 r2 r3 r4 r5 r6 r7 : Option yV} : zvc E (n + 1) zc_253 d xm_253 408 [r0, r1, r2, r3, r4, r5, r6, r7] ((1, 95) :: st) mem Post = (zvc E n zc_253 d xm_253 411 [r0, r1, r2, r3, r4, r5, r6, r7] ((1, 131) :: st) mem Post) := zrf rfl
theorem s_253_411 {E : yE} {n d : Nat} {mem : yMem} {Post : Option yV → yMem → Prop} {st : List yV} {r1 r2 r3 r4 r5 r6 r7 : Option yV} {x : Int} : zvc E (n + 1) zc_253 d xm_253 411 [some (1, x), r1, r2, r3, r4, r5, r6, r7] (st) mem Post = (zvc E n zc_253 d xm_253 412 [some (1, x), r1, r2, r3, r4, r5, r6, r7] ((1, x) :: st) mem Post) := zrf rfl
theorem s_253_412 {E : yE} {n d : Nat} {mem : yMem} {Post : Option yV → yMem → Prop} {st : List yV} {r0 r1 r2 r3 r4 r5 r6 r7 : Option yV} : zvc E (n + 1) zc_253 d xm_253 412 [r0, r1, r2, r3, r4, r5, r6, r7] ((1, 95) :: st) mem Post = (zvc E n zc_253 d xm_253 415 [r0, r1, r2, r3, r4, r5, r6, r7] ((0, mem 95 52) :: st) mem Post) := zrf rfl
theorem s_253_415 {E : yE} {n d : Nat} {mem : yMem} {Post : Option yV → yMem → Prop} {st : List yV} {r0 r1 r2 r3 r4 r5 r6 r7 : Option yV} : zvc E (n + 1) zc_253 d xm_253 415 [r0, r1, r2, r3, r4, r5, r6, r7] (st) mem Post = (zvc E n zc_253 d xm_253 416 [r0, r1, r2, r3, r4, r5, r6, r7] ((0, 1) :: st) mem Post) := zrf rfl
theorem s_253_416 {E : yE} {n d : Nat} {mem : yMem} {Post : Option yV → yMem → Prop} {st : List yV} {r0 r1 r2 r3 r4 r5 r6 r7 : Option yV} {x y : Int} : zvc E (n + 1) zc_253 d xm_253 416 [r0, r1, r2, r3, r4, r5, r6, r7] ((0, y) :: (0, x) :: st) mem Post = (zvc E n zc_253 d xm_253 417 [r0, r1, r2, r3, r4, r5, r6, r7] ((0, x - y) :: st) mem Post) := zrf rfl
theorem s_253_417 {E : yE} {n d : Nat} {mem : yMem} {Post : Option yV → yMem → Prop} {st : List yV} {r0 r1 r2 r3 r4 r5 r7 : Option yV} {x : Int} : zvc E (n + 1) zc_253 d xm_253 417 [r0, r1, r2, r3, r4, r5, some (4, x), r7] (st) mem Post = (zvc E n zc_253 d xm_253 419 [r0, r1, r2, r3, r4, r5, some (4, x), r7] ((4, x) :: st) mem Post) := zrf rfl
theorem s_253_419 {E : yE} {n d : Nat} {mem : yMem} {Post : Option yV → yMem → Prop} {st : List yV} {r0 r1 r2 r3 r4 r5 r6 r7 : Option yV} {x z j : Int} : zvc E (n + 1) zc_253 d xm_253 419 [r0, r1, r2, r3, r4, r5, r6, r7] ((4, x) :: (0, j) :: (1, z) :: st) mem Post = ((0 ≤ w32 j ∧ w32 j < ((zar z 2 : Nat) : Int)) ∧ zvc E n zc_253 d xm_253 420 [r0, r1, r2, r3, r4, r5, r6, r7] (st) (yset mem z.toNat (w32 j).toNat x) Post) := zrf rfl
theorem s_253_420 {E : yE} {n d : Nat} {mem : yMem} {Post : Option yV → yMem → Prop} {st : List yV} {r0 r1 r2 r3 r4 r5 r7 : Option yV} {x : Int} : zvc E (n + 1) zc_253 d xm_253 420 [r0, r1, r2, r3, r4, r5, some (4, x), r7] (st) mem Post = (zvc E n zc_253 d xm_253 422 [r0, r1, r2, r3, r4, r5, some (4, x), r7] ((4, x) :: st) mem Post) := zrf rfl
theorem s_253_422 {E : yE} {n d : Nat} {mem : yMem} {Post : Option yV → yMem → Prop} {st : List yV} {r0 r1 r2 r3 r4 r5 r6 r7 : Option yV} : zvc E (n + 1) zc_253 d xm_253 422 [r0, r1, r2, r3, r4, r5, r6, r7] (st) mem Post = (zvc E n zc_253 d xm_253 425 [r0, r1, r2, r3, r4, r5, r6, r7] ((4, 1000000000000) :: st) mem Post) := zrf rfl
theorem s_253_425 {E : yE} {n d : Nat} {mem : yMem} {Post : Option yV → yMem → Prop} {st : List yV} {r0 r1 r2 r3 r4 r5 r6 r7 : Option yV} {x y : Int} : zvc E (n + 1) zc_253 d xm_253 425 [r0, r1, r2, r3, r4, r5, r6, r7] ((4, y) :: (4, x) :: st) mem Post = (zvc E n zc_253 d xm_253 426 [r0, r1, r2, r3, r4, r5, r6, r7] ((0, ycmp x y) :: st) mem Post) := zrf rfl
theorem s_253_426 {E : yE} {n d : Nat} {mem : yMem} {Post : Option yV → yMem → Prop} {st : List yV} {r0 r1 r2 r3 r4 r5 r6 r7 : Option yV} {x : Int} : zvc E (n + 1) zc_253 d xm_253 426 [r0, r1, r2, r3, r4, r5, r6, r7] ((0, x) :: st) mem Post = ((w32 0 < w32 x → zvc E n zc_253 d xm_253 442 [r0, r1, r2, r3, r4, r5, r6, r7] (st) mem Post) ∧ (¬ (w32 0 < w32 x) → zvc E n zc_253 d xm_253 429 [r0, r1, r2, r3, r4, r5, r6, r7] (st) mem Post)) := zrf rfl
theorem s_253_429 {E : yE} {n d : Nat} {mem : yMem} {Post : Option yV → yMem → Prop} {st : List yV} {r0 r1 r2 r3 r4 r5 r7 : Option yV} {x : Int} : zvc E (n + 1) zc_253 d xm_253 429 [r0, r1, r2, r3, r4, r5, some (4, x), r7] (st) mem Post = (zvc E n zc_253 d xm_253 431 [r0, r1, r2, r3, r4, r5, some (4, x), r7] ((4, x) :: st) mem Post) := zrf rfl
theorem s_253_431 {E : yE} {n d : Nat} {mem : yMem} {Post : Option yV → yMem → Prop} {st : List yV} {r0 r1 r2 r3 r4 r5 r6 r7 : Option yV} : zvc E (n + 1) zc_253 d xm_253 431 [r0, r1, r2, r3, r4, r5, r6, r7] (st) mem Post = (zvc E n zc_253 d xm_253 434 [r0, r1, r2, r3, r4, r5, r6, r7] ((4, (-1000000000000)) :: st) mem Post) := zrf rfl
theorem s_253_434 {E : yE} {n d : Nat} {mem : yMem} {Post : Option yV → yMem → Prop} {st : List yV} {r0 r1 r2 r3 r4 r5 r6 r7 : Option yV} {x y : Int} : zvc E (n + 1) zc_253 d xm_253 434 [r0, r1, r2, r3, r4, r5, r6, r7] ((4, y) :: (4, x) :: st) mem Post = (zvc E n zc_253 d xm_253 435 [r0, r1, r2, r3, r4, r5, r6, r7] ((0, ycmp x y) :: st) mem Post) := zrf rfl
theorem s_253_435 {E : yE} {n d : Nat} {mem : yMem} {Post : Option yV → yMem → Prop} {st : List yV} {r0 r1 r2 r3 r4 r5 r6 r7 : Option yV} {x : Int} : zvc E (n + 1) zc_253 d xm_253 435 [r0, r1, r2, r3, r4, r5, r6, r7] ((0, x) :: st) mem Post = ((w32 x < w32 0 → zvc E n zc_253 d xm_253 442 [r0, r1, r2, r3, r4, r5, r6, r7] (st) mem Post) ∧ (¬ (w32 x < w32 0) → zvc E n zc_253 d xm_253 438 [r0, r1, r2, r3, r4, r5, r6, r7] (st) mem Post)) := zrf rfl
theorem s_253_438 {E : yE} {n d : Nat} {mem : yMem} {Post : Option yV → yMem → Prop} {st : List yV} {r0 r1 r2 r3 r4 r5 r6 r7 : Option yV} : zvc E (n + 1) zc_253 d xm_253 438 [r0, r1, r2, r3, r4, r5, r6, r7] (st) mem Post = (zvc E n zc_253 d xm_253 439 [r0, r1, r2, r3, r4, r5, r6, r7] ((0, 1) :: st) mem Post) := zrf rfl
theorem s_253_439 {E : yE} {n d : Nat} {mem : yMem} {Post : Option yV → yMem → Prop} {st : List yV} {r0 r1 r2 r3 r4 r5 r6 r7 : Option yV} : zvc E (n + 1) zc_253 d xm_253 439 [r0, r1, r2, r3, r4, r5, r6, r7] (st) mem Post = (zvc E n zc_253 d xm_253 443 [r0, r1, r2, r3, r4, r5, r6, r7] (st) mem Post) := zrf rfl
theorem s_253_442 {E : yE} {n d : Nat} {mem : yMem} {Post : Option yV → yMem → Prop} {st : List yV} {r0 r1 r2 r3 r4 r5 r6 r7 : Option yV} : zvc E (n + 1) zc_253 d xm_253 442 [r0, r1, r2, r3, r4, r5, r6, r7] (st) mem Post = (zvc E n zc_253 d xm_253 443 [r0, r1, r2, r3, r4, r5, r6, r7] ((0, 0) :: st) mem Post) := zrf rfl
theorem s_253_443 {E : yE} {n d : Nat} {mem : yMem} {Post : Option yV → yMem → Prop} {r0 r1 r2 r3 r4 r5 r6 r7 : Option yV} {x : Int} : zvc E (n + 1) zc_253 d xm_253 443 [r0, r1, r2, r3, r4, r5, r6, r7] ([(0, x)]) mem Post = ((w32 x = 0 ∨ w32 x = 1) ∧ Post (some (0, x)) mem) := zrf rfl
theorem e_253 {E : yE} {d : Nat} {mem : yMem} {Q : Option yV → yMem → Prop} {z a0 : Int} (h : zG E d xm_253 0 [some (1, z), some (0, a0), none, none, none, none, none, none] [] mem Q) : yCon E (d + 1) xm_253 [(1, z), (0, a0)] mem Q := zcon_of xmo_253 (Nat.le_of_ble_eq_true rfl) h

theorem aFrm_set {w : List (Nat × Nat)} {mem mem' : yMem} (h : aFrm w mem mem') {i j : Nat} {x : Int} (hm : amod w i j = true) : aFrm w mem (yset mem' i j x) := by
  intro a b hab
  unfold yset
  split
  · next e =>
    subst e
    split
    · next e => subst e; rw [hm] at hab; cases hab
    · exact h a b hab
  · exact h a b hab
theorem aFrm_rf {w : List (Nat × Nat)} {mem : yMem} : aFrm w mem mem := fun _ _ _ => rfl
theorem w64_ng {x : Int} (h : ¬ w64 x = 0) : ¬ w64 (-x) = 0 := by
  intro e
  apply h
  have : lI (-x) = 0 := Int64.toInt_inj.mp e
  rw [show lI (-x) = -lI x from Int64.ofInt_neg x] at this
  have e2 : lI x = 0 := by
    rw [show lI x = -(-lI x) from Int64.neg_neg.symm, this]
    decide
  show (lI x).toInt = 0
  rw [e2]; rfl
theorem ycmp_n {x y : Int} (h : ¬ w32 (ycmp x y) = 0) : ¬ w64 x = w64 y := by
  intro e
  apply h
  unfold ycmp
  rw [e]
  simp only [Int.lt_irrefl, if_false, if_true]
  decide
/-- the end of works -/
theorem works_end {E : yE} (hE : yEok E) {d : Nat} {mem : yMem} {Q : Option yV → yMem → Prop} {v : Int} {r1 r2 r3 r4 r5 r7 : Option yV} (h1 : 1 ≤ w32 (mem 95 52)) (h3 : w32 (mem 95 52) ≤ 64) (hQ : ∀ x mem', x = 0 ∨ x = 1 → aFrm [(131, 0)] mem mem' → Q (some (0, x)) mem') : zG E d xm_253 407 [some (1, 95), r1, r2, r3, r4, r5, some (4, v), r7] [] mem Q := by
  refine zgo_ok (n := 60) hE xmo_253 (cs := zc_253) ?_
  have e1 : w32 (mem 95 52 - 1) = w32 (mem 95 52) - 1 := by rw [w32_sb (by rw [w32c_1]; (first | exact Nat.le_of_ble_eq_true rfl | exact (fun h => absurd h.1 (by decide)) | omega)) (by rw [w32c_1]; (first | exact Nat.le_of_ble_eq_true rfl | exact (fun h => absurd h.1 (by decide)) | omega)), w32c_1]
  simp only [ynok_30, ynok_31, w32c_0, w32c_1, w32c_2, w32c_3, w32c_4, w32c_5, w32c_6, w32c_7, w32c_8, w32c_9, w32c_10, w32c_11, w32c_12, w32c_13, w32c_14, w32c_m1, w32c_m2, w32c_118, Int.reduceAdd, Int.reduceSub, Int.reduceMul, yput_s, yput_n, znl_n, znl_0, znl_1, znl_4, ysum_n, ysum_0, ysum_1, ysum_4, true_and, and_true, Nat.reduceAdd, Nat.reduceLeDiff, true_implies, eq_self, true_or, or_true, or_false, false_or, not_true_eq_false, not_false_eq_true, false_implies, implies_true, yset_s, yset_o, yset_d, ne_eq, Nat.reduceEqDiff, Int.reduceToNat, Int.reduceEq, Int.reduceLE, Int.reduceLT, Classical.not_not, Nat.reduceLT, ↓zvk_s, ↓zvk_n, ↓s_253_0, ↓s_253_1, ↓s_253_4, ↓s_253_5, ↓s_253_8, ↓s_253_9, ↓s_253_10, ↓s_253_11n, ↓s_253_11i, ↓s_253_11p, ↓s_253_11l, ↓s_253_12, ↓s_253_13, ↓s_253_16, ↓s_253_19, ↓s_253_20, ↓s_253_23, ↓s_253_24, ↓s_253_27, ↓s_253_28, ↓s_253_29, ↓s_253_30, ↓s_253_31, ↓s_253_32, ↓s_253_35, ↓s_253_36, ↓s_253_39, ↓s_253_40, ↓s_253_43, ↓s_253_44, ↓s_253_45, ↓s_253_46, ↓s_253_47, ↓s_253_50, ↓s_253_51, ↓s_253_54, ↓s_253_55, ↓s_253_56, ↓s_253_57n, ↓s_253_57i, ↓s_253_57p, ↓s_253_57l, ↓s_253_59, ↓s_253_60a, ↓s_253_60b, ↓s_253_61, ↓s_253_64, ↓s_253_65, ↓s_253_66, ↓s_253_69, ↓s_253_70, ↓s_253_168, ↓s_253_170, ↓s_253_171, ↓s_253_172n, ↓s_253_172i, ↓s_253_172p, ↓s_253_172l, ↓s_253_174, ↓s_253_177, ↓s_253_179, ↓s_253_180, ↓s_253_181n, ↓s_253_181i, ↓s_253_181p, ↓s_253_181l, ↓s_253_183, ↓s_253_186, ↓s_253_188, ↓s_253_189, ↓s_253_190, ↓s_253_193, ↓s_253_194, ↓s_253_197, ↓s_253_200, ↓s_253_202, ↓s_253_205, ↓s_253_206, ↓s_253_207, ↓s_253_210, ↓s_253_211, ↓s_253_212, ↓s_253_214, ↓s_253_215, ↓s_253_216n, ↓s_253_216i, ↓s_253_216p, ↓s_253_216l, ↓s_253_218, ↓s_253_221, ↓s_253_222, ↓s_253_223, ↓s_253_224, ↓s_253_227, ↓s_253_228, ↓s_253_229, ↓s_253_231, ↓s_253_232, ↓s_253_233n, ↓s_253_233i, ↓s_253_233p, ↓s_253_233l, ↓s_253_235, ↓s_253_238, ↓s_253_240, ↓s_253_241, ↓s_253_242, ↓s_253_245, ↓s_253_246, ↓s_253_249, ↓s_253_250, ↓s_253_253n, ↓s_253_253i, ↓s_253_253p, ↓s_253_253l, ↓s_253_255, ↓s_253_258, ↓s_253_260, ↓s_253_261, ↓s_253_262, ↓s_253_265, ↓s_253_266, ↓s_253_269, ↓s_253_270, ↓s_253_273n, ↓s_253_273i, ↓s_253_273p, ↓s_253_273l, ↓s_253_275, ↓s_253_278, ↓s_253_280, ↓s_253_281, ↓s_253_282, ↓s_253_285, ↓s_253_286, ↓s_253_289, ↓s_253_290, ↓s_253_293n, ↓s_253_293i, ↓s_253_293p, ↓s_253_293l, ↓s_253_295, ↓s_253_298, ↓s_253_300, ↓s_253_301, ↓s_253_302, ↓s_253_305, ↓s_253_306, ↓s_253_309, ↓s_253_310, ↓s_253_313n, ↓s_253_313i, ↓s_253_313p, ↓s_253_313l, ↓s_253_315, ↓s_253_318, ↓s_253_320, ↓s_253_321, ↓s_253_322, ↓s_253_325, ↓s_253_326, ↓s_253_329, ↓s_253_330, ↓s_253_333n, ↓s_253_333i, ↓s_253_333p, ↓s_253_333l, ↓s_253_335, ↓s_253_338, ↓s_253_340, ↓s_253_341, ↓s_253_342, ↓s_253_345, ↓s_253_346, ↓s_253_349, ↓s_253_350, ↓s_253_353n, ↓s_253_353i, ↓s_253_353p, ↓s_253_353l, ↓s_253_355, ↓s_253_358, ↓s_253_360, ↓s_253_361, ↓s_253_362, ↓s_253_365, ↓s_253_366, ↓s_253_367, ↓s_253_368, ↓s_253_371, ↓s_253_372, ↓s_253_375, ↓s_253_376, ↓s_253_379n, ↓s_253_379i, ↓s_253_379p, ↓s_253_379l, ↓s_253_381, ↓s_253_384, ↓s_253_386, ↓s_253_387, ↓s_253_388, ↓s_253_391, ↓s_253_392, ↓s_253_393, ↓s_253_394, ↓s_253_397, ↓s_253_398, ↓s_253_401, ↓s_253_402, ↓s_253_405n, ↓s_253_405i, ↓s_253_405p, ↓s_253_405l, ↓g_253_407, ↓k_253_407, ↓s_253_408, ↓s_253_411, ↓s_253_412, ↓s_253_415, ↓s_253_416, ↓s_253_417, ↓s_253_419, ↓s_253_420, ↓s_253_422, ↓s_253_425, ↓s_253_426, ↓s_253_429, ↓s_253_431, ↓s_253_434, ↓s_253_435, ↓s_253_438, ↓s_253_439, ↓s_253_442, ↓s_253_443, w32c_260, zar_131, zia_131, zln_131, zit_131, zio_95]
  have hf : aFrm [(131, 0)] mem (yset mem 131 (w32 (mem 95 52 - 1)).toNat v) := aFrm_set aFrm_rf rfl
  refine ⟨⟨by (first | exact Nat.le_of_ble_eq_true rfl | exact (fun h => absurd h.1 (by decide)) | omega), by rw [e1]; (first | exact Nat.le_of_ble_eq_true rfl | exact (fun h => absurd h.1 (by decide)) | omega)⟩, fun _ => hQ 0 _ (Or.inl rfl) hf, fun _ => ⟨fun _ => hQ 0 _ (Or.inl rfl) hf, fun _ => hQ 1 _ (Or.inr rfl) hf⟩⟩
set_option maxRecDepth 10000 in
theorem c_works {E : yE} (hE : yEok E) {D : Nat} (hD : 2 ≤ D) {mem : yMem} {Q : Option yV → yMem → Prop} {s : Int} (h1 : w32 s = 260 → 1 ≤ w32 (mem 95 52)) (h2 : ¬ w32 s = 260 → 2 ≤ w32 (mem 95 52)) (h3 : w32 (mem 95 52) ≤ 64) (hQ : ∀ x mem', x = 0 ∨ x = 1 → aFrm [(95, 53), (131, 0)] mem mem' → w32 (mem' 95 52) = (if w32 s = 260 then w32 (mem 95 52) else w32 (mem 95 52) - 1) → Q (some (0, x)) mem') : yCon E D xm_253 [(1, 95), (0, s)] mem Q := by
  obtain ⟨d, rfl⟩ := Nat.exists_eq_add_of_le' hD
  refine e_253 ?_
  refine zvc_ok hE 200 zc_253 _ _ _ _ _ _ _ xmo_253 ?_
  have hb : 1 ≤ w32 (mem 95 52) := by
    by_cases e : w32 s = 260
    · exact h1 e
    · have := h2 e; (first | exact Nat.le_of_ble_eq_true rfl | exact (fun h => absurd h.1 (by decide)) | omega)
  have e1 : w32 (mem 95 52 - 1) = w32 (mem 95 52) - 1 := by rw [w32_sb (by rw [w32c_1]; (first | exact Nat.le_of_ble_eq_true rfl | exact (fun h => absurd h.1 (by decide)) | omega)) (by rw [w32c_1]; (first | exact Nat.le_of_ble_eq_true rfl | exact (fun h => absurd h.1 (by decide)) | omega)), w32c_1]
  simp only [ynok_30, ynok_31, w32c_0, w32c_1, w32c_2, w32c_3, w32c_4, w32c_5, w32c_6, w32c_7, w32c_8, w32c_9, w32c_10, w32c_11, w32c_12, w32c_13, w32c_14, w32c_m1, w32c_m2, w32c_118, Int.reduceAdd, Int.reduceSub, Int.reduceMul, yput_s, yput_n, znl_n, znl_0, znl_1, znl_4, ysum_n, ysum_0, ysum_1, ysum_4, true_and, and_true, Nat.reduceAdd, Nat.reduceLeDiff, true_implies, eq_self, true_or, or_true, or_false, false_or, not_true_eq_false, not_false_eq_true, false_implies, implies_true, yset_s, yset_o, yset_d, ne_eq, Nat.reduceEqDiff, Int.reduceToNat, Int.reduceEq, Int.reduceLE, Int.reduceLT, Classical.not_not, Nat.reduceLT, ↓zvk_s, ↓zvk_n, ↓s_253_0, ↓s_253_1, ↓s_253_4, ↓s_253_5, ↓s_253_8, ↓s_253_9, ↓s_253_10, ↓s_253_11n, ↓s_253_11i, ↓s_253_11p, ↓s_253_11l, ↓s_253_12, ↓s_253_13, ↓s_253_16, ↓s_253_19, ↓s_253_20, ↓s_253_23, ↓s_253_24, ↓s_253_27, ↓s_253_28, ↓s_253_29, ↓s_253_30, ↓s_253_31, ↓s_253_32, ↓s_253_35, ↓s_253_36, ↓s_253_39, ↓s_253_40, ↓s_253_43, ↓s_253_44, ↓s_253_45, ↓s_253_46, ↓s_253_47, ↓s_253_50, ↓s_253_51, ↓s_253_54, ↓s_253_55, ↓s_253_56, ↓s_253_57n, ↓s_253_57i, ↓s_253_57p, ↓s_253_57l, ↓s_253_59, ↓s_253_60a, ↓s_253_60b, ↓s_253_61, ↓s_253_64, ↓s_253_65, ↓s_253_66, ↓s_253_69, ↓s_253_70, ↓s_253_168, ↓s_253_170, ↓s_253_171, ↓s_253_172n, ↓s_253_172i, ↓s_253_172p, ↓s_253_172l, ↓s_253_174, ↓s_253_177, ↓s_253_179, ↓s_253_180, ↓s_253_181n, ↓s_253_181i, ↓s_253_181p, ↓s_253_181l, ↓s_253_183, ↓s_253_186, ↓s_253_188, ↓s_253_189, ↓s_253_190, ↓s_253_193, ↓s_253_194, ↓s_253_197, ↓s_253_200, ↓s_253_202, ↓s_253_205, ↓s_253_206, ↓s_253_207, ↓s_253_210, ↓s_253_211, ↓s_253_212, ↓s_253_214, ↓s_253_215, ↓s_253_216n, ↓s_253_216i, ↓s_253_216p, ↓s_253_216l, ↓s_253_218, ↓s_253_221, ↓s_253_222, ↓s_253_223, ↓s_253_224, ↓s_253_227, ↓s_253_228, ↓s_253_229, ↓s_253_231, ↓s_253_232, ↓s_253_233n, ↓s_253_233i, ↓s_253_233p, ↓s_253_233l, ↓s_253_235, ↓s_253_238, ↓s_253_240, ↓s_253_241, ↓s_253_242, ↓s_253_245, ↓s_253_246, ↓s_253_249, ↓s_253_250, ↓s_253_253n, ↓s_253_253i, ↓s_253_253p, ↓s_253_253l, ↓s_253_255, ↓s_253_258, ↓s_253_260, ↓s_253_261, ↓s_253_262, ↓s_253_265, ↓s_253_266, ↓s_253_269, ↓s_253_270, ↓s_253_273n, ↓s_253_273i, ↓s_253_273p, ↓s_253_273l, ↓s_253_275, ↓s_253_278, ↓s_253_280, ↓s_253_281, ↓s_253_282, ↓s_253_285, ↓s_253_286, ↓s_253_289, ↓s_253_290, ↓s_253_293n, ↓s_253_293i, ↓s_253_293p, ↓s_253_293l, ↓s_253_295, ↓s_253_298, ↓s_253_300, ↓s_253_301, ↓s_253_302, ↓s_253_305, ↓s_253_306, ↓s_253_309, ↓s_253_310, ↓s_253_313n, ↓s_253_313i, ↓s_253_313p, ↓s_253_313l, ↓s_253_315, ↓s_253_318, ↓s_253_320, ↓s_253_321, ↓s_253_322, ↓s_253_325, ↓s_253_326, ↓s_253_329, ↓s_253_330, ↓s_253_333n, ↓s_253_333i, ↓s_253_333p, ↓s_253_333l, ↓s_253_335, ↓s_253_338, ↓s_253_340, ↓s_253_341, ↓s_253_342, ↓s_253_345, ↓s_253_346, ↓s_253_349, ↓s_253_350, ↓s_253_353n, ↓s_253_353i, ↓s_253_353p, ↓s_253_353l, ↓s_253_355, ↓s_253_358, ↓s_253_360, ↓s_253_361, ↓s_253_362, ↓s_253_365, ↓s_253_366, ↓s_253_367, ↓s_253_368, ↓s_253_371, ↓s_253_372, ↓s_253_375, ↓s_253_376, ↓s_253_379n, ↓s_253_379i, ↓s_253_379p, ↓s_253_379l, ↓s_253_381, ↓s_253_384, ↓s_253_386, ↓s_253_387, ↓s_253_388, ↓s_253_391, ↓s_253_392, ↓s_253_393, ↓s_253_394, ↓s_253_397, ↓s_253_398, ↓s_253_401, ↓s_253_402, ↓s_253_405n, ↓s_253_405i, ↓s_253_405p, ↓s_253_405l, ↓g_253_407, ↓k_253_407, ↓s_253_408, ↓s_253_411, ↓s_253_412, ↓s_253_415, ↓s_253_416, ↓s_253_417, ↓s_253_419, ↓s_253_420, ↓s_253_422, ↓s_253_425, ↓s_253_426, ↓s_253_429, ↓s_253_431, ↓s_253_434, ↓s_253_435, ↓s_253_438, ↓s_253_439, ↓s_253_442, ↓s_253_443, w32c_260, ↓s_181_0, ↓s_181_1, ↓s_181_4, ↓s_181_5, ↓s_181_8, ↓s_181_9, zar_131, zia_131, zln_131, zit_131, zio_95]
  refine ⟨⟨by (first | exact Nat.le_of_ble_eq_true rfl | exact (fun h => absurd h.1 (by decide)) | omega), by (first | exact Nat.le_of_ble_eq_true rfl | exact (fun h => absurd h.1 (by decide)) | omega)⟩, fun hs => ?_, fun hs => ?_⟩
  · have h2 := h2 hs
    have e2 : w32 (mem 95 52 - 2) = w32 (mem 95 52) - 2 := by rw [w32_sb (by rw [w32c_2]; (first | exact Nat.le_of_ble_eq_true rfl | exact (fun h => absurd h.1 (by decide)) | omega)) (by rw [w32c_2]; (first | exact Nat.le_of_ble_eq_true rfl | exact (fun h => absurd h.1 (by decide)) | omega)), w32c_2]
    have hf : aFrm [(95, 53), (131, 0)] mem (yset mem 95 52 (mem 95 52 - 1)) := aFrm_set aFrm_rf rfl
    have hw : w32 (yset mem 95 52 (mem 95 52 - 1) 95 52) = w32 (mem 95 52) - 1 := by rw [yset_s]; exact e1
    have ret0 : Q (some (0, 0)) (yset mem 95 52 (mem 95 52 - 1)) := hQ 0 _ (Or.inl rfl) hf (by rw [if_neg hs]; exact hw)
    have fin : ∀ (v : Int) (r1 r2 r3 r4 r5 r7 : Option yV), zG E (d + 1) xm_253 407 [some (1, 95), r1, r2, r3, r4, r5, some (4, v), r7] [] (yset mem 95 52 (mem 95 52 - 1)) Q := fun v r1 r2 r3 r4 r5 r7 =>
      works_end hE (by rw [hw]; (first | exact Nat.le_of_ble_eq_true rfl | exact (fun h => absurd h.1 (by decide)) | omega)) (by rw [hw]; (first | exact Nat.le_of_ble_eq_true rfl | exact (fun h => absurd h.1 (by decide)) | omega)) (fun x mem' hx hf' => hQ x mem' hx (fun i j hij => by
        rw [hf' i j (by revert hij; simp only [amod]; intro hij; simp only [Bool.or_eq_false_iff] at hij ⊢; exact hij.2), hf i j hij]) (by
          rw [if_neg hs, hf' 95 52 rfl]
          exact hw))
    refine ⟨⟨by (first | exact Nat.le_of_ble_eq_true rfl | exact (fun h => absurd h.1 (by decide)) | omega), by (first | exact Nat.le_of_ble_eq_true rfl | exact (fun h => absurd h.1 (by decide)) | omega)⟩, ?_⟩
    simp only [fin, ret0, implies_true, and_true, true_and]
    refine ⟨fun _ h => ?_, fun _ _ _ _ h => ?_⟩
    · have h0 : ¬ w64 (mem 131 (w32 (mem 95 52 - 2)).toNat) = 0 := ycmp_n h
      unfold zabl
      split
      · exact h0
      · exact w64_ng h0
    · exact ycmp_n h
  · have hs' : w32 s = 260 := by (first | exact Nat.le_of_ble_eq_true rfl | exact (fun h => absurd h.1 (by decide)) | omega)
    exact ⟨fun _ => ⟨⟨by (first | exact Nat.le_of_ble_eq_true rfl | exact (fun h => absurd h.1 (by decide)) | omega), by (first | exact Nat.le_of_ble_eq_true rfl | exact (fun h => absurd h.1 (by decide)) | omega)⟩, hQ 1 _ (Or.inr rfl) (aFrm_set aFrm_rf rfl) (by rw [if_pos hs', yset_o (by decide)])⟩, fun _ => ⟨⟨by (first | exact Nat.le_of_ble_eq_true rfl | exact (fun h => absurd h.1 (by decide)) | omega), by (first | exact Nat.le_of_ble_eq_true rfl | exact (fun h => absurd h.1 (by decide)) | omega)⟩, hQ 1 _ (Or.inr rfl) (aFrm_set aFrm_rf rfl) (by rw [if_pos hs', yset_o (by decide)])⟩⟩
end
