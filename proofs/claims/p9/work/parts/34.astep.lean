section AK
variable {E : yE} {Om : yMem → Prop} {oc : List Nat} {T : List aCon} {c : aCon} {mem0 : yMem} {D : Nat}
def aKs (E : yE) (Om : yMem → Prop) (c : aCon) (mem0 : yMem) : Nat → List aFr → List Int → (Option yV → yMem → Prop) → Prop
  | _, [], _, Q => ∀ r mem', aEnd Om c mem0 r mem' → Q r mem'
  | d, f :: fs, ρ, Q => ∃ (l : yL) (s : List yV) (Q' : Option yV → yMem → Prop), xMok xmt f.1 ∧ aLm ρ f.2.2.1 l ∧ aSm ρ f.2.2.2 s ∧ aKs E Om c mem0 (d + 1) fs ρ Q' ∧ ∀ r mem', yG E (yR (d + 1)) f.1 f.2.1 l (yput s r) mem' 0 0 Q' → Q r mem'
theorem aKs_grow {σ : List Int} : ∀ {d : Nat} {frs : List aFr} {ρ : List Int} {Q : Option yV → yMem → Prop}, aKs E Om c mem0 d frs ρ Q → aKs E Om c mem0 d frs (ρ ++ σ) Q
  | _, [], _, _, h => h
  | _, _ :: _, _, _, ⟨l, s, Q', h1, h2, h3, h4, h5⟩ => ⟨l, s, Q', h1, aLm_grow h2, aSm_grow h3, aKs_grow h4, h5⟩
def aTop : List aFr → xM → xM
  | [], M => M
  | f :: fs, _ => aTop fs f.1
/-- what a rank comes to -/
def aRv (ρ : List Int) (r : aRk) (v : Int) : Prop := ∃ x, tv ρ r.2.1 x ∧ v = r.2.2 + r.1 * x
def aX (M0 : xM) (g : aRank) (v1 v2 : Int) (ρ : List Int) (frs : List aFr) (M : xM) : Prop := aTop frs M = M0 ∧ aRv ρ g.2.1 v1 ∧ aRv ρ g.2.2 v2
theorem aRv_grow {ρ σ : List Int} {r : aRk} {v : Int} (h : aRv ρ r v) : aRv (ρ ++ σ) r v := by
  obtain ⟨x, h1, h2⟩ := h
  exact ⟨x, tv_grow h1, h2⟩
theorem aX_grow {M0 : xM} {g : aRank} {v1 v2 : Int} {ρ σ : List Int} {frs : List aFr} {M : xM} (h : aX M0 g v1 v2 ρ frs M) : aX M0 g v1 v2 (ρ ++ σ) frs M := ⟨h.1, aRv_grow h.2.1, aRv_grow h.2.2⟩
theorem aX_push {M0 : xM} {g : aRank} {v1 v2 : Int} {ρ : List Int} {frs : List aFr} {M M' : xM} {q : Nat × aL × List aV} (h : aX M0 g v1 v2 ρ frs M) : aX M0 g v1 v2 ρ ((M, q) :: frs) M' := h
theorem aX_pop {M0 : xM} {g : aRank} {v1 v2 : Int} {ρ : List Int} {f : aFr} {frs : List aFr} {M : xM} (h : aX M0 g v1 v2 ρ (f :: frs) M) : aX M0 g v1 v2 ρ frs f.1 := h
def aRs (E : yE) (Om : yMem → Prop) (c : aCon) (mem0 : yMem) (D : Nat) (M0 : xM) (g : aRank) (v1 v2 : Int) (rec : aRec) : Prop := ∀ (M : xM) (pc : Nat) (lv : aL) (st : List aV) (frs : List aFr) (S : aSt), rec M pc lv st frs S = true → xMok xmt M → frs.length + 1 ≤ acD c → ∀ (ρ : List Int) (mem : yMem) (d : Nat) (l : yL) (s : List yV) (Q : Option yV → yMem → Prop), aX M0 g v1 v2 ρ frs M → D = d + 1 + frs.length → aSat ρ S mem → aFrm (acW c) mem0 mem → aLm ρ lv l → aSm ρ st s → aKs E Om c mem0 (d + 1) frs ρ Q → yG E (yR (d + 1)) M pc l s mem 0 0 Q
theorem aSm_cons {ρ : List Int} {v : aV} {st : List aV} {s : List yV} (h : aSm ρ (v :: st) s) : ∃ y s', s = y :: s' ∧ aok ρ v y ∧ aSm ρ st s' := by
  cases s with
  | nil => exact h.elim
  | cons y s' => exact ⟨y, s', rfl, h.1, h.2⟩
theorem aSm_nil {ρ : List Int} {s : List yV} (h : aSm ρ [] s) : s = [] := by
  cases s with
  | nil => rfl
  | cons y s' => exact h.elim
theorem akk {ρ : List Int} {k : Nat} {v : aV} {y : yV} (h : akdb k v = true) (hv : aok ρ v y) : ykdb k y = true := by
  obtain ⟨y1, y2⟩ := y
  match k, h with
  | 0, h => have e : y1 = 0 := aint h hv; subst e; rfl
  | 1, h =>
    obtain ⟨g, i, z⟩ := v
    have e : g = 1 := Nat.eq_of_beq_eq_true h
    subst e
    have e : ((y1, y2) : yV) = (1, (i : Int)) := hv
    cases e
    rfl
  | 2, h => have e : y1 = 4 := along h hv; subst e; rfl
  | n + 3, h => have e : y1 = 4 := along (v := v) h hv; subst e; rfl
theorem arefv {ρ : List Int} {v : aV} {y : yV} {S : yS} (h : acell v = some S) (hv : aok ρ v y) : y = (1, (v.2.1 : Int)) ∧ ysh[v.2.1]? = some S := by
  unfold acell at h
  split at h
  · next e =>
    obtain ⟨g, i, z⟩ := v
    have e : g = 1 := Nat.eq_of_beq_eq_true e
    subst e
    exact ⟨hv, h⟩
  · cases h
variable {M0 : xM} {g : aRank} {v1 v2 : Int} {rec : aRec} {M : xM} {lv : aL} {st : List aV} {frs : List aFr} {S : aSt} {ρ : List Int} {mem : yMem} {d : Nat} {l : yL} {s : List yV} {Q : Option yV → yMem → Prop} {nx : Nat}
theorem a_push (hX : aX M0 g v1 v2 ρ frs M) (hrec : aRs E Om c mem0 D M0 g v1 v2 rec) (hM : xMok xmt M) (hfl : frs.length + 1 ≤ acD c) (hDd : D = d + 1 + frs.length) (hF : aFrm (acW c) mem0 mem) (hl : aLm ρ lv l) (hs : aSm ρ st s) (hK : aKs E Om c mem0 (d + 1) frs ρ Q) {y : yV} (hg : aGets ρ mem y (fun w S' => rec M nx lv (w :: st) frs S')) : yG E (yR (d + 1)) M nx l (y :: s) mem 0 0 Q := by
  obtain ⟨σ, v, S', k1, k2, k3⟩ := hg
  exact hrec M nx lv (v :: st) frs S' k1 hM hfl (ρ ++ σ) mem d l (y :: s) Q (aX_grow hX) hDd k2 hF (aLm_grow hl) ⟨k3, aSm_grow hs⟩ (aKs_grow hK)
theorem asw_ok {f : Nat → aI → aN → Bool} {dflt : Nat} {t : aT} {x : Int} : ∀ {cs : List (Nat × Nat)} {iv : aI} {ne : aN}, aIok ρ iv → aNok ρ ne → tv ρ t x → asw f dflt t cs iv ne = true →
    (∃ q ∈ cs, x = cI q.1 ∧ ∃ iv' ne', aIok ρ iv' ∧ aNok ρ ne' ∧ f q.2 iv' ne' = true) ∨ ((∀ q ∈ cs, ¬ x = cI q.1) ∧ ∃ iv' ne', aIok ρ iv' ∧ aNok ρ ne' ∧ f dflt iv' ne' = true)
  | [], iv, ne, hI, hN, ht, h => Or.inr ⟨fun q hq => (by cases hq), iv, ne, hI, hN, h⟩
  | q :: r, iv, ne, hI, hN, ht, h => by
    simp only [asw] at h
    obtain ⟨o, ho, h1, h2, h3⟩ := aeq_ok hI hN ht (u := (none, cI q.1)) (y := cI q.1) rfl
    have h4 := aall_ok h ho
    by_cases hx : x = cI q.1
    · rw [if_pos (h1.mpr hx)] at h4
      exact Or.inl ⟨q, List.mem_cons_self, hx, _, _, h2, h3, h4⟩
    · rw [if_neg (fun z => hx (h1.mp z))] at h4
      rcases asw_ok h2 h3 ht h4 with ⟨q', hq', e, iv', ne', g1, g2, g3⟩ | ⟨hn, iv', ne', g1, g2, g3⟩
      · exact Or.inl ⟨q', List.mem_cons_of_mem _ hq', e, iv', ne', g1, g2, g3⟩
      · refine Or.inr ⟨fun q' hq' => ?_, iv', ne', g1, g2, g3⟩
        rcases List.mem_cons.mp hq' with rfl | hq'
        · exact hx
        · exact hn q' hq'
theorem acsl_ok : ∀ {cs : List (Nat × Nat)}, acsl cs = true → ∀ q ∈ cs, q.1 < 4294967296
  | [], _, q, hq => by cases hq
  | p :: r, h, q, hq => by
    simp only [acsl, Bool.and_eq_true, Nat.blt_eq] at h
    rcases List.mem_cons.mp hq with rfl | hq
    · exact h.1
    · exact acsl_ok h.2.2 q hq
theorem acsl_inj : ∀ {cs : List (Nat × Nat)}, acsl cs = true → ∀ q ∈ cs, ∀ q' ∈ cs, q.1 = q'.1 → q = q'
  | [], _, q, hq, _, _, _ => by cases hq
  | p :: r, h, q, hq, q', hq', e => by
    simp only [acsl, Bool.and_eq_true, Bool.not_eq_true', List.any_eq_false, Nat.beq_eq] at h
    rcases List.mem_cons.mp hq with e1 | h1
    · rcases List.mem_cons.mp hq' with e2 | h2
      · rw [e1, e2]
      · exact absurd (by rw [← e1]; exact e.symm) (h.2.1 q' h2)
    · rcases List.mem_cons.mp hq' with e2 | h2
      · exact absurd (by rw [← e2]; exact e) (h.2.1 q h1)
      · exact acsl_inj h.2.2 q h1 q' h2 e
/-- every value of a symbol -/
theorem asplit_ok {f : aSt → Bool} {k : Nat} {z : Int} (hS : aSat ρ S mem) (hz : ρ[k]? = some z) : ∀ {n : Nat} {x : Int}, asplit f S k n x = true → x ≤ z → z < x + n → f (S.1, aset S.2.1 (some k, 0) z z, S.2.2) = true
  | 0, x, h, h1, h2 => by omega
  | n + 1, x, h, h1, h2 => by
    simp only [asplit, Bool.and_eq_true] at h
    by_cases e : z = x
    · rw [e]
      exact h.1
    · exact asplit_ok hS hz h.2 (by omega) (by omega)
theorem aspl_ok {f : aSt → Bool} {k : Nat} {z : Int} (hS : aSat ρ S mem) (hz : ρ[k]? = some z) (h : aspl S k f = true) : ∃ S', S'.1 = S.1 ∧ f S' = true ∧ aSat ρ S' mem ∧ S'.2.2 = S.2.2 ∧ S'.2.1 = aset S.2.1 (some k, 0) z z := by
  have hb := aiv_ok hS.2.2.1 hz
  refine ⟨(S.1, aset S.2.1 (some k, 0) z z, S.2.2), rfl, asplit_ok hS hz h hb.1 (by omega), ⟨hS.1, hS.2.1, ?_, hS.2.2.2⟩, rfl, rfl⟩
  exact aset_ok hS.2.2.1 (t := (some k, 0)) (x := z) ⟨z, hz, by omega⟩ (Int.le_refl _) (Int.le_refl _)
theorem anz_ok {v : aV} {y : yV} (hS : aSat ρ S mem) (h : anz S v = true) (hv : aok ρ v y) : y.1 = 4 ∧ ¬ w64 y.2 = 0 := by
  obtain ⟨g, k, z⟩ := v
  match g, h, hv with
  | 4, h, hv =>
    refine ⟨hv.1, fun e => ?_⟩
    have h2 := hv.2
    dsimp only at h2
    simp only [anz, Bool.not_eq_true'] at h
    have : zeq z 0 = true := zeq_ok.mpr (by omega)
    rw [this] at h
    cases h
  | 8, h, hv =>
    obtain ⟨h1, h2⟩ := hv
    refine ⟨h1, fun e => ?_⟩
    simp only [anz, Bool.or_eq_true, zle_ok] at h
    have hb := aiv_ok hS.2.2.1 h2
    rcases h with h | h | h
    · exact aneq_ok hS.2.2.2 (t := (some k, 0)) (x := w64 y.2) ⟨_, h2, by dsimp only; omega⟩ h e
    · dsimp only at h hb; omega
    · dsimp only at h hb; omega
  | 0, h, _ | 1, h, _ | 2, h, _ | 3, h, _ | 5, h, _ | 6, h, _ | 7, h, _ => cases h
  | n + 9, h, _ => cases h
theorem afind_ok {mi : Nat} {iv : aI} {vs : List aV} : ∀ {T : List aCon} {e : aCon}, afind T mi iv vs = some e → e ∈ T ∧ acM e = mi ∧ aargs iv vs (acA e) = true
  | p :: r, e, h => by
    simp only [afind] at h
    split at h
    · next hc =>
      simp only [Bool.and_eq_true, Nat.beq_eq] at hc
      cases h
      exact ⟨List.mem_cons_self, hc.1, hc.2⟩
    · obtain ⟨h1, h2⟩ := afind_ok h
      exact ⟨List.mem_cons_of_mem _ h1, h2⟩
theorem yput_push {r : Option yV} {v : Option aV} (hr : match v, r with
  | none, none => True
  | some v, some y => aok ρ v y
  | _, _ => False) (hs : aSm ρ st s) : aSm ρ (apush v st) (yput s r) := by
  cases v with
  | none => cases r with
    | none => exact hs
    | some y => exact hr.elim
  | some v => cases r with
    | none => exact hr.elim
    | some y => exact ⟨hr, hs⟩
theorem aretn_ok (hX : aX M0 g v1 v2 ρ frs M) (hrec : aRs E Om c mem0 D M0 g v1 v2 rec) (hO : aOmF oc Om) (hdis : adis oc (acW c) = true) (hOm0 : Om mem0) (hfl : frs.length + 1 ≤ acD c) (hDd : D = d + 1 + frs.length) (hS : aSat ρ S mem) (hF : aFrm (acW c) mem0 mem) (hK : aKs E Om c mem0 (d + 1) frs ρ Q) {v : Option aV} {r : Option yV} (hr : match v, r with
  | none, none => True
  | some v, some y => aok ρ v y
  | _, _ => False) (h : aretn c rec v frs S = true) : Q r mem := by
  cases frs with
  | nil =>
    refine hK r mem ?_
    simp only [aretn, aend, Bool.and_eq_true] at h
    refine ⟨?_, hS.1, aFrm_Om hO hdis hF hOm0, hF, afcts_ok hS h.2⟩
    cases v with
    | none => cases r with
      | none => exact Nat.eq_of_beq_eq_true h.1
      | some y => exact hr.elim
    | some v => cases r with
      | none => exact hr.elim
      | some y => exact aargI_ok hS.2.2.1 h.1 hr
  | cons f fs =>
    obtain ⟨l', s', Q', k1, k2, k3, k4, k5⟩ := hK
    refine k5 r mem ?_
    simp only [List.length_cons] at hfl hDd
    exact hrec f.1 f.2.1 f.2.2.1 (apush v f.2.2.2) fs S h k1 (by omega) ρ mem (d + 1) l' (yput s' r) Q' (aX_pop hX) (by omega) hS hF k2 (yput_push hr k3) k4
theorem acall_ok (hX : aX M0 g v1 v2 ρ frs M) (hE : yEok E) (hT : ∀ e ∈ T, aSnd Om e) (hO : aOmF oc Om) (hdis : adis oc (acW c) = true) (hOm0 : Om mem0) (hcD : acD c ≤ D) (hrec : aRs E Om c mem0 D M0 g v1 v2 rec) (hM : xMok xmt M) (hfl : frs.length + 1 ≤ acD c) (hDd : D = d + 1 + frs.length) (hS : aSat ρ S mem) (hF : aFrm (acW c) mem0 mem) (hl : aLm ρ lv l) (hs : aSm ρ st s) (hK : aKs E Om c mem0 (d + 1) frs ρ Q) {mi n0 : Nat} (h : acall T c M rec nx mi n0 lv st frs S = true) : ycall E d mi n0 s mem (fun st' mem' => yG E (yR (d + 1)) M nx l st' mem' 0 0 Q) := by
  unfold acall at h
  unfold ycall
  cases hmi : xmt[mi]? with
  | none => rw [hmi] at h; cases h
  | some M' =>
    rw [hmi] at h
    dsimp only at h ⊢
    simp only [Bool.and_eq_true, Nat.ble_eq] at h
    obtain ⟨h1, h2, h3, h4, h5⟩ := h
    have ht := aSm_take (xMn M' + n0) hs
    have hd := aSm_drop (xMn M' + n0) hs
    have hr := aSm_rev ht
    refine ⟨by rw [← aSm_len hs]; exact h1, by rw [← asum_ok hd]; exact h2, by rw [← asum_ok ht]; exact h3, h4, ?_⟩
    split at h5
    · next e he =>
      simp only [Bool.and_eq_true, Nat.ble_eq] at h5
      obtain ⟨g1, g2, g3, g4⟩ := h5
      obtain ⟨f1, f2, f3⟩ := afind_ok he
      refine hT e f1 E hE d (by omega) M' (by rw [f2]; exact hmi) _ mem _ (aargs_ok hS.2.2.1 f3 hr) hS.1 (aFrm_Om hO hdis hF hOm0) (afcts_ok hS g2) ?_
      rintro r mem' ⟨e1, e2, e3, e4, e5⟩
      obtain ⟨σ, k1, k2⟩ := afbeg_ok (f := acQ e) (mp := adrop (acW e) S.1) (iv := S.2.1) (ρ := ρ) e5 (adrop_ok e4 hS.2.1) hS.2.2.1
      have hF' := aFrm_sub g3 hF e4
      have hS' : aSat (ρ ++ σ) ((afbeg (acQ e) (adrop (acW e) S.1) S.2.1).1, (afbeg (acQ e) (adrop (acW e) S.1) S.2.1).2, S.2.2) mem' := ⟨e2, k1, k2, aN_grow hS.2.2.2⟩
      generalize hq : afbeg (acQ e) (adrop (acW e) S.1) S.2.1 = q at g4 hS' k2
      rcases hR : acR e with ⟨g9, i9, lo, hi⟩
      unfold aRetOk at e1
      rw [hR] at e1 g4
      dsimp only at g4 e1
      cases r with
      | none =>
        have e1 : g9 = 99 := e1
        subst e1
        exact hrec M nx lv _ frs _ g4 hM hfl (ρ ++ σ) mem' d l _ Q (aX_grow hX) hDd hS' hF' (aLm_grow hl) (aSm_grow hd) (aKs_grow hK)
      | some y =>
        match g9, e1, g4 with
        | 0, e1, g4 => exact hrec M nx lv _ frs _ g4 hM hfl (ρ ++ σ) mem' d l _ Q (aX_grow hX) hDd hS' hF' (aLm_grow hl) ⟨e1, aSm_grow hd⟩ (aKs_grow hK)
        | 3, e1, g4 =>
          obtain ⟨b1, b2⟩ := aS_new hS' (q := (lo, hi)) (x := w32 y.2) e1.2.1 e1.2.2
          exact hrec M nx lv _ frs _ g4 hM hfl (ρ ++ σ ++ [w32 y.2]) mem' d l _ Q (aX_grow (aX_grow hX)) hDd b1 hF' (aLm_grow (aLm_grow hl)) ⟨⟨e1.1, _, b2, by show w32 y.2 = w32 y.2 + 0; omega⟩, aSm_grow (aSm_grow hd)⟩ (aKs_grow (aKs_grow hK))
        | 8, e1, g4 =>
          have b0 := w64_lo y.2
          have b3 := w64_hi y.2
          obtain ⟨b1, b2⟩ := aS_new hS' (q := a64) (x := w64 y.2) b0 (by show _ ≤ (9223372036854775807 : Int); omega)
          exact hrec M nx lv _ frs _ g4 hM hfl (ρ ++ σ ++ [w64 y.2]) mem' d l _ Q (aX_grow (aX_grow hX)) hDd b1 hF' (aLm_grow (aLm_grow hl)) ⟨⟨e1, b2⟩, aSm_grow (aSm_grow hd)⟩ (aKs_grow (aKs_grow hK))
        | 1, e1, g4 => cases g4
        | 2, e1, g4 | 4, e1, g4 | 5, e1, g4 | 6, e1, g4 | 7, e1, g4 => exact e1.elim
        | n + 9, e1, g4 => exact e1.elim
    · simp only [Bool.and_eq_true, Nat.ble_eq] at h5
      obtain ⟨g1, g2⟩ := h5
      have hM' := xmt_ok mi M' hmi
      cases d with
      | zero => omega
      | succ d' =>
        refine yCon_of hM' (by rw [ysum_rev, ← asum_ok ht]; exact h3) ?_
        exact hrec M' 0 _ [] _ S g2 hM' (by simp only [List.length_cons]; omega) ρ mem d' _ [] _ (aX_push hX) (by simp only [List.length_cons]; omega) hS hF (aargl_ok 0 hr) trivial ⟨l, s.drop (xMn M' + n0), Q, hM, hl, hd, hK, fun r mem' z => z⟩
end AK
