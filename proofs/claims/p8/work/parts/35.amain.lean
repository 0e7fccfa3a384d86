section AM
variable {E : yE} {Om : yMem → Prop} {oc : List Nat} {T : List aCon} {c : aCon} {mem0 : yMem} {D : Nat} {M0 : xM} {g : aRank} {v1 v2 : Int} {rec : aRec} {M : xM} {pc : Nat} {lv : aL} {st : List aV} {frs : List aFr} {S : aSt} {ρ : List Int} {mem : yMem} {d : Nat} {l : yL} {s : List yV} {Q : Option yV → yMem → Prop}
theorem yv0 {y : yV} (h : y.1 = 0) : y = (0, y.2) := by
  obtain ⟨a, b⟩ := y
  have h : a = 0 := h
  subst h
  rfl
theorem yv4 {y : yV} (h : y.1 = 4) : y = (4, y.2) := by
  obtain ⟨a, b⟩ := y
  have h : a = 4 := h
  subst h
  rfl
theorem cL_ok {a : Nat} (h : a < 18446744073709551616) : w64 (cL a) = cL a := by
  apply w64_of
  · unfold cL
    split
    · omega
    · next h2 => rw [Nat.blt_eq] at h2; omega
  · unfold cL
    split
    · next h2 => rw [Nat.blt_eq] at h2; omega
    · omega
theorem aeqv_ok {iv : aI} {t : aT} {x z : Int} (hI : aIok ρ iv) (ht : tv ρ t x) (h : aeqv (trng iv t) = some z) : x = z := by
  unfold aeqv at h
  split at h
  · next hc =>
    rw [zle_ok] at hc
    cases h
    have := trng_ok hI ht
    omega
  · cases h
theorem aneg_nz {z : Int} (h : ¬ w64 z = 0) : ¬ w64 (-z) = 0 := by
  intro e
  apply h
  have e1 : lI (-z) = 0 := (lI_inj.mpr (by rw [e]; decide) : lI (-z) = lI 0).trans (by decide)
  have e2 : lI (-z) = -lI z := Int64.ofInt_neg z
  rw [e2] at e1
  have e3 : lI z = 0 := by
    have := congrArg (fun q => -q) e1
    simpa using this
  show (lI z).toInt = 0
  rw [e3]
  rfl
theorem acopy_mem {mem : yMem} {ss sp dd dp n : Nat} {a b : Nat} (h : ¬ a = dd) : ycpy mem ss sp dd dp n a b = mem a b := by
  simp only [ycpy]
  rw [if_neg h]
set_option maxHeartbeats 8000000 in
theorem astep_ok (hX : aX M0 g v1 v2 ρ frs M) (hE : yEok E) (hT : ∀ e ∈ T, aSnd Om e) (hO : aOmF oc Om) (hdis : adis oc (acW c) = true) (hOm0 : Om mem0) (hcD : acD c ≤ D) (hrec : aRs E Om c mem0 D M0 g v1 v2 rec) (hM : xMok xmt M) (hfl : frs.length + 1 ≤ acD c) (hDd : D = d + 1 + frs.length) (hS : aSat ρ S mem) (hF : aFrm (acW c) mem0 mem) (hl : aLm ρ lv l) (hs : aSm ρ st s) (hK : aKs E Om c mem0 (d + 1) frs ρ Q) {op : xOp} (hok : xok xmt M pc op) (h : astep T c M rec op lv st frs S = true) : yG E (yR (d + 1)) M pc l s mem 0 0 Q := by
  refine yst (d := d) hE ⟨Nat.le_refl _, by show 64 * d + 64 ≤ 64 * (d + 1); omega⟩ ⟨Nat.le_refl _, Nat.le_refl _⟩ hok ?_
  have go : ∀ (nx : Nat) (lv' : aL) (st' : List aV) (S' : aSt) (mem' : yMem) (l' : yL) (s' : List yV), rec M nx lv' st' frs S' = true → aSat ρ S' mem' → aFrm (acW c) mem0 mem' → aLm ρ lv' l' → aSm ρ st' s' → yG E (yR (d + 1)) M nx l' s' mem' 0 0 Q := fun nx lv' st' S' mem' l' s' h1 h2 h3 h4 h5 => hrec M nx lv' st' frs S' h1 hM hfl ρ mem' d l' s' Q hX hDd h2 h3 h4 h5 hK
  have gp : ∀ {nx : Nat} {st' : List aV} {s' : List yV} {y : yV}, aSm ρ st' s' → aGets ρ mem y (fun w S' => rec M nx lv (w :: st') frs S') → yG E (yR (d + 1)) M nx l (y :: s') mem 0 0 Q := fun h1 h2 => a_push hX hrec hM hfl hDd hF hl h1 hK h2
  clear hok
  obtain ⟨tg, nx, a, b, cs⟩ := op
  match tg, h with
  | 0, h =>
    simp only [astep, Bool.and_eq_true, Nat.blt_eq] at h
    exact go nx lv _ S mem l _ h.2 hS hF hl ⟨⟨rfl, w32_c h.1⟩, hs⟩
  | 1, h =>
    simp only [astep, Bool.and_eq_true, Nat.blt_eq] at h
    exact go nx lv _ S mem l _ h.2 hS hF hl ⟨⟨rfl, cL_ok h.1⟩, hs⟩
  | 2, h =>
    simp only [astep] at h
    split at h
    · next v hv =>
      rw [Bool.and_eq_true] at h
      obtain ⟨y, h1, h2⟩ := alk_ok hl hv
      exact ⟨y, h1, akk h.1 h2, go nx lv _ S mem l _ h.2 hS hF hl ⟨h2, hs⟩⟩
    · cases h
  | 3, h =>
    match st, hs, h with
    | v :: st', hs, h =>
      obtain ⟨y, s', rfl, hy, hs'⟩ := aSm_cons hs
      simp only [astep, Bool.and_eq_true, Nat.blt_eq] at h
      exact ⟨akk h.1 hy, h.2.1, go nx _ st' S mem _ s' h.2.2 hS hF ⟨rfl, hy, aflt_ok hl⟩ hs'⟩
  | 4, h =>
    simp only [astep] at h
    split at h
    · next v hv =>
      simp only [Bool.and_eq_true, Nat.blt_eq] at h
      obtain ⟨y, h1, h2⟩ := alk_ok hl hv
      obtain ⟨k1, -, -, σ, w, S', k2, k3, k4⟩ := abin_ok (yy := (0, cI b)) h.2.2 hS h2 ⟨rfl, w32_c h.1⟩ rfl rfl
      refine ⟨y.2, by rw [h1, ← yv0 k1], h.2.1, ?_⟩
      exact hrec M nx _ st frs S' k2 hM hfl (ρ ++ σ) mem d _ s Q (aX_grow hX) hDd k3 hF ⟨rfl, k4, aLm_grow (aflt_ok hl)⟩ (aSm_grow hs) (aKs_grow hK)
    · cases h
  | 5, h =>
    match st, hs, h with
    | vy :: vx :: st', hs, h =>
      obtain ⟨y, s1, rfl, hy, hs1⟩ := aSm_cons hs
      obtain ⟨x, s', rfl, hx, hs'⟩ := aSm_cons hs1
      obtain ⟨k1, k2, k3, k4⟩ := abin_ok h hS hx hy rfl rfl
      rw [yv0 k1, yv0 k2]
      exact ⟨k3, gp hs' k4⟩
  | 6, h =>
    match st, hs, h with
    | vx :: st', hs, h =>
      obtain ⟨x, s', rfl, hx, hs'⟩ := aSm_cons hs
      simp only [astep, Bool.and_eq_true] at h
      rw [yv0 (aint h.1 hx)]
      refine gp hs' (afr_ok h.2 hS ?_ ?_)
      · have := Int8.le_toInt (iI x.2).toInt8
        rw [show w32 ((iI x.2).toInt8.toInt32.toInt) = (iI x.2).toInt8.toInt by
          show (iI _).toInt = _
          rw [iI_t, Int8.toInt_toInt32]]
        simpa using this
      · have := Int8.toInt_lt (iI x.2).toInt8
        rw [show w32 ((iI x.2).toInt8.toInt32.toInt) = (iI x.2).toInt8.toInt by
          show (iI _).toInt = _
          rw [iI_t, Int8.toInt_toInt32]]
        have : (iI x.2).toInt8.toInt < 128 := by simpa using this
        show _ ≤ (127 : Int)
        omega
  | 8, h =>
    match st, hs, h with
    | vy :: vx :: st', hs, h =>
      obtain ⟨y, s1, rfl, hy, hs1⟩ := aSm_cons hs
      obtain ⟨x, s', rfl, hx, hs'⟩ := aSm_cons hs1
      simp only [astep, Bool.and_eq_true] at h
      obtain ⟨h1, h2, h3⟩ := h
      have e1 := along h1 hx
      have e2 := along h2 hy
      rw [yv4 e1, yv4 e2]
      split at h3
      · next hc =>
        simp only [Nat.beq_eq] at hc
        refine go nx lv _ S mem l _ h3 hS hF hl ⟨?_, hs'⟩
        obtain ⟨gx, kx, cx⟩ := vx
        obtain ⟨gy, ky, cy⟩ := vy
        obtain ⟨c1, c2⟩ := hc
        dsimp only at c1 c2
        subst c1
        subst c2
        refine ⟨rfl, _, hx.2, ?_⟩
        have e3 : w64 y.2 = cy := hy.2
        show w32 (ycmp x.2 y.2) = _
        unfold ycmp
        rw [e3]
        dsimp only
        split
        · decide
        · split <;> decide
      · refine gp hs' (afr_ok h3 hS ?_ ?_)
        · unfold ycmp
          split
          · decide
          · split <;> decide
        · unfold ycmp
          split
          · decide
          · split <;> decide
  | 9, h =>
    match st, hs, h with
    | v :: st', hs, h =>
      obtain ⟨y, s', rfl, hy, hs'⟩ := aSm_cons hs
      simp only [astep, Bool.and_eq_true, Nat.beq_eq] at h
      exact ⟨by rw [← acat_ok hy]; exact h.1, go nx lv _ S mem l _ h.2 hS hF hl ⟨hy, hy, hs'⟩⟩
  | 10, h =>
    match st, hs, h with
    | v :: st', hs, h =>
      obtain ⟨y, s', rfl, hy, hs'⟩ := aSm_cons hs
      simp only [astep, Bool.and_eq_true, Nat.beq_eq] at h
      exact ⟨by rw [← acat_ok hy]; exact h.1, go nx lv _ S mem l _ h.2 hS hF hl hs'⟩
  | 11, h =>
    match st, hs, h with
    | v :: w :: st', hs, h =>
      obtain ⟨y, s1, rfl, hy, hs1⟩ := aSm_cons hs
      obtain ⟨x, s', rfl, hx, hs'⟩ := aSm_cons hs1
      simp only [astep, Bool.and_eq_true, Nat.beq_eq] at h
      exact ⟨by rw [← acat_ok hy]; exact h.1, by rw [← acat_ok hx]; exact h.2.1, go nx lv _ S mem l _ h.2.2 hS hF hl ⟨hy, hx, hy, hx, hs'⟩⟩
  | 12, h =>
    match st, hs, h with
    | vx :: st', hs, h =>
      obtain ⟨x, s', rfl, hx, hs'⟩ := aSm_cons hs
      simp only [astep] at h
      split at h
      · next q hq =>
        have key : x.1 = 0 ∧ aOut ρ (acmp b S.2.1 S.2.2 q.1 q.2) (ycp b x.2 0) := by
          unfold atermc at hq
          split at hq
          · next h9 =>
            cases hq
            obtain ⟨g, k, z⟩ := vx
            have h9 : g = 9 := Nat.eq_of_beq_eq_true h9
            subst h9
            obtain ⟨e1, w, e2, e3⟩ := hx
            refine ⟨e1, (acmp_ok hS.2.2.1 hS.2.2.2 (t := (some k, 0)) (u := (none, z)) (x := w) (y := z) ⟨w, e2, by dsimp only; omega⟩ rfl b).iff ?_⟩
            rw [ycp_rel, e3, show w32 0 = 0 by decide]
            dsimp only
            match b with
            | 0 => simp only [relc]; split <;> (try split) <;> omega
            | 1 => simp only [relc]; split <;> (try split) <;> omega
            | 2 => simp only [relc]; split <;> (try split) <;> omega
            | 3 => simp only [relc]; split <;> (try split) <;> omega
            | 4 => simp only [relc]; split <;> (try split) <;> omega
            | n + 5 => simp only [relc]; split <;> (try split) <;> omega
          · split at hq
            · next t ht =>
              cases hq
              obtain ⟨e1, e2⟩ := aterm_ok ht hx
              refine ⟨e1, (acmp_ok hS.2.2.1 hS.2.2.2 e2 (u := (none, 0)) (y := 0) rfl b).iff ?_⟩
              rw [ycp_rel, show w32 0 = 0 by decide]
            · cases hq
        obtain ⟨e1, o, ho, k1, k2, k3⟩ := key
        rw [yv0 e1]
        have h4 := aall_ok h ho
        refine ⟨fun z => ?_, fun z => ?_⟩
        · rw [if_pos (k1.mpr z)] at h4
          exact go a lv st' _ mem l s' h4 ⟨hS.1, hS.2.1, k2, k3⟩ hF hl hs'
        · rw [if_neg (fun w => z (k1.mp w))] at h4
          exact go nx lv st' _ mem l s' h4 ⟨hS.1, hS.2.1, k2, k3⟩ hF hl hs'
      · cases h
  | 13, h =>
    match st, hs, h with
    | vy :: vx :: st', hs, h =>
      obtain ⟨y, s1, rfl, hy, hs1⟩ := aSm_cons hs
      obtain ⟨x, s', rfl, hx, hs'⟩ := aSm_cons hs1
      simp only [astep] at h
      split at h
      · next t u ht hu =>
        obtain ⟨e1, e2⟩ := aterm_ok ht hx
        obtain ⟨e3, e4⟩ := aterm_ok hu hy
        obtain ⟨o, ho, k1, k2, k3⟩ := (acmp_ok hS.2.2.1 hS.2.2.2 e2 e4 b).iff (ycp_rel b x.2 y.2).symm
        rw [yv0 e1, yv0 e3]
        have h4 := aall_ok h ho
        refine ⟨fun z => ?_, fun z => ?_⟩
        · rw [if_pos (k1.mpr z)] at h4
          exact go a lv st' _ mem l s' h4 ⟨hS.1, hS.2.1, k2, k3⟩ hF hl hs'
        · rw [if_neg (fun w => z (k1.mp w))] at h4
          exact go nx lv st' _ mem l s' h4 ⟨hS.1, hS.2.1, k2, k3⟩ hF hl hs'
      · cases h
  | 14, h => exact go nx lv st S mem l s h hS hF hl hs
  | 15, h =>
    match st, hs, h with
    | vx :: st', hs, h =>
      obtain ⟨x, s', rfl, hx, hs'⟩ := aSm_cons hs
      simp only [astep] at h
      split at h
      · next t ht =>
        rw [Bool.and_eq_true] at h
        obtain ⟨e1, e2⟩ := aterm_ok ht hx
        rw [yv0 e1]
        have key := asw_ok hS.2.2.1 hS.2.2.2 e2 h.2
        have hc := acsl_ok h.1
        have inj : ∀ (q q' : Nat × Nat), q ∈ cs → q' ∈ cs → cI q.1 = cI q'.1 → q.1 = q'.1 := fun q q' h1 h2 e => by
          have b1 := hc q h1
          have b2 := hc q' h2
          unfold cI at e
          split at e <;> split at e <;> omega
        refine ⟨fun q hq e => ?_, fun hn => ?_, hc⟩
        · rcases key with ⟨q', hq', e', iv', ne', g1, g2, g3⟩ | ⟨hn, -⟩
          · have e3 := acsl_inj h.1 q hq q' hq' (inj q q' hq hq' (by rw [← e, ← e']))
            subst e3
            exact go _ lv st' _ mem l s' g3 ⟨hS.1, hS.2.1, g1, g2⟩ hF hl hs'
          · exact absurd e (hn q hq)
        · rcases key with ⟨q', hq', e', -⟩ | ⟨-, iv', ne', g1, g2, g3⟩
          · exact absurd e' (hn q' hq')
          · exact go a lv st' _ mem l s' g3 ⟨hS.1, hS.2.1, g1, g2⟩ hF hl hs'
      · cases h
  | 16, h =>
    match st, hs, h with
    | v :: st', hs, h =>
      obtain ⟨y, s', rfl, hy, hs'⟩ := aSm_cons hs
      simp only [astep] at h
      split at h
      · next ci fs hc =>
        obtain ⟨rfl, e2⟩ := arefv hc hy
        rw [Bool.and_eq_true, Nat.beq_eq] at h
        obtain ⟨h1, h2⟩ := h
        subst h1
        split at h2
        · next z hz => exact ⟨fs, (0, z), e2, hz, gp hs' (ardS_ok h2 hS)⟩
        · next z hz =>
          rw [Bool.and_eq_true, zle_ok] at h2
          refine ⟨fs, (1, z), e2, hz, go nx lv _ S mem l _ h2.2 hS hF hl ⟨?_, hs'⟩⟩
          show ((1, z) : yV) = (1, (z.toNat : Int))
          rw [Int.toNat_of_nonneg h2.1]
        · cases h2
      · cases h
  | 17, h =>
    match st, hs, cs, h with
    | vx :: v :: st', hs, [q], h =>
      obtain ⟨x, s1, rfl, hx, hs1⟩ := aSm_cons hs
      obtain ⟨y, s', rfl, hy, hs'⟩ := aSm_cons hs1
      simp only [astep] at h
      split at h
      · next ci fs hc =>
        obtain ⟨rfl, e2⟩ := arefv hc hy
        rw [Bool.and_eq_true, Nat.beq_eq] at h
        obtain ⟨h1, h2⟩ := h
        subst h1
        split at h2
        · next z hz =>
          rw [Bool.and_eq_true, Bool.or_eq_true] at h2
          obtain ⟨h3, h4⟩ := h2
          have hk : akdb 0 vx = true := by
            rcases h3 with h3 | h3
            · rw [Bool.and_eq_true] at h3; exact h3.2
            · simp only [Bool.and_eq_true] at h3; exact h3.2.1
          have e1 := aint hk hx
          have hx' : aok ρ vx (0, x.2) := by rw [← yv0 e1]; exact hx
          obtain ⟨S', k1, k2, k3⟩ := awrS_ok h4 hS hF hx'
          refine ⟨fs, (0, z), e2, hz, ?_, go nx lv st' S' _ l s' k1 k2 k3 hl hs'⟩
          rcases h3 with h3 | h3
          · rw [Bool.and_eq_true, Nat.beq_eq] at h3
            rw [h3.1]
            exact ⟨e1, rfl⟩
          · simp only [Bool.and_eq_true, Nat.beq_eq, ain_ok] at h3
            rw [h3.1]
            have := arng_ok hS.2.2.1 hk hx
            exact ⟨e1, by omega, rfl⟩
        · cases h2
      · cases h
  | 18, h =>
    match st, hs, h with
    | v :: st', hs, h =>
      obtain ⟨y, s', rfl, hy, hs'⟩ := aSm_cons hs
      simp only [astep] at h
      split at h
      · next t n rs hc =>
        obtain ⟨rfl, e2⟩ := arefv hc hy
        rw [Bool.and_eq_true, Nat.blt_eq] at h
        refine ⟨t, n, rs, e2, h.1, go nx lv _ S mem l _ h.2 hS hF hl ⟨⟨rfl, ?_⟩, hs'⟩⟩
        have key : ∀ S ∈ ysh, (match S with
          | .inl (_, n, _) => Nat.blt n 1000000
          | _ => true) = true := by decide +kernel
        have := key _ (List.mem_of_getElem? e2)
        dsimp only at this
        rw [Nat.blt_eq] at this
        exact w32_of (by omega) (by omega)
      · cases h
  | 19, h =>
    match st, hs, h with
    | vj :: v :: st', hs, h =>
      obtain ⟨j, s1, rfl, hj, hs1⟩ := aSm_cons hs
      obtain ⟨y, s', rfl, hy, hs'⟩ := aSm_cons hs1
      simp only [astep] at h
      split at h
      · next t n rs u hc hu =>
        obtain ⟨rfl, e2⟩ := arefv hc hy
        obtain ⟨e1, e3⟩ := aterm_ok hu hj
        have hb := trng_ok hS.2.2.1 e3
        simp only [Bool.and_eq_true, Nat.beq_eq, zle_ok, zlt_ok] at h
        obtain ⟨h1, h2, h3, h4⟩ := h
        subst h1
        rw [yv0 e1]
        refine ⟨n, rs, e2, by omega, by omega, ?_⟩
        split at h4
        · next z hz =>
          have := aeqv_ok hS.2.2.1 e3 hz
          dsimp only
          rw [this]
          exact gp hs' (ardS_ok h4 hS)
        · have := adefl_ok hS.1 v.2.1 (w32 j.2).toNat
          exact gp hs' (afr_ok h4 hS this.1 this.2)
      · cases h
  | 20, h =>
    match st, hs, h with
    | vj :: v :: st', hs, h =>
      obtain ⟨j, s1, rfl, hj, hs1⟩ := aSm_cons hs
      obtain ⟨y, s', rfl, hy, hs'⟩ := aSm_cons hs1
      simp only [astep] at h
      split at h
      · next n rs u hc hu =>
        obtain ⟨rfl, e2⟩ := arefv hc hy
        obtain ⟨e1, e3⟩ := aterm_ok hu hj
        rw [yv0 e1]
        have fin : ∀ (S' : aSt) (z : Int), aSat ρ S' mem → w32 j.2 = z → (zle 0 z && (zlt z (n : Int) && (match rs[z.toNat]? with
            | some q => rec M nx lv ((1, q, 0) :: st') frs S'
            | none => false))) = true → ∃ n' rs' q, ysh[((v.2.1 : Int)).toNat]? = some (.inl (4, n', rs')) ∧ 0 ≤ w32 j.2 ∧ w32 j.2 < (n' : Int) ∧ rs'[(w32 j.2).toNat]? = some q ∧ yG E (yR (d + 1)) M nx l ((1, (q : Int)) :: s') mem 0 0 Q := by
          intro S' z hS' ez hh
          simp only [Bool.and_eq_true, zle_ok, zlt_ok] at hh
          obtain ⟨g1, g2, g3⟩ := hh
          split at g3
          · next q hq =>
            refine ⟨n, rs, q, e2, by omega, by omega, by rw [ez]; exact hq, go nx lv _ S' mem l _ g3 hS' hF hl ⟨rfl, hs'⟩⟩
          · cases g3
        split at h
        · next z hz => exact fin S z hS (aeqv_ok hS.2.2.1 e3 hz) h
        · split at h
          · next k hk =>
            obtain ⟨uk, uc⟩ := u
            dsimp only at hk
            subst hk
            obtain ⟨z, g1, g2⟩ := e3
            obtain ⟨S', f1, f2, f3, f4, f5⟩ := aspl_ok hS g1 h
            split at f2
            · next w hw => exact fin S' w f3 (aeqv_ok f3.2.2.1 (t := (some k, uc)) ⟨z, g1, g2⟩ hw) f2
            · cases f2
          · cases h
      · cases h
  | 21, h =>
    match st, hs, h with
    | vx :: vj :: v :: st', hs, h =>
      obtain ⟨x, s0, rfl, hx, hs0⟩ := aSm_cons hs
      obtain ⟨j, s1, rfl, hj, hs1⟩ := aSm_cons hs0
      obtain ⟨y, s', rfl, hy, hs'⟩ := aSm_cons hs1
      simp only [astep] at h
      split at h
      · next t n rs u hc hu =>
        obtain ⟨rfl, e2⟩ := arefv hc hy
        obtain ⟨e1, e3⟩ := aterm_ok hu hj
        have hb := trng_ok hS.2.2.1 e3
        simp only [Bool.and_eq_true, Nat.beq_eq, zle_ok, zlt_ok] at h
        obtain ⟨h1, h2, h3, h4, h5, h6⟩ := h
        subst h1
        have e0 := aint h2 hx
        have hxr := arng_ok hS.2.2.1 h2 hx
        have hx' : aok ρ vx (0, x.2) := by rw [← yv0 e0]; exact hx
        rw [yv0 e0, yv0 e1]
        refine ⟨n, rs, e2, by omega, by omega, ?_, ?_⟩
        · match t, h5 with
          | 0, _ => trivial
          | 1, h5 =>
            have h5 : ain (arng S.2.1 vx) (-128, 127) = true := h5
            rw [ain_ok] at h5
            exact ⟨by dsimp only at h5; omega, by dsimp only at h5; omega⟩
          | 3, h5 =>
            have h5 : ain (arng S.2.1 vx) (0, 1) = true := h5
            rw [ain_ok] at h5
            show w32 x.2 = 0 ∨ w32 x.2 = 1
            dsimp only at h5
            omega
          | 2, h5 => cases h5
          | k + 4, h5 => cases h5
        · split at h6
          · next z hz =>
            have := aeqv_ok hS.2.2.1 e3 hz
            obtain ⟨S', k1, k2, k3⟩ := awrS_ok h6 hS hF hx'
            dsimp only
            rw [this]
            exact go nx lv st' S' _ l s' k1 k2 k3 hl hs'
          · obtain ⟨S', k1, k2, k3⟩ := awrA_ok (j := (w32 j.2).toNat) h6 hS hF hx'
            exact go nx lv st' S' _ l s' k1 k2 k3 hl hs'
      · cases h
  | 26, h =>
    match st, hs, h with
    | vn :: vdp :: vd :: vsp :: vs :: st', hs, h =>
      obtain ⟨n, s0, rfl, hn, hs0⟩ := aSm_cons hs
      obtain ⟨dp, s1, rfl, hdp, hs1⟩ := aSm_cons hs0
      obtain ⟨dv, s2, rfl, hdv, hs2⟩ := aSm_cons hs1
      obtain ⟨sp, s3, rfl, hsp, hs3⟩ := aSm_cons hs2
      obtain ⟨sv, s', rfl, hsv, hs'⟩ := aSm_cons hs3
      simp only [astep] at h
      split at h
      · next n0 r0 n1 r1 tn td ts c1 c2 c3 c4 c5 =>
        obtain ⟨rfl, e1⟩ := arefv c1 hsv
        obtain ⟨rfl, e2⟩ := arefv c2 hdv
        obtain ⟨f1, f2⟩ := aterm_ok c3 hn
        obtain ⟨f3, f4⟩ := aterm_ok c4 hdp
        obtain ⟨f5, f6⟩ := aterm_ok c5 hsp
        have b1 := trng_ok hS.2.2.1 f2
        have b2 := trng_ok hS.2.2.1 f4
        have b3 := trng_ok hS.2.2.1 f6
        simp only [Bool.and_eq_true, Nat.ble_eq, zle_ok, ain_ok] at h
        obtain ⟨h1, h2, h3, h4, h5, h6, h7, h8, h9, h10⟩ := h
        have e0 : (aent vd.2.1).2 = [] := by
          cases hh : (aent vd.2.1).2 with
          | nil => rfl
          | cons _ _ => rw [hh] at h7; cases h7
        rw [yv0 f1, yv0 f3, yv0 f5]
        refine ⟨by rw [← asum_ok hs']; exact h1, n0, r0, n1, r1, e1, e2, by omega, by omega, by omega, by omega, by omega, ?_⟩
        have := acell_ok (mem' := ycpy mem vs.2.1 (w32 sp.2).toNat vd.2.1 (w32 dp.2).toNat (w32 n.2).toNat) hS hF e0 h9 (fun a b e => acopy_mem e) (fun b => by
          simp only [ycpy, if_true]
          split
          · have := adefl_ok hS.1 vs.2.1 ((w32 sp.2).toNat + (b - (w32 dp.2).toNat))
            omega
          · rw [← agam_def (j := b) e0]
            exact hS.1 _ b)
        exact go nx lv st' _ _ l s' h10 this.1 this.2 hl hs'
      · cases h
  | 27, h => exact acall_ok hX hE hT hO hdis hOm0 hcD hrec hM hfl hDd hS hF hl hs hK h
  | 47, h => exact acall_ok hX hE hT hO hdis hOm0 hcD hrec hM hfl hDd hS hF hl hs hK h
  | 28, h =>
    simp only [astep, Bool.and_eq_true] at h
    refine ⟨?_, acall_ok hX hE hT hO hdis hOm0 hcD hrec hM hfl hDd hS hF hl hs hK h.2⟩
    have h1 := h.1
    dsimp only at h1 ⊢
    cases hmi : xmt[a]? with
    | none => rw [hmi] at h1; cases h1
    | some M' =>
      rw [hmi] at h1
      dsimp only at h1 ⊢
      have hd := aSm_drop (xMn M') hs
      split at h1
      · next v r hv =>
        rw [hv] at hd
        obtain ⟨y, s', e, hy, -⟩ := aSm_cons hd
        rw [e]
        split at h1
        · next ci fs hc =>
          obtain ⟨rfl, e2⟩ := arefv hc hy
          rw [Nat.beq_eq] at h1
          subst h1
          exact ⟨fs, e2⟩
        · cases h1
      · cases h1
  | 30, h =>
    match st, hs, h with
    | [v], hs, h =>
      obtain ⟨y, s', rfl, hy, hs'⟩ := aSm_cons hs
      rw [aSm_nil hs']
      simp only [astep, Bool.and_eq_true] at h
      obtain ⟨h1, h2, h3⟩ := h
      have e1 := aint h1 hy
      rw [yv0 e1]
      refine ⟨?_, aretn_ok hX hrec hO hdis hOm0 hfl hDd hS hF hK (v := some v) (r := some (0, y.2)) (by dsimp only; rw [← yv0 e1]; exact hy) h3⟩
      simp only [Bool.or_eq_true, Bool.and_eq_true, Nat.beq_eq, ain_ok] at h2
      rcases h2 with h2 | h2
      · exact Or.inl h2
      · have := arng_ok hS.2.2.1 h1 hy
        exact Or.inr ⟨h2.1, by omega⟩
  | 31, h =>
    match st, hs, h with
    | [v], hs, h =>
      obtain ⟨y, s', rfl, hy, hs'⟩ := aSm_cons hs
      rw [aSm_nil hs']
      simp only [astep, Bool.and_eq_true] at h
      have e1 := along h.1 hy
      rw [yv4 e1]
      exact aretn_ok hX hrec hO hdis hOm0 hfl hDd hS hF hK (v := some v) (r := some (4, y.2)) (by dsimp only; rw [← yv4 e1]; exact hy) h.2
  | 32, h =>
    match st, hs, h with
    | [], hs, h =>
      rw [aSm_nil hs]
      exact aretn_ok hX hrec hO hdis hOm0 hfl hDd hS hF hK (v := none) (r := none) trivial h
  | 60, h =>
    match st, hs, h with
    | vy :: vx :: st', hs, h =>
      obtain ⟨y, s1, rfl, hy, hs1⟩ := aSm_cons hs
      obtain ⟨x, s', rfl, hx, hs'⟩ := aSm_cons hs1
      simp only [astep, Bool.and_eq_true] at h
      rw [yv4 (along h.1 hx), yv4 (along h.2.1 hy)]
      exact gp hs' (afrL_ok h.2.2 hS)
  | 61, h =>
    match st, hs, h with
    | vy :: vx :: st', hs, h =>
      obtain ⟨y, s1, rfl, hy, hs1⟩ := aSm_cons hs
      obtain ⟨x, s', rfl, hx, hs'⟩ := aSm_cons hs1
      simp only [astep, Bool.and_eq_true] at h
      have hz := anz_ok hS h.2.1 hy
      rw [yv4 (along h.1 hx), yv4 hz.1]
      exact ⟨hz.2, gp hs' (afrL_ok h.2.2 hS)⟩
  | 62, h =>
    match st, hs, h with
    | vy :: vx :: st', hs, h =>
      obtain ⟨y, s1, rfl, hy, hs1⟩ := aSm_cons hs
      obtain ⟨x, s', rfl, hx, hs'⟩ := aSm_cons hs1
      simp only [astep, Bool.and_eq_true] at h
      rw [yv4 (along h.1 hx), yv0 (aint h.2.1 hy)]
      exact gp hs' (afrL_ok h.2.2 hS)
  | 63, h =>
    match st, hs, h with
    | vy :: vx :: st', hs, h =>
      obtain ⟨y, s1, rfl, hy, hs1⟩ := aSm_cons hs
      obtain ⟨x, s', rfl, hx, hs'⟩ := aSm_cons hs1
      simp only [astep, Bool.and_eq_true] at h
      rw [yv4 (along h.1 hx), yv0 (aint h.2.1 hy)]
      exact gp hs' (afrL_ok h.2.2 hS)
  | 64, h =>
    match st, hs, h with
    | vx :: st', hs, h =>
      obtain ⟨x, s', rfl, hx, hs'⟩ := aSm_cons hs
      simp only [astep, Bool.and_eq_true] at h
      obtain ⟨h1, h2⟩ := h
      rw [yv4 (along h1 hx)]
      split at h2
      · next hz =>
        have hnz := aneg_nz (anz_ok hS hz hx).2
        have b0 := w64_lo (-x.2)
        have b3 := w64_hi (-x.2)
        obtain ⟨b1, b2⟩ := aS_new hS (q := a64) (x := w64 (-x.2)) b0 (by show _ ≤ (9223372036854775807 : Int); omega)
        refine hrec M nx lv _ frs _ h2 hM hfl (ρ ++ [w64 (-x.2)]) mem d l _ Q (aX_grow hX) hDd ⟨b1.1, b1.2.1, b1.2.2.1, fun q hq => ?_⟩ hF (aLm_grow hl) ⟨⟨rfl, b2⟩, aSm_grow hs'⟩ (aKs_grow hK)
        rcases List.mem_cons.mp hq with rfl | hq
        · exact ⟨_, b2, hnz⟩
        · exact b1.2.2.2 q hq
      · exact gp hs' (afrL_ok h2 hS)
  | 65, h =>
    match st, hs, h with
    | vx :: st', hs, h =>
      obtain ⟨x, s', rfl, hx, hs'⟩ := aSm_cons hs
      simp only [astep, Bool.and_eq_true] at h
      rw [yv0 (aint h.1 hx)]
      exact gp hs' (afrL_ok h.2 hS)
  | 66, h =>
    match st, hs, h with
    | vx :: st', hs, h =>
      obtain ⟨x, s', rfl, hx, hs'⟩ := aSm_cons hs
      simp only [astep, Bool.and_eq_true] at h
      rw [yv4 (along h.1 hx)]
      exact gp hs' (afr32_ok h.2 hS)
  | 67, h =>
    match st, hs, h with
    | vj :: v :: st', hs, h =>
      obtain ⟨j, s1, rfl, hj, hs1⟩ := aSm_cons hs
      obtain ⟨y, s', rfl, hy, hs'⟩ := aSm_cons hs1
      simp only [astep] at h
      split at h
      · next n rs u hc hu =>
        obtain ⟨rfl, e2⟩ := arefv hc hy
        obtain ⟨e1, e3⟩ := aterm_ok hu hj
        have hb := trng_ok hS.2.2.1 e3
        simp only [Bool.and_eq_true, zle_ok, zlt_ok] at h
        rw [yv0 e1]
        exact ⟨n, rs, e2, by omega, by omega, gp hs' (afrL_ok h.2.2 hS)⟩
      · cases h
  | 68, h =>
    match st, hs, h with
    | vx :: vj :: v :: st', hs, h =>
      obtain ⟨x, s0, rfl, hx, hs0⟩ := aSm_cons hs
      obtain ⟨j, s1, rfl, hj, hs1⟩ := aSm_cons hs0
      obtain ⟨y, s', rfl, hy, hs'⟩ := aSm_cons hs1
      simp only [astep] at h
      split at h
      · next n rs u hc hu =>
        obtain ⟨rfl, e2⟩ := arefv hc hy
        obtain ⟨e1, e3⟩ := aterm_ok hu hj
        have hb := trng_ok hS.2.2.1 e3
        simp only [Bool.and_eq_true, zle_ok, zlt_ok] at h
        obtain ⟨h1, h2, h3, h4, h5, h6⟩ := h
        have e0 : (aent v.2.1).2 = [] ∧ ain a32 (aent v.2.1).1 = true := by
          cases hh : (aent v.2.1).2 with
          | nil => rw [hh] at h4; exact ⟨rfl, h4⟩
          | cons _ _ => rw [hh] at h4; cases h4
        rw [yv0 e1, yv4 (along h1 hx)]
        have h7 := ain_ok.mp e0.2
        have := acell_ok (mem' := yset mem v.2.1 (w32 j.2).toNat x.2) hS hF e0.1 h5 (fun a b e => yset_ne (fun q => e q.1)) (fun b => by
          have b1 := w32_lo (yset mem v.2.1 (w32 j.2).toNat x.2 v.2.1 b)
          have b2 := w32_hi (yset mem v.2.1 (w32 j.2).toNat x.2 v.2.1 b)
          simp only [a32] at h7
          omega)
        exact ⟨n, rs, e2, by omega, by omega, go nx lv st' _ _ l s' h6 this.1 this.2 hl hs'⟩
      · cases h
  | 70, h =>
    match st, hs, h with
    | vy :: vx :: st', hs, h =>
      obtain ⟨y, s1, rfl, hy, hs1⟩ := aSm_cons hs
      obtain ⟨x, s', rfl, hx, hs'⟩ := aSm_cons hs1
      simp only [astep] at h
      split at h
      · next t u ht hu =>
        obtain ⟨e1, e2⟩ := aterm_ok ht hx
        obtain ⟨e3, e4⟩ := aterm_ok hu hy
        have b1 := trng_ok hS.2.2.1 e2
        have b2 := trng_ok hS.2.2.1 e4
        rw [Bool.and_eq_true, Nat.ble_eq] at h
        rw [yv0 e1, yv0 e3]
        refine ⟨by rw [← asum_ok hs']; exact h.1, ?_⟩
        have h5 := h.2
        simp only [Nat.beq_eq] at h5
        dsimp only
        by_cases ha : a = 0
        · rw [if_pos ha] at h5 ⊢
          refine gp hs' (afr_ok h5 hS ?_ ?_)
          · dsimp only
            rw [zmin_ok]
            split <;> omega
          · dsimp only
            rw [zmin_ok]
            split <;> omega
        · rw [if_neg ha] at h5 ⊢
          refine gp hs' (afr_ok h5 hS ?_ ?_)
          · dsimp only
            rw [zmax_ok]
            split <;> omega
          · dsimp only
            rw [zmax_ok]
            split <;> omega
      · cases h
  | 71, h =>
    match st, hs, h with
    | vy :: vx :: st', hs, h =>
      obtain ⟨y, s1, rfl, hy, hs1⟩ := aSm_cons hs
      obtain ⟨x, s', rfl, hx, hs'⟩ := aSm_cons hs1
      simp only [astep, Bool.and_eq_true, Nat.ble_eq] at h
      rw [yv4 (along h.1 hx), yv4 (along h.2.1 hy)]
      exact ⟨by rw [← asum_ok hs']; exact h.2.2.1, gp hs' (afrL_ok h.2.2.2 hS)⟩
  | 72, h =>
    match st, hs, h with
    | vx :: st', hs, h =>
      obtain ⟨x, s', rfl, hx, hs'⟩ := aSm_cons hs
      simp only [astep, Bool.and_eq_true, Nat.ble_eq] at h
      obtain ⟨h1, h0, h2⟩ := h
      rw [yv4 (along h1 hx)]
      refine ⟨by rw [← asum_ok hs']; exact h0, ?_⟩
      split at h2
      · next hz =>
        have hn := (anz_ok hS hz hx).2
        have hnz : ¬ w64 (if 0 < w64 x.2 then x.2 else -x.2) = 0 := by
          split
          · exact hn
          · exact aneg_nz hn
        have b0 := w64_lo (if 0 < w64 x.2 then x.2 else -x.2)
        have b3 := w64_hi (if 0 < w64 x.2 then x.2 else -x.2)
        obtain ⟨b1, b2⟩ := aS_new hS (q := a64) (x := w64 (if 0 < w64 x.2 then x.2 else -x.2)) b0 (by show _ ≤ (9223372036854775807 : Int); omega)
        refine hrec M nx lv _ frs _ h2 hM hfl (ρ ++ [w64 (if 0 < w64 x.2 then x.2 else -x.2)]) mem d l _ Q (aX_grow hX) hDd ⟨b1.1, b1.2.1, b1.2.2.1, fun q hq => ?_⟩ hF (aLm_grow hl) ⟨⟨rfl, b2⟩, aSm_grow hs'⟩ (aKs_grow hK)
        rcases List.mem_cons.mp hq with rfl | hq
        · exact ⟨_, b2, hnz⟩
        · exact b1.2.2.2 q hq
      · exact gp hs' (afrL_ok h2 hS)
end AM
