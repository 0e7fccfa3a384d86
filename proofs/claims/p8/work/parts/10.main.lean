section XE
variable {al : Bool} {b : Nat} {ρ : Nat → Int32} {sa : Nat → Nat} {dA : Nat → ClassId} {D : va_G} {M : xM} {p : Program} {l : Launch} {e : Env} {s : State} {m : MethodId} {args : Array Value} {below : List Frame} {meth : Method} {c : Code} {A : Nat → Prop} {Qc : Array Value → State → Outcome → State → Prop} {EX : State → Prop}
variable {mt : List xM} {ds : xD} {rec : xRec} {call : xCal} {pc nx : Nat} {lv : xL} {st : List xV} {K : xH} {ce sl : Nat} {κ : xK} {Ls : List xR}
abbrev xSndC (al : Bool) (b : Nat) (ρ : Nat → Int32) (sa : Nat → Nat) (dA : Nat → ClassId) (D : va_G) (EX : State → Prop) (l : Launch) (mt : List xM) (call : xCal) : Prop :=
  ∀ (mi : Nat) (M' : xM) (avs : List xV) (K : xH) (κ : xK) (Lc : List xR), mt[mi]? = some M' → call M' avs K κ = some Lc → xsum avs ≤ xMl M' → xKok ρ κ → ∀ sz, b ≤ sz → xMet al b ρ sa dA D EX l M' avs K Lc sz
theorem xsum_app (a : List xV) : ∀ c : List xV, xsum (c ++ a) = xsum c + xsum a
  | [] => by simp [xsum]
  | v :: r => by simp [xsum, xsum_app a r, Nat.add_assoc]
theorem xsum_rev : ∀ a : List xV, xsum a.reverse = xsum a
  | [] => rfl
  | v :: r => by
    rw [List.reverse_cons, xsum_app, xsum_rev r]
    simp [xsum, Nat.add_comm]
theorem xcall_un {M' : xM} {n0 mi : Nat} (hmi : mt[mi]? = some M') (h : xh_call mt M rec call n0 nx mi lv st K ce sl κ = some Ls) : xMn M' + n0 ≤ st.length ∧ xroom (xMm M) M' ce sl = true ∧ xsum (st.drop (xMn M' + n0)) ≤ 8 ∧ xsum (st.take (xMn M' + n0)) ≤ xMl M' ∧ ∃ Lc, call M' (st.take (xMn M' + n0)).reverse K κ = some Lc ∧ ∀ lf ∈ Lc, ∃ L, rec nx lv (xput (st.drop (xMn M' + n0)) lf.2.1) lf.2.2 (ce + (xMm M').cells) (sl + (xMm M').slots) lf.1 = some L ∧ ∀ q ∈ L, q ∈ Ls := by
  simp only [xh_call, hmi] at h
  split at h
  · next hc =>
    simp only [Bool.and_eq_true, Nat.ble_eq] at hc
    obtain ⟨h1, h2, h3, h4⟩ := hc
    split at h
    · cases h
    · next L hL => exact ⟨h1, h2, h3, h4, L, hL, fun lf hlf => xall_ok h lf hlf⟩
  · cases h
theorem xcallS_ok (hC : xCtx b dA D M p s m args meth c A EX) (hE : xEok b sa EX) (hmt : ∀ (mi : Nat) (M' : xM), mt[mi]? = some M' → xMok mt M') (hr : xSnd al b ρ sa dA D M p l e s m args below meth c A Qc rec) (hcl : xSndC al b ρ sa dA D EX l mt call) {mi : Nat} {M' : xM} (hmi : mt[mi]? = some M') (hc : xcS M pc M') (h : xh_call mt M rec call 0 (pc + 3) mi lv st K ce sl κ = some Ls) : xGood al b ρ sa dA D M p l e s m args below meth c A Qc pc lv st K ce sl κ Ls := by
  obtain ⟨h1, h2, h3, h4, Lc, h5, h6⟩ := xcall_un hmi h
  rw [Nat.add_zero] at h1 h3 h4 h5 h6
  have hst : st = ((st.take (xMn M')).reverse).reverse ++ st.drop (xMn M') := by rw [List.reverse_reverse, List.take_append_drop]
  exact xp_call hC hr (fun H locs ls hl hP hS hz hκ => xp_runS hC hE (hmt mi M' hmi) hc h2 hst (by rw [List.length_reverse, List.length_take, Nat.min_eq_left h1]) h3 (fun hκ => hcl mi M' _ K κ Lc hmi h5 (by rw [xsum_rev]; exact h4) hκ) H locs ls hl hP hS hz hκ) h6
theorem xsplitG {n : Nat} {v : xV} {r : List xV} (h : st.drop n = v :: r) (hl : n + 1 ≤ st.length) : st = ((st.take n).reverse).reverse ++ v :: r ∧ st.drop (n + 1) = r ∧ (st.take (n + 1)).reverse = v :: (st.take n).reverse ∧ ((st.take n).reverse).length = n := by
  refine ⟨?_, ?_, ?_, ?_⟩
  · rw [List.reverse_reverse, ← h, List.take_append_drop]
  · rw [← List.drop_drop, h]
    rfl
  · have e : st.take (n + 1) = st.take n ++ [v] := by
      rw [List.take_add, h]
      rfl
    rw [e, List.reverse_append]
    rfl
  · rw [List.length_reverse, List.length_take]
    omega
theorem xcallV_ok (hC : xCtx b dA D M p s m args meth c A EX) (hE : xEok b sa EX) (hmt : ∀ (mi : Nat) (M' : xM), mt[mi]? = some M' → xMok mt M') (hr : xSnd al b ρ sa dA D M p l e s m args below meth c A Qc rec) (hcl : xSndC al b ρ sa dA D EX l mt call) {mi i ci : Nat} {M' : xM} {r fs : List xV} {q : vw_C} (hmi : mt[mi]? = some M') (hc : xcV M pc M') (hKi : K[i]? = some (.inr (ci, fs))) (hq : vwCl[ci]? = some q) (hqn : q.1 = (xMy M').cls) (hd : st.drop (xMn M') = (1, i) :: r) (h : xh_call mt M rec call 1 (pc + 3) mi lv st K ce sl κ = some Ls) : xGood al b ρ sa dA D M p l e s m args below meth c A Qc pc lv st K ce sl κ Ls := by
  obtain ⟨h1, h2, h3, h4, Lc, h5, h6⟩ := xcall_un hmi h
  obtain ⟨s1, s2, s3, s4⟩ := xsplitG hd h1
  rw [s2] at h3 h6
  have h7 : xsum (st.take (xMn M' + 1)).reverse ≤ xMl M' := by rw [xsum_rev]; exact h4
  rw [s3] at h5 h7
  exact xp_call hC hr (fun H locs ls hl hP hS hz hκ => xp_runV hC hE (hmt mi M' hmi) hc h2 hKi hq hqn s1 s4 h3 (fun hκ => hcl mi M' _ K κ Lc hmi h5 h7 hκ) H locs ls hl hP hS hz hκ) h6
theorem xcallI_ok (hC : xCtx b dA D M p s m args meth c A EX) (hE : xEok b sa EX) (hmt : ∀ (mi : Nat) (M' : xM), mt[mi]? = some M' → xMok mt M') (hr : xSnd al b ρ sa dA D M p l e s m args below meth c A Qc rec) (hcl : xSndC al b ρ sa dA D EX l mt call) {mi i : Nat} {M' : xM} {r : List xV} (hmi : mt[mi]? = some M') (hc : xcI M pc M') (hd : st.drop (xMn M') = (1, i) :: r) (h : xh_call mt M rec call 1 (pc + 3) mi lv st K ce sl κ = some Ls) : xGood al b ρ sa dA D M p l e s m args below meth c A Qc pc lv st K ce sl κ Ls := by
  obtain ⟨h1, h2, h3, h4, Lc, h5, h6⟩ := xcall_un hmi h
  obtain ⟨s1, s2, s3, s4⟩ := xsplitG hd h1
  rw [s2] at h3 h6
  have h7 : xsum (st.take (xMn M' + 1)).reverse ≤ xMl M' := by rw [xsum_rev]; exact h4
  rw [s3] at h5 h7
  exact xp_call hC hr (fun H locs ls hl hP hS hz hκ => xp_runI hC hE (hmt mi M' hmi) hc h2 s1 s4 h3 (fun hκ => hcl mi M' _ K κ Lc hmi h5 h7 hκ) H locs ls hl hP hS hz hκ) h6
theorem xne0 {n : Nat} (h : 0 < n) (h2 : n < 4294967296) : ¬ nI n = 0 := by
  intro e
  have h3 := sgI_nI h2
  rw [e, show (0 : Int32) = nI 0 from rfl, sgI_nI (by decide)] at h3
  simp only [xsg] at h3
  omega
theorem xdivne {o x y z : Nat} (h : xbin o x y = some z) (ho : o = 9 ∨ o = 10) : ¬ nI y = 0 := by
  rcases ho with rfl | rfl <;>
  · simp only [xbin] at h
    split at h
    · next hc =>
      simp only [Bool.and_eq_true, Nat.blt_eq] at hc
      exact xne0 hc.1.1 (by omega)
    · cases h
theorem xlcmp0 {x y : Nat} (hx : x < 9223372036854775808) (hy : y < 9223372036854775808) : lg_cmp (lN x) (lN y) = nI (if Nat.blt y x then 1 else if Nat.beq x y then 0 else 4294967295) := by
  have h1 := pk_lLT hy hx
  have h2 := pk_lEQ hx hy
  simp only [lg_cmp, gt_iff_lt, h1, h2]
  by_cases a : y < x
  · have e1 : Nat.blt y x = true := by rw [Nat.blt_eq]; exact a
    rw [if_pos a, e1]
    rfl
  · have e1 : Nat.blt y x = false := by rw [← Bool.not_eq_true, Nat.blt_eq]; exact a
    rw [if_neg a, e1]
    by_cases d : x = y
    · have e2 : Nat.beq x y = true := by rw [Nat.beq_eq]; exact d
      rw [if_pos d, e2]
      rfl
    · have e2 : Nat.beq x y = false := by rw [← Bool.not_eq_true, Nat.beq_eq]; exact d
      rw [if_neg d, e2]
      decide +kernel
theorem xlcmp {x y : Nat} (h : x = y ∨ (x < 9223372036854775808 ∧ y < 9223372036854775808)) : lg_cmp (lN x) (lN y) = nI (if Nat.blt y x then 1 else if Nat.beq x y then 0 else 4294967295) := by
  rcases h with h | h
  · subst h
    have e1 : Nat.blt x x = false := by rw [← Bool.not_eq_true, Nat.blt_eq]; omega
    have e2 : Nat.beq x x = true := by rw [Nat.beq_eq]
    rw [e1, e2]
    have e3 : ¬ lN x < lN x := fun z => by
      have := Int64.lt_iff_toInt_lt.mp z
      omega
    simp only [lg_cmp, gt_iff_lt, if_neg e3]
    rfl
  · exact xlcmp0 h.1 h.2
theorem xnarB {n : Nat} (h : n < 128) : narrow .byte (.int (nI n)) = .int (nI n) := (by decide +kernel : ∀ n : Fin 128, narrow .byte (.int (nI n.val)) = .int (nI n.val)) ⟨n, h⟩
set_option maxHeartbeats 4000000 in
theorem xstep_ok (hls : l.stackTraces = false) (hC : xCtx b dA D M p s m args meth c A EX) (hE : xEok b sa EX) (hds : xdok ρ ds) (hsc : ∀ s : State, EX s → ∀ L : Nat, xSc ds = some L → va_X (sa 50) L (fun n => ρ (n + 1)) s s.heap ∧ sa 50 < b) (hmt : ∀ (mi : Nat) (M' : xM), mt[mi]? = some M' → xMok mt M') (hr : xSnd al b ρ sa dA D M p l e s m args below meth c A Qc rec) (hcl : xSndC al b ρ sa dA D EX l mt call) (hMk : ∀ q ∈ xMk M, xok mt M q.1 q.2) {op : xOp} (hok : xok mt M pc op) (h : xstep mt ds al M rec call op lv st K ce sl κ = some Ls) : xGood al b ρ sa dA D M p l e s m args below meth c A Qc pc lv st K ce sl κ Ls := by
  obtain ⟨tg, nx, a, d, cs⟩ := op
  match tg, hok, h with
  | 0, hok, h => exact xp_T hC hr (st0 := []) (st1 := [(0, a)]) hok h
  | 1, hok, h => exact xp_T hC hr (st0 := []) (st1 := [(4, a)]) hok h
  | 2, hok, h =>
    simp only [xstep] at h
    split at h
    · cases h
    · next v hv =>
      split at h
      · next hk => exact xp_load hC hr hok.1 hok.2 hv hk h
      · cases h
  | 3, hok, h =>
    match st, h with
    | v :: st', h =>
      simp only [xstep] at h
      split at h
      · next hc =>
        simp only [Bool.and_eq_true, Nat.blt_eq] at hc
        exact xp_store hC hr hok.1 hok.2 hc.1 hc.2 h
      · cases h
  | 4, hok, h =>
    simp only [xstep] at h
    split at h
    · next x hv =>
      split at h
      · next hi =>
        rw [Nat.blt_eq] at hi
        exact xp_iinc hC hr hok hv hi h
      · cases h
    · cases h
  | 5, hok, h =>
    match st, h with
    | y :: x :: st', h =>
      simp only [xstep] at h
      split at h
      · next y' x' hy hx =>
        split at h
        · cases h
        · next z hz =>
          refine xp_bin hC hr (o := a) hok (fun hκ => ?_) h
          have ex := xnm_ok hκ (b := b) (sa := sa) x
          have ey := xnm_ok hκ (b := b) (sa := sa) y
          rw [hx] at ex
          rw [hy] at ey
          refine ⟨?_, ?_, ?_, fun ho => ?_⟩
          · rw [← ex.1, ← ex.2]; rfl
          · rw [← ey.1, ← ey.2]; rfl
          · rw [← ex.2, ← ey.2]
            show Value.int (nI z) = .int (fbin a (nI x') (nI y'))
            rw [xbin_ok hz]
          · rw [← ey.2]
            exact xdivne hz ho
      · next y' x' _ =>
        split at h
        · next hc =>
          simp only [Bool.and_eq_true, Nat.blt_eq] at hc
          split at h
          · cases h
          · next k hk =>
            refine xp_bin hC hr (o := a) hok (fun hκ => ?_) h
            have ex := xnm_ok hκ (b := b) (sa := sa) x
            have ey := xnm_ok hκ (b := b) (sa := sa) y
            obtain ⟨i, e1, e2⟩ := xidx_ok hk
            rw [Nat.zero_add] at e1
            subst e1
            have hd := hds _ _ _ _ e2 (by omega)
            rw [xfd, if_neg (by omega)] at hd
            refine ⟨?_, ?_, ?_, fun ho => by omega⟩
            · rw [← ex.1, ← ex.2]; exact xk0 hc.2.1
            · rw [← ey.1, ← ey.2]; exact xk0 hc.1
            · rw [← ex.2, ← ey.2]
              show Value.int (ρ k) = _
              rw [hd]
        · cases h
  | 6, hok, h =>
    match st, h with
    | x :: st', h =>
      simp only [xstep] at h
      split at h
      · next hx =>
        split at h
        · cases h
        · next k hk =>
          obtain ⟨i, e1, e2⟩ := xidx_ok hk
          rw [Nat.zero_add] at e1
          subst e1
          have hd := hds _ _ _ _ e2 (by omega)
          rw [xfd, if_pos rfl] at hd
          refine xp_T hC hr (st0 := [x]) (st1 := [(3, k)]) ?_ h
          have := hok (xdi ρ x)
          rw [← hd] at this
          rw [show [x].map (xdv b ρ sa) = [.int (xdi ρ x)] by rw [← xk0 hx (b := b) (sa := sa)]; rfl]
          exact this
      · cases h
  | 7, hok, h =>
    match st, h with
    | (4, y) :: (4, x) :: st', h =>
      simp only [xstep] at h
      split at h
      · cases h
      · next z hz =>
        refine xp_T hC hr (st0 := [(4, y), (4, x)]) (st1 := [(4, z)]) ?_ h
        have := hok (lN x) (lN y)
        dsimp only at this
        rw [xlb_ok hz] at this
        exact this
  | 8, hok, h =>
    match st, h with
    | (4, y) :: (4, x) :: st', h =>
      simp only [xstep] at h
      split at h
      · next hc =>
        simp only [Bool.or_eq_true, Bool.and_eq_true, Nat.blt_eq, Nat.beq_eq] at hc
        refine xp_T hC hr (st0 := [(4, y), (4, x)]) (st1 := [(0, _)]) ?_ h
        have := hok (lN x) (lN y)
        rw [xlcmp hc] at this
        exact this
      · cases h
  | 9, hok, h =>
    match st, h with
    | v :: st', h =>
      simp only [xstep] at h
      split at h
      · next hc =>
        rw [Nat.beq_eq] at hc
        exact xp_T hC hr (st0 := [v]) (st1 := [v, v]) (hok _ (by rw [xcat_ok]; exact hc)) h
      · cases h
  | 10, hok, h =>
    match st, h with
    | v :: st', h =>
      simp only [xstep] at h
      split at h
      · next hc =>
        rw [Nat.beq_eq] at hc
        exact xp_T hC hr (st0 := [v]) (st1 := []) (hok _ (by rw [xcat_ok]; exact hc)) h
      · cases h
  | 11, hok, h =>
    match st, h with
    | v :: w :: st', h =>
      simp only [xstep] at h
      split at h
      · next hc =>
        simp only [Bool.and_eq_true, Nat.beq_eq] at hc
        exact xp_T hC hr (st0 := [v, w]) (st1 := [v, w, v, w]) (hok _ _ (by rw [xcat_ok]; exact hc.1) (by rw [xcat_ok]; exact hc.2)) h
      · cases h
  | 12, hok, h =>
    match st, h with
    | x :: st', h =>
      simp only [xstep] at h
      split at h
      · next hx => exact xp_fork0 hC hr hok hx h
      · cases h
  | 13, hok, h =>
    match st, h with
    | y :: x :: st', h =>
      simp only [xstep] at h
      split at h
      · next hx =>
        simp only [Bool.and_eq_true] at hx
        exact xp_fork hC hr hok hx.1 hx.2 h
      · cases h
  | 14, hok, h => exact xp_T hC hr (st0 := []) (st1 := []) hok h
  | 15, hok, h =>
    match st, h with
    | x :: st', h =>
      simp only [xstep] at h
      split at h
      · next hx => exact xp_sw hC hr hok hx h
      · cases h
  | 16, hok, h =>
    match st, h with
    | (1, i) :: st', h =>
      simp only [xstep] at h
      split at h
      · next ci fs hK =>
        split at h
        · next he =>
          rw [Nat.beq_eq] at he
          rw [he] at hK
          split at h
          · cases h
          · next v hv => exact xp_getf hC hr hok hK hv h
        · cases h
      · cases h
  | 17, hok, h =>
    match st, h with
    | v :: (1, i) :: st', h =>
      obtain ⟨ty, fin, z, e1, e2, e3⟩ := hok
      dsimp only at e1
      subst e1
      simp only [xstep] at h
      split at h
      · next ci fs hK =>
        split at h
        · next he =>
          simp only [Bool.and_eq_true, Nat.beq_eq, Nat.blt_eq] at he
          obtain ⟨h1, h2, h3⟩ := he
          rw [h1] at hK h
          exact xp_putf hC hr e2 e3 h2 h3 hK h
        · cases h
      · cases h
  | 18, hok, h =>
    match st, h with
    | (1, i) :: st', h =>
      simp only [xstep] at h
      split at h
      · next t vs hK =>
        split at h
        · next ht =>
          rw [Nat.blt_eq] at ht
          exact xp_alen hC hr hok.1 ht hK h
        · cases h
      · cases h
    | (6, k) :: st', h =>
      simp only [xstep] at h
      split at h
      · next hk =>
        rw [Nat.blt_eq] at hk
        intro H locs ls hl hP hS hz hA0 hκ hQ
        have := hr _ _ _ _ _ _ _ _ h H locs ls hl hP hS hz hA0 hκ hQ
        rw [List.map_cons] at this ⊢
        exact hok.2 p l e _ s m args below meth c H locs ce sl _ ls _ hC.1 b sa A (hE.2.2 s hC.2.2.2.2.2.2.2.2.1) hS hC.2.2.2.2.1 k hk this
      · cases h
  | 19, hok, h =>
    match st, h with
    | j :: (1, i) :: st', h =>
      simp only [xstep] at h
      split at h
      · next t vs n hK hj =>
        split at h
        · next hc =>
          simp only [Bool.and_eq_true, Nat.beq_eq, Nat.blt_eq] at hc
          obtain ⟨h1, hn⟩ := hc
          rw [h1] at hK
          split at h
          · cases h
          · next v hv =>
            rw [xnth_ok] at hv
            split at h
            · next hk => exact xp_read hC hr hok.1 hok.2 hj hn hK hv hk h
            · cases h
        · cases h
      · next t vs k hK hj =>
        split at h
        · next hc =>
          simp only [Bool.and_eq_true, Nat.beq_eq] at hc
          obtain ⟨h1, hk, hv⟩ := hc
          rw [h1] at hK
          exact xp_readz hC hr hok.1 hok.2 hj hk hK hv h
        · cases h
      · cases h
  | 20, hok, h =>
    match st, h with
    | j :: (1, i) :: st', h =>
      simp only [xstep] at h
      split at h
      · next vs n hK hj =>
        split at h
        · next hn =>
          rw [Nat.blt_eq] at hn
          split at h
          · next q hv => exact xp_readr hC hr hok hj hn hK hv h
          · cases h
        · cases h
      · cases h
  | 21, hok, h =>
    match st, h with
    | v :: j :: (1, i) :: st', h =>
      simp only [xstep] at h
      split at h
      · next t vs n hK hj =>
        split at h
        · next hc =>
          simp only [Bool.and_eq_true, Nat.beq_eq, Nat.blt_eq] at hc
          obtain ⟨h1, hn, hv⟩ := hc
          obtain ⟨w1, w2, w3⟩ := xwok_ok hds hv
          split at h
          · cases h
          · next w hw =>
            rw [xnth_ok] at hw
            have hl := (List.getElem?_eq_some_iff.mp hw).1
            have h : rec nx lv st' (K.set i (.inl (t, vs.set n v))) ce sl κ = some Ls := by
              split at h
              · next he =>
                rw [xeqv_ok he] at hw
                rw [xset_same hK hw]
                exact h
              · exact h
            rw [h1] at hK h w1 w3
            exact xp_write hC hr w1 hok hj hn hK hl w2 w3 h
        · cases h
      · cases h
  | 44, hok, h =>
    simp only [xstep] at h
    split at h
    · next q hq =>
      obtain ⟨o, k⟩ := q
      split at h
      · next fs hfs =>
        split at h
        · next hc =>
          simp only [Bool.and_eq_true, Nat.blt_eq] at hc
          obtain ⟨hs, hx, hM2, h1, h2, h3, hal⟩ := hc
          rw [xlv3_ok hq]
          rw [xnl0_ok hs] at h ⊢
          have hpc : pc = 6 := hok
          rw [hpc]
          exact xp_clear hC (fun q hq => hMk q (of_decide_eq_true (List.all_eq_true.mp hal q hq))) hM2 (xob_ok hfs) hx h1 h2 h3 (hr _ _ _ _ _ _ _ _ h) 1000 0 rfl
        · cases h
      · cases h
    · cases h
  | 22, hok, h =>
    simp only [xstep] at h
    split at h
    · next hc =>
      simp only [Bool.and_eq_true, Nat.blt_eq, Nat.ble_eq] at hc
      exact xp_new hC hr hok hc.1 hc.2.1 hc.2.2.1 hc.2.2.2 h
    · cases h
  | 23, hok, h =>
    match st, h with
    | (0, n) :: st', h =>
      simp only [xstep] at h
      split at h
      · next hc =>
        simp only [Bool.and_eq_true, Nat.blt_eq, Nat.ble_eq] at hc
        exact xp_newa hC hr hok.1 hok.2 hc.1 hc.2.1 hc.2.2.1 hc.2.2.2 h
      · cases h
  | 25, hok, h =>
    match st, h with
    | (1, i) :: st', h =>
      simp only [xstep] at h
      split at h
      · next hc =>
        simp only [Bool.and_eq_true, Nat.ble_eq] at hc
        exact xp_oinit hC hr hok hc.1 hc.2 h
      · cases h
  | 26, hok, h =>
    match st, h with
    | (0, n) :: (0, dp) :: (1, d0) :: (0, sp) :: (1, s0) :: st', h =>
      simp only [xstep] at h
      split at h
      · next vs ws hKs hKd =>
        split at h
        · next hc =>
          simp only [Bool.and_eq_true, Nat.ble_eq, Nat.blt_eq] at hc
          obtain ⟨c1, c2, c3, c4, c5, c6⟩ := hc
          exact xp_copy hC hr hok hKs hKd c1 c2 c3 c4 c5 c6 h
        · cases h
      · cases h
  | 27, hok, h =>
    obtain ⟨e1, M', hmi, hc⟩ := hok
    dsimp only at e1 hmi
    subst e1
    exact xcallS_ok hC hE hmt hr hcl hmi hc h
  | 28, hok, h =>
    obtain ⟨e1, M', hmi, hc, q, hq, hqn⟩ := hok
    dsimp only at e1 hmi hq
    subst e1
    simp only [xstep, hmi] at h
    split at h
    · next i r hd =>
      split at h
      · next ci fs hK =>
        split at h
        · next he =>
          rw [Nat.beq_eq] at he
          rw [he] at hK
          exact xcallV_ok hC hE hmt hr hcl hmi hc hK hq hqn hd h
        · cases h
      · cases h
    · cases h
  | 29, hok, h =>
    obtain ⟨e1, M', hmi, hc⟩ := hok
    dsimp only at e1 hmi
    subst e1
    simp only [xstep, hmi] at h
    split at h
    · next i r hd => exact xcallI_ok hC hE hmt hr hcl hmi hc hd h
    · cases h
  | 30, hok, h =>
    match st, h with
    | [v], h =>
      obtain ⟨hd, ty, h1, h2, h3⟩ := hok
      dsimp only at h2
      simp only [xstep] at h
      split at h
      · next hc =>
        simp only [Bool.and_eq_true, Nat.ble_eq] at hc
        cases h
        rw [← h2] at hc
        exact xp_iret hC hd h1 h3 hc.1 hc.2.1 hc.2.2
      · cases h
  | 31, hok, h =>
    match st, h with
    | [v], h =>
      simp only [xstep] at h
      split at h
      · next hc =>
        simp only [Bool.and_eq_true, Nat.ble_eq] at hc
        cases h
        exact xp_lret hC hok.1 hok.2 hc.1 hc.2.1 hc.2.2
      · cases h
  | 32, hok, h =>
    match st, h with
    | [], h =>
      simp only [xstep] at h
      split at h
      · next hc =>
        simp only [Bool.and_eq_true, Nat.ble_eq] at hc
        cases h
        exact xp_vret hC hok.1 hok.2 hc.1 hc.2
      · cases h
  | 24, hok, h =>
    match st, h with
    | (0, k) :: (0, n) :: st', h =>
      simp only [xstep] at h
      split at h
      · next hc =>
        simp only [Bool.and_eq_true, Nat.ble_eq] at hc
        obtain ⟨c1, c2, c3, c4, c5⟩ := hc
        exact xp_mna hC hE hr hok c1 c2 c3 c4 c5 h
      · cases h
  | 33, hok, h =>
    intro H locs ls hl hP hS hz hA0 hκ hQ
    have := hr _ _ _ _ _ _ _ _ h H locs ls hl hP hS hz hA0 hκ hQ
    rw [List.map_cons] at this
    exact hok p l e _ s m args below meth c H locs ce sl _ ls _ hC.1 b sa (hE.2.2 s hC.2.2.2.2.2.2.2.2.1) this
  | 34, hok, h =>
    intro H locs ls hl hP hS hz hA0 hκ hQ
    have := hr _ _ _ _ _ _ _ _ h H locs ls hl hP hS hz hA0 hκ hQ
    rw [List.map_cons] at this
    exact hok p l e _ s m args below meth c H locs ce sl _ ls _ hC.1 b sa A (hE.2.2 s hC.2.2.2.2.2.2.2.2.1) hS hC.2.2.2.2.1 this
  | 35, hok, h =>
    match st, h with
    | (5, k) :: st', h =>
      simp only [xstep] at h
      split at h
      · next hk =>
        rw [Nat.blt_eq] at hk
        intro H locs ls hl hP hS hz hA0 hκ hQ
        have := hr _ _ _ _ _ _ _ _ h H locs ls hl hP hS hz hA0 hκ hQ
        rw [List.map_cons] at this ⊢
        refine hok p l e _ s m args below meth c H locs ce sl _ ls _ hC.1 b sa A (hE.2.2 s hC.2.2.2.2.2.2.2.2.1) hS hC.2.2.2.2.1 k hk ?_
        dsimp only at this ⊢
        by_cases ha : a = 0
        · rw [if_pos (by rw [Nat.beq_eq]; exact ha)] at this
          rw [if_pos ha]
          exact this
        · rw [if_neg (by rw [Nat.beq_eq]; exact ha)] at this
          rw [if_neg ha]
          exact this
      · cases h
  | 36, hok, h =>
    match st, h with
    | y :: x :: st', h =>
      simp only [xstep] at h
      split at h
      · next y' x' hy hx =>
        split at h
        · next hc =>
          simp only [Bool.and_eq_true, Nat.ble_eq, Nat.blt_eq] at hc
          obtain ⟨c1, c2, c3, c4, c5, c6⟩ := hc
          intro H locs ls hl hP hS hz hA0 hκ hQ
          have := hr _ _ _ _ _ _ _ _ h H locs ls hl hP hS hz hA0 hκ hQ
          have ex := (xnm_ok hκ (b := b) (sa := sa) x).1
          have ey := (xnm_ok hκ (b := b) (sa := sa) y).1
          rw [hx] at ex
          rw [hy] at ey
          rw [List.map_cons] at this
          rw [List.map_cons, List.map_cons, ← ex, ← ey]
          refine hok p l e _ s m args below meth c H locs ce sl _ ls _ hC.1 (nI x') (nI y') (by rw [hC.2.1, hl.1]) c3 (by rw [xsum_ok]; exact c4) c5 c6 ?_
          have hcmp := xcb_ok (c := 2) c1 c2
          simp only [xcp] at hcmp
          by_cases hl : nI y' < nI x'
          · rw [if_pos hl]
            rw [if_pos (hcmp.mpr hl)] at this
            exact this
          · rw [if_neg hl]
            rw [if_neg (fun z => hl (hcmp.mp z))] at this
            exact this
        · cases h
      · cases h
  | 37, hok, h =>
    match st, h with
    | j :: (6, k) :: st', h =>
      simp only [xstep] at h
      split at h
      · next n hj =>
        split at h
        · next hc =>
          simp only [Bool.and_eq_true, Nat.blt_eq] at hc
          intro H locs ls hl hP hS hz hA0 hκ hQ
          have := hr _ _ _ _ _ _ _ _ h H locs ls hl hP hS hz hA0 hκ hQ
          have ej := (xnm_ok hκ (b := b) (sa := sa) j).1
          rw [hj] at ej
          rw [List.map_cons] at this
          rw [List.map_cons, List.map_cons, ← ej]
          exact hok p l e _ s m args below meth c H locs ce sl _ ls _ hC.1 b sa A (hE.2.2 s hC.2.2.2.2.2.2.2.2.1) hS hC.2.2.2.2.1 k n hc.1 hc.2.1 hc.2.2 this
        · cases h
      · cases h
  | 38, hok, h =>
    match st, h with
    | (0, n) :: st', h =>
      simp only [xstep] at h
      split at h
      · next hn =>
        rw [Nat.blt_eq] at hn
        refine xp_T hC hr (st0 := [(0, n)]) (st1 := [(0, n)]) ?_ h
        have := hok (nI n)
        rw [pk_char, pk_tn (by omega), Nat.mod_eq_of_lt hn] at this
        exact this
      · cases h
  | 39, hok, h =>
    obtain ⟨e1, M', hmi, hc, hq⟩ := hok
    dsimp only at e1 hmi
    subst e1
    simp only [xstep, hmi] at h
    split at h
    · next k r hd =>
      split at h
      · next hk =>
        rw [Nat.blt_eq] at hk
        obtain ⟨h1, h2, h3, h4, Lc, h5, h6⟩ := xcall_un hmi h
        obtain ⟨s1, s2, s3, s4⟩ := xsplitG hd h1
        rw [s2] at h3 h6
        have h7 : xsum (st.take (xMn M' + 1)).reverse ≤ xMl M' := by rw [xsum_rev]; exact h4
        rw [s3] at h5 h7
        exact xp_call hC hr (fun H locs ls hl hP hS hz hκ => xp_runVs hC hE (hmt _ M' hmi) hc h2 hk hq s1 s4 h3 (fun hκ => hcl _ M' _ K κ Lc hmi h5 h7 hκ) H locs ls hl hP hS hz hκ) h6
      · cases h
    · cases h
  | 40, hok, h =>
    match st, h with
    | [(0, n)], h =>
      obtain ⟨hd, ty, h1, h2⟩ := hok
      dsimp only at h2
      rcases h2 with ⟨e1, e2⟩ | ⟨e1, e2⟩
      · rw [e1] at h
        change (if (Nat.blt n 65536 && (Nat.ble ce (xMm M).cells && Nat.ble sl (xMm M).slots)) = true then some [(κ, some (0, n), K)] else none) = some Ls at h
        split at h
        · next hc =>
          simp only [Bool.and_eq_true, Nat.ble_eq, Nat.blt_eq] at hc
          cases h
          exact xp_zret hC hd h1 (by rw [e2]; exact (pk_charN hc.1).1) hc.2.1 hc.2.2
        · cases h
      · rw [e1] at h
        change (if (Nat.blt n 128 && (Nat.ble ce (xMm M).cells && Nat.ble sl (xMm M).slots)) = true then some [(κ, some (0, n), K)] else none) = some Ls at h
        split at h
        · next hc =>
          simp only [Bool.and_eq_true, Nat.ble_eq, Nat.blt_eq] at hc
          cases h
          exact xp_zret hC hd h1 (by rw [e2]; exact xnarB hc.1) hc.2.1 hc.2.2
        · cases h
  | 41, hok, h =>
    intro H locs ls hl hP hS hz hA0 hκ hQ
    have := hr _ _ _ _ _ _ _ _ h H locs ls hl hP hS hz hA0 hκ hQ
    rw [List.map_cons] at this
    exact hok p l e _ s m args below meth c H locs ce sl _ ls _ hC.1 b sa A (hE.2.2 s hC.2.2.2.2.2.2.2.2.1) hS hC.2.2.2.2.1 this
  | 42, hok, h =>
    match st, h with
    | (5, 50) :: st', h =>
      simp only [xstep] at h
      split at h
      · next L hL =>
        obtain ⟨hX, hq⟩ := hsc s hC.2.2.2.2.2.2.2.2.1 L hL
        intro H locs ls hl hP hS hz hA0 hκ hQ
        have := hr _ _ _ _ _ _ _ _ h H locs ls hl hP hS hz hA0 hκ hQ
        rw [List.map_cons] at this ⊢
        have hb := hC.2.2.2.2.2.2.2.2.2
        exact hok p l e _ s m args below meth c H locs ce sl _ ls _ hC.1 (sa 50) L _ A hX (by omega) (fun z => by have := hC.2.2.2.2.1 _ z; omega) hS this
      · cases h
  | 43, hok, h =>
    match st, h with
    | j :: (5, 50) :: st', h =>
      simp only [xstep] at h
      split at h
      · next L n hL hj =>
        split at h
        · next hc =>
          simp only [Bool.and_eq_true, Nat.blt_eq] at hc
          obtain ⟨hX, hq⟩ := hsc s hC.2.2.2.2.2.2.2.2.1 L hL
          intro H locs ls hl hP hS hz hA0 hκ hQ
          have := hr _ _ _ _ _ _ _ _ h H locs ls hl hP hS hz hA0 hκ hQ
          have ej := (xnm_ok hκ (b := b) (sa := sa) j).1
          rw [hj] at ej
          rw [List.map_cons, (xnm_ok hκ _).1] at this
          rw [List.map_cons, List.map_cons, ← ej]
          have hb := hC.2.2.2.2.2.2.2.2.2
          exact hok p l e _ s m args below meth c H locs ce sl _ ls _ hC.1 (sa 50) L _ A hX (by omega) (fun z => by have := hC.2.2.2.2.1 _ z; omega) hS n hc.1 (by omega) hc.2 this
        · cases h
      · cases h
  | 50, hok, h | 45, hok, h | 46, hok, h | 47, hok, h | 48, hok, h | 49, hok, h => cases h
  | n + 51, hok, h => cases h
end XE
