section YM
variable {E : yE} {R : Room} {d : Nat} {M : xM} {pc : Nat} {lv : yL} {st : List yV} {mem : yMem} {ce sl : Nat} {Post : Option yV → yMem → Prop}
theorem y_ld {v : yV} (hs : ∀ (p : Program) (e : Env) (s : State) (m : MethodId) (args : Array Value) (below : List Frame) (meth : Method) (c : Code) (A : Nat → Prop) (Q : State → Prop), yCtx E M p s m args meth c A → ∀ (H : Heap) (locs : List Loc) (ls : Array Slot), va_S A s.heap H locs → W p (yl E) e R s m args below meth c H locs ce sl Q (F0 m d ls ((v :: st).map (ydv E))) → W p (yl E) e R s m args below meth c H locs ce sl Q (F0 m pc ls (st.map (ydv E)))) (h : yG E R M d lv (v :: st) mem ce sl Post) : yG E R M pc lv st mem ce sl Post := by
  intro p e s m args below meth c A Qc hC hQ H locs ls hl hP hS
  exact hs p e s m args below meth c A _ hC H locs ls hS (h p e s m args below meth c A Qc hC hQ H locs ls hl hP hS)
theorem y_callS (hE : yEok E) (hR : d + 1 ≤ R.frames ∧ 64 * d + 64 ≤ R.locals) (hcs : ce ≤ R.cells ∧ sl ≤ R.slots) {mi : Nat} {M' : xM} (hmi : xmt[mi]? = some M') (hc : xcS M pc M' ∨ xcSN M pc M') (h : ycall E d mi 0 st mem (fun st' mem' => yG E R M (pc + 3) lv st' mem' ce sl Post)) : yG E R M pc lv st mem ce sl Post := by
  unfold ycall at h
  rw [hmi] at h
  obtain ⟨h1, h2, h3, h4, h5⟩ := h
  rw [Nat.add_zero] at h1 h2 h3 h5
  have hst : st = ((st.take (xMn M')).reverse).reverse ++ st.drop (xMn M') := by rw [List.reverse_reverse, List.take_append_drop]
  have hlen : ((st.take (xMn M')).reverse).length = xMn M' := by rw [List.length_reverse, List.length_take, Nat.min_eq_left h1]
  rcases hc with hc | hc
  · exact y_call (y_runS hE (xmt_ok mi M' hmi) hc h4 hR hcs hst hlen h2 h5) (fun r mem' z => z)
  · exact y_call (y_runSN hE (xmt_ok mi M' hmi) hc h4 hR hcs hst hlen h2 h5) (fun r mem' z => z)
theorem y_callV (hE : yEok E) (hR : d + 1 ≤ R.frames ∧ 64 * d + 64 ≤ R.locals) (hcs : ce ≤ R.cells ∧ sl ≤ R.slots) {mi ci : Nat} {z : Int} {M' : xM} {r fs : List yV} {q : vw_C} (hmi : xmt[mi]? = some M') (hc : xcV M pc M') (hKi : ysh[z.toNat]? = some (.inr (ci, fs))) (hq : vwCl[ci]? = some q) (hqn : q.1 = (xMy M').cls) (hd : st.drop (xMn M') = (1, z) :: r) (h : ycall E d mi 1 st mem (fun st' mem' => yG E R M (pc + 3) lv st' mem' ce sl Post)) : yG E R M pc lv st mem ce sl Post := by
  unfold ycall at h
  rw [hmi] at h
  obtain ⟨h1, h2, h3, h4, h5⟩ := h
  obtain ⟨s1, s2, s3, s4⟩ := y_split hd h1
  rw [s2] at h2 h5
  rw [s3] at h5
  exact y_call (y_runV hE (xmt_ok mi M' hmi) hc h4 hR hcs hKi hq hqn s1 s4 h2 h5) (fun r mem' z => z)
theorem y_callVs (hE : yEok E) (hR : d + 1 ≤ R.frames ∧ 64 * d + 64 ≤ R.locals) (hcs : ce ≤ R.cells ∧ sl ≤ R.slots) {mi : Nat} {z : Int} {M' : xM} {r : List yV} (hmi : xmt[mi]? = some M') (hc : xcV M pc M') (hk : z.toNat < 3) (hcls : (xMy M').cls = "java/lang/String") (hd : st.drop (xMn M') = (5, z) :: r) (h : ycall E d mi 1 st mem (fun st' mem' => yG E R M (pc + 3) lv st' mem' ce sl Post)) : yG E R M pc lv st mem ce sl Post := by
  unfold ycall at h
  rw [hmi] at h
  obtain ⟨h1, h2, h3, h4, h5⟩ := h
  obtain ⟨s1, s2, s3, s4⟩ := y_split hd h1
  rw [s2] at h2 h5
  rw [s3] at h5
  exact y_call (y_runVs hE (xmt_ok mi M' hmi) hc h4 hR hcs hk hcls s1 s4 h2 h5) (fun r mem' z => z)
theorem y_char {x : Int} (h1 : 0 ≤ x) (h2 : x < 65536) : ((iI x).toUInt32 % 65536).toInt32 = iI x := by
  have e : iI x = nI x.toNat := by rw [← iI_n]; congr 1; omega
  rw [e, pk_char, pk_tn (by omega), Nat.mod_eq_of_lt (by omega)]
theorem y_math {nx : Nat} {st0 st1 : List yV} (hR : d + 1 ≤ R.frames ∧ 64 * d + 64 ≤ R.locals) (hcs : ce ≤ R.cells ∧ sl ≤ R.slots) (hT : xMth (xMc M) (xMo M) pc nx (st0.map (ydv E)) (st1.map (ydv E))) (hs : ysum st ≤ 8) (h : yG E R M nx lv (st1 ++ st) mem ce sl Post) : yG E R M pc lv (st0 ++ st) mem ce sl Post := by
  intro p e s m args below meth c A Qc hC hQ H locs ls hl hP hS
  have := h p e s m args below meth c A Qc hC hQ H locs ls hl hP hS
  rw [List.map_append] at this ⊢
  exact hT p (yl E) e R s m args below meth c H locs ce sl _ ls _ hC.1.1 (by rw [hC.1.2.1, hl.1]) (by omega) (by rw [ysum_ok]; omega) hcs.1 hcs.2 this
theorem y_nfw : nativeFrameWords "java/lang/System" "arraycopy" 5 + 11 ≤ 56 := by decide +kernel
set_option maxHeartbeats 4000000 in
/-- ONE INSTRUCTION is sound -/
theorem yst (hE : yEok E) (hR : d + 1 ≤ R.frames ∧ 64 * d + 64 ≤ R.locals) (hcs : ce ≤ R.cells ∧ sl ≤ R.slots) {op : xOp} (hok : xok xmt M pc op) (h : ystep E R d M op lv st mem Post (fun pc' lv' st' mem' => yG E R M pc' lv' st' mem' ce sl Post)) : yG E R M pc lv st mem ce sl Post := by
  obtain ⟨tg, nx, a, b, cs⟩ := op
  match tg, hok, h with
  | 0, hok, h => exact y_T (st0 := []) (st1 := [(0, cI a)]) (by rw [show ([((0, cI a) : yV)].map (ydv E)) = [.int (iI (cI a))] from rfl, iI_c]; exact hok) h
  | 1, hok, h => exact y_T (st0 := []) (st1 := [(4, cL a)]) (by rw [show ([((4, cL a) : yV)].map (ydv E)) = [.long (lI (cL a))] from rfl, lI_c]; exact hok) h
  | 2, hok, h =>
    obtain ⟨v, h1, h2, h3⟩ := h
    exact y_load hok.1 hok.2 h1 h2 h3
  | 3, hok, h =>
    match st, h with
    | v :: st', h => exact y_store hok.1 hok.2 h.1 h.2.1 h.2.2
  | 4, hok, h =>
    obtain ⟨x, h1, h2, h3⟩ := h
    exact y_iinc hok h1 h2 h3
  | 5, hok, h =>
    match st, h with
    | (0, y) :: (0, x) :: st', h =>
      refine y_T (st0 := [(0, y), (0, x)]) (st1 := [(0, ybin a x y)]) ?_ h.2
      have := hok (iI x) (iI y) (fun q z => h.1 q (by have := congrArg Int32.toInt z; exact this))
      rw [← ybin_ok] at this
      exact this
  | 6, hok, h =>
    match st, h with
    | (0, x) :: st', h =>
      refine y_T (st0 := [(0, x)]) (st1 := [(0, (iI x).toInt8.toInt32.toInt)]) ?_ h
      have := hok (iI x)
      rw [← iI_t (iI x).toInt8.toInt32] at this
      exact this
  | 8, hok, h =>
    match st, h with
    | (4, y) :: (4, x) :: st', h =>
      refine y_T (st0 := [(4, y), (4, x)]) (st1 := [(0, ycmp x y)]) ?_ h
      have := hok (lI x) (lI y)
      rw [← ycmp_ok] at this
      exact this
  | 9, hok, h =>
    match st, h with
    | v :: st', h => exact y_T (st0 := [v]) (st1 := [v, v]) (hok _ (by rw [ycat_ok]; exact h.1)) h.2
  | 10, hok, h =>
    match st, h with
    | v :: st', h => exact y_T (st0 := [v]) (st1 := []) (hok _ (by rw [ycat_ok]; exact h.1)) h.2
  | 11, hok, h =>
    match st, h with
    | v :: w :: st', h => exact y_T (st0 := [v, w]) (st1 := [v, w, v, w]) (hok _ _ (by rw [ycat_ok]; exact h.1) (by rw [ycat_ok]; exact h.2.1)) h.2.2
  | 12, hok, h =>
    match st, h with
    | (0, x) :: st', h => exact y_fork0 hok h.1 h.2
  | 13, hok, h =>
    match st, h with
    | (0, y) :: (0, x) :: st', h => exact y_fork hok h.1 h.2
  | 14, hok, h => exact y_T (st0 := []) (st1 := []) hok h
  | 15, hok, h =>
    match st, h with
    | (0, x) :: st', h => exact y_sw hok h.1 h.2.1 h.2.2
  | 16, hok, h =>
    match st, h with
    | (1, i) :: st', h =>
      obtain ⟨fs, v, h1, h2, h3⟩ := h
      exact y_getf hok h1 h2 rfl h3
  | 17, hok, h =>
    obtain ⟨ty, fin, z, h1, h2, h3⟩ := hok
    dsimp only at h1
    subst h1
    match st, h with
    | v :: (1, i) :: st', h =>
      obtain ⟨fs, w, g1, g2, g3, g4⟩ := h
      exact y_putf h2 h3 g3 g2 g1 rfl g4
  | 18, hok, h =>
    match st, h with
    | (1, i) :: st', h =>
      obtain ⟨t, n, rs, h1, h2, h3⟩ := h
      exact y_alen hok.1 h2 h1 rfl h3
    | (6, i) :: st', h =>
      intro p e s m args below meth c A Qc hC hQ H locs ls hl hP hS
      have := h.2 p e s m args below meth c A Qc hC hQ H locs ls hl hP hS
      rw [List.map_cons] at this ⊢
      rw [show ydv E (0, ((xlen.getD i.toNat 0 : Nat) : Int)) = .int (nI (xlen.getD i.toNat 0)) by show Value.int (iI _) = _; rw [iI_n]] at this
      exact hok.2 p (yl E) e R s m args below meth c H locs ce sl _ ls _ hC.1.1 (yb E) (ysa E) A (hE.2.2.2 s hC.1.2.2.2.2.2.2.2.2.1) hS hC.1.2.2.2.2.1 i.toNat h.1 this
  | 19, hok, h =>
    match st, h with
    | (0, j) :: (1, i) :: st', h =>
      obtain ⟨n, rs, h1, h2, h3, h4⟩ := h
      exact y_read hok.1 hok.2 h1 rfl h2 h3 h4
  | 20, hok, h =>
    match st, h with
    | (0, j) :: (1, i) :: st', h =>
      obtain ⟨n, rs, q, h1, h2, h3, h4, h5⟩ := h
      exact y_readr hok h1 rfl h2 h3 h4 h5
  | 21, hok, h =>
    match st, h with
    | (0, x) :: (0, j) :: (1, i) :: st', h =>
      obtain ⟨n, rs, h1, h2, h3, h4, h5⟩ := h
      obtain ⟨g1, g2⟩ := y_nok h4
      exact y_write g1 hok h1 rfl h2 h3 g2 h5
  | 26, hok, h =>
    match st, h with
    | (0, n) :: (0, dp) :: (1, dd) :: (0, sp) :: (1, ss) :: st', h =>
      obtain ⟨h0, n0, r0, n1, r1, h1, h2, h3, h4, h5, h6, h7, h8⟩ := h
      have := y_nfw
      exact y_copy hok h1 h2 rfl rfl h3 h4 h5 h6 h7 (by omega) (by omega) h8
  | 27, hok, h =>
    obtain ⟨e1, M', hmi, hc⟩ := hok
    dsimp only at e1 hmi
    subst e1
    exact y_callS hE hR hcs hmi (Or.inl hc) h
  | 47, hok, h =>
    obtain ⟨e1, M', hmi, hc⟩ := hok
    dsimp only at e1 hmi
    subst e1
    exact y_callS hE hR hcs hmi (Or.inr hc) h
  | 28, hok, h =>
    obtain ⟨e1, M', hmi, hc, q, hq, hqn⟩ := hok
    dsimp only at e1 hmi hq
    subst e1
    obtain ⟨g1, g2⟩ := h
    dsimp only at g1 g2
    rw [hmi] at g1
    dsimp only at g1
    split at g1
    · next i r hd =>
      obtain ⟨fs, g3⟩ := g1
      exact y_callV hE hR hcs hmi hc g3 hq hqn hd g2
    · exact g1.elim
  | 30, hok, h =>
    match st, h with
    | [(0, x)], h =>
      obtain ⟨hd, ty, h1, h2, h3⟩ := hok
      dsimp only at h2
      refine y_iret hd h1 ?_ hcs.1 hcs.2 h.2
      rcases h3 with rfl | rfl
      · rfl
      · rcases h.1 with h4 | ⟨h4, h5⟩
        · dsimp only at h4
          rw [h4] at h2
          exact absurd h2 (by decide)
        · rcases w32_01 h5 with e | e <;> rw [e] <;> decide +kernel
  | 31, hok, h =>
    match st, h with
    | [(4, x)], h => exact y_lret hok.1 hok.2 hcs.1 hcs.2 h
  | 32, hok, h =>
    match st, h with
    | [], h => exact y_vret hok.1 hok.2 hcs.1 hcs.2 h
  | 33, hok, h => exact y_ld (d := nx) (v := (5, (a : Int))) (fun p e s m args below meth c A Q hC H locs ls hS k => hok p (yl E) e R s m args below meth c H locs ce sl Q ls _ hC.1.1 (yb E) (ysa E) (hE.2.2.2 s hC.1.2.2.2.2.2.2.2.2.1) k) h
  | 34, hok, h =>
    refine y_ld (d := nx) (v := (0, 1)) (fun p e s m args below meth c A Q hC H locs ls hS k => ?_) h
    rw [List.map_cons, show ydv E (0, 1) = .int (nI 1) from congrArg Value.int (by decide)] at k
    exact hok p (yl E) e R s m args below meth c H locs ce sl Q ls _ hC.1.1 (yb E) (ysa E) A (hE.2.2.2 s hC.1.2.2.2.2.2.2.2.2.1) hS hC.1.2.2.2.2.1 k
  | 35, hok, h =>
    match st, h with
    | (5, i) :: st', h =>
      intro p e s m args below meth c A Qc hC hQ H locs ls hl hP hS
      have := h.2 p e s m args below meth c A Qc hC hQ H locs ls hl hP hS
      rw [List.map_cons] at this ⊢
      refine hok p (yl E) e R s m args below meth c H locs ce sl _ ls _ hC.1.1 (yb E) (ysa E) A (hE.2.2.2 s hC.1.2.2.2.2.2.2.2.2.1) hS hC.1.2.2.2.2.1 i.toNat h.1 ?_
      dsimp only at this ⊢
      by_cases ha : a = 0
      · rw [if_pos ha] at this ⊢
        exact this
      · rw [if_neg ha] at this ⊢
        exact this
  | 37, hok, h =>
    match st, h with
    | (0, j) :: (6, i) :: st', h =>
      obtain ⟨h1, h2, h3, h4⟩ := h
      intro p e s m args below meth c A Qc hC hQ H locs ls hl hP hS
      have := h4 p e s m args below meth c A Qc hC hQ H locs ls hl hP hS
      rw [List.map_cons] at this
      rw [List.map_cons, List.map_cons]
      have e1 : ydv E (0, j) = .int (nI (w32 j).toNat) := by
        show Value.int (iI j) = _
        rw [← iI_n, Int.toNat_of_nonneg h2, iI_w]
      have e2 : ydv E (0, (((xbyt.getD i.toNat []).getD (w32 j).toNat 0 : Nat) : Int)) = .int (nI ((xbyt.getD i.toNat []).getD (w32 j).toNat 0)) := by show Value.int (iI _) = _; rw [iI_n]
      rw [e2] at this
      rw [e1]
      have := w32_hi j
      exact hok p (yl E) e R s m args below meth c H locs ce sl _ ls _ hC.1.1 (yb E) (ysa E) A (hE.2.2.2 s hC.1.2.2.2.2.2.2.2.2.1) hS hC.1.2.2.2.2.1 i.toNat (w32 j).toNat h1 (by omega) (by omega) ‹_›
  | 38, hok, h =>
    match st, h with
    | (0, x) :: st', h =>
      refine y_T (st0 := [(0, x)]) (st1 := [(0, x)]) ?_ h.2.2
      have := hok (iI x)
      rw [y_char h.1 h.2.1] at this
      exact this
  | 39, hok, h =>
    obtain ⟨e1, M', hmi, hc, hq⟩ := hok
    dsimp only at e1 hmi
    subst e1
    obtain ⟨g1, g2⟩ := h
    dsimp only at g1 g2
    rw [hmi] at g1
    dsimp only at g1
    split at g1
    · next i r hd => exact y_callVs hE hR hcs hmi hc g1 hq hd g2
    · exact g1.elim
  | 40, hok, h =>
    match st, h with
    | [(0, x)], h =>
      obtain ⟨hd, ty, h1, h2⟩ := hok
      obtain ⟨g1, g2, g3⟩ := h
      dsimp only at h2 g2
      have e : iI x = nI x.toNat := by rw [← iI_n]; congr 1; omega
      rcases h2 with ⟨e1, e2⟩ | ⟨e1, e2⟩
      · rw [if_pos e1] at g2
        exact y_iret hd h1 (by rw [e2, e]; exact (pk_charN (by omega)).1) hcs.1 hcs.2 g3
      · rw [if_neg (by omega)] at g2
        exact y_iret hd h1 (by rw [e2, e]; exact xnarB (by omega)) hcs.1 hcs.2 g3
  | 41, hok, h => exact y_ld (d := nx) (v := (7, 0)) (fun p e s m args below meth c A Q hC H locs ls hS k => hok p (yl E) e R s m args below meth c H locs ce sl Q ls _ hC.1.1 (yb E) (ysa E) A (hE.2.2.2 s hC.1.2.2.2.2.2.2.2.2.1) hS hC.1.2.2.2.2.1 k) h
  | 60, hok, h =>
    match st, h with
    | (4, y) :: (4, x) :: st', h =>
      refine y_T (st0 := [(4, y), (4, x)]) (st1 := [(4, ylbin a x y)]) ?_ h
      have := hok (lI x) (lI y)
      rw [← ylbin_ok] at this
      exact this
  | 61, hok, h =>
    match st, h with
    | (4, y) :: (4, x) :: st', h =>
      refine y_T (st0 := [(4, y), (4, x)]) (st1 := [(4, ylbin a x y)]) ?_ h.2
      have := hok (lI x) (lI y) (fun z => h.1 (by have := congrArg Int64.toInt z; exact this))
      rw [← ylbin_ok] at this
      exact this
  | 62, hok, h =>
    match st, h with
    | (0, y) :: (4, x) :: st', h =>
      refine y_T (st0 := [(0, y), (4, x)]) (st1 := [(4, (lI x <<< ((iI y).toInt64 &&& 63)).toInt)]) ?_ h
      have := hok (lI x) (iI y)
      rw [← lI_t (lI x <<< ((iI y).toInt64 &&& 63))] at this
      exact this
  | 63, hok, h =>
    match st, h with
    | (0, y) :: (4, x) :: st', h =>
      refine y_T (st0 := [(0, y), (4, x)]) (st1 := [(4, ((lI x).toUInt64 >>> ((iI y).toInt64.toUInt64 &&& Int64.toUInt64 63)).toInt64.toInt)]) ?_ h
      have := hok (lI x) (iI y)
      rw [← lI_t ((lI x).toUInt64 >>> ((iI y).toInt64.toUInt64 &&& Int64.toUInt64 63)).toInt64] at this
      exact this
  | 64, hok, h =>
    match st, h with
    | (4, x) :: st', h =>
      refine y_T (st0 := [(4, x)]) (st1 := [(4, -x)]) ?_ h
      have := hok (lI x)
      rw [show -lI x = lI (-x) from (Int64.ofInt_neg x).symm] at this
      exact this
  | 65, hok, h =>
    match st, h with
    | (0, x) :: st', h =>
      refine y_T (st0 := [(0, x)]) (st1 := [(4, w32 x)]) ?_ h
      have := hok (iI x)
      have e : (iI x).toInt64 = lI (w32 x) := by
        apply Int64.toInt_inj.mp
        rw [Int32.toInt_toInt64]
        have b1 := w32_lo x
        have b2 := w32_hi x
        exact (w64_of (x := w32 x) (by omega) (by omega)).symm
      rw [e] at this
      exact this
  | 66, hok, h =>
    match st, h with
    | (4, x) :: st', h =>
      refine y_T (st0 := [(4, x)]) (st1 := [(0, x)]) ?_ h
      have := hok (lI x)
      rw [show (lI x).toInt32 = iI x from Int64.toInt32_ofInt] at this
      exact this
  | 67, hok, h =>
    match st, h with
    | (0, j) :: (1, i) :: st', h =>
      obtain ⟨n, rs, h1, h2, h3, h4⟩ := h
      exact y_readl hok h1 rfl h2 h3 h4
  | 68, hok, h =>
    match st, h with
    | (4, x) :: (0, j) :: (1, i) :: st', h =>
      obtain ⟨n, rs, h1, h2, h3, h4⟩ := h
      exact y_writel hok h1 rfl h2 h3 h4
  | 69, hok, h =>
    match st, h with
    | v :: st', h => exact y_T (st0 := [v]) (st1 := []) (hok _ (by rw [ycat_ok]; exact h.1)) h.2
  | 70, hok, h =>
    match st, h with
    | (0, y) :: (0, x) :: st', h =>
      refine y_math (st0 := [(0, y), (0, x)]) (st1 := [(0, if a = 0 then (if w32 y < w32 x then y else x) else (if w32 x < w32 y then y else x))]) hR hcs ?_ h.1 h.2
      have := hok (iI x) (iI y)
      have e1 : (iI y < iI x) ↔ w32 y < w32 x := Int32.lt_iff_toInt_lt
      have e2 : (iI x < iI y) ↔ w32 x < w32 y := Int32.lt_iff_toInt_lt
      have e3 : (if a = 0 then (if iI y < iI x then iI y else iI x) else (if iI x < iI y then iI y else iI x)) = iI (if a = 0 then (if w32 y < w32 x then y else x) else (if w32 x < w32 y then y else x)) := by
        simp only [e1, e2]
        split <;> split <;> rfl
      dsimp only at this
      rw [e3] at this
      exact this
  | 71, hok, h =>
    match st, h with
    | (4, y) :: (4, x) :: st', h =>
      refine y_math (st0 := [(4, y), (4, x)]) (st1 := [(4, if a = 0 then (if w64 y < w64 x then y else x) else (if w64 y < w64 x then x else y))]) hR hcs ?_ h.1 h.2
      have := hok (lI x) (lI y)
      have e1 : (lI y < lI x) ↔ w64 y < w64 x := Int64.lt_iff_toInt_lt
      have e3 : (if a = 0 then (if lI y < lI x then lI y else lI x) else (if lI y < lI x then lI x else lI y)) = lI (if a = 0 then (if w64 y < w64 x then y else x) else (if w64 y < w64 x then x else y)) := by
        simp only [e1]
        split <;> split <;> rfl
      dsimp only at this
      rw [e3] at this
      exact this
  | 72, hok, h =>
    match st, h with
    | (4, x) :: st', h =>
      refine y_math (st0 := [(4, x)]) (st1 := [(4, if 0 < w64 x then x else -x)]) hR hcs ?_ h.1 h.2
      have := hok (lI x)
      have e1 : (0 < lI x) ↔ 0 < w64 x := by
        rw [Int64.lt_iff_toInt_lt]
        simp [w64]
      have e3 : (if 0 < lI x then lI x else -lI x) = lI (if 0 < w64 x then x else -x) := by
        simp only [e1]
        split
        · rfl
        · exact (Int64.ofInt_neg x).symm
      rw [e3] at this
      exact this
end YM
