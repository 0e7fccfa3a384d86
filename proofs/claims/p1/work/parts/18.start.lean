theorem xstp0_ok {pc : Nat} {lv : xL} {st : List xV} {K : xH} {ce sl : Nat} {κ : xK} {Ls : List xR} (h : xstp0 pc lv st K ce sl κ = some Ls) : pc = 23 ∧ lv = xlv0 ∧ st = [] ∧ K = xK0 ∧ ce = 144 ∧ sl = 14558 ∧ κ = ([], []) := by
  simp only [xstp0] at h
  split at h
  · next hc =>
    simp only [Bool.and_eq_true, Nat.beq_eq, decide_eq_true_eq] at hc
    exact hc
  · cases h
theorem xnil_ok {r : Option (List xR)} (h : xnil r = true) : r = some [] := by
  cases r with
  | none => cases h
  | some L =>
    cases L with
    | nil => rfl
    | cons a L => cases h
set_option maxHeartbeats 4000000 in
set_option maxRecDepth 100000 in
/-- THE LAW, from its entry -/
theorem whole_start {p : Program} {e : Env} {s : State} {m : MethodId} {below : List Frame} {meth : Method} {c : Code} (l : Launch) (hls : l.stackTraces = false) {b L : Nat} {xs : Nat → Int32} (hL : L ≤ 6) (C0 : lw_At p s m meth c b L xs) : W p l e room_1 s m #[Value.ref b] below meth c s.heap [] 0 0 (lw_Z below #[Value.ref b] s) (entryFrame m ([Value.ref b] : List Value).toArray 7) := by
  obtain ⟨hx, hb, hr, hml, hown, hts, hX, hbl, hlocks, hgv⟩ := C0
  obtain ⟨D, dA, hK⟩ := xworld hts
  obtain ⟨sa, hF, hsa⟩ := xfacts hts hgv
  obtain ⟨ds, ρ, κ, N, n, hds, hSc, hfst, hκ, hrun⟩ := xpick L hL (fun j => xs (j - 1))
  obtain ⟨Ls, hLs, hone⟩ := xone_ok hrun
  have hX0 : va_X (sa 50) L xs s s.heap := by rw [hsa]; exact hX
  have hXρ : ∀ U : State, va_X (sa 50) L xs U U.heap → va_X (sa 50) L (fun n => ρ (n + 1)) U U.heap := by
    rintro U ⟨scr, g1, g2, g3, g4, g5⟩
    refine ⟨scr, g1, g2, g3, g4, fun j hj => ?_⟩
    rw [g5 j hj]
    show some (Value.int (xs j)) = some (Value.int (ρ (j + 1)))
    rw [hfst (j + 1) (by omega)]
    rfl
  have hE := xEXs_ok s.heap.size sa L xs
  have hEX : xEXs s.heap.size sa L xs s := ⟨hF, hX0, by rw [hsa]; exact hbl⟩
  have hctx : ∀ M : xM, xMc M = code → xMo M = RL → xMl M = 7 → xMr M = some .boolean → (xMy M).name = "law" → xCtx s.heap.size dA D M p s m #[Value.ref b] meth c (fun q => s.heap.size ≤ q) (xEXs s.heap.size sa L xs) := fun M h1 h2 h3 h4 h5 =>
    ⟨⟨hx, by rw [h1]; exact hb, by rw [h2]; exact hown, fun w hw => hts w (xgt_in w hw)⟩, by rw [h3]; exact hml, hK, fun _ h => h, fun _ h => h, by rw [h4]; exact hr, hlocks, (fun h => by rw [h5] at h; exact absurd h (by decide)), hEX, Nat.le_refl _⟩
  have hmt := xmt_ok
  refine W.mono (Q := MQ below (fun _ _ o _ => o = .returned (some (.int 1))) #[Value.ref b] s 600002 7302232 (fun q => s.heap.size ≤ q)) ?_ ?_
  · have hloop : xSnd true s.heap.size ρ sa dA D xm_L0 p l e s m #[Value.ref b] below meth c (fun q => s.heap.size ≤ q) (fun _ _ o _ => o = .returned (some (.int 1))) xstp0 := by
      intro pc lv st K ce sl κ0 Ls0 h0
      obtain ⟨rfl, rfl, rfl, rfl, rfl, rfl, rfl⟩ := xstp0_ok h0
      intro H locs ls hl hP hS hz hA0 _ _
      exact xeT_ok (al := false) hls hE hds (fun U hU L' hL' => by
        cases hSc.symm.trans hL'
        exact ⟨hXρ U hU.2.1, hU.2.2⟩) hmt (M := xm_L1) xo_L1 (hctx xm_L1 rfl rfl rfl rfl rfl) xnos_ok n _ _ _ _ _ _ _ _ hLs H locs ls hl hP hS (fun q => by cases q) hA0 hκ (fun lf hlf k1 t k2 k3 k4 k5 => by
          rw [hone lf hlf]
          rfl)
    have hpro := xeT_ok (al := true) hls hE (ds := []) (ρ := ρ) (fun k o x y h => by simp at h) (fun U hU L' hL' => by cases hL') hmt (M := xm_L0) xo_L0 (hctx xm_L0 rfl rfl rfl rfl rfl) hloop 50 _ _ _ _ _ _ _ _ (xnil_ok xpro)
    have hl := lv_entry ([.ref b]) (n := 7) (Nat.le_of_ble_eq_true rfl)
    rw [lg_entry_eq]
    exact hpro s.heap [] _ (by rw [← hsa] at hl ⊢; exact hl) (fun k q h => by simp [xcx] at h) va_S.rf (fun _ => rfl) (fun i hi => absurd hi (by simp)) xK1 (fun lf hlf => (by cases hlf))
  · rintro t ⟨o, h1, h2, h3, LL, ⟨g1, g2, g3⟩, h5⟩
    exact ⟨o, h1, h2, h3, g1, g2, g3.weaken (fun y hy hlt => absurd hlt (Nat.not_lt.mpr (h5 y hy))) (Nat.le_refl _) (Nat.le_refl _)⟩
