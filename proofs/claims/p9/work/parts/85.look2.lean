/-! look: it returns, or throws one of two -/
theorem xthr_good : ∀ w ∈ (vx_atS RX11 153 "java/lang/IndexOutOfBoundsException" ["java/lang/RuntimeException", "java/lang/Exception"]).filter goodWord, w ∈ lw_tbl := by decide +kernel
theorem xthr_tab : ∀ w ∈ xthr, w.onTables = true := by decide +kernel
theorem xat {args : Array Value} {s : State} (hts : ∀ w ∈ xgt, w.before args s = true) (h : ∀ w ∈ xthr, va_Nw w s) : ∀ w ∈ vx_atS RX11 153 "java/lang/IndexOutOfBoundsException" ["java/lang/RuntimeException", "java/lang/Exception"], w.before args s = true := by
  intro w hw
  by_cases hg : goodWord w = true
  · exact hts w (List.mem_filter.mpr ⟨xthr_good w (List.mem_filter.mpr ⟨hw, hg⟩), hg⟩)
  · have hx : w ∈ xthr := List.mem_filter.mpr ⟨hw, by simpa using hg⟩
    exact va_Nw.use (xthr_tab w hx) (h w hx)
theorem xA_lo {b n sz q : Nat} (h : b ≤ sz) (hq : xA b n sz q) : b ≤ q := by
  rcases hq with hq | hq
  · exact hq.1
  · omega
abbrev lkRm : Room := { frames := 12, cells := 1, slots := 6, locals := 1000 }
abbrev lkWs : List Cond := .code yX11_look cX11_look 3 (some .int) :: xgt
abbrev lkX (E : yE) (mem : yMem) (sz : Nat) : String → State → State → Prop := vx_X (fun _ : Unit => True) (fun C _ t => (C = "java/lang/IndexOutOfBoundsException" ∨ C = "java/util/NoSuchElementException") ∧ va_P (yD E) vwCl (yW E mem) t.heap) (xA (yb E) ysh.length sz)
abbrev lkQ (E : yE) (mem : yMem) (sz : Nat) : Array Value → State → Outcome → State → Prop := va_Qi (fun (_ : Int32) (_ : Unit) => True) (fun _ t => va_P (yD E) vwCl (yW E mem) t.heap) (xA (yb E) ysh.length sz)
set_option maxHeartbeats 4000000 in
theorem y_look {E : yE} (hE : yEok E) {mem : yMem} (hG : aGok mem) (x y : Int) (sz : Nat) (hb : yb E + ysh.length ≤ sz) : vx_Met (yl E) yX11_look lkWs lkRm (va_Pc [.ref (yb E + 0), .int (iI x), .int (iI y)] (yPp E mem sz)) (lkQ E mem sz) (lkX E mem sz) 1 6 (xA (yb E) ysh.length sz) := by
  refine vx_ofW (cc := cX11_look) (maxL := 3) (ret := some .int) (by decide +kernel) rfl ?_
  intro p e s m args below meth c s₁ B hml htab hvv
  obtain ⟨rfl, hPp⟩ := hvv
  have hts := atoms_spec (ws := lkWs) B.pre
  have hC : yCtx E xm_LK p s m ([Value.ref (yb E + 0), Value.int (iI x), Value.int (iI y)] : List Value).toArray meth c (xA (yb E) ysh.length sz) := yw_ctx B rfl rfl hml rfl rfl (fun w hw => hts w (List.mem_cons_of_mem _ hw)) hb hPp
  obtain ⟨hsz, hP, hK, hEX⟩ := hPp
  have hl := lv_entry ([.ref (yb E + 0), .int (iI x), .int (iI y)]) (n := 3) (Nat.le_of_ble_eq_true rfl)
  rw [lg_entry_eq]
  generalize (lg_sl ([.ref (yb E + 0), .int (iI x), .int (iI y)]) ++ List.replicate (3 - (lg_sl ([.ref (yb E + 0), .int (iI x), .int (iI y)])).length) Slot.unset).toArray = ls at hl ⊢
  have hl : lv_has ls 3 (ydL E (lklv x y)) := hl
  have hR : ∀ ce sl, ce ≤ 1 → sl ≤ 6 → yRm (headSpec lkWs lkRm).room 2 ce sl := fun ce sl h1 h2 => ⟨⟨by decide, by decide⟩, h1, h2⟩
  have C := hC.1.1
  refine lv_aload_n C.1 C.2.1 dX11_look_0 rfl (lv_at hl 0 rfl) ?_
  refine yw_getf (i := 0) (v := (1, 2)) (lko (show xfind xk_LK 1 = some (16, 4, 11, 1, []) from rfl)) rfl rfl hC hP ?_
  refine yw_getf (i := 2) (v := (1, 5)) (lko (show xfind xk_LK 4 = some (16, 7, 4, 1, []) from rfl)) rfl rfl hC hP ?_
  refine lv_iload_n C.1 C.2.1 dX11_look_7 rfl (lv_at hl 1 rfl) ?_
  obtain ⟨-, M', hmi, hc, q6, hq6, hqn⟩ := lko (show xfind xk_LK 8 = some (28, 11, 103, 6, []) from rfl)
  have hmi' : M' = xm_103 := by
    have h2 : xmt[103]? = some xm_103 := rfl
    rw [show xmt[((28, 11, 103, 6, []) : xOp).2.2.1]? = xmt[103]? from rfl, h2] at hmi
    exact (Option.some.inj hmi).symm
  subst hmi'
  have g51 := ag hG 5 1 ag_5_1
  refine yw_call (st := [(0, x), (1, 5)]) (rest := []) hC va_S.rf (y_runV (d := 2) (ci := 6) (z := 5) (avs := [(0, x)]) (rest := []) (st := [(0, x), (1, 5)]) (Pc := fun r m => m = mem ∧ ((r = some (0, 1) ∧ 0 ≤ w32 x ∧ w32 x < 6) ∨ r = some (0, 0))) hE (xmt_ok _ _ hmi) hc (by decide) ⟨by decide, by decide⟩ ⟨by decide, by decide⟩ rfl hq6 hqn rfl rfl (by decide) (c_holds5 hE (by decide) (fun h1 h2 => ⟨rfl, Or.inl ⟨rfl, h1, by omega⟩⟩) ⟨rfl, Or.inr rfl⟩) p e s m _ below meth c _ hC _ _ ls hl hP va_S.rf) (fun r mem' H1 locs1 hr hP1 hS1 => ?_)
  obtain ⟨rfl, hr⟩ := hr
  have hF := (hE.2.2.2 s hEX)
  have hAB : ∀ q, xA (yb E) ysh.length sz q → yb E ≤ q := fun q hq => xA_lo (by omega) hq
  obtain ⟨hU, hN, hstr, hthr, -, hstr2, hthr2⟩ := hF.2.2.2.2.2.2.2
  have hxc : ∀ (C0 : String), (C0 = "java/lang/IndexOutOfBoundsException" ∨ C0 = "java/util/NoSuchElementException") → ∀ t : State, s.vm.Alike t.vm → H1.size ≤ t.heap.size → (∀ q : Nat, q < H1.size → t.heap[q]? = H1[q]?) → lkX E mem' sz C0 s t := fun C0 hC0 t hv1 hz2 hk2 =>
    ⟨(), trivial, ⟨hC0, hP1.kept (fun k q hq => hk2 q.1 ((hP1 k q hq).lt))⟩, Nat.le_trans hS1.1 hz2, fun q hq hn => (hk2 q (Nat.lt_of_lt_of_le hq hS1.1)).trans (hS1.2.1 q hq hn)⟩
  rcases hr with ⟨rfl, hx0, hx6⟩ | rfl
  · refine lv_if_ne (tgt := 24) C.1 C.2.1 dX11_look_11 (by decide) (fun _ => ?_) (fun h0 => absurd (show iI 1 = 0 from h0) (by decide))
    have hQ : ∀ (r : Option yV) (m9 : yMem) (t : State), ((∃ v, r = some (0, v)) ∧ m9 = mem') → va_P (yD E) vwCl (yW E m9) t.heap → va_F (xA (yb E) ysh.length sz) s t → lkQ E mem' sz ([Value.ref (yb E + 0), Value.int (iI x), Value.int (iI y)] : List Value).toArray s (.returned (r.map (ydv E))) t := by
      rintro r m9 t ⟨⟨v, rfl⟩, rfl⟩ k1 k2
      exact ⟨⟨iI v, (), rfl, trivial, k1⟩, k2⟩
    have norm : ∀ pc, (yG E (headSpec lkWs lkRm).room xm_LK pc (lklv x y) [] mem' 0 0 (fun r m9 => (∃ v, r = some (0, v)) ∧ m9 = mem')) → W p (yl E) e (headSpec lkWs lkRm).room s m ([Value.ref (yb E + 0), Value.int (iI x), Value.int (iI y)] : List Value).toArray below meth c H1 locs1 (0 + 0) (0 + 0) (vx_MQ below (lkQ E mem' sz) (lkX E mem' sz) ([Value.ref (yb E + 0), Value.int (iI x), Value.int (iI y)] : List Value).toArray s 1 6 (xA (yb E) ysh.length sz)) (F0 m pc ls []) := fun pc h => vx_ret (h p e s m _ below meth c _ _ hC hQ H1 locs1 ls hl hP1 hS1)
    refine lv_iload_n C.1 C.2.1 dX11_look_24 rfl (lv_at hl 2 rfl) ?_
    refine lko (show xfind xk_LK 25 = some (15, 0, 146, 0, [(0, 64), (1, 74), (2, 84), (3, 94), (4, 104), (5, 114)]) from rfl) p (yl E) e _ s m _ below meth c _ _ _ _ _ ls _ C (iI y) ?_
    by_cases hy : ∃ q ∈ ([(0, 64), (1, 74), (2, 84), (3, 94), (4, 104), (5, 114)] : List (Nat × Nat)), iI y = nI q.1
    · obtain ⟨q, hq, hq2⟩ := hy
      refine Or.inl ⟨q, hq, hq2, norm _ ?_⟩
      have ok : ∀ v, (∃ v', some ((0, v) : yV) = some (0, v')) ∧ mem' = mem' := fun v => ⟨⟨v, rfl⟩, rfl⟩
      simp only [List.mem_cons, List.not_mem_nil, or_false] at hq
      rcases hq with rfl | rfl | rfl | rfl | rfl | rfl
      · exact lk_get (c1 := 2) (c2 := 13) (n := 6) hE (hR 0 0 (by decide) (by decide)) rfl rfl rfl rfl rfl rfl rfl rfl rfl rfl rfl hx0 hx6 ok
      · exact lk_get (c1 := 2) (c2 := 14) (n := 6) hE (hR 0 0 (by decide) (by decide)) rfl rfl rfl rfl rfl rfl rfl rfl rfl rfl rfl hx0 hx6 ok
      · exact lk_get (c1 := 2) (c2 := 15) (n := 6) hE (hR 0 0 (by decide) (by decide)) rfl rfl rfl rfl rfl rfl rfl rfl rfl rfl rfl hx0 hx6 ok
      · exact lk_get (c1 := 2) (c2 := 16) (n := 6) hE (hR 0 0 (by decide) (by decide)) rfl rfl rfl rfl rfl rfl rfl rfl rfl rfl rfl hx0 hx6 ok
      · exact lk_get (c1 := 57) (c2 := 59) (n := 6) hE (hR 0 0 (by decide) (by decide)) rfl rfl rfl rfl rfl rfl rfl rfl rfl rfl rfl hx0 hx6 ok
      · exact lk_5 hE (hR 0 0 (by decide) (by decide)) ok
    · refine Or.inr ⟨fun q hq hq2 => hy ⟨q, hq, hq2⟩, ?_⟩
      exact ct_throw C.1 C.2.1 hE.1 (own := RX11) (cls := "java/util/NoSuchElementException") (up := "java/lang/RuntimeException") (names := ["java/lang/Exception"]) (ik := 178) (is := 180) (ic := 182) (A := xA (yb E) ysh.length sz) ctNs_0 ctNs_1 ctNs_2 ctNs_5 C.2.2.1 (by decide +kernel) (by decide +kernel) (by decide +kernel) (C.2.2.2 _ (xwm 1369 (by decide +kernel) (by decide +kernel))) (C.2.2.2 _ (xwm 140 (by decide +kernel) (by decide +kernel))) hstr2 (xat2 C.2.2.2 hthr2) (by decide +kernel) (hU.narrow hAB) (hN.narrow hAB) hS1 (by rw [hml]; exact hl.1) dX11_look_146 dX11_look_149 dX11_look_150 dX11_look_152 dX11_look_155 (fun z hz => absurd hz (fun hz => htab z hz)) (by decide) (Nat.le_of_ble_eq_true rfl) (Nat.le_of_ble_eq_true rfl) (Nat.le_of_ble_eq_true rfl) B.notSynchronized (hxc _ (Or.inr rfl)) (fun z hz => hS1.2.2 z hz) (Nat.le_of_ble_eq_true rfl) (Nat.le_of_ble_eq_true rfl)
  · refine lv_if_ne (tgt := 24) C.1 C.2.1 dX11_look_11 (by decide) (fun h0 => absurd (show iI 0 = 0 from by decide) h0) (fun _ => ?_)
    exact vx_throwS C.1 C.2.1 hE.1 (own := RX11) (cls := "java/lang/IndexOutOfBoundsException") (names := ["java/lang/RuntimeException", "java/lang/Exception"]) (ik := 149) (is := 151) (ic := 153) (A := xA (yb E) ysh.length sz) C.2.2.1 (by decide +kernel) (by decide +kernel) (C.2.2.2 _ (xwm 1303 (by decide +kernel) (by decide +kernel))) (C.2.2.2 _ (xwm 139 (by decide +kernel) (by decide +kernel))) hstr (xat C.2.2.2 hthr) (by decide +kernel) (hU.narrow hAB) (hN.narrow hAB) hS1 (by rw [hml]; exact hl.1) dX11_look_14 dX11_look_17 dX11_look_18 dX11_look_20 dX11_look_23 (fun z hz => absurd hz (fun hz => htab z hz)) (by decide) (Nat.le_of_ble_eq_true rfl) (Nat.le_of_ble_eq_true rfl) (Nat.le_of_ble_eq_true rfl) B.notSynchronized (hxc _ (Or.inl rfl)) (fun z hz => hS1.2.2 z hz) (Nat.le_of_ble_eq_true rfl) (Nat.le_of_ble_eq_true rfl)
