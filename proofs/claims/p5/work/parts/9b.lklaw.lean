theorem xofWH {l : Launch} {y : MethodName} {ws ws' : List Cond} {rm : Room} {Pc : Array Value → State → Prop} {Qc : Array Value → State → Outcome → State → Prop} {mc ms : Nat} {free : Addr → Prop} {cc : ByteArray} {maxL : Nat} {ret : Option FieldType} {hh : List (Nat × Nat × Nat × Nat)}
    (hy : plainName y.cls = true) (hw : ws = Cond.codeWith y cc maxL ret hh :: ws')
    (body : ∀ p e s m args below meth c s₁, BodyLoose p l y (headSpec ws rm) cc maxL ret e s m args below meth c s₁ → c.maxLocals = maxL → c.exceptionTable.toList = tableOf hh → Pc args s →
      W p l e (headSpec ws rm).room s m args below meth c s.heap [] 0 0 (MQ below Qc args s mc ms free) (entryFrame m args maxL)) : Met l y ws rm Pc Qc mc ms free := by
  have hin : Cond.codeWith y cc maxL ret hh ∈ ws := by rw [hw]; exact List.mem_cons_self
  refine MetFree.of_bodyS (code := cc) (maxLocals := maxL) (ret := ret) hy ?_ ?_
  · intro args s m h hn
    obtain ⟨m9, meth, c, hn9, h1, h2, h3, h4, -, h5, h6, -⟩ := Cond.codeWith_spec (atoms_spec (ws := ws) h _ hin)
    cases Option.some.inj (hn9.symm.trans hn)
    exact ⟨meth, c, h1, h2, h3, h4, h5, h6⟩
  · intro p e s m args below meth c s₁ B hml hP _
    have hh0 : s₁.heap = s.heap := by rw [B.state]; rfl
    have ht := vx_table (p := p) (x := y) B (atoms_spec (ws := ws) B.pre _ hin)
    obtain ⟨t, a1, o, b1, b2, b3⟩ := body p e s m args below meth c s₁ B hml ht hP s₁ hh0 (Stand.of_body B)
    exact ⟨t, o, a1, b1, b2, ⟨b3.1, b3.2⟩⟩
abbrev xLW : List Cond := .codeWith yL_look cL_look 5 (some .int) [(0, 10, 13, 13), (0, 10, 17, 15)] :: xgt
abbrev llRm : Room := { frames := 20, cells := 1, slots := 6, locals := 2000 }
abbrev llAs (E : yE) (x y : Int) : List Value := [.ref (yb E + 0), .int (iI x), .int (iI y), .ref (yb E + 143)]
abbrev lllv (x y : Int) : yL := [(0, (1, 0)), (1, (0, x)), (2, (0, y)), (3, (1, 143))]
/-- what the law's own look leaves -/
def lkP (mem : yMem) (r : Option yV) (m : yMem) : Prop := (∃ v, r = some (0, v)) ∧ (m = mem ∨ ∃ v, m = yset mem 143 0 v)
theorem llo {pc : Nat} {op : xOp} (h : xfind xk_LL pc = some op) : xok xmt xm_LL pc op := xo_LL _ (xfind_mem h)
theorem ll_8 {E : yE} (hE : yEok E) {R : Room} {mem : yMem} {ce sl : Nat} (hR : yRm R 2 ce sl) {x y v : Int} : yG E R xm_LL 8 (lllv x y) [(0, v), (0, 0), (1, 143)] mem ce sl (lkP mem) := by
  refine yo_i2l (nx := 9) hE hR (llo rfl) ?_
  refine yo_lst (nx := 10) (i := 143) (n := 1) (rs := []) (j := 0) hE hR (llo rfl) rfl (by decide) (by decide) ?_
  refine yo_go (nx := 21) hE hR (llo rfl) ?_
  refine yo_c (nx := 22) (a := 0) hE hR (llo rfl) ?_
  exact yo_rt (nx := 0) (b := 0) hE hR (llo rfl) (Or.inl rfl) ⟨⟨_, rfl⟩, Or.inr ⟨_, rfl⟩⟩
set_option maxHeartbeats 4000000 in
theorem y_lklaw {E : yE} (hE : yEok E) (hnc : ∀ s, yEX E s → va_Nc "java/util/NoSuchElementException" "java/lang/IndexOutOfBoundsException" s) {mem : yMem} (hG : aGok mem) (x y : Int) (sz : Nat) (hb : yb E + ysh.length ≤ sz) : Met (yl E) yL_look xLW llRm (va_Pc (llAs E x y) (yPp E mem sz)) (fun _ => yQp E sz (lkP mem)) 1 6 (xA (yb E) ysh.length sz) := by
  refine xofWH (cc := cL_look) (maxL := 5) (ret := some .int) (hh := [(0, 10, 13, 13), (0, 10, 17, 15)]) (by decide +kernel) rfl ?_
  intro p e s m args below meth c s₁ B hml htab hvv
  obtain ⟨rfl, hPp⟩ := hvv
  have hts := atoms_spec (ws := xLW) B.pre
  have hC : yCtx E xm_LL p s m (llAs E x y).toArray meth c (xA (yb E) ysh.length sz) := yw_ctx B rfl rfl hml rfl rfl (fun w hw => hts w (List.mem_cons_of_mem _ hw)) hb hPp
  have hPp0 := hPp
  obtain ⟨hsz, hP, hK, hEX⟩ := hPp
  have hl := lv_entry (llAs E x y) (n := 5) (Nat.le_of_ble_eq_true rfl)
  rw [lg_entry_eq]
  generalize (lg_sl (llAs E x y) ++ List.replicate (5 - (lg_sl (llAs E x y)).length) Slot.unset).toArray = ls at hl ⊢
  have hl : lv_has ls 5 (ydL E (lllv x y)) := hl
  have C := hC.1.1
  have hr := B.returns
  refine lv_aload_n C.1 C.2.1 dL_look_0 rfl (lv_at hl 3 rfl) ?_
  refine lv_iconst (v := 0) C.1 C.2.1 dL_look_1 (by decide +kernel) ?_
  refine lv_aload_n C.1 C.2.1 dL_look_2 rfl (lv_at hl 0 rfl) ?_
  refine lv_iload_n C.1 C.2.1 dL_look_3 rfl (lv_at hl 1 rfl) ?_
  refine lv_iload_n C.1 C.2.1 dL_look_4 rfl (lv_at hl 2 rfl) ?_
  have hrc := va_recv hK hP (show vwCl[11]? = some (RX11, TX11, 15) from rfl) (yW_at (E := E) (mem := mem) (show ysh[0]? = some (.inr (11, _)) from rfl))
  have hGw : ∀ w ∈ lkWs, w ∈ xgt := fun w hw => by
    rcases List.mem_cons.mp hw with rfl | hw
    · exact (xwm 1302 (by decide +kernel) (by decide +kernel))
    · exact hw
  refine vx_calli (vx_runV (As := [.int (iI x), .int (iI y)]) (rest := [.int 0, .ref (yb E + 143)]) (n := 2) (bytes := cX11_look) (maxL := 3) (ret := some .int) (C := RX11) ⟨C.1, C.2.1, hml, C.2.2.1, C.2.2.2⟩ (y_look hE hG x y sz hb) ⟨callB_of (ws' := xgt) 2 C.2.2.2 (xgt_in' hGw) rfl rfl rfl (C.2.2.2 _ (xwm 116 (by decide +kernel) (by decide +kernel))) (C.2.2.2 _ (xwm 1299 (by decide +kernel) (by decide +kernel))) ⟨by decide, by decide, by decide +kernel⟩ ⟨Nat.le_of_ble_eq_true rfl, Nat.le_of_ble_eq_true rfl⟩, C.2.2.2 _ (xwm 1300 (by decide +kernel) (by decide +kernel)), C.2.2.2 _ (xwm 1301 (by decide +kernel) (by decide +kernel))⟩ ⟨yPp_blind hE, hrc, fun U hU hW => ⟨rfl, hsz ▸ yPp_at hC hE hP va_S.rf U hU hW⟩⟩ rfl rfl hl.1 rfl (lv_room (Nat.le_of_ble_eq_true rfl)) dL_look_5 ⟨Nat.le_of_ble_eq_true rfl, Nat.le_of_ble_eq_true rfl⟩) (va_S.rf (A := xA (yb E) ysh.length sz)) (fun q _ h => h) (fun q h => h) (fun q _ h => h) ?_ (fun r u t H1 locs1 ht hvm _ hB hz1 hk1 hS1 => ?_)
  · intro C0 ce q9 u t H1 locs1 ht hvm _ hB hz1 hk1 hS1 hce hcv hcl
    obtain ⟨hC0, hP1⟩ := hB
    rw [ht] at hP1
    have hF := (hE.2.2.2 s hEX)
    have fin : ∀ (v : Int) (t2 : State), t2.heap = H1 → yQp E sz (lkP mem) s (.returned (some (.int (iI v)))) t2 := fun v t2 ht2 => ⟨some (0, v), mem, ⟨⟨v, rfl⟩, Or.inl rfl⟩, rfl, by rw [ht2]; exact hP1, hS1.F ht2⟩
    rcases hC0 with rfl | rfl
    · have hcast : (Cond.castable "java/lang/IndexOutOfBoundsException" "java/lang/IndexOutOfBoundsException").before (llAs E x y).toArray s = true := va_Nw.use rfl (hF.2.2.2.2.2.2.2.2.2.2.1 _ (by decide +kernel))
      refine vx_catch C.2.2.1 [] ⟨0, 10, 13, 13⟩ [⟨0, 10, 17, 15⟩] (by rw [htab]; rfl) (fun z hz => by cases hz) (by decide) (by decide) (C.2.2.2 _ (xwm 1297 (by decide +kernel) (by decide +kernel))) hcast hce hcv hcl ?_
      refine lv_astore (lv' := (4, .ref q9) :: ydL E (lllv x y)) C.1 C.2.1 dL_look_13 hl (by decide) rfl (fun ls hl => ?_)
      refine lv_iconst (v := 1) C.1 C.2.1 dL_look_15 (by decide +kernel) ?_
      refine W.widen (k := 1) (n := 6) (by decide) (by decide) ?_
      exact W.iret (v := 1) C.1 C.2.1 hr (fun t2 ht2 _ => fin 1 t2 ht2) hS1.2.2 dL_look_16 B.notSynchronized
    · have hcast : (Cond.castable "java/util/NoSuchElementException" "java/util/NoSuchElementException").before (llAs E x y).toArray s = true := va_Nw.use rfl (hF.2.2.2.2.2.2.2.2.2.2.2.2.2 _ (by decide +kernel))
      refine vx_catch C.2.2.1 [⟨0, 10, 13, 13⟩] ⟨0, 10, 17, 15⟩ [] (by rw [htab]; rfl) (fun z hz => ?_) (by decide) (by decide) (C.2.2.2 _ (xwm 1298 (by decide +kernel) (by decide +kernel))) hcast hce hcv hcl ?_
      · simp only [List.mem_cons, List.not_mem_nil, or_false] at hz
        subst hz
        exact Or.inr ⟨by decide, "java/lang/IndexOutOfBoundsException", C.2.2.2 _ (xwm 1297 (by decide +kernel) (by decide +kernel)), hnc s hEX⟩
      refine lv_astore (lv' := (4, .ref q9) :: ydL E (lllv x y)) C.1 C.2.1 dL_look_17 hl (by decide) rfl (fun ls hl => ?_)
      refine lv_iconst (v := 2) C.1 C.2.1 dL_look_19 (by decide +kernel) ?_
      refine W.widen (k := 1) (n := 6) (by decide) (by decide) ?_
      exact W.iret (v := 2) C.1 C.2.1 hr (fun t2 ht2 _ => fin 2 t2 ht2) hS1.2.2 dL_look_20 B.notSynchronized
  · rw [ht] at hB
    have := ll_8 (E := E) hE (R := (headSpec xLW llRm).room) (mem := mem) (ce := 0 + 1) (sl := 0 + 6) ⟨⟨by decide, by decide⟩, by decide, by decide⟩ (x := x) (y := y) (v := r.toInt) p e s m (llAs E x y).toArray below meth c (xA (yb E) ysh.length sz) (fun _ => yQp E sz (lkP mem)) hC (fun r m9 t k1 k2 k3 => ⟨r, m9, k1, rfl, k2, k3⟩) H1 locs1 ls hl hB hS1
    rw [show ([(0, r.toInt), (0, 0), (1, 143)] : List yV).map (ydv E) = [.int r, .int 0, .ref (yb E + 143)] by show [Value.int (iI r.toInt), Value.int (iI 0), Value.ref (yb E + 143)] = _; rw [iI_t]; rfl] at this
    exact this
