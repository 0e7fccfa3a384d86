section
theorem xofWH {l : Launch} {y : MethodName} {ws ws' : List Cond} {rm : Room} {Pc : Array Value → State → Prop} {Qc : Array Value → State → Outcome → State → Prop} {mc ms : Nat} {free : Addr → Prop} {cc : ByteArray} {maxL : Nat} {ret : Option FieldType} {hh : List (Nat × Nat × Nat × Nat)}
    (hy : plainName y.cls = true) (hw : ws = Cond.codeWith y cc maxL ret hh :: ws')
    (body : ∀ p e s m args below meth c s₁, BodyLoose p l y (headSpec ws rm) cc maxL ret e s m args below meth c s₁ → c.maxLocals = maxL → c.exceptionTable.toList = tableOf hh → Pc args s →
      W p l e (headSpec ws rm).room s m args below meth c s.heap [] 0 0 (MQ below Qc args s mc ms free) (entryFrame m args maxL)) : Met l y ws rm Pc Qc mc ms free := by
  have hin : Cond.codeWith y cc maxL ret hh ∈ ws := by rw [hw]; exact List.mem_cons_self
  refine MetFree.of_bodyS (code := cc) (maxLocals := maxL) (ret := ret) hy ?_ ?_
  · intro args s m h hn
    obtain ⟨m9, meth, c, hn9, h1, h2, h3, h4, -, h5, h6, -⟩ := Cond.codeWith_spec (atoms_spec (ws := ws) h _ hin)
    cases Option.some.inj (hn9.symm.trans hn)
    exact ⟨meth, c, h1, h2, h3, h4, h5, h6⟩
  · intro p e s m args below meth c s₁ B hml hP _
    have hh0 : s₁.heap = s.heap := by rw [B.state]; rfl
    have ht := vx_table (p := p) (x := y) B (atoms_spec (ws := ws) B.pre _ hin)
    obtain ⟨t, a1, o, b1, b2, b3⟩ := body p e s m args below meth c s₁ B hml ht hP s₁ hh0 (Stand.of_body B)
    exact ⟨t, o, a1, b1, b2, ⟨b3.1, b3.2⟩⟩
abbrev xLW : List Cond := .codeWith yL_look cL_look 5 (some .int) [(0, 10, 13, 13), (0, 10, 17, 15)] :: xgt
abbrev llRm : Room := { frames := 20, cells := 1, slots := 6, locals := 2000 }
abbrev llAs (E : yE) (x y : Int) : List Value := [.ref (yb E + 0), .int (iI x), .int (iI y), .ref (yb E + 143)]
abbrev lllv (x y : Int) : yL := [(0, (1, 0)), (1, (0, x)), (2, (0, y)), (3, (1, 143))]
/-- what the law's own look leaves -/
def lkP (mem : yMem) (r : Option yV) (m : yMem) : Prop := (∃ v, r = some (0, v)) ∧ (m = mem ∨ ∃ v, m = yset mem 143 0 v)
theorem llo {pc : Nat} {op : xOp} (h : xfind xk_LL pc = some op) : xok xmt xm_LL pc op := xo_LL _ (xfind_mem h)
theorem ll_8 {E : yE} (hE : yEok E) {R : Room} {mem : yMem} {ce sl : Nat} (hR : yRm R 2 ce sl) {x y v : Int} : yG E R xm_LL 8 (lllv x y) [(0, v), (0, 0), (1, 143)] mem ce sl (lkP mem) := by
  refine yo_i2l (nx := 9) hE hR (llo rfl) ?_
  refine yo_lst (nx := 10) (i := 143) (n := 1) (rs := []) (j := 0) hE hR (llo rfl) rfl (by decide) (by decide) ?_
  refine yo_go (nx := 21) hE hR (llo rfl) ?_
  refine yo_c (nx := 22) (a := 0) hE hR (llo rfl) ?_
  exact yo_rt (nx := 0) (b := 0) hE hR (llo rfl) (Or.inl rfl) ⟨⟨_, rfl⟩, Or.inr ⟨_, rfl⟩⟩
set_option maxHeartbeats 4000000 in
theorem y_lklaw {E : yE} (hE : yEok E) (hnc : ∀ s, yEX E s → va_Nc "java/util/NoSuchElementException" "java/lang/IndexOutOfBoundsException" s) {mem : yMem} (hG : aGok mem) (x y : Int) (sz : Nat) (hb : yb E + ysh.length ≤ sz) : Met (yl E) yL_look xLW llRm (va_Pc (llAs E x y) (yPp E mem sz)) (fun _ => yQp E sz (lkP mem)) 1 6 (xA (yb E) ysh.length sz) := by
  refine xofWH (cc := cL_look) (maxL := 5) (ret := some .int) (hh := [(0, 10, 13, 13), (0, 10, 17, 15)]) (by decide +kernel) rfl ?_
  intro p e s m args below meth c s₁ B hml htab hvv
  obtain ⟨rfl, hPp⟩ := hvv
  have hts := atoms_spec (ws := xLW) B.pre
  have hC : yCtx E xm_LL p s m (llAs E x y).toArray meth c (xA (yb E) ysh.length sz) := yw_ctx B rfl rfl hml rfl rfl (fun w hw => hts w (List.mem_cons_of_mem _ hw)) hb hPp
  have hPp0 := hPp
  obtain ⟨hsz, hP, hK, hEX⟩ := hPp
  have hl := lv_entry (llAs E x y) (n := 5) (Nat.le_of_ble_eq_true rfl)
  rw [lg_entry_eq]
  generalize (lg_sl (llAs E x y) ++ List.replicate (5 - (lg_sl (llAs E x y)).length) Slot.unset).toArray = ls at hl ⊢
  have hl : lv_has ls 5 (ydL E (lllv x y)) := hl
  have C := hC.1.1
  have hr := B.returns
  refine lv_aload_n C.1 C.2.1 dL_look_0 rfl (lv_at hl 3 rfl) ?_
  refine lv_iconst (v := 0) C.1 C.2.1 dL_look_1 (by decide +kernel) ?_
  refine lv_aload_n C.1 C.2.1 dL_look_2 rfl (lv_at hl 0 rfl) ?_
  refine lv_iload_n C.1 C.2.1 dL_look_3 rfl (lv_at hl 1 rfl) ?_
  refine lv_iload_n C.1 C.2.1 dL_look_4 rfl (lv_at hl 2 rfl) ?_
  have hrc := va_recv hK hP (show vwCl[11]? = some (RX11, TX11, 15) from rfl) (yW_at (E := E) (mem := mem) (show ysh[0]? = some (.inr (11, _)) from rfl))
  have hGw : ∀ w ∈ lkWs, w ∈ xgt := fun w hw => by
    rcases List.mem_cons.mp hw with rfl | hw
    · exact (xwm 1302 (by decide +kernel) (by decide +kernel))
    · exact hw
  refine vx_calli (vx_runV (As := [.int (iI x), .int (iI y)]) (rest := [.int 0, .ref (yb E + 143)]) (n := 2) (bytes := cX11_look) (maxL := 3) (ret := some .int) (C := RX11) ⟨C.1, C.2.1, hml, C.2.2.1, C.2.2.2⟩ (y_look hE hG x y sz hb) ⟨callB_of (ws' := xgt) 2 C.2.2.2 (xgt_in' hGw) rfl rfl rfl (C.2.2.2 _ (xwm 116 (by decide +kernel) (by decide +kernel))) (C.2.2.2 _ (xwm 1299 (by decide +kernel) (by decide +kernel))) ⟨by decide, by decide, by decide +kernel⟩ ⟨Nat.le_of_ble_eq_true rfl, Nat.le_of_ble_eq_true rfl⟩, C.2.2.2 _ (xwm 1300 (by decide +kernel) (by decide +kernel)), C.2.2.2 _ (xwm 1301 (by decide +kernel) (by decide +kernel))⟩ ⟨yPp_blind hE, hrc, fun U hU hW => ⟨rfl, hsz ▸ yPp_at hC hE hP va_S.rf U hU hW⟩⟩ rfl rfl hl.1 rfl (lv_room (Nat.le_of_ble_eq_true rfl)) dL_look_5 ⟨Nat.le_of_ble_eq_true rfl, Nat.le_of_ble_eq_true rfl⟩) (va_S.rf (A := xA (yb E) ysh.length sz)) (fun q _ h => h) (fun q h => h) (fun q _ h => h) ?_ (fun r u t H1 locs1 ht hvm _ hB hz1 hk1 hS1 => ?_)
  · intro C0 ce q9 u t H1 locs1 ht hvm _ hB hz1 hk1 hS1 hce hcv hcl
    obtain ⟨hC0, hP1⟩ := hB
    rw [ht] at hP1
    have hF := (hE.2.2.2 s hEX)
    have fin : ∀ (v : Int) (t2 : State), t2.heap = H1 → yQp E sz (lkP mem) s (.returned (some (.int (iI v)))) t2 := fun v t2 ht2 => ⟨some (0, v), mem, ⟨⟨v, rfl⟩, Or.inl rfl⟩, rfl, by rw [ht2]; exact hP1, hS1.F ht2⟩
    rcases hC0 with rfl | rfl
    · have hcast : (Cond.castable "java/lang/IndexOutOfBoundsException" "java/lang/IndexOutOfBoundsException").before (llAs E x y).toArray s = true := va_Nw.use rfl (hF.2.2.2.2.2.2.2.2.2.2.1 _ (by decide +kernel))
      refine vx_catch C.2.2.1 [] ⟨0, 10, 13, 13⟩ [⟨0, 10, 17, 15⟩] (by rw [htab]; rfl) (fun z hz => by cases hz) (by decide) (by decide) (C.2.2.2 _ (xwm 1297 (by decide +kernel) (by decide +kernel))) hcast hce hcv hcl ?_
      refine lv_astore (lv' := (4, .ref q9) :: ydL E (lllv x y)) C.1 C.2.1 dL_look_13 hl (by decide) rfl (fun ls hl => ?_)
      refine lv_iconst (v := 1) C.1 C.2.1 dL_look_15 (by decide +kernel) ?_
      refine W.widen (k := 1) (n := 6) (by decide) (by decide) ?_
      exact W.iret (v := 1) C.1 C.2.1 hr (fun t2 ht2 _ => fin 1 t2 ht2) hS1.2.2 dL_look_16 B.notSynchronized
    · have hcast : (Cond.castable "java/util/NoSuchElementException" "java/util/NoSuchElementException").before (llAs E x y).toArray s = true := va_Nw.use rfl (hF.2.2.2.2.2.2.2.2.2.2.2.2.2 _ (by decide +kernel))
      refine vx_catch C.2.2.1 [⟨0, 10, 13, 13⟩] ⟨0, 10, 17, 15⟩ [] (by rw [htab]; rfl) (fun z hz => ?_) (by decide) (by decide) (C.2.2.2 _ (xwm 1298 (by decide +kernel) (by decide +kernel))) hcast hce hcv hcl ?_
      · simp only [List.mem_cons, List.not_mem_nil, or_false] at hz
        subst hz
        exact Or.inr ⟨by decide, "java/lang/IndexOutOfBoundsException", C.2.2.2 _ (xwm 1297 (by decide +kernel) (by decide +kernel)), hnc s hEX⟩
      refine lv_astore (lv' := (4, .ref q9) :: ydL E (lllv x y)) C.1 C.2.1 dL_look_17 hl (by decide) rfl (fun ls hl => ?_)
      refine lv_iconst (v := 2) C.1 C.2.1 dL_look_19 (by decide +kernel) ?_
      refine W.widen (k := 1) (n := 6) (by decide) (by decide) ?_
      exact W.iret (v := 2) C.1 C.2.1 hr (fun t2 ht2 _ => fin 2 t2 ht2) hS1.2.2 dL_look_20 B.notSynchronized
  · rw [ht] at hB
    have := ll_8 (E := E) hE (R := (headSpec xLW llRm).room) (mem := mem) (ce := 0 + 1) (sl := 0 + 6) ⟨⟨by decide, by decide⟩, by decide, by decide⟩ (x := x) (y := y) (v := r.toInt) p e s m (llAs E x y).toArray below meth c (xA (yb E) ysh.length sz) (fun _ => yQp E sz (lkP mem)) hC (fun r m9 t k1 k2 k3 => ⟨r, m9, k1, rfl, k2, k3⟩) H1 locs1 ls hl hB hS1
    rw [show ([(0, r.toInt), (0, 0), (1, 143)] : List yV).map (ydv E) = [.int r, .int 0, .ref (yb E + 143)] by show [Value.int (iI r.toInt), Value.int (iI 0), Value.ref (yb E + 143)] = _; rw [iI_t]; rfl] at this
    exact this
end
section
/-! LOOK, exactly: what it tells and what it throws, of both sides -/
def sLk (D : dDc) (W : dU) (v : Nat) (y : Int) : Int := if y = 0 then vLo D v else if y = 1 then vHi D v else if y = 2 then vHo D v else if y = 3 then vDe D v else if y = 4 then uC W v else if uCk (uX W) v then 2 else vBo D v
/-- 0 told, 1 no such VOICE, 2 no such what -/
def sLkc (D : dDc) (x y : Int) : Int := if 0 ≤ x ∧ x < (D.2.1.length : Int) then (if 0 ≤ y ∧ y ≤ 5 then 0 else 2) else 1
section LKP
variable {D : dDc} {W : dU} {v : Nat} {x y : Int}
theorem sLk_0 (h : y = 0) : sLk D W v y = vLo D v := if_pos h
theorem sLk_1 (h : y = 1) : sLk D W v y = vHi D v := by
  unfold sLk
  rw [if_neg (by omega), if_pos h]
theorem sLk_2 (h : y = 2) : sLk D W v y = vHo D v := by
  unfold sLk
  rw [if_neg (by omega), if_neg (by omega), if_pos h]
theorem sLk_3 (h : y = 3) : sLk D W v y = vDe D v := by
  unfold sLk
  rw [if_neg (by omega), if_neg (by omega), if_neg (by omega), if_pos h]
theorem sLk_4 (h : y = 4) : sLk D W v y = uC W v := by
  unfold sLk
  rw [if_neg (by omega), if_neg (by omega), if_neg (by omega), if_neg (by omega), if_pos h]
theorem sLk_5 (h : y = 5) : sLk D W v y = if uCk (uX W) v then 2 else vBo D v := by
  unfold sLk
  rw [if_neg (by omega), if_neg (by omega), if_neg (by omega), if_neg (by omega), if_neg (by omega)]
theorem sLkc_0 (h : 0 ≤ x ∧ x < (D.2.1.length : Int)) (h2 : 0 ≤ y ∧ y ≤ 5) : sLkc D x y = 0 := by
  unfold sLkc
  rw [if_pos h, if_pos h2]
theorem sLkc_1 (h : ¬ (0 ≤ x ∧ x < (D.2.1.length : Int))) : sLkc D x y = 1 := if_neg h
theorem sLkc_2 (h : 0 ≤ x ∧ x < (D.2.1.length : Int)) (h2 : ¬ (0 ≤ y ∧ y ≤ 5)) : sLkc D x y = 2 := by
  unfold sLkc
  rw [if_pos h, if_neg h2]
end LKP
theorem c6_holds5 {E : yE} (hE : yEok E) {D : Nat} (hD : 1 ≤ D) {mem : yMem} {Q : Option yV → yMem → Prop} {x : Int} (yes : 0 ≤ w32 x → w32 x < w32 (mem 5 1) → Q (some (0, 1)) mem) (no : ¬ (0 ≤ w32 x ∧ w32 x < w32 (mem 5 1)) → Q (some (0, 0)) mem) : yCon E D xm_103 [(1, 5), (0, x)] mem Q := by
  obtain ⟨d, rfl⟩ := Nat.exists_eq_add_of_le' hD
  refine e_103 ?_
  refine zvc_ok hE 60 [] _ _ _ _ _ _ _ xmo_103 ?_
  simp only [ynok_30, ynok_31, w32c_0, w32c_1, w32c_2, w32c_3, w32c_4, w32c_5, w32c_6, w32c_7, w32c_8, w32c_9, w32c_10, w32c_11, w32c_12, w32c_13, w32c_14, w32c_m1, w32c_m2, w32c_118, Int.reduceAdd, Int.reduceSub, Int.reduceMul, yput_s, yput_n, znl_n, znl_0, znl_1, znl_4, ysum_n, ysum_0, ysum_1, ysum_4, true_and, and_true, Nat.reduceAdd, Nat.reduceLeDiff, true_implies, eq_self, true_or, or_true, or_false, false_or, not_true_eq_false, not_false_eq_true, false_implies, implies_true, yset_s, yset_o, yset_d, ne_eq, Nat.reduceEqDiff, Int.reduceToNat, Int.reduceEq, Int.reduceLE, Int.reduceLT, Classical.not_not, Nat.reduceLT, ↓zvk_s, ↓zvk_n, ↓s_103_0, ↓s_103_1, ↓s_103_4, ↓s_103_5, ↓s_103_6_3, ↓s_103_6_5, ↓s_103_6_7, ↓s_103_6_9, ↓s_103_6_29, ↓s_103_6_31, ↓s_103_6_33, ↓s_103_6_35, ↓s_103_9, ↓s_103_12, ↓s_103_13, ↓s_103_16, ↓s_103_17, zio_33, zio_3, zio_35, zio_5, zio_7, zio_9, zio_29, zio_31]
  exact ⟨fun z => no (by omega), fun h => ⟨fun z => no (by omega), fun h2 => yes (by omega) (by omega)⟩⟩
theorem c6_isCracked57 {E : yE} (hE : yEok E) {D : Nat} (hD : 1 ≤ D) {mem : yMem} {Q : Option yV → yMem → Prop} {x : Int} (h1 : ¬ w32 (ybin 3 (ybin 7 (mem 57 10) x) 1) = 0 → Q (some (0, 1)) mem) (h0 : w32 (ybin 3 (ybin 7 (mem 57 10) x) 1) = 0 → Q (some (0, 0)) mem) : yCon E D xm_139 [(1, 57), (0, x)] mem Q := by
  obtain ⟨d, rfl⟩ := Nat.exists_eq_add_of_le' hD
  refine e_139 ?_
  refine zvc_ok hE 60 [] _ _ _ _ _ _ _ xmo_139 ?_
  simp only [ynok_30, ynok_31, w32c_0, w32c_1, w32c_2, w32c_3, w32c_4, w32c_5, w32c_6, w32c_7, w32c_8, w32c_9, w32c_10, w32c_11, w32c_12, w32c_13, w32c_14, w32c_m1, w32c_m2, w32c_118, Int.reduceAdd, Int.reduceSub, Int.reduceMul, yput_s, yput_n, znl_n, znl_0, znl_1, znl_4, ysum_n, ysum_0, ysum_1, ysum_4, true_and, and_true, Nat.reduceAdd, Nat.reduceLeDiff, true_implies, eq_self, true_or, or_true, or_false, false_or, not_true_eq_false, not_false_eq_true, false_implies, implies_true, yset_s, yset_o, yset_d, ne_eq, Nat.reduceEqDiff, Int.reduceToNat, Int.reduceEq, Int.reduceLE, Int.reduceLT, Classical.not_not, Nat.reduceLT, ↓zvk_s, ↓zvk_n, ↓s_139_0, ↓s_139_1_57, ↓s_139_1_64, ↓s_139_4, ↓s_139_5, ↓s_139_6, ↓s_139_7, ↓s_139_8, ↓s_139_11, ↓s_139_12, ↓s_139_15, ↓s_139_16, zio_64, zio_57]
  exact ⟨h0, h1⟩
theorem c6_isBoy2 {E : yE} (hE : yEok E) {D : Nat} (hD : 1 ≤ D) {mem : yMem} {Q : Option yV → yMem → Prop} {x : Int} (h1 : ¬ w32 (ybin 3 (ybin 7 (mem 2 16) x) 1) = 0 → Q (some (0, 1)) mem) (h0 : w32 (ybin 3 (ybin 7 (mem 2 16) x) 1) = 0 → Q (some (0, 0)) mem) : yCon E D xm_81 [(1, 2), (0, x)] mem Q := by
  obtain ⟨d, rfl⟩ := Nat.exists_eq_add_of_le' hD
  refine e_81 ?_
  refine zvc_ok hE 60 [] _ _ _ _ _ _ _ xmo_81 ?_
  simp only [ynok_30, ynok_31, w32c_0, w32c_1, w32c_2, w32c_3, w32c_4, w32c_5, w32c_6, w32c_7, w32c_8, w32c_9, w32c_10, w32c_11, w32c_12, w32c_13, w32c_14, w32c_m1, w32c_m2, w32c_118, Int.reduceAdd, Int.reduceSub, Int.reduceMul, yput_s, yput_n, znl_n, znl_0, znl_1, znl_4, ysum_n, ysum_0, ysum_1, ysum_4, true_and, and_true, Nat.reduceAdd, Nat.reduceLeDiff, true_implies, eq_self, true_or, or_true, or_false, false_or, not_true_eq_false, not_false_eq_true, false_implies, implies_true, yset_s, yset_o, yset_d, ne_eq, Nat.reduceEqDiff, Int.reduceToNat, Int.reduceEq, Int.reduceLE, Int.reduceLT, Classical.not_not, Nat.reduceLT, ↓zvk_s, ↓zvk_n, ↓s_81_0, ↓s_81_1_2, ↓s_81_1_28, ↓s_81_4, ↓s_81_5, ↓s_81_6, ↓s_81_7, ↓s_81_8, ↓s_81_11, ↓s_81_12, ↓s_81_15, ↓s_81_16, zio_2, zio_28]
  exact ⟨h0, h1⟩
section LKG6
variable {E : yE} {R : Room} {mem : yMem} {ce sl : Nat} {Post : Option yV → yMem → Prop} {x y : Int}
theorem yo_lrd {d : Nat} {M : xM} {pc nx : Nat} {lv : yL} {st : List yV} (hE : yEok E) (hR : yRm R d ce sl) {i n : Nat} {rs : List Nat} {j : Int} (hok : xok xmt M pc (67, nx, 0, 0, [])) (hK : ysh[i]? = some (.inl (2, n, rs))) (h0 : 0 ≤ w32 j) (h1 : w32 j < (n : Int)) (h : yG E R M nx lv ((4, mem i (w32 j).toNat) :: st) mem ce sl Post) : yG E R M pc lv ((0, j) :: (1, (i : Int)) :: st) mem ce sl Post := yst (d := d) hE hR.1 hR.2 hok (show ∃ n rs, ysh[i]? = some (.inl (2, n, rs)) ∧ 0 ≤ w32 j ∧ w32 j < (n : Int) ∧ yG E R M nx lv ((4, mem i (w32 j).toNat) :: st) mem ce sl Post from ⟨n, rs, hK, h0, h1, h⟩)
theorem yo_lcmp6 {d : Nat} {M : xM} {pc nx : Nat} {lv : yL} {st : List yV} (hE : yEok E) (hR : yRm R d ce sl) {a b : Int} (hok : xok xmt M pc (8, nx, 0, 0, [])) (h : yG E R M nx lv ((0, ycmp a b) :: st) mem ce sl Post) : yG E R M pc lv ((4, b) :: (4, a) :: st) mem ce sl Post := yst (d := d) hE hR.1 hR.2 hok h
theorem lk6_get (hE : yEok E) (hR : yRm R 2 ce sl) {pc f1 c1 c2 ci f2 n nx : Nat} {fs gs : List yV} {rs : List Nat}
    (h0 : xfind xk_LK pc = some (2, pc + 1, 1, 0, [])) (h1 : xfind xk_LK (pc + 1) = some (16, pc + 4, 11, f1, [])) (h2 : xfind xk_LK (pc + 4) = some (16, pc + 7, ci, f2, [])) (h3 : xfind xk_LK (pc + 7) = some (2, pc + 8, 0, 1, [])) (h4 : xfind xk_LK (pc + 8) = some (19, pc + 9, 0, 0, [])) (h5 : xfind xk_LK (pc + 9) = some (30, nx, 0, 0, []))
    (k0 : ysh[0]? = some (.inr (11, fs))) (k1 : fs[f1]? = some (1, (c1 : Int))) (k2 : ysh[c1]? = some (.inr (ci, gs))) (k3 : gs[f2]? = some (1, (c2 : Int))) (k4 : ysh[c2]? = some (.inl (0, n, rs))) (hx : 0 ≤ w32 x) (hx2 : w32 x < (n : Int))
    (hQ : Post (some (0, mem c2 (w32 x).toNat)) mem) : yG E R xm_LK pc (lklv x y) [] mem ce sl Post :=
  yo_ld (v := (1, 0)) hE hR (lko h0) rfl rfl <|
  yo_gf (i := 0) hE hR (lko h1) k0 k1 <|
  yo_gf (i := c1) hE hR (lko h2) k2 k3 <|
  yo_ld (v := (0, x)) hE hR (lko h3) rfl rfl <|
  yo_rd (i := c2) hE hR (lko h4) k4 hx hx2 <|
  yo_rt hE hR (lko h5) (Or.inl rfl) hQ
theorem lk6_5 (hE : yEok E) (hR : yRm R 2 ce sl) (h2 : ¬ w32 (ybin 3 (ybin 7 (mem 57 10) x) 1) = 0 → Post (some (0, cI 2)) mem) (h1 : w32 (ybin 3 (ybin 7 (mem 57 10) x) 1) = 0 → ¬ w32 (ybin 3 (ybin 7 (mem 2 16) x) 1) = 0 → Post (some (0, cI 1)) mem) (h0 : w32 (ybin 3 (ybin 7 (mem 57 10) x) 1) = 0 → w32 (ybin 3 (ybin 7 (mem 2 16) x) 1) = 0 → Post (some (0, cI 0)) mem) : yG E R xm_LK 114 (lklv x y) [] mem ce sl Post := by
  have rt : ∀ v, Post (some (0, v)) mem → yG E R xm_LK 145 (lklv x y) [(0, v)] mem ce sl Post := fun v h => yo_rt (nx := 146) (b := 0) hE hR (lko rfl) (Or.inl rfl) h
  have n1 : ¬ w32 1 = w32 0 := by decide
  refine yo_ld (nx := 115) (k := 1) (i := 0) (v := (1, 0)) hE hR (lko rfl) rfl rfl ?_
  refine yo_gf (nx := 118) (ci := 11) (k := 4) (i := 0) (v := (1, 57)) hE hR (lko rfl) rfl rfl ?_
  refine yo_ld (nx := 119) (k := 0) (i := 1) (v := (0, x)) hE hR (lko rfl) rfl rfl ?_
  refine yo_call (mi := 139) (ci := 10) (i := 57) (avs := [(0, x)]) (rest := []) (M' := xm_139) hE hR (lko rfl) rfl rfl (by decide) (Nat.le_of_ble_eq_true rfl) (by decide) rfl (c6_isCracked57 hE (by decide) (fun q => ?_) (fun q => ?_))
  · refine yo_if (pc := 122) (nx := 125) (t := 129) (c := 0) (x := 1) hE hR (lko rfl) (fun z => absurd (show w32 1 = w32 0 from z) n1) (fun _ => ?_)
    exact yo_c (nx := 126) (a := 2) hE hR (lko rfl) (yo_go (nx := 145) hE hR (lko rfl) (rt _ (h2 q)))
  · refine yo_if (pc := 122) (nx := 125) (t := 129) (c := 0) (x := 0) hE hR (lko rfl) (fun _ => ?_) (fun z => absurd (show w32 0 = w32 0 from rfl) z)
    refine yo_ld (nx := 130) (k := 1) (i := 0) (v := (1, 0)) hE hR (lko rfl) rfl rfl ?_
    refine yo_gf (nx := 133) (ci := 11) (k := 1) (i := 0) (v := (1, 2)) hE hR (lko rfl) rfl rfl ?_
    refine yo_ld (nx := 134) (k := 0) (i := 1) (v := (0, x)) hE hR (lko rfl) rfl rfl ?_
    refine yo_call (mi := 81) (ci := 4) (i := 2) (avs := [(0, x)]) (rest := []) (M' := xm_81) hE hR (lko rfl) rfl rfl (by decide) (Nat.le_of_ble_eq_true rfl) (by decide) rfl (c6_isBoy2 hE (by decide) (fun q2 => ?_) (fun q2 => ?_))
    · refine yo_if (pc := 137) (nx := 140) (t := 144) (c := 0) (x := 1) hE hR (lko rfl) (fun z => absurd (show w32 1 = w32 0 from z) n1) (fun _ => ?_)
      exact yo_c (nx := 141) (a := 1) hE hR (lko rfl) (yo_go (nx := 145) hE hR (lko rfl) (rt _ (h1 q q2)))
    · refine yo_if (pc := 137) (nx := 140) (t := 144) (c := 0) (x := 0) hE hR (lko rfl) (fun _ => ?_) (fun z => absurd (show w32 0 = w32 0 from rfl) z)
      exact yo_c (nx := 145) (a := 0) hE hR (lko rfl) (rt _ (h0 q q2))
end LKG6
abbrev lkX6 (E : yE) (D : dDc) (mem : yMem) (x y : Int) (sz : Nat) : String → State → State → Prop := vx_X (fun _ : Unit => True) (fun C _ t => ((C = "java/lang/IndexOutOfBoundsException" ∧ sLkc D (w32 x) (w32 y) = 1) ∨ (C = "java/util/NoSuchElementException" ∧ sLkc D (w32 x) (w32 y) = 2)) ∧ va_P (yD E) vwCl (yW E mem) t.heap) (xA (yb E) ysh.length sz)
abbrev lkQ6 (E : yE) (D : dDc) (Wd : dU) (mem : yMem) (x y : Int) (sz : Nat) : Array Value → State → Outcome → State → Prop := va_Qi (fun (r : Int32) (_ : Unit) => sLkc D (w32 x) (w32 y) = 0 ∧ r.toInt = sLk D Wd (w32 x).toNat (w32 y)) (fun _ t => va_P (yD E) vwCl (yW E mem) t.heap) (xA (yb E) ysh.length sz)
set_option maxHeartbeats 4000000 in
theorem y_look6 {E : yE} (hE : yEok E) {D : dDc} {Wd : dU} {k : Nat} {mem : yMem} (hG : aGok mem) (hD : cDh mem D) (hW : cW mem 57 Wd) (hu : uOk D k Wd) (x y : Int) (sz : Nat) (hb : yb E + ysh.length ≤ sz) : vx_Met (yl E) yX11_look lkWs lkRm (va_Pc [.ref (yb E + 0), .int (iI x), .int (iI y)] (yPp E mem sz)) (lkQ6 E D Wd mem x y sz) (lkX6 E D mem x y sz) 1 6 (xA (yb E) ysh.length sz) := by
  refine vx_ofW (cc := cX11_look) (maxL := 3) (ret := some .int) (by decide +kernel) rfl ?_
  intro p e s m args below meth c s₁ B hml htab hvv
  obtain ⟨rfl, hPp⟩ := hvv
  have hts := atoms_spec (ws := lkWs) B.pre
  have hC : yCtx E xm_LK p s m ([Value.ref (yb E + 0), Value.int (iI x), Value.int (iI y)] : List Value).toArray meth c (xA (yb E) ysh.length sz) := yw_ctx B rfl rfl hml rfl rfl (fun w hw => hts w (List.mem_cons_of_mem _ hw)) hb hPp
  obtain ⟨hsz, hP, hK, hEX⟩ := hPp
  have hl := lv_entry ([.ref (yb E + 0), .int (iI x), .int (iI y)]) (n := 3) (Nat.le_of_ble_eq_true rfl)
  rw [lg_entry_eq]
  generalize (lg_sl ([.ref (yb E + 0), .int (iI x), .int (iI y)]) ++ List.replicate (3 - (lg_sl ([.ref (yb E + 0), .int (iI x), .int (iI y)])).length) Slot.unset).toArray = ls at hl ⊢
  have hl : lv_has ls 3 (ydL E (lklv x y)) := hl
  have hR : ∀ ce sl, ce ≤ 1 → sl ≤ 6 → yRm (headSpec lkWs lkRm).room 2 ce sl := fun ce sl h1 h2 => ⟨⟨by decide, by decide⟩, h1, h2⟩
  have C := hC.1.1
  refine lv_aload_n C.1 C.2.1 dX11_look_0 rfl (lv_at hl 0 rfl) ?_
  refine yw_getf (i := 0) (v := (1, 2)) (lko (show xfind xk_LK 1 = some (16, 4, 11, 1, []) from rfl)) rfl rfl hC hP ?_
  refine yw_getf (i := 2) (v := (1, 5)) (lko (show xfind xk_LK 4 = some (16, 7, 4, 1, []) from rfl)) rfl rfl hC hP ?_
  refine lv_iload_n C.1 C.2.1 dX11_look_7 rfl (lv_at hl 1 rfl) ?_
  obtain ⟨-, M', hmi, hc, q6, hq6, hqn⟩ := lko (show xfind xk_LK 8 = some (28, 11, 103, 6, []) from rfl)
  have hmi' : M' = xm_103 := by
    have h2 : xmt[103]? = some xm_103 := rfl
    rw [show xmt[((28, 11, 103, 6, []) : xOp).2.2.1]? = xmt[103]? from rfl, h2] at hmi
    exact (Option.some.inj hmi).symm
  subst hmi'
  refine yw_call (st := [(0, x), (1, 5)]) (rest := []) hC va_S.rf (y_runV (d := 2) (ci := 6) (z := 5) (avs := [(0, x)]) (rest := []) (st := [(0, x), (1, 5)]) (Pc := fun r m => m = mem ∧ ((r = some (0, 1) ∧ 0 ≤ w32 x ∧ w32 x < w32 (mem 5 1)) ∨ (r = some (0, 0) ∧ ¬ (0 ≤ w32 x ∧ w32 x < w32 (mem 5 1))))) hE (xmt_ok _ _ hmi) hc (by decide) ⟨by decide, by decide⟩ ⟨by decide, by decide⟩ rfl hq6 hqn rfl rfl (by decide) (c6_holds5 hE (by decide) (fun h1 h2 => ⟨rfl, Or.inl ⟨rfl, h1, h2⟩⟩) (fun hn => ⟨rfl, Or.inr ⟨rfl, hn⟩⟩)) p e s m _ below meth c _ hC _ _ ls hl hP va_S.rf) (fun r mem' H1 locs1 hr hP1 hS1 => ?_)
  obtain ⟨rfl, hr⟩ := hr
  have hF := (hE.2.2.2 s hEX)
  have hAB : ∀ q, xA (yb E) ysh.length sz q → yb E ≤ q := fun q hq => xA_lo (by omega) hq
  obtain ⟨hU, hN, hstr, hthr, -, hstr2, hthr2⟩ := hF.2.2.2.2.2.2.2
  have hxc : ∀ (C0 : String), ((C0 = "java/lang/IndexOutOfBoundsException" ∧ sLkc D (w32 x) (w32 y) = 1) ∨ (C0 = "java/util/NoSuchElementException" ∧ sLkc D (w32 x) (w32 y) = 2)) → ∀ t : State, s.vm.Alike t.vm → H1.size ≤ t.heap.size → (∀ q : Nat, q < H1.size → t.heap[q]? = H1[q]?) → lkX6 E D mem' x y sz C0 s t := fun C0 hC0 t hv1 hz2 hk2 =>
    ⟨(), trivial, ⟨hC0, hP1.kept (fun k q hq => hk2 q.1 ((hP1 k q hq).lt))⟩, Nat.le_trans hS1.1 hz2, fun q hq hn => (hk2 q (Nat.lt_of_lt_of_le hq hS1.1)).trans (hS1.2.1 q hq hn)⟩
  obtain ⟨n5, n6⟩ := (cTb_n hD).2.1
  rcases hr with ⟨rfl, hx0, hxn⟩ | ⟨rfl, hxn⟩
  · refine lv_if_ne (tgt := 24) C.1 C.2.1 dX11_look_11 (by decide) (fun _ => ?_) (fun h0 => absurd (show iI 1 = 0 from h0) (by decide))
    have hv : 0 ≤ w32 x ∧ w32 x < (D.2.1.length : Int) := ⟨hx0, by omega⟩
    have hvn : (w32 x).toNat < D.2.1.length := by omega
    have hx6 : w32 x < 6 := by omega
    have hV : w32 x = (((w32 x).toNat : Nat) : Int) := by omega
    have X9 := hu.2.2.2.2.2.2.2.2
    have t9 := uCk_t hW.2.2.2.2.2.2.2.2.2.2.1 X9.1 X9.2.1 hV (show (w32 x).toNat < 6 by omega)
    obtain ⟨K, k1, k2, k3, k4⟩ := cTb_b hD hvn
    have tB := yb_tst (r := x) (b := (w32 x).toNat) k1 (by omega) hV (by omega)
    rw [k3] at tB
    have hQ : ∀ (r : Option yV) (m9 : yMem) (t : State), ((∃ v, r = some (0, v) ∧ sLkc D (w32 x) (w32 y) = 0 ∧ w32 v = sLk D Wd (w32 x).toNat (w32 y)) ∧ m9 = mem') → va_P (yD E) vwCl (yW E m9) t.heap → va_F (xA (yb E) ysh.length sz) s t → lkQ6 E D Wd mem' x y sz ([Value.ref (yb E + 0), Value.int (iI x), Value.int (iI y)] : List Value).toArray s (.returned (r.map (ydv E))) t := by
      rintro r m9 t ⟨⟨v, rfl, q1, q2⟩, rfl⟩ k1 k2
      exact ⟨⟨iI v, (), rfl, ⟨q1, q2⟩, k1⟩, k2⟩
    have norm : ∀ pc, (yG E (headSpec lkWs lkRm).room xm_LK pc (lklv x y) [] mem' 0 0 (fun r m9 => (∃ v, r = some (0, v) ∧ sLkc D (w32 x) (w32 y) = 0 ∧ w32 v = sLk D Wd (w32 x).toNat (w32 y)) ∧ m9 = mem')) → W p (yl E) e (headSpec lkWs lkRm).room s m ([Value.ref (yb E + 0), Value.int (iI x), Value.int (iI y)] : List Value).toArray below meth c H1 locs1 (0 + 0) (0 + 0) (vx_MQ below (lkQ6 E D Wd mem' x y sz) (lkX6 E D mem' x y sz) ([Value.ref (yb E + 0), Value.int (iI x), Value.int (iI y)] : List Value).toArray s 1 6 (xA (yb E) ysh.length sz)) (F0 m pc ls []) := fun pc h => vx_ret (h p e s m _ below meth c _ _ hC hQ H1 locs1 ls hl hP1 hS1)
    refine lv_iload_n C.1 C.2.1 dX11_look_24 rfl (lv_at hl 2 rfl) ?_
    refine lko (show xfind xk_LK 25 = some (15, 0, 146, 0, [(0, 64), (1, 74), (2, 84), (3, 94), (4, 104), (5, 114)]) from rfl) p (yl E) e _ s m _ below meth c _ _ _ _ _ ls _ C (iI y) ?_
    by_cases hy : ∃ q ∈ ([(0, 64), (1, 74), (2, 84), (3, 94), (4, 104), (5, 114)] : List (Nat × Nat)), iI y = nI q.1
    · obtain ⟨q, hq, hq2⟩ := hy
      refine Or.inl ⟨q, hq, hq2, norm _ ?_⟩
      have ok : ∀ v, (0 ≤ w32 y ∧ w32 y ≤ 5) → w32 v = sLk D Wd (w32 x).toNat (w32 y) → (∃ v', some ((0, v) : yV) = some (0, v') ∧ sLkc D (w32 x) (w32 y) = 0 ∧ w32 v' = sLk D Wd (w32 x).toNat (w32 y)) ∧ mem' = mem' := fun v hy5 e => ⟨⟨v, rfl, sLkc_0 hv hy5, e⟩, rfl⟩
      have ey : ∀ n : Nat, n < 6 → iI y = nI n → w32 y = (n : Int) := fun n hn e => (iI_inj.mp (e.trans (iI_n n).symm)).trans (w32_of (by omega) (by omega))
      simp only [List.mem_cons, List.not_mem_nil, or_false] at hq
      rcases hq with rfl | rfl | rfl | rfl | rfl | rfl
      · exact lk6_get (c1 := 2) (c2 := 13) (n := 6) hE (hR 0 0 (by decide) (by decide)) rfl rfl rfl rfl rfl rfl rfl rfl rfl rfl rfl hx0 hx6 (ok _ (by have := ey 0 (by decide) hq2; omega) (by rw [sLk_0 (ey 0 (by decide) hq2)]; exact (cTb_v hD hvn).1))
      · exact lk6_get (c1 := 2) (c2 := 14) (n := 6) hE (hR 0 0 (by decide) (by decide)) rfl rfl rfl rfl rfl rfl rfl rfl rfl rfl rfl hx0 hx6 (ok _ (by have := ey 1 (by decide) hq2; omega) (by rw [sLk_1 (ey 1 (by decide) hq2)]; exact (cTb_v hD hvn).2.1))
      · exact lk6_get (c1 := 2) (c2 := 15) (n := 6) hE (hR 0 0 (by decide) (by decide)) rfl rfl rfl rfl rfl rfl rfl rfl rfl rfl rfl hx0 hx6 (ok _ (by have := ey 2 (by decide) hq2; omega) (by rw [sLk_2 (ey 2 (by decide) hq2)]; exact (cTb_v hD hvn).2.2.1))
      · exact lk6_get (c1 := 2) (c2 := 16) (n := 6) hE (hR 0 0 (by decide) (by decide)) rfl rfl rfl rfl rfl rfl rfl rfl rfl rfl rfl hx0 hx6 (ok _ (by have := ey 3 (by decide) hq2; omega) (by rw [sLk_3 (ey 3 (by decide) hq2)]; exact (cTb_v hD hvn).2.2.2))
      · exact lk6_get (c1 := 57) (c2 := 59) (n := 6) hE (hR 0 0 (by decide) (by decide)) rfl rfl rfl rfl rfl rfl rfl rfl rfl rfl rfl hx0 hx6 (ok _ (by have := ey 4 (by decide) hq2; omega) (by rw [sLk_4 (ey 4 (by decide) hq2)]; exact hW.2.1 _ (show (w32 x).toNat < 6 by omega)))
      · have y5 := ey 5 (by decide) hq2
        have y55 : 0 ≤ w32 y ∧ w32 y ≤ 5 := by omega
        refine lk6_5 hE (hR 0 0 (by decide) (by decide)) (fun q => ok _ y55 ?_) (fun q q2 => ok _ y55 ?_) (fun q q2 => ok _ y55 ?_)
        · rw [t9] at q
          rw [sLk_5 y5, if_pos (ck_n (Nat.mod_lt _ (by decide)) q)]
          decide
        · rw [t9] at q
          rw [tB] at q2
          rw [sLk_5 y5, if_neg (fun c => absurd q (ck_z c))]
          have e1 : w32 (cI 1) = 1 := by decide
          omega
        · rw [t9] at q
          rw [tB] at q2
          rw [sLk_5 y5, if_neg (fun c => absurd q (ck_z c))]
          have e1 : w32 (cI 0) = 0 := by decide
          omega
    · refine Or.inr ⟨fun q hq hq2 => hy ⟨q, hq, hq2⟩, ?_⟩
      have yn : ¬ (0 ≤ w32 y ∧ w32 y ≤ 5) := fun c => by
        have ye : ∀ n : Nat, n < 6 → w32 y = (n : Int) → iI y = nI n := fun n hn e => (iI_inj.mpr (e.trans (w32_of (by omega) (by omega)).symm)).trans (iI_n n)
        have h6 : w32 y = ((0 : Nat) : Int) ∨ w32 y = ((1 : Nat) : Int) ∨ w32 y = ((2 : Nat) : Int) ∨ w32 y = ((3 : Nat) : Int) ∨ w32 y = ((4 : Nat) : Int) ∨ w32 y = ((5 : Nat) : Int) := by omega
        rcases h6 with h | h | h | h | h | h
        · exact hy ⟨(0, 64), by decide, ye 0 (by decide) h⟩
        · exact hy ⟨(1, 74), by decide, ye 1 (by decide) h⟩
        · exact hy ⟨(2, 84), by decide, ye 2 (by decide) h⟩
        · exact hy ⟨(3, 94), by decide, ye 3 (by decide) h⟩
        · exact hy ⟨(4, 104), by decide, ye 4 (by decide) h⟩
        · exact hy ⟨(5, 114), by decide, ye 5 (by decide) h⟩
      exact ct_throw C.1 C.2.1 hE.1 (own := RX11) (cls := "java/util/NoSuchElementException") (up := "java/lang/RuntimeException") (names := ["java/lang/Exception"]) (ik := 178) (is := 180) (ic := 182) (A := xA (yb E) ysh.length sz) ctNs_0 ctNs_1 ctNs_2 ctNs_5 C.2.2.1 (by decide +kernel) (by decide +kernel) (by decide +kernel) (C.2.2.2 _ (xwm 1369 (by decide +kernel) (by decide +kernel))) (C.2.2.2 _ (xwm 140 (by decide +kernel) (by decide +kernel))) hstr2 (xat2 C.2.2.2 hthr2) (by decide +kernel) (hU.narrow hAB) (hN.narrow hAB) hS1 (by rw [hml]; exact hl.1) dX11_look_146 dX11_look_149 dX11_look_150 dX11_look_152 dX11_look_155 (fun z hz => absurd hz (fun hz => htab z hz)) (by decide) (Nat.le_of_ble_eq_true rfl) (Nat.le_of_ble_eq_true rfl) (Nat.le_of_ble_eq_true rfl) B.notSynchronized (hxc _ (Or.inr ⟨rfl, sLkc_2 hv yn⟩)) (fun z hz => hS1.2.2 z hz) (Nat.le_of_ble_eq_true rfl) (Nat.le_of_ble_eq_true rfl)
  · refine lv_if_ne (tgt := 24) C.1 C.2.1 dX11_look_11 (by decide) (fun h0 => absurd (show iI 0 = 0 from by decide) h0) (fun _ => ?_)
    exact vx_throwS C.1 C.2.1 hE.1 (own := RX11) (cls := "java/lang/IndexOutOfBoundsException") (names := ["java/lang/RuntimeException", "java/lang/Exception"]) (ik := 149) (is := 151) (ic := 153) (A := xA (yb E) ysh.length sz) C.2.2.1 (by decide +kernel) (by decide +kernel) (C.2.2.2 _ (xwm 1303 (by decide +kernel) (by decide +kernel))) (C.2.2.2 _ (xwm 139 (by decide +kernel) (by decide +kernel))) hstr (xat C.2.2.2 hthr) (by decide +kernel) (hU.narrow hAB) (hN.narrow hAB) hS1 (by rw [hml]; exact hl.1) dX11_look_14 dX11_look_17 dX11_look_18 dX11_look_20 dX11_look_23 (fun z hz => absurd hz (fun hz => htab z hz)) (by decide) (Nat.le_of_ble_eq_true rfl) (Nat.le_of_ble_eq_true rfl) (Nat.le_of_ble_eq_true rfl) B.notSynchronized (hxc _ (Or.inl ⟨rfl, sLkc_1 (fun c => hxn ⟨c.1, by omega⟩)⟩)) (fun z hz => hS1.2.2 z hz) (Nat.le_of_ble_eq_true rfl) (Nat.le_of_ble_eq_true rfl)
/-- what the law's own look leaves -/
def lkP6 (D : dDc) (Wd : dU) (mem : yMem) (x y : Int) (r : Option yV) (m : yMem) : Prop := ∃ v, r = some (0, v) ∧ w32 v = sLkc D (w32 x) (w32 y) ∧ ((m = mem ∧ ¬ sLkc D (w32 x) (w32 y) = 0) ∨ ∃ u, m = yset mem 143 0 (w32 u) ∧ w32 u = sLk D Wd (w32 x).toNat (w32 y))
theorem ll6_8 {E : yE} (hE : yEok E) {R : Room} {mem : yMem} {ce sl : Nat} (hR : yRm R 2 ce sl) {D : dDc} {Wd : dU} {x y v : Int} (hs : sLkc D (w32 x) (w32 y) = 0) (hv : w32 v = sLk D Wd (w32 x).toNat (w32 y)) : yG E R xm_LL 8 (lllv x y) [(0, v), (0, 0), (1, 143)] mem ce sl (lkP6 D Wd mem x y) := by
  refine yo_i2l (nx := 9) hE hR (llo rfl) ?_
  refine yo_lst (nx := 10) (i := 143) (n := 1) (rs := []) (j := 0) hE hR (llo rfl) rfl (by decide) (by decide) ?_
  refine yo_go (nx := 21) hE hR (llo rfl) ?_
  refine yo_c (nx := 22) (a := 0) hE hR (llo rfl) ?_
  exact yo_rt (nx := 0) (b := 0) hE hR (llo rfl) (Or.inl rfl) ⟨_, rfl, by rw [hs]; decide, Or.inr ⟨v, rfl, hv⟩⟩
set_option maxHeartbeats 4000000 in
theorem y_lklaw6 {E : yE} (hE : yEok E) (hnc : ∀ s, yEX E s → va_Nc "java/util/NoSuchElementException" "java/lang/IndexOutOfBoundsException" s) {D : dDc} {Wd : dU} {k : Nat} {mem : yMem} (hG : aGok mem) (hD : cDh mem D) (hW : cW mem 57 Wd) (hu : uOk D k Wd) (x y : Int) (sz : Nat) (hb : yb E + ysh.length ≤ sz) : Met (yl E) yL_look xLW llRm (va_Pc (llAs E x y) (yPp E mem sz)) (fun _ => yQp E sz (lkP6 D Wd mem x y)) 1 6 (xA (yb E) ysh.length sz) := by
  refine xofWH (cc := cL_look) (maxL := 5) (ret := some .int) (hh := [(0, 10, 13, 13), (0, 10, 17, 15)]) (by decide +kernel) rfl ?_
  intro p e s m args below meth c s₁ B hml htab hvv
  obtain ⟨rfl, hPp⟩ := hvv
  have hts := atoms_spec (ws := xLW) B.pre
  have hC : yCtx E xm_LL p s m (llAs E x y).toArray meth c (xA (yb E) ysh.length sz) := yw_ctx B rfl rfl hml rfl rfl (fun w hw => hts w (List.mem_cons_of_mem _ hw)) hb hPp
  have hPp0 := hPp
  obtain ⟨hsz, hP, hK, hEX⟩ := hPp
  have hl := lv_entry (llAs E x y) (n := 5) (Nat.le_of_ble_eq_true rfl)
  rw [lg_entry_eq]
  generalize (lg_sl (llAs E x y) ++ List.replicate (5 - (lg_sl (llAs E x y)).length) Slot.unset).toArray = ls at hl ⊢
  have hl : lv_has ls 5 (ydL E (lllv x y)) := hl
  have C := hC.1.1
  have hr := B.returns
  refine lv_aload_n C.1 C.2.1 dL_look_0 rfl (lv_at hl 3 rfl) ?_
  refine lv_iconst (v := 0) C.1 C.2.1 dL_look_1 (by decide +kernel) ?_
  refine lv_aload_n C.1 C.2.1 dL_look_2 rfl (lv_at hl 0 rfl) ?_
  refine lv_iload_n C.1 C.2.1 dL_look_3 rfl (lv_at hl 1 rfl) ?_
  refine lv_iload_n C.1 C.2.1 dL_look_4 rfl (lv_at hl 2 rfl) ?_
  have hrc := va_recv hK hP (show vwCl[11]? = some (RX11, TX11, 15) from rfl) (yW_at (E := E) (mem := mem) (show ysh[0]? = some (.inr (11, _)) from rfl))
  have hGw : ∀ w ∈ lkWs, w ∈ xgt := fun w hw => by
    rcases List.mem_cons.mp hw with rfl | hw
    · exact (xwm 1302 (by decide +kernel) (by decide +kernel))
    · exact hw
  refine vx_calli (vx_runV (As := [.int (iI x), .int (iI y)]) (rest := [.int 0, .ref (yb E + 143)]) (n := 2) (bytes := cX11_look) (maxL := 3) (ret := some .int) (C := RX11) ⟨C.1, C.2.1, hml, C.2.2.1, C.2.2.2⟩ (y_look6 hE hG hD hW hu x y sz hb) ⟨callB_of (ws' := xgt) 2 C.2.2.2 (xgt_in' hGw) rfl rfl rfl (C.2.2.2 _ (xwm 116 (by decide +kernel) (by decide +kernel))) (C.2.2.2 _ (xwm 1299 (by decide +kernel) (by decide +kernel))) ⟨by decide, by decide, by decide +kernel⟩ ⟨Nat.le_of_ble_eq_true rfl, Nat.le_of_ble_eq_true rfl⟩, C.2.2.2 _ (xwm 1300 (by decide +kernel) (by decide +kernel)), C.2.2.2 _ (xwm 1301 (by decide +kernel) (by decide +kernel))⟩ ⟨yPp_blind hE, hrc, fun U hU hW => ⟨rfl, hsz ▸ yPp_at hC hE hP va_S.rf U hU hW⟩⟩ rfl rfl hl.1 rfl (lv_room (Nat.le_of_ble_eq_true rfl)) dL_look_5 ⟨Nat.le_of_ble_eq_true rfl, Nat.le_of_ble_eq_true rfl⟩) (va_S.rf (A := xA (yb E) ysh.length sz)) (fun q _ h => h) (fun q h => h) (fun q _ h => h) ?_ (fun r u t H1 locs1 ht hvm hpo hB hz1 hk1 hS1 => ?_)
  · intro C0 ce q9 u t H1 locs1 ht hvm _ hB hz1 hk1 hS1 hce hcv hcl
    obtain ⟨hC0, hP1⟩ := hB
    rw [ht] at hP1
    have hF := (hE.2.2.2 s hEX)
    have fin : ∀ (v : Int) (t2 : State), w32 v = sLkc D (w32 x) (w32 y) → ¬ sLkc D (w32 x) (w32 y) = 0 → t2.heap = H1 → yQp E sz (lkP6 D Wd mem x y) s (.returned (some (.int (iI v)))) t2 := fun v t2 q1 q2 ht2 => ⟨some (0, v), mem, ⟨v, rfl, q1, Or.inl ⟨rfl, q2⟩⟩, rfl, by rw [ht2]; exact hP1, hS1.F ht2⟩
    rcases hC0 with ⟨rfl, hs⟩ | ⟨rfl, hs⟩
    · have hcast : (Cond.castable "java/lang/IndexOutOfBoundsException" "java/lang/IndexOutOfBoundsException").before (llAs E x y).toArray s = true := va_Nw.use rfl (hF.2.2.2.2.2.2.2.2.2.2.1 _ (by decide +kernel))
      refine vx_catch C.2.2.1 [] ⟨0, 10, 13, 13⟩ [⟨0, 10, 17, 15⟩] (by rw [htab]; rfl) (fun z hz => by cases hz) (by decide) (by decide) (C.2.2.2 _ (xwm 1297 (by decide +kernel) (by decide +kernel))) hcast hce hcv hcl ?_
      refine lv_astore (lv' := (4, .ref q9) :: ydL E (lllv x y)) C.1 C.2.1 dL_look_13 hl (by decide) rfl (fun ls hl => ?_)
      refine lv_iconst (v := 1) C.1 C.2.1 dL_look_15 (by decide +kernel) ?_
      refine W.widen (k := 1) (n := 6) (by decide) (by decide) ?_
      exact W.iret (v := 1) C.1 C.2.1 hr (fun t2 ht2 _ => fin 1 t2 (by rw [hs]; decide) (by rw [hs]; decide) ht2) hS1.2.2 dL_look_16 B.notSynchronized
    · have hcast : (Cond.castable "java/util/NoSuchElementException" "java/util/NoSuchElementException").before (llAs E x y).toArray s = true := va_Nw.use rfl (hF.2.2.2.2.2.2.2.2.2.2.2.2.2 _ (by decide +kernel))
      refine vx_catch C.2.2.1 [⟨0, 10, 13, 13⟩] ⟨0, 10, 17, 15⟩ [] (by rw [htab]; rfl) (fun z hz => ?_) (by decide) (by decide) (C.2.2.2 _ (xwm 1298 (by decide +kernel) (by decide +kernel))) hcast hce hcv hcl ?_
      · simp only [List.mem_cons, List.not_mem_nil, or_false] at hz
        subst hz
        exact Or.inr ⟨by decide, "java/lang/IndexOutOfBoundsException", C.2.2.2 _ (xwm 1297 (by decide +kernel) (by decide +kernel)), hnc s hEX⟩
      refine lv_astore (lv' := (4, .ref q9) :: ydL E (lllv x y)) C.1 C.2.1 dL_look_17 hl (by decide) rfl (fun ls hl => ?_)
      refine lv_iconst (v := 2) C.1 C.2.1 dL_look_19 (by decide +kernel) ?_
      refine W.widen (k := 1) (n := 6) (by decide) (by decide) ?_
      exact W.iret (v := 2) C.1 C.2.1 hr (fun t2 ht2 _ => fin 2 t2 (by rw [hs]; decide) (by rw [hs]; decide) ht2) hS1.2.2 dL_look_20 B.notSynchronized
  · rw [ht] at hB
    have := ll6_8 (E := E) hE (R := (headSpec xLW llRm).room) (mem := mem) (ce := 0 + 1) (sl := 0 + 6) ⟨⟨by decide, by decide⟩, by decide, by decide⟩ (x := x) (y := y) (v := r.toInt) hpo.1 (show (iI r.toInt).toInt = _ by rw [iI_t]; exact hpo.2) p e s m (llAs E x y).toArray below meth c (xA (yb E) ysh.length sz) (fun _ => yQp E sz (lkP6 D Wd mem x y)) hC (fun r m9 t k1 k2 k3 => ⟨r, m9, k1, rfl, k2, k3⟩) H1 locs1 ls hl hB hS1
    rw [show ([(0, r.toInt), (0, 0), (1, 143)] : List yV).map (ydv E) = [.int r, .int 0, .ref (yb E + 143)] by show [Value.int (iI r.toInt), Value.int (iI 0), Value.ref (yb E + 143)] = _; rw [iI_t]; rfl] at this
    exact this
/-! the reference's look, and what it says it threw -/
theorem s_207_0 {E : yE} {n d : Nat} {mem : yMem} {Post : Option yV → yMem → Prop} {st : List yV} {r1 r2 : Option yV} {x : Int} : zvc E (n + 1) [] d xm_207 0 [some (1, x), r1, r2] (st) mem Post = (zvc E n [] d xm_207 1 [some (1, x), r1, r2] ((1, x) :: st) mem Post) := zrf rfl
theorem s_207_1 {E : yE} {n d : Nat} {mem : yMem} {Post : Option yV → yMem → Prop} {st : List yV} {r1 r2 : Option yV} {x : Int} : zvc E (n + 1) [] d xm_207 1 [some (1, x), r1, r2] (st) mem Post = (zvc E n [] d xm_207 2 [some (1, x), r1, r2] ((1, x) :: st) mem Post) := zrf rfl
theorem s_207_2 {E : yE} {n d : Nat} {mem : yMem} {Post : Option yV → yMem → Prop} {st : List yV} {r0 r2 : Option yV} {x : Int} : zvc E (n + 1) [] d xm_207 2 [r0, some (0, x), r2] (st) mem Post = (zvc E n [] d xm_207 3 [r0, some (0, x), r2] ((0, x) :: st) mem Post) := zrf rfl
theorem s_207_3 {E : yE} {n d : Nat} {mem : yMem} {Post : Option yV → yMem → Prop} {st : List yV} {r0 r1 r2 : Option yV} {z a0 : Int} : zvc E (n + 1) [] (d + 1) xm_207 3 [r0, r1, r2] ((0, a0) :: (1, z) :: st) mem Post = (zio z 12 = true ∧ ysum st ≤ 8 ∧ zvc E n [] d xm_197 0 [some (1, z), some (0, a0)] [] mem (fun v mem' => zvk E n [] (d + 1) xm_207 6 [r0, r1, r2] st v mem' Post)) := zrf rfl
theorem s_207_6 {E : yE} {n d : Nat} {mem : yMem} {Post : Option yV → yMem → Prop} {st : List yV} {r0 r1 r2 : Option yV} {x : Int} : zvc E (n + 1) [] d xm_207 6 [r0, r1, r2] ((0, x) :: st) mem Post = ((¬ w32 x = w32 0 → zvc E n [] d xm_207 13 [r0, r1, r2] (st) mem Post) ∧ (¬ (¬ w32 x = w32 0) → zvc E n [] d xm_207 9 [r0, r1, r2] (st) mem Post)) := zrf rfl
theorem s_207_9 {E : yE} {n d : Nat} {mem : yMem} {Post : Option yV → yMem → Prop} {st : List yV} {r0 r1 r2 : Option yV} : zvc E (n + 1) [] d xm_207 9 [r0, r1, r2] (st) mem Post = (zvc E n [] d xm_207 10 [r0, r1, r2] ((0, 1) :: st) mem Post) := zrf rfl
theorem s_207_10 {E : yE} {n d : Nat} {mem : yMem} {Post : Option yV → yMem → Prop} {st : List yV} {r0 r1 r2 : Option yV} : zvc E (n + 1) [] d xm_207 10 [r0, r1, r2] (st) mem Post = (zvc E n [] d xm_207 27 [r0, r1, r2] (st) mem Post) := zrf rfl
theorem s_207_13 {E : yE} {n d : Nat} {mem : yMem} {Post : Option yV → yMem → Prop} {st : List yV} {r0 r1 : Option yV} {x : Int} : zvc E (n + 1) [] d xm_207 13 [r0, r1, some (0, x)] (st) mem Post = (zvc E n [] d xm_207 14 [r0, r1, some (0, x)] ((0, x) :: st) mem Post) := zrf rfl
theorem s_207_14 {E : yE} {n d : Nat} {mem : yMem} {Post : Option yV → yMem → Prop} {st : List yV} {r0 r1 r2 : Option yV} {x : Int} : zvc E (n + 1) [] d xm_207 14 [r0, r1, r2] ((0, x) :: st) mem Post = ((w32 x < w32 0 → zvc E n [] d xm_207 22 [r0, r1, r2] (st) mem Post) ∧ (¬ (w32 x < w32 0) → zvc E n [] d xm_207 17 [r0, r1, r2] (st) mem Post)) := zrf rfl
theorem s_207_17 {E : yE} {n d : Nat} {mem : yMem} {Post : Option yV → yMem → Prop} {st : List yV} {r0 r1 : Option yV} {x : Int} : zvc E (n + 1) [] d xm_207 17 [r0, r1, some (0, x)] (st) mem Post = (zvc E n [] d xm_207 18 [r0, r1, some (0, x)] ((0, x) :: st) mem Post) := zrf rfl
theorem s_207_18 {E : yE} {n d : Nat} {mem : yMem} {Post : Option yV → yMem → Prop} {st : List yV} {r0 r1 r2 : Option yV} : zvc E (n + 1) [] d xm_207 18 [r0, r1, r2] (st) mem Post = (zvc E n [] d xm_207 19 [r0, r1, r2] ((0, 5) :: st) mem Post) := zrf rfl
theorem s_207_19 {E : yE} {n d : Nat} {mem : yMem} {Post : Option yV → yMem → Prop} {st : List yV} {r0 r1 r2 : Option yV} {x y : Int} : zvc E (n + 1) [] d xm_207 19 [r0, r1, r2] ((0, y) :: (0, x) :: st) mem Post = ((w32 x ≤ w32 y → zvc E n [] d xm_207 26 [r0, r1, r2] (st) mem Post) ∧ (¬ (w32 x ≤ w32 y) → zvc E n [] d xm_207 22 [r0, r1, r2] (st) mem Post)) := zrf rfl
theorem s_207_22 {E : yE} {n d : Nat} {mem : yMem} {Post : Option yV → yMem → Prop} {st : List yV} {r0 r1 r2 : Option yV} : zvc E (n + 1) [] d xm_207 22 [r0, r1, r2] (st) mem Post = (zvc E n [] d xm_207 23 [r0, r1, r2] ((0, 2) :: st) mem Post) := zrf rfl
theorem s_207_23 {E : yE} {n d : Nat} {mem : yMem} {Post : Option yV → yMem → Prop} {st : List yV} {r0 r1 r2 : Option yV} : zvc E (n + 1) [] d xm_207 23 [r0, r1, r2] (st) mem Post = (zvc E n [] d xm_207 27 [r0, r1, r2] (st) mem Post) := zrf rfl
theorem s_207_26 {E : yE} {n d : Nat} {mem : yMem} {Post : Option yV → yMem → Prop} {st : List yV} {r0 r1 r2 : Option yV} : zvc E (n + 1) [] d xm_207 26 [r0, r1, r2] (st) mem Post = (zvc E n [] d xm_207 27 [r0, r1, r2] ((0, 0) :: st) mem Post) := zrf rfl
theorem s_207_27 {E : yE} {n d : Nat} {mem : yMem} {Post : Option yV → yMem → Prop} {st : List yV} {r0 r1 r2 : Option yV} {x : Int} : zvc E (n + 1) [] d xm_207 27 [r0, r1, r2] ((0, x) :: (1, 95) :: st) mem Post = (zvc E n [] d xm_207 30 [r0, r1, r2] (st) (yset mem 95 0 x) Post) := zrf rfl
theorem s_207_30 {E : yE} {n d : Nat} {mem : yMem} {Post : Option yV → yMem → Prop} {st : List yV} {r1 r2 : Option yV} {x : Int} : zvc E (n + 1) [] d xm_207 30 [some (1, x), r1, r2] (st) mem Post = (zvc E n [] d xm_207 31 [some (1, x), r1, r2] ((1, x) :: st) mem Post) := zrf rfl
theorem s_207_31 {E : yE} {n d : Nat} {mem : yMem} {Post : Option yV → yMem → Prop} {st : List yV} {r0 r1 r2 : Option yV} : zvc E (n + 1) [] d xm_207 31 [r0, r1, r2] ((1, 95) :: st) mem Post = (zvc E n [] d xm_207 34 [r0, r1, r2] ((0, mem 95 0) :: st) mem Post) := zrf rfl
theorem s_207_34 {E : yE} {n d : Nat} {mem : yMem} {Post : Option yV → yMem → Prop} {st : List yV} {r0 r1 r2 : Option yV} {x : Int} : zvc E (n + 1) [] d xm_207 34 [r0, r1, r2] ((0, x) :: st) mem Post = ((w32 x = w32 0 → zvc E n [] d xm_207 39 [r0, r1, r2] (st) mem Post) ∧ (¬ (w32 x = w32 0) → zvc E n [] d xm_207 37 [r0, r1, r2] (st) mem Post)) := zrf rfl
theorem s_207_37 {E : yE} {n d : Nat} {mem : yMem} {Post : Option yV → yMem → Prop} {st : List yV} {r0 r1 r2 : Option yV} : zvc E (n + 1) [] d xm_207 37 [r0, r1, r2] (st) mem Post = (zvc E n [] d xm_207 38 [r0, r1, r2] ((0, 0) :: st) mem Post) := zrf rfl
theorem s_207_38 {E : yE} {n d : Nat} {mem : yMem} {Post : Option yV → yMem → Prop} {r0 r1 r2 : Option yV} {x : Int} : zvc E (n + 1) [] d xm_207 38 [r0, r1, r2] ([(0, x)]) mem Post = (Post (some (0, x)) mem) := zrf rfl
theorem s_207_39 {E : yE} {n d : Nat} {mem : yMem} {Post : Option yV → yMem → Prop} {st : List yV} {r0 r1 : Option yV} {x : Int} : zvc E (n + 1) [] d xm_207 39 [r0, r1, some (0, x)] (st) mem Post = (zvc E n [] d xm_207 40 [r0, r1, some (0, x)] ((0, x) :: st) mem Post) := zrf rfl
theorem s_207_40 {E : yE} {n d : Nat} {mem : yMem} {Post : Option yV → yMem → Prop} {st : List yV} {r0 r1 r2 : Option yV} {x : Int} : zvc E (n + 1) [] d xm_207 40 [r0, r1, r2] ((0, x) :: st) mem Post = ((w32 x = 0 → zvc E n [] d xm_207 76 [r0, r1, r2] (st) mem Post) ∧ (¬ w32 x = 0 → (w32 x = 1 → zvc E n [] d xm_207 83 [r0, r1, r2] (st) mem Post) ∧ (¬ w32 x = 1 → (w32 x = 2 → zvc E n [] d xm_207 90 [r0, r1, r2] (st) mem Post) ∧ (¬ w32 x = 2 → (w32 x = 3 → zvc E n [] d xm_207 97 [r0, r1, r2] (st) mem Post) ∧ (¬ w32 x = 3 → (w32 x = 4 → zvc E n [] d xm_207 104 [r0, r1, r2] (st) mem Post) ∧ (¬ w32 x = 4 → zvc E n [] d xm_207 111 [r0, r1, r2] (st) mem Post)))))) := zrf rfl
theorem s_207_76 {E : yE} {n d : Nat} {mem : yMem} {Post : Option yV → yMem → Prop} {st : List yV} {r1 r2 : Option yV} {x : Int} : zvc E (n + 1) [] d xm_207 76 [some (1, x), r1, r2] (st) mem Post = (zvc E n [] d xm_207 77 [some (1, x), r1, r2] ((1, x) :: st) mem Post) := zrf rfl
theorem s_207_77 {E : yE} {n d : Nat} {mem : yMem} {Post : Option yV → yMem → Prop} {st : List yV} {r0 r1 r2 : Option yV} : zvc E (n + 1) [] d xm_207 77 [r0, r1, r2] ((1, 95) :: st) mem Post = (zvc E n [] d xm_207 80 [r0, r1, r2] ((1, 102) :: st) mem Post) := zrf rfl
theorem s_207_80 {E : yE} {n d : Nat} {mem : yMem} {Post : Option yV → yMem → Prop} {st : List yV} {r0 r2 : Option yV} {x : Int} : zvc E (n + 1) [] d xm_207 80 [r0, some (0, x), r2] (st) mem Post = (zvc E n [] d xm_207 81 [r0, some (0, x), r2] ((0, x) :: st) mem Post) := zrf rfl
theorem s_207_81 {E : yE} {n d : Nat} {mem : yMem} {Post : Option yV → yMem → Prop} {st : List yV} {r0 r1 r2 : Option yV} {z j : Int} : zvc E (n + 1) [] d xm_207 81 [r0, r1, r2] ((0, j) :: (1, z) :: st) mem Post = ((0 ≤ w32 j ∧ w32 j < ((zar z 0 : Nat) : Int)) ∧ zvc E n [] d xm_207 82 [r0, r1, r2] ((0, mem z.toNat (w32 j).toNat) :: st) mem Post) := zrf rfl
theorem s_207_82 {E : yE} {n d : Nat} {mem : yMem} {Post : Option yV → yMem → Prop} {r0 r1 r2 : Option yV} {x : Int} : zvc E (n + 1) [] d xm_207 82 [r0, r1, r2] ([(0, x)]) mem Post = (Post (some (0, x)) mem) := zrf rfl
theorem s_207_83 {E : yE} {n d : Nat} {mem : yMem} {Post : Option yV → yMem → Prop} {st : List yV} {r1 r2 : Option yV} {x : Int} : zvc E (n + 1) [] d xm_207 83 [some (1, x), r1, r2] (st) mem Post = (zvc E n [] d xm_207 84 [some (1, x), r1, r2] ((1, x) :: st) mem Post) := zrf rfl
theorem s_207_84 {E : yE} {n d : Nat} {mem : yMem} {Post : Option yV → yMem → Prop} {st : List yV} {r0 r1 r2 : Option yV} : zvc E (n + 1) [] d xm_207 84 [r0, r1, r2] ((1, 95) :: st) mem Post = (zvc E n [] d xm_207 87 [r0, r1, r2] ((1, 103) :: st) mem Post) := zrf rfl
theorem s_207_87 {E : yE} {n d : Nat} {mem : yMem} {Post : Option yV → yMem → Prop} {st : List yV} {r0 r2 : Option yV} {x : Int} : zvc E (n + 1) [] d xm_207 87 [r0, some (0, x), r2] (st) mem Post = (zvc E n [] d xm_207 88 [r0, some (0, x), r2] ((0, x) :: st) mem Post) := zrf rfl
theorem s_207_88 {E : yE} {n d : Nat} {mem : yMem} {Post : Option yV → yMem → Prop} {st : List yV} {r0 r1 r2 : Option yV} {z j : Int} : zvc E (n + 1) [] d xm_207 88 [r0, r1, r2] ((0, j) :: (1, z) :: st) mem Post = ((0 ≤ w32 j ∧ w32 j < ((zar z 0 : Nat) : Int)) ∧ zvc E n [] d xm_207 89 [r0, r1, r2] ((0, mem z.toNat (w32 j).toNat) :: st) mem Post) := zrf rfl
theorem s_207_89 {E : yE} {n d : Nat} {mem : yMem} {Post : Option yV → yMem → Prop} {r0 r1 r2 : Option yV} {x : Int} : zvc E (n + 1) [] d xm_207 89 [r0, r1, r2] ([(0, x)]) mem Post = (Post (some (0, x)) mem) := zrf rfl
theorem s_207_90 {E : yE} {n d : Nat} {mem : yMem} {Post : Option yV → yMem → Prop} {st : List yV} {r1 r2 : Option yV} {x : Int} : zvc E (n + 1) [] d xm_207 90 [some (1, x), r1, r2] (st) mem Post = (zvc E n [] d xm_207 91 [some (1, x), r1, r2] ((1, x) :: st) mem Post) := zrf rfl
theorem s_207_91 {E : yE} {n d : Nat} {mem : yMem} {Post : Option yV → yMem → Prop} {st : List yV} {r0 r1 r2 : Option yV} : zvc E (n + 1) [] d xm_207 91 [r0, r1, r2] ((1, 95) :: st) mem Post = (zvc E n [] d xm_207 94 [r0, r1, r2] ((1, 105) :: st) mem Post) := zrf rfl
theorem s_207_94 {E : yE} {n d : Nat} {mem : yMem} {Post : Option yV → yMem → Prop} {st : List yV} {r0 r2 : Option yV} {x : Int} : zvc E (n + 1) [] d xm_207 94 [r0, some (0, x), r2] (st) mem Post = (zvc E n [] d xm_207 95 [r0, some (0, x), r2] ((0, x) :: st) mem Post) := zrf rfl
theorem s_207_95 {E : yE} {n d : Nat} {mem : yMem} {Post : Option yV → yMem → Prop} {st : List yV} {r0 r1 r2 : Option yV} {z j : Int} : zvc E (n + 1) [] d xm_207 95 [r0, r1, r2] ((0, j) :: (1, z) :: st) mem Post = ((0 ≤ w32 j ∧ w32 j < ((zar z 0 : Nat) : Int)) ∧ zvc E n [] d xm_207 96 [r0, r1, r2] ((0, mem z.toNat (w32 j).toNat) :: st) mem Post) := zrf rfl
theorem s_207_96 {E : yE} {n d : Nat} {mem : yMem} {Post : Option yV → yMem → Prop} {r0 r1 r2 : Option yV} {x : Int} : zvc E (n + 1) [] d xm_207 96 [r0, r1, r2] ([(0, x)]) mem Post = (Post (some (0, x)) mem) := zrf rfl
theorem s_207_97 {E : yE} {n d : Nat} {mem : yMem} {Post : Option yV → yMem → Prop} {st : List yV} {r1 r2 : Option yV} {x : Int} : zvc E (n + 1) [] d xm_207 97 [some (1, x), r1, r2] (st) mem Post = (zvc E n [] d xm_207 98 [some (1, x), r1, r2] ((1, x) :: st) mem Post) := zrf rfl
theorem s_207_98 {E : yE} {n d : Nat} {mem : yMem} {Post : Option yV → yMem → Prop} {st : List yV} {r0 r1 r2 : Option yV} : zvc E (n + 1) [] d xm_207 98 [r0, r1, r2] ((1, 95) :: st) mem Post = (zvc E n [] d xm_207 101 [r0, r1, r2] ((1, 106) :: st) mem Post) := zrf rfl
theorem s_207_101 {E : yE} {n d : Nat} {mem : yMem} {Post : Option yV → yMem → Prop} {st : List yV} {r0 r2 : Option yV} {x : Int} : zvc E (n + 1) [] d xm_207 101 [r0, some (0, x), r2] (st) mem Post = (zvc E n [] d xm_207 102 [r0, some (0, x), r2] ((0, x) :: st) mem Post) := zrf rfl
theorem s_207_102 {E : yE} {n d : Nat} {mem : yMem} {Post : Option yV → yMem → Prop} {st : List yV} {r0 r1 r2 : Option yV} {z j : Int} : zvc E (n + 1) [] d xm_207 102 [r0, r1, r2] ((0, j) :: (1, z) :: st) mem Post = ((0 ≤ w32 j ∧ w32 j < ((zar z 0 : Nat) : Int)) ∧ zvc E n [] d xm_207 103 [r0, r1, r2] ((0, mem z.toNat (w32 j).toNat) :: st) mem Post) := zrf rfl
theorem s_207_103 {E : yE} {n d : Nat} {mem : yMem} {Post : Option yV → yMem → Prop} {r0 r1 r2 : Option yV} {x : Int} : zvc E (n + 1) [] d xm_207 103 [r0, r1, r2] ([(0, x)]) mem Post = (Post (some (0, x)) mem) := zrf rfl
theorem s_207_104 {E : yE} {n d : Nat} {mem : yMem} {Post : Option yV → yMem → Prop} {st : List yV} {r1 r2 : Option yV} {x : Int} : zvc E (n + 1) [] d xm_207 104 [some (1, x), r1, r2] (st) mem Post = (zvc E n [] d xm_207 105 [some (1, x), r1, r2] ((1, x) :: st) mem Post) := zrf rfl
theorem s_207_105 {E : yE} {n d : Nat} {mem : yMem} {Post : Option yV → yMem → Prop} {st : List yV} {r0 r1 r2 : Option yV} : zvc E (n + 1) [] d xm_207 105 [r0, r1, r2] ((1, 95) :: st) mem Post = (zvc E n [] d xm_207 108 [r0, r1, r2] ((1, 125) :: st) mem Post) := zrf rfl
theorem s_207_108 {E : yE} {n d : Nat} {mem : yMem} {Post : Option yV → yMem → Prop} {st : List yV} {r0 r2 : Option yV} {x : Int} : zvc E (n + 1) [] d xm_207 108 [r0, some (0, x), r2] (st) mem Post = (zvc E n [] d xm_207 109 [r0, some (0, x), r2] ((0, x) :: st) mem Post) := zrf rfl
theorem s_207_109 {E : yE} {n d : Nat} {mem : yMem} {Post : Option yV → yMem → Prop} {st : List yV} {r0 r1 r2 : Option yV} {z j : Int} : zvc E (n + 1) [] d xm_207 109 [r0, r1, r2] ((0, j) :: (1, z) :: st) mem Post = ((0 ≤ w32 j ∧ w32 j < ((zar z 0 : Nat) : Int)) ∧ zvc E n [] d xm_207 110 [r0, r1, r2] ((0, mem z.toNat (w32 j).toNat) :: st) mem Post) := zrf rfl
theorem s_207_110 {E : yE} {n d : Nat} {mem : yMem} {Post : Option yV → yMem → Prop} {r0 r1 r2 : Option yV} {x : Int} : zvc E (n + 1) [] d xm_207 110 [r0, r1, r2] ([(0, x)]) mem Post = (Post (some (0, x)) mem) := zrf rfl
theorem s_207_111 {E : yE} {n d : Nat} {mem : yMem} {Post : Option yV → yMem → Prop} {st : List yV} {r1 r2 : Option yV} {x : Int} : zvc E (n + 1) [] d xm_207 111 [some (1, x), r1, r2] (st) mem Post = (zvc E n [] d xm_207 112 [some (1, x), r1, r2] ((1, x) :: st) mem Post) := zrf rfl
theorem s_207_112 {E : yE} {n d : Nat} {mem : yMem} {Post : Option yV → yMem → Prop} {st : List yV} {r0 r2 : Option yV} {x : Int} : zvc E (n + 1) [] d xm_207 112 [r0, some (0, x), r2] (st) mem Post = (zvc E n [] d xm_207 113 [r0, some (0, x), r2] ((0, x) :: st) mem Post) := zrf rfl
theorem s_207_113 {E : yE} {n d : Nat} {mem : yMem} {Post : Option yV → yMem → Prop} {st : List yV} {r0 r1 r2 : Option yV} {z a0 : Int} : zvc E (n + 1) [] (d + 1) xm_207 113 [r0, r1, r2] ((0, a0) :: (1, z) :: st) mem Post = (zio z 12 = true ∧ ysum st ≤ 8 ∧ zvc E n [] d xm_183 0 [some (1, z), some (0, a0)] [] mem (fun v mem' => zvk E n [] (d + 1) xm_207 116 [r0, r1, r2] st v mem' Post)) := zrf rfl
theorem s_207_116 {E : yE} {n d : Nat} {mem : yMem} {Post : Option yV → yMem → Prop} {st : List yV} {r0 r1 r2 : Option yV} {x : Int} : zvc E (n + 1) [] d xm_207 116 [r0, r1, r2] ((0, x) :: st) mem Post = ((w32 x = w32 0 → zvc E n [] d xm_207 123 [r0, r1, r2] (st) mem Post) ∧ (¬ (w32 x = w32 0) → zvc E n [] d xm_207 119 [r0, r1, r2] (st) mem Post)) := zrf rfl
theorem s_207_119 {E : yE} {n d : Nat} {mem : yMem} {Post : Option yV → yMem → Prop} {st : List yV} {r0 r1 r2 : Option yV} : zvc E (n + 1) [] d xm_207 119 [r0, r1, r2] (st) mem Post = (zvc E n [] d xm_207 120 [r0, r1, r2] ((0, 2) :: st) mem Post) := zrf rfl
theorem s_207_120 {E : yE} {n d : Nat} {mem : yMem} {Post : Option yV → yMem → Prop} {st : List yV} {r0 r1 r2 : Option yV} : zvc E (n + 1) [] d xm_207 120 [r0, r1, r2] (st) mem Post = (zvc E n [] d xm_207 137 [r0, r1, r2] (st) mem Post) := zrf rfl
theorem s_207_123 {E : yE} {n d : Nat} {mem : yMem} {Post : Option yV → yMem → Prop} {st : List yV} {r1 r2 : Option yV} {x : Int} : zvc E (n + 1) [] d xm_207 123 [some (1, x), r1, r2] (st) mem Post = (zvc E n [] d xm_207 124 [some (1, x), r1, r2] ((1, x) :: st) mem Post) := zrf rfl
theorem s_207_124 {E : yE} {n d : Nat} {mem : yMem} {Post : Option yV → yMem → Prop} {st : List yV} {r0 r1 r2 : Option yV} : zvc E (n + 1) [] d xm_207 124 [r0, r1, r2] ((1, 95) :: st) mem Post = (zvc E n [] d xm_207 127 [r0, r1, r2] ((1, 104) :: st) mem Post) := zrf rfl
theorem s_207_127 {E : yE} {n d : Nat} {mem : yMem} {Post : Option yV → yMem → Prop} {st : List yV} {r0 r2 : Option yV} {x : Int} : zvc E (n + 1) [] d xm_207 127 [r0, some (0, x), r2] (st) mem Post = (zvc E n [] d xm_207 128 [r0, some (0, x), r2] ((0, x) :: st) mem Post) := zrf rfl
theorem s_207_128 {E : yE} {n d : Nat} {mem : yMem} {Post : Option yV → yMem → Prop} {st : List yV} {r0 r1 r2 : Option yV} {z j : Int} : zvc E (n + 1) [] d xm_207 128 [r0, r1, r2] ((0, j) :: (1, z) :: st) mem Post = ((0 ≤ w32 j ∧ w32 j < ((zar z 3 : Nat) : Int)) ∧ zvc E n [] d xm_207 129 [r0, r1, r2] ((0, mem z.toNat (w32 j).toNat) :: st) mem Post) := zrf rfl
theorem s_207_129 {E : yE} {n d : Nat} {mem : yMem} {Post : Option yV → yMem → Prop} {st : List yV} {r0 r1 r2 : Option yV} {x : Int} : zvc E (n + 1) [] d xm_207 129 [r0, r1, r2] ((0, x) :: st) mem Post = ((w32 x = w32 0 → zvc E n [] d xm_207 136 [r0, r1, r2] (st) mem Post) ∧ (¬ (w32 x = w32 0) → zvc E n [] d xm_207 132 [r0, r1, r2] (st) mem Post)) := zrf rfl
theorem s_207_132 {E : yE} {n d : Nat} {mem : yMem} {Post : Option yV → yMem → Prop} {st : List yV} {r0 r1 r2 : Option yV} : zvc E (n + 1) [] d xm_207 132 [r0, r1, r2] (st) mem Post = (zvc E n [] d xm_207 133 [r0, r1, r2] ((0, 1) :: st) mem Post) := zrf rfl
theorem s_207_133 {E : yE} {n d : Nat} {mem : yMem} {Post : Option yV → yMem → Prop} {st : List yV} {r0 r1 r2 : Option yV} : zvc E (n + 1) [] d xm_207 133 [r0, r1, r2] (st) mem Post = (zvc E n [] d xm_207 137 [r0, r1, r2] (st) mem Post) := zrf rfl
theorem s_207_136 {E : yE} {n d : Nat} {mem : yMem} {Post : Option yV → yMem → Prop} {st : List yV} {r0 r1 r2 : Option yV} : zvc E (n + 1) [] d xm_207 136 [r0, r1, r2] (st) mem Post = (zvc E n [] d xm_207 137 [r0, r1, r2] ((0, 0) :: st) mem Post) := zrf rfl
theorem s_207_137 {E : yE} {n d : Nat} {mem : yMem} {Post : Option yV → yMem → Prop} {r0 r1 r2 : Option yV} {x : Int} : zvc E (n + 1) [] d xm_207 137 [r0, r1, r2] ([(0, x)]) mem Post = (Post (some (0, x)) mem) := zrf rfl
theorem s_265_0 {E : yE} {n d : Nat} {mem : yMem} {Post : Option yV → yMem → Prop} {st : List yV} {x : Int} : zvc E (n + 1) [] d xm_265 0 [some (1, x)] (st) mem Post = (zvc E n [] d xm_265 1 [some (1, x)] ((1, x) :: st) mem Post) := zrf rfl
theorem s_265_1 {E : yE} {n d : Nat} {mem : yMem} {Post : Option yV → yMem → Prop} {st : List yV} {r0 : Option yV} : zvc E (n + 1) [] d xm_265 1 [r0] ((1, 95) :: st) mem Post = (zvc E n [] d xm_265 4 [r0] ((0, mem 95 0) :: st) mem Post) := zrf rfl
theorem s_265_4 {E : yE} {n d : Nat} {mem : yMem} {Post : Option yV → yMem → Prop} {r0 : Option yV} {x : Int} : zvc E (n + 1) [] d xm_265 4 [r0] ([(0, x)]) mem Post = (Post (some (0, x)) mem) := zrf rfl
theorem e_207 {E : yE} {d : Nat} {mem : yMem} {Q : Option yV → yMem → Prop} {z a0 a1 : Int} (h : zG E d xm_207 0 [some (1, z), some (0, a0), some (0, a1)] [] mem Q) : yCon E (d + 1) xm_207 [(1, z), (0, a0), (0, a1)] mem Q := zcon_of xmo_207 (Nat.le_of_ble_eq_true rfl) h
theorem e_265 {E : yE} {d : Nat} {mem : yMem} {Q : Option yV → yMem → Prop} {z : Int} (h : zG E d xm_265 0 [some (1, z)] [] mem Q) : yCon E (d + 1) xm_265 [(1, z)] mem Q := zcon_of xmo_265 (Nat.le_of_ble_eq_true rfl) h

section RLK
variable {E : yE} {D : dDc} {W : dU} {k : Nat} {mem : yMem} {Q : Option yV → yMem → Prop} {V Y : Int}
theorem r_look (hE : yEok E) {D0 : Nat} (hD : 3 ≤ D0) (hW : rW mem 0 W) (h : rDl mem D) (hu : uOk D k W) (hbo : ∀ v, v < D.2.1.length → vBo D v = 0 ∨ vBo D v = 1) (hQ : ∀ r t, w32 t = sLkc D (w32 V) (w32 Y) → (sLkc D (w32 V) (w32 Y) = 0 → w32 r = sLk D W (w32 V).toNat (w32 Y)) → Q (some (0, r)) (yset mem 95 0 t)) : yCon E D0 xm_207 [(1, 95), (0, V), (0, Y)] mem Q := by
  obtain ⟨d, rfl⟩ := Nat.exists_eq_add_of_le' hD
  obtain ⟨-, ⟨n2, n2'⟩, -⟩ := rTb_n h
  have X := hu.2.2.2.2.2.2.2.2
  have hX := (rW0 hW).2.2.2.2.2.2.2.2.2.2.1
  have e0 : w32 0 = 0 := by decide
  have e1 : w32 1 = 1 := by decide
  have e2 : w32 2 = 2 := by decide
  have L1 : ¬ (0 ≤ w32 V ∧ w32 V < (D.2.1.length : Int)) → Q (some (0, 0)) (yset mem 95 0 1) := fun z => hQ 0 1 (by rw [sLkc_1 z, e1]) (fun c => by rw [sLkc_1 z] at c; omega)
  have L2 : (0 ≤ w32 V ∧ w32 V < (D.2.1.length : Int)) → ¬ (0 ≤ w32 Y ∧ w32 Y ≤ 5) → Q (some (0, 0)) (yset mem 95 0 2) := fun z z2 => hQ 0 2 (by rw [sLkc_2 z z2, e2]) (fun c => by rw [sLkc_2 z z2] at c; omega)
  refine e_207 ?_
  refine zvc_ok hE 90 [] _ _ _ _ _ _ _ xmo_207 ?_
  by_cases hv : 0 ≤ w32 V ∧ w32 V < (D.2.1.length : Int)
  · have hV : w32 V = (((w32 V).toNat : Nat) : Int) := by omega
    have hvn : (w32 V).toNat < D.2.1.length := by omega
    have t := uCk_t hX X.1 X.2.1 hV (show (w32 V).toNat < 6 by omega)
    obtain ⟨b1, b2, b3, b4, b5⟩ := rTb_v h hvn
    have b6 := (rW0 hW).2.1 _ (show (w32 V).toNat < 6 by omega)
    have L0 : ∀ r, (0 ≤ w32 Y ∧ w32 Y ≤ 5) → w32 r = sLk D W (w32 V).toNat (w32 Y) → Q (some (0, r)) (yset mem 95 0 0) := fun r c e => hQ r 0 (by rw [sLkc_0 hv c, e0]) (fun _ => e)
    have l0 : w32 Y = 0 → Q (some (0, mem 102 (w32 V).toNat)) (yset mem 95 0 0) := fun c => L0 _ (by omega) (by rw [sLk_0 c]; exact b1)
    have l1 : w32 Y = 1 → Q (some (0, mem 103 (w32 V).toNat)) (yset mem 95 0 0) := fun c => L0 _ (by omega) (by rw [sLk_1 c]; exact b2)
    have l2 : w32 Y = 2 → Q (some (0, mem 105 (w32 V).toNat)) (yset mem 95 0 0) := fun c => L0 _ (by omega) (by rw [sLk_2 c]; exact b4)
    have l3 : w32 Y = 3 → Q (some (0, mem 106 (w32 V).toNat)) (yset mem 95 0 0) := fun c => L0 _ (by omega) (by rw [sLk_3 c]; exact b5)
    have l4 : w32 Y = 4 → Q (some (0, mem 125 (w32 V).toNat)) (yset mem 95 0 0) := fun c => L0 _ (by omega) (by rw [sLk_4 c]; exact b6)
    have l5 : ∀ r, w32 Y = 5 → w32 r = (if uCk (uX W) (w32 V).toNat then 2 else vBo D (w32 V).toNat) → Q (some (0, r)) (yset mem 95 0 0) := fun r c e => L0 _ (by omega) (by rw [sLk_5 c]; exact e)
    by_cases q : uCk (uX W) (w32 V).toNat
    · have t' : w32 (ybin 3 (ybin 7 (mem 122 0) V) 1) = 1 := by
        rw [t, show (uX W).toNat / 2 ^ (w32 V).toNat % 2 = 1 from q]
        rfl
      have l52 : w32 Y = 5 → Q (some (0, 2)) (yset mem 95 0 0) := fun c => l5 2 c (by rw [if_pos q, e2])
      simp only [ynok_30, ynok_31, w32c_0, w32c_1, w32c_2, w32c_3, w32c_4, w32c_5, w32c_6, w32c_7, w32c_8, w32c_9, w32c_10, w32c_11, w32c_12, w32c_13, w32c_14, w32c_m1, w32c_m2, w32c_118, Int.reduceAdd, Int.reduceSub, Int.reduceMul, yput_s, yput_n, znl_n, znl_0, znl_1, znl_4, ysum_n, ysum_0, ysum_1, ysum_4, true_and, and_true, Nat.reduceAdd, Nat.reduceLeDiff, true_implies, eq_self, true_or, or_true, or_false, false_or, not_true_eq_false, not_false_eq_true, false_implies, implies_true, yset_s, yset_o, yset_d, ne_eq, Nat.reduceEqDiff, Int.reduceToNat, Int.reduceEq, Int.reduceLE, Int.reduceLT, Classical.not_not, Nat.reduceLT, ↓zvk_s, ↓zvk_n, ↓s_207_0, ↓s_207_1, ↓s_207_2, ↓s_207_3, ↓s_207_6, ↓s_207_9, ↓s_207_10, ↓s_207_13, ↓s_207_14, ↓s_207_17, ↓s_207_18, ↓s_207_19, ↓s_207_22, ↓s_207_23, ↓s_207_26, ↓s_207_27, ↓s_207_30, ↓s_207_31, ↓s_207_34, ↓s_207_37, ↓s_207_38, ↓s_207_39, ↓s_207_40, ↓s_207_76, ↓s_207_77, ↓s_207_80, ↓s_207_81, ↓s_207_82, ↓s_207_83, ↓s_207_84, ↓s_207_87, ↓s_207_88, ↓s_207_89, ↓s_207_90, ↓s_207_91, ↓s_207_94, ↓s_207_95, ↓s_207_96, ↓s_207_97, ↓s_207_98, ↓s_207_101, ↓s_207_102, ↓s_207_103, ↓s_207_104, ↓s_207_105, ↓s_207_108, ↓s_207_109, ↓s_207_110, ↓s_207_111, ↓s_207_112, ↓s_207_113, ↓s_207_116, ↓s_207_119, ↓s_207_120, ↓s_207_123, ↓s_207_124, ↓s_207_127, ↓s_207_128, ↓s_207_129, ↓s_207_132, ↓s_207_133, ↓s_207_136, ↓s_207_137, ↓s_197_0, ↓s_197_1, ↓s_197_4, ↓s_197_5, ↓s_197_6, ↓s_197_9, ↓s_197_10, ↓s_197_11, ↓s_197_14, ↓s_197_15, ↓s_197_18, ↓s_197_19, ↓s_183_0, ↓s_183_1, ↓s_183_4, ↓s_183_5, ↓s_183_6, ↓s_183_7, ↓s_183_8, ↓s_183_9, ↓s_183_10, ↓s_183_11, ↓s_183_14, ↓s_183_15, ↓s_183_18, ↓s_183_19, zar_97, zia_97, zln_97, zit_97, zar_102, zia_102, zln_102, zit_102, zar_103, zia_103, zln_103, zit_103, zar_104, zia_104, zln_104, zit_104, zar_105, zia_105, zln_105, zit_105, zar_106, zia_106, zln_106, zit_106, zar_122, zia_122, zln_122, zit_122, zar_125, zia_125, zln_125, zit_125, zio_95, t']
      repeat' (first | apply And.intro | intro _)
      all_goals first | omega | decide | exact L1 (by omega) | exact L2 hv (by omega) | exact l0 (by omega) | exact l1 (by omega) | exact l2 (by omega) | exact l3 (by omega) | exact l4 (by omega) | exact l52 (by omega)
    · have t' : w32 (ybin 3 (ybin 7 (mem 122 0) V) 1) = 0 := by
        rw [t, show (uX W).toNat / 2 ^ (w32 V).toNat % 2 = 0 from by rcases Nat.mod_two_eq_zero_or_one ((uX W).toNat / 2 ^ (w32 V).toNat) with z | z; exact z; exact absurd z q]
        rfl
      rcases hbo _ hvn with z | z
      · rw [z] at b3
        have l50 : w32 Y = 5 → Q (some (0, 0)) (yset mem 95 0 0) := fun c => l5 0 c (by rw [if_neg q, z, e0])
        simp only [ynok_30, ynok_31, w32c_0, w32c_1, w32c_2, w32c_3, w32c_4, w32c_5, w32c_6, w32c_7, w32c_8, w32c_9, w32c_10, w32c_11, w32c_12, w32c_13, w32c_14, w32c_m1, w32c_m2, w32c_118, Int.reduceAdd, Int.reduceSub, Int.reduceMul, yput_s, yput_n, znl_n, znl_0, znl_1, znl_4, ysum_n, ysum_0, ysum_1, ysum_4, true_and, and_true, Nat.reduceAdd, Nat.reduceLeDiff, true_implies, eq_self, true_or, or_true, or_false, false_or, not_true_eq_false, not_false_eq_true, false_implies, implies_true, yset_s, yset_o, yset_d, ne_eq, Nat.reduceEqDiff, Int.reduceToNat, Int.reduceEq, Int.reduceLE, Int.reduceLT, Classical.not_not, Nat.reduceLT, ↓zvk_s, ↓zvk_n, ↓s_207_0, ↓s_207_1, ↓s_207_2, ↓s_207_3, ↓s_207_6, ↓s_207_9, ↓s_207_10, ↓s_207_13, ↓s_207_14, ↓s_207_17, ↓s_207_18, ↓s_207_19, ↓s_207_22, ↓s_207_23, ↓s_207_26, ↓s_207_27, ↓s_207_30, ↓s_207_31, ↓s_207_34, ↓s_207_37, ↓s_207_38, ↓s_207_39, ↓s_207_40, ↓s_207_76, ↓s_207_77, ↓s_207_80, ↓s_207_81, ↓s_207_82, ↓s_207_83, ↓s_207_84, ↓s_207_87, ↓s_207_88, ↓s_207_89, ↓s_207_90, ↓s_207_91, ↓s_207_94, ↓s_207_95, ↓s_207_96, ↓s_207_97, ↓s_207_98, ↓s_207_101, ↓s_207_102, ↓s_207_103, ↓s_207_104, ↓s_207_105, ↓s_207_108, ↓s_207_109, ↓s_207_110, ↓s_207_111, ↓s_207_112, ↓s_207_113, ↓s_207_116, ↓s_207_119, ↓s_207_120, ↓s_207_123, ↓s_207_124, ↓s_207_127, ↓s_207_128, ↓s_207_129, ↓s_207_132, ↓s_207_133, ↓s_207_136, ↓s_207_137, ↓s_197_0, ↓s_197_1, ↓s_197_4, ↓s_197_5, ↓s_197_6, ↓s_197_9, ↓s_197_10, ↓s_197_11, ↓s_197_14, ↓s_197_15, ↓s_197_18, ↓s_197_19, ↓s_183_0, ↓s_183_1, ↓s_183_4, ↓s_183_5, ↓s_183_6, ↓s_183_7, ↓s_183_8, ↓s_183_9, ↓s_183_10, ↓s_183_11, ↓s_183_14, ↓s_183_15, ↓s_183_18, ↓s_183_19, zar_97, zia_97, zln_97, zit_97, zar_102, zia_102, zln_102, zit_102, zar_103, zia_103, zln_103, zit_103, zar_104, zia_104, zln_104, zit_104, zar_105, zia_105, zln_105, zit_105, zar_106, zia_106, zln_106, zit_106, zar_122, zia_122, zln_122, zit_122, zar_125, zia_125, zln_125, zit_125, zio_95, t', b3]
        repeat' (first | apply And.intro | intro _)
        all_goals first | omega | decide | exact L1 (by omega) | exact L2 hv (by omega) | exact l0 (by omega) | exact l1 (by omega) | exact l2 (by omega) | exact l3 (by omega) | exact l4 (by omega) | exact l50 (by omega)
      · rw [z] at b3
        have l51 : w32 Y = 5 → Q (some (0, 1)) (yset mem 95 0 0) := fun c => l5 1 c (by rw [if_neg q, z, e1])
        simp only [ynok_30, ynok_31, w32c_0, w32c_1, w32c_2, w32c_3, w32c_4, w32c_5, w32c_6, w32c_7, w32c_8, w32c_9, w32c_10, w32c_11, w32c_12, w32c_13, w32c_14, w32c_m1, w32c_m2, w32c_118, Int.reduceAdd, Int.reduceSub, Int.reduceMul, yput_s, yput_n, znl_n, znl_0, znl_1, znl_4, ysum_n, ysum_0, ysum_1, ysum_4, true_and, and_true, Nat.reduceAdd, Nat.reduceLeDiff, true_implies, eq_self, true_or, or_true, or_false, false_or, not_true_eq_false, not_false_eq_true, false_implies, implies_true, yset_s, yset_o, yset_d, ne_eq, Nat.reduceEqDiff, Int.reduceToNat, Int.reduceEq, Int.reduceLE, Int.reduceLT, Classical.not_not, Nat.reduceLT, ↓zvk_s, ↓zvk_n, ↓s_207_0, ↓s_207_1, ↓s_207_2, ↓s_207_3, ↓s_207_6, ↓s_207_9, ↓s_207_10, ↓s_207_13, ↓s_207_14, ↓s_207_17, ↓s_207_18, ↓s_207_19, ↓s_207_22, ↓s_207_23, ↓s_207_26, ↓s_207_27, ↓s_207_30, ↓s_207_31, ↓s_207_34, ↓s_207_37, ↓s_207_38, ↓s_207_39, ↓s_207_40, ↓s_207_76, ↓s_207_77, ↓s_207_80, ↓s_207_81, ↓s_207_82, ↓s_207_83, ↓s_207_84, ↓s_207_87, ↓s_207_88, ↓s_207_89, ↓s_207_90, ↓s_207_91, ↓s_207_94, ↓s_207_95, ↓s_207_96, ↓s_207_97, ↓s_207_98, ↓s_207_101, ↓s_207_102, ↓s_207_103, ↓s_207_104, ↓s_207_105, ↓s_207_108, ↓s_207_109, ↓s_207_110, ↓s_207_111, ↓s_207_112, ↓s_207_113, ↓s_207_116, ↓s_207_119, ↓s_207_120, ↓s_207_123, ↓s_207_124, ↓s_207_127, ↓s_207_128, ↓s_207_129, ↓s_207_132, ↓s_207_133, ↓s_207_136, ↓s_207_137, ↓s_197_0, ↓s_197_1, ↓s_197_4, ↓s_197_5, ↓s_197_6, ↓s_197_9, ↓s_197_10, ↓s_197_11, ↓s_197_14, ↓s_197_15, ↓s_197_18, ↓s_197_19, ↓s_183_0, ↓s_183_1, ↓s_183_4, ↓s_183_5, ↓s_183_6, ↓s_183_7, ↓s_183_8, ↓s_183_9, ↓s_183_10, ↓s_183_11, ↓s_183_14, ↓s_183_15, ↓s_183_18, ↓s_183_19, zar_97, zia_97, zln_97, zit_97, zar_102, zia_102, zln_102, zit_102, zar_103, zia_103, zln_103, zit_103, zar_104, zia_104, zln_104, zit_104, zar_105, zia_105, zln_105, zit_105, zar_106, zia_106, zln_106, zit_106, zar_122, zia_122, zln_122, zit_122, zar_125, zia_125, zln_125, zit_125, zio_95, t', b3]
        repeat' (first | apply And.intro | intro _)
        all_goals first | omega | decide | exact L1 (by omega) | exact L2 hv (by omega) | exact l0 (by omega) | exact l1 (by omega) | exact l2 (by omega) | exact l3 (by omega) | exact l4 (by omega) | exact l51 (by omega)
  · by_cases hv0 : 0 ≤ w32 V
    · have hv1 : ¬ w32 V < (D.2.1.length : Int) := fun c => hv ⟨hv0, c⟩
      simp only [ynok_30, ynok_31, w32c_0, w32c_1, w32c_2, w32c_3, w32c_4, w32c_5, w32c_6, w32c_7, w32c_8, w32c_9, w32c_10, w32c_11, w32c_12, w32c_13, w32c_14, w32c_m1, w32c_m2, w32c_118, Int.reduceAdd, Int.reduceSub, Int.reduceMul, yput_s, yput_n, znl_n, znl_0, znl_1, znl_4, ysum_n, ysum_0, ysum_1, ysum_4, true_and, and_true, Nat.reduceAdd, Nat.reduceLeDiff, true_implies, eq_self, true_or, or_true, or_false, false_or, not_true_eq_false, not_false_eq_true, false_implies, implies_true, yset_s, yset_o, yset_d, ne_eq, Nat.reduceEqDiff, Int.reduceToNat, Int.reduceEq, Int.reduceLE, Int.reduceLT, Classical.not_not, Nat.reduceLT, ↓zvk_s, ↓zvk_n, ↓s_207_0, ↓s_207_1, ↓s_207_2, ↓s_207_3, ↓s_207_6, ↓s_207_9, ↓s_207_10, ↓s_207_13, ↓s_207_14, ↓s_207_17, ↓s_207_18, ↓s_207_19, ↓s_207_22, ↓s_207_23, ↓s_207_26, ↓s_207_27, ↓s_207_30, ↓s_207_31, ↓s_207_34, ↓s_207_37, ↓s_207_38, ↓s_207_39, ↓s_207_40, ↓s_207_76, ↓s_207_77, ↓s_207_80, ↓s_207_81, ↓s_207_82, ↓s_207_83, ↓s_207_84, ↓s_207_87, ↓s_207_88, ↓s_207_89, ↓s_207_90, ↓s_207_91, ↓s_207_94, ↓s_207_95, ↓s_207_96, ↓s_207_97, ↓s_207_98, ↓s_207_101, ↓s_207_102, ↓s_207_103, ↓s_207_104, ↓s_207_105, ↓s_207_108, ↓s_207_109, ↓s_207_110, ↓s_207_111, ↓s_207_112, ↓s_207_113, ↓s_207_116, ↓s_207_119, ↓s_207_120, ↓s_207_123, ↓s_207_124, ↓s_207_127, ↓s_207_128, ↓s_207_129, ↓s_207_132, ↓s_207_133, ↓s_207_136, ↓s_207_137, ↓s_197_0, ↓s_197_1, ↓s_197_4, ↓s_197_5, ↓s_197_6, ↓s_197_9, ↓s_197_10, ↓s_197_11, ↓s_197_14, ↓s_197_15, ↓s_197_18, ↓s_197_19, ↓s_183_0, ↓s_183_1, ↓s_183_4, ↓s_183_5, ↓s_183_6, ↓s_183_7, ↓s_183_8, ↓s_183_9, ↓s_183_10, ↓s_183_11, ↓s_183_14, ↓s_183_15, ↓s_183_18, ↓s_183_19, zar_97, zia_97, zln_97, zit_97, zar_102, zia_102, zln_102, zit_102, zar_103, zia_103, zln_103, zit_103, zar_104, zia_104, zln_104, zit_104, zar_105, zia_105, zln_105, zit_105, zar_106, zia_106, zln_106, zit_106, zar_122, zia_122, zln_122, zit_122, zar_125, zia_125, zln_125, zit_125, zio_95]
      repeat' (first | apply And.intro | intro _)
      all_goals first | omega | decide | exact L1 hv
    · simp only [ynok_30, ynok_31, w32c_0, w32c_1, w32c_2, w32c_3, w32c_4, w32c_5, w32c_6, w32c_7, w32c_8, w32c_9, w32c_10, w32c_11, w32c_12, w32c_13, w32c_14, w32c_m1, w32c_m2, w32c_118, Int.reduceAdd, Int.reduceSub, Int.reduceMul, yput_s, yput_n, znl_n, znl_0, znl_1, znl_4, ysum_n, ysum_0, ysum_1, ysum_4, true_and, and_true, Nat.reduceAdd, Nat.reduceLeDiff, true_implies, eq_self, true_or, or_true, or_false, false_or, not_true_eq_false, not_false_eq_true, false_implies, implies_true, yset_s, yset_o, yset_d, ne_eq, Nat.reduceEqDiff, Int.reduceToNat, Int.reduceEq, Int.reduceLE, Int.reduceLT, Classical.not_not, Nat.reduceLT, ↓zvk_s, ↓zvk_n, ↓s_207_0, ↓s_207_1, ↓s_207_2, ↓s_207_3, ↓s_207_6, ↓s_207_9, ↓s_207_10, ↓s_207_13, ↓s_207_14, ↓s_207_17, ↓s_207_18, ↓s_207_19, ↓s_207_22, ↓s_207_23, ↓s_207_26, ↓s_207_27, ↓s_207_30, ↓s_207_31, ↓s_207_34, ↓s_207_37, ↓s_207_38, ↓s_207_39, ↓s_207_40, ↓s_207_76, ↓s_207_77, ↓s_207_80, ↓s_207_81, ↓s_207_82, ↓s_207_83, ↓s_207_84, ↓s_207_87, ↓s_207_88, ↓s_207_89, ↓s_207_90, ↓s_207_91, ↓s_207_94, ↓s_207_95, ↓s_207_96, ↓s_207_97, ↓s_207_98, ↓s_207_101, ↓s_207_102, ↓s_207_103, ↓s_207_104, ↓s_207_105, ↓s_207_108, ↓s_207_109, ↓s_207_110, ↓s_207_111, ↓s_207_112, ↓s_207_113, ↓s_207_116, ↓s_207_119, ↓s_207_120, ↓s_207_123, ↓s_207_124, ↓s_207_127, ↓s_207_128, ↓s_207_129, ↓s_207_132, ↓s_207_133, ↓s_207_136, ↓s_207_137, ↓s_197_0, ↓s_197_1, ↓s_197_4, ↓s_197_5, ↓s_197_6, ↓s_197_9, ↓s_197_10, ↓s_197_11, ↓s_197_14, ↓s_197_15, ↓s_197_18, ↓s_197_19, ↓s_183_0, ↓s_183_1, ↓s_183_4, ↓s_183_5, ↓s_183_6, ↓s_183_7, ↓s_183_8, ↓s_183_9, ↓s_183_10, ↓s_183_11, ↓s_183_14, ↓s_183_15, ↓s_183_18, ↓s_183_19, zar_97, zia_97, zln_97, zit_97, zar_102, zia_102, zln_102, zit_102, zar_103, zia_103, zln_103, zit_103, zar_104, zia_104, zln_104, zit_104, zar_105, zia_105, zln_105, zit_105, zar_106, zia_106, zln_106, zit_106, zar_122, zia_122, zln_122, zit_122, zar_125, zia_125, zln_125, zit_125, zio_95]
      repeat' (first | apply And.intro | intro _)
      all_goals first | omega | decide | exact L1 hv
theorem r_thrown (hE : yEok E) {D0 : Nat} (hD : 1 ≤ D0) (hQ : Q (some (0, mem 95 0)) mem) : yCon E D0 xm_265 [(1, 95)] mem Q := by
  obtain ⟨d, rfl⟩ := Nat.exists_eq_add_of_le' hD
  refine e_265 ?_
  refine zvc_ok hE 60 [] _ _ _ _ _ _ _ xmo_265 ?_
  simp only [ynok_30, ynok_31, w32c_0, w32c_1, w32c_2, w32c_3, w32c_4, w32c_5, w32c_6, w32c_7, w32c_8, w32c_9, w32c_10, w32c_11, w32c_12, w32c_13, w32c_14, w32c_m1, w32c_m2, w32c_118, Int.reduceAdd, Int.reduceSub, Int.reduceMul, yput_s, yput_n, znl_n, znl_0, znl_1, znl_4, ysum_n, ysum_0, ysum_1, ysum_4, true_and, and_true, Nat.reduceAdd, Nat.reduceLeDiff, true_implies, eq_self, true_or, or_true, or_false, false_or, not_true_eq_false, not_false_eq_true, false_implies, implies_true, yset_s, yset_o, yset_d, ne_eq, Nat.reduceEqDiff, Int.reduceToNat, Int.reduceEq, Int.reduceLE, Int.reduceLT, Classical.not_not, Nat.reduceLT, ↓zvk_s, ↓zvk_n, ↓s_265_0, ↓s_265_1, ↓s_265_4, zio_95]
  exact hQ
end RLK
/-- thrown = t -/
theorem LI_95t {k l : Nat} {mem : yMem} {t : Int} (hk : k ≤ l) (hI : LI k mem) : LI l (yset mem 95 0 t) := LI_fr hk hI (aGok_set hI.1 (ag_32 ag_95_0)) (yoc_Om mem _ (fun i j hi => yset_o (fun e => by subst e; exact absurd hi (by decide))) hI.2.1) (fun i j h => by
  rw [yset_a]
  split
  · next e => rw [if_neg (by unfold tpP at h; omega)]
  · rfl)
end
section
/-! THE LAW: its loop, call by call -/
def lSc (E : yE) (L : Nat) (xs : Nat → Int32) : Prop := ∀ s, yEX E s → va_X (ysa E 50) L xs s s.heap ∧ ysa E 50 < yb E
abbrev llaw (i : Int) : yL := [(4, (0, i)), (3, (1, 143)), (2, (1, 95)), (1, (1, 0)), (0, (5, 50))]
abbrev LG (E : yE) (i : Int) (pc : Nat) (st : List yV) (mem : yMem) (ce sl : Nat) (Post : Option yV → yMem → Prop) : Prop := yG E room_1 xm_L1 pc (llaw i) st mem ce sl Post
theorem l1o {pc : Nat} {op : xOp} (h : xfind xk_L1 pc = some op) : xok xmt xm_L1 pc op := xo_L1 _ (xfind_mem h)
def lop (pc a b c e : Nat) : Bool := match xfind xk_L1 pc with
  | some (a', b', c', e', []) => Nat.beq a' a && (Nat.beq b' b && (Nat.beq c' c && Nat.beq e' e))
  | _ => false
theorem lo1 {pc a b c e : Nat} (h : lop pc a b c e = true) : xok xmt xm_L1 pc (a, b, c, e, []) := by
  refine l1o ?_
  unfold lop at h
  split at h
  · next a' b' c' e' hf =>
    simp only [Bool.and_eq_true, Nat.beq_eq] at h
    obtain ⟨rfl, rfl, rfl, rfl⟩ := h
    exact hf
  · cases h
/-- an int of the script, of the run that begins at i -/
abbrev lX (xs : Nat → Int32) (i : Int) (k : Nat) : Int := (xs ((w32 i).toNat + k)).toInt
section LW
variable {E : yE} {L : Nat} {xs : Nat → Int32} {pc nx : Nat} {lv : yL} {st : List yV} {mem : yMem} {ce sl d : Nat} {Post : Option yV → yMem → Prop} {i : Int}
theorem l_sld (hS : lSc E L xs) (hL : L ≤ 3072) {j : Int} (hok : xok xmt xm_L1 pc (43, nx, 0, 0, [])) (h0 : 0 ≤ w32 j) (h1 : w32 j < (L : Int)) (h : yG E room_1 xm_L1 nx lv ((0, (xs (w32 j).toNat).toInt) :: st) mem ce sl Post) : yG E room_1 xm_L1 pc lv ((0, j) :: (5, 50) :: st) mem ce sl Post := by
  intro p e s m args below meth c A Qc hC hQ H locs ls hl hP hS'
  have := h p e s m args below meth c A Qc hC hQ H locs ls hl hP hS'
  obtain ⟨hX, hq⟩ := hS s hC.1.2.2.2.2.2.2.2.2.1
  rw [List.map_cons] at this
  rw [List.map_cons, List.map_cons]
  have e1 : ydv E (0, j) = .int (nI (w32 j).toNat) := by
    show Value.int (iI j) = _
    rw [← iI_n, Int.toNat_of_nonneg h0, iI_w]
  have e2 : ydv E (0, (xs (w32 j).toNat).toInt) = .int (xs (w32 j).toNat) := by
    show Value.int (iI _) = _
    rw [iI_t]
  rw [e2] at this
  rw [e1]
  have hb := hC.1.2.2.2.2.2.2.2.2.2
  exact hok p (yl E) e room_1 s m args below meth c H locs ce sl _ ls _ hC.1.1 (ysa E 50) L xs A hX (by omega) (fun z => by have := hC.1.2.2.2.2.1 _ z; omega) hS' (w32 j).toNat (by omega) (by omega) (by omega) this
theorem l_slen (hS : lSc E L xs) (hok : xok xmt xm_L1 pc (42, nx, 0, 0, [])) (h : yG E room_1 xm_L1 nx lv ((0, (L : Int)) :: st) mem ce sl Post) : yG E room_1 xm_L1 pc lv ((5, 50) :: st) mem ce sl Post := by
  intro p e s m args below meth c A Qc hC hQ H locs ls hl hP hS'
  have := h p e s m args below meth c A Qc hC hQ H locs ls hl hP hS'
  obtain ⟨hX, hq⟩ := hS s hC.1.2.2.2.2.2.2.2.2.1
  rw [List.map_cons] at this ⊢
  have e2 : ydv E (0, (L : Int)) = .int (nI L) := by
    show Value.int (iI _) = _
    rw [iI_n]
  rw [e2] at this
  have hb := hC.1.2.2.2.2.2.2.2.2.2
  exact hok p (yl E) e room_1 s m args below meth c H locs ce sl _ ls _ hC.1.1 (ysa E 50) L xs A hX (by omega) (fun z => by have := hC.1.2.2.2.2.1 _ z; omega) hS' this
def largb (pc k : Nat) : Bool := lop pc 2 (pc + 1) 1 0 && (lop (pc + 1) 2 (pc + 3) 0 4 && (lop (pc + 3) 0 (pc + 4) k 0 && (lop (pc + 4) 5 (pc + 5) 0 0 && lop (pc + 5) 43 (pc + 6) 0 0)))
theorem l_cI {k : Nat} (h : k < 100) : cI k = (k : Int) := by
  unfold cI
  rw [if_pos (by rw [Nat.blt_eq]; omega)]
theorem l_arg (hE : yEok E) (hR : yRm room_1 d ce sl) (hS : lSc E L xs) (hL : L ≤ 3072) {k : Nat} (hk : k < 6) (h0 : 0 ≤ w32 i) (h6 : w32 i + 6 ≤ (L : Int)) (hb : largb pc k = true) (h : LG E i (pc + 6) ((0, lX xs i k) :: st) mem ce sl Post) : LG E i pc st mem ce sl Post := by
  simp only [largb, Bool.and_eq_true] at hb
  obtain ⟨a1, a2, a3, a4, a5⟩ := hb
  have ec := l_cI (show k < 100 by omega)
  have ek : w32 (i + cI k) = w32 i + (k : Int) := by rw [ec, w32_ad (by rw [w32_of (x := (k : Int)) (by omega) (by omega)]; omega) (by rw [w32_of (x := (k : Int)) (by omega) (by omega)]; omega), w32_of (x := (k : Int)) (by omega) (by omega)]
  refine yo_ld (v := (5, 50)) hE hR (lo1 a1) rfl rfl ?_
  refine yo_ld (v := (0, i)) hE hR (lo1 a2) rfl rfl ?_
  refine yo_c hE hR (lo1 a3) ?_
  refine yo_bin hE hR (lo1 a4) (by decide) ?_
  refine l_sld hS hL (lo1 a5) (show 0 ≤ w32 (i + cI k) by omega) (show w32 (i + cI k) < (L : Int) by omega) ?_
  rw [show (w32 (ybin 0 i (cI k))).toNat = (w32 i).toNat + k from (show (w32 (i + cI k)).toNat = (w32 i).toNat + k by omega)]
  exact h
def largsb : Nat → Nat → Nat → Bool
  | 0, _, _ => true
  | n + 1, k, pc => largb pc k && largsb n (k + 1) (pc + 6)
theorem lav_len {X : Nat → Int} : ∀ n k, (lav X n k).length = n
  | 0, _ => rfl
  | n + 1, k => by rw [lav, List.length_cons, lav_len n]
theorem lav_sum {X : Nat → Int} : ∀ n k, ysum (lav X n k) = n
  | 0, _ => rfl
  | n + 1, k => by
    rw [lav, ysum, lav_sum n]
    show 1 + n = n + 1
    omega
theorem l_args (hE : yEok E) (hR : yRm room_1 d ce sl) (hS : lSc E L xs) (hL : L ≤ 3072) (h0 : 0 ≤ w32 i) (h6 : w32 i + 6 ≤ (L : Int)) : ∀ (n k pc : Nat) (st : List yV), largsb n k pc = true → k + n ≤ 6 → LG E i (pc + 6 * n) ((lav (lX xs i) n k).reverse ++ st) mem ce sl Post → LG E i pc st mem ce sl Post
  | 0, k, pc, st, _, _, h => h
  | n + 1, k, pc, st, hb, hk, h => by
    simp only [largsb, Bool.and_eq_true] at hb
    refine l_arg hE hR hS hL (k := k) (by omega) h0 h6 hb.1 (l_args hE hR hS hL h0 h6 n (k + 1) (pc + 6) _ hb.2 (by omega) ?_)
    rw [show pc + 6 + 6 * n = pc + 6 * (n + 1) by omega]
    rw [lav, List.reverse_cons, List.append_assoc] at h
    exact h
def lsegb (pc r n mi ci : Nat) : Bool := lop pc 2 (pc + 1) 1 r && (largsb n 1 (pc + 1) && lop (pc + 1 + 6 * n) 28 (pc + 1 + 6 * n + 3) mi ci)
theorem l_seg (hE : yEok E) (hR : yRm room_1 d ce sl) (hS : lSc E L xs) (hL : L ≤ 3072) (h0 : 0 ≤ w32 i) (h6 : w32 i + 6 ≤ (L : Int)) {r n mi ci z : Nat} {M' : xM} {fs rest : List yV} (hb : lsegb pc r n mi ci = true) (hn : n ≤ 5) (hr : ylk (llaw i) r = some (1, (z : Int))) (hmi : xmt[mi]? = some M') (hmn : xMn M' = n) (hml : n + 1 ≤ xMl M') (hml2 : xMl M' ≤ 45) (hK : ysh[z]? = some (.inr (ci, fs))) (hrest : ysum rest ≤ 8) (h : yCon E d M' ((1, (z : Int)) :: lav (lX xs i) n 1) mem (fun v mem' => LG E i (pc + 1 + 6 * n + 3) (yput rest v) mem' ce sl Post)) : LG E i pc rest mem ce sl Post := by
  simp only [lsegb, Bool.and_eq_true] at hb
  obtain ⟨a1, a2, a3⟩ := hb
  refine yo_ld (v := (1, (z : Int))) hE hR (lo1 a1) hr rfl ?_
  refine l_args hE hR hS hL h0 h6 n 1 (pc + 1) _ a2 (by omega) ?_
  refine yo_call (i := z) (avs := lav (lX xs i) n 1) hE hR (lo1 a3) hmi (by rw [lav_len, hmn]) hrest ?_ hml2 hK h
  rw [ysum, lav_sum]
  show 1 + n ≤ _
  omega
def lcaseb (pc n mi1 mi2 po : Nat) : Bool := lsegb pc 1 n mi1 11 && (lop (pc + 1 + 6 * n + 3) po (pc + 1 + 6 * n + 3 + 1) 0 0 && (lsegb (pc + 1 + 6 * n + 3 + 1) 2 n mi2 12 && (lop (pc + 1 + 6 * n + 3 + 1 + 1 + 6 * n + 3) po (pc + 1 + 6 * n + 3 + 1 + 1 + 6 * n + 3 + 1) 0 0 && lop (pc + 1 + 6 * n + 3 + 1 + 1 + 6 * n + 3 + 1) 14 1450 0 0)))
theorem l_pop (hE : yEok E) (hR : yRm room_1 d ce sl) {po t : Nat} {x : Int} (hpo : (po = 10 ∧ t = 0) ∨ (po = 69 ∧ t = 4)) (hok : xok xmt xm_L1 pc (po, nx, 0, 0, [])) (h : LG E i nx st mem ce sl Post) : LG E i pc ((t, x) :: st) mem ce sl Post := by
  rcases hpo with ⟨rfl, rfl⟩ | ⟨rfl, rfl⟩
  · exact yo_pop hE hR hok rfl h
  · exact yo_pop2 hE hR hok rfl h
theorem l_case (hE : yEok E) (hR : yRm room_1 d ce sl) (hS : lSc E L xs) (hL : L ≤ 3072) (h0 : 0 ≤ w32 i) (h6 : w32 i + 6 ≤ (L : Int)) {n mi1 mi2 po t : Nat} {M1 M2 : xM} (hb : lcaseb pc n mi1 mi2 po = true) (hn : n ≤ 5) (hpo : (po = 10 ∧ t = 0) ∨ (po = 69 ∧ t = 4)) (hm1 : xmt[mi1]? = some M1) (hm2 : xmt[mi2]? = some M2) (hk1 : xMn M1 = n ∧ n + 1 ≤ xMl M1 ∧ xMl M1 ≤ 45) (hk2 : xMn M2 = n ∧ n + 1 ≤ xMl M2 ∧ xMl M2 ≤ 45) {Nx : yMem → Prop} (hnx : ∀ m, Nx m → LG E i 1450 [] m ce sl Post)
    (h : yCon E d M1 ((1, ((0 : Nat) : Int)) :: lav (lX xs i) n 1) mem (fun r mem1 => (∃ x, r = some (t, x)) ∧ yCon E d M2 ((1, ((95 : Nat) : Int)) :: lav (lX xs i) n 1) mem1 (fun r mem2 => (∃ x, r = some (t, x)) ∧ Nx mem2))) : LG E i pc [] mem ce sl Post := by
  simp only [lcaseb, Bool.and_eq_true] at hb
  obtain ⟨b1, b2, b3, b4, b5⟩ := hb
  refine l_seg (z := 0) (rest := []) hE hR hS hL h0 h6 b1 hn rfl hm1 hk1.1 hk1.2.1 hk1.2.2 rfl (by decide) (yCon_mono h ?_)
  rintro r mem1 ⟨⟨x, rfl⟩, h2⟩
  refine l_pop hE hR hpo (lo1 b2) ?_
  refine l_seg (z := 95) (rest := []) hE hR hS hL h0 h6 b3 hn rfl hm2 hk2.1 hk2.2.1 hk2.2.2 rfl (by decide) (yCon_mono h2 ?_)
  rintro r mem2 ⟨⟨x, rfl⟩, h3⟩
  refine l_pop hE hR hpo (lo1 b4) ?_
  exact yo_go hE hR (lo1 b5) (hnx _ h3)
end LW
def lcmpb (pc n mi1 mi2 : Nat) : Bool := lsegb pc 1 n mi1 11 && (lsegb (pc + 1 + 6 * n + 3) 2 n mi2 12 && lop (pc + 1 + 6 * n + 3 + 1 + 6 * n + 3) 13 (pc + 1 + 6 * n + 3 + 1 + 6 * n + 3 + 3) 1450 0)
theorem l_cmp {E : yE} {L : Nat} {xs : Nat → Int32} {i : Int} {pc d ce sl : Nat} {mem : yMem} {Post : Option yV → yMem → Prop} (hE : yEok E) (hR : yRm room_1 d ce sl) (hS : lSc E L xs) (hL : L ≤ 3072) (h0 : 0 ≤ w32 i) (h6 : w32 i + 6 ≤ (L : Int)) {n mi1 mi2 : Nat} {M1 M2 : xM} (hb : lcmpb pc n mi1 mi2 = true) (hn : n ≤ 5) (hm1 : xmt[mi1]? = some M1) (hm2 : xmt[mi2]? = some M2) (hk1 : xMn M1 = n ∧ n + 1 ≤ xMl M1 ∧ xMl M1 ≤ 45) (hk2 : xMn M2 = n ∧ n + 1 ≤ xMl M2 ∧ xMl M2 ≤ 45) {Nx : yMem → Prop} (hnx : ∀ m, Nx m → LG E i 1450 [] m ce sl Post)
    (h : yCon E d M1 ((1, ((0 : Nat) : Int)) :: lav (lX xs i) n 1) mem (fun r mem1 => ∃ x, r = some (0, x) ∧ yCon E d M2 ((1, ((95 : Nat) : Int)) :: lav (lX xs i) n 1) mem1 (fun r2 mem2 => ∃ y, r2 = some (0, y) ∧ w32 x = w32 y ∧ Nx mem2))) : LG E i pc [] mem ce sl Post := by
  simp only [lcmpb, Bool.and_eq_true] at hb
  obtain ⟨b1, b2, b3⟩ := hb
  refine l_seg (z := 0) (rest := []) hE hR hS hL h0 h6 b1 hn rfl hm1 hk1.1 hk1.2.1 hk1.2.2 rfl (by decide) (yCon_mono h ?_)
  rintro r mem1 ⟨x, rfl, h2⟩
  refine l_seg (z := 95) (rest := [(0, x)]) hE hR hS hL h0 h6 b2 hn rfl hm2 hk2.1 hk2.2.1 hk2.2.2 rfl (Nat.le_of_ble_eq_true rfl) (yCon_mono h2 ?_)
  rintro r mem2 ⟨y, rfl, h3, h4⟩
  exact yo_cmp (c := 0) hE hR (lo1 b3) (fun _ => hnx _ h4) (fun hne => absurd (show w32 x = w32 y from h3) hne)
/-- a contract as the loop needs it -/
def LC (E : yE) (d mi z n t : Nat) : Prop := ∀ M', xmt[mi]? = some M' → ∀ (k : Nat) (X : Nat → Int) (mem : yMem) (Q : Option yV → yMem → Prop), LI k mem → (∀ x m, LI k m → Q (some (t, x)) m) → yCon E d M' ((1, (z : Int)) :: lav X n 1) mem Q
def lchk (c : aCon) (mi z n t d : Nat) : Bool := Nat.beq (acM c) mi && (Nat.ble (acD c) d && (decide (acP c = []) && (lokA (acA c) z n && (((Nat.beq t 0 && (Nat.beq (acR c).1 0 || Nat.beq (acR c).1 3)) || (Nat.beq t 4 && Nat.beq (acR c).1 8)) && tp3 (acW c)))))
theorem LC_as {c : aCon} (hc : aSnd Om c) {E : yE} (hE : yEok E) {d mi z n t : Nat} (hk : lchk c mi z n t d = true) : LC E d mi z n t := by
  intro M' hM k X mem Q hI hQ
  simp only [lchk, Bool.and_eq_true, Nat.beq_eq, decide_eq_true_eq, Bool.not_eq_true', Bool.or_eq_true] at hk
  obtain ⟨k1, k2, k3, k4, k5, k6⟩ := hk
  have hargs : aArgsOk (acA c) ((1, (z : Int)) :: lav X n 1) := by
    cases hA : acA c with
    | nil => rw [hA] at k4; cases k4
    | cons a r =>
      rw [hA] at k4
      simp only [lokA, Bool.and_eq_true, Nat.beq_eq] at k4
      refine ⟨?_, lokN_ok r n 1 k4.2.2⟩
      unfold aArgOk
      rw [k4.1, k4.2.1]
      exact (rfl : ((1, (z : Int)) : yV) = (1, (z : Int)))
  refine hc E hE d (Nat.le_of_ble_eq_true k2) M' (by rw [k1]; exact hM) _ mem Q hargs hI.1 hI.2.1 (by rw [k3]; exact fun q hq => by cases hq) (fun r m he => ?_)
  have hI' : LI k m := LI_a (Nat.le_refl k) hI he.2.1 he.2.2.1 he.2.2.2.1 k6
  have hr := he.1
  cases r with
  | none =>
    have hr : (acR c).1 = 99 := hr
    omega
  | some y =>
    obtain ⟨ty, x⟩ := y
    have hr : aArgOk (acR c) (ty, x) := hr
    have ht : ty = t := by
      unfold aArgOk at hr
      rcases k5 with ⟨rfl, h | h⟩ | ⟨rfl, h⟩ <;> rw [h] at hr
      · exact hr.1
      · exact hr.1
      · exact hr
    subst ht
    exact hQ x m hI'
/-- a case of the law -/
def LK (E : yE) (L : Nat) (xs : Nat → Int32) (pc : Nat) : Prop := ∀ (i : Int) (mem : yMem) (ce sl : Nat) (Post : Option yV → yMem → Prop), yRm room_1 1000 (ce + 1) (sl + 6) → lSc E L xs → L ≤ 3072 → 0 ≤ w32 i → w32 i + 6 ≤ (L : Int) → LI (w32 i).toNat mem → (∀ m ce' sl', LI ((w32 i).toNat + 6) m → ce' ≤ ce + 1 → sl' ≤ sl + 6 → LG E i 1450 [] m ce' sl' Post) → LG E i pc [] mem ce sl Post
theorem yRm_le {R : Room} {d ce sl ce' sl' : Nat} (h : yRm R d ce' sl') (h1 : ce ≤ ce') (h2 : sl ≤ sl') : yRm R d ce sl := ⟨h.1, Nat.le_trans h1 h.2.1, Nat.le_trans h2 h.2.2⟩
theorem LK_of {E : yE} (hE : yEok E) {L : Nat} {xs : Nat → Int32} {pc n mi1 mi2 po t : Nat} {M1 M2 : xM} (hb : lcaseb pc n mi1 mi2 po = true) (hn : n ≤ 5) (hpo : (po = 10 ∧ t = 0) ∨ (po = 69 ∧ t = 4)) (hm1 : xmt[mi1]? = some M1) (hm2 : xmt[mi2]? = some M2) (hk1 : xMn M1 = n ∧ n + 1 ≤ xMl M1 ∧ xMl M1 ≤ 45) (hk2 : xMn M2 = n ∧ n + 1 ≤ xMl M2 ∧ xMl M2 ≤ 45) (c1 : LC E 1000 mi1 0 n t) (c2 : LC E 1000 mi2 95 n t) : LK E L xs pc := by
  intro i mem ce sl Post hR hS hL h0 h6 hI nx
  refine l_case (d := 1000) (t := t) hE (yRm_le hR (by omega) (by omega)) hS hL h0 h6 hb hn hpo hm1 hm2 hk1 hk2 (Nx := LI (w32 i).toNat) (fun m hm => nx m ce sl (LI_le (Nat.le_add_right _ 6) hm) (by omega) (by omega)) ?_
  exact c1 M1 hm1 _ _ mem _ hI (fun x m1 hI1 => ⟨⟨x, rfl⟩, c2 M2 hm2 _ _ m1 _ hI1 (fun x m2 hI2 => ⟨⟨x, rfl⟩, hI2⟩)⟩)
theorem LK_px {E : yE} (hE : yEok E) {L : Nat} {xs : Nat → Int32} {pc n mi1 mi2 : Nat} {M1 M2 : xM} (hb : lcaseb pc n mi1 mi2 10 = true) (hn : n ≤ 5) (hm1 : xmt[mi1]? = some M1) (hm2 : xmt[mi2]? = some M2) (hk1 : xMn M1 = n ∧ n + 1 ≤ xMl M1 ∧ xMl M1 ≤ 45) (hk2 : xMn M2 = n ∧ n + 1 ≤ xMl M2 ∧ xMl M2 ≤ 45) (c : LX E n M1 M2 0) : LK E L xs pc := by
  intro i mem ce sl Post hR hS hL h0 h6 hI nx
  refine l_case (d := 1000) (t := 0) hE (yRm_le hR (by omega) (by omega)) hS hL h0 h6 hb hn (Or.inl ⟨rfl, rfl⟩) hm1 hm2 hk1 hk2 (Nx := LI ((w32 i).toNat + 6)) (fun m hm => nx m ce sl hm (by omega) (by omega)) ?_
  refine yCon_mono (c (lX xs i) (w32 i).toNat mem (by omega) hI) (fun r m h => ?_)
  obtain ⟨x, rfl, h⟩ := h
  refine ⟨⟨x, rfl⟩, yCon_mono h (fun r m h => ?_)⟩
  obtain ⟨y, rfl, _, _, h⟩ := h
  exact ⟨⟨y, rfl⟩, h⟩
theorem LK_cx {E : yE} (hE : yEok E) {L : Nat} {xs : Nat → Int32} {pc n mi1 mi2 : Nat} {M1 M2 : xM} (hb : lcmpb pc n mi1 mi2 = true) (hn : n ≤ 5) (hm1 : xmt[mi1]? = some M1) (hm2 : xmt[mi2]? = some M2) (hk1 : xMn M1 = n ∧ n + 1 ≤ xMl M1 ∧ xMl M1 ≤ 45) (hk2 : xMn M2 = n ∧ n + 1 ≤ xMl M2 ∧ xMl M2 ≤ 45) (c : LX E n M1 M2 0) : LK E L xs pc := by
  intro i mem ce sl Post hR hS hL h0 h6 hI nx
  refine l_cmp (d := 1000) hE (yRm_le hR (by omega) (by omega)) hS hL h0 h6 hb hn hm1 hm2 hk1 hk2 (Nx := LI ((w32 i).toNat + 6)) (fun m hm => nx m ce sl hm (by omega) (by omega)) ?_
  refine yCon_mono (c (lX xs i) (w32 i).toNat mem (by omega) hI) (fun r m h => ?_)
  obtain ⟨x, rfl, h⟩ := h
  refine ⟨x, rfl, yCon_mono h (fun r m h => ?_)⟩
  obtain ⟨y, rfl, e, _, h⟩ := h
  exact ⟨y, rfl, e rfl, h⟩

theorem lw_case0 {E : yE} (hE : yEok E) (hm : yman Om) (hmAC : yman OmAC) {L : Nat} {xs : Nat → Int32} : LK E L xs 196 := LK_px (n := 5) (mi1 := 14) (mi2 := 167) (M1 := xm_14) (M2 := xm_167) hE (by decide +kernel) (by decide) rfl rfl (by decide) (by decide) (lx_feed hE)
theorem lw_case1 {E : yE} (hE : yEok E) (hm : yman Om) (hmAC : yman OmAC) {L : Nat} {xs : Nat → Int32} : LK E L xs 269 := LK_px (n := 1) (mi1 := 41) (mi2 := 242) (M1 := xm_41) (M2 := xm_242) hE (by decide +kernel) (by decide) rfl rfl (by decide) (by decide) (lx_text hE hm)
theorem lw_case2 {E : yE} (hE : yEok E) (hm : yman Om) (hmAC : yman OmAC) {L : Nat} {xs : Nat → Int32} : LK E L xs 294 := LK_px (n := 1) (mi1 := 13) (mi2 := 166) (M1 := xm_13) (M2 := xm_166) hE (by decide +kernel) (by decide) rfl rfl (by decide) (by decide) (lx_fault hE)
theorem lw_case3 {E : yE} (hE : yEok E) (hm : yman Om) (hmAC : yman OmAC) {L : Nat} {xs : Nat → Int32} : LK E L xs 319 := LK_px (n := 2) (mi1 := 22) (mi2 := 210) (M1 := xm_22) (M2 := xm_210) hE (by decide +kernel) (by decide) rfl rfl (by decide) (by decide) (lx_named hE)
theorem lw_case5 {E : yE} (hE : yEok E) (hm : yman Om) (hmAC : yman OmAC) {L : Nat} {xs : Nat → Int32} : LK E L xs 424 := LK_px (n := 2) (mi1 := 40) (mi2 := 240) (M1 := xm_40) (M2 := xm_240) hE (by decide +kernel) (by decide) rfl rfl (by decide) (by decide) (lx_tavern hE hm)
theorem lw_case6 {E : yE} (hE : yEok E) (hm : yman Om) (hmAC : yman OmAC) {L : Nat} {xs : Nat → Int32} : LK E L xs 461 := LK_px (n := 2) (mi1 := 44) (mi2 := 247) (M1 := xm_44) (M2 := xm_247) hE (by decide +kernel) (by decide) rfl rfl (by decide) (by decide) (lx_verse hE)
theorem lw_case7 {E : yE} (hE : yEok E) (hm : yman Om) (hmAC : yman OmAC) {L : Nat} {xs : Nat → Int32} : LK E L xs 498 := LK_px (n := 3) (mi1 := 25) (mi2 := 216) (M1 := xm_25) (M2 := xm_216) hE (by decide +kernel) (by decide) rfl rfl (by decide) (by decide) (lx_pitch hE)
theorem lw_case8 {E : yE} (hE : yEok E) (hm : yman Om) (hmAC : yman OmAC) {L : Nat} {xs : Nat → Int32} : LK E L xs 547 := LK_px (n := 3) (mi1 := 10) (mi2 := 161) (M1 := xm_10) (M2 := xm_161) hE (by decide +kernel) (by decide) rfl rfl (by decide) (by decide) (lx_due hE hm)
theorem lw_case9 {E : yE} (hE : yEok E) (hm : yman Om) (hmAC : yman OmAC) {L : Nat} {xs : Nat → Int32} : LK E L xs 596 := LK_px (n := 3) (mi1 := 36) (mi2 := 232) (M1 := xm_36) (M2 := xm_232) hE (by decide +kernel) (by decide) rfl rfl (by decide) (by decide) (lx_sounds hE hm)
theorem lw_case10 {E : yE} (hE : yEok E) (hm : yman Om) (hmAC : yman OmAC) {L : Nat} {xs : Nat → Int32} : LK E L xs 645 := LK_px (n := 2) (mi1 := 4) (mi2 := 149) (M1 := xm_4) (M2 := xm_149) hE (by decide +kernel) (by decide) rfl rfl (by decide) (by decide) (lx_bids hE hm)
theorem lw_case11 {E : yE} (hE : yEok E) (hm : yman Om) (hmAC : yman OmAC) {L : Nat} {xs : Nat → Int32} : LK E L xs 682 := LK_px (n := 1) (mi1 := 9) (mi2 := 159) (M1 := xm_9) (M2 := xm_159) hE (by decide +kernel) (by decide) rfl rfl (by decide) (by decide) (lx_cracks hE hm)
theorem lw_case12 {E : yE} (hE : yEok E) (hm : yman Om) (hmAC : yman OmAC) {L : Nat} {xs : Nat → Int32} : LK E L xs 707 := LK_px (n := 3) (mi1 := 27) (mi2 := 222) (M1 := xm_27) (M2 := xm_222) hE (by decide +kernel) (by decide) rfl rfl (by decide) (by decide) (lx_redeem hE hm)
theorem lw_case13 {E : yE} (hE : yEok E) (hm : yman Om) (hmAC : yman OmAC) {L : Nat} {xs : Nat → Int32} : LK E L xs 756 := LK_px (n := 0) (mi1 := 43) (mi2 := 246) (M1 := xm_43) (M2 := xm_246) hE (by decide +kernel) (by decide) rfl rfl (by decide) (by decide) (lx_undo hE hm)
theorem lw_case14 {E : yE} (hE : yEok E) (hm : yman Om) (hmAC : yman OmAC) {L : Nat} {xs : Nat → Int32} : LK E L xs 769 := LK_px (n := 2) (mi1 := 32) (mi2 := 229) (M1 := xm_32) (M2 := xm_229) hE (by decide +kernel) (by decide) rfl rfl (by decide) (by decide) (lx_sings hE hm)
theorem lw_case15 {E : yE} (hE : yEok E) (hm : yman Om) (hmAC : yman OmAC) {L : Nat} {xs : Nat → Int32} : LK E L xs 806 := LK_px (n := 2) (mi1 := 2) (mi2 := 145) (M1 := xm_2) (M2 := xm_145) hE (by decide +kernel) (by decide) rfl rfl (by decide) (by decide) (lx_bar hE hm)
theorem lw_case16 {E : yE} (hE : yEok E) (hm : yman Om) (hmAC : yman OmAC) {L : Nat} {xs : Nat → Int32} : LK E L xs 843 := LK_px (n := 0) (mi1 := 38) (mi2 := 239) (M1 := xm_38) (M2 := xm_239) hE (by decide +kernel) (by decide) rfl rfl (by decide) (by decide) (lx_sunday hE hm hmAC)
theorem lc_147 {E : yE} (hE : yEok E) (hm : yman Om) (hmAC : yman OmAC) : LC E 1000 147 95 2 0 := fun M' hM k X mem Q hI hQ => by
  have e : xm_147 = M' := Option.some.inj (show some xm_147 = some M' from hM)
  subst e
  exact c_best hE hm (by decide) hI.1 hI.2.1 (fun r m h => hQ r m (LI_R (Nat.le_refl k) hI h))
theorem lw_case17 {E : yE} (hE : yEok E) (hm : yman Om) (hmAC : yman OmAC) {L : Nat} {xs : Nat → Int32} : LK E L xs 856 := LK_of (n := 2) (mi1 := 3) (mi2 := 147) (po := 10) (t := 0) (M1 := xm_3) (M2 := xm_147) hE (by decide +kernel) (by decide) (Or.inl ⟨rfl, rfl⟩) rfl rfl (by decide) (by decide) (LC_as (as_26 yoc_Om hm) hE (by decide +kernel)) (lc_147 hE hm hmAC)
theorem lc_152 {E : yE} (hE : yEok E) (hm : yman Om) (hmAC : yman OmAC) : LC E 1000 152 95 3 0 := fun M' hM k X mem Q hI hQ => by
  have e : xm_152 = M' := Option.some.inj (show some xm_152 = some M' from hM)
  subst e
  exact c_chosen hE hm (by decide) hI.1 hI.2.1 (fun r m h => hQ r m (LI_R (Nat.le_refl k) hI h))
theorem lw_case18 {E : yE} (hE : yEok E) (hm : yman Om) (hmAC : yman OmAC) {L : Nat} {xs : Nat → Int32} : LK E L xs 893 := LK_of (n := 3) (mi1 := 5) (mi2 := 152) (po := 10) (t := 0) (M1 := xm_5) (M2 := xm_152) hE (by decide +kernel) (by decide) (Or.inl ⟨rfl, rfl⟩) rfl rfl (by decide) (by decide) (LC_as (as_30 yoc_Om hm) hE (by decide +kernel)) (lc_152 hE hm hmAC)
theorem lw_case19 {E : yE} (hE : yEok E) (hm : yman Om) (hmAC : yman OmAC) {L : Nat} {xs : Nat → Int32} : LK E L xs 942 := LK_px (n := 3) (mi1 := 35) (mi2 := 231) (M1 := xm_35) (M2 := xm_231) hE (by decide +kernel) (by decide) rfl rfl (by decide) (by decide) (lx_sold hE hm)
theorem lw_case20 {E : yE} (hE : yEok E) (hm : yman Om) (hmAC : yman OmAC) {L : Nat} {xs : Nat → Int32} : LK E L xs 991 := LK_px (n := 1) (mi1 := 11) (mi2 := 163) (M1 := xm_11) (M2 := xm_163) hE (by decide +kernel) (by decide) rfl rfl (by decide) (by decide) (lx_easter hE hm)
theorem lw_case21 {E : yE} (hE : yEok E) (hm : yman Om) (hmAC : yman OmAC) {L : Nat} {xs : Nat → Int32} : LK E L xs 1016 := LK_px (n := 1) (mi1 := 16) (mi2 := 180) (M1 := xm_16) (M2 := xm_180) hE (by decide +kernel) (by decide) rfl rfl (by decide) (by decide) (lx_hum hE hm)
theorem lw_case22 {E : yE} (hE : yEok E) (hm : yman Om) (hmAC : yman OmAC) {L : Nat} {xs : Nat → Int32} : LK E L xs 1041 := LK_px (n := 1) (mi1 := 37) (mi2 := 235) (M1 := xm_37) (M2 := xm_235) hE (by decide +kernel) (by decide) rfl rfl (by decide) (by decide) (lx_strike hE hm)
theorem lw_case23 {E : yE} (hE : yEok E) (hm : yman Om) (hmAC : yman OmAC) {L : Nat} {xs : Nat → Int32} : LK E L xs 1066 := LK_px (n := 1) (mi1 := 19) (mi2 := 201) (M1 := xm_19) (M2 := xm_201) hE (by decide +kernel) (by decide) rfl rfl (by decide) (by decide) (lx_known hE hm)
theorem lw_case24 {E : yE} (hE : yEok E) (hm : yman Om) (hmAC : yman OmAC) {L : Nat} {xs : Nat → Int32} : LK E L xs 1091 := LK_of (n := 0) (mi1 := 42) (mi2 := 243) (po := 10) (t := 0) (M1 := xm_42) (M2 := xm_243) hE (by decide +kernel) (by decide) (Or.inl ⟨rfl, rfl⟩) rfl rfl (by decide) (by decide) (LC_as (as_60 yoc_Om hm) hE (by decide +kernel)) (LC_as (as_114 yoc_Om hm) hE (by decide +kernel))
theorem lc_213 {E : yE} (hE : yEok E) (hm : yman Om) (hmAC : yman OmAC) : LC E 1000 213 95 2 0 := fun M' hM k X mem Q hI hQ => by
  have e : xm_213 = M' := Option.some.inj (show some xm_213 = some M' from hM)
  subst e
  exact c_odds hE hm (by decide) hI.1 hI.2.1 (fun r m h => hQ r m (LI_R (Nat.le_refl k) hI h))
theorem lw_case25 {E : yE} (hE : yEok E) (hm : yman Om) (hmAC : yman OmAC) {L : Nat} {xs : Nat → Int32} : LK E L xs 1104 := LK_of (n := 2) (mi1 := 23) (mi2 := 213) (po := 10) (t := 0) (M1 := xm_23) (M2 := xm_213) hE (by decide +kernel) (by decide) (Or.inl ⟨rfl, rfl⟩) rfl rfl (by decide) (by decide) (LC_as (as_62 yoc_Om hm) hE (by decide +kernel)) (lc_213 hE hm hmAC)
theorem lw_case26 {E : yE} (hE : yEok E) (hm : yman Om) (hmAC : yman OmAC) {L : Nat} {xs : Nat → Int32} : LK E L xs 1141 := LK_of (n := 0) (mi1 := 15) (mi2 := 172) (po := 10) (t := 0) (M1 := xm_15) (M2 := xm_172) hE (by decide +kernel) (by decide) (Or.inl ⟨rfl, rfl⟩) rfl rfl (by decide) (by decide) (LC_as (as_51 yoc_Om hm) hE (by decide +kernel)) (LC_as (as_117 yoc_Om hm) hE (by decide +kernel))
theorem lw_case27 {E : yE} (hE : yEok E) (hm : yman Om) (hmAC : yman OmAC) {L : Nat} {xs : Nat → Int32} : LK E L xs 1154 := LK_of (n := 4) (mi1 := 28) (mi2 := 224) (po := 10) (t := 0) (M1 := xm_28) (M2 := xm_224) hE (by decide +kernel) (by decide) (Or.inl ⟨rfl, rfl⟩) rfl rfl (by decide) (by decide) (LC_as (as_67 yoc_Om hm) hE (by decide +kernel)) (LC_as (as_123 yoc_Om hm) hE (by decide +kernel))
theorem lw_case28 {E : yE} (hE : yEok E) (hm : yman Om) (hmAC : yman OmAC) {L : Nat} {xs : Nat → Int32} : LK E L xs 1215 := LK_of (n := 5) (mi1 := 12) (mi2 := 164) (po := 10) (t := 0) (M1 := xm_12) (M2 := xm_164) hE (by decide +kernel) (by decide) (Or.inl ⟨rfl, rfl⟩) rfl rfl (by decide) (by decide) (LC_as (as_45 yoc_Om hm) hE (by decide +kernel)) (LC_as (as_124 yoc_Om hm) hE (by decide +kernel))
theorem lw_case29 {E : yE} (hE : yEok E) (hm : yman Om) (hmAC : yman OmAC) {L : Nat} {xs : Nat → Int32} : LK E L xs 1288 := LK_px (n := 2) (mi1 := 29) (mi2 := 226) (M1 := xm_29) (M2 := xm_226) hE (by decide +kernel) (by decide) rfl rfl (by decide) (by decide) (lx_run hE hm)
theorem lw_case30 {E : yE} (hE : yEok E) (hm : yman Om) (hmAC : yman OmAC) {L : Nat} {xs : Nat → Int32} : LK E L xs 1325 := LK_px (n := 1) (mi1 := 24) (mi2 := 215) (M1 := xm_24) (M2 := xm_215) hE (by decide +kernel) (by decide) rfl rfl (by decide) (by decide) (lx_pay hE hm)
theorem lc_250 {E : yE} (hE : yEok E) (hm : yman Om) (hmAC : yman OmAC) : LC E 1000 250 95 3 4 := fun M' hM k X mem Q hI hQ => by
  have e : xm_250 = M' := Option.some.inj (show some xm_250 = some M' from hM)
  subst e
  exact c_whole hE hm (by decide) hI.1 hI.2.1 (fun r m h => hQ r m (LI_R (Nat.le_refl k) hI h))
theorem lw_case31 {E : yE} (hE : yEok E) (hm : yman Om) (hmAC : yman OmAC) {L : Nat} {xs : Nat → Int32} : LK E L xs 1350 := LK_of (n := 3) (mi1 := 45) (mi2 := 250) (po := 69) (t := 4) (M1 := xm_45) (M2 := xm_250) hE (by decide +kernel) (by decide) (Or.inr ⟨rfl, rfl⟩) rfl rfl (by decide) (by decide) (LC_as (as_81 yoc_Om hm) hE (by decide +kernel)) (lc_250 hE hm hmAC)
theorem lw_case32 {E : yE} (hE : yEok E) (hm : yman Om) (hmAC : yman OmAC) {L : Nat} {xs : Nat → Int32} : LK E L xs 1399 := LK_px (n := 0) (mi1 := 18) (mi2 := 199) (M1 := xm_18) (M2 := xm_199) hE (by decide +kernel) (by decide) rfl rfl (by decide) (by decide) (lx_keep hE hm)
theorem lw_case33 {E : yE} (hE : yEok E) (hm : yman Om) (hmAC : yman OmAC) {L : Nat} {xs : Nat → Int32} : LK E L xs 1412 := LK_px (n := 0) (mi1 := 1) (mi2 := 144) (M1 := xm_1) (M2 := xm_144) hE (by decide +kernel) (by decide) rfl rfl (by decide) (by decide) (lx_back hE hm)
theorem lw_case34 {E : yE} (hE : yEok E) (hm : yman Om) (hmAC : yman OmAC) {L : Nat} {xs : Nat → Int32} : LK E L xs 1425 := LK_of (n := 1) (mi1 := 7) (mi2 := 157) (po := 10) (t := 0) (M1 := xm_7) (M2 := xm_157) hE (by decide +kernel) (by decide) (Or.inl ⟨rfl, rfl⟩) rfl rfl (by decide) (by decide) (LC_as (as_32 yoc_Om hm) hE (by decide +kernel)) (LC_as (as_128 yoc_Om hm) hE (by decide +kernel))
theorem dLk_370 : decode cL_law 370 = .ok (.invokestatic 39, 3) := by decide +kernel
theorem l_look6 {E : yE} (hE : yEok E) (hnc : ∀ s, yEX E s → va_Nc "java/util/NoSuchElementException" "java/lang/IndexOutOfBoundsException" s) {lv : yL} {st : List yV} {mem : yMem} {ce sl : Nat} {Post : Option yV → yMem → Prop} {x y : Int} {D : dDc} {Wd : dU} {k : Nat} (hG : aGok mem) (hD : cDh mem D) (hW : cW mem 57 Wd) (hu : uOk D k Wd) (hR : yRm room_1 1000 (ce + 1) (sl + 6)) (hst : ysum st ≤ 8) (h : ∀ v m', w32 v = sLkc D (w32 x) (w32 y) → ((m' = mem ∧ ¬ sLkc D (w32 x) (w32 y) = 0) ∨ ∃ u, m' = yset mem 143 0 (w32 u) ∧ w32 u = sLk D Wd (w32 x).toNat (w32 y)) → yG E room_1 xm_L1 373 lv ((0, v) :: st) m' (ce + 1) (sl + 6) Post) : yG E room_1 xm_L1 370 lv ((1, 143) :: (0, y) :: (0, x) :: (1, 0) :: st) mem ce sl Post := by
  intro p e s m args below meth c A Qc hC hQ H locs ls hl hP hS
  have C := hC.1.1
  have hGw : ∀ w ∈ va_wsS RL 39 yL_look xLW, w ∈ xgt := fun w hw => by
    rcases List.mem_append.mp hw with hw | hw
    · simp only [List.mem_cons, List.not_mem_nil, or_false] at hw
      rcases hw with rfl | rfl | rfl
      · exact (xwm 1294 (by decide +kernel) (by decide +kernel))
      · exact (xwm 1295 (by decide +kernel) (by decide +kernel))
      · exact (xwm 115 (by decide +kernel) (by decide +kernel))
    · rcases List.mem_cons.mp hw with rfl | hw
      · exact (xwm 1296 (by decide +kernel) (by decide +kernel))
      · exact hw
  refine yw_call (st := (1, 143) :: (0, y) :: (0, x) :: (1, 0) :: st) (rest := st) (Pc := lkP6 D Wd mem x y) (mc := 1) (ms := 6) hC hS (vx_runSW (As := llAs E x y) (rest := st.map (ydv E)) (nL := 7) (n := 4) (index := 39) ⟨C.1, C.2.1, hC.1.2.1, C.2.2.1, C.2.2.2⟩ (y_lklaw6 hE hnc hG hD hW hu x y H.size (yP_size hP)) (vx_cwSW 4 C.2.2.2 (xgt_in' hGw) rfl rfl rfl ⟨by decide, by decide, by decide +kernel⟩ ⟨by decide, by decide⟩) ⟨yPp_blind hE, fun U hU hW => ⟨rfl, yPp_at hC hE hP hS U hU hW⟩⟩ rfl rfl hl.1 rfl (lv_room (by rw [ysum_ok]; exact hst)) dLk_370 hR.2) (fun r mem' H1 locs1 hr hP1 hS1 => ?_)
  obtain ⟨v, rfl, hv, hm'⟩ := hr
  exact h v mem' hv hm' p e s m args below meth c A Qc hC hQ H1 locs1 ls hl hP1 hS1
/-! the ints of the script, over more locals than the loop's own -/
section K6
variable {E : yE} {L : Nat} {xs : Nat → Int32} {pc nx : Nat} {lv : yL} {st : List yV} {mem : yMem} {ce sl d : Nat} {Post : Option yV → yMem → Prop} {i : Int}
theorem k_arg (hE : yEok E) (hR : yRm room_1 d ce sl) (hS : lSc E L xs) (hL : L ≤ 3072) {k : Nat} (hk : k < 6) (h0 : 0 ≤ w32 i) (h6 : w32 i + 6 ≤ (L : Int)) (l0 : ylk lv 0 = some (5, 50)) (l4 : ylk lv 4 = some (0, i)) (hb : largb pc k = true) (h : yG E room_1 xm_L1 (pc + 6) lv ((0, lX xs i k) :: st) mem ce sl Post) : yG E room_1 xm_L1 pc lv st mem ce sl Post := by
  simp only [largb, Bool.and_eq_true] at hb
  obtain ⟨a1, a2, a3, a4, a5⟩ := hb
  have ec := l_cI (show k < 100 by omega)
  have ek : w32 (i + cI k) = w32 i + (k : Int) := by rw [ec, w32_ad (by rw [w32_of (x := (k : Int)) (by omega) (by omega)]; omega) (by rw [w32_of (x := (k : Int)) (by omega) (by omega)]; omega), w32_of (x := (k : Int)) (by omega) (by omega)]
  refine yo_ld (v := (5, 50)) hE hR (lo1 a1) l0 rfl ?_
  refine yo_ld (v := (0, i)) hE hR (lo1 a2) l4 rfl ?_
  refine yo_c hE hR (lo1 a3) ?_
  refine yo_bin hE hR (lo1 a4) (by decide) ?_
  refine l_sld hS hL (lo1 a5) (show 0 ≤ w32 (i + cI k) by omega) (show w32 (i + cI k) < (L : Int) by omega) ?_
  rw [show (w32 (ybin 0 i (cI k))).toNat = (w32 i).toNat + k from (show (w32 (i + cI k)).toNat = (w32 i).toNat + k by omega)]
  exact h
theorem k_args (hE : yEok E) (hR : yRm room_1 d ce sl) (hS : lSc E L xs) (hL : L ≤ 3072) (h0 : 0 ≤ w32 i) (h6 : w32 i + 6 ≤ (L : Int)) (l0 : ylk lv 0 = some (5, 50)) (l4 : ylk lv 4 = some (0, i)) : ∀ (n k pc : Nat) (st : List yV), largsb n k pc = true → k + n ≤ 6 → yG E room_1 xm_L1 (pc + 6 * n) lv ((lav (lX xs i) n k).reverse ++ st) mem ce sl Post → yG E room_1 xm_L1 pc lv st mem ce sl Post
  | 0, k, pc, st, _, _, h => h
  | n + 1, k, pc, st, hb, hk, h => by
    simp only [largsb, Bool.and_eq_true] at hb
    refine k_arg hE hR hS hL (k := k) (by omega) h0 h6 l0 l4 hb.1 (k_args hE hR hS hL h0 h6 l0 l4 n (k + 1) (pc + 6) _ hb.2 (by omega) ?_)
    rw [show pc + 6 + 6 * n = pc + 6 * (n + 1) by omega]
    rw [lav, List.reverse_cons, List.append_assoc] at h
    exact h
theorem k_seg (hE : yEok E) (hR : yRm room_1 d ce sl) (hS : lSc E L xs) (hL : L ≤ 3072) (h0 : 0 ≤ w32 i) (h6 : w32 i + 6 ≤ (L : Int)) (l0 : ylk lv 0 = some (5, 50)) (l4 : ylk lv 4 = some (0, i)) {r n mi ci z : Nat} {M' : xM} {fs rest : List yV} (hb : lsegb pc r n mi ci = true) (hn : n ≤ 5) (hr : ylk lv r = some (1, (z : Int))) (hmi : xmt[mi]? = some M') (hmn : xMn M' = n) (hml : n + 1 ≤ xMl M') (hml2 : xMl M' ≤ 45) (hK : ysh[z]? = some (.inr (ci, fs))) (hrest : ysum rest ≤ 8) (h : yCon E d M' ((1, (z : Int)) :: lav (lX xs i) n 1) mem (fun v mem' => yG E room_1 xm_L1 (pc + 1 + 6 * n + 3) lv (yput rest v) mem' ce sl Post)) : yG E room_1 xm_L1 pc lv rest mem ce sl Post := by
  simp only [lsegb, Bool.and_eq_true] at hb
  obtain ⟨a1, a2, a3⟩ := hb
  refine yo_ld (v := (1, (z : Int))) hE hR (lo1 a1) hr rfl ?_
  refine k_args hE hR hS hL h0 h6 l0 l4 n 1 (pc + 1) _ a2 (by omega) ?_
  refine yo_call (i := z) (avs := lav (lX xs i) n 1) hE hR (lo1 a3) hmi (by rw [lav_len, hmn]) hrest ?_ hml2 hK h
  rw [ysum, lav_sum]
  show 1 + n ≤ _
  omega
end K6
set_option maxHeartbeats 4000000 in
theorem lw_case4 {E : yE} (hE : yEok E) (hm : yman Om) (hnc : ∀ s, yEX E s → va_Nc "java/util/NoSuchElementException" "java/lang/IndexOutOfBoundsException" s) {L : Nat} {xs : Nat → Int32} : LK E L xs 356 := by
  intro i mem ce sl Post hR hS hL h0 h6 hI nx
  have hR' := yRm_le hR (show ce ≤ ce + 1 by omega) (show sl ≤ sl + 6 by omega)
  have hI0 := hI
  obtain ⟨hG, hO, -, -, -, -, D, W, V0, ⟨d1, d2, d3⟩, ⟨w1, w2, w3⟩, -⟩ := hI0
  have hbo : ∀ v, v < D.2.1.length → vBo D v = 0 ∨ vBo D v = 1 := fun v hv => by
    obtain ⟨K, -, -, -, k4⟩ := cTb_b d1 hv
    exact k4
  refine yo_ld (nx := 357) (k := 1) (i := 1) (v := (1, 0)) hE hR' (lo1 (by decide +kernel)) rfl rfl ?_
  refine l_args hE hR' hS hL h0 h6 2 1 357 _ (by decide +kernel) (by decide) ?_
  refine yo_ld (pc := 369) (nx := 370) (k := 1) (i := 3) (v := (1, 143)) hE hR' (lo1 (by decide +kernel)) rfl rfl ?_
  refine l_look6 (x := lX xs i 1) (y := lX xs i 2) (st := []) hE hnc hI.1 d1 w1 w3 hR (by decide) (fun v m' hv hm' => ?_)
  have F : ∀ a b, a < 130 → m' a b = mem a b := fun a b ha => by
    rcases hm' with ⟨rfl, _⟩ | ⟨u, rfl, _⟩
    · rfl
    · exact yset_o (by omega)
  have hI' : LI (w32 i).toNat m' := by
    rcases hm' with ⟨rfl, _⟩ | ⟨u, rfl, _⟩
    · exact hI
    · exact LI_fr (Nat.le_refl _) hI (aGok_set hI.1 (ag_32 (agam_A ae_143))) (yoc_Om mem _ (fun i j hi => yset_o (fun e => by subst e; exact absurd hi (by decide))) hI.2.1) (fun i j h => yset_o (by unfold tpP at h; omega))
  have d2' : rDl m' D := rDl_w d2 (fun i j n _ i1 i2 _ => by rw [F i j (by omega)])
  have w2' : rW m' 0 W := rW_f (by decide) w2 (fun i j i1 i2 => F i j (by omega))
  refine yo_st (nx := 375) (k := 0) (i := 5) hE hR (lo1 (by decide +kernel)) rfl (by decide) (zG_sub (lv' := (5, (0, v)) :: llaw i) (fun q hq => hq) ?_)
  refine k_seg (lv := (5, (0, v)) :: llaw i) (pc := 375) (d := 1000) (r := 2) (n := 2) (mi := 207) (ci := 12) (z := 95) (M' := xm_207) (rest := []) hE hR hS hL h0 h6 rfl rfl (by decide +kernel) (by decide) rfl rfl rfl (by decide) (by decide) rfl (by decide) ?_
  refine r_look (V := lX xs i 1) (Y := lX xs i 2) hE (by decide) w2' d2' w3 hbo (fun r t et er => ?_)
  have hI2 : LI (w32 i).toNat (yset m' 95 0 t) := LI_95t (Nat.le_refl _) hI'
  have y0 : yset m' 95 0 t 95 0 = t := by
    unfold yset
    rw [if_pos rfl, if_pos rfl]
  have y143 : yset m' 95 0 t 143 0 = m' 143 0 := yset_o (by decide)
  refine yo_st (pc := 391) (nx := 393) (k := 0) (i := 6) hE hR (lo1 (by decide +kernel)) rfl (by decide) (zG_sub (lv' := (6, (0, r)) :: (5, (0, v)) :: llaw i) (fun q hq => hq) ?_)
  have fin : yG E room_1 xm_L1 421 ((6, (0, r)) :: (5, (0, v)) :: llaw i) [] (yset m' 95 0 t) (ce + 1) (sl + 6) Post := zG_sub (lv' := llaw i) (fun q hq => List.mem_cons_of_mem _ (List.mem_cons_of_mem _ hq)) (yo_go (nx := 1450) hE hR (lo1 (by decide +kernel)) (nx (yset m' 95 0 t) (ce + 1) (sl + 6) (LI_le (Nat.le_add_right _ 6) hI2) (Nat.le_refl _) (Nat.le_refl _)))
  refine yo_ld (nx := 394) (k := 1) (i := 2) (v := (1, ((95 : Nat) : Int))) hE hR (lo1 (by decide +kernel)) rfl rfl ?_
  refine yo_call (pc := 394) (mi := 265) (ci := 12) (i := 95) (avs := []) (rest := []) (M' := xm_265) hE hR (lo1 (by decide +kernel)) rfl rfl (by decide) (Nat.le_of_ble_eq_true rfl) (by decide) rfl (r_thrown hE (by decide) ?_)
  rw [y0]
  refine yo_ld (pc := 397) (nx := 399) (k := 0) (i := 5) (v := (0, v)) hE hR (lo1 (by decide +kernel)) rfl rfl ?_
  refine yo_cmp (pc := 399) (nx := 402) (t := 404) (c := 0) hE hR (lo1 (by decide +kernel)) (fun _ => ?_) (fun hne => absurd (show w32 t = w32 v by rw [et, hv]) hne)
  refine yo_ld (pc := 404) (nx := 406) (k := 0) (i := 5) (v := (0, v)) hE hR (lo1 (by decide +kernel)) rfl rfl ?_
  refine yo_if (pc := 406) (nx := 409) (t := 421) (c := 1) hE hR (lo1 (by decide +kernel)) (fun _ => fin) (fun hz => ?_)
  have hz : ¬ ¬ w32 v = w32 0 := hz
  have hs : sLkc D (w32 (lX xs i 1)) (w32 (lX xs i 2)) = 0 := by
    rw [← hv]
    exact (Classical.not_not.mp hz).trans (by decide)
  rcases hm' with ⟨_, hn⟩ | ⟨u, hm', hu⟩
  · exact absurd hs hn
  have y1 : m' 143 0 = w32 u := by
    rw [hm']
    unfold yset
    rw [if_pos rfl, if_pos rfl]
  refine yo_ld (pc := 409) (nx := 410) (k := 1) (i := 3) (v := (1, ((143 : Nat) : Int))) hE hR (lo1 (by decide +kernel)) rfl rfl ?_
  refine yo_c (pc := 410) (nx := 411) (a := 0) hE hR (lo1 (by decide +kernel)) ?_
  refine yo_lrd (pc := 411) (nx := 412) (i := 143) (n := 1) (rs := []) (j := cI 0) hE hR (lo1 (by decide +kernel)) rfl (by decide) (by decide) ?_
  rw [show (w32 (cI 0)).toNat = 0 by decide, y143, y1]
  refine yo_ld (pc := 412) (nx := 414) (k := 0) (i := 6) (v := (0, r)) hE hR (lo1 (by decide +kernel)) rfl rfl ?_
  refine yo_i2l (pc := 414) (nx := 415) hE hR (lo1 (by decide +kernel)) ?_
  refine yo_lcmp6 (pc := 415) (nx := 416) hE hR (lo1 (by decide +kernel)) ?_
  have e : w32 (ycmp (w32 u) (w32 r)) = w32 0 := by
    rw [hu, er hs]
    unfold ycmp
    rw [if_neg (Int.lt_irrefl _), if_pos rfl]
  exact yo_if (pc := 416) (nx := 419) (t := 421) (c := 0) hE hR (lo1 (by decide +kernel)) (fun _ => fin) (fun hne => absurd (show w32 (ycmp (w32 u) (w32 r)) = w32 0 from e) hne)
section LOOP
variable {E : yE} {L : Nat} {xs : Nat → Int32} {mem : yMem} {ce sl : Nat} {Post : Option yV → yMem → Prop} {i : Int}
theorem l_rm {ce sl : Nat} (h1 : ce ≤ 601024) (h2 : sl ≤ 7293034) : yRm room_1 1000 ce sl := ⟨⟨by decide, by decide⟩, h1, h2⟩
theorem l_head (hE : yEok E) (hR : yRm room_1 1000 ce sl) (hS : lSc E L xs) (hL : L ≤ 3072) (h0 : 0 ≤ w32 i) (hP : ∀ m, Post (some (0, cI 1)) m) (h : w32 i + 6 ≤ (L : Int) → LG E i 33 [] mem ce sl Post) : LG E i 23 [] mem ce sl Post := by
  refine yo_ld (nx := 25) (k := 0) (i := 4) (v := (0, i)) hE hR (lo1 (by decide +kernel)) rfl rfl ?_
  refine yo_ld (nx := 26) (k := 1) (i := 0) (v := (5, 50)) hE hR (lo1 (by decide +kernel)) rfl rfl ?_
  refine l_slen (nx := 27) hS (lo1 (by decide +kernel)) ?_
  refine yo_c (nx := 29) (a := 6) hE hR (lo1 (by decide +kernel)) ?_
  refine yo_bin (nx := 30) (o := 1) hE hR (lo1 (by decide +kernel)) (by decide) ?_
  have eL : w32 (L : Int) = (L : Int) := w32_of (by omega) (by omega)
  have e6 : w32 ((L : Int) - cI 6) = (L : Int) - 6 := by
    rw [l_cI (show 6 < 100 by decide)]
    exact (w32_of (by omega) (by omega)).trans (by rfl)
  refine yo_cmp (nx := 33) (t := 1456) (c := 4) hE hR (lo1 (by decide +kernel)) (fun _ => ?_) (fun hn => h ?_)
  · refine yo_c (nx := 1457) (a := 1) hE hR (lo1 (by decide +kernel)) ?_
    exact yo_rt (nx := 0) (b := 3) hE hR (lo1 (by decide +kernel)) (Or.inr ⟨rfl, Or.inr (by decide)⟩) (hP _)
  · have hn' : ¬ w32 ((L : Int) - cI 6) < w32 i := hn
    omega
theorem l_body (hE : yEok E) (hm : yman Om) (hmAC : yman OmAC) (hnc : ∀ s, yEX E s → va_Nc "java/util/NoSuchElementException" "java/lang/IndexOutOfBoundsException" s) (hR : yRm room_1 1000 (ce + 1) (sl + 6)) (hS : lSc E L xs) (hL : L ≤ 3072) (h0 : 0 ≤ w32 i) (h6 : w32 i + 6 ≤ (L : Int)) (hI : LI (w32 i).toNat mem) (nx : ∀ m ce' sl', LI ((w32 i).toNat + 6) m → ce' ≤ ce + 1 → sl' ≤ sl + 6 → LG E i 1450 [] m ce' sl' Post) : LG E i 33 [] mem ce sl Post := by
  have hR' := yRm_le hR (show ce ≤ ce + 1 by omega) (show sl ≤ sl + 6 by omega)
  refine yo_ld (nx := 34) (k := 1) (i := 0) (v := (5, 50)) hE hR' (lo1 (by decide +kernel)) rfl rfl ?_
  refine yo_ld (nx := 36) (k := 0) (i := 4) (v := (0, i)) hE hR' (lo1 (by decide +kernel)) rfl rfl ?_
  refine l_sld (nx := 37) hS hL (lo1 (by decide +kernel)) h0 (by omega) ?_
  refine yo_c (nx := 39) (a := 63) hE hR' (lo1 (by decide +kernel)) ?_
  refine yo_bin (nx := 40) (o := 3) hE hR' (lo1 (by decide +kernel)) (by decide) ?_
  have k4 := lw_case4 hE hm hnc i mem ce sl Post hR hS hL h0 h6 hI nx
  refine yo_sw (t := 1450) (cs := [(0, 196), (1, 269), (2, 294), (3, 319), (4, 356), (5, 424), (6, 461), (7, 498), (8, 547), (9, 596), (10, 645), (11, 682), (12, 707), (13, 756), (14, 769), (15, 806), (16, 843), (17, 856), (18, 893), (19, 942), (20, 991), (21, 1016), (22, 1041), (23, 1066), (24, 1091), (25, 1104), (26, 1141), (27, 1154), (28, 1215), (29, 1288), (30, 1325), (31, 1350), (32, 1399), (33, 1412), (34, 1425)]) hE hR' (l1o rfl) ?_ (fun _ => nx mem ce sl (LI_le (Nat.le_add_right _ 6) hI) (by omega) (by omega)) (by decide)
  exact xcns (fun _ => lw_case0 hE hm hmAC i mem ce sl Post hR hS hL h0 h6 hI nx) <| xcns (fun _ => lw_case1 hE hm hmAC i mem ce sl Post hR hS hL h0 h6 hI nx) <| xcns (fun _ => lw_case2 hE hm hmAC i mem ce sl Post hR hS hL h0 h6 hI nx) <| xcns (fun _ => lw_case3 hE hm hmAC i mem ce sl Post hR hS hL h0 h6 hI nx) <| xcns (fun _ => k4) <| xcns (fun _ => lw_case5 hE hm hmAC i mem ce sl Post hR hS hL h0 h6 hI nx) <| xcns (fun _ => lw_case6 hE hm hmAC i mem ce sl Post hR hS hL h0 h6 hI nx) <| xcns (fun _ => lw_case7 hE hm hmAC i mem ce sl Post hR hS hL h0 h6 hI nx) <| xcns (fun _ => lw_case8 hE hm hmAC i mem ce sl Post hR hS hL h0 h6 hI nx) <| xcns (fun _ => lw_case9 hE hm hmAC i mem ce sl Post hR hS hL h0 h6 hI nx) <| xcns (fun _ => lw_case10 hE hm hmAC i mem ce sl Post hR hS hL h0 h6 hI nx) <| xcns (fun _ => lw_case11 hE hm hmAC i mem ce sl Post hR hS hL h0 h6 hI nx) <| xcns (fun _ => lw_case12 hE hm hmAC i mem ce sl Post hR hS hL h0 h6 hI nx) <| xcns (fun _ => lw_case13 hE hm hmAC i mem ce sl Post hR hS hL h0 h6 hI nx) <| xcns (fun _ => lw_case14 hE hm hmAC i mem ce sl Post hR hS hL h0 h6 hI nx) <| xcns (fun _ => lw_case15 hE hm hmAC i mem ce sl Post hR hS hL h0 h6 hI nx) <| xcns (fun _ => lw_case16 hE hm hmAC i mem ce sl Post hR hS hL h0 h6 hI nx) <| xcns (fun _ => lw_case17 hE hm hmAC i mem ce sl Post hR hS hL h0 h6 hI nx) <| xcns (fun _ => lw_case18 hE hm hmAC i mem ce sl Post hR hS hL h0 h6 hI nx) <| xcns (fun _ => lw_case19 hE hm hmAC i mem ce sl Post hR hS hL h0 h6 hI nx) <| xcns (fun _ => lw_case20 hE hm hmAC i mem ce sl Post hR hS hL h0 h6 hI nx) <| xcns (fun _ => lw_case21 hE hm hmAC i mem ce sl Post hR hS hL h0 h6 hI nx) <| xcns (fun _ => lw_case22 hE hm hmAC i mem ce sl Post hR hS hL h0 h6 hI nx) <| xcns (fun _ => lw_case23 hE hm hmAC i mem ce sl Post hR hS hL h0 h6 hI nx) <| xcns (fun _ => lw_case24 hE hm hmAC i mem ce sl Post hR hS hL h0 h6 hI nx) <| xcns (fun _ => lw_case25 hE hm hmAC i mem ce sl Post hR hS hL h0 h6 hI nx) <| xcns (fun _ => lw_case26 hE hm hmAC i mem ce sl Post hR hS hL h0 h6 hI nx) <| xcns (fun _ => lw_case27 hE hm hmAC i mem ce sl Post hR hS hL h0 h6 hI nx) <| xcns (fun _ => lw_case28 hE hm hmAC i mem ce sl Post hR hS hL h0 h6 hI nx) <| xcns (fun _ => lw_case29 hE hm hmAC i mem ce sl Post hR hS hL h0 h6 hI nx) <| xcns (fun _ => lw_case30 hE hm hmAC i mem ce sl Post hR hS hL h0 h6 hI nx) <| xcns (fun _ => lw_case31 hE hm hmAC i mem ce sl Post hR hS hL h0 h6 hI nx) <| xcns (fun _ => lw_case32 hE hm hmAC i mem ce sl Post hR hS hL h0 h6 hI nx) <| xcns (fun _ => lw_case33 hE hm hmAC i mem ce sl Post hR hS hL h0 h6 hI nx) <| xcns (fun _ => lw_case34 hE hm hmAC i mem ce sl Post hR hS hL h0 h6 hI nx) <| xnl
theorem l_loop (hE : yEok E) (hm : yman Om) (hmAC : yman OmAC) (hnc : ∀ s, yEX E s → va_Nc "java/util/NoSuchElementException" "java/lang/IndexOutOfBoundsException" s) (hS : lSc E L xs) (hL : L ≤ 3072) (hP : ∀ m, Post (some (0, cI 1)) m) : ∀ (n : Nat) (i : Int) (mem : yMem) (ce sl : Nat), L ≤ (w32 i).toNat + n → 0 ≤ w32 i → w32 i ≤ 4000 → LI (w32 i).toNat mem → ce ≤ 144 + (w32 i).toNat → sl ≤ 14558 + (w32 i).toNat → LG E i 23 [] mem ce sl Post := by
  intro n
  induction n with
  | zero =>
    intro i mem ce sl hn h0 h4 hI hc hs
    exact l_head hE (l_rm (by omega) (by omega)) hS hL h0 hP (fun h6 => by omega)
  | succ n ih =>
    intro i mem ce sl hn h0 h4 hI hc hs
    refine l_head hE (l_rm (by omega) (by omega)) hS hL h0 hP (fun h6 => ?_)
    refine l_body hE hm hmAC hnc (l_rm (by omega) (by omega)) hS hL h0 h6 hI (fun m ce' sl' hI' hc' hs' => ?_)
    have e6 : w32 (i + cI 6) = w32 i + 6 := by
      rw [l_cI (show 6 < 100 by decide), w32_ad (by rw [w32_of (x := ((6 : Nat) : Int)) (by decide) (by decide)]; omega) (by rw [w32_of (x := ((6 : Nat) : Int)) (by decide) (by decide)]; omega), w32_of (x := ((6 : Nat) : Int)) (by decide) (by decide)]
      rfl
    refine yo_inc (d := 1000) (nx := 1453) (i := 4) (a := 6) hE (l_rm (by omega) (by omega)) (lo1 (by decide +kernel)) rfl (by decide) ?_
    refine yo_go (d := 1000) (nx := 23) hE (l_rm (by omega) (by omega)) (lo1 (by decide +kernel)) ?_
    exact ih (i + cI 6) m ce' sl' (by omega) (by omega) (by omega) (by rw [e6, show (w32 i + 6).toNat = (w32 i).toNat + 6 by omega]; exact hI') (by omega) (by omega)
end LOOP
end
section
/-! THE CLAIM OUT OF ONE WALK OF THE LAW'S BODY. Your part is whole_start (and what it stands on); all else here is the same for every law, but numbers. -/
def R_law : String := "RansomHymnLaw"
def lw_P (b : Addr) (xs : List Int32) (args : Array Value) (s : State) : Prop := args = #[.ref b] ∧ s.IntsAt b xs ∧ xs.length ≤ 3072 ∧ (Jvm.Cond.and given_1 narrow_1).before args s = true
def lw_Q (_ : Array Value) (s : State) (o : Outcome) (t : State) : Prop := o = .returned (some (.int 1)) ∧ Framed s o t [] 601024 7293034
def lw_Z (below : List Frame) (a : Array Value) (s : State) : State → Prop := fun t => ∃ o, t.status = .running ∧ Ended t below o ∧ lw_Q a s o t
/-- the law's own end, with 1 on the stack, nothing written that was there before, its room as the claim has it -/
theorem lw_ret {p : Program} {l : Launch} {e : Env} {s : State} {m : MethodId} {below : List Frame} {meth : Method} {c : Code} {b : Nat} (hx : p.tables.exec = Jvm.exec) (hb : c.code = code) (hr : meth.sig.returnType = ret) (hlocks : meth.locks = false) {pc : Nat} {H : Heap} {ls : Array Slot} (hdg : decode code pc = .ok (.ireturn, 1)) : W p l e room_1 s m #[Value.ref b] below meth c H [] 601024 7293034 (lw_Z below #[Value.ref b] s) (F0 m pc ls [.int 1]) := by
  intro T hT X
  obtain ⟨fs, hret, hrun, hended, hW, hframe⟩ := X.leave (v := some (.int 1)) (hlocks := hlocks) (fun h => by rw [hr] at h; cases h)
  have hmeth' : T.vm.method? m = some meth := X.method'
  refine ⟨T.setFrames fs, ?_, .returned (some (.int 1)), hrun, hended, rfl, ⟨_, rfl⟩, hW, hframe⟩
  jvm_step X.here [X.here.top, hx, hb, hdg, hmeth', hr, ret, narrow_b1]
  (try refine ⟨rfl, ?_⟩); (try refine ⟨rfl, ?_⟩)
  first | (intro acts; rw [hret _ acts rfl rfl rfl]) | rw [hret _ _ rfl rfl rfl]
  exact Steps.refl _
/-- what holds at the law's entry: the machine, the code, the tables' words (any of lw_tbl by 'hts w (by decide +kernel)'), the script of L ints xs at the cell b, what the Statement gives of the start (any of its parts by flat_of_before) -/
def lw_At (p : Program) (s : State) (m : MethodId) (meth : Method) (c : Code) (b L : Nat) (xs : Nat → Int32) : Prop :=
  p.tables.exec = Jvm.exec ∧ c.code = code ∧ meth.sig.returnType = ret ∧ c.maxLocals = 7 ∧ s.vm.findClass R_law = some m.cls ∧ (∀ w ∈ lw_tbl, w.before #[Value.ref b] s = true) ∧ va_X b L xs s s.heap ∧ b < s.heap.size ∧ meth.locks = false ∧ (Jvm.Cond.and given_1 narrow_1).before #[Value.ref b] s = true
end
section
/-! the two objects as the constructors leave them: the memory -/
def ymv (v : xV) : Int := match v with
  | (0, n) => cI n
  | (4, n) => cL n
  | _ => 0
def ymc (c : xC) (j : Nat) : Int := match c with
  | .inl (_, vs) => ymv (vs.getD j (0, 0))
  | .inr (_, fs) => ymv (fs.getD j (0, 0))
def ym0 : yMem := fun i j => match xK0[i]? with
  | some c => ymc c j
  | none => 0
def yfr : List xV → List yV → Bool
  | [], [] => true
  | f :: r, g :: s => ((Nat.beq f.1 0 && Nat.beq g.1 0) || (Nat.beq f.1 1 && (Nat.beq g.1 1 && decide (((f.2 : Nat) : Int) = g.2)))) && yfr r s
  | _, _ => false
def yrel (c : xC) (S : yS) : Bool := match c, S with
  | .inl (k, vs), .inl (k', n, rs) => Nat.beq k k' && (Nat.beq vs.length n && (match k with
    | 2 => vs.all (fun v => Nat.beq v.1 4)
    | 4 => decide (vs = rs.map (fun q => (1, q)))
    | _ => vs.all (fun v => Nat.beq v.1 0)))
  | .inr (ci, fs), .inr (ci', gs) => Nat.beq ci ci' && yfr fs gs
  | _, _ => false
def yrelL : List xC → List yS → Bool
  | [], [] => true
  | c :: K, S :: L => yrel c S && yrelL K L
  | _, _ => false
theorem getD_all {α : Type} {p : α → Bool} {d : α} (hd : p d = true) : ∀ (l : List α) (j : Nat), l.all p = true → p (l.getD j d) = true
  | [], j, _ => by simpa using hd
  | a :: r, 0, h => by
    simp only [List.all_cons, Bool.and_eq_true] at h
    simpa using h.1
  | a :: r, j + 1, h => by
    simp only [List.all_cons, Bool.and_eq_true] at h
    have := getD_all hd r j h.2
    simpa using this
theorem ymv0 {v : xV} (h : v.1 = 0) : ymv v = cI v.2 := by
  obtain ⟨a, n⟩ := v
  dsimp only at h
  subst h
  rfl
theorem ymv4 {v : xV} (h : v.1 = 4) : ymv v = cL v.2 := by
  obtain ⟨a, n⟩ := v
  dsimp only at h
  subst h
  rfl
section WD
variable {E : yE} {ρ : Nat → Int32}
theorem yarr_i {vs : List xV} (h : vs.all (fun v => Nat.beq v.1 0) = true) (j : Nat) : xdi ρ (vs.getD j (0, 0)) = iI (ymv (vs.getD j (0, 0))) := by
  have := getD_all (p := fun v : xV => Nat.beq v.1 0) (d := (0, 0)) rfl vs j h
  rw [Nat.beq_eq] at this
  rw [ymv0 this, iI_c]
  generalize vs.getD j (0, 0) = v at this ⊢
  obtain ⟨a, n⟩ := v
  dsimp only at this
  subst this
  rfl
theorem yarr_l {vs : List xV} (h : vs.all (fun v => Nat.beq v.1 4) = true) (j : Nat) : xdl (vs.getD j (4, 0)) = lI (ymv (vs.getD j (0, 0))) := by
  have h1 := getD_all (p := fun v : xV => Nat.beq v.1 4) (d := (4, 0)) rfl vs j h
  by_cases hj : j < vs.length
  · have e : vs.getD j (4, 0) = vs.getD j (0, 0) := by
      rw [List.getD_eq_getElem?_getD, List.getD_eq_getElem?_getD, List.getElem?_eq_getElem hj]
      rfl
    rw [e] at h1 ⊢
    rw [Nat.beq_eq] at h1
    rw [ymv4 h1, lI_c]
    rfl
  · have e : ∀ d : xV, vs.getD j d = d := fun d => by
      rw [List.getD_eq_getElem?_getD, List.getElem?_eq_none (by omega)]
      rfl
    rw [e, e]
    decide
theorem yfr_ok {f : Nat → Int} : ∀ (fs : List xV) (gs : List yV) (o : Nat), yfr fs gs = true → (∀ j, f (o + j) = ymv (fs.getD j (0, 0))) → fs.map (xdv (yb E) ρ (ysa E)) = yfs E o gs f
  | [], [], o, _, _ => rfl
  | v :: r, g :: s, o, h, hf => by
    simp only [yfr, Bool.and_eq_true, Bool.or_eq_true, Nat.beq_eq, decide_eq_true_eq] at h
    obtain ⟨h1, h2⟩ := h
    simp only [List.map_cons, yfs]
    have hv : f o = ymv v := by
      have := hf 0
      simpa using this
    congr 1
    · obtain ⟨a, n⟩ := v
      obtain ⟨t, x⟩ := g
      rcases h1 with ⟨e1, e2⟩ | ⟨e1, e2, e3⟩
      · dsimp only at e1 e2
        subst e1; subst e2
        rw [hv]
        show Value.int (nI n) = Value.int (iI (cI n))
        rw [iI_c]
      · dsimp only at e1 e2 e3
        subst e1; subst e2; subst e3
        show Value.ref (yb E + n) = Value.ref (yb E + ((n : Nat) : Int).toNat)
        rw [Int.toNat_natCast]
    · refine yfr_ok r s (o + 1) h2 (fun j => ?_)
      have := hf (j + 1)
      rw [show o + 1 + j = o + (j + 1) by omega, this]
      simp
  | [], _ :: _, _, h, _ => by cases h
  | _ :: _, [], _, h, _ => by cases h
theorem yrel_ok {c : xC} {S : yS} (h : yrel c S = true) : xce (yb E) ρ (ysa E) (yda E) c = yce E S (ymc c) := by
  match c, S, h with
  | .inr (ci, fs), .inr (ci', gs), h =>
    simp only [yrel, Bool.and_eq_true, Nat.beq_eq] at h
    obtain ⟨rfl, h2⟩ := h
    show Sum.inr (ci, fs.map (xdv (yb E) ρ (ysa E))) = Sum.inr (ci, yfs E 0 gs (ymc (.inr (ci, fs))))
    rw [yfr_ok (f := ymc (.inr (ci, fs))) fs gs 0 h2 (fun j => by rw [Nat.zero_add]; rfl)]
  | .inl (k, vs), .inl (k', n, rs), h =>
    simp only [yrel, Bool.and_eq_true, Nat.beq_eq] at h
    obtain ⟨rfl, rfl, h3⟩ := h
    match k, h3 with
    | 2, h3 =>
      show Sum.inl (yda E 2, vs.length, _) = Sum.inl (yda E 2, vs.length, _)
      congr 5
      funext j
      exact yarr_l h3 j
    | 4, h3 =>
      have h3 : vs = rs.map (fun q => (1, q)) := of_decide_eq_true h3
      show Sum.inl (yda E 4, vs.length, Sum.inr (Sum.inr (Sum.inr (Sum.inr (fun j => xdr (yb E) (vs.getD j (2, 0))))))) = Sum.inl (yda E 4, vs.length, Sum.inr (Sum.inr (Sum.inr (Sum.inr (fun j => (rs[j]?).map (fun q => yb E + q))))))
      congr 7
      funext j
      rw [h3, List.getD_eq_getElem?_getD, List.getElem?_map]
      cases rs[j]? <;> rfl
    | 0, h3 =>
      show Sum.inl (yda E 0, vs.length, _) = Sum.inl (yda E 0, vs.length, _)
      congr 4
      funext j
      exact yarr_i h3 j
    | 1, h3 =>
      show Sum.inl (yda E 1, vs.length, _) = Sum.inl (yda E 1, vs.length, _)
      congr 4
      funext j
      exact yarr_i h3 j
    | 3, h3 =>
      show Sum.inl (yda E 3, vs.length, _) = Sum.inl (yda E 3, vs.length, _)
      congr 4
      funext j
      exact yarr_i h3 j
    | k + 5, h3 =>
      show Sum.inl (yda E (k + 5), vs.length, _) = Sum.inl (yda E (k + 5), vs.length, _)
      congr 4
      funext j
      exact yarr_i h3 j
  | .inl _, .inr _, h => cases h
  | .inr _, .inl _, h => cases h
theorem ycx_of {mem : yMem} : ∀ (K : xH) (L : List yS) (o : Nat), yrelL K L = true → (∀ i c, K[i]? = some c → mem (o + i) = ymc c) → xcx (yb E) ρ (ysa E) (yda E) o K = ycx E mem o L
  | [], [], _, _, _ => rfl
  | c :: K, S :: L, o, h, hm => by
    simp only [yrelL, Bool.and_eq_true] at h
    simp only [xcx, ycx]
    have h0 : mem o = ymc c := hm 0 c rfl
    rw [yrel_ok h.1, h0, ycx_of K L (o + 1) h.2 (fun i c' hc => by rw [show o + 1 + i = o + (i + 1) by omega]; exact hm (i + 1) c' (by simpa using hc))]
  | [], _ :: _, _, h, _ => by cases h
  | _ :: _, [], _, h, _ => by cases h
end WD
set_option maxRecDepth 1000000 in
theorem yrel_0 : yrelL xK0 ysh = true := by decide +kernel
theorem yworld {E : yE} {ρ : Nat → Int32} : xcx (yb E) ρ (ysa E) (yda E) 0 xK0 = yW E ym0 := ycx_of xK0 ysh 0 yrel_0 (fun i c hc => by
  funext j
  show (match xK0[0 + i]? with
    | some c => ymc c j
    | none => 0) = ymc c j
  rw [Nat.zero_add, hc])
/-! it is within the intervals -/
def yinb (v : xV) (q : Int × Int) : Bool := if Nat.beq v.2 0 then decide (q.1 ≤ 0) && decide (0 ≤ q.2) else decide (q.1 ≤ w32 (ymv v)) && decide (w32 (ymv v) ≤ q.2)
theorem yinb_ok {v : xV} {q : Int × Int} (h : yinb v q = true) : q.1 ≤ w32 (ymv v) ∧ w32 (ymv v) ≤ q.2 := by
  unfold yinb at h
  split at h
  · next e =>
    simp only [Bool.and_eq_true, decide_eq_true_eq] at h
    rw [Nat.beq_eq] at e
    have e0 : ymv v = 0 := by
      obtain ⟨a, n⟩ := v
      dsimp only at e
      subst e
      unfold ymv
      split
      · next h' => cases h'; rfl
      · next h' => cases h'; rfl
      · rfl
    rw [e0, w32c_0]
    exact h
  · simp only [Bool.and_eq_true, decide_eq_true_eq] at h
    exact h
def ygl : List xV → List (Int × Int) → Int × Int → Bool
  | [], l, d => l.all (fun q => yinb (0, 0) q) && yinb (0, 0) d
  | v :: r, [], d => yinb v d && ygl r [] d
  | v :: r, q :: l, d => yinb v q && ygl r l d
theorem ygl_ok {d : Int × Int} : ∀ (vs : List xV) (l : List (Int × Int)) (j : Nat), ygl vs l d = true → yinb (vs.getD j (0, 0)) (l.getD j d) = true
  | [], l, j, h => by
    simp only [ygl, Bool.and_eq_true] at h
    have := getD_all (p := fun q => yinb (0, 0) q) (d := d) h.2 l j h.1
    simpa using this
  | v :: r, [], 0, h => by
    simp only [ygl, Bool.and_eq_true] at h
    simpa using h.1
  | v :: r, [], j + 1, h => by
    simp only [ygl, Bool.and_eq_true] at h
    have := ygl_ok r [] j h.2
    simpa using this
  | v :: r, q :: l, 0, h => by
    simp only [ygl, Bool.and_eq_true] at h
    simpa using h.1
  | v :: r, q :: l, j + 1, h => by
    simp only [ygl, Bool.and_eq_true] at h
    have := ygl_ok r l j h.2
    simpa using this
def yvs (c : xC) : List xV := match c with
  | .inl (_, vs) => vs
  | .inr (_, fs) => fs
theorem ymc_vs (c : xC) (j : Nat) : ymc c j = ymv ((yvs c).getD j (0, 0)) := by
  match c with
  | .inl (_, vs) => rfl
  | .inr (_, fs) => rfl
def yglL : List xC → List ((Int × Int) × List (Int × Int)) → Bool
  | [], [] => true
  | c :: K, e :: L => ygl (yvs c) e.2 e.1 && yglL K L
  | _, _ => false
theorem yglL_ok : ∀ (K : List xC) (L : List ((Int × Int) × List (Int × Int))) (i j : Nat) (c : xC), yglL K L = true → K[i]? = some c → ∃ e, L[i]? = some e ∧ e.2.getD j e.1 = e.2.getD j e.1 ∧ yinb ((yvs c).getD j (0, 0)) (e.2.getD j e.1) = true
  | c :: K, e :: L, 0, j, c', h, hc => by
    simp only [List.getElem?_cons_zero, Option.some.injEq] at hc
    subst hc
    simp only [yglL, Bool.and_eq_true] at h
    exact ⟨e, rfl, rfl, ygl_ok _ _ j h.1⟩
  | c :: K, e :: L, i + 1, j, c', h, hc => by
    simp only [yglL, Bool.and_eq_true] at h
    obtain ⟨e', h1, h2⟩ := yglL_ok K L i j c' h.2 (by simpa using hc)
    exact ⟨e', by simpa using h1, h2⟩
  | [], _, i, j, c, _, hc => by simp at hc
  | _ :: _, [], _, _, _, h, _ => by cases h
set_option maxRecDepth 1000000 in
theorem ygl_0 : yglL xK0 ygam = true := by decide +kernel
set_option maxRecDepth 1000000 in
theorem yk_len : xK0.length = 144 ∧ ygam.length = 144 := by decide +kernel
theorem ym0_ok : aGok ym0 := by
  intro i j
  show (agam i j).1 ≤ w32 (match xK0[i]? with
    | some c => ymc c j
    | none => 0) ∧ w32 (match xK0[i]? with
    | some c => ymc c j
    | none => 0) ≤ (agam i j).2
  cases hc : xK0[i]? with
  | none =>
    dsimp only
    have hi : ¬ i < 144 := fun hi => by
      rw [List.getElem?_eq_getElem (by rw [yk_len.1]; exact hi)] at hc
      cases hc
    have e : ygam[i]? = none := List.getElem?_eq_none (by rw [yk_len.2]; omega)
    rw [w32c_0]
    unfold agam aent
    rw [e]
    show (([] : List (Int × Int)).getD j a32).1 ≤ 0 ∧ 0 ≤ (([] : List (Int × Int)).getD j a32).2
    rw [show ([] : List (Int × Int)).getD j a32 = a32 by simp]
    decide
  | some c =>
    dsimp only
    obtain ⟨e, h1, -, h2⟩ := yglL_ok xK0 ygam i j c ygl_0 hc
    have := yinb_ok h2
    rw [ymc_vs]
    unfold agam aent
    rw [h1]
    exact this
theorem ym0_Om : Om ym0 := by
  have a : ∀ s, s < 5 → ym0 114 s = 0 ∧ ym0 115 s = 0 := by decide +kernel
  have b : ym0 127 0 = 0 ∧ ym0 127 1 = 0 := by decide +kernel
  have c : ym0 97 1 = 0 := by decide +kernel
  refine ⟨fun s hs => ?_, ⟨⟨fun i hi => ?_, fun i j _ hj => ?_⟩, ⟨fun i hi => ?_, fun i j _ hj => ?_⟩⟩, fun v hv => ?_⟩
  · rw [(a s hs).1, (a s hs).2]
    exact ⟨_, rfl⟩
  · rw [b.1, w32c_0] at hi; omega
  · rw [b.1, w32c_0] at hj; omega
  · rw [b.2, w32c_0] at hi; omega
  · rw [b.2, w32c_0] at hj; omega
  · rw [c, w32c_0] at hv; omega
theorem ym0_tp (j : Nat) : ym0 1 j = 0 ∧ ym0 96 j = 0 := by
  have e1 : xK0[1]? = some (.inl (1, List.replicate 800 (0, 0))) := by decide +kernel
  have e2 : xK0[96]? = some (.inl (0, List.replicate 800 (0, 0))) := by decide +kernel
  have r : ymv ((List.replicate 800 ((0 : Nat), (0 : Nat))).getD j (0, 0)) = 0 := by
    rw [List.getD_eq_getElem?_getD, List.getElem?_replicate]
    split <;> decide
  refine ⟨?_, ?_⟩
  · show (match xK0[1]? with
    | some c => ymc c j
    | none => 0) = 0
    rw [e1]
    exact r
  · show (match xK0[96]? with
    | some c => ymc c j
    | none => 0) = 0
    rw [e2]
    exact r
theorem ym0_wd : cWd ym0 := by
  have : ∀ i, i < 23 → w32 (ym0 56 i) = sWd.getD i 0 := by decide +kernel
  exact this
theorem ym0_LIw : LIw 0 ym0 := by
  have h0 : w32 (ym0 3 1) = 0 ∧ w32 (ym0 5 1) = 0 ∧ w32 (ym0 7 1) = 0 ∧ w32 (ym0 9 1) = 0 ∧ w32 (ym0 2 16) = 0 ∧ w32 (ym0 2 17) = 0 ∧ w32 (ym0 2 18) = 0 ∧ w32 (ym0 22 4) = 0 := by decide +kernel
  have h1 : ∀ j, j < 7 → w32 (ym0 97 j) = 0 := by decide +kernel
  have h2 : ∀ j, j < 5 → w32 (ym0 25 j) = 0 ∧ w32 (ym0 26 j) = 0 ∧ w32 (ym0 114 j) = 0 ∧ w32 (ym0 115 j) = 0 := by decide +kernel
  obtain ⟨a1, a2, a3, a4, a5, a6, a7, a8⟩ := h0
  have n1 : ∀ {z mx : Nat}, w32 (ym0 z 1) = 0 → cNm ym0 z mx [] := fun h => ⟨h, Nat.zero_le _, fun j hj => absurd hj (Nat.not_lt_zero j)⟩
  have n2 : ∀ {z q mx : Nat}, q < 7 → rNl ym0 z q mx [] := fun h => ⟨h1 _ h, Nat.zero_le _, fun j hj => absurd hj (Nat.not_lt_zero j)⟩
  let W : dU := ((fun _ => 0, fun _ => 0, fun _ => 0, fun _ => -1, fun _ => 0, fun _ => 0), 0, 0, 0, 0, 0, 0)
  let V : dU := ((fun _ => 0, fun _ => 0, fun _ => 0, fun _ => 0, fun _ => 0, fun _ => 0), 0, 0, 0, 0, 0, 0)
  have hc : cDh ym0 dD0 := ⟨⟨n1 a1, fun j t h => (by cases h)⟩, ⟨n1 a2, a5, fun t h => (by cases h), fun j t h => (by cases h)⟩, ⟨n1 a3, fun j t h => (by cases h)⟩, ⟨n1 a4, fun j t h => (by cases h)⟩, ⟨a6, a7⟩, fun j hj => ⟨(h2 j hj).1, (h2 j hj).2.1⟩, ⟨a8, Nat.zero_le _⟩, trivial⟩
  have hr : rDl ym0 dD0 := ⟨⟨n2 (by decide), fun j t h => (by cases h)⟩, ⟨n2 (by decide), fun j t h => (by cases h)⟩, ⟨n2 (by decide), fun j t h => (by cases h)⟩, ⟨n2 (by decide), fun j t h => (by cases h)⟩, ⟨h1 4 (by decide), h1 5 (by decide)⟩, fun j hj => (h2 j hj).2.2, ⟨h1 6 (by decide), Nat.zero_le _⟩, trivial⟩
  have w1 : cW ym0 57 W := by
    have k1 : ∀ j, j < 3 → w32 (ym0 58 j) = 0 ∧ w32 (ym0 60 j) = 0 := by decide +kernel
    have k2 : ∀ j, j < 6 → w32 (ym0 59 j) = 0 := by decide +kernel
    have k3 : ∀ j, j < 12 → w32 (ym0 61 j) = -1 ∧ w32 (ym0 62 j) = 0 ∧ w32 (ym0 63 j) = 0 := by decide +kernel
    have k4 : w32 (ym0 57 6) = 0 ∧ w32 (ym0 57 7) = 0 ∧ w32 (ym0 57 8) = 0 ∧ w32 (ym0 57 9) = 0 ∧ w32 (ym0 57 10) = 0 ∧ w32 (ym0 57 12) = 0 := by decide +kernel
    exact ⟨fun j hj => (k1 j hj).1, k2, fun j hj => (k1 j hj).2, fun j hj => (k3 j hj).1, fun j hj => (k3 j hj).2.1, fun j hj => (k3 j hj).2.2, k4⟩
  have w2 : cW ym0 64 V := by
    have k1 : ∀ j, j < 3 → w32 (ym0 65 j) = 0 ∧ w32 (ym0 67 j) = 0 := by decide +kernel
    have k2 : ∀ j, j < 6 → w32 (ym0 66 j) = 0 := by decide +kernel
    have k3 : ∀ j, j < 12 → w32 (ym0 68 j) = 0 ∧ w32 (ym0 69 j) = 0 ∧ w32 (ym0 70 j) = 0 := by decide +kernel
    have k4 : w32 (ym0 64 6) = 0 ∧ w32 (ym0 64 7) = 0 ∧ w32 (ym0 64 8) = 0 ∧ w32 (ym0 64 9) = 0 ∧ w32 (ym0 64 10) = 0 ∧ w32 (ym0 64 12) = 0 := by decide +kernel
    exact ⟨fun j hj => (k1 j hj).1, k2, fun j hj => (k1 j hj).2, fun j hj => (k3 j hj).1, fun j hj => (k3 j hj).2.1, fun j hj => (k3 j hj).2.2, k4⟩
  have g3 : ∀ j, j < 3 → w32 (ym0 123 j) = 0 ∧ w32 (ym0 124 j) = 0 ∧ w32 (ym0 123 (3 * 1 + j)) = 0 ∧ w32 (ym0 124 (3 * 1 + j)) = 0 := by decide +kernel
  have g6 : ∀ j, j < 6 → w32 (ym0 125 j) = 0 ∧ w32 (ym0 125 (6 * 1 + j)) = 0 := by decide +kernel
  have g12 : ∀ j, j < 12 → w32 (ym0 126 j) = -1 ∧ w32 (ym0 128 j) = 0 ∧ w32 (ym0 129 j) = 0 ∧ w32 (ym0 126 (12 * 1 + j)) = 0 ∧ w32 (ym0 128 (12 * 1 + j)) = 0 ∧ w32 (ym0 129 (12 * 1 + j)) = 0 := by decide +kernel
  have g0 : w32 (ym0 127 0) = 0 ∧ w32 (ym0 118 0) = 0 ∧ w32 (ym0 119 0) = 0 ∧ w32 (ym0 121 0) = 0 ∧ w32 (ym0 122 0) = 0 ∧ w32 (ym0 120 0) = 0 := by decide +kernel
  have g1 : w32 (ym0 127 1) = 0 ∧ w32 (ym0 118 1) = 0 ∧ w32 (ym0 119 1) = 0 ∧ w32 (ym0 121 1) = 0 ∧ w32 (ym0 122 1) = 0 ∧ w32 (ym0 120 1) = 0 := by decide +kernel
  have e0 : w32 (ym0 0 14) = 0 ∧ w32 (ym0 95 49) = 0 ∧ w32 (ym0 71 1) = 0 ∧ w32 (ym0 95 61) = 0 := by decide +kernel
  have w3 : rW ym0 0 W := rW0_of ⟨fun j hj => (g3 j hj).1, fun j hj => (g6 j hj).1, fun j hj => (g3 j hj).2.1, fun j hj => (g12 j hj).1, fun j hj => (g12 j hj).2.1, fun j hj => (g12 j hj).2.2.1, g0⟩
  have w4 : rW ym0 1 V := ⟨fun j hj => (g3 j hj).2.2.1, fun j hj => (g6 j hj).2, fun j hj => (g3 j hj).2.2.2, fun j hj => (g12 j hj).2.2.2.1, fun j hj => (g12 j hj).2.2.2.2.1, fun j hj => (g12 j hj).2.2.2.2.2, g1⟩
  have w5 : uOk dD0 0 W := ⟨⟨Int.le_refl _, show (0 : Int) ≤ 12 by decide⟩, fun p _ => Or.inl rfl, fun i hi => absurd (show (i : Int) < 0 from hi) (by omega), fun i j _ hj => absurd (show (j : Int) < 0 from hj) (by omega), fun p _ h => absurd rfl h, fun j _ => ⟨Int.le_refl _, show (0 : Int) ≤ 10000 + 1000 * ((0 : Nat) : Int) by decide⟩, fun j _ => ⟨Int.le_refl _, show (0 : Int) ≤ 100 * ((0 : Nat) : Int) by decide⟩, fun j _ => ⟨Int.le_refl _, show (0 : Int) ≤ 999 by decide⟩, Int.le_refl _, show (0 : Int) < 64 by decide, show (0 : Int) < ((2 ^ 0 : Nat) : Int) by decide⟩
  exact ⟨dD0, W, V, ⟨hc, hr, dOk_0⟩, ⟨w1, w3, w5⟩, ⟨w2, w4, fun z => absurd e0.1 z⟩, by rw [e0.1, e0.2.1], by rw [e0.2.2.1, e0.2.2.2]⟩
theorem ym0_LI : LI 0 ym0 := ⟨ym0_ok, ym0_Om, by
  have : ym0 0 11 = ym0 95 2 := by decide +kernel
  rw [this], fun j => by rw [(ym0_tp j).1, (ym0_tp j).2]; decide +kernel, ym0_wd, ⟨by
  have : ym0 0 12 = ym0 95 33 := by decide +kernel
  rw [this], by
  have : ym0 0 13 = ym0 95 34 := by decide +kernel
  rw [this]⟩, ym0_LIw⟩
end
section
theorem xstp0_ok {pc : Nat} {lv : xL} {st : List xV} {K : xH} {ce sl : Nat} {κ : xK} {Ls : List xR} (h : xstp0 pc lv st K ce sl κ = some Ls) : pc = 23 ∧ lv = xlv0 ∧ st = [] ∧ K = xK0 ∧ ce = 144 ∧ sl = 14558 ∧ κ = ([], []) := by
  simp only [xstp0] at h
  split at h
  · next hc =>
    simp only [Bool.and_eq_true, Nat.beq_eq, decide_eq_true_eq] at hc
    exact hc
  · cases h
theorem xnil_ok {r : Option (List xR)} (h : xnil r = true) : r = some [] := by
  cases r with
  | none => cases h
  | some L =>
    cases L with
    | nil => rfl
    | cons a L => cases h
theorem xK1 {ρ : Nat → Int32} : xKok ρ ([], []) := ⟨fun q hq => (by cases hq), fun k a c h => (by cases h)⟩
/-- facts that stay: the script, what isn't castable -/
def xEX2 (b : Nat) (sa : Nat → Nat) (L : Nat) (xs : Nat → Int32) (U : State) : Prop := xFx b sa U ∧ va_X (sa 50) L xs U U.heap ∧ sa 50 < b ∧ va_Nc "java/util/NoSuchElementException" "java/lang/IndexOutOfBoundsException" U
theorem xEX2_ok (b : Nat) (sa : Nat → Nat) (L : Nat) (xs : Nat → Int32) : xEok b sa (xEX2 b sa L xs) := by
  have warm : ∀ s U : State, xEX2 b sa L xs s → s.WarmedH U.vm → (∀ q, q < b → U.heap[q]? = s.heap[q]?) → xEX2 b sa L xs U := fun s U h hW hq => ⟨xFx_warm h.1 hW hq, (va_X.moved hW.alike h.2.1).kept (hq _ h.2.2.1), h.2.2.1, va_Nc.moved hW.alike h.2.2.2⟩
  exact ⟨fun U g mk a h => warm U _ h (State.WarmedH.refl U) (fun _ _ => rfl), warm, fun s h => h.1⟩
set_option maxHeartbeats 4000000 in
set_option maxRecDepth 100000 in
/-- THE LAW, from its entry -/
theorem whole_start {p : Program} {e : Env} {s : State} {m : MethodId} {below : List Frame} {meth : Method} {c : Code} (l : Launch) (hls : l.stackTraces = false) {b L : Nat} {xs : Nat → Int32} (hL : L ≤ 3072) (C0 : lw_At p s m meth c b L xs) : W p l e room_1 s m #[Value.ref b] below meth c s.heap [] 0 0 (lw_Z below #[Value.ref b] s) (entryFrame m ([Value.ref b] : List Value).toArray 7) := by
  obtain ⟨hx, hb, hr, hml, hown, hts, hX, hbl, hlocks, hgv⟩ := C0
  obtain ⟨D, dA, hK⟩ := xworld hts
  obtain ⟨sa, hF, hsa⟩ := xfacts hts hgv
  have hX0 : va_X (sa 50) L xs s s.heap := by rw [hsa]; exact hX
  have hnc : va_Nc "java/util/NoSuchElementException" "java/lang/IndexOutOfBoundsException" s := va_Nc.of (flat_of_before _ hgv _ (by decide +kernel))
  have hEk := xEX2_ok s.heap.size sa L xs
  have hEX : xEX2 s.heap.size sa L xs s := ⟨hF, hX0, by rw [hsa]; exact hbl, hnc⟩
  obtain ⟨E, hEe⟩ : ∃ E : yE, E = (s.heap.size, sa, dA, D, l, xEX2 s.heap.size sa L xs) := ⟨_, rfl⟩
  have hE : yEok E := by
    rw [hEe]
    exact ⟨hls, hEk⟩
  have hctx : ∀ M : xM, xMc M = code → xMo M = RL → xMl M = 7 → xMr M = some .boolean → (xMy M).name = "law" → xCtx s.heap.size dA D M p s m #[Value.ref b] meth c (fun q => s.heap.size ≤ q) (xEX2 s.heap.size sa L xs) := fun M h1 h2 h3 h4 h5 =>
    ⟨⟨hx, by rw [h1]; exact hb, by rw [h2]; exact hown, fun w hw => hts w (xgt_in w hw)⟩, by rw [h3]; exact hml, hK, fun _ h => h, fun _ h => h, by rw [h4]; exact hr, hlocks, (fun h => by rw [h5] at h; exact absurd h (by decide)), hEX, Nat.le_refl _⟩
  have hloopG : LG E 0 23 [] ym0 144 14558 (fun r _ => r = some (0, cI 1)) := l_loop hE yman_Om (yman_of OmAC_F2 (fun _ h => h.1)) (L := L) (xs := xs) (fun s' h' => by rw [hEe] at h'; exact h'.2.2.2) (fun s' h' => by rw [hEe] at h' ⊢; exact ⟨h'.2.1, h'.2.2.1⟩) hL (fun _ => rfl) 3072 0 ym0 144 14558 (by omega) (by decide) (by decide) (by rw [w32c_0]; exact ym0_LI) (by decide) (by decide)
  refine W.mono (Q := MQ below (fun _ _ o _ => o = .returned (some (.int 1))) #[Value.ref b] s 601024 7293034 (fun q => s.heap.size ≤ q)) ?_ ?_
  · have hloop : xSnd true s.heap.size (fun _ => 0) sa dA D xm_L0 p l e s m #[Value.ref b] below meth c (fun q => s.heap.size ≤ q) (fun _ _ o _ => o = .returned (some (.int 1))) xstp0 := by
      intro pc lv st K ce sl κ0 Ls0 h0
      obtain ⟨rfl, rfl, rfl, rfl, rfl, rfl, rfl⟩ := xstp0_ok h0
      intro H locs ls hl hP hS hz hA0 _ _
      subst hEe
      have hw := yworld (E := (s.heap.size, sa, dA, D, l, xEX2 s.heap.size sa L xs)) (ρ := fun _ => 0)
      exact hloopG p e s m #[Value.ref b] below meth c (fun q => s.heap.size ≤ q) (fun _ _ o _ => o = .returned (some (.int 1))) ⟨hctx xm_L1 rfl rfl rfl rfl rfl, fun i _ => Nat.le_add_right _ _⟩ (fun r m9 t k1 k2 k3 => by rw [k1]; rfl) H locs ls hl (by rw [← hw]; exact hP) hS
    have hpro := xeT_ok (al := true) hls hEk (ds := []) (ρ := fun _ => 0) (fun k o x y h => by simp at h) (fun U hU L' hL' => by cases hL') xmt_ok (M := xm_L0) xo_L0 (hctx xm_L0 rfl rfl rfl rfl rfl) hloop 50 _ _ _ _ _ _ _ _ (xnil_ok xpro)
    have hl := lv_entry ([.ref b]) (n := 7) (Nat.le_of_ble_eq_true rfl)
    rw [lg_entry_eq]
    exact hpro s.heap [] _ (by rw [← hsa] at hl ⊢; exact hl) (fun k q h => by simp [xcx] at h) va_S.rf (fun _ => rfl) (fun i hi => absurd hi (by simp)) xK1 (fun lf hlf => (by cases hlf))
  · rintro t ⟨o, h1, h2, h3, LL, ⟨g1, g2, g3⟩, h5⟩
    exact ⟨o, h1, h2, h3, g1, g2, g3.weaken (fun y hy hlt => absurd hlt (Nat.not_lt.mpr (h5 y hy))) (Nat.le_refl _) (Nat.le_refl _)⟩
end
