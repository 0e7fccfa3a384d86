theorem dX11_look_0 : decode cX11_look 0 = .ok (.aload_n 0, 1) := by decide +kernel
theorem dX11_look_1 : decode cX11_look 1 = .ok (.getfield 16, 3) := by decide +kernel
theorem dX11_look_4 : decode cX11_look 4 = .ok (.getfield 136, 3) := by decide +kernel
theorem dX11_look_7 : decode cX11_look 7 = .ok (.iload_n 1, 1) := by decide +kernel
theorem dX11_look_8 : decode cX11_look 8 = .ok (.invokevirtual 145, 3) := by decide +kernel
theorem dX11_look_11 : decode cX11_look 11 = .ok (.ifCond .ne 13, 3) := by decide +kernel
theorem dX11_look_14 : decode cX11_look 14 = .ok (.new 149, 3) := by decide +kernel
theorem dX11_look_17 : decode cX11_look 17 = .ok (.dup, 1) := by decide +kernel
theorem dX11_look_18 : decode cX11_look 18 = .ok (.ldc 151, 2) := by decide +kernel
theorem dX11_look_20 : decode cX11_look 20 = .ok (.invokespecial 153, 3) := by decide +kernel
theorem dX11_look_23 : decode cX11_look 23 = .ok (.athrow, 1) := by decide +kernel
theorem dL_look_0 : decode cL_look 0 = .ok (.aload_n 3, 1) := by decide +kernel
theorem dL_look_1 : decode cL_look 1 = .ok (.iconst 0, 1) := by decide +kernel
theorem dL_look_2 : decode cL_look 2 = .ok (.aload_n 0, 1) := by decide +kernel
theorem dL_look_3 : decode cL_look 3 = .ok (.iload_n 1, 1) := by decide +kernel
theorem dL_look_4 : decode cL_look 4 = .ok (.iload_n 2, 1) := by decide +kernel
theorem dL_look_5 : decode cL_look 5 = .ok (.invokevirtual 7, 3) := by decide +kernel
theorem dL_look_13 : decode cL_look 13 = .ok (.astore 4, 2) := by decide +kernel
theorem dL_look_15 : decode cL_look 15 = .ok (.iconst 1, 1) := by decide +kernel
theorem dL_look_16 : decode cL_look 16 = .ok (.ireturn, 1) := by decide +kernel
theorem xholds (l : Launch) {b : Nat} {ρ : Nat → Int32} {sa : Nat → Nat} {dA : Nat → ClassId} {D : va_G} {K : xH} {v : Nat} {rs : List xV} (hv : K[v]? = some (.inr (6, rs))) (hrs : rs[1]? = some (0, 0)) (x : Int32) (sz : Nat) : Met l yX6_holds (.code yX6_holds cX6_holds 2 (some .boolean) :: xgt) ({ frames := 0, cells := 0, slots := 0, locals := 0 }) (va_Pc [.ref (b + v), .int x] (fun U => U.heap.size = sz ∧ va_P D vwCl (xcx b ρ sa dA 0 K) U.heap ∧ va_K D vwCl (xtys dA) U)) (va_Qi (fun (r : Int32) (_ : Unit) => r = 0) (fun _ _ => True) (fun q => sz ≤ q)) 0 0 (fun q => sz ≤ q) := by
  refine Met.ofW (cc := cX6_holds) (maxL := 2) (ret := some .boolean) (by decide +kernel) rfl ?_
  intro p e s m args below meth c s₁ B hml hvv
  obtain ⟨rfl, hsz, hP, hK⟩ := hvv
  have hts := atoms_spec (ws := (.code yX6_holds cX6_holds 2 (some .boolean) :: xgt)) B.pre
  have C : xCx p s m ([Value.ref (b + v), Value.int x] : List Value).toArray c cX6_holds RX6 := ⟨B.exec, B.bytes, findClass_of_methodNamed B.named, fun w hw => hts w (List.mem_cons_of_mem _ hw)⟩
  have hr := B.returns
  have hlocks := B.notSynchronized
  have hl := lv_entry ([.ref (b + v), .int x]) (n := 2) (Nat.le_of_ble_eq_true rfl)
  rw [lg_entry_eq]
  generalize (lg_sl ([.ref (b + v), .int x]) ++ List.replicate (2 - (lg_sl ([.ref (b + v), .int x])).length) Slot.unset).toArray = ls at hl ⊢
  have hl : lv_has ls 2 [(0, .ref (b + v)), (1, .int x)] := hl
  refine lv_iload_n C.1 C.2.1 dX6_holds_0 rfl (lv_at hl 1 rfl) ?_
  refine lv_if_lt (tgt := 16) C.1 C.2.1 dX6_holds_1 (by decide) (fun h => ?_) (fun h => ?_)
  · refine lv_iconst (v := 0) C.1 C.2.1 dX6_holds_16 (by decide +kernel) ?_
    exact W.zret (v := 0) C.1 C.2.1 hr (by decide +kernel) (fun t ht _ => ⟨⟨0, (), rfl, rfl, trivial⟩, by rw [ht]; exact Nat.le_refl _, fun q _ _ => by rw [ht]⟩) (fun q hq => by cases hq) dX6_holds_17 hlocks
  · refine lv_iload_n C.1 C.2.1 dX6_holds_4 rfl (lv_at hl 1 rfl) ?_
    refine lv_aload_n C.1 C.2.1 dX6_holds_5 rfl (lv_at hl 0 rfl) ?_
    refine (xr_getf dX6_holds_6 (show vwCl[6]? = some (RX6, TX6, 2) from rfl) (by decide) xin_X6 (xwm 164 (by decide +kernel) (by decide +kernel)) : xGf cX6_holds RX6 6 9 6 1) p l e _ s m _ below meth c _ _ _ _ _ ls _ C D (xtys dA) _ v (b + v) (rs.map (xdv b ρ sa)) (.int (nI 0)) hK hP (xcx_at hv) (by rw [List.getElem?_map, hrs]; rfl) ?_
    refine lv_icmp_ge (tgt := 16) C.1 C.2.1 dX6_holds_9 (by decide) (fun _ => ?_) (fun h2 => ?_)
    · refine lv_iconst (v := 0) C.1 C.2.1 dX6_holds_16 (by decide +kernel) ?_
      exact W.zret (v := 0) C.1 C.2.1 hr (by decide +kernel) (fun t ht _ => ⟨⟨0, (), rfl, rfl, trivial⟩, by rw [ht]; exact Nat.le_refl _, fun q _ _ => by rw [ht]⟩) (fun q hq => by cases hq) dX6_holds_17 hlocks
    · exact absurd (Int32.not_lt.mp h) h2
theorem xthr_good : ∀ w ∈ (vx_atS RX11 153 "java/lang/IndexOutOfBoundsException" ["java/lang/RuntimeException", "java/lang/Exception"]).filter goodWord, w ∈ lw_tbl := by decide +kernel
theorem xthr_tab : ∀ w ∈ xthr, w.onTables = true := by decide +kernel
theorem xat {args : Array Value} {s : State} (hts : ∀ w ∈ xgt, w.before args s = true) (h : ∀ w ∈ xthr, va_Nw w s) : ∀ w ∈ vx_atS RX11 153 "java/lang/IndexOutOfBoundsException" ["java/lang/RuntimeException", "java/lang/Exception"], w.before args s = true := by
  intro w hw
  by_cases hg : goodWord w = true
  · exact hts w (List.mem_filter.mpr ⟨xthr_good w (List.mem_filter.mpr ⟨hw, hg⟩), hg⟩)
  · have hx : w ∈ xthr := List.mem_filter.mpr ⟨hw, by simpa using hg⟩
    exact va_Nw.use (xthr_tab w hx) (h w hx)
theorem xlook (l : Launch) (hls : l.stackTraces = false) {b : Nat} {ρ : Nat → Int32} {sa : Nat → Nat} {dA : Nat → ClassId} {D : va_G} {K : xH} {i h v : Nat} {fs gs rs : List xV} (hi : K[i]? = some (.inr (11, fs))) (hfs : fs[1]? = some (1, h)) (hh : K[h]? = some (.inr (4, gs))) (hgs : gs[1]? = some (1, v)) (hv : K[v]? = some (.inr (6, rs))) (hrs : rs[1]? = some (0, 0)) (x y : Int32) (sz : Nat) (hbz : b ≤ sz) :
    vx_Met l yX11_look (.code yX11_look cX11_look 3 (some .int) :: xgt) ({ frames := 10, cells := 1, slots := 6, locals := 100 }) (va_Pc [.ref (b + i), .int x, .int y] (fun U => U.heap.size = sz ∧ va_P D vwCl (xcx b ρ sa dA 0 K) U.heap ∧ va_K D vwCl (xtys dA) U ∧ xFx b sa U)) (va_Qi (fun (_ : Int32) (_ : Unit) => False) (fun _ _ => True) (fun q => sz ≤ q)) (vx_X (fun _ : Unit => True) (fun E _ t => E = "java/lang/IndexOutOfBoundsException" ∧ va_P D vwCl (xcx b ρ sa dA 0 K) t.heap) (fun q => sz ≤ q)) 1 6 (fun q => sz ≤ q) := by
  refine vx_ofW (cc := cX11_look) (maxL := 3) (ret := some .int) (by decide +kernel) rfl ?_
  intro p e s m args below meth c s₁ B hml htab hvv
  obtain ⟨rfl, hsz, hP, hK, hF⟩ := hvv
  subst hsz
  have hts := atoms_spec (ws := (.code yX11_look cX11_look 3 (some .int) :: xgt)) B.pre
  have C : xCx p s m ([Value.ref (b + i), Value.int x, Value.int y] : List Value).toArray c cX11_look RX11 := ⟨B.exec, B.bytes, findClass_of_methodNamed B.named, fun w hw => hts w (List.mem_cons_of_mem _ hw)⟩
  have hlocks := B.notSynchronized
  have hl := lv_entry ([.ref (b + i), .int x, .int y]) (n := 3) (Nat.le_of_ble_eq_true rfl)
  rw [lg_entry_eq]
  generalize (lg_sl ([.ref (b + i), .int x, .int y]) ++ List.replicate (3 - (lg_sl ([.ref (b + i), .int x, .int y])).length) Slot.unset).toArray = ls at hl ⊢
  have hl : lv_has ls 3 [(0, .ref (b + i)), (1, .int x), (2, .int y)] := hl
  refine lv_aload_n C.1 C.2.1 dX11_look_0 rfl (lv_at hl 0 rfl) ?_
  refine (xr_getf dX11_look_1 (show vwCl[11]? = some (RX11, TX11, 15) from rfl) (by decide) xin_X11 (xwm 672 (by decide +kernel) (by decide +kernel)) : xGf cX11_look RX11 1 4 11 1) p l e _ s m _ below meth c _ _ _ _ _ ls _ C D (xtys dA) _ i (b + i) (fs.map (xdv b ρ sa)) (.ref (b + h)) hK hP (xcx_at hi) (by rw [List.getElem?_map, hfs]; rfl) ?_
  refine (xr_getf dX11_look_4 (show vwCl[4]? = some (RX4, TX4, 19) from rfl) (by decide) xin_X4 (xwm 227 (by decide +kernel) (by decide +kernel)) : xGf cX11_look RX11 4 7 4 1) p l e _ s m _ below meth c _ _ _ _ _ ls _ C D (xtys dA) _ h (b + h) (gs.map (xdv b ρ sa)) (.ref (b + v)) hK hP (xcx_at hh) (by rw [List.getElem?_map, hgs]; rfl) ?_
  refine lv_iload_n C.1 C.2.1 dX11_look_7 rfl (lv_at hl 1 rfl) ?_
  have hin6 : Cond.instanceMethod yX6_holds ∈ xgt := (xwm 911 (by decide +kernel) (by decide +kernel))
  have hrc := va_recv hK hP (show vwCl[6]? = some (RX6, TX6, 2) from rfl) (xcx_at hv)
  have hG : ∀ w ∈ (Cond.code yX6_holds cX6_holds 2 (some .boolean) :: xgt), w ∈ xgt := fun w hw => by
    rcases List.mem_cons.mp hw with rfl | hw
    · exact (xwm 913 (by decide +kernel) (by decide +kernel))
    · exact hw
  refine va_calli (va_runV (As := [.int x]) (rest := []) (n := 1) (bytes := cX6_holds) (maxL := 2) (ret := some .boolean) (C := RX6) ⟨C.1, C.2.1, hml, C.2.2.1, C.2.2.2⟩ (xholds l hv hrs x s.heap.size) ⟨callB_of (ws' := xgt) 1 C.2.2.2 (xgt_in' hG) rfl rfl rfl (C.2.2.2 _ (xwm 118 (by decide +kernel) (by decide +kernel))) (C.2.2.2 _ (xwm 910 (by decide +kernel) (by decide +kernel))) ⟨by decide, by decide, by decide +kernel⟩ ⟨Nat.le_of_ble_eq_true rfl, Nat.le_of_ble_eq_true rfl⟩, C.2.2.2 _ hin6, C.2.2.2 _ (xwm 912 (by decide +kernel) (by decide +kernel))⟩ ⟨fun a U g mk q => by obtain ⟨q0, q1, qP, qK⟩ := q; exact ⟨q0, q1, qP, va_K.moved (u := U) (U := U.calling g mk a) (Vm.Alike.refl U.vm) qK⟩, hrc, fun U hU hW => ⟨rfl, by rw [hU], by rw [hU]; exact hP, va_K.moved hW.alike hK⟩⟩ rfl rfl hl.1 rfl (lv_room (Nat.le_of_ble_eq_true rfl)) dX11_look_8 ⟨Nat.le_of_ble_eq_true rfl, Nat.le_of_ble_eq_true rfl⟩) (va_S.rf (A := fun q => s.heap.size ≤ q)) (fun q _ h => h) (fun q h => h) (fun r u t H1 locs1 ht hvm hw hB hz1 hk1 hS1 => ?_)
  have hP1 : va_P D vwCl (xcx b ρ sa dA 0 K) H1 := hP.kept (fun k q hq => hk1 q.1 ((hP k q hq).lt) (fun z => by
    have z1 : s.heap.size ≤ q.1 := z
    have z2 := (hP k q hq).lt
    omega))
  refine lv_if_ne (tgt := 24) C.1 C.2.1 dX11_look_11 (by decide) (fun h0 => absurd hw h0) (fun _ => ?_)
  have hAB : ∀ q, s.heap.size ≤ q → b ≤ q := fun q hq => by omega
  obtain ⟨hU, hN, hstr, hthr⟩ := hF.2.2.2.2.2.2.2
  exact vx_throwS C.1 C.2.1 hls (own := RX11) (cls := "java/lang/IndexOutOfBoundsException") (names := ["java/lang/RuntimeException", "java/lang/Exception"]) (ik := 149) (is := 151) (ic := 153) (A := fun q => s.heap.size ≤ q) C.2.2.1 (by decide +kernel) (by decide +kernel) (C.2.2.2 _ (xwm 1303 (by decide +kernel) (by decide +kernel))) (C.2.2.2 _ (xwm 139 (by decide +kernel) (by decide +kernel))) hstr (xat C.2.2.2 hthr) (by decide +kernel) (hU.narrow hAB) (hN.narrow hAB) hS1 (by rw [hml]; exact hl.1) dX11_look_14 dX11_look_17 dX11_look_18 dX11_look_20 dX11_look_23 (fun z hz => absurd hz (fun hz => htab z hz)) (by decide) (by decide) (Nat.le_of_ble_eq_true rfl) (Nat.le_of_ble_eq_true rfl) hlocks (fun t hv1 hz2 hk2 => ⟨(), trivial, ⟨rfl, hP1.kept (fun k q hq => hk2 q.1 ((hP1 k q hq).lt))⟩, by omega, fun q hq hn => (hk2 q (by omega)).trans (hk1 q hq hn)⟩) (fun z hz => hS1.2.2 z hz) (Nat.le_of_ble_eq_true rfl) (Nat.le_of_ble_eq_true rfl)
theorem xofWH {l : Launch} {y : MethodName} {ws ws' : List Cond} {rm : Room} {Pc : Array Value → State → Prop} {Qc : Array Value → State → Outcome → State → Prop} {mc ms : Nat} {free : Addr → Prop} {cc : ByteArray} {maxL : Nat} {ret : Option FieldType} {hh : List (Nat × Nat × Nat × Nat)}
    (hy : plainName y.cls = true) (hw : ws = Cond.codeWith y cc maxL ret hh :: ws')
    (body : ∀ p e s m args below meth c s₁, BodyLoose p l y (headSpec ws rm) cc maxL ret e s m args below meth c s₁ → c.maxLocals = maxL → c.exceptionTable.toList = tableOf hh → Pc args s →
      W p l e (headSpec ws rm).room s m args below meth c s.heap [] 0 0 (MQ below Qc args s mc ms free) (entryFrame m args maxL)) : Met l y ws rm Pc Qc mc ms free := by
  have hin : Cond.codeWith y cc maxL ret hh ∈ ws := by rw [hw]; exact List.mem_cons_self
  refine MetFree.of_bodyS (code := cc) (maxLocals := maxL) (ret := ret) hy ?_ ?_
  · intro args s m h hn
    obtain ⟨m9, meth, c, hn9, h1, h2, h3, h4, -, h5, h6, -⟩ := Cond.codeWith_spec (atoms_spec (ws := ws) h _ hin)
    cases Option.some.inj (hn9.symm.trans hn)
    exact ⟨meth, c, h1, h2, h3, h4, h5, h6⟩
  · intro p e s m args below meth c s₁ B hml hP _
    have hh0 : s₁.heap = s.heap := by rw [B.state]; rfl
    have ht := vx_table (p := p) (x := y) B (atoms_spec (ws := ws) B.pre _ hin)
    obtain ⟨t, a1, o, b1, b2, b3⟩ := body p e s m args below meth c s₁ B hml ht hP s₁ hh0 (Stand.of_body B)
    exact ⟨t, o, a1, b1, b2, ⟨b3.1, b3.2⟩⟩
abbrev xLW : List Cond := .codeWith yL_look cL_look 5 (some .int) [(0, 10, 13, 13), (0, 10, 17, 15)] :: xgt
theorem xlklaw (l : Launch) (hls : l.stackTraces = false) {b : Nat} {ρ : Nat → Int32} {sa : Nat → Nat} {dA : Nat → ClassId} {D : va_G} {K : xH} {i o h v : Nat} {fs gs rs : List xV} (hi : K[i]? = some (.inr (11, fs))) (hfs : fs[1]? = some (1, h)) (hh : K[h]? = some (.inr (4, gs))) (hgs : gs[1]? = some (1, v)) (hv : K[v]? = some (.inr (6, rs))) (hrs : rs[1]? = some (0, 0)) (x y : Int32) (sz : Nat) (hbz : b ≤ sz) :
    Met l yL_look xLW ({ frames := 20, cells := 1, slots := 20, locals := 200 }) (va_Pc [.ref (b + i), .int x, .int y, .ref (b + o)] (fun U => U.heap.size = sz ∧ va_P D vwCl (xcx b ρ sa dA 0 K) U.heap ∧ va_K D vwCl (xtys dA) U ∧ xFx b sa U)) (va_Qi (fun (r : Int32) (_ : Unit) => r = nI 1) (fun _ t => va_P D vwCl (xcx b ρ sa dA 0 K) t.heap) (fun q => sz ≤ q)) 1 20 (fun q => sz ≤ q) := by
  refine xofWH (cc := cL_look) (maxL := 5) (ret := some .int) (hh := [(0, 10, 13, 13), (0, 10, 17, 15)]) (by decide +kernel) rfl ?_
  intro p e s m args below meth c s₁ B hml htab hvv
  obtain ⟨rfl, hsz, hP, hK, hF⟩ := hvv
  subst hsz
  have hts := atoms_spec (ws := xLW) B.pre
  have C : xCx p s m ([Value.ref (b + i), Value.int x, Value.int y, Value.ref (b + o)] : List Value).toArray c cL_look RL := ⟨B.exec, B.bytes, findClass_of_methodNamed B.named, fun w hw => hts w (List.mem_cons_of_mem _ hw)⟩
  have hr := B.returns
  have hlocks := B.notSynchronized
  have hl := lv_entry ([.ref (b + i), .int x, .int y, .ref (b + o)]) (n := 5) (Nat.le_of_ble_eq_true rfl)
  rw [lg_entry_eq]
  generalize (lg_sl ([.ref (b + i), .int x, .int y, .ref (b + o)]) ++ List.replicate (5 - (lg_sl ([.ref (b + i), .int x, .int y, .ref (b + o)])).length) Slot.unset).toArray = ls at hl ⊢
  have hl : lv_has ls 5 [(0, .ref (b + i)), (1, .int x), (2, .int y), (3, .ref (b + o))] := hl
  refine lv_aload_n C.1 C.2.1 dL_look_0 rfl (lv_at hl 3 rfl) ?_
  refine lv_iconst (v := 0) C.1 C.2.1 dL_look_1 (by decide +kernel) ?_
  refine lv_aload_n C.1 C.2.1 dL_look_2 rfl (lv_at hl 0 rfl) ?_
  refine lv_iload_n C.1 C.2.1 dL_look_3 rfl (lv_at hl 1 rfl) ?_
  refine lv_iload_n C.1 C.2.1 dL_look_4 rfl (lv_at hl 2 rfl) ?_
  have hrc := va_recv hK hP (show vwCl[11]? = some (RX11, TX11, 15) from rfl) (xcx_at hi)
  have hG : ∀ w ∈ (Cond.code yX11_look cX11_look 3 (some .int) :: xgt), w ∈ xgt := fun w hw => by
    rcases List.mem_cons.mp hw with rfl | hw
    · exact (xwm 1302 (by decide +kernel) (by decide +kernel))
    · exact hw
  refine vx_calli (vx_runV (As := [.int x, .int y]) (rest := [.int 0, .ref (b + o)]) (n := 2) (bytes := cX11_look) (maxL := 3) (ret := some .int) (C := RX11) ⟨C.1, C.2.1, hml, C.2.2.1, C.2.2.2⟩ (xlook l hls hi hfs hh hgs hv hrs x y s.heap.size hbz) ⟨callB_of (ws' := xgt) 2 C.2.2.2 (xgt_in' hG) rfl rfl rfl (C.2.2.2 _ (xwm 116 (by decide +kernel) (by decide +kernel))) (C.2.2.2 _ (xwm 1299 (by decide +kernel) (by decide +kernel))) ⟨by decide, by decide, by decide +kernel⟩ ⟨Nat.le_of_ble_eq_true rfl, Nat.le_of_ble_eq_true rfl⟩, C.2.2.2 _ (xwm 1300 (by decide +kernel) (by decide +kernel)), C.2.2.2 _ (xwm 1301 (by decide +kernel) (by decide +kernel))⟩ ⟨fun a U g mk q => by obtain ⟨q0, q1, qP, qK, qF⟩ := q; exact ⟨q0, q1, qP, va_K.moved (u := U) (U := U.calling g mk a) (Vm.Alike.refl U.vm) qK, xFx_warm qF (State.WarmedH.refl U) (fun _ _ => rfl)⟩, hrc, fun U hU hW => ⟨rfl, by rw [hU], by rw [hU]; exact hP, va_K.moved hW.alike hK, xFx_warm hF hW (fun q _ => by rw [hU])⟩⟩ rfl rfl hl.1 rfl (lv_room (Nat.le_of_ble_eq_true rfl)) dL_look_5 ⟨Nat.le_of_ble_eq_true rfl, Nat.le_of_ble_eq_true rfl⟩) (va_S.rf (A := fun q => s.heap.size ≤ q)) (fun q _ h => h) (fun q h => h) (fun q _ h => h) ?_ (fun r u t H1 locs1 ht hvm hw hB hz1 hk1 hS1 => absurd hw id)
  intro E ce q9 u t H1 locs1 ht hvm _ hB hz1 hk1 hS1 hce hcv hcl
  obtain ⟨rfl, hP1⟩ := hB
  rw [ht] at hP1
  have hcast : (Cond.castable "java/lang/IndexOutOfBoundsException" "java/lang/IndexOutOfBoundsException").before ([Value.ref (b + i), Value.int x, Value.int y, Value.ref (b + o)] : List Value).toArray s = true := va_Nw.use rfl (hF.2.2.2.2.2.2.2.2.2.2 _ (by decide +kernel))
  refine vx_catch C.2.2.1 [] ⟨0, 10, 13, 13⟩ [⟨0, 10, 17, 15⟩] (by rw [htab]; rfl) (fun z hz => by cases hz) (by decide) (by decide) (C.2.2.2 _ (xwm 1297 (by decide +kernel) (by decide +kernel))) hcast hce hcv hcl ?_
  refine lv_astore (lv' := [(4, .ref q9), (0, .ref (b + i)), (1, .int x), (2, .int y), (3, .ref (b + o))]) C.1 C.2.1 dL_look_13 hl (by decide) rfl (fun ls hl => ?_)
  refine lv_iconst (v := 1) C.1 C.2.1 dL_look_15 (by decide +kernel) ?_
  refine W.widen (k := 1) (n := 20) (by decide) (by decide) ?_
  exact W.iret (v := 1) C.1 C.2.1 hr (fun t2 ht2 _ => ⟨⟨1, (), rfl, rfl, by show va_P D vwCl (xcx b ρ sa dA 0 K) t2.heap; rw [ht2]; exact hP1⟩, hS1.F ht2⟩) hS1.2.2 dL_look_16 hlocks
theorem dLk_370 : decode cL_law 370 = .ok (.invokestatic 39, 3) := by decide +kernel
theorem xlkb_ok {K : xH} {i : Nat} (hk : xlkb K i = true) : ∃ (fs gs rs : List xV) (h v : Nat), K[i]? = some (.inr (11, fs)) ∧ fs[1]? = some (1, h) ∧ K[h]? = some (.inr (4, gs)) ∧ gs[1]? = some (1, v) ∧ K[v]? = some (.inr (6, rs)) ∧ rs[1]? = some (0, 0) := by
  simp only [xlkb] at hk
  split at hk
  · next fs h1 =>
    split at hk
    · next h h2 =>
      split at hk
      · next gs h3 =>
        split at hk
        · next v h4 =>
          split at hk
          · next rs h5 =>
            split at hk
            · next h6 => exact ⟨fs, gs, rs, h, v, xob_ok h1, xfr_ok h2, xob_ok h3, xfr_ok h4, xob_ok h5, h6⟩
            · cases hk
          · cases hk
        · cases hk
      · cases hk
    · cases hk
  · cases hk
theorem xr_lklaw : xLk cL_law RL 370 373 := by
  intro p l e R s m args below meth c H locs cells slots Q ls rest C hls b ρ sa dA D K A i o x y hbs hK hF hml hP hS hAb hA hA0 hk hrest hce hsl hfr hlo kk
  obtain ⟨fs, gs, rs, h, v, g1, g2, g3, g4, g5, g6⟩ := xlkb_ok hk
  have hbH : b ≤ H.size := Nat.le_trans hbs hS.1
  have hG : ∀ w ∈ va_wsS RL 39 yL_look xLW, w ∈ xgt := fun w hw => by
    rcases List.mem_append.mp hw with hw | hw
    · simp only [List.mem_cons, List.not_mem_nil, or_false] at hw
      rcases hw with rfl | rfl | rfl
      · exact (xwm 1294 (by decide +kernel) (by decide +kernel))
      · exact (xwm 1295 (by decide +kernel) (by decide +kernel))
      · exact (xwm 115 (by decide +kernel) (by decide +kernel))
    · rcases List.mem_cons.mp hw with rfl | hw
      · exact (xwm 1296 (by decide +kernel) (by decide +kernel))
      · exact hw
  have hFm : ∀ U : State, U.heap = H → s.WarmedH U.vm → xFx b sa U := fun U hU hW => xFx_warm hF hW (fun q hq => by
    rw [hU]
    exact hS.2.1 q (by omega) (fun z => by have := hAb q z; omega))
  refine va_calli (vx_runSW (As := [.ref (b + i), .int x, .int y, .ref (b + o)]) (rest := rest) (nL := ls.size) (n := 4) (index := 39) ⟨C.1, C.2.1, hml, C.2.2.1, C.2.2.2⟩ (xlklaw l hls (o := o) g1 g2 g3 g4 g5 g6 x y H.size hbH) (vx_cwSW 4 C.2.2.2 (xgt_in' hG) rfl rfl rfl ⟨by decide, by decide, by decide +kernel⟩ ⟨by show 20 + 1 ≤ _; omega, by show 8 + (5 + 11) + 200 ≤ _; omega⟩) ⟨fun a U g mk q => by obtain ⟨q0, q1, qP, qK, qF⟩ := q; exact ⟨q0, q1, qP, va_K.moved (u := U) (U := U.calling g mk a) (Vm.Alike.refl U.vm) qK, xFx_warm qF (State.WarmedH.refl U) (fun _ _ => rfl)⟩, fun U hU hW => ⟨rfl, by rw [hU], by rw [hU]; exact hP, va_K.moved hW.alike hK, hFm U hU hW⟩⟩ rfl rfl rfl rfl (lv_room hrest) dLk_370 ⟨hce, hsl⟩) hS (fun q hq h => absurd hq (Nat.not_lt.mpr h)) (fun q h => hA q (Nat.le_trans hS.1 h)) (fun r u t H1 locs1 ht hvm hw hB hz1 hk1 hS1 => ?_)
  rw [hw]
  exact kk H1 locs1 (by rw [← ht]; exact hB) hS1
