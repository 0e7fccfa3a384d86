section
section XF
variable {al : Bool} {b : Nat} {ρ : Nat → Int32} {sa : Nat → Nat} {dA : Nat → ClassId} {D : va_G} {l : Launch} {EX : State → Prop} {mt : List xM} {ds : xD}
/-- a method's contract out of the run of its body -/
theorem xMet_of {M : xM} (hM : xMok mt M) {avs : List xV} {K : xH} {κ : xK} {Lc : List xR} (hs : xsum avs ≤ xMl M) (hκ : xKok ρ κ) {sz : Nat} (hb : b ≤ sz)
    (hrun : ∀ (p : Program) (e : Env) (s : State) (m : MethodId) (args : Array Value) (below : List Frame) (meth : Method) (c : Code) (A : Nat → Prop) (Qc : Array Value → State → Outcome → State → Prop), xCtx b dA D M p s m args meth c A EX → xGood al b ρ sa dA D M p l e s m args below meth c A Qc 0 (xargs 0 avs) [] K 0 0 κ Lc) : xMet al b ρ sa dA D EX l M avs K Lc sz := by
  refine Met.ofW (cc := xMc M) (maxL := xMl M) (ret := xMr M) hM.2.2.2.1 rfl ?_
  intro p e s m args below meth c s₁ B hml hv
  obtain ⟨rfl, hsz, hP, hK, hz, hEX⟩ := hv
  subst hsz
  have hts := atoms_spec (ws := xWs M) B.pre
  have hown : s.vm.findClass (xMy M).cls = some m.cls := findClass_of_methodNamed B.named
  have hC : xCtx b dA D M p s m (avs.map (xdv b ρ sa)).toArray meth c (xA b K.length s.heap.size) EX :=
    ⟨⟨B.exec, B.bytes, by rw [hM.2.2.2.2.1]; exact hown, fun w hw => hts w (List.mem_cons_of_mem _ hw)⟩, hml, hK, fun q h => Or.inr h, fun q h => by
      rcases h with h | h
      · exact h.1
      · omega, B.returns, B.notSynchronized, (fun h => (name_of_methodNamed B.named B.method).1.trans h), hEX, hb⟩
  have hl := lv_entry (avs.map (xdv b ρ sa)) (n := xMl M) (by rw [xlen_ok]; exact hs)
  rw [xargs_ok] at hl
  rw [lg_entry_eq]
  exact hrun p e s m _ below meth c _ _ hC _ [] _ hl hP va_S.rf hz (fun i hi => Or.inl ⟨by omega, by omega⟩) hκ (fun lf hlf k1 t k2 k3 k4 k5 => ⟨lf, hlf, k1, rfl, k2, k3, k4, k5⟩)
theorem xe_ok (hls : l.stackTraces = false) (hE : xEok b sa EX) (hds : xdok ρ ds) (hsc : ∀ s : State, EX s → ∀ L : Nat, xSc ds = some L → va_X (sa 50) L (fun n => ρ (n + 1)) s s.heap ∧ sa 50 < b) (hmt : ∀ (mi : Nat) (M' : xM), mt[mi]? = some M' → xMok mt M') : ∀ (n : Nat) (mi : Nat) (M : xM), mt[mi]? = some M → ∀ (p : Program) (e : Env) (s : State) (m : MethodId) (args : Array Value) (below : List Frame) (meth : Method) (c : Code) (A : Nat → Prop) (Qc : Array Value → State → Outcome → State → Prop), xCtx b dA D M p s m args meth c A EX → xSnd al b ρ sa dA D M p l e s m args below meth c A Qc (xe mt ds al n M) := by
  intro n
  induction n with
  | zero =>
    intro mi M hmi p e s m args below meth c A Qc hC pc lv st K ce sl κ Ls h
    cases h
  | succ n ih =>
    intro mi M hmi p e s m args below meth c A Qc hC pc lv st K ce sl κ Ls h
    rw [xe_succ] at h
    simp only [xgo] at h
    split at h
    · cases h
    · next op hop =>
      refine xstep_ok hls hC hE hds hsc hmt (ih mi M hmi p e s m args below meth c A Qc hC) (fun mi' M' avs K κ Lc hmi' hc hs hκ sz hb => ?_) (hmt mi M hmi).2.2.2.2.2 ((hmt mi M hmi).2.2.2.2.2 _ (xfind_mem hop)) h
      exact xMet_of (hmt mi' M' hmi') hs hκ hb (fun p e s m args below meth c A Qc hC => ih mi' M' hmi' p e s m args below meth c A Qc hC _ _ _ _ _ _ _ _ hc)
/-- THE CONTRACT of a method, by a run of it -/
theorem xmet (hls : l.stackTraces = false) (hE : xEok b sa EX) (hds : xdok ρ ds) (hsc : ∀ s : State, EX s → ∀ L : Nat, xSc ds = some L → va_X (sa 50) L (fun n => ρ (n + 1)) s s.heap ∧ sa 50 < b) (hmt : ∀ (mi : Nat) (M' : xM), mt[mi]? = some M' → xMok mt M') {n mi : Nat} {M : xM} (hmi : mt[mi]? = some M) {avs : List xV} {K : xH} {κ : xK} {Lc : List xR} (h : xe mt ds al n M 0 (xargs 0 avs) [] K 0 0 κ = some Lc) (hs : xsum avs ≤ xMl M) (hκ : xKok ρ κ) {sz : Nat} (hb : b ≤ sz) : xMet al b ρ sa dA D EX l M avs K Lc sz :=
  xMet_of (hmt mi M hmi) hs hκ hb (fun p e s m args below meth c A Qc hC => xe_ok hls hE hds hsc hmt n mi M hmi p e s m args below meth c A Qc hC _ _ _ _ _ _ _ _ h)
/-- the run of ONE frame, its callees with N steps; where it knows no instruction it asks stp -/
noncomputable def xeT (mt : List xM) (ds : xD) (al : Bool) (N : Nat) (M : xM) (stp : xRec) (n : Nat) : xRec := Nat.rec (fun _ _ _ _ _ _ _ => none) (fun _ ih pc lv st K ce sl κ => match xfind (xMk M) pc with
  | none => stp pc lv st K ce sl κ
  | some op => xstep mt ds al M ih (fun M' avs K' κ' => xe mt ds al N M' 0 (xargs 0 avs) [] K' 0 0 κ') op lv st K ce sl κ) n
theorem xeT_ok (hls : l.stackTraces = false) (hE : xEok b sa EX) (hds : xdok ρ ds) (hsc : ∀ s : State, EX s → ∀ L : Nat, xSc ds = some L → va_X (sa 50) L (fun n => ρ (n + 1)) s s.heap ∧ sa 50 < b) (hmt : ∀ (mi : Nat) (M' : xM), mt[mi]? = some M' → xMok mt M') {M : xM} (hM : ∀ q ∈ xMk M, xok mt M q.1 q.2) {N : Nat} {stp : xRec} {p : Program} {e : Env} {s : State} {m : MethodId} {args : Array Value} {below : List Frame} {meth : Method} {c : Code} {A : Nat → Prop} {Qc : Array Value → State → Outcome → State → Prop} (hC : xCtx b dA D M p s m args meth c A EX) (hst : xSnd al b ρ sa dA D M p l e s m args below meth c A Qc stp) :
    ∀ n : Nat, xSnd al b ρ sa dA D M p l e s m args below meth c A Qc (xeT mt ds al N M stp n) := by
  intro n
  induction n with
  | zero =>
    intro pc lv st K ce sl κ Ls h
    cases h
  | succ n ih =>
    intro pc lv st K ce sl κ Ls h
    change (match xfind (xMk M) pc with
      | none => stp pc lv st K ce sl κ
      | some op => xstep mt ds al M (xeT mt ds al N M stp n) (fun M' avs K' κ' => xe mt ds al N M' 0 (xargs 0 avs) [] K' 0 0 κ') op lv st K ce sl κ) = some Ls at h
    split at h
    · exact hst _ _ _ _ _ _ _ _ h
    · next op hop =>
      refine xstep_ok hls hC hE hds hsc hmt ih (fun mi' M' avs K κ Lc hmi' hc hs hκ sz hb => ?_) hM (hM _ (xfind_mem hop)) h
      exact xMet_of (hmt mi' M' hmi') hs hκ hb (fun p e s m args below meth c A Qc hC => xe_ok hls hE hds hsc hmt N mi' M' hmi' p e s m args below meth c A Qc hC _ _ _ _ _ _ _ _ hc)
end XF
end
section
theorem W.mono {p : Program} {l : Launch} {e : Env} {R : Room} {s : State} {m : MethodId} {args : Array Value} {below : List Frame} {meth : Method} {c : Code} {H : Heap} {locs : List Loc} {cells slots : Nat} {Q Q' : State → Prop} {g : JFrame} (h : W p l e R s m args below meth c H locs cells slots Q g) (hq : ∀ t, Q t → Q' t) : W p l e R s m args below meth c H locs cells slots Q' g := by
  intro T hT X
  obtain ⟨t, a, b⟩ := h T hT X
  exact ⟨t, a, hq t b⟩
theorem xnw_warm {s U : State} (hW : s.WarmedH U.vm) (h : ∀ w ∈ xnw, va_Nw w s) : ∀ w ∈ xnw, va_Nw w U := by
  intro w hw
  have hs := h w hw
  simp only [xnw, List.mem_cons, List.not_mem_nil, or_false] at hw
  rcases hw with rfl | rfl | rfl | rfl | rfl | rfl | rfl <;> exact va_Nw.warmM hW hs
theorem xao_warm {s U : State} (hW : s.WarmedH U.vm) (h : va_Nw (.arrayOver (.array .int)) s) : va_Nw (.arrayOver (.array .int)) U := by
  have h1 : (Cond.arrayOver (.array .int)).before #[] (s.setVm U.vm) = true := by
    rw [Cond.arrayOver_setVmC hW.alike]
    exact h
  exact h1
def xcd (w : Cond) : Bool := match w with
  | .castable _ _ => true
  | .declares _ => true
  | _ => false
theorem xthr_kind : xthr.all xcd = true := by decide +kernel
theorem xthr_warm {s U : State} (hW : s.WarmedH U.vm) (h : ∀ w ∈ xthr, va_Nw w s) : ∀ w ∈ xthr, va_Nw w U := by
  intro w hw
  have hk := List.all_eq_true.mp xthr_kind w hw
  have hs := h w hw
  cases w <;> first | exact va_Nw.warmC hW hs | exact va_Nw.warmD hW hs | cases hk
theorem xthr2_kind : xthr2.all xcd = true := by decide +kernel
theorem xthr2_warm {s U : State} (hW : s.WarmedH U.vm) (h : ∀ w ∈ xthr2, va_Nw w s) : ∀ w ∈ xthr2, va_Nw w U := by
  intro w hw
  have hk := List.all_eq_true.mp xthr2_kind w hw
  have hs := h w hw
  cases w <;> first | exact va_Nw.warmC hW hs | exact va_Nw.warmD hW hs | cases hk
theorem xkeep {b : Nat} {s U : State} (hq : ∀ q, q < b → U.heap[q]? = s.heap[q]?) : ∀ a : Nat, a < s.heap.size → ¬ (fun q => b ≤ q) a → U.heap[a]? = s.heap[a]? := fun a _ h => hq a (by
  have : ¬ b ≤ a := h
  omega)
theorem xFx_warm {b : Nat} {sa : Nat → Nat} {s U : State} (h : xFx b sa s) (hW : s.WarmedH U.vm) (hq : ∀ q, q < b → U.heap[q]? = s.heap[q]?) : xFx b sa U := by
  obtain ⟨h1, h2, h3, h4, h5, h6, h7, h8, h9, h10, h11, h12, h13, h14⟩ := h
  refine ⟨xnw_warm hW h1, xao_warm hW h2, fun k hk => ?_, vk_R.warm hW h4, vk_R.warm hW h5, (va_Z.moved hW.alike h6).kept (xkeep hq), (va_Z.moved hW.alike h7).kept (xkeep hq), (vx_Zq.moved hW.alike h8).kept (xkeep hq), (vx_Zq.moved hW.alike h9).kept (xkeep hq), vk_R.warm hW h10, xthr_warm hW h11, vk_R.warm hW h12, vk_R.warm hW h13, xthr2_warm hW h14⟩
  obtain ⟨g1, g2, g3, g4⟩ := h3 k hk
  exact ⟨(va_O.moved hW.alike g1).kept (xkeep hq), (va_OF.moved hW.alike g2).kept (xkeep hq), (va_OF.moved hW.alike g3).kept (xkeep hq), (va_T.moved hW.alike g4).kept (xkeep hq)⟩
end
section
/-- what the law's start gives -/
theorem xclasses {args : Array Value} {s : State} (hts : ∀ w ∈ lw_tbl, w.before args s = true) : ∃ (dC : Nat → ClassId) (dI : Nat → Nat → Nat), ∀ (k : Nat) (q : vw_C), vwCl[k]? = some q → u_Kn s q.1 q.2.1 q.2.2 (dC k) (dI k) := by
  obtain ⟨c0, i0, h0⟩ := u_known (C := RX0) (T := TX0) (N := 10) (n := 10) hts (fun w h => xgt_in w (xin_X0 w h)) (hts (.instantiable RX0 10) (xgt_in _ (wm_3 24 rfl rfl)))
  obtain ⟨c1, i1, h1⟩ := u_known (C := RX1) (T := TX1) (N := 11) (n := 11) hts (fun w h => xgt_in w (xin_X1 w h)) (hts (.instantiable RX1 11) (xgt_in _ (wm_2 192 rfl rfl)))
  obtain ⟨c2, i2, h2⟩ := u_known (C := RX2) (T := TX2) (N := 10) (n := 10) hts (fun w h => xgt_in w (xin_X2 w h)) (hts (.instantiable RX2 10) (xgt_in _ (wm_1 64 rfl rfl)))
  obtain ⟨c3, i3, h3⟩ := u_known (C := RX3) (T := TX3) (N := 2) (n := 2) hts (fun w h => xgt_in w (xin_X3 w h)) (hts (.instantiable RX3 2) (xgt_in _ (wm_2 152 rfl rfl)))
  obtain ⟨c4, i4, h4⟩ := u_known (C := RX4) (T := TX4) (N := 19) (n := 19) hts (fun w h => xgt_in w (xin_X4 w h)) (hts (.instantiable RX4 19) (xgt_in _ (wm_1 37 rfl rfl)))
  obtain ⟨c5, i5, h5⟩ := u_known (C := RX5) (T := TX5) (N := 6) (n := 6) hts (fun w h => xgt_in w (xin_X5 w h)) (hts (.instantiable RX5 6) (xgt_in _ (wm_2 166 rfl rfl)))
  obtain ⟨c6, i6, h6⟩ := u_known (C := RX6) (T := TX6) (N := 2) (n := 2) hts (fun w h => xgt_in w (xin_X6 w h)) (hts (.instantiable RX6 2) (xgt_in _ (wm_1 43 rfl rfl)))
  obtain ⟨c7, i7, h7⟩ := u_known (C := RX7) (T := TX7) (N := 6) (n := 6) hts (fun w h => xgt_in w (xin_X7 w h)) (hts (.instantiable RX7 6) (xgt_in _ (wm_2 236 rfl rfl)))
  obtain ⟨c8, i8, h8⟩ := u_known (C := RX8) (T := TX8) (N := 4) (n := 4) hts (fun w h => xgt_in w (xin_X8 w h)) (hts (.instantiable RX8 4) (xgt_in _ (wm_1 216 rfl rfl)))
  obtain ⟨c9, i9, h9⟩ := u_known (C := RX9) (T := TX9) (N := 9) (n := 9) hts (fun w h => xgt_in w (xin_X9 w h)) (hts (.instantiable RX9 9) (xgt_in _ (wm_1 218 rfl rfl)))
  obtain ⟨c10, i10, h10⟩ := u_known (C := RX10) (T := TX10) (N := 13) (n := 13) hts (fun w h => xgt_in w (xin_X10 w h)) (hts (.instantiable RX10 13) (xgt_in _ (wm_2 90 rfl rfl)))
  obtain ⟨c11, i11, h11⟩ := u_known (C := RX11) (T := TX11) (N := 15) (n := 15) hts (fun w h => xgt_in w (xin_X11 w h)) (hts (.instantiable RX11 15) (xgt_in _ (wm_1 29 rfl rfl)))
  obtain ⟨c12, i12, h12⟩ := u_known (C := RX12) (T := TX12) (N := 69) (n := 69) hts (fun w h => xgt_in w (xin_X12 w h)) (hts (.instantiable RX12 69) (xgt_in _ (wm_6 71 rfl rfl)))
  refine ⟨fun k => if k = 0 then c0 else if k = 1 then c1 else if k = 2 then c2 else if k = 3 then c3 else if k = 4 then c4 else if k = 5 then c5 else if k = 6 then c6 else if k = 7 then c7 else if k = 8 then c8 else if k = 9 then c9 else if k = 10 then c10 else if k = 11 then c11 else c12, fun k => if k = 0 then i0 else if k = 1 then i1 else if k = 2 then i2 else if k = 3 then i3 else if k = 4 then i4 else if k = 5 then i5 else if k = 6 then i6 else if k = 7 then i7 else if k = 8 then i8 else if k = 9 then i9 else if k = 10 then i10 else if k = 11 then i11 else i12, ?_⟩
  intro k q hq
  match k, hq with
  | 0, hq => cases hq; exact h0
  | 1, hq => cases hq; exact h1
  | 2, hq => cases hq; exact h2
  | 3, hq => cases hq; exact h3
  | 4, hq => cases hq; exact h4
  | 5, hq => cases hq; exact h5
  | 6, hq => cases hq; exact h6
  | 7, hq => cases hq; exact h7
  | 8, hq => cases hq; exact h8
  | 9, hq => cases hq; exact h9
  | 10, hq => cases hq; exact h10
  | 11, hq => cases hq; exact h11
  | 12, hq => cases hq; exact h12
  | k + 13, hq => simp [vwCl] at hq
theorem xarrT {args : Array Value} {s : State} {ty : FieldType} (h : (Cond.arrayClass ty).before args s = true) : ∃ cA : ClassId, ArrOfT s cA ty ∧ s.vm.findClass ("[" ++ ty.toString) = some cA := by
  obtain ⟨cA, k, comp, h1, h2, h3⟩ := Cond.arrayClass_spec h
  exact ⟨cA, fun n z => ⟨(fun q hq => by cases hq), k, h2, comp, h3⟩, h1⟩
theorem xarrA {args : Array Value} {s : State} (h : (Cond.arrayOver (.array .int)).before args s = true) : ∃ cA : ClassId, ArrOfT s cA (.array .int) ∧ s.vm.findClass ("[" ++ (FieldType.array .int).toString) = some cA := by
  obtain ⟨comp, cA, k, h1, h2, h3, h4⟩ := Cond.arrayOver_specA h
  exact ⟨cA, fun n z => ⟨(fun q hq => by cases hq), k, h2, comp, h3⟩, h4⟩
theorem xworld {args : Array Value} {s : State} (hts : ∀ w ∈ lw_tbl, w.before args s = true) : ∃ (D : va_G) (dA : Nat → ClassId), va_K D vwCl (xtys dA) s := by
  obtain ⟨dC, dI, hK⟩ := xclasses hts
  obtain ⟨a0, g0, f0⟩ := xarrT (hts (.arrayClass .int) (by decide +kernel))
  obtain ⟨a1, g1, f1⟩ := xarrT (hts (.arrayClass .byte) (by decide +kernel))
  obtain ⟨a2, g2, f2⟩ := xarrT (hts (.arrayClass .long) (by decide +kernel))
  obtain ⟨a3, g3, f3⟩ := xarrT (hts (.arrayClass .boolean) (by decide +kernel))
  obtain ⟨a4, g4, f4⟩ := xarrA (hts (.arrayOver (.array .int)) (by decide +kernel))
  refine ⟨(dC, dI), fun k => if k = 0 then a0 else if k = 1 then a1 else if k = 2 then a2 else if k = 3 then a3 else a4, hK, fun k q hq => ?_⟩
  match k, hq with
  | 0, hq => cases hq; exact ⟨g0, f0⟩
  | 1, hq => cases hq; exact ⟨g1, f1⟩
  | 2, hq => cases hq; exact ⟨g2, f2⟩
  | 3, hq => cases hq; exact ⟨g3, f3⟩
  | 4, hq => cases hq; exact ⟨g4, f4⟩
  | k + 5, hq => simp [xtys] at hq
theorem xgetm (l : List Nat) (j : Nat) : (l.map nI).getD j 0 = nI (l.getD j 0) := by
  rw [List.getD_eq_getElem?_getD, List.getD_eq_getElem?_getD, List.getElem?_map]
  cases l[j]? <;> rfl
end
section
theorem xtext0 {args : Array Value} {s : State} (hgv : (Jvm.Cond.and given_1 narrow_1).before args s = true) : ∃ a v : Nat, (Term.string RX9 41).eval args s none [] s = some (.ref a) ∧ va_O "java/lang/String" a (fun q => s.heap.size ≤ q) s s.heap ∧ va_OF "java/lang/String" "coder" "B" (.int 0) a (fun q => s.heap.size ≤ q) s s.heap ∧ va_OF "java/lang/String" "value" "[B" (.ref v) a (fun q => s.heap.size ≤ q) s s.heap ∧ va_T .byte v (xlen.getD 0 0) (fun j => .int (nI ((xbyt.getD 0 []).getD j 0))) (fun q => s.heap.size ≤ q) s s.heap := by
  have hs := flat_of_before _ hgv
  have hm0 : ((flatC (Jvm.Cond.and given_1 narrow_1)).drop 43).take 68 = (List.range 68).map (fun j => Cond.eq (.elem (.field (Term.string RX9 41) "java/lang/String" "value" "[B") (.int (Int32.ofNat j))) (.int (((xbyt.getD 0 []).map nI).getD j 0))) := by decide +kernel
  have hm : ∀ j, j < 68 → Cond.eq (.elem (.field (Term.string RX9 41) "java/lang/String" "value" "[B") (.int (Int32.ofNat j))) (.int (((xbyt.getD 0 []).map nI).getD j 0)) ∈ flatC (Jvm.Cond.and given_1 narrow_1) := fun j hj => List.mem_of_mem_drop (List.mem_of_mem_take (by rw [hm0]; exact List.mem_map.mpr ⟨j, List.mem_range.mpr hj, rfl⟩))
  obtain ⟨aK, aV, hk, he⟩ := vk_Sof (args := args) (s := s) (N := 1) (tm := fun _ => Term.string RX9 41) (len := [68]) (byt := [(xbyt.getD 0 []).map nI]) (A := fun q => s.heap.size ≤ q)
    (fun i hi => by rw [show i = 0 by omega]; decide) (fun i hi => hs _ (by decide +kernel)) (fun i hi => hs _ (by decide +kernel)) (fun i hi => hs _ (by decide +kernel)) (fun i hi => by rw [show i = 0 by omega]; exact hs _ (by decide +kernel)) (fun i hi j hj => by
      have e : i = 0 := by omega
      subst e
      exact hs _ (hm j hj)) (fun i j hi hj hne => absurd (show i = j by omega) hne) (fun a ha => by show ¬ s.heap.size ≤ a; omega)
  obtain ⟨h1, h2, h3, h4⟩ := hk.1 0 (by omega)
  refine ⟨aK 0, aV 0, he 0 (by omega), h1, h2, h3, ?_⟩
  have e2 : (fun j => Value.int ((([(xbyt.getD 0 []).map nI] : List (List Int32)).getD 0 []).getD j 0)) = fun j => Value.int (nI ((xbyt.getD 0 []).getD j 0)) := funext fun j => congrArg Value.int (xgetm _ j)
  rw [e2] at h4
  exact h4
theorem xtext1 {args : Array Value} {s : State} (hgv : (Jvm.Cond.and given_1 narrow_1).before args s = true) : ∃ a v : Nat, (Term.string RX9 47).eval args s none [] s = some (.ref a) ∧ va_O "java/lang/String" a (fun q => s.heap.size ≤ q) s s.heap ∧ va_OF "java/lang/String" "coder" "B" (.int 0) a (fun q => s.heap.size ≤ q) s s.heap ∧ va_OF "java/lang/String" "value" "[B" (.ref v) a (fun q => s.heap.size ≤ q) s s.heap ∧ va_T .byte v (xlen.getD 1 0) (fun j => .int (nI ((xbyt.getD 1 []).getD j 0))) (fun q => s.heap.size ≤ q) s s.heap := by
  have hs := flat_of_before _ hgv
  have hm0 : ((flatC (Jvm.Cond.and given_1 narrow_1)).drop 115).take 48 = (List.range 48).map (fun j => Cond.eq (.elem (.field (Term.string RX9 47) "java/lang/String" "value" "[B") (.int (Int32.ofNat j))) (.int (((xbyt.getD 1 []).map nI).getD j 0))) := by decide +kernel
  have hm : ∀ j, j < 48 → Cond.eq (.elem (.field (Term.string RX9 47) "java/lang/String" "value" "[B") (.int (Int32.ofNat j))) (.int (((xbyt.getD 1 []).map nI).getD j 0)) ∈ flatC (Jvm.Cond.and given_1 narrow_1) := fun j hj => List.mem_of_mem_drop (List.mem_of_mem_take (by rw [hm0]; exact List.mem_map.mpr ⟨j, List.mem_range.mpr hj, rfl⟩))
  obtain ⟨aK, aV, hk, he⟩ := vk_Sof (args := args) (s := s) (N := 1) (tm := fun _ => Term.string RX9 47) (len := [48]) (byt := [(xbyt.getD 1 []).map nI]) (A := fun q => s.heap.size ≤ q)
    (fun i hi => by rw [show i = 0 by omega]; decide) (fun i hi => hs _ (by decide +kernel)) (fun i hi => hs _ (by decide +kernel)) (fun i hi => hs _ (by decide +kernel)) (fun i hi => by rw [show i = 0 by omega]; exact hs _ (by decide +kernel)) (fun i hi j hj => by
      have e : i = 0 := by omega
      subst e
      exact hs _ (hm j hj)) (fun i j hi hj hne => absurd (show i = j by omega) hne) (fun a ha => by show ¬ s.heap.size ≤ a; omega)
  obtain ⟨h1, h2, h3, h4⟩ := hk.1 0 (by omega)
  refine ⟨aK 0, aV 0, he 0 (by omega), h1, h2, h3, ?_⟩
  have e2 : (fun j => Value.int ((([(xbyt.getD 1 []).map nI] : List (List Int32)).getD 0 []).getD j 0)) = fun j => Value.int (nI ((xbyt.getD 1 []).getD j 0)) := funext fun j => congrArg Value.int (xgetm _ j)
  rw [e2] at h4
  exact h4
theorem xtext2 {args : Array Value} {s : State} (hgv : (Jvm.Cond.and given_1 narrow_1).before args s = true) : ∃ a v : Nat, (Term.string RX12 206).eval args s none [] s = some (.ref a) ∧ va_O "java/lang/String" a (fun q => s.heap.size ≤ q) s s.heap ∧ va_OF "java/lang/String" "coder" "B" (.int 0) a (fun q => s.heap.size ≤ q) s s.heap ∧ va_OF "java/lang/String" "value" "[B" (.ref v) a (fun q => s.heap.size ≤ q) s s.heap ∧ va_T .byte v (xlen.getD 2 0) (fun j => .int (nI ((xbyt.getD 2 []).getD j 0))) (fun q => s.heap.size ≤ q) s s.heap := by
  have hs := flat_of_before _ hgv
  have hm0 : ((flatC (Jvm.Cond.and given_1 narrow_1)).drop 206).take 118 = (List.range 118).map (fun j => Cond.eq (.elem (.field (Term.string RX12 206) "java/lang/String" "value" "[B") (.int (Int32.ofNat j))) (.int (((xbyt.getD 2 []).map nI).getD j 0))) := by decide +kernel
  have hm : ∀ j, j < 118 → Cond.eq (.elem (.field (Term.string RX12 206) "java/lang/String" "value" "[B") (.int (Int32.ofNat j))) (.int (((xbyt.getD 2 []).map nI).getD j 0)) ∈ flatC (Jvm.Cond.and given_1 narrow_1) := fun j hj => List.mem_of_mem_drop (List.mem_of_mem_take (by rw [hm0]; exact List.mem_map.mpr ⟨j, List.mem_range.mpr hj, rfl⟩))
  obtain ⟨aK, aV, hk, he⟩ := vk_Sof (args := args) (s := s) (N := 1) (tm := fun _ => Term.string RX12 206) (len := [118]) (byt := [(xbyt.getD 2 []).map nI]) (A := fun q => s.heap.size ≤ q)
    (fun i hi => by rw [show i = 0 by omega]; decide) (fun i hi => hs _ (by decide +kernel)) (fun i hi => hs _ (by decide +kernel)) (fun i hi => hs _ (by decide +kernel)) (fun i hi => by rw [show i = 0 by omega]; exact hs _ (by decide +kernel)) (fun i hi j hj => by
      have e : i = 0 := by omega
      subst e
      exact hs _ (hm j hj)) (fun i j hi hj hne => absurd (show i = j by omega) hne) (fun a ha => by show ¬ s.heap.size ≤ a; omega)
  obtain ⟨h1, h2, h3, h4⟩ := hk.1 0 (by omega)
  refine ⟨aK 0, aV 0, he 0 (by omega), h1, h2, h3, ?_⟩
  have e2 : (fun j => Value.int ((([(xbyt.getD 2 []).map nI] : List (List Int32)).getD 0 []).getD j 0)) = fun j => Value.int (nI ((xbyt.getD 2 []).getD j 0)) := funext fun j => congrArg Value.int (xgetm _ j)
  rw [e2] at h4
  exact h4
end
section
theorem xstr60 {args : Array Value} {s : State} (hgv : (Jvm.Cond.and given_1 narrow_1).before args s = true) : ∃ a : Nat, (Term.string RX11 151).eval args s none [] s = some (.ref a) := by
  have hs := flat_of_before _ hgv
  obtain ⟨a, c, cA, kA, q1, -⟩ := Cond.exactly_spec (args := args) (first := s) (o := none) (s := s) (idx := []) (t := Term.string RX11 151) (cls := "java/lang/String") (hs _ (by decide +kernel))
  exact ⟨a, q1⟩
theorem xstr61 {args : Array Value} {s : State} (hgv : (Jvm.Cond.and given_1 narrow_1).before args s = true) : ∃ a : Nat, (Term.string RX11 180).eval args s none [] s = some (.ref a) := by
  have hs := flat_of_before _ hgv
  obtain ⟨a, c, cA, kA, q1, -⟩ := Cond.exactly_spec (args := args) (first := s) (o := none) (s := s) (idx := []) (t := Term.string RX11 180) (cls := "java/lang/String") (hs _ (by decide +kernel))
  exact ⟨a, q1⟩
theorem xfacts {b : Nat} {s : State} (hts : ∀ w ∈ lw_tbl, w.before #[Value.ref b] s = true) (hgv : (Jvm.Cond.and given_1 narrow_1).before #[Value.ref b] s = true) : ∃ sa : Nat → Nat, xFx s.heap.size sa s ∧ sa 50 = b := by
  have hs := flat_of_before _ hgv
  have hA : ∀ a : Nat, a < s.heap.size → ¬ (fun q => s.heap.size ≤ q) a := fun a ha => by show ¬ s.heap.size ≤ a; omega
  obtain ⟨s0, v0, e0, t0⟩ := xtext0 hgv
  obtain ⟨s1, v1, e1, t1⟩ := xtext1 hgv
  obtain ⟨s2, v2, e2, t2⟩ := xtext2 hgv
  obtain ⟨u, eu⟩ := xstr60 hgv
  obtain ⟨u1, eu1⟩ := xstr61 hgv
  have hc : va_Z "java/lang/String" "COMPACT_STRINGS" "Z" (.int 1) (fun q => s.heap.size ≤ q) s s.heap := va_Zof (hts _ (by decide +kernel)) (hts _ (by decide +kernel)) (va_eqt (hs (.eq (.static "java/lang/String" "COMPACT_STRINGS" "Z") (.int 1)) (by decide +kernel))) hA
  have hz := va_Zqof (C := "jdk/internal/util/Preconditions") (n := "SIOOBE_FORMATTER") (d := "Ljava/util/function/BiFunction;") (A := fun q => s.heap.size ≤ q) (hts _ (by decide +kernel)) (hts _ (by decide +kernel)) (hs _ (by decide +kernel)) hA
  have hU : vx_Zq Bundle.tN "UNASSIGNED_STACK" Bundle.steD (fun q => s.heap.size ≤ q) s s.heap := vx_Zqof (hts _ (by decide +kernel)) (hts _ (by decide +kernel)) (hs _ (by decide +kernel)) hA
  have hN : vx_Zq Bundle.tN "SUPPRESSED_SENTINEL" Bundle.listD (fun q => s.heap.size ≤ q) s s.heap := vx_Zqof (hts _ (by decide +kernel)) (hts _ (by decide +kernel)) (hs _ (by decide +kernel)) hA
  have hnw : ∀ w ∈ xnw, va_Nw w s := by
    intro w hw
    have h1 : w ∈ lw_tbl := (by decide +kernel : ∀ w ∈ xnw, w ∈ lw_tbl) w hw
    have h2 : w.onTables = true := (by decide +kernel : ∀ w ∈ xnw, w.onTables = true) w hw
    exact va_Nw.of h2 (hts w h1)
  have hth : ∀ w ∈ xthr, va_Nw w s := by
    intro w hw
    have h1 : w ∈ lw_tbl := (by decide +kernel : ∀ w ∈ xthr, w ∈ lw_tbl) w hw
    have h2 : w.onTables = true := (by decide +kernel : ∀ w ∈ xthr, w.onTables = true) w hw
    exact va_Nw.of h2 (hts w h1)
  have hth2 : ∀ w ∈ xthr2, va_Nw w s := by
    intro w hw
    have h1 : w ∈ lw_tbl := (by decide +kernel : ∀ w ∈ xthr2, w ∈ lw_tbl) w hw
    have h2 : w.onTables = true := (by decide +kernel : ∀ w ∈ xthr2, w.onTables = true) w hw
    exact va_Nw.of h2 (hts w h1)
  obtain ⟨fl, t, hzz⟩ : ∃ fl t : Nat, va_Z "jdk/internal/util/Preconditions" "SIOOBE_FORMATTER" "Ljava/util/function/BiFunction;" (if fl = 0 then .null else .ref t) (fun q => s.heap.size ≤ q) s s.heap := by
    rcases hz with hz | ⟨t, hz⟩
    · exact ⟨0, 0, hz⟩
    · exact ⟨1, t, hz⟩
  refine ⟨fun k => if k = 0 then s0 else if k = 1 then s1 else if k = 2 then s2 else if k = 1002 then v2 else if k = 61 then u1 else if k = 1000 then v0 else if k = 1001 then v1 else if k = 98 then fl else if k = 99 then t else if k = 60 then u else b, ⟨hnw, (show va_Nw (.arrayOver (.array .int)) s from hts (.arrayOver (.array .int)) (by decide +kernel)), fun k hk => ?_, vk_R.of (hts _ (by decide +kernel)) e0, vk_R.of (hts _ (by decide +kernel)) e1, hc, hzz, hU, hN, vk_R.of (hts _ (by decide +kernel)) eu, hth, vk_R.of (hts _ (by decide +kernel)) e2, vk_R.of (hts _ (by decide +kernel)) eu1, hth2⟩, rfl⟩
  rcases (show k = 0 ∨ k = 1 ∨ k = 2 by omega) with rfl | rfl | rfl
  · exact t0
  · exact t1
  · exact t2
end
section
set_option maxRecDepth 20000 in
theorem xv_0 : Cond.methodLink RX11 344 Lib.Math.min.name ∈ xgt := wm_5 189 rfl rfl
set_option maxRecDepth 20000 in
theorem xv_1 : Cond.static Lib.Math.min.name ∈ xgt := wm_3 152 rfl rfl
set_option maxRecDepth 20000 in
theorem xv_2 : Cond.initialized "java/lang/Math" ∈ xgt := wm_1 20 rfl rfl
set_option maxRecDepth 20000 in
theorem xv_3 : Cond.code Lib.Math.min.name Lib.Math.min.code 2 (some .int) ∈ xgt := wm_3 153 rfl rfl
set_option maxRecDepth 20000 in
theorem xv_4 : Cond.methodLink RX1 119 Lib.Math.min.name ∈ xgt := wm_5 56 rfl rfl
set_option maxRecDepth 20000 in
theorem xv_5 : Cond.methodLink RX3 19 Lib.Math.min.name ∈ xgt := wm_5 129 rfl rfl
set_option maxRecDepth 20000 in
theorem xv_6 : Cond.methodLink RX4 107 Lib.Math.max.name ∈ xgt := wm_4 141 rfl rfl
set_option maxRecDepth 20000 in
theorem xv_7 : Cond.static Lib.Math.max.name ∈ xgt := wm_4 142 rfl rfl
set_option maxRecDepth 20000 in
theorem xv_8 : Cond.code Lib.Math.max.name Lib.Math.max.code 2 (some .int) ∈ xgt := wm_4 143 rfl rfl
set_option maxRecDepth 20000 in
theorem xv_9 : Cond.methodLink RX5 98 Lib.Math.max.name ∈ xgt := wm_4 197 rfl rfl
set_option maxRecDepth 20000 in
theorem xv_10 : Cond.methodLink RX5 103 Lib.Math.min.name ∈ xgt := wm_4 198 rfl rfl
set_option maxRecDepth 20000 in
theorem xv_11 : Cond.methodLink RX5 135 Lib.MathLoose.min_long.x ∈ xgt := wm_4 177 rfl rfl
set_option maxRecDepth 20000 in
theorem xv_12 : Cond.static Lib.MathLoose.min_long.x ∈ xgt := wm_4 178 rfl rfl
set_option maxRecDepth 20000 in
theorem xv_13 : Cond.code Lib.MathLoose.min_long.x Lib.MathLoose.min_long.code 4 (some .long) ∈ xgt := wm_4 179 rfl rfl
set_option maxRecDepth 20000 in
theorem xv_14 : Cond.methodLink RX5 138 Lib.MathLoose.max_long.x ∈ xgt := wm_4 180 rfl rfl
set_option maxRecDepth 20000 in
theorem xv_15 : Cond.static Lib.MathLoose.max_long.x ∈ xgt := wm_4 181 rfl rfl
set_option maxRecDepth 20000 in
theorem xv_16 : Cond.code Lib.MathLoose.max_long.x Lib.MathLoose.max_long.code 4 (some .long) ∈ xgt := wm_4 182 rfl rfl
set_option maxRecDepth 20000 in
theorem xv_17 : Cond.methodLink RX5 151 Lib.MathLoose.abs_long.x ∈ xgt := wm_4 171 rfl rfl
set_option maxRecDepth 20000 in
theorem xv_18 : Cond.static Lib.MathLoose.abs_long.x ∈ xgt := wm_4 172 rfl rfl
set_option maxRecDepth 20000 in
theorem xv_19 : Cond.code Lib.MathLoose.abs_long.x Lib.MathLoose.abs_long.code 2 (some .long) ∈ xgt := wm_4 173 rfl rfl
set_option maxRecDepth 20000 in
theorem xv_20 : Cond.methodLink RX7 69 Lib.Math.max.name ∈ xgt := wm_5 96 rfl rfl
set_option maxRecDepth 20000 in
theorem xv_21 : Cond.methodLink RX9 59 Lib.Math.min.name ∈ xgt := wm_3 151 rfl rfl
set_option maxRecDepth 20000 in
theorem xv_22 : Cond.methodLink RX12 375 Lib.MathLoose.max_long.x ∈ xgt := wm_8 45 rfl rfl
set_option maxRecDepth 20000 in
theorem xv_23 : Cond.methodLink RX12 403 Lib.Math.min.name ∈ xgt := wm_8 58 rfl rfl
set_option maxRecDepth 20000 in
theorem xv_24 : Cond.methodLink RX12 385 Lib.Math.max.name ∈ xgt := wm_8 25 rfl rfl
set_option maxRecDepth 20000 in
theorem xv_25 : Cond.methodLink RX12 371 Lib.MathLoose.min_long.x ∈ xgt := wm_8 44 rfl rfl
set_option maxRecDepth 20000 in
theorem xv_26 : Cond.methodLink RX12 355 Lib.MathLoose.abs_long.x ∈ xgt := wm_8 41 rfl rfl
end
