section YC
variable {E : yE} {R : Room} {d : Nat} {M : xM} {pc nx : Nat} {lv : yL} {st : List yV} {mem : yMem} {ce sl : Nat} {Post : Option yV → yMem → Prop}
theorem y_nok {t : Nat} {x : Int} (h : ynok t x) : (t = 0 ∨ t = 1 ∨ t = 3) ∧ vp_nar (xty t) (iI x) = iI x := by
  match t, h with
  | 0, h => exact ⟨Or.inl rfl, rfl⟩
  | 1, h =>
    refine ⟨Or.inr (Or.inl rfl), ?_⟩
    obtain ⟨h1, h2⟩ := h
    show vp_nar .byte (iI x) = iI x
    rw [vp_nar_byte]
    apply Int32.toInt_inj.mp
    rw [Int8.toInt_toInt32, Int32.toInt_toInt8]
    exact Int.bmod_eq_of_le (by simp; exact h1) (by simp; exact Int.lt_of_le_of_lt h2 (by decide))
  | 3, h =>
    refine ⟨Or.inr (Or.inr rfl), ?_⟩
    have e : iI x = iI 0 ∨ iI x = iI 1 := by
      rcases h with h | h
      · exact Or.inl (iI_inj.mpr (by rw [h]; decide))
      · exact Or.inr (iI_inj.mpr (by rw [h]; decide))
    show vp_nar .boolean (iI x) = iI x
    rcases e with e | e <;> rw [e] <;> decide +kernel
  | 2, h => exact h.elim
  | n + 4, h => exact h.elim
theorem y_copy {s0 d0 n0 n1 : Nat} {r0 r1 : List Nat} {sp dp n zs zd : Int} (hT : xCp (xMc M) (xMo M) pc nx) (hKs : ysh[s0]? = some (.inl (0, n0, r0))) (hKd : ysh[d0]? = some (.inl (0, n1, r1))) (hzs : zs.toNat = s0) (hzd : zd.toNat = d0) (g0 : 0 ≤ w32 n) (g1 : 0 ≤ w32 sp) (g2 : 0 ≤ w32 dp) (h1 : w32 sp + w32 n ≤ (n0 : Int)) (h2 : w32 dp + w32 n ≤ (n1 : Int)) (hf : 1 ≤ R.frames) (hlo : ysum st + (nativeFrameWords "java/lang/System" "arraycopy" 5 + 11) ≤ R.locals)
    (h : yG E R M nx lv st (ycpy mem s0 (w32 sp).toNat d0 (w32 dp).toNat (w32 n).toNat) ce sl Post) : yG E R M pc lv ((0, n) :: (0, dp) :: (1, zd) :: (0, sp) :: (1, zs) :: st) mem ce sl Post := by
  intro p e s m args below meth c A Qc hC hQ H locs ls hl hP hS
  simp only [List.map_cons]
  subst hzs
  subst hzd
  have hg0 := yW_at (E := E) (mem := mem) hKs
  have hg1 := yW_at (E := E) (mem := mem) hKd
  rw [yce_arr (Or.inl rfl)] at hg0 hg1
  have nn : ∀ z : Int, 0 ≤ w32 z → ¬ iI z < 0 := fun z hz q => by
    have h3 : (iI z).toInt < 0 := by simpa using Int32.lt_iff_toInt_lt.mp q
    have h4 : w32 z < 0 := h3
    omega
  have cl : ∀ z : Int, (iI z).toNatClampNeg = (w32 z).toNat := fun z => rfl
  refine hT p (yl E) e R s m args below meth c H locs ce sl _ ls _ hC.1.1 (yD E) (xtys (yda E)) _ A s.heap zs.toNat zd.toNat (yb E + zs.toNat) (yb E + zd.toNat) 0 (yda E 0) n0 n1 _ _ (iI sp) (iI dp) (iI n) (by rw [hC.1.2.1, hl.1]) hC.1.2.2.1 hP (yW_D hC.2) hS hg0 hg1 rfl (nn sp g1) (nn dp g2) (nn n g0) (by rw [cl, cl]; omega) (by rw [cl, cl]; omega) hf (by rw [ysum_ok]; exact hlo) (fun H1 locs1 hP1 hS1 z1 => ?_)
  rw [cl, cl, cl] at hP1
  have e1 : (Sum.inl (yda E 0, n1, Sum.inl (va_cpy (fun j => iI (mem zs.toNat j)) (fun j => iI (mem zd.toNat j)) (w32 sp).toNat (w32 dp).toNat (w32 n).toNat)) : va_E) = yce E (.inl (0, n1, r1)) (va_cpy (mem zs.toNat) (mem zd.toNat) (w32 sp).toNat (w32 dp).toNat (w32 n).toNat) := by
    rw [yce_arr (Or.inl rfl)]
    congr 4
    funext k
    simp only [va_cpy]
    split <;> rfl
  rw [y_world hKd e1, ycpy_eq] at hP1
  exact h p e s m args below meth c A Qc hC hQ H1 locs1 ls hl hP1 hS1
theorem y_iret {x : Int} {ty : FieldType} (hd : decode (xMc M) pc = .ok (.ireturn, 1)) (hr : xMr M = some ty) (hn : narrow ty (.int (iI x)) = .int (iI x)) (h1 : ce ≤ R.cells) (h2 : sl ≤ R.slots) (h : Post (some (0, x)) mem) : yG E R M pc lv [(0, x)] mem ce sl Post := by
  intro p e s m args below meth c A Qc hC hQ H locs ls hl hP hS
  refine W.widen (k := R.cells) (n := R.slots) h1 h2 ?_
  rw [show [((0, x) : yV)].map (ydv E) = [.int (iI x)] from rfl]
  refine W.zret hC.1.1.1 hC.1.1.2.1 (by rw [hC.1.2.2.2.2.2.1]; exact hr) hn (fun t ht _ => ?_) hS.2.2 hd hC.1.2.2.2.2.2.2.1
  exact hQ _ _ t h (by rw [ht]; exact hP) (hS.F ht)
theorem y_lret {x : Int} (hd : decode (xMc M) pc = .ok (.lreturn, 1)) (hr : xMr M = some .long) (h1 : ce ≤ R.cells) (h2 : sl ≤ R.slots) (h : Post (some (4, x)) mem) : yG E R M pc lv [(4, x)] mem ce sl Post := by
  intro p e s m args below meth c A Qc hC hQ H locs ls hl hP hS
  refine W.widen (k := R.cells) (n := R.slots) h1 h2 ?_
  rw [show [((4, x) : yV)].map (ydv E) = [.long (lI x)] from rfl]
  refine W.lret hC.1.1.1 hC.1.1.2.1 (by rw [hC.1.2.2.2.2.2.1]; exact hr) (fun t ht _ => ?_) hS.2.2 hd hC.1.2.2.2.2.2.2.1
  exact hQ _ _ t h (by rw [ht]; exact hP) (hS.F ht)
theorem y_vret (hd : decode (xMc M) pc = .ok (.return_, 1)) (hr : xMr M = none) (h1 : ce ≤ R.cells) (h2 : sl ≤ R.slots) (h : Post none mem) : yG E R M pc lv [] mem ce sl Post := by
  intro p e s m args below meth c A Qc hC hQ H locs ls hl hP hS
  refine W.widen (k := R.cells) (n := R.slots) h1 h2 ?_
  exact W.vret hC.1.1.1 hC.1.1.2.1 (by rw [hC.1.2.2.2.2.2.1]; exact hr) (fun t ht _ => hQ _ _ t h (by rw [ht]; exact hP) (hS.F ht)) hS.2.2 hd hC.1.2.2.2.2.2.2.1
/-- behind a call -/
theorem y_call {rest : List yV} {Pc : Option yV → yMem → Prop}
    (hrun : ∀ (p : Program) (e : Env) (s : State) (m : MethodId) (args : Array Value) (below : List Frame) (meth : Method) (c : Code) (A : Nat → Prop), yCtx E M p s m args meth c A → ∀ (H : Heap) (locs : List Loc) (ls : Array Slot), lv_has ls (xMl M) (ydL E lv) → va_P (yD E) vwCl (yW E mem) H → va_S A s.heap H locs → va_Run p (yl E) e R s m args below meth c H locs ce sl 0 0 (F0 m pc ls (st.map (ydv E))) (rest.map (ydv E)) (yQp E H.size Pc) (xA (yb E) ysh.length H.size))
    (hall : ∀ r mem', Pc r mem' → yG E R M (pc + 3) lv (yput rest r) mem' ce sl Post) : yG E R M pc lv st mem ce sl Post := by
  intro p e s m args below meth c A Qc hC hQ H locs ls hl hP hS
  intro T hT X
  obtain ⟨v, st₀, t, T', L, h0, X', hL, e1, e2, ⟨r, mem', k1, k2, k3, k6⟩, stp⟩ := hrun p e s m args below meth c A hC H locs ls hl hP hS T hT X
  have ev : v = r.map (ydv E) := by injection k2
  have hsub : ∀ q, xA (yb E) ysh.length H.size q → A q := by
    rintro q (⟨a1, a2⟩ | a1)
    · have := hC.2 (q - yb E) (by omega)
      rwa [show yb E + (q - yb E) = q by omega] at this
    · exact hC.1.2.2.2.1 q (Nat.le_trans hS.1 a1)
  obtain ⟨f1, f2⟩ := k6
  rw [h0] at f1 f2
  have hS2 : va_S A s.heap T'.heap (locs ++ L) := ⟨by rw [e1]; exact Nat.le_trans hS.1 f1, fun q q1 q2 => by
    rw [e1, f2 q (Nat.lt_of_lt_of_le q1 hS.1) (fun z => q2 (hsub q z))]
    exact hS.2.1 q q1 q2, fun q hq => by
    rcases List.mem_append.mp hq with h | h
    · exact hS.2.2 q h
    · exact hsub _ (hL q h)⟩
  have W2 := hall r mem' k1 p e s m args below meth c A Qc hC hQ T'.heap (locs ++ L) ls hl (by rw [e1]; exact k3) hS2
  obtain ⟨t2, a1, b1⟩ := W2 T' rfl X'
  refine ⟨t2, stp t2 ?_, b1⟩
  have es : v.toList ++ rest.map (ydv E) = (yput rest r).map (ydv E) := by
    rw [ev]
    cases r <;> rfl
  rw [es]
  exact a1
theorem yPp_blind {avs : List Value} {sz : Nat} (hE : yEok E) : FrameBlind (va_Pc avs (yPp E mem sz)) := by
  rintro a U g mk ⟨h1, h2, h3, h4, h6⟩
  exact ⟨h1, h2, h3, va_K.moved (u := U) (U := U.calling g mk a) (Vm.Alike.refl U.vm) h4, hE.2.1 U g mk a h6⟩
theorem yPp_at {p : Program} {s : State} {m : MethodId} {args : Array Value} {meth : Method} {c : Code} {A : Nat → Prop} (hC : yCtx E M p s m args meth c A) (hE : yEok E) {H : Heap} {locs : List Loc} (hP : va_P (yD E) vwCl (yW E mem) H) (hS : va_S A s.heap H locs) (U : State) (hU : U.heap = H) (hW : s.WarmedH U.vm) : yPp E mem H.size U := by
  refine ⟨by rw [hU], by rw [hU]; exact hP, va_K.moved hW.alike hC.1.2.2.1, hE.2.2.1 s U hC.1.2.2.2.2.2.2.2.2.1 hW (fun q hq => ?_)⟩
  rw [hU]
  have hb := hC.1.2.2.2.2.2.2.2.2.2
  exact hS.2.1 q (by omega) (fun z => by have := hC.1.2.2.2.2.1 q z; omega)
theorem yP_size {H : Heap} (hP : va_P (yD E) vwCl (yW E mem) H) : yb E + ysh.length ≤ H.size := by
  have h0 : ysh.length = ysh.length - 1 + 1 := by decide +kernel
  have h1 : ∃ S, ysh[ysh.length - 1]? = some S := ⟨ysh[ysh.length - 1]'(by omega), List.getElem?_eq_getElem _⟩
  obtain ⟨S, hS⟩ := h1
  have h2 := (hP _ _ (yW_at (E := E) (mem := mem) hS)).lt
  dsimp only at h2
  omega
theorem y_room {M' : xM} (hm : xMl M' ≤ 45) (hR : d + 1 ≤ R.frames ∧ 64 * d + 64 ≤ R.locals) : (yR d).frames + 1 ≤ R.frames ∧ 8 + (xMl M' + 11) + (yR d).locals ≤ R.locals := by
  simp only [yR]
  omega
theorem y_runS (hE : yEok E) {M' : xM} (hM' : xMok xmt M') (hc : xcS M pc M') (hm : xMl M' ≤ 45) (hR : d + 1 ≤ R.frames ∧ 64 * d + 64 ≤ R.locals) (hcs : ce ≤ R.cells ∧ sl ≤ R.slots) {avs rest : List yV} (hst : st = avs.reverse ++ rest) (hn : avs.length = xMn M') (hrest : ysum rest ≤ 8) {Pc : Option yV → yMem → Prop} (hMet : yCon E d M' avs mem Pc)
    (p : Program) (e : Env) (s : State) (m : MethodId) (args : Array Value) (below : List Frame) (meth : Method) (c : Code) (A : Nat → Prop) (hC : yCtx E M p s m args meth c A) (H : Heap) (locs : List Loc) (ls : Array Slot) (hl : lv_has ls (xMl M) (ydL E lv)) (hP : va_P (yD E) vwCl (yW E mem) H) (hS : va_S A s.heap H locs) : va_Run p (yl E) e R s m args below meth c H locs ce sl 0 0 (F0 m pc ls (st.map (ydv E))) (rest.map (ydv E)) (yQp E H.size Pc) (xA (yb E) ysh.length H.size) := by
  obtain ⟨ix, hd, w1, w2⟩ := hc
  have r1 := y_room hm hR
  have hts := hC.1.1.2.2.2
  exact va_runS (As := avs.map (ydv E)) (n := xMn M') (bytes := xMc M') (maxL := xMl M') (ret := xMr M') ⟨hC.1.1.1, hC.1.1.2.1, hC.1.2.1, hC.1.1.2.2.1, hts⟩ (hMet H.size (yP_size hP)) ⟨callB_of (xMn M') hts (xgt_in' (xWs_in hM')) rfl rfl rfl (hts _ hM'.2.1) (hts _ w1) hM'.2.2.1 r1, hts _ w2⟩ ⟨yPp_blind hE, fun U hU hW => ⟨rfl, yPp_at hC hE hP hS U hU hW⟩⟩ rfl (by rw [List.length_map]; exact hn) hl.1 (by rw [hst, List.map_append, List.map_reverse]) (lv_room (by rw [ysum_ok]; exact hrest)) hd ⟨by omega, by omega⟩
theorem y_runSN (hE : yEok E) {M' : xM} (hM' : xMok xmt M') (hc : xcSN M pc M') (hm : xMl M' ≤ 45) (hR : d + 1 ≤ R.frames ∧ 64 * d + 64 ≤ R.locals) (hcs : ce ≤ R.cells ∧ sl ≤ R.slots) {avs rest : List yV} (hst : st = avs.reverse ++ rest) (hn : avs.length = xMn M') (hrest : ysum rest ≤ 8) {Pc : Option yV → yMem → Prop} (hMet : yCon E d M' avs mem Pc)
    (p : Program) (e : Env) (s : State) (m : MethodId) (args : Array Value) (below : List Frame) (meth : Method) (c : Code) (A : Nat → Prop) (hC : yCtx E M p s m args meth c A) (H : Heap) (locs : List Loc) (ls : Array Slot) (hl : lv_has ls (xMl M) (ydL E lv)) (hP : va_P (yD E) vwCl (yW E mem) H) (hS : va_S A s.heap H locs) : va_Run p (yl E) e R s m args below meth c H locs ce sl 0 0 (F0 m pc ls (st.map (ydv E))) (rest.map (ydv E)) (yQp E H.size Pc) (xA (yb E) ysh.length H.size) := by
  obtain ⟨ix, hd, host, w1, w2⟩ := hc
  have r1 := y_room hm hR
  have hts := hC.1.1.2.2.2
  exact va_runSN (As := avs.map (ydv E)) (n := xMn M') (bytes := xMc M') (maxL := xMl M') (ret := xMr M') (host := host) ⟨hC.1.1.1, hC.1.1.2.1, hC.1.2.1, hC.1.1.2.2.1, hts⟩ (hMet H.size (yP_size hP)) ⟨va_cnB (xMn M') hts (xgt_in' (xWs_in hM')) rfl rfl rfl ((hE.2.2.2 s hC.1.2.2.2.2.2.2.2.2.1).1 _ w1) (hts _ hM'.2.1) hM'.2.2.1 r1, hts _ w2, trivial⟩ ⟨yPp_blind hE, fun U hU hW => ⟨rfl, yPp_at hC hE hP hS U hU hW⟩⟩ rfl (by rw [List.length_map]; exact hn) hl.1 (by rw [hst, List.map_append, List.map_reverse]) (lv_room (by rw [ysum_ok]; exact hrest)) hd ⟨by omega, by omega⟩
theorem y_runV (hE : yEok E) {M' : xM} (hM' : xMok xmt M') (hc : xcV M pc M') (hm : xMl M' ≤ 45) (hR : d + 1 ≤ R.frames ∧ 64 * d + 64 ≤ R.locals) (hcs : ce ≤ R.cells ∧ sl ≤ R.slots) {avs rest : List yV} {z : Int} {ci : Nat} {fs : List yV} {q : vw_C} (hKi : ysh[z.toNat]? = some (.inr (ci, fs))) (hq : vwCl[ci]? = some q) (hqn : q.1 = (xMy M').cls) (hst : st = avs.reverse ++ (1, z) :: rest) (hn : avs.length = xMn M') (hrest : ysum rest ≤ 8) {Pc : Option yV → yMem → Prop} (hMet : yCon E d M' ((1, z) :: avs) mem Pc)
    (p : Program) (e : Env) (s : State) (m : MethodId) (args : Array Value) (below : List Frame) (meth : Method) (c : Code) (A : Nat → Prop) (hC : yCtx E M p s m args meth c A) (H : Heap) (locs : List Loc) (ls : Array Slot) (hl : lv_has ls (xMl M) (ydL E lv)) (hP : va_P (yD E) vwCl (yW E mem) H) (hS : va_S A s.heap H locs) : va_Run p (yl E) e R s m args below meth c H locs ce sl 0 0 (F0 m pc ls (st.map (ydv E))) (rest.map (ydv E)) (yQp E H.size Pc) (xA (yb E) ysh.length H.size) := by
  obtain ⟨ix, hd, w1, w2, w3⟩ := hc
  have r1 := y_room hm hR
  have hts := hC.1.1.2.2.2
  have hrc := va_recv hC.1.2.2.1 hP hq (yW_at hKi)
  rw [hqn] at hrc
  exact va_runV (As := avs.map (ydv E)) (b := yb E + z.toNat) (C := (xMy M').cls) (n := xMn M') (bytes := xMc M') (maxL := xMl M') (ret := xMr M') ⟨hC.1.1.1, hC.1.1.2.1, hC.1.2.1, hC.1.1.2.2.1, hts⟩ (hMet H.size (yP_size hP)) ⟨callB_of (xMn M') hts (xgt_in' (xWs_in hM')) rfl rfl rfl (hts _ hM'.2.1) (hts _ w1) hM'.2.2.1 r1, hts _ w2, hts _ w3⟩ ⟨yPp_blind hE, hrc, fun U hU hW => ⟨rfl, yPp_at hC hE hP hS U hU hW⟩⟩ rfl (by rw [List.length_map]; exact hn) hl.1 (by rw [hst, List.map_append, List.map_reverse]; rfl) (lv_room (by rw [ysum_ok]; exact hrest)) hd ⟨by omega, by omega⟩
theorem y_runVs (hE : yEok E) {M' : xM} (hM' : xMok xmt M') (hc : xcV M pc M') (hm : xMl M' ≤ 45) (hR : d + 1 ≤ R.frames ∧ 64 * d + 64 ≤ R.locals) (hcs : ce ≤ R.cells ∧ sl ≤ R.slots) {avs rest : List yV} {z : Int} (hk : z.toNat < 3) (hcls : (xMy M').cls = "java/lang/String") (hst : st = avs.reverse ++ (5, z) :: rest) (hn : avs.length = xMn M') (hrest : ysum rest ≤ 8) {Pc : Option yV → yMem → Prop} (hMet : yCon E d M' ((5, z) :: avs) mem Pc)
    (p : Program) (e : Env) (s : State) (m : MethodId) (args : Array Value) (below : List Frame) (meth : Method) (c : Code) (A : Nat → Prop) (hC : yCtx E M p s m args meth c A) (H : Heap) (locs : List Loc) (ls : Array Slot) (hl : lv_has ls (xMl M) (ydL E lv)) (hP : va_P (yD E) vwCl (yW E mem) H) (hS : va_S A s.heap H locs) : va_Run p (yl E) e R s m args below meth c H locs ce sl 0 0 (F0 m pc ls (st.map (ydv E))) (rest.map (ydv E)) (yQp E H.size Pc) (xA (yb E) ysh.length H.size) := by
  obtain ⟨ix, hd, w1, w2, w3⟩ := hc
  have r1 := y_room hm hR
  have hts := hC.1.1.2.2.2
  have hrc : ∃ cellB : Cell, H[ysa E z.toNat]? = some cellB ∧ cellB.vm.isStatics = false ∧ s.vm.findClass (xMy M').cls = some cellB.cls := by
    obtain ⟨cell, g1, g2, g3, -⟩ := (((hE.2.2.2 s hC.1.2.2.2.2.2.2.2.2.1).2.2.1 z.toNat hk).1.narrow hC.1.2.2.2.2.1).kept hS.2.1
    exact ⟨cell, g1, g2, by rw [hcls]; exact g3⟩
  exact va_runV (As := avs.map (ydv E)) (b := ysa E z.toNat) (C := (xMy M').cls) (n := xMn M') (bytes := xMc M') (maxL := xMl M') (ret := xMr M') ⟨hC.1.1.1, hC.1.1.2.1, hC.1.2.1, hC.1.1.2.2.1, hts⟩ (hMet H.size (yP_size hP)) ⟨callB_of (xMn M') hts (xgt_in' (xWs_in hM')) rfl rfl rfl (hts _ hM'.2.1) (hts _ w1) hM'.2.2.1 r1, hts _ w2, hts _ w3⟩ ⟨yPp_blind hE, hrc, fun U hU hW => ⟨rfl, yPp_at hC hE hP hS U hU hW⟩⟩ rfl (by rw [List.length_map]; exact hn) hl.1 (by rw [hst, List.map_append, List.map_reverse]; rfl) (lv_room (by rw [ysum_ok]; exact hrest)) hd ⟨by omega, by omega⟩
theorem y_split {n : Nat} {v : yV} {r : List yV} (h : st.drop n = v :: r) (hl : n + 1 ≤ st.length) : st = ((st.take n).reverse).reverse ++ v :: r ∧ st.drop (n + 1) = r ∧ (st.take (n + 1)).reverse = v :: (st.take n).reverse ∧ ((st.take n).reverse).length = n := by
  refine ⟨?_, ?_, ?_, ?_⟩
  · rw [List.reverse_reverse, ← h, List.take_append_drop]
  · rw [← List.drop_drop, h]
    rfl
  · have e : st.take (n + 1) = st.take n ++ [v] := by
      rw [List.take_add, h]
      rfl
    rw [e, List.reverse_append]
    rfl
  · rw [List.length_reverse, List.length_take]
    omega
end YC
