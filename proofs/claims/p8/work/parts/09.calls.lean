/-- what may be said of a callee's end -/
def xQp (al : Bool) (b : Nat) (ρ : Nat → Int32) (sa : Nat → Nat) (dA : Nat → ClassId) (D : va_G) (n sz : Nat) (Ls : List xR) : State → Outcome → State → Prop := fun u o t =>
  ∃ lf ∈ Ls, xKok ρ lf.1 ∧ o = .returned (lf.2.1.map (xdv b ρ sa)) ∧ va_P D vwCl (xcx b ρ sa dA 0 lf.2.2) t.heap ∧ (al = true → t.heap.size = b + lf.2.2.length) ∧ (∀ i, i < lf.2.2.length → xA b n sz (b + i)) ∧ va_F (xA b n sz) u t
def xPp (al : Bool) (b : Nat) (ρ : Nat → Int32) (sa : Nat → Nat) (dA : Nat → ClassId) (D : va_G) (EX : State → Prop) (K : xH) (sz : Nat) (U : State) : Prop := U.heap.size = sz ∧ va_P D vwCl (xcx b ρ sa dA 0 K) U.heap ∧ va_K D vwCl (xtys dA) U ∧ (al = true → U.heap.size = b + K.length) ∧ EX U
abbrev xWs (M : xM) : List Cond := .code (xMy M) (xMc M) (xMl M) (xMr M) :: xgt
def xMet (al : Bool) (b : Nat) (ρ : Nat → Int32) (sa : Nat → Nat) (dA : Nat → ClassId) (D : va_G) (EX : State → Prop) (l : Launch) (M : xM) (avs : List xV) (K : xH) (Ls : List xR) (sz : Nat) : Prop :=
  Met l (xMy M) (xWs M) (xMm M) (va_Pc (avs.map (xdv b ρ sa)) (xPp al b ρ sa dA D EX K sz)) (fun _ => xQp al b ρ sa dA D K.length sz Ls) (xMm M).cells (xMm M).slots (xA b K.length sz)
/-- facts beside the world, that stay -/
def xEok (b : Nat) (sa : Nat → Nat) (EX : State → Prop) : Prop := (∀ (U : State) (g : JFrame) (mk : MethodId) (a : Array Value), EX U → EX (U.calling g mk a)) ∧ (∀ s U : State, EX s → s.WarmedH U.vm → (∀ q, q < b → U.heap[q]? = s.heap[q]?) → EX U) ∧ ∀ s, EX s → xFx b sa s
section XD
variable {al : Bool} {b : Nat} {ρ : Nat → Int32} {sa : Nat → Nat} {dA : Nat → ClassId} {D : va_G} {M : xM} {p : Program} {l : Launch} {e : Env} {s : State} {m : MethodId} {args : Array Value} {below : List Frame} {meth : Method} {c : Code} {A : Nat → Prop} {Qc : Array Value → State → Outcome → State → Prop} {EX : State → Prop}
variable {mt : List xM} {ds : xD} {rec : xRec} {pc nx : Nat} {lv : xL} {st : List xV} {K : xH} {ce sl : Nat} {κ : xK} {Ls : List xR}
theorem xp_iret (hC : xCtx b dA D M p s m args meth c A EX) {v : xV} {ty : FieldType} (hd : decode (xMc M) pc = .ok (.ireturn, 1)) (hr : xMr M = some ty) (hti : ty = .int ∨ ty = .boolean) (hf : xfit (xtc ty) v = true) (h1 : ce ≤ (xMm M).cells) (h2 : sl ≤ (xMm M).slots) : xGood al b ρ sa dA D M p l e s m args below meth c A Qc pc lv [v] K ce sl κ [(κ, some (xnm κ.2 v), K)] := by
  intro H locs ls hl hP hS hz hA0 hκ hQ
  have hk : xkdb 0 v = true := by
    rcases hti with rfl | rfl
    · exact hf
    · simp only [xtc, xfit, Bool.and_eq_true] at hf
      simp only [xkdb, hf.1, Bool.true_or]
  have e0 : xdv b ρ sa v = .int (xdi ρ v) := xk0 hk
  have hn := (xfit_ok hf (b := b) (ρ := ρ) (sa := sa)).1
  rw [e0] at hn
  refine W.widen (k := (xMm M).cells) (n := (xMm M).slots) h1 h2 ?_
  rw [show [v].map (xdv b ρ sa) = [.int (xdi ρ v)] by rw [← e0]; rfl]
  refine W.zret hC.1.1 hC.1.2.1 (by rw [hC.2.2.2.2.2.1]; exact hr) hn (fun t ht _ => ?_) hS.2.2 hd hC.2.2.2.2.2.2.1
  have := hQ _ List.mem_cons_self hκ t (by rw [ht]; exact hP) (fun q => by rw [ht]; exact hz q) hA0 (hS.F ht)
  dsimp only [Option.map] at this
  rw [(xnm_ok hκ v).1, e0] at this
  exact this
theorem xp_lret (hC : xCtx b dA D M p s m args meth c A EX) {v : xV} (hd : decode (xMc M) pc = .ok (.lreturn, 1)) (hr : xMr M = some .long) (hf : xkdb 2 v = true) (h1 : ce ≤ (xMm M).cells) (h2 : sl ≤ (xMm M).slots) : xGood al b ρ sa dA D M p l e s m args below meth c A Qc pc lv [v] K ce sl κ [(κ, some v, K)] := by
  intro H locs ls hl hP hS hz hA0 hκ hQ
  have e0 : xdv b ρ sa v = .long (lN v.2) := xk2 hf
  refine W.widen (k := (xMm M).cells) (n := (xMm M).slots) h1 h2 ?_
  rw [show [v].map (xdv b ρ sa) = [.long (lN v.2)] by rw [← e0]; rfl]
  refine W.lret hC.1.1 hC.1.2.1 (by rw [hC.2.2.2.2.2.1]; exact hr) (fun t ht _ => ?_) hS.2.2 hd hC.2.2.2.2.2.2.1
  have := hQ _ List.mem_cons_self hκ t (by rw [ht]; exact hP) (fun q => by rw [ht]; exact hz q) hA0 (hS.F ht)
  dsimp only [Option.map] at this
  rw [e0] at this
  exact this
theorem xp_vret (hC : xCtx b dA D M p s m args meth c A EX) (hd : decode (xMc M) pc = .ok (.return_, 1)) (hr : xMr M = none) (h1 : ce ≤ (xMm M).cells) (h2 : sl ≤ (xMm M).slots) : xGood al b ρ sa dA D M p l e s m args below meth c A Qc pc lv [] K ce sl κ [(κ, none, K)] := by
  intro H locs ls hl hP hS hz hA0 hκ hQ
  refine W.widen (k := (xMm M).cells) (n := (xMm M).slots) h1 h2 ?_
  exact W.vret hC.1.1 hC.1.2.1 (by rw [hC.2.2.2.2.2.1]; exact hr) (fun t ht _ => hQ _ List.mem_cons_self hκ t (by rw [ht]; exact hP) (fun q => by rw [ht]; exact hz q) hA0 (hS.F ht)) hS.2.2 hd hC.2.2.2.2.2.2.1
/-- behind a call -/
theorem xp_call (hC : xCtx b dA D M p s m args meth c A EX) (hr : xSnd al b ρ sa dA D M p l e s m args below meth c A Qc rec) {mc ms : Nat} {rest : List xV} {Lc : List xR}
    (hrun : ∀ (H : Heap) (locs : List Loc) (ls : Array Slot), lv_has ls (xMl M) (xdL b ρ sa lv) → va_P D vwCl (xcx b ρ sa dA 0 K) H → va_S A s.heap H locs → (al = true → H.size = b + K.length) → xKok ρ κ → va_Run p l e (xMm M) s m args below meth c H locs ce sl mc ms (F0 m pc ls (st.map (xdv b ρ sa))) (rest.map (xdv b ρ sa)) (xQp al b ρ sa dA D K.length H.size Lc) (xA b K.length H.size))
    (hall : ∀ lf ∈ Lc, ∃ L, rec (pc + 3) lv (xput rest lf.2.1) lf.2.2 (ce + mc) (sl + ms) lf.1 = some L ∧ ∀ q ∈ L, q ∈ Ls) : xGood al b ρ sa dA D M p l e s m args below meth c A Qc pc lv st K ce sl κ Ls := by
  intro H locs ls hl hP hS hz hA0 hκ hQ
  intro T hT X
  obtain ⟨v, st₀, t, T', L, h0, X', hL, e1, e2, ⟨lf, hlf, k1, k2, k3, k4, k5, k6⟩, stp⟩ := hrun H locs ls hl hP hS hz hκ T hT X
  have ev : v = lf.2.1.map (xdv b ρ sa) := by injection k2
  obtain ⟨L2, g1, g2⟩ := hall lf hlf
  have hsub : ∀ q, xA b K.length H.size q → A q := by
    rintro q (⟨a1, a2⟩ | a1)
    · have := hA0 (q - b) (by omega)
      rwa [show b + (q - b) = q by omega] at this
    · exact hC.2.2.2.1 q (Nat.le_trans hS.1 a1)
  obtain ⟨f1, f2⟩ := k6
  rw [h0] at f1 f2
  have hS2 : va_S A s.heap T'.heap (locs ++ L) := ⟨by rw [e1]; exact Nat.le_trans hS.1 f1, fun q q1 q2 => by
    rw [e1, f2 q (Nat.lt_of_lt_of_le q1 hS.1) (fun z => q2 (hsub q z))]
    exact hS.2.1 q q1 q2, fun q hq => by
    rcases List.mem_append.mp hq with h | h
    · exact hS.2.2 q h
    · exact hsub _ (hL q h)⟩
  have W2 := hr _ _ _ _ _ _ _ _ g1 T'.heap (locs ++ L) ls hl (by rw [e1]; exact k3) hS2 (fun q => by rw [e1]; exact k4 q) (fun i hi => hsub _ (k5 i hi)) k1 (hQ.sub g2)
  obtain ⟨t2, a1, b1⟩ := W2 T' rfl X'
  refine ⟨t2, stp t2 ?_, b1⟩
  have es : v.toList ++ rest.map (xdv b ρ sa) = (xput rest lf.2.1).map (xdv b ρ sa) := by
    rw [ev]
    cases lf.2.1 <;> rfl
  rw [es]
  exact a1
theorem xgt_in' {ws : List Cond} (h : ∀ w ∈ ws, w ∈ xgt) : GoodIn xgt ws := fun w hw => ⟨h w hw, xgt_good w (h w hw)⟩
theorem xWs_in {M' : xM} (h : xMok mt M') : ∀ w ∈ xWs M', w ∈ xgt := fun w hw => by
  rcases List.mem_cons.mp hw with rfl | hw
  · exact h.1
  · exact hw
theorem xPp_blind {avs : List Value} {sz : Nat} (hE : xEok b sa EX) : FrameBlind (va_Pc avs (xPp al b ρ sa dA D EX K sz)) := by
  rintro a U g mk ⟨h1, h2, h3, h4, h5, h6⟩
  exact ⟨h1, h2, h3, va_K.moved (u := U) (U := U.calling g mk a) (Vm.Alike.refl U.vm) h4, h5, hE.1 U g mk a h6⟩
theorem xPp_at (hC : xCtx b dA D M p s m args meth c A EX) (hE : xEok b sa EX) {H : Heap} {locs : List Loc} (hP : va_P D vwCl (xcx b ρ sa dA 0 K) H) (hS : va_S A s.heap H locs) (hz : al = true → H.size = b + K.length) (U : State) (hU : U.heap = H) (hW : s.WarmedH U.vm) : xPp al b ρ sa dA D EX K H.size U := by
  refine ⟨by rw [hU], by rw [hU]; exact hP, va_K.moved hW.alike hC.2.2.1, fun q => by rw [hU]; exact hz q, hE.2.1 s U hC.2.2.2.2.2.2.2.2.1 hW (fun q hq => ?_)⟩
  rw [hU]
  have hb := hC.2.2.2.2.2.2.2.2.2
  exact hS.2.1 q (by omega) (fun z => by have := hC.2.2.2.2.1 q z; omega)
theorem xroom_ok {M' : xM} (h : xroom (xMm M) M' ce sl = true) : ((xMm M').frames + 1 ≤ (xMm M).frames ∧ 8 + (xMl M' + 11) + (xMm M').locals ≤ (xMm M).locals) ∧ ce + (xMm M').cells ≤ (xMm M).cells ∧ sl + (xMm M').slots ≤ (xMm M).slots := by
  simp only [xroom, Bool.and_eq_true, Nat.ble_eq] at h
  exact ⟨⟨h.1, h.2.1⟩, h.2.2.1, h.2.2.2⟩
theorem xp_runS (hC : xCtx b dA D M p s m args meth c A EX) (hE : xEok b sa EX) {M' : xM} (hM' : xMok mt M') (hc : xcS M pc M') (hrm : xroom (xMm M) M' ce sl = true) {avs rest : List xV} (hst : st = avs.reverse ++ rest) (hn : avs.length = xMn M') (hrest : xsum rest ≤ 8) {Lc : List xR} (hMet : xKok ρ κ → ∀ sz, b ≤ sz → xMet al b ρ sa dA D EX l M' avs K Lc sz)
    (H : Heap) (locs : List Loc) (ls : Array Slot) (hl : lv_has ls (xMl M) (xdL b ρ sa lv)) (hP : va_P D vwCl (xcx b ρ sa dA 0 K) H) (hS : va_S A s.heap H locs) (hz : al = true → H.size = b + K.length) (hκ : xKok ρ κ) : va_Run p l e (xMm M) s m args below meth c H locs ce sl (xMm M').cells (xMm M').slots (F0 m pc ls (st.map (xdv b ρ sa))) (rest.map (xdv b ρ sa)) (xQp al b ρ sa dA D K.length H.size Lc) (xA b K.length H.size) := by
  obtain ⟨ix, hd, w1, w2⟩ := hc
  obtain ⟨r1, r2⟩ := xroom_ok hrm
  have hts := hC.1.2.2.2
  exact va_runS (As := avs.map (xdv b ρ sa)) (n := xMn M') (bytes := xMc M') (maxL := xMl M') (ret := xMr M') ⟨hC.1.1, hC.1.2.1, hC.2.1, hC.1.2.2.1, hts⟩ (hMet hκ H.size (Nat.le_trans hC.2.2.2.2.2.2.2.2.2 hS.1)) ⟨callB_of (xMn M') hts (xgt_in' (xWs_in hM')) rfl rfl rfl (hts _ hM'.2.1) (hts _ w1) hM'.2.2.1 r1, hts _ w2⟩ ⟨xPp_blind hE, fun U hU hW => ⟨rfl, xPp_at hC hE hP hS hz U hU hW⟩⟩ rfl (by rw [List.length_map]; exact hn) hl.1 (by rw [hst, List.map_append, List.map_reverse]) (lv_room (by rw [xsum_ok]; exact hrest)) hd r2
theorem xp_runV (hC : xCtx b dA D M p s m args meth c A EX) (hE : xEok b sa EX) {M' : xM} (hM' : xMok mt M') (hc : xcV M pc M') (hrm : xroom (xMm M) M' ce sl = true) {avs rest : List xV} {i ci : Nat} {fs : List xV} {q : vw_C} (hKi : K[i]? = some (.inr (ci, fs))) (hq : vwCl[ci]? = some q) (hqn : q.1 = (xMy M').cls) (hst : st = avs.reverse ++ (1, i) :: rest) (hn : avs.length = xMn M') (hrest : xsum rest ≤ 8) {Lc : List xR} (hMet : xKok ρ κ → ∀ sz, b ≤ sz → xMet al b ρ sa dA D EX l M' ((1, i) :: avs) K Lc sz)
    (H : Heap) (locs : List Loc) (ls : Array Slot) (hl : lv_has ls (xMl M) (xdL b ρ sa lv)) (hP : va_P D vwCl (xcx b ρ sa dA 0 K) H) (hS : va_S A s.heap H locs) (hz : al = true → H.size = b + K.length) (hκ : xKok ρ κ) : va_Run p l e (xMm M) s m args below meth c H locs ce sl (xMm M').cells (xMm M').slots (F0 m pc ls (st.map (xdv b ρ sa))) (rest.map (xdv b ρ sa)) (xQp al b ρ sa dA D K.length H.size Lc) (xA b K.length H.size) := by
  obtain ⟨ix, hd, w1, w2, w3⟩ := hc
  obtain ⟨r1, r2⟩ := xroom_ok hrm
  have hts := hC.1.2.2.2
  have hrc := va_recv hC.2.2.1 hP hq (xcx_at hKi)
  rw [hqn] at hrc
  exact va_runV (As := avs.map (xdv b ρ sa)) (b := b + i) (C := (xMy M').cls) (n := xMn M') (bytes := xMc M') (maxL := xMl M') (ret := xMr M') ⟨hC.1.1, hC.1.2.1, hC.2.1, hC.1.2.2.1, hts⟩ (hMet hκ H.size (Nat.le_trans hC.2.2.2.2.2.2.2.2.2 hS.1)) ⟨callB_of (xMn M') hts (xgt_in' (xWs_in hM')) rfl rfl rfl (hts _ hM'.2.1) (hts _ w1) hM'.2.2.1 r1, hts _ w2, hts _ w3⟩ ⟨xPp_blind hE, hrc, fun U hU hW => ⟨rfl, xPp_at hC hE hP hS hz U hU hW⟩⟩ rfl (by rw [List.length_map]; exact hn) hl.1 (by rw [hst, List.map_append, List.map_reverse]; rfl) (lv_room (by rw [xsum_ok]; exact hrest)) hd r2
theorem xp_runI (hC : xCtx b dA D M p s m args meth c A EX) (hE : xEok b sa EX) {M' : xM} (hM' : xMok mt M') (hc : xcI M pc M') (hrm : xroom (xMm M) M' ce sl = true) {avs rest : List xV} {i : Nat} (hst : st = avs.reverse ++ (1, i) :: rest) (hn : avs.length = xMn M') (hrest : xsum rest ≤ 8) {Lc : List xR} (hMet : xKok ρ κ → ∀ sz, b ≤ sz → xMet al b ρ sa dA D EX l M' ((1, i) :: avs) K Lc sz)
    (H : Heap) (locs : List Loc) (ls : Array Slot) (hl : lv_has ls (xMl M) (xdL b ρ sa lv)) (hP : va_P D vwCl (xcx b ρ sa dA 0 K) H) (hS : va_S A s.heap H locs) (hz : al = true → H.size = b + K.length) (hκ : xKok ρ κ) : va_Run p l e (xMm M) s m args below meth c H locs ce sl (xMm M').cells (xMm M').slots (F0 m pc ls (st.map (xdv b ρ sa))) (rest.map (xdv b ρ sa)) (xQp al b ρ sa dA D K.length H.size Lc) (xA b K.length H.size) := by
  obtain ⟨ix, hd, w1, w2, w3, w4⟩ := hc
  obtain ⟨r1, r2⟩ := xroom_ok hrm
  have hts := hC.1.2.2.2
  have hM := hMet hκ H.size (Nat.le_trans hC.2.2.2.2.2.2.2.2.2 hS.1)
  have hpp : PreS s H (va_Pc (((1, i) :: avs).map (xdv b ρ sa)) (xPp al b ρ sa dA D EX K H.size)) (.ref (b + i) :: avs.map (xdv b ρ sa)) := ⟨xPp_blind hE, fun U hU hW => ⟨rfl, xPp_at hC hE hP hS hz U hU hW⟩⟩
  rcases w4 with w4 | ⟨host, w4⟩
  · exact va_runI (As := avs.map (xdv b ρ sa)) (b := b + i) (n := xMn M') (bytes := xMc M') (maxL := xMl M') ⟨hC.1.1, hC.1.2.1, hC.2.1, hC.1.2.2.1, hts⟩ hM ⟨callB_of (ws' := xgt) (xMn M') hts (xgt_in' (xWs_in hM')) (by rw [xWs, w2]) rfl rfl (hts _ hM'.2.1) (hts _ w4) hM'.2.2.1 r1, w1, hts _ w3⟩ hpp rfl (by rw [List.length_map]; exact hn) hl.1 (by rw [hst, List.map_append, List.map_reverse]; rfl) (lv_room (by rw [xsum_ok]; exact hrest)) hd r2
  · exact va_runIN (As := avs.map (xdv b ρ sa)) (b := b + i) (n := xMn M') (bytes := xMc M') (maxL := xMl M') (host := host) ⟨hC.1.1, hC.1.2.1, hC.2.1, hC.1.2.2.1, hts⟩ hM ⟨va_cnB (ws' := xgt) (xMn M') hts (xgt_in' (xWs_in hM')) (by rw [xWs, w2]) rfl rfl ((hE.2.2 s hC.2.2.2.2.2.2.2.2.1).1 _ w4) (hts _ hM'.2.1) hM'.2.2.1 r1, w1, hts _ w3⟩ hpp rfl (by rw [List.length_map]; exact hn) hl.1 (by rw [hst, List.map_append, List.map_reverse]; rfl) (lv_room (by rw [xsum_ok]; exact hrest)) hd r2
theorem xp_zret (hC : xCtx b dA D M p s m args meth c A EX) {n : Nat} {ty : FieldType} (hd : decode (xMc M) pc = .ok (.ireturn, 1)) (hr : xMr M = some ty) (hn : narrow ty (.int (nI n)) = .int (nI n)) (h1 : ce ≤ (xMm M).cells) (h2 : sl ≤ (xMm M).slots) : xGood al b ρ sa dA D M p l e s m args below meth c A Qc pc lv [(0, n)] K ce sl κ [(κ, some (0, n), K)] := by
  intro H locs ls hl hP hS hz hA0 hκ hQ
  refine W.widen (k := (xMm M).cells) (n := (xMm M).slots) h1 h2 ?_
  exact W.zret hC.1.1 hC.1.2.1 (by rw [hC.2.2.2.2.2.1]; exact hr) hn (fun t ht _ => hQ _ List.mem_cons_self hκ t (by rw [ht]; exact hP) (fun q => by rw [ht]; exact hz q) hA0 (hS.F ht)) hS.2.2 hd hC.2.2.2.2.2.2.1
theorem xp_runVs (hC : xCtx b dA D M p s m args meth c A EX) (hE : xEok b sa EX) {M' : xM} (hM' : xMok mt M') (hc : xcV M pc M') (hrm : xroom (xMm M) M' ce sl = true) {avs rest : List xV} {k : Nat} (hk : k < 3) (hcls : (xMy M').cls = "java/lang/String") (hst : st = avs.reverse ++ (5, k) :: rest) (hn : avs.length = xMn M') (hrest : xsum rest ≤ 8) {Lc : List xR} (hMet : xKok ρ κ → ∀ sz, b ≤ sz → xMet al b ρ sa dA D EX l M' ((5, k) :: avs) K Lc sz)
    (H : Heap) (locs : List Loc) (ls : Array Slot) (hl : lv_has ls (xMl M) (xdL b ρ sa lv)) (hP : va_P D vwCl (xcx b ρ sa dA 0 K) H) (hS : va_S A s.heap H locs) (hz : al = true → H.size = b + K.length) (hκ : xKok ρ κ) : va_Run p l e (xMm M) s m args below meth c H locs ce sl (xMm M').cells (xMm M').slots (F0 m pc ls (st.map (xdv b ρ sa))) (rest.map (xdv b ρ sa)) (xQp al b ρ sa dA D K.length H.size Lc) (xA b K.length H.size) := by
  obtain ⟨ix, hd, w1, w2, w3⟩ := hc
  obtain ⟨r1, r2⟩ := xroom_ok hrm
  have hts := hC.1.2.2.2
  have hrc : ∃ cellB : Cell, H[sa k]? = some cellB ∧ cellB.vm.isStatics = false ∧ s.vm.findClass (xMy M').cls = some cellB.cls := by
    obtain ⟨cell, g1, g2, g3, -⟩ := (((hE.2.2 s hC.2.2.2.2.2.2.2.2.1).2.2.1 k hk).1.narrow hC.2.2.2.2.1).kept hS.2.1
    exact ⟨cell, g1, g2, by rw [hcls]; exact g3⟩
  exact va_runV (As := avs.map (xdv b ρ sa)) (b := sa k) (C := (xMy M').cls) (n := xMn M') (bytes := xMc M') (maxL := xMl M') (ret := xMr M') ⟨hC.1.1, hC.1.2.1, hC.2.1, hC.1.2.2.1, hts⟩ (hMet hκ H.size (Nat.le_trans hC.2.2.2.2.2.2.2.2.2 hS.1)) ⟨callB_of (xMn M') hts (xgt_in' (xWs_in hM')) rfl rfl rfl (hts _ hM'.2.1) (hts _ w1) hM'.2.2.1 r1, hts _ w2, hts _ w3⟩ ⟨xPp_blind hE, hrc, fun U hU hW => ⟨rfl, xPp_at hC hE hP hS hz U hU hW⟩⟩ rfl (by rw [List.length_map]; exact hn) hl.1 (by rw [hst, List.map_append, List.map_reverse]; rfl) (lv_room (by rw [xsum_ok]; exact hrest)) hd r2
theorem xcx_app : ∀ (K L : xH) (o : Nat), xcx b ρ sa dA o (K ++ L) = xcx b ρ sa dA o K ++ xcx b ρ sa dA (o + K.length) L
  | [], L, o => by simp [xcx]
  | d :: K, L, o => by
    simp only [List.cons_append, xcx, List.length_cons]
    rw [xcx_app K L (o + 1), show o + 1 + K.length = o + (K.length + 1) by omega]
theorem xcx_rep (x : xC) : ∀ (n o : Nat), xcx b ρ sa dA o (List.replicate n x) = (List.range n).map (fun i => (b + (o + i), xce b ρ sa dA x))
  | 0, o => rfl
  | n + 1, o => by
    rw [List.replicate_succ, xcx, xcx_rep x n (o + 1), List.range_succ_eq_map, List.map_cons, List.map_map]
    congr 1
    apply List.map_congr_left
    intro i _
    simp only [Function.comp]
    rw [show o + 1 + i = o + (i + 1) by omega]
theorem xp_mna (hC : xCtx b dA D M p s m args meth c A EX) (hE : xEok b sa EX) (hr : xSnd al b ρ sa dA D M p l e s m args below meth c A Qc rec) {k n : Nat} (hT : xMa (xMc M) (xMo M) pc nx) (hal : al = true) (hce : ce + (1 + n) ≤ (xMm M).cells) (hsl : sl + (n + n * k) ≤ (xMm M).slots) (hn : n ≤ 1000) (hk : k ≤ 1000) (h : rec nx lv ((1, K.length) :: st) (K ++ (.inl (4, (List.range n).map (fun i => (1, K.length + 1 + i))) :: List.replicate n (.inl (0, List.replicate k (0, 0))))) (ce + 1 + n) (sl + n + n * k) κ = some Ls) : xGood al b ρ sa dA D M p l e s m args below meth c A Qc pc lv ((0, k) :: (0, n) :: st) K ce sl κ Ls := by
  intro H locs ls hl hP hS hz hA0 hκ hQ
  rw [List.map_cons, List.map_cons]
  have hR4 := (hC.2.2.1.2 4 _ rfl).2
  have hR0 := (hC.2.2.1.2 0 _ rfl).2
  refine hT p l e _ s m args below meth c H locs ce sl _ ls _ hC.1 b sa D (xtys dA) _ A s.heap (nI n) (nI k) n k (dA 4) (dA 0) (hE.2.2 s hC.2.2.2.2.2.2.2.2.1) hP hS hR4 hR0 (nI_pos (by omega)) (nI_pos (by omega)) (nI_clamp (by omega)) (nI_clamp (by omega)) hn hk hce hsl (fun H1 hP1 hS1 z1 => ?_)
  have hH := hz hal
  have e1 : xcx b ρ sa dA 0 (K ++ (.inl (4, (List.range n).map (fun i => (1, K.length + 1 + i))) :: List.replicate n (.inl (0, List.replicate k (0, 0))))) = xcx b ρ sa dA 0 K ++ (H.size, .inl (dA 4, n, .inr (.inr (.inr (.inr (fun i => if i < n then some (H.size + 1 + i) else none)))))) :: (List.range n).map (fun i => (H.size + 1 + i, .inl (dA 0, k, .inl (fun _ => 0)))) := by
    rw [xcx_app]
    congr 1
    rw [xcx, xcx_rep]
    congr 1
    · rw [hH, Nat.zero_add]
      congr 1
      show (Sum.inl (dA 4, ((List.range n).map (fun i => ((1, K.length + 1 + i) : xV))).length, _) : va_E) = _
      rw [List.length_map, List.length_range]
      congr 7
      funext j
      simp only [List.getD_eq_getElem?_getD, List.getElem?_map]
      by_cases hj : j < n
      · rw [List.getElem?_range hj, if_pos hj]
        show some (b + (K.length + 1 + j)) = some (b + K.length + 1 + j)
        congr 1
        omega
      · rw [List.getElem?_eq_none (by rw [List.length_range]; omega), if_neg hj]
        rfl
    · apply List.map_congr_left
      intro i _
      rw [hH]
      congr 1
      · omega
      · show (Sum.inl (dA 0, (List.replicate k ((0, 0) : xV)).length, _) : va_E) = _
        rw [List.length_replicate]
        congr 3
        congr 1
        funext j
        simp only [List.getD_eq_getElem?_getD, List.getElem?_replicate]
        split <;> rfl
  rw [← e1] at hP1
  have := hr _ _ _ _ _ _ _ _ h H1 locs ls hl hP1 hS1 (fun q => by
    rw [z1, hH]
    simp only [List.length_append, List.length_cons, List.length_replicate]
    omega) (fun j hj => by
    by_cases hj2 : j < K.length
    · exact hA0 j hj2
    · refine hC.2.2.2.1 _ ?_
      have := hS.1
      omega) hκ hQ
  rw [List.map_cons] at this
  rw [hH]
  exact this
end XD
