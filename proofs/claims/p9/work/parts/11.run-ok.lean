section XF
variable {al : Bool} {b : Nat} {ρ : Nat → Int32} {sa : Nat → Nat} {dA : Nat → ClassId} {D : va_G} {l : Launch} {EX : State → Prop} {mt : List xM} {ds : xD}
/-- a method's contract out of the run of its body -/
theorem xMet_of {M : xM} (hM : xMok mt M) {avs : List xV} {K : xH} {κ : xK} {Lc : List xR} (hs : xsum avs ≤ xMl M) (hκ : xKok ρ κ) {sz : Nat} (hb : b ≤ sz)
    (hrun : ∀ (p : Program) (e : Env) (s : State) (m : MethodId) (args : Array Value) (below : List Frame) (meth : Method) (c : Code) (A : Nat → Prop) (Qc : Array Value → State → Outcome → State → Prop), xCtx b dA D M p s m args meth c A EX → xGood al b ρ sa dA D M p l e s m args below meth c A Qc 0 (xargs 0 avs) [] K 0 0 κ Lc) : xMet al b ρ sa dA D EX l M avs K Lc sz := by
  refine Met.ofW (cc := xMc M) (maxL := xMl M) (ret := xMr M) hM.2.2.2.1 rfl ?_
  intro p e s m args below meth c s₁ B hml hv
  obtain ⟨rfl, hsz, hP, hK, hz, hEX⟩ := hv
  subst hsz
  have hts := atoms_spec (ws := xWs M) B.pre
  have hown : s.vm.findClass (xMy M).cls = some m.cls := findClass_of_methodNamed B.named
  have hC : xCtx b dA D M p s m (avs.map (xdv b ρ sa)).toArray meth c (xA b K.length s.heap.size) EX :=
    ⟨⟨B.exec, B.bytes, by rw [hM.2.2.2.2.1]; exact hown, fun w hw => hts w (List.mem_cons_of_mem _ hw)⟩, hml, hK, fun q h => Or.inr h, fun q h => by
      rcases h with h | h
      · exact h.1
      · omega, B.returns, B.notSynchronized, (fun h => (name_of_methodNamed B.named B.method).1.trans h), hEX, hb⟩
  have hl := lv_entry (avs.map (xdv b ρ sa)) (n := xMl M) (by rw [xlen_ok]; exact hs)
  rw [xargs_ok] at hl
  rw [lg_entry_eq]
  exact hrun p e s m _ below meth c _ _ hC _ [] _ hl hP va_S.rf hz (fun i hi => Or.inl ⟨by omega, by omega⟩) hκ (fun lf hlf k1 t k2 k3 k4 k5 => ⟨lf, hlf, k1, rfl, k2, k3, k4, k5⟩)
theorem xe_ok (hls : l.stackTraces = false) (hE : xEok b sa EX) (hds : xdok ρ ds) (hsc : ∀ s : State, EX s → ∀ L : Nat, xSc ds = some L → va_X (sa 50) L (fun n => ρ (n + 1)) s s.heap ∧ sa 50 < b) (hmt : ∀ (mi : Nat) (M' : xM), mt[mi]? = some M' → xMok mt M') : ∀ (n : Nat) (mi : Nat) (M : xM), mt[mi]? = some M → ∀ (p : Program) (e : Env) (s : State) (m : MethodId) (args : Array Value) (below : List Frame) (meth : Method) (c : Code) (A : Nat → Prop) (Qc : Array Value → State → Outcome → State → Prop), xCtx b dA D M p s m args meth c A EX → xSnd al b ρ sa dA D M p l e s m args below meth c A Qc (xe mt ds al n M) := by
  intro n
  induction n with
  | zero =>
    intro mi M hmi p e s m args below meth c A Qc hC pc lv st K ce sl κ Ls h
    cases h
  | succ n ih =>
    intro mi M hmi p e s m args below meth c A Qc hC pc lv st K ce sl κ Ls h
    rw [xe_succ] at h
    simp only [xgo] at h
    split at h
    · cases h
    · next op hop =>
      refine xstep_ok hls hC hE hds hsc hmt (ih mi M hmi p e s m args below meth c A Qc hC) (fun mi' M' avs K κ Lc hmi' hc hs hκ sz hb => ?_) (hmt mi M hmi).2.2.2.2.2 ((hmt mi M hmi).2.2.2.2.2 _ (xfind_mem hop)) h
      exact xMet_of (hmt mi' M' hmi') hs hκ hb (fun p e s m args below meth c A Qc hC => ih mi' M' hmi' p e s m args below meth c A Qc hC _ _ _ _ _ _ _ _ hc)
/-- THE CONTRACT of a method, by a run of it -/
theorem xmet (hls : l.stackTraces = false) (hE : xEok b sa EX) (hds : xdok ρ ds) (hsc : ∀ s : State, EX s → ∀ L : Nat, xSc ds = some L → va_X (sa 50) L (fun n => ρ (n + 1)) s s.heap ∧ sa 50 < b) (hmt : ∀ (mi : Nat) (M' : xM), mt[mi]? = some M' → xMok mt M') {n mi : Nat} {M : xM} (hmi : mt[mi]? = some M) {avs : List xV} {K : xH} {κ : xK} {Lc : List xR} (h : xe mt ds al n M 0 (xargs 0 avs) [] K 0 0 κ = some Lc) (hs : xsum avs ≤ xMl M) (hκ : xKok ρ κ) {sz : Nat} (hb : b ≤ sz) : xMet al b ρ sa dA D EX l M avs K Lc sz :=
  xMet_of (hmt mi M hmi) hs hκ hb (fun p e s m args below meth c A Qc hC => xe_ok hls hE hds hsc hmt n mi M hmi p e s m args below meth c A Qc hC _ _ _ _ _ _ _ _ h)
/-- the run of ONE frame, its callees with N steps; where it knows no instruction it asks stp -/
noncomputable def xeT (mt : List xM) (ds : xD) (al : Bool) (N : Nat) (M : xM) (stp : xRec) (n : Nat) : xRec := Nat.rec (fun _ _ _ _ _ _ _ => none) (fun _ ih pc lv st K ce sl κ => match xfind (xMk M) pc with
  | none => stp pc lv st K ce sl κ
  | some op => xstep mt ds al M ih (fun M' avs K' κ' => xe mt ds al N M' 0 (xargs 0 avs) [] K' 0 0 κ') op lv st K ce sl κ) n
theorem xeT_ok (hls : l.stackTraces = false) (hE : xEok b sa EX) (hds : xdok ρ ds) (hsc : ∀ s : State, EX s → ∀ L : Nat, xSc ds = some L → va_X (sa 50) L (fun n => ρ (n + 1)) s s.heap ∧ sa 50 < b) (hmt : ∀ (mi : Nat) (M' : xM), mt[mi]? = some M' → xMok mt M') {M : xM} (hM : ∀ q ∈ xMk M, xok mt M q.1 q.2) {N : Nat} {stp : xRec} {p : Program} {e : Env} {s : State} {m : MethodId} {args : Array Value} {below : List Frame} {meth : Method} {c : Code} {A : Nat → Prop} {Qc : Array Value → State → Outcome → State → Prop} (hC : xCtx b dA D M p s m args meth c A EX) (hst : xSnd al b ρ sa dA D M p l e s m args below meth c A Qc stp) :
    ∀ n : Nat, xSnd al b ρ sa dA D M p l e s m args below meth c A Qc (xeT mt ds al N M stp n) := by
  intro n
  induction n with
  | zero =>
    intro pc lv st K ce sl κ Ls h
    cases h
  | succ n ih =>
    intro pc lv st K ce sl κ Ls h
    change (match xfind (xMk M) pc with
      | none => stp pc lv st K ce sl κ
      | some op => xstep mt ds al M (xeT mt ds al N M stp n) (fun M' avs K' κ' => xe mt ds al N M' 0 (xargs 0 avs) [] K' 0 0 κ') op lv st K ce sl κ) = some Ls at h
    split at h
    · exact hst _ _ _ _ _ _ _ _ h
    · next op hop =>
      refine xstep_ok hls hC hE hds hsc hmt ih (fun mi' M' avs K κ Lc hmi' hc hs hκ sz hb => ?_) hM (hM _ (xfind_mem hop)) h
      exact xMet_of (hmt mi' M' hmi') hs hκ hb (fun p e s m args below meth c A Qc hC => xe_ok hls hE hds hsc hmt N mi' M' hmi' p e s m args below meth c A Qc hC _ _ _ _ _ _ _ _ hc)
end XF
