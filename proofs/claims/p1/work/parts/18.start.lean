/-! the unknown ints: the script's, and those made of them -/
def xbuild : xD → (Nat → Int32) → Nat → (Nat → Int32)
  | [], g, _ => g
  | d :: r, g, k => xbuild r (if d.1 < 90 then (fun j => if j = k then xfd g d.1 d.2.1 d.2.2 else g j) else g) (k + 1)
theorem xbuild_old : ∀ (ds : xD) (g : Nat → Int32) (k j : Nat), j < k → xbuild ds g k j = g j
  | [], g, k, j, h => rfl
  | d :: r, g, k, j, h => by
    rw [xbuild, xbuild_old r _ (k + 1) j (by omega)]
    split
    · rw [if_neg (by omega)]
    · rfl
/-- an operand that speaks of earlier ones alone -/
def xbel (v : xV) (k : Nat) : Bool := match v with
  | (3, j) => Nat.blt j k
  | _ => true
def xwf : xD → Nat → Bool
  | [], _ => true
  | d :: r, k => xbel d.2.1 k && (xbel d.2.2 k && xwf r (k + 1))
theorem xdi_below {ρ g : Nat → Int32} {k : Nat} (h : ∀ j, j < k → ρ j = g j) {v : xV} (hv : xbel v k = true) : xdi ρ v = xdi g v := by
  match v, hv with
  | (0, _), _ | (1, _), _ | (2, _), _ => rfl
  | (n + 4, _), _ => rfl
  | (3, j), hv => exact h j (by simpa [xbel, Nat.blt_eq] using hv)
theorem xbuild_new : ∀ (ds : xD) (g : Nat → Int32) (k : Nat), xwf ds k = true → ∀ (i o : Nat) (x y : xV), ds[i]? = some (o, x, y) → o < 90 → xbuild ds g k (k + i) = xfd (xbuild ds g k) o x y
  | d :: r, g, k, hw, 0, o, x, y, h, ho => by
    simp only [List.getElem?_cons_zero] at h
    cases h
    simp only [xwf, Bool.and_eq_true] at hw
    have hold : ∀ j, j < k → xbuild ((o, x, y) :: r) g k j = g j := fun j hj => xbuild_old _ g k j hj
    have e1 : xbuild ((o, x, y) :: r) g k (k + 0) = xfd g o x y := by
      rw [xbuild, xbuild_old r _ (k + 1) (k + 0) (by omega), if_pos ho, if_pos (by omega)]
    rw [e1]
    simp only [xfd, xdi_below hold hw.1, xdi_below hold hw.2.1]
  | d :: r, g, k, hw, i + 1, o, x, y, h, ho => by
    simp only [List.getElem?_cons_succ] at h
    simp only [xwf, Bool.and_eq_true] at hw
    have := xbuild_new r (if d.1 < 90 then (fun j => if j = k then xfd g d.1 d.2.1 d.2.2 else g j) else g) (k + 1) hw.2.2 i o x y h ho
    rw [show k + 1 + i = k + (i + 1) by omega] at this
    exact this
theorem xdok_build (ds : xD) (g : Nat → Int32) (hw : xwf ds 0 = true) : xdok (xbuild ds g 0) ds := fun k o x y h ho => by
  have := xbuild_new ds g 0 hw k o x y h ho
  rwa [Nat.zero_add] at this
theorem xwf_ds : xwf xds 0 = true := by decide +kernel
/-- the first seven are the script's own -/
theorem xfirst (g : Nat → Int32) : ∀ j, j < 7 → xbuild xds g 0 j = g j := by
  have key : ∀ (n : Nat) (ds : xD) (g : Nat → Int32) (k : Nat), (∀ i, i < n → ∃ d, ds[i]? = some d ∧ ¬ d.1 < 90) → ∀ j, j < k + n → xbuild ds g k j = g j := by
    intro n
    induction n with
    | zero => exact fun ds g k _ j hj => xbuild_old ds g k j hj
    | succ n ih =>
      intro ds g k hd j hj
      match ds, hd with
      | [], hd => rfl
      | d :: r, hd =>
        obtain ⟨d', h1, h2⟩ := hd 0 (by omega)
        simp only [List.getElem?_cons_zero] at h1
        cases h1
        rw [xbuild, if_neg h2]
        exact ih r g (k + 1) (fun i hi => by
          obtain ⟨d2, q1, q2⟩ := hd (i + 1) (by omega)
          exact ⟨d2, by simpa using q1, q2⟩) j (by omega)
  intro j hj
  refine key 7 xds g 0 (fun i hi => ?_) j (by omega)
  match i, hi with
  | 0, _ | 1, _ | 2, _ | 3, _ | 4, _ | 5, _ | 6, _ => exact ⟨_, rfl, by decide⟩
theorem W.mono {p : Program} {l : Launch} {e : Env} {R : Room} {s : State} {m : MethodId} {args : Array Value} {below : List Frame} {meth : Method} {c : Code} {H : Heap} {locs : List Loc} {cells slots : Nat} {Q Q' : State → Prop} {g : JFrame} (h : W p l e R s m args below meth c H locs cells slots Q g) (hq : ∀ t, Q t → Q' t) : W p l e R s m args below meth c H locs cells slots Q' g := by
  intro T hT X
  obtain ⟨t, a, b⟩ := h T hT X
  exact ⟨t, a, hq t b⟩
/-- facts that stay: the script too -/
def xEXs (b : Nat) (sa : Nat → Nat) (L : Nat) (xs : Nat → Int32) (U : State) : Prop := xFx b sa U ∧ va_X (sa 50) L xs U U.heap ∧ sa 50 < b
theorem xnw_warm {s U : State} (hW : s.WarmedH U.vm) (h : ∀ w ∈ xnw, va_Nw w s) : ∀ w ∈ xnw, va_Nw w U := by
  intro w hw
  have hs := h w hw
  simp only [xnw, List.mem_cons, List.not_mem_nil, or_false] at hw
  rcases hw with rfl | rfl | rfl | rfl <;> exact va_Nw.warmM hW hs
theorem xao_warm {s U : State} (hW : s.WarmedH U.vm) (h : va_Nw (.arrayOver (.array .int)) s) : va_Nw (.arrayOver (.array .int)) U := by
  have h1 : (Cond.arrayOver (.array .int)).before #[] (s.setVm U.vm) = true := by
    rw [Cond.arrayOver_setVmC hW.alike]
    exact h
  exact h1
def xcd (w : Cond) : Bool := match w with
  | .castable _ _ => true
  | .declares _ => true
  | _ => false
theorem xthr_kind : xthr.all xcd = true := by decide +kernel
theorem xthr_warm {s U : State} (hW : s.WarmedH U.vm) (h : ∀ w ∈ xthr, va_Nw w s) : ∀ w ∈ xthr, va_Nw w U := by
  intro w hw
  have hk := List.all_eq_true.mp xthr_kind w hw
  have hs := h w hw
  cases w <;> first | exact va_Nw.warmC hW hs | exact va_Nw.warmD hW hs | cases hk
theorem xkeep {b : Nat} {s U : State} (hq : ∀ q, q < b → U.heap[q]? = s.heap[q]?) : ∀ a : Nat, a < s.heap.size → ¬ (fun q => b ≤ q) a → U.heap[a]? = s.heap[a]? := fun a _ h => hq a (by
  have : ¬ b ≤ a := h
  omega)
theorem xFx_warm {b : Nat} {sa : Nat → Nat} {s U : State} (h : xFx b sa s) (hW : s.WarmedH U.vm) (hq : ∀ q, q < b → U.heap[q]? = s.heap[q]?) : xFx b sa U := by
  obtain ⟨h1, h2, h3, h4, h5, h6, h7, h8, h9, h10, h11⟩ := h
  refine ⟨xnw_warm hW h1, xao_warm hW h2, fun k hk => ?_, vk_R.warm hW h4, vk_R.warm hW h5, (va_Z.moved hW.alike h6).kept (xkeep hq), (va_Z.moved hW.alike h7).kept (xkeep hq), (vx_Zq.moved hW.alike h8).kept (xkeep hq), (vx_Zq.moved hW.alike h9).kept (xkeep hq), vk_R.warm hW h10, xthr_warm hW h11⟩
  obtain ⟨g1, g2, g3, g4⟩ := h3 k hk
  exact ⟨(va_O.moved hW.alike g1).kept (xkeep hq), (va_OF.moved hW.alike g2).kept (xkeep hq), (va_OF.moved hW.alike g3).kept (xkeep hq), (va_T.moved hW.alike g4).kept (xkeep hq)⟩
theorem xEXs_ok (b : Nat) (sa : Nat → Nat) (L : Nat) (xs : Nat → Int32) : xEok b sa (xEXs b sa L xs) := by
  have warm : ∀ s U : State, xEXs b sa L xs s → s.WarmedH U.vm → (∀ q, q < b → U.heap[q]? = s.heap[q]?) → xEXs b sa L xs U := fun s U h hW hq => ⟨xFx_warm h.1 hW hq, (va_X.moved hW.alike h.2.1).kept (hq _ h.2.2), h.2.2⟩
  exact ⟨fun U g mk a h => warm U _ h (State.WarmedH.refl U) (fun _ _ => rfl), warm, fun s h => h.1⟩
/-- what the law's start gives -/
theorem xclasses {args : Array Value} {s : State} (hts : ∀ w ∈ lw_tbl, w.before args s = true) : ∃ (dC : Nat → ClassId) (dI : Nat → Nat → Nat), ∀ (k : Nat) (q : vw_C), vwCl[k]? = some q → u_Kn s q.1 q.2.1 q.2.2 (dC k) (dI k) := by
  obtain ⟨c0, i0, h0⟩ := u_known (C := RX0) (T := TX0) (N := 10) (n := 10) hts (fun w h => xgt_in w (xin_X0 w h)) (hts (.instantiable RX0 10) (xgt_in _ (xwm 619 (by decide +kernel) (by decide +kernel))))
  obtain ⟨c1, i1, h1⟩ := u_known (C := RX1) (T := TX1) (N := 11) (n := 11) hts (fun w h => xgt_in w (xin_X1 w h)) (hts (.instantiable RX1 11) (xgt_in _ (xwm 547 (by decide +kernel) (by decide +kernel))))
  obtain ⟨c2, i2, h2⟩ := u_known (C := RX2) (T := TX2) (N := 10) (n := 10) hts (fun w h => xgt_in w (xin_X2 w h)) (hts (.instantiable RX2 10) (xgt_in _ (xwm 179 (by decide +kernel) (by decide +kernel))))
  obtain ⟨c3, i3, h3⟩ := u_known (C := RX3) (T := TX3) (N := 2) (n := 2) hts (fun w h => xgt_in w (xin_X3 w h)) (hts (.instantiable RX3 2) (xgt_in _ (xwm 507 (by decide +kernel) (by decide +kernel))))
  obtain ⟨c4, i4, h4⟩ := u_known (C := RX4) (T := TX4) (N := 19) (n := 19) hts (fun w h => xgt_in w (xin_X4 w h)) (hts (.instantiable RX4 19) (xgt_in _ (xwm 152 (by decide +kernel) (by decide +kernel))))
  obtain ⟨c5, i5, h5⟩ := u_known (C := RX5) (T := TX5) (N := 6) (n := 6) hts (fun w h => xgt_in w (xin_X5 w h)) (hts (.instantiable RX5 6) (xgt_in _ (xwm 521 (by decide +kernel) (by decide +kernel))))
  obtain ⟨c6, i6, h6⟩ := u_known (C := RX6) (T := TX6) (N := 2) (n := 2) hts (fun w h => xgt_in w (xin_X6 w h)) (hts (.instantiable RX6 2) (xgt_in _ (xwm 158 (by decide +kernel) (by decide +kernel))))
  obtain ⟨c7, i7, h7⟩ := u_known (C := RX7) (T := TX7) (N := 6) (n := 6) hts (fun w h => xgt_in w (xin_X7 w h)) (hts (.instantiable RX7 6) (xgt_in _ (xwm 591 (by decide +kernel) (by decide +kernel))))
  obtain ⟨c8, i8, h8⟩ := u_known (C := RX8) (T := TX8) (N := 4) (n := 4) hts (fun w h => xgt_in w (xin_X8 w h)) (hts (.instantiable RX8 4) (xgt_in _ (xwm 331 (by decide +kernel) (by decide +kernel))))
  obtain ⟨c9, i9, h9⟩ := u_known (C := RX9) (T := TX9) (N := 9) (n := 9) hts (fun w h => xgt_in w (xin_X9 w h)) (hts (.instantiable RX9 9) (xgt_in _ (xwm 333 (by decide +kernel) (by decide +kernel))))
  obtain ⟨c10, i10, h10⟩ := u_known (C := RX10) (T := TX10) (N := 13) (n := 13) hts (fun w h => xgt_in w (xin_X10 w h)) (hts (.instantiable RX10 13) (xgt_in _ (xwm 445 (by decide +kernel) (by decide +kernel))))
  obtain ⟨c11, i11, h11⟩ := u_known (C := RX11) (T := TX11) (N := 15) (n := 15) hts (fun w h => xgt_in w (xin_X11 w h)) (hts (.instantiable RX11 15) (xgt_in _ (xwm 144 (by decide +kernel) (by decide +kernel))))
  obtain ⟨c12, i12, h12⟩ := u_known (C := RX12) (T := TX12) (N := 69) (n := 69) hts (fun w h => xgt_in w (xin_X12 w h)) (hts (.instantiable RX12 69) (xgt_in _ (xwm 1386 (by decide +kernel) (by decide +kernel))))
  refine ⟨fun k => if k = 0 then c0 else if k = 1 then c1 else if k = 2 then c2 else if k = 3 then c3 else if k = 4 then c4 else if k = 5 then c5 else if k = 6 then c6 else if k = 7 then c7 else if k = 8 then c8 else if k = 9 then c9 else if k = 10 then c10 else if k = 11 then c11 else c12, fun k => if k = 0 then i0 else if k = 1 then i1 else if k = 2 then i2 else if k = 3 then i3 else if k = 4 then i4 else if k = 5 then i5 else if k = 6 then i6 else if k = 7 then i7 else if k = 8 then i8 else if k = 9 then i9 else if k = 10 then i10 else if k = 11 then i11 else i12, ?_⟩
  intro k q hq
  match k, hq with
  | 0, hq => cases hq; exact h0
  | 1, hq => cases hq; exact h1
  | 2, hq => cases hq; exact h2
  | 3, hq => cases hq; exact h3
  | 4, hq => cases hq; exact h4
  | 5, hq => cases hq; exact h5
  | 6, hq => cases hq; exact h6
  | 7, hq => cases hq; exact h7
  | 8, hq => cases hq; exact h8
  | 9, hq => cases hq; exact h9
  | 10, hq => cases hq; exact h10
  | 11, hq => cases hq; exact h11
  | 12, hq => cases hq; exact h12
  | k + 13, hq => simp [vwCl] at hq
theorem xarrT {args : Array Value} {s : State} {ty : FieldType} (h : (Cond.arrayClass ty).before args s = true) : ∃ cA : ClassId, ArrOfT s cA ty ∧ s.vm.findClass ("[" ++ ty.toString) = some cA := by
  obtain ⟨cA, k, comp, h1, h2, h3⟩ := Cond.arrayClass_spec h
  exact ⟨cA, fun n z => ⟨fun h => (by cases h), k, h2, comp, h3⟩, h1⟩
theorem xarrA {args : Array Value} {s : State} (h : (Cond.arrayOver (.array .int)).before args s = true) : ∃ cA : ClassId, ArrOfT s cA (.array .int) ∧ s.vm.findClass ("[" ++ (FieldType.array .int).toString) = some cA := by
  obtain ⟨comp, cA, k, h1, h2, h3, h4⟩ := Cond.arrayOver_specA h
  exact ⟨cA, fun n z => ⟨fun h => (by cases h), k, h2, comp, h3⟩, h4⟩
theorem xworld {args : Array Value} {s : State} (hts : ∀ w ∈ lw_tbl, w.before args s = true) : ∃ (D : va_G) (dA : Nat → ClassId), va_K D vwCl (xtys dA) s := by
  obtain ⟨dC, dI, hK⟩ := xclasses hts
  obtain ⟨a0, g0, f0⟩ := xarrT (hts (.arrayClass .int) (by decide +kernel))
  obtain ⟨a1, g1, f1⟩ := xarrT (hts (.arrayClass .byte) (by decide +kernel))
  obtain ⟨a2, g2, f2⟩ := xarrT (hts (.arrayClass .long) (by decide +kernel))
  obtain ⟨a3, g3, f3⟩ := xarrT (hts (.arrayClass .boolean) (by decide +kernel))
  obtain ⟨a4, g4, f4⟩ := xarrA (hts (.arrayOver (.array .int)) (by decide +kernel))
  refine ⟨(dC, dI), fun k => if k = 0 then a0 else if k = 1 then a1 else if k = 2 then a2 else if k = 3 then a3 else a4, hK, fun k q hq => ?_⟩
  match k, hq with
  | 0, hq => cases hq; exact ⟨g0, f0⟩
  | 1, hq => cases hq; exact ⟨g1, f1⟩
  | 2, hq => cases hq; exact ⟨g2, f2⟩
  | 3, hq => cases hq; exact ⟨g3, f3⟩
  | 4, hq => cases hq; exact ⟨g4, f4⟩
  | k + 5, hq => simp [xtys] at hq
theorem xgetm (l : List Nat) (j : Nat) : (l.map nI).getD j 0 = nI (l.getD j 0) := by
  rw [List.getD_eq_getElem?_getD, List.getD_eq_getElem?_getD, List.getElem?_map]
  cases l[j]? <;> rfl
theorem xtext0 {args : Array Value} {s : State} (hgv : (Jvm.Cond.and given_1 narrow_1).before args s = true) : ∃ a v : Nat, (Term.string RX9 41).eval args s none [] s = some (.ref a) ∧ va_O "java/lang/String" a (fun q => s.heap.size ≤ q) s s.heap ∧ va_OF "java/lang/String" "coder" "B" (.int 0) a (fun q => s.heap.size ≤ q) s s.heap ∧ va_OF "java/lang/String" "value" "[B" (.ref v) a (fun q => s.heap.size ≤ q) s s.heap ∧ va_T .byte v (xlen.getD 0 0) (fun j => .int (nI ((xbyt.getD 0 []).getD j 0))) (fun q => s.heap.size ≤ q) s s.heap := by
  have hs := flat_of_before _ hgv
  have hm : ∀ j, j < 68 → Cond.eq (.elem (.field (Term.string RX9 41) "java/lang/String" "value" "[B") (.int (Int32.ofNat j))) (.int (((xbyt.getD 0 []).map nI).getD j 0)) ∈ flatC (Jvm.Cond.and given_1 narrow_1) := by decide +kernel
  obtain ⟨aK, aV, hk, he⟩ := vk_Sof (args := args) (s := s) (N := 1) (tm := fun _ => Term.string RX9 41) (len := [68]) (byt := [(xbyt.getD 0 []).map nI]) (A := fun q => s.heap.size ≤ q)
    (fun i hi => by rw [show i = 0 by omega]; decide) (fun i hi => hs _ (by decide +kernel)) (fun i hi => hs _ (by decide +kernel)) (fun i hi => hs _ (by decide +kernel)) (fun i hi => by rw [show i = 0 by omega]; exact hs _ (by decide +kernel)) (fun i hi j hj => by
      have e : i = 0 := by omega
      subst e
      exact hs _ (hm j hj)) (fun i j hi hj hne => absurd (show i = j by omega) hne) (fun a ha => by show ¬ s.heap.size ≤ a; omega)
  obtain ⟨h1, h2, h3, h4⟩ := hk.1 0 (by omega)
  refine ⟨aK 0, aV 0, he 0 (by omega), h1, h2, h3, ?_⟩
  have e2 : (fun j => Value.int ((([(xbyt.getD 0 []).map nI] : List (List Int32)).getD 0 []).getD j 0)) = fun j => Value.int (nI ((xbyt.getD 0 []).getD j 0)) := funext fun j => congrArg Value.int (xgetm _ j)
  rw [e2] at h4
  exact h4
theorem xtext1 {args : Array Value} {s : State} (hgv : (Jvm.Cond.and given_1 narrow_1).before args s = true) : ∃ a v : Nat, (Term.string RX9 47).eval args s none [] s = some (.ref a) ∧ va_O "java/lang/String" a (fun q => s.heap.size ≤ q) s s.heap ∧ va_OF "java/lang/String" "coder" "B" (.int 0) a (fun q => s.heap.size ≤ q) s s.heap ∧ va_OF "java/lang/String" "value" "[B" (.ref v) a (fun q => s.heap.size ≤ q) s s.heap ∧ va_T .byte v (xlen.getD 1 0) (fun j => .int (nI ((xbyt.getD 1 []).getD j 0))) (fun q => s.heap.size ≤ q) s s.heap := by
  have hs := flat_of_before _ hgv
  have hm : ∀ j, j < 48 → Cond.eq (.elem (.field (Term.string RX9 47) "java/lang/String" "value" "[B") (.int (Int32.ofNat j))) (.int (((xbyt.getD 1 []).map nI).getD j 0)) ∈ flatC (Jvm.Cond.and given_1 narrow_1) := by decide +kernel
  obtain ⟨aK, aV, hk, he⟩ := vk_Sof (args := args) (s := s) (N := 1) (tm := fun _ => Term.string RX9 47) (len := [48]) (byt := [(xbyt.getD 1 []).map nI]) (A := fun q => s.heap.size ≤ q)
    (fun i hi => by rw [show i = 0 by omega]; decide) (fun i hi => hs _ (by decide +kernel)) (fun i hi => hs _ (by decide +kernel)) (fun i hi => hs _ (by decide +kernel)) (fun i hi => by rw [show i = 0 by omega]; exact hs _ (by decide +kernel)) (fun i hi j hj => by
      have e : i = 0 := by omega
      subst e
      exact hs _ (hm j hj)) (fun i j hi hj hne => absurd (show i = j by omega) hne) (fun a ha => by show ¬ s.heap.size ≤ a; omega)
  obtain ⟨h1, h2, h3, h4⟩ := hk.1 0 (by omega)
  refine ⟨aK 0, aV 0, he 0 (by omega), h1, h2, h3, ?_⟩
  have e2 : (fun j => Value.int ((([(xbyt.getD 1 []).map nI] : List (List Int32)).getD 0 []).getD j 0)) = fun j => Value.int (nI ((xbyt.getD 1 []).getD j 0)) := funext fun j => congrArg Value.int (xgetm _ j)
  rw [e2] at h4
  exact h4
theorem xstr60 {args : Array Value} {s : State} (hgv : (Jvm.Cond.and given_1 narrow_1).before args s = true) : ∃ a : Nat, (Term.string RX11 151).eval args s none [] s = some (.ref a) := by
  have hs := flat_of_before _ hgv
  obtain ⟨a, c, cA, kA, q1, -⟩ := Cond.exactly_spec (args := args) (first := s) (o := none) (s := s) (idx := []) (t := Term.string RX11 151) (cls := "java/lang/String") (hs _ (by decide +kernel))
  exact ⟨a, q1⟩
theorem xfacts {b : Nat} {s : State} (hts : ∀ w ∈ lw_tbl, w.before #[Value.ref b] s = true) (hgv : (Jvm.Cond.and given_1 narrow_1).before #[Value.ref b] s = true) : ∃ sa : Nat → Nat, xFx s.heap.size sa s ∧ sa 50 = b := by
  have hs := flat_of_before _ hgv
  have hA : ∀ a : Nat, a < s.heap.size → ¬ (fun q => s.heap.size ≤ q) a := fun a ha => by show ¬ s.heap.size ≤ a; omega
  obtain ⟨s0, v0, e0, t0⟩ := xtext0 hgv
  obtain ⟨s1, v1, e1, t1⟩ := xtext1 hgv
  obtain ⟨u, eu⟩ := xstr60 hgv
  have hc : va_Z "java/lang/String" "COMPACT_STRINGS" "Z" (.int 1) (fun q => s.heap.size ≤ q) s s.heap := va_Zof (hts _ (by decide +kernel)) (hts _ (by decide +kernel)) (va_eqt (hs (.eq (.static "java/lang/String" "COMPACT_STRINGS" "Z") (.int 1)) (by decide +kernel))) hA
  have hz := va_Zqof (C := "jdk/internal/util/Preconditions") (n := "SIOOBE_FORMATTER") (d := "Ljava/util/function/BiFunction;") (A := fun q => s.heap.size ≤ q) (hts _ (by decide +kernel)) (hts _ (by decide +kernel)) (hs _ (by decide +kernel)) hA
  have hU : vx_Zq Bundle.tN "UNASSIGNED_STACK" Bundle.steD (fun q => s.heap.size ≤ q) s s.heap := vx_Zqof (hts _ (by decide +kernel)) (hts _ (by decide +kernel)) (hs _ (by decide +kernel)) hA
  have hN : vx_Zq Bundle.tN "SUPPRESSED_SENTINEL" Bundle.listD (fun q => s.heap.size ≤ q) s s.heap := vx_Zqof (hts _ (by decide +kernel)) (hts _ (by decide +kernel)) (hs _ (by decide +kernel)) hA
  have hnw : ∀ w ∈ xnw, va_Nw w s := by
    intro w hw
    have h1 : w ∈ lw_tbl := (by decide +kernel : ∀ w ∈ xnw, w ∈ lw_tbl) w hw
    have h2 : w.onTables = true := (by decide +kernel : ∀ w ∈ xnw, w.onTables = true) w hw
    exact va_Nw.of h2 (hts w h1)
  have hth : ∀ w ∈ xthr, va_Nw w s := by
    intro w hw
    have h1 : w ∈ lw_tbl := (by decide +kernel : ∀ w ∈ xthr, w ∈ lw_tbl) w hw
    have h2 : w.onTables = true := (by decide +kernel : ∀ w ∈ xthr, w.onTables = true) w hw
    exact va_Nw.of h2 (hts w h1)
  obtain ⟨fl, t, hzz⟩ : ∃ fl t : Nat, va_Z "jdk/internal/util/Preconditions" "SIOOBE_FORMATTER" "Ljava/util/function/BiFunction;" (if fl = 0 then .null else .ref t) (fun q => s.heap.size ≤ q) s s.heap := by
    rcases hz with hz | ⟨t, hz⟩
    · exact ⟨0, 0, hz⟩
    · exact ⟨1, t, hz⟩
  refine ⟨fun k => if k = 0 then s0 else if k = 1 then s1 else if k = 1000 then v0 else if k = 1001 then v1 else if k = 98 then fl else if k = 99 then t else if k = 60 then u else b, ⟨hnw, hts _ (by decide +kernel), fun k hk => ?_, vk_R.of (hts _ (by decide +kernel)) e0, vk_R.of (hts _ (by decide +kernel)) e1, hc, hzz, hU, hN, vk_R.of (hts _ (by decide +kernel)) eu, hth⟩, rfl⟩
  rcases (show k = 0 ∨ k = 1 by omega) with rfl | rfl
  · exact t0
  · exact t1
theorem xone_ok {r : Option (List xR)} (h : xone r = true) : ∃ Ls, r = some Ls ∧ ∀ lf ∈ Ls, lf.2.1 = some (0, 1) := by
  cases r with
  | none => cases h
  | some L =>
    refine ⟨L, rfl, fun lf hlf => ?_⟩
    have := List.all_eq_true.mp h lf hlf
    split at this
    · next e => exact e
    · cases this
theorem xnos_ok {al : Bool} {b : Nat} {ρ : Nat → Int32} {sa : Nat → Nat} {dA : Nat → ClassId} {D : va_G} {M : xM} {p : Program} {l : Launch} {e : Env} {s : State} {m : MethodId} {args : Array Value} {below : List Frame} {meth : Method} {c : Code} {A : Nat → Prop} {Qc : Array Value → State → Outcome → State → Prop} : xSnd al b ρ sa dA D M p l e s m args below meth c A Qc xnos := fun _ _ _ _ _ _ _ _ h => by cases h
theorem xκ_ok {ρ : Nat → Int32} {lo hi : Nat} (h1 : lo ≤ sgI (ρ 7)) (h2 : sgI (ρ 7) ≤ hi) : xKok ρ (xκ lo hi) := by
  refine ⟨fun q hq => (by cases hq), fun k a c h => ?_⟩
  match k, h with
  | 0, h | 1, h | 2, h | 3, h | 4, h | 5, h | 6, h =>
    cases h
    have := sgI_lt (ρ _)
    exact ⟨Nat.zero_le _, by omega⟩
  | 7, h => cases h; exact ⟨h1, h2⟩
  | k + 8, h => cases h
theorem xK1 {ρ : Nat → Int32} : xKok ρ ([], []) := ⟨fun q hq => (by cases hq), fun k a c h => (by cases h)⟩
/-- which run of the loop is this script's -/
theorem xpick (L : Nat) (hL : L ≤ 6) (g : Nat → Int32) : ∃ (ds : xD) (ρ : Nat → Int32) (κ : xK) (N n : Nat), xdok ρ ds ∧ xSc ds = some L ∧ (∀ j, j < 7 → ρ j = g j) ∧ xKok ρ κ ∧ xone (xeT xmt ds false N xm_L1 xnos n 23 xlv0 [] xK0 144 14558 κ) = true := by
  by_cases h6 : L < 6
  · refine ⟨[(98, (0, L), (0, 0))], g, ([], []), 10, 20, fun k o x y h ho => ?_, rfl, fun _ _ => rfl, xK1, xrunL L h6⟩
    match k, h with
    | 0, h => cases h; omega
    | k + 1, h => simp at h
  · have e6 : L = 6 := by omega
    subst e6
    have hd := xdok_build xds g xwf_ds
    have h7 : xbuild xds g 0 7 = fbin 3 (xbuild xds g 0 1) (nI 63) := hd 7 3 (3, 1) (0, 63) rfl (by decide)
    obtain ⟨j, hj, ej⟩ := pk_andE (xbuild xds g 0 1) (m := nI 63) 6 (by decide)
    have e7 : xbuild xds g 0 7 = nI j := h7.trans ej
    have es : sgI (xbuild xds g 0 7) = 2147483648 + j := by
      rw [e7, sgI_nI (by omega)]
      simp only [xsg]
      omega
    by_cases hj35 : j < 35
    · by_cases h17 : j = 17
      · exact ⟨xds, xbuild xds g 0, xκ 2147483665 2147483665, 45000, 400, hd, rfl, xfirst g, xκ_ok (by omega) (by omega), xrun_17⟩
      · exact ⟨xds, xbuild xds g 0, xκ (2147483648 + j) (2147483648 + j), 8000, 400, hd, rfl, xfirst g, xκ_ok (by omega) (by omega), xrunK j hj35 h17⟩
    · exact ⟨xds, xbuild xds g 0, xκ 2147483683 2147483711, 8000, 400, hd, rfl, xfirst g, xκ_ok (by omega) (by omega), xrun_35⟩
theorem xstp0_ok {pc : Nat} {lv : xL} {st : List xV} {K : xH} {ce sl : Nat} {κ : xK} {Ls : List xR} (h : xstp0 pc lv st K ce sl κ = some Ls) : pc = 23 ∧ lv = xlv0 ∧ st = [] ∧ K = xK0 ∧ ce = 144 ∧ sl = 14558 ∧ κ = ([], []) := by
  simp only [xstp0] at h
  split at h
  · next hc =>
    simp only [Bool.and_eq_true, Nat.beq_eq, decide_eq_true_eq] at hc
    exact hc
  · cases h
theorem xnil_ok {r : Option (List xR)} (h : xnil r = true) : r = some [] := by
  cases r with
  | none => cases h
  | some L =>
    cases L with
    | nil => rfl
    | cons a L => cases h
set_option maxHeartbeats 4000000 in
set_option maxRecDepth 100000 in
/-- THE LAW, from its entry -/
theorem whole_start {p : Program} {e : Env} {s : State} {m : MethodId} {below : List Frame} {meth : Method} {c : Code} (l : Launch) (hls : l.stackTraces = false) {b L : Nat} {xs : Nat → Int32} (hL : L ≤ 6) (C0 : lw_At p s m meth c b L xs) : W p l e room_1 s m #[Value.ref b] below meth c s.heap [] 0 0 (lw_Z below #[Value.ref b] s) (entryFrame m ([Value.ref b] : List Value).toArray 7) := by
  obtain ⟨hx, hb, hr, hml, hown, hts, hX, hbl, hlocks, hgv⟩ := C0
  obtain ⟨D, dA, hK⟩ := xworld hts
  obtain ⟨sa, hF, hsa⟩ := xfacts hts hgv
  obtain ⟨ds, ρ, κ, N, n, hds, hSc, hfst, hκ, hrun⟩ := xpick L hL (fun j => xs (j - 1))
  obtain ⟨Ls, hLs, hone⟩ := xone_ok hrun
  have hX0 : va_X (sa 50) L xs s s.heap := by rw [hsa]; exact hX
  have hXρ : ∀ U : State, va_X (sa 50) L xs U U.heap → va_X (sa 50) L (fun n => ρ (n + 1)) U U.heap := by
    rintro U ⟨scr, g1, g2, g3, g4, g5⟩
    refine ⟨scr, g1, g2, g3, g4, fun j hj => ?_⟩
    rw [g5 j hj, hfst (j + 1) (by omega)]
    rfl
  have hE := xEXs_ok s.heap.size sa L xs
  have hEX : xEXs s.heap.size sa L xs s := ⟨hF, hX0, by rw [hsa]; exact hbl⟩
  have hctx : ∀ M : xM, xMc M = code → xMo M = RL → xMl M = 7 → xMr M = some .boolean → (xMy M).name = "law" → xCtx s.heap.size dA D M p s m #[Value.ref b] meth c (fun q => s.heap.size ≤ q) (xEXs s.heap.size sa L xs) := fun M h1 h2 h3 h4 h5 =>
    ⟨⟨hx, by rw [h1]; exact hb, by rw [h2]; exact hown, fun w hw => hts w (xgt_in w hw)⟩, by rw [h3]; exact hml, hK, fun _ h => h, fun _ h => h, by rw [h4]; exact hr, hlocks, (fun h => by rw [h5] at h; exact absurd h (by decide)), hEX, Nat.le_refl _⟩
  have hmt := xmt_ok
  refine W.mono (Q := MQ below (fun _ _ o _ => o = .returned (some (.int 1))) #[Value.ref b] s 600002 7302232 (fun q => s.heap.size ≤ q)) ?_ ?_
  · have hloop : xSnd true s.heap.size ρ sa dA D xm_L0 p l e s m #[Value.ref b] below meth c (fun q => s.heap.size ≤ q) (fun _ _ o _ => o = .returned (some (.int 1))) xstp0 := by
      intro pc lv st K ce sl κ0 Ls0 h0
      obtain ⟨rfl, rfl, rfl, rfl, rfl, rfl, rfl⟩ := xstp0_ok h0
      intro H locs ls hl hP hS hz hA0 _ _
      exact xeT_ok (al := false) hls hE hds (fun U hU L' hL' => by
        cases hSc.symm.trans hL'
        exact ⟨hXρ U hU.2.1, hU.2.2⟩) hmt (M := xm_L1) xo_L1 (hctx xm_L1 rfl rfl rfl rfl rfl) xnos_ok n _ _ _ _ _ _ _ _ hLs H locs ls hl hP hS (fun q => by cases q) hA0 hκ (fun lf hlf k1 t k2 k3 k4 k5 => by
          rw [hone lf hlf]
          rfl)
    have hpro := xeT_ok (al := true) hls hE (ds := []) (ρ := ρ) (fun k o x y h => by simp at h) (fun U hU L' hL' => by cases hL') hmt (M := xm_L0) xo_L0 (hctx xm_L0 rfl rfl rfl rfl rfl) hloop 50 _ _ _ _ _ _ _ _ (xnil_ok xpro)
    have hl := lv_entry ([.ref b]) (n := 7) (Nat.le_of_ble_eq_true rfl)
    rw [lg_entry_eq]
    exact hpro s.heap [] _ (by rw [← hsa] at hl ⊢; exact hl) (fun k q h => by simp [xcx] at h) va_S.rf (fun _ => rfl) (fun i hi => absurd hi (by simp)) xK1 (fun lf hlf => (by cases hlf))
  · rintro t ⟨o, h1, h2, h3, LL, ⟨g1, g2, g3⟩, h5⟩
    exact ⟨o, h1, h2, h3, g1, g2, g3.weaken (fun y hy hlt => absurd hlt (Nat.not_lt.mpr (h5 y hy))) (Nat.le_refl _) (Nat.le_refl _)⟩
