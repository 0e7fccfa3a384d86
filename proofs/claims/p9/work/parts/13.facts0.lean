/-- what the law's start gives -/
theorem xclasses {args : Array Value} {s : State} (hts : ∀ w ∈ lw_tbl, w.before args s = true) : ∃ (dC : Nat → ClassId) (dI : Nat → Nat → Nat), ∀ (k : Nat) (q : vw_C), vwCl[k]? = some q → u_Kn s q.1 q.2.1 q.2.2 (dC k) (dI k) := by
  obtain ⟨c0, i0, h0⟩ := u_known (C := RX0) (T := TX0) (N := 10) (n := 10) hts (fun w h => xgt_in w (xin_X0 w h)) (hts (.instantiable RX0 10) (xgt_in _ (wm_3 24 rfl rfl)))
  obtain ⟨c1, i1, h1⟩ := u_known (C := RX1) (T := TX1) (N := 11) (n := 11) hts (fun w h => xgt_in w (xin_X1 w h)) (hts (.instantiable RX1 11) (xgt_in _ (wm_2 192 rfl rfl)))
  obtain ⟨c2, i2, h2⟩ := u_known (C := RX2) (T := TX2) (N := 10) (n := 10) hts (fun w h => xgt_in w (xin_X2 w h)) (hts (.instantiable RX2 10) (xgt_in _ (wm_1 64 rfl rfl)))
  obtain ⟨c3, i3, h3⟩ := u_known (C := RX3) (T := TX3) (N := 2) (n := 2) hts (fun w h => xgt_in w (xin_X3 w h)) (hts (.instantiable RX3 2) (xgt_in _ (wm_2 152 rfl rfl)))
  obtain ⟨c4, i4, h4⟩ := u_known (C := RX4) (T := TX4) (N := 19) (n := 19) hts (fun w h => xgt_in w (xin_X4 w h)) (hts (.instantiable RX4 19) (xgt_in _ (wm_1 37 rfl rfl)))
  obtain ⟨c5, i5, h5⟩ := u_known (C := RX5) (T := TX5) (N := 6) (n := 6) hts (fun w h => xgt_in w (xin_X5 w h)) (hts (.instantiable RX5 6) (xgt_in _ (wm_2 166 rfl rfl)))
  obtain ⟨c6, i6, h6⟩ := u_known (C := RX6) (T := TX6) (N := 2) (n := 2) hts (fun w h => xgt_in w (xin_X6 w h)) (hts (.instantiable RX6 2) (xgt_in _ (wm_1 43 rfl rfl)))
  obtain ⟨c7, i7, h7⟩ := u_known (C := RX7) (T := TX7) (N := 6) (n := 6) hts (fun w h => xgt_in w (xin_X7 w h)) (hts (.instantiable RX7 6) (xgt_in _ (wm_2 236 rfl rfl)))
  obtain ⟨c8, i8, h8⟩ := u_known (C := RX8) (T := TX8) (N := 4) (n := 4) hts (fun w h => xgt_in w (xin_X8 w h)) (hts (.instantiable RX8 4) (xgt_in _ (wm_1 216 rfl rfl)))
  obtain ⟨c9, i9, h9⟩ := u_known (C := RX9) (T := TX9) (N := 9) (n := 9) hts (fun w h => xgt_in w (xin_X9 w h)) (hts (.instantiable RX9 9) (xgt_in _ (wm_1 218 rfl rfl)))
  obtain ⟨c10, i10, h10⟩ := u_known (C := RX10) (T := TX10) (N := 13) (n := 13) hts (fun w h => xgt_in w (xin_X10 w h)) (hts (.instantiable RX10 13) (xgt_in _ (wm_2 90 rfl rfl)))
  obtain ⟨c11, i11, h11⟩ := u_known (C := RX11) (T := TX11) (N := 15) (n := 15) hts (fun w h => xgt_in w (xin_X11 w h)) (hts (.instantiable RX11 15) (xgt_in _ (wm_1 29 rfl rfl)))
  obtain ⟨c12, i12, h12⟩ := u_known (C := RX12) (T := TX12) (N := 69) (n := 69) hts (fun w h => xgt_in w (xin_X12 w h)) (hts (.instantiable RX12 69) (xgt_in _ (wm_6 71 rfl rfl)))
  refine ⟨fun k => if k = 0 then c0 else if k = 1 then c1 else if k = 2 then c2 else if k = 3 then c3 else if k = 4 then c4 else if k = 5 then c5 else if k = 6 then c6 else if k = 7 then c7 else if k = 8 then c8 else if k = 9 then c9 else if k = 10 then c10 else if k = 11 then c11 else c12, fun k => if k = 0 then i0 else if k = 1 then i1 else if k = 2 then i2 else if k = 3 then i3 else if k = 4 then i4 else if k = 5 then i5 else if k = 6 then i6 else if k = 7 then i7 else if k = 8 then i8 else if k = 9 then i9 else if k = 10 then i10 else if k = 11 then i11 else i12, ?_⟩
  intro k q hq
  match k, hq with
  | 0, hq => cases hq; exact h0
  | 1, hq => cases hq; exact h1
  | 2, hq => cases hq; exact h2
  | 3, hq => cases hq; exact h3
  | 4, hq => cases hq; exact h4
  | 5, hq => cases hq; exact h5
  | 6, hq => cases hq; exact h6
  | 7, hq => cases hq; exact h7
  | 8, hq => cases hq; exact h8
  | 9, hq => cases hq; exact h9
  | 10, hq => cases hq; exact h10
  | 11, hq => cases hq; exact h11
  | 12, hq => cases hq; exact h12
  | k + 13, hq => simp [vwCl] at hq
theorem xarrT {args : Array Value} {s : State} {ty : FieldType} (h : (Cond.arrayClass ty).before args s = true) : ∃ cA : ClassId, ArrOfT s cA ty ∧ s.vm.findClass ("[" ++ ty.toString) = some cA := by
  obtain ⟨cA, k, comp, h1, h2, h3⟩ := Cond.arrayClass_spec h
  exact ⟨cA, fun n z => ⟨(fun q hq => by cases hq), k, h2, comp, h3⟩, h1⟩
theorem xarrA {args : Array Value} {s : State} (h : (Cond.arrayOver (.array .int)).before args s = true) : ∃ cA : ClassId, ArrOfT s cA (.array .int) ∧ s.vm.findClass ("[" ++ (FieldType.array .int).toString) = some cA := by
  obtain ⟨comp, cA, k, h1, h2, h3, h4⟩ := Cond.arrayOver_specA h
  exact ⟨cA, fun n z => ⟨(fun q hq => by cases hq), k, h2, comp, h3⟩, h4⟩
theorem xworld {args : Array Value} {s : State} (hts : ∀ w ∈ lw_tbl, w.before args s = true) : ∃ (D : va_G) (dA : Nat → ClassId), va_K D vwCl (xtys dA) s := by
  obtain ⟨dC, dI, hK⟩ := xclasses hts
  obtain ⟨a0, g0, f0⟩ := xarrT (hts (.arrayClass .int) (by decide +kernel))
  obtain ⟨a1, g1, f1⟩ := xarrT (hts (.arrayClass .byte) (by decide +kernel))
  obtain ⟨a2, g2, f2⟩ := xarrT (hts (.arrayClass .long) (by decide +kernel))
  obtain ⟨a3, g3, f3⟩ := xarrT (hts (.arrayClass .boolean) (by decide +kernel))
  obtain ⟨a4, g4, f4⟩ := xarrA (hts (.arrayOver (.array .int)) (by decide +kernel))
  refine ⟨(dC, dI), fun k => if k = 0 then a0 else if k = 1 then a1 else if k = 2 then a2 else if k = 3 then a3 else a4, hK, fun k q hq => ?_⟩
  match k, hq with
  | 0, hq => cases hq; exact ⟨g0, f0⟩
  | 1, hq => cases hq; exact ⟨g1, f1⟩
  | 2, hq => cases hq; exact ⟨g2, f2⟩
  | 3, hq => cases hq; exact ⟨g3, f3⟩
  | 4, hq => cases hq; exact ⟨g4, f4⟩
  | k + 5, hq => simp [xtys] at hq
theorem xgetm (l : List Nat) (j : Nat) : (l.map nI).getD j 0 = nI (l.getD j 0) := by
  rw [List.getD_eq_getElem?_getD, List.getD_eq_getElem?_getD, List.getElem?_map]
  cases l[j]? <;> rfl
