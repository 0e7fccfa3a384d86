theorem xtext0 {args : Array Value} {s : State} (hgv : (Jvm.Cond.and given_1 narrow_1).before args s = true) : ∃ a v : Nat, (Term.string RX9 41).eval args s none [] s = some (.ref a) ∧ va_O "java/lang/String" a (fun q => s.heap.size ≤ q) s s.heap ∧ va_OF "java/lang/String" "coder" "B" (.int 0) a (fun q => s.heap.size ≤ q) s s.heap ∧ va_OF "java/lang/String" "value" "[B" (.ref v) a (fun q => s.heap.size ≤ q) s s.heap ∧ va_T .byte v (xlen.getD 0 0) (fun j => .int (nI ((xbyt.getD 0 []).getD j 0))) (fun q => s.heap.size ≤ q) s s.heap := by
  have hs := flat_of_before _ hgv
  have hm0 : ((flatC (Jvm.Cond.and given_1 narrow_1)).drop 43).take 68 = (List.range 68).map (fun j => Cond.eq (.elem (.field (Term.string RX9 41) "java/lang/String" "value" "[B") (.int (Int32.ofNat j))) (.int (((xbyt.getD 0 []).map nI).getD j 0))) := by decide +kernel
  have hm : ∀ j, j < 68 → Cond.eq (.elem (.field (Term.string RX9 41) "java/lang/String" "value" "[B") (.int (Int32.ofNat j))) (.int (((xbyt.getD 0 []).map nI).getD j 0)) ∈ flatC (Jvm.Cond.and given_1 narrow_1) := fun j hj => List.mem_of_mem_drop (List.mem_of_mem_take (by rw [hm0]; exact List.mem_map.mpr ⟨j, List.mem_range.mpr hj, rfl⟩))
  obtain ⟨aK, aV, hk, he⟩ := vk_Sof (args := args) (s := s) (N := 1) (tm := fun _ => Term.string RX9 41) (len := [68]) (byt := [(xbyt.getD 0 []).map nI]) (A := fun q => s.heap.size ≤ q)
    (fun i hi => by rw [show i = 0 by omega]; decide) (fun i hi => hs _ (by decide +kernel)) (fun i hi => hs _ (by decide +kernel)) (fun i hi => hs _ (by decide +kernel)) (fun i hi => by rw [show i = 0 by omega]; exact hs _ (by decide +kernel)) (fun i hi j hj => by
      have e : i = 0 := by omega
      subst e
      exact hs _ (hm j hj)) (fun i j hi hj hne => absurd (show i = j by omega) hne) (fun a ha => by show ¬ s.heap.size ≤ a; omega)
  obtain ⟨h1, h2, h3, h4⟩ := hk.1 0 (by omega)
  refine ⟨aK 0, aV 0, he 0 (by omega), h1, h2, h3, ?_⟩
  have e2 : (fun j => Value.int ((([(xbyt.getD 0 []).map nI] : List (List Int32)).getD 0 []).getD j 0)) = fun j => Value.int (nI ((xbyt.getD 0 []).getD j 0)) := funext fun j => congrArg Value.int (xgetm _ j)
  rw [e2] at h4
  exact h4
theorem xtext1 {args : Array Value} {s : State} (hgv : (Jvm.Cond.and given_1 narrow_1).before args s = true) : ∃ a v : Nat, (Term.string RX9 47).eval args s none [] s = some (.ref a) ∧ va_O "java/lang/String" a (fun q => s.heap.size ≤ q) s s.heap ∧ va_OF "java/lang/String" "coder" "B" (.int 0) a (fun q => s.heap.size ≤ q) s s.heap ∧ va_OF "java/lang/String" "value" "[B" (.ref v) a (fun q => s.heap.size ≤ q) s s.heap ∧ va_T .byte v (xlen.getD 1 0) (fun j => .int (nI ((xbyt.getD 1 []).getD j 0))) (fun q => s.heap.size ≤ q) s s.heap := by
  have hs := flat_of_before _ hgv
  have hm0 : ((flatC (Jvm.Cond.and given_1 narrow_1)).drop 115).take 48 = (List.range 48).map (fun j => Cond.eq (.elem (.field (Term.string RX9 47) "java/lang/String" "value" "[B") (.int (Int32.ofNat j))) (.int (((xbyt.getD 1 []).map nI).getD j 0))) := by decide +kernel
  have hm : ∀ j, j < 48 → Cond.eq (.elem (.field (Term.string RX9 47) "java/lang/String" "value" "[B") (.int (Int32.ofNat j))) (.int (((xbyt.getD 1 []).map nI).getD j 0)) ∈ flatC (Jvm.Cond.and given_1 narrow_1) := fun j hj => List.mem_of_mem_drop (List.mem_of_mem_take (by rw [hm0]; exact List.mem_map.mpr ⟨j, List.mem_range.mpr hj, rfl⟩))
  obtain ⟨aK, aV, hk, he⟩ := vk_Sof (args := args) (s := s) (N := 1) (tm := fun _ => Term.string RX9 47) (len := [48]) (byt := [(xbyt.getD 1 []).map nI]) (A := fun q => s.heap.size ≤ q)
    (fun i hi => by rw [show i = 0 by omega]; decide) (fun i hi => hs _ (by decide +kernel)) (fun i hi => hs _ (by decide +kernel)) (fun i hi => hs _ (by decide +kernel)) (fun i hi => by rw [show i = 0 by omega]; exact hs _ (by decide +kernel)) (fun i hi j hj => by
      have e : i = 0 := by omega
      subst e
      exact hs _ (hm j hj)) (fun i j hi hj hne => absurd (show i = j by omega) hne) (fun a ha => by show ¬ s.heap.size ≤ a; omega)
  obtain ⟨h1, h2, h3, h4⟩ := hk.1 0 (by omega)
  refine ⟨aK 0, aV 0, he 0 (by omega), h1, h2, h3, ?_⟩
  have e2 : (fun j => Value.int ((([(xbyt.getD 1 []).map nI] : List (List Int32)).getD 0 []).getD j 0)) = fun j => Value.int (nI ((xbyt.getD 1 []).getD j 0)) := funext fun j => congrArg Value.int (xgetm _ j)
  rw [e2] at h4
  exact h4
theorem xtext2 {args : Array Value} {s : State} (hgv : (Jvm.Cond.and given_1 narrow_1).before args s = true) : ∃ a v : Nat, (Term.string RX12 206).eval args s none [] s = some (.ref a) ∧ va_O "java/lang/String" a (fun q => s.heap.size ≤ q) s s.heap ∧ va_OF "java/lang/String" "coder" "B" (.int 0) a (fun q => s.heap.size ≤ q) s s.heap ∧ va_OF "java/lang/String" "value" "[B" (.ref v) a (fun q => s.heap.size ≤ q) s s.heap ∧ va_T .byte v (xlen.getD 2 0) (fun j => .int (nI ((xbyt.getD 2 []).getD j 0))) (fun q => s.heap.size ≤ q) s s.heap := by
  have hs := flat_of_before _ hgv
  have hm0 : ((flatC (Jvm.Cond.and given_1 narrow_1)).drop 206).take 118 = (List.range 118).map (fun j => Cond.eq (.elem (.field (Term.string RX12 206) "java/lang/String" "value" "[B") (.int (Int32.ofNat j))) (.int (((xbyt.getD 2 []).map nI).getD j 0))) := by decide +kernel
  have hm : ∀ j, j < 118 → Cond.eq (.elem (.field (Term.string RX12 206) "java/lang/String" "value" "[B") (.int (Int32.ofNat j))) (.int (((xbyt.getD 2 []).map nI).getD j 0)) ∈ flatC (Jvm.Cond.and given_1 narrow_1) := fun j hj => List.mem_of_mem_drop (List.mem_of_mem_take (by rw [hm0]; exact List.mem_map.mpr ⟨j, List.mem_range.mpr hj, rfl⟩))
  obtain ⟨aK, aV, hk, he⟩ := vk_Sof (args := args) (s := s) (N := 1) (tm := fun _ => Term.string RX12 206) (len := [118]) (byt := [(xbyt.getD 2 []).map nI]) (A := fun q => s.heap.size ≤ q)
    (fun i hi => by rw [show i = 0 by omega]; decide) (fun i hi => hs _ (by decide +kernel)) (fun i hi => hs _ (by decide +kernel)) (fun i hi => hs _ (by decide +kernel)) (fun i hi => by rw [show i = 0 by omega]; exact hs _ (by decide +kernel)) (fun i hi j hj => by
      have e : i = 0 := by omega
      subst e
      exact hs _ (hm j hj)) (fun i j hi hj hne => absurd (show i = j by omega) hne) (fun a ha => by show ¬ s.heap.size ≤ a; omega)
  obtain ⟨h1, h2, h3, h4⟩ := hk.1 0 (by omega)
  refine ⟨aK 0, aV 0, he 0 (by omega), h1, h2, h3, ?_⟩
  have e2 : (fun j => Value.int ((([(xbyt.getD 2 []).map nI] : List (List Int32)).getD 0 []).getD j 0)) = fun j => Value.int (nI ((xbyt.getD 2 []).getD j 0)) := funext fun j => congrArg Value.int (xgetm _ j)
  rw [e2] at h4
  exact h4
