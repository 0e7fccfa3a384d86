/-- a lookup switch -/
theorem xlook_off {pc : Nat} {dflt : Int} : ∀ (ps : List (Int × Int)) (cs : List (Nat × Nat)), ps.length = cs.length → (∀ i, i < cs.length → (ps.getD i (0, 0)).1 = ((cs.getD i (0, 0)).1 : Int) ∧ (pc : Int) + (ps.getD i (0, 0)).2 = ((cs.getD i (0, 0)).2 : Int)) → ∀ x : Int,
    (∃ q ∈ cs, x = (q.1 : Int) ∧ (pc : Int) + Op.lookupswitch.offset ps dflt x = (q.2 : Int)) ∨ ((∀ q ∈ cs, ¬ x = (q.1 : Int)) ∧ Op.lookupswitch.offset ps dflt x = dflt)
  | [], [], _, _, x => Or.inr ⟨fun q hq => (by cases hq), rfl⟩
  | a :: r, b :: s, hl, h, x => by
    have h0 := h 0 (by simp)
    simp only [List.getD_cons_zero] at h0
    obtain ⟨a1, a2⟩ := a
    rw [Op.lookupswitch.offset_cons]
    by_cases hx : x = a1
    · refine Or.inl ⟨b, List.mem_cons_self, by rw [hx]; exact h0.1, ?_⟩
      rw [if_pos (by first | exact hx | exact hx.symm | simp [hx])]
      exact h0.2
    · rw [if_neg (by first | exact hx | exact fun z => hx z.symm | simp [hx])]
      have hl2 : r.length = s.length := by simpa using hl
      rcases xlook_off (pc := pc) (dflt := dflt) r s hl2 (fun i hi => by
        have := h (i + 1) (by simpa using hi)
        simpa only [List.getD_cons_succ] using this) x with ⟨q, hq, e1, e2⟩ | ⟨hn, e⟩
      · exact Or.inl ⟨q, List.mem_cons_of_mem _ hq, e1, e2⟩
      · refine Or.inr ⟨fun q hq => ?_, e⟩
        rcases List.mem_cons.mp hq with rfl | hq
        · intro z
          exact hx (z.trans h0.1.symm)
        · exact hn q hq
  | [], _ :: _, hl, _, _ => by simp at hl
  | _ :: _, [], hl, _, _ => by simp at hl
theorem xr_lookN {cc : ByteArray} {own : String} {pc : Nat} {dflt : Int} {ps : Array (Int × Int)} {len df : Nat} {cs : List (Nat × Nat)} (d : decode cc pc = .ok (.lookupswitch dflt ps, len)) (hs : (ps.toList.zip (ps.toList.drop 1)).all (fun (a, next) => a.1 < next.1) = true) (h1 : (pc : Int) + dflt = (df : Int)) (h2 : ps.toList.length = cs.length ∧ ∀ i, i < cs.length → (ps.toList.getD i (0, 0)).1 = ((cs.getD i (0, 0)).1 : Int) ∧ (pc : Int) + (ps.toList.getD i (0, 0)).2 = ((cs.getD i (0, 0)).2 : Int)) (h3 : ∀ q ∈ cs, q.1 < 1000) (h4 : ∀ i, i < cs.length → ∀ j, j < cs.length → (cs.getD i (0, 0)).1 = (cs.getD j (0, 0)).1 → (cs.getD i (0, 0)).2 = (cs.getD j (0, 0)).2) : xSw cc own pc df cs := by
  intro p l e R s m args below meth c H locs cells slots Q ls rest C x h
  have ti : ∀ q ∈ cs, (nI q.1).toInt = (q.1 : Int) := fun q hq => nI_toInt (by have := h3 q hq; omega)
  rcases xlook_off (pc := pc) (dflt := dflt) ps.toList cs h2.1 h2.2 x.toInt with ⟨q, hq, e1, e2⟩ | ⟨hn, e⟩
  · have hxq : x = nI q.1 := Int32.toInt_inj.mp (by rw [ti q hq]; exact e1)
    rcases h with ⟨q', hq', e', hW⟩ | ⟨hn, hW⟩
    · have e3 : q'.1 = q.1 := by
        have := ti q' hq'
        rw [← e', e1] at this
        omega
      obtain ⟨i, hi⟩ := List.getElem?_of_mem hq
      obtain ⟨j, hj⟩ := List.getElem?_of_mem hq'
      have e4 := h4 j (List.getElem?_eq_some_iff.mp hj).1 i (List.getElem?_eq_some_iff.mp hi).1
      rw [List.getD_eq_getElem?_getD, List.getD_eq_getElem?_getD, hi, hj] at e4
      have e5 : q'.2 = q.2 := e4 e3
      rw [e5] at hW
      exact lv_lookup C.1 C.2.1 d hs rfl e2 hW
    · exact absurd hxq (hn q hq)
  · rcases h with ⟨q', hq', e', hW⟩ | ⟨-, hW⟩
    · refine absurd ?_ (hn q' hq')
      rw [e', ti q' hq']
    · exact lv_lookup C.1 C.2.1 d hs e h1 hW
