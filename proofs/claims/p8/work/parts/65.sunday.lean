def abc_sunday : aCon := (239, [(1, 95, 0, 0)], [], (3, 0, -2147483648, 2147483647), [((127, 0), 0, 0)], [(95, 1), (95, 53), (118, 0), (120, 0), (122, 0), (125, 0), (126, 1), (126, 2), (126, 3), (126, 4), (126, 5), (126, 6), (126, 7), (126, 8), (126, 9), (126, 10), (126, 11), (126, 12), (127, 1), (130, 0), (131, 0)], 7, [(9, 0, [([(0, (1, 95, 0, 0)), (1, (3, 0, 0, 0)), (2, (0, 0, 0, 0))], [], 3000, (1, 2, 0, -1, 2147483648), (0, 0, 0, 0, 1099511627776)), ([(0, (1, 95, 0, 0)), (1, (3, 0, -2147483648, 2147483647)), (2, (0, 0, 1, 0)), (3, (3, 0, -1, 5))], [], 3000, (1, 2, 0, -1, 2147483648), (0, 0, 0, 0, 1099511627776)), ([(0, (1, 95, 0, 0)), (1, (3, 0, -2147483648, 2147483647)), (2, (0, 0, 2, 0)), (3, (3, 0, -1, 5))], [], 3000, (1, 2, 0, -1, 2147483648), (0, 0, 0, 0, 1099511627776)), ([(0, (1, 95, 0, 0)), (1, (3, 0, -2147483648, 2147483647)), (2, (0, 0, 3, 0)), (3, (3, 0, -1, 5))], [], 3000, (1, 2, 0, -1, 2147483648), (0, 0, 0, 0, 1099511627776)), ([(0, (1, 95, 0, 0)), (1, (3, 0, -2147483648, 2147483647)), (2, (0, 0, 4, 0)), (3, (3, 0, -1, 5))], [], 3000, (1, 2, 0, -1, 2147483648), (0, 0, 0, 0, 1099511627776)), ([(0, (1, 95, 0, 0)), (1, (3, 0, -2147483648, 2147483647)), (2, (0, 0, 5, 0)), (3, (3, 0, -1, 5))], [], 3000, (1, 2, 0, -1, 2147483648), (0, 0, 0, 0, 1099511627776)), ([(0, (1, 95, 0, 0)), (1, (3, 0, -2147483648, 2147483647)), (2, (0, 0, 6, 0)), (3, (3, 0, -1, 5))], [], 3000, (1, 2, 0, -1, 2147483648), (0, 0, 0, 0, 1099511627776)), ([(0, (1, 95, 0, 0)), (1, (3, 0, -2147483648, 2147483647)), (2, (0, 0, 7, 0)), (3, (3, 0, -1, 5))], [], 3000, (1, 2, 0, -1, 2147483648), (0, 0, 0, 0, 1099511627776)), ([(0, (1, 95, 0, 0)), (1, (3, 0, -2147483648, 2147483647)), (2, (0, 0, 8, 0)), (3, (3, 0, -1, 5))], [], 3000, (1, 2, 0, -1, 2147483648), (0, 0, 0, 0, 1099511627776)), ([(0, (1, 95, 0, 0)), (1, (3, 0, -2147483648, 2147483647)), (2, (0, 0, 9, 0)), (3, (3, 0, -1, 5))], [], 3000, (1, 2, 0, -1, 2147483648), (0, 0, 0, 0, 1099511627776)), ([(0, (1, 95, 0, 0)), (1, (3, 0, -2147483648, 2147483647)), (2, (0, 0, 10, 0)), (3, (3, 0, -1, 5))], [], 3000, (1, 2, 0, -1, 2147483648), (0, 0, 0, 0, 1099511627776)), ([(0, (1, 95, 0, 0)), (1, (3, 0, -2147483648, 2147483647)), (2, (0, 0, 11, 0)), (3, (3, 0, -1, 5))], [], 3000, (1, 2, 0, -1, 2147483648), (0, 0, 0, 0, 1099511627776)), ([(0, (1, 95, 0, 0)), (1, (3, 0, -2147483648, 2147483647)), (2, (0, 0, 12, 0)), (3, (3, 0, -1, 5))], [], 3000, (1, 2, 0, -1, 2147483648), (0, 0, 0, 0, 1099511627776))]), (92, 0, [([(0, (1, 95, 0, 0)), (1, (3, 0, -2147483648, 2147483647)), (2, (3, 0, -2147483648, 2147483647)), (3, (3, 0, 0, 6))], [((127, 0), 0, 0)], 2000, (1, 3, 0, -1, 7), (0, 0, 0, 0, 1099511627776))])])
set_option maxRecDepth 1000000 in
theorem abs_sunday {Om : yMem → Prop} (hO : aOmF [97, 107, 114, 115, 116, 117] Om) (hO2 : aOmF yoc Om) (hm : yman Om) : aSnd Om abc_sunday := aSnd_of (T := [ac_94, ac_95, ac_102]) hO (xcns (as_94 hO2 hm) <| xcns (as_95 hO2 hm) <| xcns (as_102 hO2 hm) <| xnl) 76 (by decide +kernel) (by decide +kernel)
def OmAC (mem : yMem) : Prop := OmA mem ∧ OmC mem
theorem OmAC_F : aOmF [97, 107, 114, 115, 116, 117] OmAC := by
  intro a b h hO
  have f : ∀ i, i ∈ [97, 107, 114, 115, 116, 117] → b i = a i := fun i hi => funext fun j => h i j hi
  refine ⟨fun s hs => ?_, fun v hv => ?_⟩
  · rw [f 114 (by decide), f 115 (by decide), f 116 (by decide), f 117 (by decide)]
    exact hO.1 s hs
  · rw [h 97 1 (by decide)] at hv
    rw [h 107 v (by decide)]
    exact hO.2 v hv
theorem OmAC_F2 : aOmF yoc OmAC := fun a b h hO => OmAC_F a b (fun i j hi => h i j (by
  simp only [List.mem_cons, List.not_mem_nil, or_false] at hi
  rcases hi with rfl | rfl | rfl | rfl | rfl | rfl <;> decide)) hO
theorem beq_ne {a b : Nat} (h : ¬ a = b) : Nat.beq a b = false := by
  cases hb : Nat.beq a b with
  | false => rfl
  | true => exact absurd (Nat.eq_of_beq_eq_true hb) h
theorem beq_eq_false {a b : Nat} : (Nat.beq a b = false) = ¬ (a = b) := propext ⟨fun h e => (by rw [e, Nat.beq_refl] at h; cases h), fun h => beq_ne h⟩
theorem c_sunday {E : yE} (hE : yEok E) (hm : yman OmAC) {D : Nat} (hD : acD abc_sunday ≤ D) {mem : yMem} {Q : Option yV → yMem → Prop} (hG : aGok mem) (hO : Om mem) (hQ : ∀ r m, RQ mem m → Q (some (0, r)) m) : yCon E D xm_239 [(1, 95)] mem Q := by
  refine abs_sunday OmAC_F OmAC_F2 hm E hE _ hD _ rfl _ _ _ ⟨rfl, trivial⟩ hG ⟨hO.1, hO.2.2⟩ (fun q hq => by cases hq) (fun r m he => ?_)
  obtain ⟨k1, k2, k3, k4, k5⟩ := he
  match r, k1 with
  | some (t, x), k1 =>
    have ht : t = 0 := k1.1
    subst ht
    have k127 : w32 (m 127 0) = 0 := by
      have := k5 ((127, 0), 0, 0) (by decide)
      dsimp only at this
      omega
    have hall : (acW abc_sunday).all (fun q => ((Nat.beq q.1 95 || Nat.ble 118 q.1) && (!(Nat.beq q.1 128))) && ((!(Nat.beq q.1 126)) || (Nat.ble 1 q.2 && Nat.ble q.2 12)) && ((!(Nat.beq q.1 127)) || Nat.beq q.2 1) && ((!(Nat.beq q.1 95)) || ((Nat.ble 4 q.2 && (!(Nat.beq q.2 34)) && (!(Nat.beq q.2 35))) || Nat.beq q.2 1))) = true := by decide +kernel
    have no : ∀ i j, (i < 95 ∨ (96 ≤ i ∧ i ≤ 117) ∨ i = 128 ∨ (i = 126 ∧ 12 ≤ j) ∨ (i = 127 ∧ j ≠ 0) ∨ (i = 95 ∧ (j = 2 ∨ j = 33 ∨ j = 34))) → amod (acW abc_sunday) i j = false := fun i j h => by
      cases hm : amod (acW abc_sunday) i j with
      | false => rfl
      | true =>
        obtain ⟨q, q1, q2, q3⟩ := amod_ex hm
        have := List.all_eq_true.mp hall q q1
        rw [q2] at this
        simp only [Bool.or_eq_true, Bool.and_eq_true, Bool.not_eq_true', Nat.beq_eq, Nat.ble_eq, beq_eq_false] at this
        omega
    refine hQ _ _ ⟨k2, ⟨k3.1, ⟨⟨fun i hi => absurd hi (by rw [k127]; omega), fun i j hij hj => absurd hj (by rw [k127]; omega)⟩, OmB1_of (k4 127 1 (no _ _ (by omega))) (fun j hj => ⟨k4 126 j (no _ _ (by omega)), k4 128 j (no _ _ (by omega))⟩) hO.2.1.2⟩, k3.2⟩, fun i j hi => k4 i j (no _ _ (by omega)), fun j hj => k4 95 j (no _ _ (by omega))⟩
