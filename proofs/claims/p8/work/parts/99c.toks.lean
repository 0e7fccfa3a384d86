theorem s_112_0 {E : yE} {n d : Nat} {mem : yMem} {Post : Option yV → yMem → Prop} {st : List yV} {r1 r2 r3 : Option yV} {x : Int} : zvc E (n + 1) [] d xm_112 0 [some (1, x), r1, r2, r3] (st) mem Post = (zvc E n [] d xm_112 1 [some (1, x), r1, r2, r3] ((1, x) :: st) mem Post) := zrf rfl
theorem s_112_1 {E : yE} {n d : Nat} {mem : yMem} {Post : Option yV → yMem → Prop} {st : List yV} {r0 r1 r2 r3 : Option yV} : zvc E (n + 1) [] d xm_112 1 [r0, r1, r2, r3] ((1, 54) :: st) mem Post = (zvc E n [] d xm_112 4 [r0, r1, r2, r3] ((1, 55) :: st) mem Post) := zrf rfl
theorem s_112_4 {E : yE} {n d : Nat} {mem : yMem} {Post : Option yV → yMem → Prop} {st : List yV} {r0 r1 r2 r3 : Option yV} : zvc E (n + 1) [] d xm_112 4 [r0, r1, r2, r3] ((1, 55) :: st) mem Post = (zvc E n [] d xm_112 7 [r0, r1, r2, r3] ((0, mem 55 6) :: st) mem Post) := zrf rfl
theorem s_112_7n {E : yE} {n d : Nat} {mem : yMem} {Post : Option yV → yMem → Prop} {st : List yV} {r0 r1 r3 : Option yV} {x : Int} : zvc E (n + 1) [] d xm_112 7 [r0, r1, none, r3] ((0, x) :: st) mem Post = (zvc E n [] d xm_112 8 [r0, r1, none, some (0, x)] (st) mem Post) := zrf rfl
theorem s_112_7i {E : yE} {n d : Nat} {mem : yMem} {Post : Option yV → yMem → Prop} {st : List yV} {r0 r1 r3 : Option yV} {x w : Int} : zvc E (n + 1) [] d xm_112 7 [r0, r1, some (0, w), r3] ((0, x) :: st) mem Post = (zvc E n [] d xm_112 8 [r0, r1, some (0, w), some (0, x)] (st) mem Post) := zrf rfl
theorem s_112_7p {E : yE} {n d : Nat} {mem : yMem} {Post : Option yV → yMem → Prop} {st : List yV} {r0 r1 r3 : Option yV} {x w : Int} : zvc E (n + 1) [] d xm_112 7 [r0, r1, some (1, w), r3] ((0, x) :: st) mem Post = (zvc E n [] d xm_112 8 [r0, r1, some (1, w), some (0, x)] (st) mem Post) := zrf rfl
theorem s_112_7j {E : yE} {n d : Nat} {mem : yMem} {Post : Option yV → yMem → Prop} {st : List yV} {r0 r1 r2 r3 : Option yV} {x : Int} : zvc E (n + 1) [] d xm_112 7 [r0, r1, r2, r3] ((0, x) :: st) mem Post = (zvc E n [] d xm_112 8 [r0, r1, znl r2, some (0, x)] (st) mem Post) := zrf rfl
theorem s_112_8 {E : yE} {n d : Nat} {mem : yMem} {Post : Option yV → yMem → Prop} {st : List yV} {r1 r2 r3 : Option yV} {x : Int} : zvc E (n + 1) [] d xm_112 8 [some (1, x), r1, r2, r3] (st) mem Post = (zvc E n [] d xm_112 9 [some (1, x), r1, r2, r3] ((1, x) :: st) mem Post) := zrf rfl
theorem s_112_9 {E : yE} {n d : Nat} {mem : yMem} {Post : Option yV → yMem → Prop} {st : List yV} {r0 r1 r2 r3 : Option yV} : zvc E (n + 1) [] d xm_112 9 [r0, r1, r2, r3] ((1, 54) :: st) mem Post = (zvc E n [] d xm_112 12 [r0, r1, r2, r3] ((1, 55) :: st) mem Post) := zrf rfl
theorem s_112_12 {E : yE} {n d : Nat} {mem : yMem} {Post : Option yV → yMem → Prop} {st : List yV} {r0 r1 r2 r3 : Option yV} : zvc E (n + 1) [] d xm_112 12 [r0, r1, r2, r3] ((1, 55) :: st) mem Post = (zvc E n [] d xm_112 15 [r0, r1, r2, r3] ((0, mem 55 4) :: st) mem Post) := zrf rfl
theorem s_112_15 {E : yE} {n d : Nat} {mem : yMem} {Post : Option yV → yMem → Prop} {st : List yV} {r0 r1 r2 r3 : Option yV} : zvc E (n + 1) [] d xm_112 15 [r0, r1, r2, r3] (st) mem Post = (zvc E n [] d xm_112 16 [r0, r1, r2, r3] ((0, 2) :: st) mem Post) := zrf rfl
theorem s_112_16 {E : yE} {n d : Nat} {mem : yMem} {Post : Option yV → yMem → Prop} {st : List yV} {r0 r1 r2 r3 : Option yV} {x y : Int} : zvc E (n + 1) [] d xm_112 16 [r0, r1, r2, r3] ((0, y) :: (0, x) :: st) mem Post = ((w32 x = w32 y → zvc E n [] d xm_112 30 [r0, r1, r2, r3] (st) mem Post) ∧ (¬ (w32 x = w32 y) → zvc E n [] d xm_112 19 [r0, r1, r2, r3] (st) mem Post)) := zrf rfl
theorem s_112_19 {E : yE} {n d : Nat} {mem : yMem} {Post : Option yV → yMem → Prop} {st : List yV} {r1 r2 r3 : Option yV} {x : Int} : zvc E (n + 1) [] d xm_112 19 [some (1, x), r1, r2, r3] (st) mem Post = (zvc E n [] d xm_112 20 [some (1, x), r1, r2, r3] ((1, x) :: st) mem Post) := zrf rfl
theorem s_112_20 {E : yE} {n d : Nat} {mem : yMem} {Post : Option yV → yMem → Prop} {st : List yV} {r0 r1 r2 r3 : Option yV} : zvc E (n + 1) [] d xm_112 20 [r0, r1, r2, r3] ((1, 54) :: st) mem Post = (zvc E n [] d xm_112 23 [r0, r1, r2, r3] ((1, 55) :: st) mem Post) := zrf rfl
theorem s_112_23 {E : yE} {n d : Nat} {mem : yMem} {Post : Option yV → yMem → Prop} {st : List yV} {r0 r1 r2 r3 : Option yV} : zvc E (n + 1) [] d xm_112 23 [r0, r1, r2, r3] (st) mem Post = (zvc E n [] d xm_112 24 [r0, r1, r2, r3] ((0, 1) :: st) mem Post) := zrf rfl
theorem s_112_24 {E : yE} {n d : Nat} {mem : yMem} {Post : Option yV → yMem → Prop} {st : List yV} {r0 r1 r2 r3 : Option yV} {z a0 : Int} : zvc E (n + 1) [] (d + 1) xm_112 24 [r0, r1, r2, r3] ((0, a0) :: (1, z) :: st) mem Post = (zio z 9 = true ∧ ysum st ≤ 8 ∧ zvc E n [] d xm_123 0 [some (1, z), some (0, a0)] [] mem (fun v mem' => zvk E n [] (d + 1) xm_112 27 [r0, r1, r2, r3] st v mem' Post)) := zrf rfl
theorem s_112_27a {E : yE} {n d : Nat} {mem : yMem} {Post : Option yV → yMem → Prop} {st : List yV} {r0 r1 r2 r3 : Option yV} {x : Int} : zvc E (n + 1) [] d xm_112 27 [r0, r1, r2, r3] ((0, x) :: st) mem Post = (zvc E n [] d xm_112 28 [r0, r1, r2, r3] (st) mem Post) := zrf rfl
theorem s_112_27b {E : yE} {n d : Nat} {mem : yMem} {Post : Option yV → yMem → Prop} {st : List yV} {r0 r1 r2 r3 : Option yV} {x : Int} : zvc E (n + 1) [] d xm_112 27 [r0, r1, r2, r3] ((1, x) :: st) mem Post = (zvc E n [] d xm_112 28 [r0, r1, r2, r3] (st) mem Post) := zrf rfl
theorem s_112_28 {E : yE} {n d : Nat} {mem : yMem} {Post : Option yV → yMem → Prop} {st : List yV} {r0 r2 r3 : Option yV} {x : Int} : zvc E (n + 1) [] d xm_112 28 [r0, some (0, x), r2, r3] (st) mem Post = (zvc E n [] d xm_112 29 [r0, some (0, x), r2, r3] ((0, x) :: st) mem Post) := zrf rfl
theorem s_112_29 {E : yE} {n d : Nat} {mem : yMem} {Post : Option yV → yMem → Prop} {r0 r1 r2 r3 : Option yV} {x : Int} : zvc E (n + 1) [] d xm_112 29 [r0, r1, r2, r3] ([(0, x)]) mem Post = (Post (some (0, x)) mem) := zrf rfl
theorem s_112_30 {E : yE} {n d : Nat} {mem : yMem} {Post : Option yV → yMem → Prop} {st : List yV} {r0 r1 r2 : Option yV} {x : Int} : zvc E (n + 1) [] d xm_112 30 [r0, r1, r2, some (0, x)] (st) mem Post = (zvc E n [] d xm_112 31 [r0, r1, r2, some (0, x)] ((0, x) :: st) mem Post) := zrf rfl
theorem s_112_31 {E : yE} {n d : Nat} {mem : yMem} {Post : Option yV → yMem → Prop} {st : List yV} {r0 r2 r3 : Option yV} {x : Int} : zvc E (n + 1) [] d xm_112 31 [r0, some (0, x), r2, r3] (st) mem Post = (zvc E n [] d xm_112 32 [r0, some (0, x), r2, r3] ((0, x) :: st) mem Post) := zrf rfl
theorem s_112_32 {E : yE} {n d : Nat} {mem : yMem} {Post : Option yV → yMem → Prop} {st : List yV} {r0 r1 r2 r3 : Option yV} {x y : Int} : zvc E (n + 1) [] d xm_112 32 [r0, r1, r2, r3] ((0, y) :: (0, x) :: st) mem Post = ((w32 x < w32 y → zvc E n [] d xm_112 40 [r0, r1, r2, r3] (st) mem Post) ∧ (¬ (w32 x < w32 y) → zvc E n [] d xm_112 35 [r0, r1, r2, r3] (st) mem Post)) := zrf rfl
theorem s_112_35 {E : yE} {n d : Nat} {mem : yMem} {Post : Option yV → yMem → Prop} {st : List yV} {r0 r1 r2 : Option yV} {x : Int} : zvc E (n + 1) [] d xm_112 35 [r0, r1, r2, some (0, x)] (st) mem Post = (zvc E n [] d xm_112 36 [r0, r1, r2, some (0, x)] ((0, x) :: st) mem Post) := zrf rfl
theorem s_112_36 {E : yE} {n d : Nat} {mem : yMem} {Post : Option yV → yMem → Prop} {st : List yV} {r0 r1 r3 : Option yV} {x : Int} : zvc E (n + 1) [] d xm_112 36 [r0, r1, some (0, x), r3] (st) mem Post = (zvc E n [] d xm_112 37 [r0, r1, some (0, x), r3] ((0, x) :: st) mem Post) := zrf rfl
theorem s_112_37 {E : yE} {n d : Nat} {mem : yMem} {Post : Option yV → yMem → Prop} {st : List yV} {r0 r1 r2 r3 : Option yV} {x y : Int} : zvc E (n + 1) [] d xm_112 37 [r0, r1, r2, r3] ((0, y) :: (0, x) :: st) mem Post = ((w32 x ≤ w32 y → zvc E n [] d xm_112 51 [r0, r1, r2, r3] (st) mem Post) ∧ (¬ (w32 x ≤ w32 y) → zvc E n [] d xm_112 40 [r0, r1, r2, r3] (st) mem Post)) := zrf rfl
theorem s_112_40 {E : yE} {n d : Nat} {mem : yMem} {Post : Option yV → yMem → Prop} {st : List yV} {r1 r2 r3 : Option yV} {x : Int} : zvc E (n + 1) [] d xm_112 40 [some (1, x), r1, r2, r3] (st) mem Post = (zvc E n [] d xm_112 41 [some (1, x), r1, r2, r3] ((1, x) :: st) mem Post) := zrf rfl
theorem s_112_41 {E : yE} {n d : Nat} {mem : yMem} {Post : Option yV → yMem → Prop} {st : List yV} {r0 r1 r2 r3 : Option yV} : zvc E (n + 1) [] d xm_112 41 [r0, r1, r2, r3] ((1, 54) :: st) mem Post = (zvc E n [] d xm_112 44 [r0, r1, r2, r3] ((1, 55) :: st) mem Post) := zrf rfl
theorem s_112_44 {E : yE} {n d : Nat} {mem : yMem} {Post : Option yV → yMem → Prop} {st : List yV} {r0 r1 r2 r3 : Option yV} : zvc E (n + 1) [] d xm_112 44 [r0, r1, r2, r3] (st) mem Post = (zvc E n [] d xm_112 45 [r0, r1, r2, r3] ((0, 2) :: st) mem Post) := zrf rfl
theorem s_112_45 {E : yE} {n d : Nat} {mem : yMem} {Post : Option yV → yMem → Prop} {st : List yV} {r0 r1 r2 r3 : Option yV} {z a0 : Int} : zvc E (n + 1) [] (d + 1) xm_112 45 [r0, r1, r2, r3] ((0, a0) :: (1, z) :: st) mem Post = (zio z 9 = true ∧ ysum st ≤ 8 ∧ zvc E n [] d xm_123 0 [some (1, z), some (0, a0)] [] mem (fun v mem' => zvk E n [] (d + 1) xm_112 48 [r0, r1, r2, r3] st v mem' Post)) := zrf rfl
theorem s_112_48a {E : yE} {n d : Nat} {mem : yMem} {Post : Option yV → yMem → Prop} {st : List yV} {r0 r1 r2 r3 : Option yV} {x : Int} : zvc E (n + 1) [] d xm_112 48 [r0, r1, r2, r3] ((0, x) :: st) mem Post = (zvc E n [] d xm_112 49 [r0, r1, r2, r3] (st) mem Post) := zrf rfl
theorem s_112_48b {E : yE} {n d : Nat} {mem : yMem} {Post : Option yV → yMem → Prop} {st : List yV} {r0 r1 r2 r3 : Option yV} {x : Int} : zvc E (n + 1) [] d xm_112 48 [r0, r1, r2, r3] ((1, x) :: st) mem Post = (zvc E n [] d xm_112 49 [r0, r1, r2, r3] (st) mem Post) := zrf rfl
theorem s_112_49 {E : yE} {n d : Nat} {mem : yMem} {Post : Option yV → yMem → Prop} {st : List yV} {r0 r2 r3 : Option yV} {x : Int} : zvc E (n + 1) [] d xm_112 49 [r0, some (0, x), r2, r3] (st) mem Post = (zvc E n [] d xm_112 50 [r0, some (0, x), r2, r3] ((0, x) :: st) mem Post) := zrf rfl
theorem s_112_50 {E : yE} {n d : Nat} {mem : yMem} {Post : Option yV → yMem → Prop} {r0 r1 r2 r3 : Option yV} {x : Int} : zvc E (n + 1) [] d xm_112 50 [r0, r1, r2, r3] ([(0, x)]) mem Post = (Post (some (0, x)) mem) := zrf rfl
theorem s_112_51 {E : yE} {n d : Nat} {mem : yMem} {Post : Option yV → yMem → Prop} {st : List yV} {r1 r2 r3 : Option yV} {x : Int} : zvc E (n + 1) [] d xm_112 51 [some (1, x), r1, r2, r3] (st) mem Post = (zvc E n [] d xm_112 52 [some (1, x), r1, r2, r3] ((1, x) :: st) mem Post) := zrf rfl
theorem s_112_52 {E : yE} {n d : Nat} {mem : yMem} {Post : Option yV → yMem → Prop} {st : List yV} {r0 r1 r2 r3 : Option yV} : zvc E (n + 1) [] d xm_112 52 [r0, r1, r2, r3] ((1, 54) :: st) mem Post = (zvc E n [] d xm_112 55 [r0, r1, r2, r3] ((1, 55) :: st) mem Post) := zrf rfl
theorem s_112_55 {E : yE} {n d : Nat} {mem : yMem} {Post : Option yV → yMem → Prop} {st : List yV} {r0 r1 r2 r3 : Option yV} {z : Int} : zvc E (n + 1) [] d xm_112 55 [r0, r1, r2, r3] ((1, z) :: st) mem Post = (zio z 9 = true ∧ ysum st ≤ 8 ∧ yCon E d xm_126 [(1, z)] mem (fun v mem' => zgk E d xm_112 58 [r0, r1, r2, r3] st v mem' Post)) := zrf rfl
theorem s_112_58 {E : yE} {n d : Nat} {mem : yMem} {Post : Option yV → yMem → Prop} {st : List yV} {r0 r1 r2 : Option yV} {x : Int} : zvc E (n + 1) [] d xm_112 58 [r0, r1, r2, some (0, x)] (st) mem Post = (zvc E n [] d xm_112 59 [r0, r1, r2, some (0, x)] ((0, x) :: st) mem Post) := zrf rfl
theorem s_112_59 {E : yE} {n d : Nat} {mem : yMem} {Post : Option yV → yMem → Prop} {r0 r1 r2 r3 : Option yV} {x : Int} : zvc E (n + 1) [] d xm_112 59 [r0, r1, r2, r3] ([(0, x)]) mem Post = (Post (some (0, x)) mem) := zrf rfl
theorem e_112 {E : yE} {d : Nat} {mem : yMem} {Q : Option yV → yMem → Prop} {z a0 a1 : Int} (h : zG E d xm_112 0 [some (1, z), some (0, a0), some (0, a1), none] [] mem Q) : yCon E (d + 1) xm_112 [(1, z), (0, a0), (0, a1)] mem Q := zcon_of xmo_112 (Nat.le_of_ble_eq_true rfl) h

/-! token lists -/
theorem sRn_ex (ch : Nat → Int) (lo hi : Int) (n : Nat) : ∀ (c a : Nat), n - a = c → a ≤ n → ∃ e, sRn ch lo hi n a e := by
  intro c
  induction c with
  | zero => exact fun a h1 h2 => ⟨a, Nat.le_refl _, h2, fun j j1 j2 => absurd j2 (by omega), fun h => absurd h (by omega)⟩
  | succ c ih =>
    intro a h1 h2
    by_cases h : lo ≤ ch a ∧ ch a ≤ hi
    · obtain ⟨e, e1, e2, e3, e4⟩ := ih (a + 1) (by omega) (by omega)
      refine ⟨e, by omega, e2, fun j j1 j2 => ?_, e4⟩
      by_cases hj : j = a
      · subst hj; exact h
      · exact e3 j (by omega) j2
    · exact ⟨a, Nat.le_refl _, h2, fun j j1 j2 => absurd j2 (by omega), fun _ => h⟩
theorem sBk_ex (ch : Nat → Int) (n : Nat) : ∀ (c a : Nat), n - a = c → a ≤ n → ∃ p, sBk ch n a p := by
  intro c
  induction c with
  | zero => exact fun a h1 h2 => ⟨a, Nat.le_refl _, h2, fun j j1 j2 => absurd j2 (by omega), fun h => absurd h (by omega)⟩
  | succ c ih =>
    intro a h1 h2
    by_cases h : ch a = 10 ∨ ch a = 32
    · obtain ⟨e, e1, e2, e3, e4⟩ := ih (a + 1) (by omega) (by omega)
      refine ⟨e, by omega, e2, fun j j1 j2 => ?_, e4⟩
      by_cases hj : j = a
      · subst hj; exact h
      · exact e3 j (by omega) j2
    · exact ⟨a, Nat.le_refl _, h2, fun j j1 j2 => absurd j2 (by omega), fun _ => h⟩
theorem sTk_ex (ch : Nat → Int) (n a : Nat) (h : a ≤ n) : ∃ k p v e, sTk ch n a k p v e := by
  obtain ⟨p, hB⟩ := sBk_ex ch n _ a rfl h
  by_cases hp : p = n
  · exact ⟨0, p, 0, n, hB, Or.inl ⟨hp, rfl, rfl, rfl⟩⟩
  · have hpn : p < n := by have := hB.2.1; omega
    by_cases h1 : 97 ≤ ch p ∧ ch p ≤ 122
    · obtain ⟨e, hR⟩ := sRn_ex ch 97 122 n _ p rfl (by omega)
      by_cases h6 : p + 6 < e
      · exact ⟨1, p, 0, e, hB, Or.inr (Or.inl ⟨hpn, h1, hR, Or.inl ⟨h6, rfl, rfl⟩⟩)⟩
      · exact ⟨_, p, _, e, hB, Or.inr (Or.inl ⟨hpn, h1, hR, Or.inr ⟨by omega, rfl, rfl⟩⟩)⟩
    · by_cases h2 : 48 ≤ ch p ∧ ch p ≤ 57
      · obtain ⟨e, hR⟩ := sRn_ex ch 48 57 n _ p rfl (by omega)
        exact ⟨2, p, _, e, hB, Or.inr (Or.inr (Or.inl ⟨hpn, h2, hR, rfl, rfl⟩))⟩
      · exact ⟨_, p, 0, _, hB, Or.inr (Or.inr (Or.inr ⟨hpn, h1, h2, rfl, rfl, rfl⟩))⟩
theorem sTk_0 {ch : Nat → Int} {n a p e : Nat} {v : Int} (h : sTk ch n a 0 p v e) : p = n ∧ v = 0 ∧ e = n := by
  rcases h.2 with ⟨h1, h2, h3, h4⟩ | ⟨h1, h2, h3, h4⟩ | ⟨h1, h2, h3, h4, h5⟩ | ⟨h1, h2, h3, h4, h5, h6⟩
  · exact ⟨h1, h3, h4⟩
  · rcases h4 with ⟨_, h, _⟩ | ⟨_, h, _⟩
    · exact absurd h (by decide)
    · have := sWk_k (sPk ch p e)
      omega
  · exact absurd h4 (by decide)
  · have := sSg_k (ch p) (if p + 1 < n then ch (p + 1) else 0)
    omega
/-- the tokens from a on, up to the end -/
def sTl (ch : Nat → Int) (n : Nat) : List sT → Nat → Prop
  | [], _ => False
  | t :: r, a => ∃ e, sTk ch n a t.1 t.2.1 t.2.2 e ∧ ((t.1 = 0 ∧ r = []) ∨ (t.1 ≠ 0 ∧ sTl ch n r e))
theorem sTl_ex (ch : Nat → Int) (n : Nat) : ∀ (c a : Nat), n - a = c → a ≤ n → ∃ l, sTl ch n l a ∧ l.length ≤ c + 1 := by
  intro c
  induction c using Nat.strongRecOn with
  | ind c ih =>
    intro a h1 h2
    obtain ⟨k, p, v, e, ht⟩ := sTk_ex ch n a h2
    have hl := sTk_lt ht
    by_cases hk : k = 0
    · exact ⟨[(k, p, v)], ⟨e, ht, Or.inl ⟨hk, rfl⟩⟩, by simp⟩
    · have := hl.2.2.2 hk
      obtain ⟨l, hl1, hl2⟩ := ih (n - e) (by omega) e rfl hl.2.2.1
      exact ⟨(k, p, v) :: l, ⟨e, ht, Or.inr ⟨hk, hl1⟩⟩, by rw [List.length_cons]; omega⟩
theorem sTl_u {ch : Nat → Int} {n : Nat} : ∀ {l l' : List sT} {a : Nat}, sTl ch n l a → sTl ch n l' a → l = l'
  | [], _, _, h, _ => h.elim
  | _ :: _, [], _, _, h => h.elim
  | t :: r, t' :: r', a, h, h' => by
    obtain ⟨e, h1, h2⟩ := h
    obtain ⟨e', g1, g2⟩ := h'
    obtain ⟨q1, q2, q3, q4⟩ := sTk_u h1 g1
    obtain ⟨k, p, v⟩ := t
    obtain ⟨k', p', v'⟩ := t'
    dsimp only at q1 q2 q3 h2 g2
    subst q1; subst q2; subst q3; subst q4
    rcases h2 with ⟨a1, a2⟩ | ⟨a1, a2⟩ <;> rcases g2 with ⟨b1, b2⟩ | ⟨b1, b2⟩
    · rw [a2, b2]
    · exact absurd a1 b1
    · exact absurd b1 a1
    · rw [sTl_u a2 b2]
/-- l is read, its first token stands, e is behind it -/
def sCu (ch : Nat → Int) (n : Nat) (l : List sT) (e : Nat) : Prop := ∃ a, sTl ch n l a ∧ sTk ch n a (sHd l).1 (sHd l).2.1 (sHd l).2.2 e
theorem sTl_cu {ch : Nat → Int} {n a k p e : Nat} {v : Int} {l : List sT} (h : sTl ch n l a) (ht : sTk ch n a k p v e) : sHd l = (k, p, v) ∧ sCu ch n l e := by
  cases l with
  | nil => exact h.elim
  | cons t r =>
    obtain ⟨e', h1, h2⟩ := h
    obtain ⟨q1, q2, q3, q4⟩ := sTk_u h1 ht
    have eq : sHd (t :: r) = (k, p, v) := by
      show t = _
      obtain ⟨k', p', v'⟩ := t
      dsimp only at q1 q2 q3
      rw [q1, q2, q3]
    refine ⟨eq, a, ⟨e', h1, h2⟩, ?_⟩
    rw [eq]
    exact ht
def sNx (l : List sT) : List sT := if (sHd l).1 = 0 then l else l.tail
theorem sCu_nx {ch : Nat → Int} {n e : Nat} {l : List sT} (h : sCu ch n l e) : sTl ch n (sNx l) e ∧ e ≤ n := by
  obtain ⟨a, h1, ht⟩ := h
  have hl := sTk_lt ht
  refine ⟨?_, hl.2.2.1⟩
  cases l with
  | nil => exact h1.elim
  | cons t r =>
    obtain ⟨e', g1, g2⟩ := h1
    have hq : sHd (t :: r) = t := rfl
    unfold sNx
    rw [hq] at ht ⊢
    obtain ⟨-, -, -, q4⟩ := sTk_u g1 ht
    subst q4
    by_cases hk : t.1 = 0
    · rw [if_pos hk]
      rcases g2 with ⟨_, hr⟩ | ⟨hr, _⟩
      · subst hr
        obtain ⟨k, p, v⟩ := t
        dsimp only at hk ht
        subst hk
        obtain ⟨e1, e2, e3⟩ := sTk_0 ht
        refine ⟨n, ?_, Or.inl ⟨rfl, rfl⟩⟩
        show sTk ch n e' 0 p v n
        rw [e1, e2, e3]
        exact ⟨⟨Nat.le_refl _, Nat.le_refl _, fun j j1 j2 => absurd j2 (by omega), fun h => absurd h (by omega)⟩, Or.inl ⟨rfl, rfl, rfl, rfl⟩⟩
      · exact absurd hk hr
    · rw [if_neg hk]
      rcases g2 with ⟨hr, _⟩ | ⟨_, hr⟩
      · exact absurd hr hk
      · exact hr
/-! what a reader's calls make of the tokens: a FAULT, or the tokens from the one that stands on -/
abbrev sY : Type := (Nat × Nat) ⊕ List sT
def yKd (x : sY) : Nat := match x with
  | .inl _ => 0
  | .inr l => (sHd l).1
def yVl (x : sY) : Int := match x with
  | .inl _ => 0
  | .inr l => (sHd l).2.2
def yNx (x : sY) : sY := match x with
  | .inl e => .inl e
  | .inr l => .inr (sNx l)
def yFl (f : Nat) (x : sY) : sY := match x with
  | .inl e => .inl e
  | .inr l => .inl (f, (sHd l).2.1)
/-- how the class holds it -/
def cTk (ch : Nat → Int) (n : Nat) (mem : yMem) (x : sY) : Prop := w32 (mem 55 2) = (n : Int) ∧ n ≤ 800 ∧ cBy mem ch ∧ cWd mem ∧ match x with
  | .inl e => w32 (mem 55 7) = (e.1 : Int) ∧ e.1 ≠ 0 ∧ w32 (mem 55 8) = (e.2 : Int) ∧ w32 (mem 55 4) = 0
  | .inr l => w32 (mem 55 7) = 0 ∧ ∃ e : Nat, (w32 (mem 55 3) = (e : Int) ∧ w32 (mem 55 8) = -1) ∧ sCu ch n l e ∧ w32 (mem 55 5) = (((sHd l).2.1 : Nat) : Int) ∧ w32 (mem 55 4) = (((sHd l).1 : Nat) : Int) ∧ sCk (w32 (mem 55 6)) (sHd l).1 (sHd l).2.2
theorem cTk_kd {ch : Nat → Int} {n : Nat} {mem : yMem} {x : sY} (h : cTk ch n mem x) : w32 (mem 55 4) = ((yKd x : Nat) : Int) := by
  cases x with
  | inl e => exact h.2.2.2.2.2.2.2
  | inr l =>
    obtain ⟨-, -, -, -, -, e, -, -, -, h4, -⟩ := h
    exact h4
/-- the slots that a token call changes, a FAULT too -/
abbrev cfF : List (Nat × Nat) := [(55, 4), (55, 5), (55, 6), (55, 7), (55, 8), (55, 9)]
theorem cTk_of {ch : Nat → Int} {n : Nat} {mem m : yMem} {x : sY} (h : cTk ch n mem x) (hF : ∀ j, m 55 j = mem 55 j) (h1 : ∀ j, m 1 j = mem 1 j) (h56 : ∀ j, m 56 j = mem 56 j) : cTk ch n m x := by
  obtain ⟨a1, a2, a3, a4, a5⟩ := h
  refine ⟨by rw [hF]; exact a1, a2, fun j => by rw [h1]; exact a3 j, fun i hi => by rw [h56]; exact a4 i hi, ?_⟩
  cases x with
  | inl e =>
    dsimp only at a5 ⊢
    rw [hF, hF, hF]
    exact a5
  | inr l =>
    dsimp only at a5 ⊢
    rw [hF, hF, hF, hF, hF, hF]
    exact a5
theorem amod_cf {i j : Nat} (h : amod cfF i j = false) : amod ctF i j = false := by
  revert h
  simp only [amod, Bool.or_eq_false_iff]
  intro h
  exact ⟨h.1, h.2.1, h.2.2.1, h.2.2.2.1, trivial⟩
section CG
variable {E : yE} {mem : yMem} {Q : Option yV → yMem → Prop} {ch : Nat → Int} {n : Nat} {x : sY}
theorem g_next (hE : yEok E) {D : Nat} (hD : 4 ≤ D) (h : cTk ch n mem x) (hQ : ∀ m, aFrm cfF mem m → cTk ch n m (yNx x) → Q none m) : yCon E D xm_126 [(1, 55)] mem Q := by
  have h0 := h
  obtain ⟨a1, a2, a3, a4, a5⟩ := h
  cases x with
  | inl e =>
    exact f_nextF hE (by omega) (by rw [a5.1]; have := a5.2.1; omega) (hQ mem aFrm_rf h0)
  | inr l =>
    obtain ⟨b1, e, b2, b3, b4, b5, b6⟩ := a5
    obtain ⟨c1, c2⟩ := sCu_nx b3
    have en : cen mem = n := by show (w32 (mem 55 2)).toNat = n; rw [a1]; exact Int.toNat_natCast n
    have ea : cat mem = e := by show (w32 (mem 55 3)).toNat = e; rw [b2.1]; exact Int.toNat_natCast e
    refine f_next hE hD (by omega) (by omega) (by omega) a3 a4 b1 (fun m k p v e' f1 f2 f3 f4 f5 f6 => ?_)
    rw [en, ea] at f2
    obtain ⟨d1, d2⟩ := sTl_cu c1 f2
    refine hQ m (fun i j hij => f1 i j (amod_cf hij)) ⟨by rw [f1 55 2 rfl]; exact a1, a2, cBy_fr a3 f1, fun i hi => by rw [f1 56 i rfl]; exact a4 i hi, by rw [f1 55 7 rfl]; exact b1, e', ⟨f3, by rw [f1 55 8 rfl]; exact b2.2⟩, d2, ?_, ?_, ?_⟩
    · rw [d1]; exact f4
    · rw [d1]; exact f5
    · rw [d1]; exact f6
/-- fail, gone into -/
theorem g_fl1 {f : Nat} (h : cTk ch n mem x) (hf : ¬ w32 (mem 55 7) = 0) : aFrm cfF mem (yset mem 55 4 0) ∧ cTk ch n (yset mem 55 4 0) (yFl f x) := by
  obtain ⟨a1, a2, a3, a4, a5⟩ := h
  refine ⟨aFrm_set aFrm_rf rfl, by rw [yset_d (by decide)]; exact a1, a2, fun j => by rw [yset_o (by decide)]; exact a3 j, fun i hi => by rw [yset_o (by decide)]; exact a4 i hi, ?_⟩
  cases x with
  | inl e =>
    refine ⟨by rw [yset_d (by decide)]; exact a5.1, a5.2.1, by rw [yset_d (by decide)]; exact a5.2.2.1, by rw [yset_s]; decide⟩
  | inr l => exact absurd a5.1 hf
theorem g_fl0 {f : Nat} {F : Int} (h : cTk ch n mem x) (hF : w32 F = (f : Int)) (h0 : f ≠ 0) (hf : w32 (mem 55 7) = 0) : aFrm cfF mem (yset (yset (yset mem 55 7 F) 55 8 (mem 55 5)) 55 4 0) ∧ cTk ch n (yset (yset (yset mem 55 7 F) 55 8 (mem 55 5)) 55 4 0) (yFl f x) := by
  obtain ⟨a1, a2, a3, a4, a5⟩ := h
  have o1 : ∀ i j, i ≠ 55 → yset (yset (yset mem 55 7 F) 55 8 (mem 55 5)) 55 4 0 i j = mem i j := fun i j hi => by rw [yset_o hi, yset_o hi, yset_o hi]
  refine ⟨aFrm_set (aFrm_set (aFrm_set aFrm_rf rfl) rfl) rfl, by rw [yset_d (by decide), yset_d (by decide), yset_d (by decide)]; exact a1, a2, fun j => by rw [o1 1 j (by decide)]; exact a3 j, fun i hi => by rw [o1 56 i (by decide)]; exact a4 i hi, ?_⟩
  cases x with
  | inl e => exact absurd hf (by rw [a5.1]; have := a5.2.1; omega)
  | inr l =>
    obtain ⟨b1, e, b2, b3, b4, b5, b6⟩ := a5
    exact ⟨by rw [yset_d (by decide), yset_d (by decide), yset_s]; exact hF, h0, by rw [yset_d (by decide), yset_s]; exact b4, by rw [yset_s]; decide⟩
/-- a number, within its bounds -/
def yNm (lo hi : Int) (x : sY) : Int × sY := if yKd x = 2 then (if yVl x < lo ∨ hi < yVl x then (lo, yFl 2 x) else (yVl x, yNx x)) else (lo, yFl 1 x)
theorem cTk_vl (h : cTk ch n mem x) (hk : yKd x = 2) : 0 ≤ w32 (mem 55 6) ∧ min (w32 (mem 55 6)) 100000 = yVl x := by
  cases x with
  | inl e => exact absurd (show (0 : Nat) = 2 from hk) (by decide)
  | inr l =>
    obtain ⟨-, -, -, -, -, e, -, -, -, -, b6⟩ := h
    have hk : (sHd l).1 = 2 := hk
    rcases b6 with ⟨_, c1, c2⟩ | ⟨c1, _⟩ | c1 | c1 | c1
    · exact ⟨c1, c2⟩
    · omega
    · omega
    · omega
    · omega
theorem g_number (hE : yEok E) {D : Nat} (hD : 5 ≤ D) {a b : Int} (h : cTk ch n mem x) (ha : w32 a ≤ 99999) (hb : w32 b ≤ 99999) (hQ : ∀ r m, aFrm cfF mem m → w32 r = (yNm (w32 a) (w32 b) x).1 → cTk ch n m (yNm (w32 a) (w32 b) x).2 → Q (some (0, r)) m) : yCon E D xm_112 [(1, 54), (0, a), (0, b)] mem Q := by
  obtain ⟨d, rfl⟩ := Nat.exists_eq_add_of_le' hD
  refine e_112 ?_
  refine zvc_ok hE 90 [] _ _ _ _ _ _ _ xmo_112 ?_
  have ek := cTk_kd h
  have q1 : ¬ yKd x = 2 → ∀ m, aFrm cfF mem m → cTk ch n m (yFl 1 x) → Q (some (0, a)) m := fun hk m g1 g2 => hQ a m g1 (by unfold yNm; rw [if_neg hk]) (by unfold yNm; rw [if_neg hk]; exact g2)
  have q2 : yKd x = 2 → (yVl x < w32 a ∨ w32 b < yVl x) → ∀ m, aFrm cfF mem m → cTk ch n m (yFl 2 x) → Q (some (0, a)) m := fun hk hv m g1 g2 => hQ a m g1 (by unfold yNm; rw [if_pos hk, if_pos hv]) (by unfold yNm; rw [if_pos hk, if_pos hv]; exact g2)
  simp only [ynok_30, ynok_31, w32c_0, w32c_1, w32c_2, w32c_3, w32c_4, w32c_5, w32c_6, w32c_7, w32c_8, w32c_9, w32c_10, w32c_11, w32c_12, w32c_13, w32c_14, w32c_m1, w32c_m2, w32c_118, Int.reduceAdd, Int.reduceSub, Int.reduceMul, yput_s, yput_n, znl_n, znl_0, znl_1, znl_4, ysum_n, ysum_0, ysum_1, ysum_4, true_and, and_true, Nat.reduceAdd, Nat.reduceLeDiff, true_implies, eq_self, true_or, or_true, or_false, false_or, not_true_eq_false, not_false_eq_true, false_implies, implies_true, yset_s, yset_o, yset_d, ne_eq, Nat.reduceEqDiff, Int.reduceToNat, Int.reduceEq, Int.reduceLE, Int.reduceLT, Classical.not_not, Nat.reduceLT, ↓zvk_s, ↓zvk_n, ↓s_112_0, ↓s_112_1, ↓s_112_4, ↓s_112_7n, ↓s_112_7i, ↓s_112_7p, ↓s_112_8, ↓s_112_9, ↓s_112_12, ↓s_112_15, ↓s_112_16, ↓s_112_19, ↓s_112_20, ↓s_112_23, ↓s_112_24, ↓s_112_27a, ↓s_112_27b, ↓s_112_28, ↓s_112_29, ↓s_112_30, ↓s_112_31, ↓s_112_32, ↓s_112_35, ↓s_112_36, ↓s_112_37, ↓s_112_40, ↓s_112_41, ↓s_112_44, ↓s_112_45, ↓s_112_48a, ↓s_112_48b, ↓s_112_49, ↓s_112_50, ↓s_112_51, ↓s_112_52, ↓s_112_55, ↓s_112_58, ↓s_112_59, ↓s_123_0, ↓s_123_1, ↓s_123_4, ↓s_123_7, ↓s_123_8, ↓s_123_9, ↓s_123_12, ↓s_123_13, ↓s_123_14, ↓s_123_17, ↓s_123_20, ↓s_123_21, ↓s_123_22, ↓s_123_25, ↓s_123_26, zio_54, zio_55]
  rw [ek]
  have n1 : ¬ yKd x = 2 → (¬ w32 (mem 55 7) = 0 → Q (some (0, a)) (yset mem 55 4 0)) ∧ (w32 (mem 55 7) = 0 → Q (some (0, a)) (yset (yset (yset mem 55 7 1) 55 8 (mem 55 5)) 55 4 0)) := fun hk => ⟨fun hf => q1 hk _ (g_fl1 (f := 1) h hf).1 (g_fl1 h hf).2, fun hf => q1 hk _ (g_fl0 (f := 1) h (by decide) (by decide) hf).1 (g_fl0 h (by decide) (by decide) hf).2⟩
  have n2 : yKd x = 2 → (yVl x < w32 a ∨ w32 b < yVl x) → (¬ w32 (mem 55 7) = 0 → Q (some (0, a)) (yset mem 55 4 0)) ∧ (w32 (mem 55 7) = 0 → Q (some (0, a)) (yset (yset (yset mem 55 7 2) 55 8 (mem 55 5)) 55 4 0)) := fun hk hv => ⟨fun hf => q2 hk hv _ (g_fl1 (f := 2) h hf).1 (g_fl1 h hf).2, fun hf => q2 hk hv _ (g_fl0 (f := 2) h (by decide) (by decide) hf).1 (g_fl0 h (by decide) (by decide) hf).2⟩
  refine ⟨fun hk => ?_, fun hk => n1 (by omega)⟩
  have hk' : yKd x = 2 := by omega
  have hv := cTk_vl h hk'
  refine ⟨fun h1 => n2 hk' (by omega), fun h1 => ⟨fun h2 => ?_, fun h2 => n2 hk' (by omega)⟩⟩
  refine g_next hE (by omega) h (fun m g1 g2 => ?_)
  refine zgk_n hE xmo_112 60 [] ?_
  simp only [ynok_30, ynok_31, w32c_0, w32c_1, w32c_2, w32c_3, w32c_4, w32c_5, w32c_6, w32c_7, w32c_8, w32c_9, w32c_10, w32c_11, w32c_12, w32c_13, w32c_14, w32c_m1, w32c_m2, w32c_118, Int.reduceAdd, Int.reduceSub, Int.reduceMul, yput_s, yput_n, znl_n, znl_0, znl_1, znl_4, ysum_n, ysum_0, ysum_1, ysum_4, true_and, and_true, Nat.reduceAdd, Nat.reduceLeDiff, true_implies, eq_self, true_or, or_true, or_false, false_or, not_true_eq_false, not_false_eq_true, false_implies, implies_true, yset_s, yset_o, yset_d, ne_eq, Nat.reduceEqDiff, Int.reduceToNat, Int.reduceEq, Int.reduceLE, Int.reduceLT, Classical.not_not, Nat.reduceLT, ↓zvk_s, ↓zvk_n, ↓s_112_0, ↓s_112_1, ↓s_112_4, ↓s_112_7n, ↓s_112_7i, ↓s_112_7p, ↓s_112_8, ↓s_112_9, ↓s_112_12, ↓s_112_15, ↓s_112_16, ↓s_112_19, ↓s_112_20, ↓s_112_23, ↓s_112_24, ↓s_112_27a, ↓s_112_27b, ↓s_112_28, ↓s_112_29, ↓s_112_30, ↓s_112_31, ↓s_112_32, ↓s_112_35, ↓s_112_36, ↓s_112_37, ↓s_112_40, ↓s_112_41, ↓s_112_44, ↓s_112_45, ↓s_112_48a, ↓s_112_48b, ↓s_112_49, ↓s_112_50, ↓s_112_51, ↓s_112_52, ↓s_112_55, ↓s_112_58, ↓s_112_59, zio_54, zio_55]
  have hn : ¬ (yVl x < w32 a ∨ w32 b < yVl x) := by omega
  exact hQ _ m g1 (by unfold yNm; rw [if_pos hk', if_neg hn]; show _ = yVl x; omega) (by unfold yNm; rw [if_pos hk', if_neg hn]; exact g2)
end CG
