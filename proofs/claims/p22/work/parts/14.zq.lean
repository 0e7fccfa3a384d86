section
theorem xbf {c A B : Bool} (h : cond c A B = true) : (c = true ∧ A = true) ∨ B = true := by
  cases c
  · exact Or.inr h
  · exact Or.inl ⟨rfl, h⟩
theorem xbf2 {c A B : Bool} (h : cond c A B = true) : (c = true ∧ A = true) ∨ (c = false ∧ B = true) := by
  cases c
  · exact Or.inr ⟨rfl, h⟩
  · exact Or.inl ⟨rfl, h⟩
theorem xba {A B : Bool} (h : (A && B) = true) : A = true ∧ B = true := (Bool.and_eq_true _ _).mp h
theorem xbe {m n : Nat} (h : Nat.beq m n = true) : m = n := Nat.eq_of_beq_eq_true h
theorem xbl {m n : Nat} (h : Nat.ble m n = true) : m ≤ n := Nat.le_of_ble_eq_true h
/-- a signed number of two bytes ahead of tgt -/
def xqo (pc w tgt : Nat) : Bool := cond (Nat.ble 32768 w) (Nat.beq (pc + w) (tgt + 65536)) (Nat.beq (pc + w) tgt)
theorem xqo_ok {pc w tgt : Nat} (h : xqo pc w tgt = true) : (pc : Int) + Reader.signed 16 w = (tgt : Int) := by
  unfold Reader.signed
  rcases xbf2 h with ⟨h1, h2⟩ | ⟨h1, h2⟩
  · have h1 := xbl h1
    have h2 := xbe h2
    have hc : ¬ w < 2 ^ (16 - 1) := by show ¬ w < 32768; omega
    rw [if_neg hc]
    show (pc : Int) + ((w : Int) - ((65536 : Nat) : Int)) = (tgt : Int)
    omega
  · have h1 : ¬ 32768 ≤ w := fun h => by rw [Nat.ble_eq_true_of_le h] at h1; cases h1
    have h2 := xbe h2
    have hc : w < 2 ^ (16 - 1) := by show w < 32768; omega
    rw [if_pos hc]
    omega
/-- a signed byte as a number of 32 bits -/
def xq8 (w : Nat) : Nat := cond (Nat.ble 128 w) (w + 4294967040) w
theorem xq8_all : ∀ w : Fin 256, (Int8.ofInt (Reader.signed 8 w.val)).toInt32 = nI (xq8 w.val) ∧ Int32.ofInt (Reader.signed 8 w.val) = nI (xq8 w.val) := by decide +kernel
theorem xq8_b (w : UInt8) : (Int8.ofInt (Reader.signed 8 w.toNat)).toInt32 = nI (xq8 w.toNat) := (xq8_all ⟨w.toNat, w.toBitVec.isLt⟩).1
theorem xq8_i (w : UInt8) : Int32.ofInt (Reader.signed 8 w.toNat) = nI (xq8 w.toNat) := (xq8_all ⟨w.toNat, w.toBitVec.isLt⟩).2
def xqr (r : Option FieldType) (b : Nat) : Bool := match r with
  | some .int => Nat.beq b 0
  | some .boolean => Nat.beq b 3
  | _ => false
theorem xqr_ok {r : Option FieldType} {b : Nat} (h : xqr r b = true) : ∃ ty, r = some ty ∧ xtc ty = b ∧ (ty = .int ∨ ty = .boolean) := by
  unfold xqr at h
  split at h
  · exact ⟨.int, rfl, (Nat.eq_of_beq_eq_true h).symm, Or.inl rfl⟩
  · exact ⟨.boolean, rfl, (Nat.eq_of_beq_eq_true h).symm, Or.inr rfl⟩
  · cases h
def xql (r : Option FieldType) : Bool := match r with
  | some .long => true
  | _ => false
theorem xql_ok {r : Option FieldType} (h : xql r = true) : r = some .long := by
  unfold xql at h
  split at h
  · rfl
  · cases h
def xqn (r : Option FieldType) : Bool := match r with
  | none => true
  | _ => false
theorem xqn_ok {r : Option FieldType} (h : xqn r = true) : r = none := by
  unfold xqn at h
  split at h
  · rfl
  · cases h
def xqx (tl : List UInt8) (f : UInt8 → Bool) : Bool := match tl with
  | y :: _ => f y
  | [] => false
theorem xqx_ok {tl : List UInt8} {f : UInt8 → Bool} (h : xqx tl f = true) : ∃ y r, tl = y :: r ∧ f y = true := by
  cases tl with
  | nil => cases h
  | cons y r => exact ⟨y, r, rfl, h⟩
def xqy (tl : List UInt8) (f : UInt8 → UInt8 → Bool) : Bool := match tl with
  | y :: z :: _ => f y z
  | _ => false
theorem xqy_ok {tl : List UInt8} {f : UInt8 → UInt8 → Bool} (h : xqy tl f = true) : ∃ y z r, tl = y :: z :: r ∧ f y z = true := by
  match tl, h with
  | [], h => cases h
  | [_], h => cases h
  | y :: z :: r, h => exact ⟨y, z, r, rfl, h⟩
abbrev xqG (G : List (Nat × Nat × Nat)) (own : String) : Prop := ∀ g ∈ G, ∀ (cc : ByteArray) (pc : Nat), decode cc pc = .ok (.getfield g.1, 3) → xGf cc own pc (pc + 3) g.2.1 g.2.2
section XQG
variable {mt : List xM} {M : xM} {G : List (Nat × Nat × Nat)} {pc nx a b : Nat} {cs : List (Nat × Nat)} {x : UInt8} {tl : List UInt8}
def xq_2 (r : Option FieldType) (G : List (Nat × Nat × Nat)) (x : UInt8) (tl : List UInt8) (pc nx a b : Nat) : Bool := Nat.ble a 2 && cond (Nat.beq nx (pc + 1)) (Nat.ble b 3 && Nat.beq x.toNat ((cond (Nat.beq a 0) 26 (cond (Nat.beq a 1) 42 30)) + b)) (Nat.beq nx (pc + 2) && (Nat.beq x.toNat (cond (Nat.beq a 0) 21 (cond (Nat.beq a 1) 25 22)) && xqx tl (fun y => Nat.beq y.toNat b)))
theorem xqk_2 (hG : xqG G (xMo M)) (D : (xMc M).data.toList.drop pc = x :: tl) (h : xq_2 (xMr M) G x tl pc nx a b = true) : xok mt M pc (2, nx, a, b, cs) := by
  unfold xq_2 at h
  have hX := xba h
  clear h
  obtain ⟨h1, h⟩ := hX
  replace h1 := xbl h1
  have ha : a = 0 ∨ a = 1 ∨ a = 2 := by omega
  have hX := xbf h
  clear h
  rcases hX with ⟨h2, h⟩ | h
  · have hX := xba h
    clear h
    obtain ⟨h3, h⟩ := hX
    replace h2 := xbe h2
    replace h3 := xbl h3
    have hb : b = 0 ∨ b = 1 ∨ b = 2 ∨ b = 3 := by omega
    replace h := xbe h
    subst h2
    rcases ha with rfl | rfl | rfl
    · rcases hb with rfl | rfl | rfl | rfl
      · exact ⟨(by decide : (0 : Nat) < 3), xr_iloadn (xb_26 D h) rfl⟩
      · exact ⟨(by decide : (0 : Nat) < 3), xr_iloadn (xb_27 D h) rfl⟩
      · exact ⟨(by decide : (0 : Nat) < 3), xr_iloadn (xb_28 D h) rfl⟩
      · exact ⟨(by decide : (0 : Nat) < 3), xr_iloadn (xb_29 D h) rfl⟩
    · rcases hb with rfl | rfl | rfl | rfl
      · exact ⟨(by decide : (1 : Nat) < 3), xr_aloadn (xb_42 D h) rfl⟩
      · exact ⟨(by decide : (1 : Nat) < 3), xr_aloadn (xb_43 D h) rfl⟩
      · exact ⟨(by decide : (1 : Nat) < 3), xr_aloadn (xb_44 D h) rfl⟩
      · exact ⟨(by decide : (1 : Nat) < 3), xr_aloadn (xb_45 D h) rfl⟩
    · rcases hb with rfl | rfl | rfl | rfl
      · exact ⟨(by decide : (2 : Nat) < 3), xr_lloadn (xb_30 D h) rfl⟩
      · exact ⟨(by decide : (2 : Nat) < 3), xr_lloadn (xb_31 D h) rfl⟩
      · exact ⟨(by decide : (2 : Nat) < 3), xr_lloadn (xb_32 D h) rfl⟩
      · exact ⟨(by decide : (2 : Nat) < 3), xr_lloadn (xb_33 D h) rfl⟩
  · have hX := xba h
    clear h
    obtain ⟨h2, h⟩ := hX
    have hX := xba h
    clear h
    obtain ⟨h3, h⟩ := hX
    have hX := xqx_ok h
    clear h
    obtain ⟨y, r2, rfl, h⟩ := hX
    replace h2 := xbe h2
    replace h3 := xbe h3
    replace h := xbe h
    subst h2 h
    rcases ha with rfl | rfl | rfl
    · exact ⟨(by decide : (0 : Nat) < 3), xr_iload (xb_21 D h3)⟩
    · exact ⟨(by decide : (1 : Nat) < 3), xr_aload (xb_25 D h3)⟩
    · exact ⟨(by decide : (2 : Nat) < 3), xr_lload (xb_22 D h3)⟩
def xq_3 (r : Option FieldType) (G : List (Nat × Nat × Nat)) (x : UInt8) (tl : List UInt8) (pc nx a b : Nat) : Bool := Nat.ble a 2 && cond (Nat.beq nx (pc + 1)) (Nat.ble b 3 && Nat.beq x.toNat ((cond (Nat.beq a 0) 59 (cond (Nat.beq a 1) 75 63)) + b)) (Nat.beq nx (pc + 2) && (Nat.beq x.toNat (cond (Nat.beq a 0) 54 (cond (Nat.beq a 1) 58 55)) && xqx tl (fun y => Nat.beq y.toNat b)))
theorem xqk_3 (hG : xqG G (xMo M)) (D : (xMc M).data.toList.drop pc = x :: tl) (h : xq_3 (xMr M) G x tl pc nx a b = true) : xok mt M pc (3, nx, a, b, cs) := by
  unfold xq_3 at h
  have hX := xba h
  clear h
  obtain ⟨h1, h⟩ := hX
  replace h1 := xbl h1
  have ha : a = 0 ∨ a = 1 ∨ a = 2 := by omega
  have hX := xbf h
  clear h
  rcases hX with ⟨h2, h⟩ | h
  · have hX := xba h
    clear h
    obtain ⟨h3, h⟩ := hX
    replace h2 := xbe h2
    replace h3 := xbl h3
    have hb : b = 0 ∨ b = 1 ∨ b = 2 ∨ b = 3 := by omega
    replace h := xbe h
    subst h2
    rcases ha with rfl | rfl | rfl
    · rcases hb with rfl | rfl | rfl | rfl
      · exact ⟨(by decide : (0 : Nat) < 3), xr_istoren (xb_59 D h) rfl⟩
      · exact ⟨(by decide : (0 : Nat) < 3), xr_istoren (xb_60 D h) rfl⟩
      · exact ⟨(by decide : (0 : Nat) < 3), xr_istoren (xb_61 D h) rfl⟩
      · exact ⟨(by decide : (0 : Nat) < 3), xr_istoren (xb_62 D h) rfl⟩
    · rcases hb with rfl | rfl | rfl | rfl
      · exact ⟨(by decide : (1 : Nat) < 3), xr_astoren (xb_75 D h) rfl⟩
      · exact ⟨(by decide : (1 : Nat) < 3), xr_astoren (xb_76 D h) rfl⟩
      · exact ⟨(by decide : (1 : Nat) < 3), xr_astoren (xb_77 D h) rfl⟩
      · exact ⟨(by decide : (1 : Nat) < 3), xr_astoren (xb_78 D h) rfl⟩
    · rcases hb with rfl | rfl | rfl | rfl
      · exact ⟨(by decide : (2 : Nat) < 3), xr_lstoren (xb_63 D h) rfl⟩
      · exact ⟨(by decide : (2 : Nat) < 3), xr_lstoren (xb_64 D h) rfl⟩
      · exact ⟨(by decide : (2 : Nat) < 3), xr_lstoren (xb_65 D h) rfl⟩
      · exact ⟨(by decide : (2 : Nat) < 3), xr_lstoren (xb_66 D h) rfl⟩
  · have hX := xba h
    clear h
    obtain ⟨h2, h⟩ := hX
    have hX := xba h
    clear h
    obtain ⟨h3, h⟩ := hX
    have hX := xqx_ok h
    clear h
    obtain ⟨y, r2, rfl, h⟩ := hX
    replace h2 := xbe h2
    replace h3 := xbe h3
    replace h := xbe h
    subst h2 h
    rcases ha with rfl | rfl | rfl
    · exact ⟨(by decide : (0 : Nat) < 3), xr_istore (xb_54 D h3)⟩
    · exact ⟨(by decide : (1 : Nat) < 3), xr_astore (xb_58 D h3)⟩
    · exact ⟨(by decide : (2 : Nat) < 3), xr_lstore (xb_55 D h3)⟩
def xq_16 (r : Option FieldType) (G : List (Nat × Nat × Nat)) (x : UInt8) (tl : List UInt8) (pc nx a b : Nat) : Bool := Nat.beq nx (pc + 3) && (Nat.beq x.toNat 180 && xqy tl (fun y z => G.any (fun g => Nat.beq g.1 (y.toNat * 256 + z.toNat) && (Nat.beq g.2.1 a && Nat.beq g.2.2 b))))
theorem xqk_16 (hG : xqG G (xMo M)) (D : (xMc M).data.toList.drop pc = x :: tl) (h : xq_16 (xMr M) G x tl pc nx a b = true) : xok mt M pc (16, nx, a, b, cs) := by
  unfold xq_16 at h
  have hX := xba h
  clear h
  obtain ⟨h1, h⟩ := hX
  have hX := xba h
  clear h
  obtain ⟨h2, h⟩ := hX
  have hX := xqy_ok h
  clear h
  obtain ⟨y, z, r2, rfl, h⟩ := hX
  replace h1 := xbe h1
  replace h2 := xbe h2
  subst h1
  obtain ⟨g, hg, h3⟩ := List.any_eq_true.mp h
  have hX := xba h3
  clear h3
  obtain ⟨h4, h3⟩ := hX
  have hX := xba h3
  clear h3
  obtain ⟨h5, h6⟩ := hX
  replace h4 := xbe h4
  replace h5 := xbe h5
  replace h6 := xbe h6
  subst h5 h6
  have d := xb_180 D h2
  rw [← h4] at d
  exact hG g hg _ _ d
def xq_0 (r : Option FieldType) (G : List (Nat × Nat × Nat)) (x : UInt8) (tl : List UInt8) (pc nx a b : Nat) : Bool := cond (Nat.beq nx (pc + 1)) (Nat.ble 2 x.toNat && (Nat.ble x.toNat 8 && Nat.beq a ((x.toNat + 4294967293) % 4294967296))) (Nat.beq nx (pc + 2) && (Nat.beq x.toNat 16 && xqx tl (fun y => Nat.beq a (xq8 y.toNat))))
theorem xqk_0 (hG : xqG G (xMo M)) (D : (xMc M).data.toList.drop pc = x :: tl) (h : xq_0 (xMr M) G x tl pc nx a b = true) : xok mt M pc (0, nx, a, b, cs) := by
  unfold xq_0 at h
  have hX := xbf h
  clear h
  rcases hX with ⟨h1, h⟩ | h
  · have hX := xba h
    clear h
    obtain ⟨h2, h⟩ := hX
    have hX := xba h
    clear h
    obtain ⟨h3, h⟩ := hX
    replace h1 := xbe h1
    replace h2 := xbl h2
    replace h3 := xbl h3
    replace h := xbe h
    subst h1
    have hk : x.toNat = 2 ∨ x.toNat = 3 ∨ x.toNat = 4 ∨ x.toNat = 5 ∨ x.toNat = 6 ∨ x.toNat = 7 ∨ x.toNat = 8 := by omega
    rcases hk with hk | hk | hk | hk | hk | hk | hk
    · have e : a = 4294967295 := by rw [hk] at h; exact h
      subst e
      exact xr_iconst (a := 4294967295) (xb_2 D hk) (by decide +kernel)
    · have e : a = 0 := by rw [hk] at h; exact h
      subst e
      exact xr_iconst (a := 0) (xb_3 D hk) (by decide +kernel)
    · have e : a = 1 := by rw [hk] at h; exact h
      subst e
      exact xr_iconst (a := 1) (xb_4 D hk) (by decide +kernel)
    · have e : a = 2 := by rw [hk] at h; exact h
      subst e
      exact xr_iconst (a := 2) (xb_5 D hk) (by decide +kernel)
    · have e : a = 3 := by rw [hk] at h; exact h
      subst e
      exact xr_iconst (a := 3) (xb_6 D hk) (by decide +kernel)
    · have e : a = 4 := by rw [hk] at h; exact h
      subst e
      exact xr_iconst (a := 4) (xb_7 D hk) (by decide +kernel)
    · have e : a = 5 := by rw [hk] at h; exact h
      subst e
      exact xr_iconst (a := 5) (xb_8 D hk) (by decide +kernel)
  · have hX := xba h
    clear h
    obtain ⟨h1, h⟩ := hX
    have hX := xba h
    clear h
    obtain ⟨h2, h⟩ := hX
    have hX := xqx_ok h
    clear h
    obtain ⟨y, r2, rfl, h⟩ := hX
    replace h1 := xbe h1
    replace h2 := xbe h2
    replace h := xbe h
    subst h1 h
    exact xr_bipush (xb_16 D h2) (xq8_b y)
def xq_14 (r : Option FieldType) (G : List (Nat × Nat × Nat)) (x : UInt8) (tl : List UInt8) (pc nx a b : Nat) : Bool := Nat.beq x.toNat 167 && xqy tl (fun y z => xqo pc (y.toNat * 256 + z.toNat) nx)
theorem xqk_14 (hG : xqG G (xMo M)) (D : (xMc M).data.toList.drop pc = x :: tl) (h : xq_14 (xMr M) G x tl pc nx a b = true) : xok mt M pc (14, nx, a, b, cs) := by
  unfold xq_14 at h
  have hX := xba h
  clear h
  obtain ⟨h1, h⟩ := hX
  have hX := xqy_ok h
  clear h
  obtain ⟨y, z, r2, rfl, h⟩ := hX
  exact xr_goto (xb_167 D (xbe h1)) (xqo_ok h)
def xq_30 (r : Option FieldType) (G : List (Nat × Nat × Nat)) (x : UInt8) (tl : List UInt8) (pc nx a b : Nat) : Bool := Nat.beq x.toNat 172 && xqr r b
theorem xqk_30 (hG : xqG G (xMo M)) (D : (xMc M).data.toList.drop pc = x :: tl) (h : xq_30 (xMr M) G x tl pc nx a b = true) : xok mt M pc (30, nx, a, b, cs) := by
  unfold xq_30 at h
  have hX := xba h
  clear h
  obtain ⟨h1, h⟩ := hX
  exact ⟨xb_172 D (xbe h1), xqr_ok h⟩
def xq_5 (r : Option FieldType) (G : List (Nat × Nat × Nat)) (x : UInt8) (tl : List UInt8) (pc nx a b : Nat) : Bool := Nat.beq nx (pc + 1) && cond (Nat.beq a 0) (Nat.beq x.toNat 96) (cond (Nat.beq a 1) (Nat.beq x.toNat 100) (cond (Nat.beq a 2) (Nat.beq x.toNat 104) (cond (Nat.beq a 3) (Nat.beq x.toNat 126) (cond (Nat.beq a 4) (Nat.beq x.toNat 128) (cond (Nat.beq a 5) (Nat.beq x.toNat 130) (cond (Nat.beq a 6) (Nat.beq x.toNat 120) (cond (Nat.beq a 7) (Nat.beq x.toNat 122) (cond (Nat.beq a 8) (Nat.beq x.toNat 124) (cond (Nat.beq a 9) (Nat.beq x.toNat 108) (cond (Nat.beq a 10) (Nat.beq x.toNat 112) (false)))))))))))
theorem xqk_5 (hG : xqG G (xMo M)) (D : (xMc M).data.toList.drop pc = x :: tl) (h : xq_5 (xMr M) G x tl pc nx a b = true) : xok mt M pc (5, nx, a, b, cs) := by
  unfold xq_5 at h
  have hX := xba h
  clear h
  obtain ⟨h1, h⟩ := hX
  replace h1 := xbe h1
  subst h1
  have hX := xbf h
  clear h
  rcases hX with ⟨ha, h⟩ | h
  · replace ha := xbe ha
    subst ha
    replace h := xbe h
    exact fun x y h2 => xr_iadd (xb_96 D h) x y
  have hX := xbf h
  clear h
  rcases hX with ⟨ha, h⟩ | h
  · replace ha := xbe ha
    subst ha
    replace h := xbe h
    exact fun x y h2 => xr_isub (xb_100 D h) x y
  have hX := xbf h
  clear h
  rcases hX with ⟨ha, h⟩ | h
  · replace ha := xbe ha
    subst ha
    replace h := xbe h
    exact fun x y h2 => xr_imul (xb_104 D h) x y
  have hX := xbf h
  clear h
  rcases hX with ⟨ha, h⟩ | h
  · replace ha := xbe ha
    subst ha
    replace h := xbe h
    exact fun x y h2 => xr_iand (xb_126 D h) x y
  have hX := xbf h
  clear h
  rcases hX with ⟨ha, h⟩ | h
  · replace ha := xbe ha
    subst ha
    replace h := xbe h
    exact fun x y h2 => xr_ior (xb_128 D h) x y
  have hX := xbf h
  clear h
  rcases hX with ⟨ha, h⟩ | h
  · replace ha := xbe ha
    subst ha
    replace h := xbe h
    exact fun x y h2 => xr_ixor (xb_130 D h) x y
  have hX := xbf h
  clear h
  rcases hX with ⟨ha, h⟩ | h
  · replace ha := xbe ha
    subst ha
    replace h := xbe h
    exact fun x y h2 => xr_ishl (xb_120 D h) x y
  have hX := xbf h
  clear h
  rcases hX with ⟨ha, h⟩ | h
  · replace ha := xbe ha
    subst ha
    replace h := xbe h
    exact fun x y h2 => xr_ishr (xb_122 D h) x y
  have hX := xbf h
  clear h
  rcases hX with ⟨ha, h⟩ | h
  · replace ha := xbe ha
    subst ha
    replace h := xbe h
    exact fun x y h2 => xr_iushr (xb_124 D h) x y
  have hX := xbf h
  clear h
  rcases hX with ⟨ha, h⟩ | h
  · replace ha := xbe ha
    subst ha
    replace h := xbe h
    exact fun x y h2 => xr_idiv (xb_108 D h) x y (h2 (Or.inl rfl))
  have hX := xbf h
  clear h
  rcases hX with ⟨ha, h⟩ | h
  · replace ha := xbe ha
    subst ha
    replace h := xbe h
    exact fun x y h2 => xr_irem (xb_112 D h) x y (h2 (Or.inr rfl))
  cases h
def xq_12 (r : Option FieldType) (G : List (Nat × Nat × Nat)) (x : UInt8) (tl : List UInt8) (pc nx a b : Nat) : Bool := Nat.beq nx (pc + 3) && xqy tl (fun y z => Nat.ble b 5 && (Nat.beq x.toNat (153 + b) && xqo pc (y.toNat * 256 + z.toNat) a))
theorem xqk_12 (hG : xqG G (xMo M)) (D : (xMc M).data.toList.drop pc = x :: tl) (h : xq_12 (xMr M) G x tl pc nx a b = true) : xok mt M pc (12, nx, a, b, cs) := by
  unfold xq_12 at h
  have hX := xba h
  clear h
  obtain ⟨h1, h⟩ := hX
  replace h1 := xbe h1
  subst h1
  have hX := xqy_ok h
  clear h
  obtain ⟨y, z, r2, rfl, h⟩ := hX
  have hX := xba h
  clear h
  obtain ⟨h1, h⟩ := hX
  have hb := xbl h1
  have hX := xba h
  clear h
  obtain ⟨h2, h⟩ := hX
  replace h2 := xbe h2
  have e := xqo_ok h
  have hc : b = 0 ∨ b = 1 ∨ b = 2 ∨ b = 3 ∨ b = 4 ∨ b = 5 := by omega
  rcases hc with rfl | rfl | rfl | rfl | rfl | rfl
  · exact xr_ifeq (xb_153 D h2) e
  · exact xr_ifne (xb_154 D h2) e
  · exact xr_iflt (xb_155 D h2) e
  · exact xr_ifge (xb_156 D h2) e
  · exact xr_ifgt (xb_157 D h2) e
  · exact xr_ifle (xb_158 D h2) e
def xq_13 (r : Option FieldType) (G : List (Nat × Nat × Nat)) (x : UInt8) (tl : List UInt8) (pc nx a b : Nat) : Bool := Nat.beq nx (pc + 3) && xqy tl (fun y z => Nat.ble b 5 && (Nat.beq x.toNat (159 + b) && xqo pc (y.toNat * 256 + z.toNat) a))
theorem xqk_13 (hG : xqG G (xMo M)) (D : (xMc M).data.toList.drop pc = x :: tl) (h : xq_13 (xMr M) G x tl pc nx a b = true) : xok mt M pc (13, nx, a, b, cs) := by
  unfold xq_13 at h
  have hX := xba h
  clear h
  obtain ⟨h1, h⟩ := hX
  replace h1 := xbe h1
  subst h1
  have hX := xqy_ok h
  clear h
  obtain ⟨y, z, r2, rfl, h⟩ := hX
  have hX := xba h
  clear h
  obtain ⟨h1, h⟩ := hX
  have hb := xbl h1
  have hX := xba h
  clear h
  obtain ⟨h2, h⟩ := hX
  replace h2 := xbe h2
  have e := xqo_ok h
  have hc : b = 0 ∨ b = 1 ∨ b = 2 ∨ b = 3 ∨ b = 4 ∨ b = 5 := by omega
  rcases hc with rfl | rfl | rfl | rfl | rfl | rfl
  · exact xr_icmpeq (xb_159 D h2) e
  · exact xr_icmpne (xb_160 D h2) e
  · exact xr_icmplt (xb_161 D h2) e
  · exact xr_icmpge (xb_162 D h2) e
  · exact xr_icmpgt (xb_163 D h2) e
  · exact xr_icmple (xb_164 D h2) e
def xq_19 (r : Option FieldType) (G : List (Nat × Nat × Nat)) (x : UInt8) (tl : List UInt8) (pc nx a b : Nat) : Bool := Nat.beq nx (pc + 1) && cond (Nat.beq a 0) (Nat.beq x.toNat 46) (cond (Nat.beq a 1) (Nat.beq x.toNat 51) (cond (Nat.beq a 3) (Nat.beq x.toNat 51) (false)))
theorem xqk_19 (hG : xqG G (xMo M)) (D : (xMc M).data.toList.drop pc = x :: tl) (h : xq_19 (xMr M) G x tl pc nx a b = true) : xok mt M pc (19, nx, a, b, cs) := by
  unfold xq_19 at h
  have hX := xba h
  clear h
  obtain ⟨h1, h⟩ := hX
  replace h1 := xbe h1
  subst h1
  have hX := xbf h
  clear h
  rcases hX with ⟨ha, h⟩ | h
  · replace ha := xbe ha
    subst ha
    replace h := xbe h
    exact ⟨Or.inl rfl, xr_iald (xb_46 D h)⟩
  have hX := xbf h
  clear h
  rcases hX with ⟨ha, h⟩ | h
  · replace ha := xbe ha
    subst ha
    replace h := xbe h
    exact ⟨Or.inr (Or.inl rfl), xr_bald (xb_51 D h)⟩
  have hX := xbf h
  clear h
  rcases hX with ⟨ha, h⟩ | h
  · replace ha := xbe ha
    subst ha
    replace h := xbe h
    exact ⟨Or.inr (Or.inr rfl), xr_zald (xb_51 D h)⟩
  cases h
def xq_21 (r : Option FieldType) (G : List (Nat × Nat × Nat)) (x : UInt8) (tl : List UInt8) (pc nx a b : Nat) : Bool := Nat.beq nx (pc + 1) && cond (Nat.beq a 0) (Nat.beq x.toNat 79) (cond (Nat.beq a 1) (Nat.beq x.toNat 84) (cond (Nat.beq a 3) (Nat.beq x.toNat 84) (false)))
theorem xqk_21 (hG : xqG G (xMo M)) (D : (xMc M).data.toList.drop pc = x :: tl) (h : xq_21 (xMr M) G x tl pc nx a b = true) : xok mt M pc (21, nx, a, b, cs) := by
  unfold xq_21 at h
  have hX := xba h
  clear h
  obtain ⟨h1, h⟩ := hX
  replace h1 := xbe h1
  subst h1
  have hX := xbf h
  clear h
  rcases hX with ⟨ha, h⟩ | h
  · replace ha := xbe ha
    subst ha
    replace h := xbe h
    exact xr_iast (xb_79 D h)
  have hX := xbf h
  clear h
  rcases hX with ⟨ha, h⟩ | h
  · replace ha := xbe ha
    subst ha
    replace h := xbe h
    exact xr_bast (xb_84 D h)
  have hX := xbf h
  clear h
  rcases hX with ⟨ha, h⟩ | h
  · replace ha := xbe ha
    subst ha
    replace h := xbe h
    exact xr_zast (xb_84 D h)
  cases h
def xq_32 (r : Option FieldType) (G : List (Nat × Nat × Nat)) (x : UInt8) (tl : List UInt8) (pc nx a b : Nat) : Bool := Nat.beq x.toNat 177 && xqn r
theorem xqk_32 (hG : xqG G (xMo M)) (D : (xMc M).data.toList.drop pc = x :: tl) (h : xq_32 (xMr M) G x tl pc nx a b = true) : xok mt M pc (32, nx, a, b, cs) := by
  unfold xq_32 at h
  have hX := xba h
  clear h
  obtain ⟨h1, h⟩ := hX
  exact ⟨xb_177 D (xbe h1), xqn_ok h⟩
def xq_43 (r : Option FieldType) (G : List (Nat × Nat × Nat)) (x : UInt8) (tl : List UInt8) (pc nx a b : Nat) : Bool := Nat.beq nx (pc + 1) && Nat.beq x.toNat 46
theorem xqk_43 (hG : xqG G (xMo M)) (D : (xMc M).data.toList.drop pc = x :: tl) (h : xq_43 (xMr M) G x tl pc nx a b = true) : xok mt M pc (43, nx, a, b, cs) := by
  unfold xq_43 at h
  have hX := xba h
  clear h
  obtain ⟨h1, h⟩ := hX
  replace h1 := xbe h1
  subst h1
  replace h := xbe h
  exact xr_sld (xb_46 D h)
def xq_4 (r : Option FieldType) (G : List (Nat × Nat × Nat)) (x : UInt8) (tl : List UInt8) (pc nx a b : Nat) : Bool := Nat.beq nx (pc + 3) && (Nat.beq x.toNat 132 && xqy tl (fun y z => Nat.beq y.toNat a && Nat.beq b (xq8 z.toNat)))
theorem xqk_4 (hG : xqG G (xMo M)) (D : (xMc M).data.toList.drop pc = x :: tl) (h : xq_4 (xMr M) G x tl pc nx a b = true) : xok mt M pc (4, nx, a, b, cs) := by
  unfold xq_4 at h
  have hX := xba h
  clear h
  obtain ⟨h1, h⟩ := hX
  replace h1 := xbe h1
  subst h1
  have hX := xba h
  clear h
  obtain ⟨h1, h⟩ := hX
  have hX := xqy_ok h
  clear h
  obtain ⟨y, z, r2, rfl, h⟩ := hX
  have hX := xba h
  clear h
  obtain ⟨h2, h⟩ := hX
  replace h2 := xbe h2
  replace h := xbe h
  subst h2 h
  exact xr_iinc (xb_132 D (xbe h1)) (xq8_i z)
def xq_9 (r : Option FieldType) (G : List (Nat × Nat × Nat)) (x : UInt8) (tl : List UInt8) (pc nx a b : Nat) : Bool := Nat.beq nx (pc + 1) && Nat.beq x.toNat 89
theorem xqk_9 (hG : xqG G (xMo M)) (D : (xMc M).data.toList.drop pc = x :: tl) (h : xq_9 (xMr M) G x tl pc nx a b = true) : xok mt M pc (9, nx, a, b, cs) := by
  unfold xq_9 at h
  have hX := xba h
  clear h
  obtain ⟨h1, h⟩ := hX
  replace h1 := xbe h1
  subst h1
  replace h := xbe h
  exact fun v h2 => xr_dup (xb_89 D h) v h2
def xq_10 (r : Option FieldType) (G : List (Nat × Nat × Nat)) (x : UInt8) (tl : List UInt8) (pc nx a b : Nat) : Bool := Nat.beq nx (pc + 1) && Nat.beq x.toNat 87
theorem xqk_10 (hG : xqG G (xMo M)) (D : (xMc M).data.toList.drop pc = x :: tl) (h : xq_10 (xMr M) G x tl pc nx a b = true) : xok mt M pc (10, nx, a, b, cs) := by
  unfold xq_10 at h
  have hX := xba h
  clear h
  obtain ⟨h1, h⟩ := hX
  replace h1 := xbe h1
  subst h1
  replace h := xbe h
  exact fun v h2 => xr_pop (xb_87 D h) v h2
def xq_11 (r : Option FieldType) (G : List (Nat × Nat × Nat)) (x : UInt8) (tl : List UInt8) (pc nx a b : Nat) : Bool := Nat.beq nx (pc + 1) && Nat.beq x.toNat 92
theorem xqk_11 (hG : xqG G (xMo M)) (D : (xMc M).data.toList.drop pc = x :: tl) (h : xq_11 (xMr M) G x tl pc nx a b = true) : xok mt M pc (11, nx, a, b, cs) := by
  unfold xq_11 at h
  have hX := xba h
  clear h
  obtain ⟨h1, h⟩ := hX
  replace h1 := xbe h1
  subst h1
  replace h := xbe h
  exact fun v w h2 h3 => xr_dup2 (xb_92 D h) v w h2 h3
def xq_1 (r : Option FieldType) (G : List (Nat × Nat × Nat)) (x : UInt8) (tl : List UInt8) (pc nx a b : Nat) : Bool := Nat.beq nx (pc + 1) && (Nat.ble a 1 && Nat.beq x.toNat (9 + a))
theorem xqk_1 (hG : xqG G (xMo M)) (D : (xMc M).data.toList.drop pc = x :: tl) (h : xq_1 (xMr M) G x tl pc nx a b = true) : xok mt M pc (1, nx, a, b, cs) := by
  unfold xq_1 at h
  have hX := xba h
  clear h
  obtain ⟨h1, h⟩ := hX
  replace h1 := xbe h1
  subst h1
  have hX := xba h
  clear h
  obtain ⟨h2, h⟩ := hX
  replace h2 := xbl h2
  replace h := xbe h
  have ha : a = 0 ∨ a = 1 := by omega
  rcases ha with rfl | rfl
  · exact xr_lconst (a := 0) (xb_9 D h) (by decide +kernel)
  · exact xr_lconst (a := 1) (xb_10 D h) (by decide +kernel)
def xq_18 (r : Option FieldType) (G : List (Nat × Nat × Nat)) (x : UInt8) (tl : List UInt8) (pc nx a b : Nat) : Bool := Nat.beq nx (pc + 1) && Nat.beq x.toNat 190
theorem xqk_18 (hG : xqG G (xMo M)) (D : (xMc M).data.toList.drop pc = x :: tl) (h : xq_18 (xMr M) G x tl pc nx a b = true) : xok mt M pc (18, nx, a, b, cs) := by
  unfold xq_18 at h
  have hX := xba h
  clear h
  obtain ⟨h1, h⟩ := hX
  replace h1 := xbe h1
  subst h1
  replace h := xbe h
  exact ⟨xr_alen (xb_190 D h), xr_strl (xb_190 D h)⟩
def xq_31 (r : Option FieldType) (G : List (Nat × Nat × Nat)) (x : UInt8) (tl : List UInt8) (pc nx a b : Nat) : Bool := Nat.beq x.toNat 173 && xql r
theorem xqk_31 (hG : xqG G (xMo M)) (D : (xMc M).data.toList.drop pc = x :: tl) (h : xq_31 (xMr M) G x tl pc nx a b = true) : xok mt M pc (31, nx, a, b, cs) := by
  unfold xq_31 at h
  have hX := xba h
  clear h
  obtain ⟨h1, h⟩ := hX
  exact ⟨xb_173 D (xbe h1), xql_ok h⟩
def xq_8 (r : Option FieldType) (G : List (Nat × Nat × Nat)) (x : UInt8) (tl : List UInt8) (pc nx a b : Nat) : Bool := Nat.beq nx (pc + 1) && Nat.beq x.toNat 148
theorem xqk_8 (hG : xqG G (xMo M)) (D : (xMc M).data.toList.drop pc = x :: tl) (h : xq_8 (xMr M) G x tl pc nx a b = true) : xok mt M pc (8, nx, a, b, cs) := by
  unfold xq_8 at h
  have hX := xba h
  clear h
  obtain ⟨h1, h⟩ := hX
  replace h1 := xbe h1
  subst h1
  replace h := xbe h
  exact fun x y => xr_lcmp (xb_148 D h) x y
def xq_65 (r : Option FieldType) (G : List (Nat × Nat × Nat)) (x : UInt8) (tl : List UInt8) (pc nx a b : Nat) : Bool := Nat.beq nx (pc + 1) && Nat.beq x.toNat 133
theorem xqk_65 (hG : xqG G (xMo M)) (D : (xMc M).data.toList.drop pc = x :: tl) (h : xq_65 (xMr M) G x tl pc nx a b = true) : xok mt M pc (65, nx, a, b, cs) := by
  unfold xq_65 at h
  have hX := xba h
  clear h
  obtain ⟨h1, h⟩ := hX
  replace h1 := xbe h1
  subst h1
  replace h := xbe h
  exact fun x => xr_i2l (xb_133 D h) x
def xq_68 (r : Option FieldType) (G : List (Nat × Nat × Nat)) (x : UInt8) (tl : List UInt8) (pc nx a b : Nat) : Bool := Nat.beq nx (pc + 1) && Nat.beq x.toNat 80
theorem xqk_68 (hG : xqG G (xMo M)) (D : (xMc M).data.toList.drop pc = x :: tl) (h : xq_68 (xMr M) G x tl pc nx a b = true) : xok mt M pc (68, nx, a, b, cs) := by
  unfold xq_68 at h
  have hX := xba h
  clear h
  obtain ⟨h1, h⟩ := hX
  replace h1 := xbe h1
  subst h1
  replace h := xbe h
  exact xr_last (xb_80 D h)
def xq_67 (r : Option FieldType) (G : List (Nat × Nat × Nat)) (x : UInt8) (tl : List UInt8) (pc nx a b : Nat) : Bool := Nat.beq nx (pc + 1) && Nat.beq x.toNat 47
theorem xqk_67 (hG : xqG G (xMo M)) (D : (xMc M).data.toList.drop pc = x :: tl) (h : xq_67 (xMr M) G x tl pc nx a b = true) : xok mt M pc (67, nx, a, b, cs) := by
  unfold xq_67 at h
  have hX := xba h
  clear h
  obtain ⟨h1, h⟩ := hX
  replace h1 := xbe h1
  subst h1
  replace h := xbe h
  exact xr_lald (xb_47 D h)
def xq_60 (r : Option FieldType) (G : List (Nat × Nat × Nat)) (x : UInt8) (tl : List UInt8) (pc nx a b : Nat) : Bool := Nat.beq nx (pc + 1) && cond (Nat.beq a 0) (Nat.beq x.toNat 97) (cond (Nat.beq a 1) (Nat.beq x.toNat 101) (cond (Nat.beq a 2) (Nat.beq x.toNat 105) (cond (Nat.beq a 3) (Nat.beq x.toNat 127) (cond (Nat.beq a 4) (Nat.beq x.toNat 129) (cond (Nat.beq a 5) (Nat.beq x.toNat 131) (false))))))
theorem xqk_60 (hG : xqG G (xMo M)) (D : (xMc M).data.toList.drop pc = x :: tl) (h : xq_60 (xMr M) G x tl pc nx a b = true) : xok mt M pc (60, nx, a, b, cs) := by
  unfold xq_60 at h
  have hX := xba h
  clear h
  obtain ⟨h1, h⟩ := hX
  replace h1 := xbe h1
  subst h1
  have hX := xbf h
  clear h
  rcases hX with ⟨ha, h⟩ | h
  · replace ha := xbe ha
    subst ha
    replace h := xbe h
    exact fun x y => xr_ladd (xb_97 D h) x y
  have hX := xbf h
  clear h
  rcases hX with ⟨ha, h⟩ | h
  · replace ha := xbe ha
    subst ha
    replace h := xbe h
    exact fun x y => xr_lsub (xb_101 D h) x y
  have hX := xbf h
  clear h
  rcases hX with ⟨ha, h⟩ | h
  · replace ha := xbe ha
    subst ha
    replace h := xbe h
    exact fun x y => xr_lmul (xb_105 D h) x y
  have hX := xbf h
  clear h
  rcases hX with ⟨ha, h⟩ | h
  · replace ha := xbe ha
    subst ha
    replace h := xbe h
    exact fun x y => xr_gland (xb_127 D h) x y
  have hX := xbf h
  clear h
  rcases hX with ⟨ha, h⟩ | h
  · replace ha := xbe ha
    subst ha
    replace h := xbe h
    exact fun x y => xr_glor (xb_129 D h) x y
  have hX := xbf h
  clear h
  rcases hX with ⟨ha, h⟩ | h
  · replace ha := xbe ha
    subst ha
    replace h := xbe h
    exact fun x y => xr_glxor (xb_131 D h) x y
  cases h
def xq_61 (r : Option FieldType) (G : List (Nat × Nat × Nat)) (x : UInt8) (tl : List UInt8) (pc nx a b : Nat) : Bool := Nat.beq nx (pc + 1) && cond (Nat.beq a 9) (Nat.beq x.toNat 109) (cond (Nat.beq a 10) (Nat.beq x.toNat 113) (false))
theorem xqk_61 (hG : xqG G (xMo M)) (D : (xMc M).data.toList.drop pc = x :: tl) (h : xq_61 (xMr M) G x tl pc nx a b = true) : xok mt M pc (61, nx, a, b, cs) := by
  unfold xq_61 at h
  have hX := xba h
  clear h
  obtain ⟨h1, h⟩ := hX
  replace h1 := xbe h1
  subst h1
  have hX := xbf h
  clear h
  rcases hX with ⟨ha, h⟩ | h
  · replace ha := xbe ha
    subst ha
    replace h := xbe h
    exact fun x y h2 => xr_ldiv (xb_109 D h) x y h2
  have hX := xbf h
  clear h
  rcases hX with ⟨ha, h⟩ | h
  · replace ha := xbe ha
    subst ha
    replace h := xbe h
    exact fun x y h2 => xr_lrem (xb_113 D h) x y h2
  cases h
def xq_62 (r : Option FieldType) (G : List (Nat × Nat × Nat)) (x : UInt8) (tl : List UInt8) (pc nx a b : Nat) : Bool := Nat.beq nx (pc + 1) && Nat.beq x.toNat 121
theorem xqk_62 (hG : xqG G (xMo M)) (D : (xMc M).data.toList.drop pc = x :: tl) (h : xq_62 (xMr M) G x tl pc nx a b = true) : xok mt M pc (62, nx, a, b, cs) := by
  unfold xq_62 at h
  have hX := xba h
  clear h
  obtain ⟨h1, h⟩ := hX
  replace h1 := xbe h1
  subst h1
  replace h := xbe h
  exact fun x y => xr_lshl (xb_121 D h) x y
def xq_63 (r : Option FieldType) (G : List (Nat × Nat × Nat)) (x : UInt8) (tl : List UInt8) (pc nx a b : Nat) : Bool := Nat.beq nx (pc + 1) && Nat.beq x.toNat 125
theorem xqk_63 (hG : xqG G (xMo M)) (D : (xMc M).data.toList.drop pc = x :: tl) (h : xq_63 (xMr M) G x tl pc nx a b = true) : xok mt M pc (63, nx, a, b, cs) := by
  unfold xq_63 at h
  have hX := xba h
  clear h
  obtain ⟨h1, h⟩ := hX
  replace h1 := xbe h1
  subst h1
  replace h := xbe h
  exact fun x y => xr_lushr (xb_125 D h) x y
def xq_64 (r : Option FieldType) (G : List (Nat × Nat × Nat)) (x : UInt8) (tl : List UInt8) (pc nx a b : Nat) : Bool := Nat.beq nx (pc + 1) && Nat.beq x.toNat 117
theorem xqk_64 (hG : xqG G (xMo M)) (D : (xMc M).data.toList.drop pc = x :: tl) (h : xq_64 (xMr M) G x tl pc nx a b = true) : xok mt M pc (64, nx, a, b, cs) := by
  unfold xq_64 at h
  have hX := xba h
  clear h
  obtain ⟨h1, h⟩ := hX
  replace h1 := xbe h1
  subst h1
  replace h := xbe h
  exact fun x => xr_lneg (xb_117 D h) x
def xq_66 (r : Option FieldType) (G : List (Nat × Nat × Nat)) (x : UInt8) (tl : List UInt8) (pc nx a b : Nat) : Bool := Nat.beq nx (pc + 1) && Nat.beq x.toNat 136
theorem xqk_66 (hG : xqG G (xMo M)) (D : (xMc M).data.toList.drop pc = x :: tl) (h : xq_66 (xMr M) G x tl pc nx a b = true) : xok mt M pc (66, nx, a, b, cs) := by
  unfold xq_66 at h
  have hX := xba h
  clear h
  obtain ⟨h1, h⟩ := hX
  replace h1 := xbe h1
  subst h1
  replace h := xbe h
  exact fun x => xr_l2i (xb_136 D h) x
def xq_69 (r : Option FieldType) (G : List (Nat × Nat × Nat)) (x : UInt8) (tl : List UInt8) (pc nx a b : Nat) : Bool := Nat.beq nx (pc + 1) && Nat.beq x.toNat 88
theorem xqk_69 (hG : xqG G (xMo M)) (D : (xMc M).data.toList.drop pc = x :: tl) (h : xq_69 (xMr M) G x tl pc nx a b = true) : xok mt M pc (69, nx, a, b, cs) := by
  unfold xq_69 at h
  have hX := xba h
  clear h
  obtain ⟨h1, h⟩ := hX
  replace h1 := xbe h1
  subst h1
  replace h := xbe h
  exact fun v h2 => xr_pop2 (xb_88 D h) v h2
def xq_20 (r : Option FieldType) (G : List (Nat × Nat × Nat)) (x : UInt8) (tl : List UInt8) (pc nx a b : Nat) : Bool := Nat.beq nx (pc + 1) && Nat.beq x.toNat 50
theorem xqk_20 (hG : xqG G (xMo M)) (D : (xMc M).data.toList.drop pc = x :: tl) (h : xq_20 (xMr M) G x tl pc nx a b = true) : xok mt M pc (20, nx, a, b, cs) := by
  unfold xq_20 at h
  have hX := xba h
  clear h
  obtain ⟨h1, h⟩ := hX
  replace h1 := xbe h1
  subst h1
  replace h := xbe h
  exact xr_aald (xb_50 D h)
def xq_6 (r : Option FieldType) (G : List (Nat × Nat × Nat)) (x : UInt8) (tl : List UInt8) (pc nx a b : Nat) : Bool := Nat.beq nx (pc + 1) && Nat.beq x.toNat 145
theorem xqk_6 (hG : xqG G (xMo M)) (D : (xMc M).data.toList.drop pc = x :: tl) (h : xq_6 (xMr M) G x tl pc nx a b = true) : xok mt M pc (6, nx, a, b, cs) := by
  unfold xq_6 at h
  have hX := xba h
  clear h
  obtain ⟨h1, h⟩ := hX
  replace h1 := xbe h1
  subst h1
  replace h := xbe h
  exact fun x => xr_i2b (xb_145 D h) x
def xq_38 (r : Option FieldType) (G : List (Nat × Nat × Nat)) (x : UInt8) (tl : List UInt8) (pc nx a b : Nat) : Bool := Nat.beq nx (pc + 1) && Nat.beq x.toNat 146
theorem xqk_38 (hG : xqG G (xMo M)) (D : (xMc M).data.toList.drop pc = x :: tl) (h : xq_38 (xMr M) G x tl pc nx a b = true) : xok mt M pc (38, nx, a, b, cs) := by
  unfold xq_38 at h
  have hX := xba h
  clear h
  obtain ⟨h1, h⟩ := hX
  replace h1 := xbe h1
  subst h1
  replace h := xbe h
  exact fun x => xr_i2c (xb_146 D h) x
def xq_42 (r : Option FieldType) (G : List (Nat × Nat × Nat)) (x : UInt8) (tl : List UInt8) (pc nx a b : Nat) : Bool := Nat.beq nx (pc + 1) && Nat.beq x.toNat 190
theorem xqk_42 (hG : xqG G (xMo M)) (D : (xMc M).data.toList.drop pc = x :: tl) (h : xq_42 (xMr M) G x tl pc nx a b = true) : xok mt M pc (42, nx, a, b, cs) := by
  unfold xq_42 at h
  have hX := xba h
  clear h
  obtain ⟨h1, h⟩ := hX
  replace h1 := xbe h1
  subst h1
  replace h := xbe h
  exact xr_slen (xb_190 D h)
def xq_37 (r : Option FieldType) (G : List (Nat × Nat × Nat)) (x : UInt8) (tl : List UInt8) (pc nx a b : Nat) : Bool := Nat.beq nx (pc + 1) && Nat.beq x.toNat 51
theorem xqk_37 (hG : xqG G (xMo M)) (D : (xMc M).data.toList.drop pc = x :: tl) (h : xq_37 (xMr M) G x tl pc nx a b = true) : xok mt M pc (37, nx, a, b, cs) := by
  unfold xq_37 at h
  have hX := xba h
  clear h
  obtain ⟨h1, h⟩ := hX
  replace h1 := xbe h1
  subst h1
  replace h := xbe h
  exact xr_strb (xb_51 D h)
def xqg (r : Option FieldType) (G : List (Nat × Nat × Nat)) (x : UInt8) (tl : List UInt8) (pc o nx a b : Nat) : Bool := cond (Nat.beq o 2) (xq_2 r G x tl pc nx a b) (cond (Nat.beq o 3) (xq_3 r G x tl pc nx a b) (cond (Nat.beq o 16) (xq_16 r G x tl pc nx a b) (cond (Nat.beq o 0) (xq_0 r G x tl pc nx a b) (cond (Nat.beq o 14) (xq_14 r G x tl pc nx a b) (cond (Nat.beq o 30) (xq_30 r G x tl pc nx a b) (cond (Nat.beq o 5) (xq_5 r G x tl pc nx a b) (cond (Nat.beq o 12) (xq_12 r G x tl pc nx a b) (cond (Nat.beq o 13) (xq_13 r G x tl pc nx a b) (cond (Nat.beq o 19) (xq_19 r G x tl pc nx a b) (cond (Nat.beq o 21) (xq_21 r G x tl pc nx a b) (cond (Nat.beq o 32) (xq_32 r G x tl pc nx a b) (cond (Nat.beq o 43) (xq_43 r G x tl pc nx a b) (cond (Nat.beq o 4) (xq_4 r G x tl pc nx a b) (cond (Nat.beq o 9) (xq_9 r G x tl pc nx a b) (cond (Nat.beq o 10) (xq_10 r G x tl pc nx a b) (cond (Nat.beq o 11) (xq_11 r G x tl pc nx a b) (cond (Nat.beq o 1) (xq_1 r G x tl pc nx a b) (cond (Nat.beq o 18) (xq_18 r G x tl pc nx a b) (cond (Nat.beq o 31) (xq_31 r G x tl pc nx a b) (cond (Nat.beq o 8) (xq_8 r G x tl pc nx a b) (cond (Nat.beq o 65) (xq_65 r G x tl pc nx a b) (cond (Nat.beq o 68) (xq_68 r G x tl pc nx a b) (cond (Nat.beq o 67) (xq_67 r G x tl pc nx a b) (cond (Nat.beq o 60) (xq_60 r G x tl pc nx a b) (cond (Nat.beq o 61) (xq_61 r G x tl pc nx a b) (cond (Nat.beq o 62) (xq_62 r G x tl pc nx a b) (cond (Nat.beq o 63) (xq_63 r G x tl pc nx a b) (cond (Nat.beq o 64) (xq_64 r G x tl pc nx a b) (cond (Nat.beq o 66) (xq_66 r G x tl pc nx a b) (cond (Nat.beq o 69) (xq_69 r G x tl pc nx a b) (cond (Nat.beq o 20) (xq_20 r G x tl pc nx a b) (cond (Nat.beq o 6) (xq_6 r G x tl pc nx a b) (cond (Nat.beq o 38) (xq_38 r G x tl pc nx a b) (cond (Nat.beq o 42) (xq_42 r G x tl pc nx a b) (cond (Nat.beq o 37) (xq_37 r G x tl pc nx a b) (false))))))))))))))))))))))))))))))))))))
theorem xqg_ok {o : Nat} (hG : xqG G (xMo M)) (D : (xMc M).data.toList.drop pc = x :: tl) (h : xqg (xMr M) G x tl pc o nx a b = true) : xok mt M pc (o, nx, a, b, cs) := by
  unfold xqg at h
  rcases xbf h with ⟨ho, h⟩ | h
  · have ho := xbe ho
    subst ho
    exact xqk_2 hG D h
  rcases xbf h with ⟨ho, h⟩ | h
  · have ho := xbe ho
    subst ho
    exact xqk_3 hG D h
  rcases xbf h with ⟨ho, h⟩ | h
  · have ho := xbe ho
    subst ho
    exact xqk_16 hG D h
  rcases xbf h with ⟨ho, h⟩ | h
  · have ho := xbe ho
    subst ho
    exact xqk_0 hG D h
  rcases xbf h with ⟨ho, h⟩ | h
  · have ho := xbe ho
    subst ho
    exact xqk_14 hG D h
  rcases xbf h with ⟨ho, h⟩ | h
  · have ho := xbe ho
    subst ho
    exact xqk_30 hG D h
  rcases xbf h with ⟨ho, h⟩ | h
  · have ho := xbe ho
    subst ho
    exact xqk_5 hG D h
  rcases xbf h with ⟨ho, h⟩ | h
  · have ho := xbe ho
    subst ho
    exact xqk_12 hG D h
  rcases xbf h with ⟨ho, h⟩ | h
  · have ho := xbe ho
    subst ho
    exact xqk_13 hG D h
  rcases xbf h with ⟨ho, h⟩ | h
  · have ho := xbe ho
    subst ho
    exact xqk_19 hG D h
  rcases xbf h with ⟨ho, h⟩ | h
  · have ho := xbe ho
    subst ho
    exact xqk_21 hG D h
  rcases xbf h with ⟨ho, h⟩ | h
  · have ho := xbe ho
    subst ho
    exact xqk_32 hG D h
  rcases xbf h with ⟨ho, h⟩ | h
  · have ho := xbe ho
    subst ho
    exact xqk_43 hG D h
  rcases xbf h with ⟨ho, h⟩ | h
  · have ho := xbe ho
    subst ho
    exact xqk_4 hG D h
  rcases xbf h with ⟨ho, h⟩ | h
  · have ho := xbe ho
    subst ho
    exact xqk_9 hG D h
  rcases xbf h with ⟨ho, h⟩ | h
  · have ho := xbe ho
    subst ho
    exact xqk_10 hG D h
  rcases xbf h with ⟨ho, h⟩ | h
  · have ho := xbe ho
    subst ho
    exact xqk_11 hG D h
  rcases xbf h with ⟨ho, h⟩ | h
  · have ho := xbe ho
    subst ho
    exact xqk_1 hG D h
  rcases xbf h with ⟨ho, h⟩ | h
  · have ho := xbe ho
    subst ho
    exact xqk_18 hG D h
  rcases xbf h with ⟨ho, h⟩ | h
  · have ho := xbe ho
    subst ho
    exact xqk_31 hG D h
  rcases xbf h with ⟨ho, h⟩ | h
  · have ho := xbe ho
    subst ho
    exact xqk_8 hG D h
  rcases xbf h with ⟨ho, h⟩ | h
  · have ho := xbe ho
    subst ho
    exact xqk_65 hG D h
  rcases xbf h with ⟨ho, h⟩ | h
  · have ho := xbe ho
    subst ho
    exact xqk_68 hG D h
  rcases xbf h with ⟨ho, h⟩ | h
  · have ho := xbe ho
    subst ho
    exact xqk_67 hG D h
  rcases xbf h with ⟨ho, h⟩ | h
  · have ho := xbe ho
    subst ho
    exact xqk_60 hG D h
  rcases xbf h with ⟨ho, h⟩ | h
  · have ho := xbe ho
    subst ho
    exact xqk_61 hG D h
  rcases xbf h with ⟨ho, h⟩ | h
  · have ho := xbe ho
    subst ho
    exact xqk_62 hG D h
  rcases xbf h with ⟨ho, h⟩ | h
  · have ho := xbe ho
    subst ho
    exact xqk_63 hG D h
  rcases xbf h with ⟨ho, h⟩ | h
  · have ho := xbe ho
    subst ho
    exact xqk_64 hG D h
  rcases xbf h with ⟨ho, h⟩ | h
  · have ho := xbe ho
    subst ho
    exact xqk_66 hG D h
  rcases xbf h with ⟨ho, h⟩ | h
  · have ho := xbe ho
    subst ho
    exact xqk_69 hG D h
  rcases xbf h with ⟨ho, h⟩ | h
  · have ho := xbe ho
    subst ho
    exact xqk_20 hG D h
  rcases xbf h with ⟨ho, h⟩ | h
  · have ho := xbe ho
    subst ho
    exact xqk_6 hG D h
  rcases xbf h with ⟨ho, h⟩ | h
  · have ho := xbe ho
    subst ho
    exact xqk_38 hG D h
  rcases xbf h with ⟨ho, h⟩ | h
  · have ho := xbe ho
    subst ho
    exact xqk_42 hG D h
  rcases xbf h with ⟨ho, h⟩ | h
  · have ho := xbe ho
    subst ho
    exact xqk_37 hG D h
  cases h
end XQG
def xq5 (sz o nx a b sz' o' nx' a' b' : Nat) : Bool := Nat.beq sz sz' && (Nat.beq o o' && (Nat.beq nx nx' && (Nat.beq a a' && Nat.beq b b')))
theorem xq5_ok {sz o nx a b sz' o' nx' a' b' : Nat} (h : xq5 sz o nx a b sz' o' nx' a' b' = true) : sz = sz' ∧ o = o' ∧ nx = nx' ∧ a = a' ∧ b = b' := by
  unfold xq5 at h
  simp only [Bool.and_eq_true, Nat.beq_eq] at h
  exact h
def xle : List (Nat × Nat) → List (Nat × Nat) → Bool
  | [], [] => true
  | a :: l, b :: r => Nat.beq a.1 b.1 && (Nat.beq a.2 b.2 && xle l r)
  | _, _ => false
theorem xle_ok : ∀ {l r : List (Nat × Nat)}, xle l r = true → l = r
  | [], [], _ => rfl
  | [], _ :: _, h => absurd (show false = true from h) (by decide)
  | _ :: _, [], h => absurd (show false = true from h) (by decide)
  | (a, b) :: l, (c, d) :: r, h => by
    have h : (Nat.beq a c && (Nat.beq b d && xle l r)) = true := h
    simp only [Bool.and_eq_true, Nat.beq_eq] at h
    obtain ⟨rfl, rfl, h3⟩ := h
    rw [xle_ok h3]
def xqe (q r : Nat × xOp) : Bool := xq5 q.1 q.2.1 q.2.2.1 q.2.2.2.1 q.2.2.2.2.1 r.1 r.2.1 r.2.2.1 r.2.2.2.1 r.2.2.2.2.1 && xle q.2.2.2.2.2 r.2.2.2.2.2
theorem xqe_ok {q r : Nat × xOp} (h : xqe q r = true) : q = r := by
  obtain ⟨pc, o, nx, a, b, cs⟩ := q
  obtain ⟨pc', o', nx', a', b', cs'⟩ := r
  obtain ⟨h1, h2⟩ := (Bool.and_eq_true _ _).mp (show (xq5 pc o nx a b pc' o' nx' a' b' && xle cs cs') = true from h)
  obtain ⟨rfl, rfl, rfl, rfl, rfl⟩ := xq5_ok h1
  rw [xle_ok h2]
/-- a walk over the rows and the bytes: cur, what stands there; hd the rows that are shown by themselves -/
def xqs (r : Option FieldType) (G : List (Nat × Nat × Nat)) : List (Nat × xOp) → List (Nat × xOp) → Nat → List UInt8 → Bool
  | [], _, _, _ => true
  | q :: l, hd, cur, bs => Nat.ble cur q.1 && (match bs.drop (q.1 - cur) with
    | [] => false
    | x :: tl => match hd with
      | [] => xqg r G x tl q.1 q.2.1 q.2.2.1 q.2.2.2.1 q.2.2.2.2.1 && xqs r G l [] (q.1 + 1) tl
      | w :: hd => cond (Nat.beq q.1 w.1) (xqe q w && xqs r G l hd (q.1 + 1) tl) (xqg r G x tl q.1 q.2.1 q.2.2.1 q.2.2.2.1 q.2.2.2.2.1 && xqs r G l (w :: hd) (q.1 + 1) tl))
theorem xqs_ok {mt : List xM} {M : xM} {G : List (Nat × Nat × Nat)} (hG : xqG G (xMo M)) : ∀ {l hd : List (Nat × xOp)} {cur : Nat} {bs : List UInt8}, (xMc M).data.toList.drop cur = bs → xqs (xMr M) G l hd cur bs = true → (∀ q ∈ hd, xok mt M q.1 q.2) → ∀ q ∈ l, xok mt M q.1 q.2 := by
  intro l
  induction l with
  | nil => intro hd cur bs _ _ _ q hq; cases hq
  | cons q l ih =>
    intro hd cur bs hb h H v hv
    obtain ⟨pc, o, nx, a, b, cs⟩ := q
    obtain ⟨h1, h2⟩ := xba (show (Nat.ble cur pc && (match (generalizing := false) bs.drop (pc - cur) with
      | [] => false
      | x :: tl => match (generalizing := false) hd with
        | [] => xqg (xMr M) G x tl pc o nx a b && xqs (xMr M) G l [] (pc + 1) tl
        | w :: hd => cond (Nat.beq pc w.1) (xqe (pc, o, nx, a, b, cs) w && xqs (xMr M) G l hd (pc + 1) tl) (xqg (xMr M) G x tl pc o nx a b && xqs (xMr M) G l (w :: hd) (pc + 1) tl))) = true from h)
    have h1 := xbl h1
    subst hb
    rw [List.drop_drop, show cur + (pc - cur) = pc by omega] at h2
    split at h2
    · cases h2
    · rename_i x tl D
      have D2 := xb_t D
      split at h2
      · obtain ⟨h3, h4⟩ := xba h2
        rcases List.mem_cons.mp hv with rfl | hv
        · exact xqg_ok hG D h3
        · exact ih D2 h4 H v hv
      · rename_i w hd'
        rcases xbf h2 with ⟨-, h2⟩ | h2
        · obtain ⟨h3, h4⟩ := xba h2
          have e := xqe_ok h3
          subst e
          rcases List.mem_cons.mp hv with rfl | hv
          · exact H _ List.mem_cons_self
          · exact ih D2 h4 (fun y hy => H y (List.mem_cons_of_mem _ hy)) v hv
        · obtain ⟨h3, h4⟩ := xba h2
          rcases List.mem_cons.mp hv with rfl | hv
          · exact xqg_ok hG D h3
          · exact ih D2 h4 H v hv
theorem xqw_ok {mt : List xM} {M : xM} {G : List (Nat × Nat × Nat)} {own : String} (hG : xqG G own) (ho : xMo M = own) {l hd : List (Nat × xOp)} (h : xqs (xMr M) G l hd 0 (xMc M).data.toList = true) (H : ∀ q ∈ hd, xok mt M q.1 q.2) : ∀ q ∈ l, xok mt M q.1 q.2 := by
  subst ho
  exact xqs_ok hG rfl h H
end
section
theorem xcns {α : Type} {a : α} {l : List α} {Q : α → Prop} (h : Q a) (t : ∀ q ∈ l, Q q) : ∀ q ∈ a :: l, Q q := List.forall_mem_cons.mpr ⟨h, t⟩
theorem xnl {α : Type} {Q : α → Prop} : ∀ q ∈ ([] : List α), Q q := fun _ h => absurd h List.not_mem_nil
def gx_RX0 : List (Nat × Nat × Nat) := [(9, 0, 3), (15, 0, 4), (18, 0, 5), (21, 0, 6), (25, 0, 7), (28, 0, 8), (32, 0, 9), (35, 0, 0), (39, 0, 1), (43, 0, 2), (47, 4, 1), (53, 6, 1), (58, 10, 10), (69, 4, 12)]
set_option maxRecDepth 100000 in
set_option maxHeartbeats 4000000 in
theorem gxo_RX0 : ∀ g ∈ gx_RX0, ∀ (cc : ByteArray) (pc : Nat), decode cc pc = .ok (.getfield g.1, 3) → xGf cc RX0 pc (pc + 3) g.2.1 g.2.2 := xcns (fun cc pc d => xr_getf d (show vwCl[0]? = some (RX0, TX0, 10) from rfl) (by decide) xin_X0 xw_273) <| xcns (fun cc pc d => xr_getf d (show vwCl[0]? = some (RX0, TX0, 10) from rfl) (by decide) xin_X0 xw_274) <| xcns (fun cc pc d => xr_getf d (show vwCl[0]? = some (RX0, TX0, 10) from rfl) (by decide) xin_X0 xw_275) <| xcns (fun cc pc d => xr_getf d (show vwCl[0]? = some (RX0, TX0, 10) from rfl) (by decide) xin_X0 xw_276) <| xcns (fun cc pc d => xr_getf d (show vwCl[0]? = some (RX0, TX0, 10) from rfl) (by decide) xin_X0 xw_277) <| xcns (fun cc pc d => xr_getf d (show vwCl[0]? = some (RX0, TX0, 10) from rfl) (by decide) xin_X0 xw_278) <| xcns (fun cc pc d => xr_getf d (show vwCl[0]? = some (RX0, TX0, 10) from rfl) (by decide) xin_X0 xw_280) <| xcns (fun cc pc d => xr_getf d (show vwCl[0]? = some (RX0, TX0, 10) from rfl) (by decide) xin_X0 xw_281) <| xcns (fun cc pc d => xr_getf d (show vwCl[0]? = some (RX0, TX0, 10) from rfl) (by decide) xin_X0 xw_282) <| xcns (fun cc pc d => xr_getf d (show vwCl[0]? = some (RX0, TX0, 10) from rfl) (by decide) xin_X0 xw_283) <| xcns (fun cc pc d => xr_getf d (show vwCl[4]? = some (RX4, TX4, 19) from rfl) (by decide) xin_X4 xw_285) <| xcns (fun cc pc d => xr_getf d (show vwCl[6]? = some (RX6, TX6, 2) from rfl) (by decide) xin_X6 xw_286) <| xcns (fun cc pc d => xr_getf d (show vwCl[10]? = some (RX10, TX10, 13) from rfl) (by decide) xin_X10 xw_287) <| xcns (fun cc pc d => xr_getf d (show vwCl[4]? = some (RX4, TX4, 19) from rfl) (by decide) xin_X4 xw_289) <| xnl
def gx_RX1 : List (Nat × Nat × Nat) := [(11, 1, 3), (15, 1, 4), (18, 1, 5), (23, 1, 6), (26, 1, 7), (29, 1, 8), (33, 1, 9), (36, 1, 10), (40, 1, 0), (44, 1, 1), (48, 1, 2), (52, 4, 2), (58, 6, 1), (70, 4, 11), (102, 4, 1), (124, 10, 10)]
set_option maxRecDepth 100000 in
set_option maxHeartbeats 4000000 in
theorem gxo_RX1 : ∀ g ∈ gx_RX1, ∀ (cc : ByteArray) (pc : Nat), decode cc pc = .ok (.getfield g.1, 3) → xGf cc RX1 pc (pc + 3) g.2.1 g.2.2 := xcns (fun cc pc d => xr_getf d (show vwCl[1]? = some (RX1, TX1, 11) from rfl) (by decide) xin_X1 xw_303) <| xcns (fun cc pc d => xr_getf d (show vwCl[1]? = some (RX1, TX1, 11) from rfl) (by decide) xin_X1 xw_304) <| xcns (fun cc pc d => xr_getf d (show vwCl[1]? = some (RX1, TX1, 11) from rfl) (by decide) xin_X1 xw_305) <| xcns (fun cc pc d => xr_getf d (show vwCl[1]? = some (RX1, TX1, 11) from rfl) (by decide) xin_X1 xw_307) <| xcns (fun cc pc d => xr_getf d (show vwCl[1]? = some (RX1, TX1, 11) from rfl) (by decide) xin_X1 xw_308) <| xcns (fun cc pc d => xr_getf d (show vwCl[1]? = some (RX1, TX1, 11) from rfl) (by decide) xin_X1 xw_309) <| xcns (fun cc pc d => xr_getf d (show vwCl[1]? = some (RX1, TX1, 11) from rfl) (by decide) xin_X1 xw_310) <| xcns (fun cc pc d => xr_getf d (show vwCl[1]? = some (RX1, TX1, 11) from rfl) (by decide) xin_X1 xw_311) <| xcns (fun cc pc d => xr_getf d (show vwCl[1]? = some (RX1, TX1, 11) from rfl) (by decide) xin_X1 xw_312) <| xcns (fun cc pc d => xr_getf d (show vwCl[1]? = some (RX1, TX1, 11) from rfl) (by decide) xin_X1 xw_313) <| xcns (fun cc pc d => xr_getf d (show vwCl[1]? = some (RX1, TX1, 11) from rfl) (by decide) xin_X1 xw_314) <| xcns (fun cc pc d => xr_getf d (show vwCl[4]? = some (RX4, TX4, 19) from rfl) (by decide) xin_X4 xw_317) <| xcns (fun cc pc d => xr_getf d (show vwCl[6]? = some (RX6, TX6, 2) from rfl) (by decide) xin_X6 xw_318) <| xcns (fun cc pc d => xr_getf d (show vwCl[4]? = some (RX4, TX4, 19) from rfl) (by decide) xin_X4 xw_332) <| xcns (fun cc pc d => xr_getf d (show vwCl[4]? = some (RX4, TX4, 19) from rfl) (by decide) xin_X4 xw_330) <| xcns (fun cc pc d => xr_getf d (show vwCl[10]? = some (RX10, TX10, 13) from rfl) (by decide) xin_X10 xw_331) <| xnl
def gx_RX10 : List (Nat × Nat × Nat) := [(9, 10, 0), (15, 10, 1), (18, 10, 2), (21, 10, 3), (24, 10, 4), (27, 10, 5), (30, 10, 6), (34, 10, 7), (37, 10, 8), (40, 10, 9), (43, 10, 10), (46, 10, 11), (49, 10, 12), (58, 4, 5), (61, 4, 0), (65, 6, 1), (76, 4, 14), (77, 4, 3), (83, 4, 17), (84, 4, 18)]
set_option maxRecDepth 100000 in
set_option maxHeartbeats 4000000 in
theorem gxo_RX10 : ∀ g ∈ gx_RX10, ∀ (cc : ByteArray) (pc : Nat), decode cc pc = .ok (.getfield g.1, 3) → xGf cc RX10 pc (pc + 3) g.2.1 g.2.2 := xcns (fun cc pc d => xr_getf d (show vwCl[10]? = some (RX10, TX10, 13) from rfl) (by decide) xin_X10 xw_728) <| xcns (fun cc pc d => xr_getf d (show vwCl[10]? = some (RX10, TX10, 13) from rfl) (by decide) xin_X10 xw_729) <| xcns (fun cc pc d => xr_getf d (show vwCl[10]? = some (RX10, TX10, 13) from rfl) (by decide) xin_X10 xw_730) <| xcns (fun cc pc d => xr_getf d (show vwCl[10]? = some (RX10, TX10, 13) from rfl) (by decide) xin_X10 xw_731) <| xcns (fun cc pc d => xr_getf d (show vwCl[10]? = some (RX10, TX10, 13) from rfl) (by decide) xin_X10 xw_732) <| xcns (fun cc pc d => xr_getf d (show vwCl[10]? = some (RX10, TX10, 13) from rfl) (by decide) xin_X10 xw_733) <| xcns (fun cc pc d => xr_getf d (show vwCl[10]? = some (RX10, TX10, 13) from rfl) (by decide) xin_X10 xw_734) <| xcns (fun cc pc d => xr_getf d (show vwCl[10]? = some (RX10, TX10, 13) from rfl) (by decide) xin_X10 xw_735) <| xcns (fun cc pc d => xr_getf d (show vwCl[10]? = some (RX10, TX10, 13) from rfl) (by decide) xin_X10 xw_736) <| xcns (fun cc pc d => xr_getf d (show vwCl[10]? = some (RX10, TX10, 13) from rfl) (by decide) xin_X10 xw_737) <| xcns (fun cc pc d => xr_getf d (show vwCl[10]? = some (RX10, TX10, 13) from rfl) (by decide) xin_X10 xw_738) <| xcns (fun cc pc d => xr_getf d (show vwCl[10]? = some (RX10, TX10, 13) from rfl) (by decide) xin_X10 xw_739) <| xcns (fun cc pc d => xr_getf d (show vwCl[10]? = some (RX10, TX10, 13) from rfl) (by decide) xin_X10 xw_740) <| xcns (fun cc pc d => xr_getf d (show vwCl[4]? = some (RX4, TX4, 19) from rfl) (by decide) xin_X4 xw_744) <| xcns (fun cc pc d => xr_getf d (show vwCl[4]? = some (RX4, TX4, 19) from rfl) (by decide) xin_X4 xw_745) <| xcns (fun cc pc d => xr_getf d (show vwCl[6]? = some (RX6, TX6, 2) from rfl) (by decide) xin_X6 xw_746) <| xcns (fun cc pc d => xr_getf d (show vwCl[4]? = some (RX4, TX4, 19) from rfl) (by decide) xin_X4 xw_748) <| xcns (fun cc pc d => xr_getf d (show vwCl[4]? = some (RX4, TX4, 19) from rfl) (by decide) xin_X4 xw_749) <| xcns (fun cc pc d => xr_getf d (show vwCl[4]? = some (RX4, TX4, 19) from rfl) (by decide) xin_X4 xw_751) <| xcns (fun cc pc d => xr_getf d (show vwCl[4]? = some (RX4, TX4, 19) from rfl) (by decide) xin_X4 xw_752) <| xnl
def gx_RX11 : List (Nat × Nat × Nat) := [(9, 11, 0), (16, 11, 1), (20, 11, 2), (33, 11, 3), (40, 11, 4), (44, 11, 5), (50, 11, 6), (59, 11, 7), (68, 11, 8), (75, 11, 9), (82, 11, 10), (86, 11, 11), (90, 11, 12), (93, 11, 13), (96, 11, 14), (112, 8, 0), (116, 9, 7), (117, 9, 8), (121, 3, 1), (127, 4, 0), (136, 4, 1), (139, 4, 2), (142, 4, 3), (163, 4, 8), (169, 10, 1), (183, 4, 4), (186, 10, 0), (192, 4, 11), (199, 4, 12), (221, 10, 2), (227, 10, 7), (233, 10, 3), (239, 10, 8), (246, 10, 6), (249, 10, 4), (252, 10, 5), (279, 1, 7), (286, 7, 4), (289, 7, 3), (292, 6, 1), (293, 7, 5), (299, 10, 11), (318, 4, 10), (325, 10, 10), (338, 0, 5), (349, 10, 9), (357, 4, 15), (361, 2, 4)]
set_option maxRecDepth 100000 in
set_option maxHeartbeats 4000000 in
theorem gxo_RX11 : ∀ g ∈ gx_RX11, ∀ (cc : ByteArray) (pc : Nat), decode cc pc = .ok (.getfield g.1, 3) → xGf cc RX11 pc (pc + 3) g.2.1 g.2.2 := xcns (fun cc pc d => xr_getf d (show vwCl[11]? = some (RX11, TX11, 15) from rfl) (by decide) xin_X11 xw_3) <| xcns (fun cc pc d => xr_getf d (show vwCl[11]? = some (RX11, TX11, 15) from rfl) (by decide) xin_X11 xw_8) <| xcns (fun cc pc d => xr_getf d (show vwCl[11]? = some (RX11, TX11, 15) from rfl) (by decide) xin_X11 xw_9) <| xcns (fun cc pc d => xr_getf d (show vwCl[11]? = some (RX11, TX11, 15) from rfl) (by decide) xin_X11 xw_20) <| xcns (fun cc pc d => xr_getf d (show vwCl[11]? = some (RX11, TX11, 15) from rfl) (by decide) xin_X11 xw_25) <| xcns (fun cc pc d => xr_getf d (show vwCl[11]? = some (RX11, TX11, 15) from rfl) (by decide) xin_X11 xw_26) <| xcns (fun cc pc d => xr_getf d (show vwCl[11]? = some (RX11, TX11, 15) from rfl) (by decide) xin_X11 xw_31) <| xcns (fun cc pc d => xr_getf d (show vwCl[11]? = some (RX11, TX11, 15) from rfl) (by decide) xin_X11 xw_37) <| xcns (fun cc pc d => xr_getf d (show vwCl[11]? = some (RX11, TX11, 15) from rfl) (by decide) xin_X11 xw_43) <| xcns (fun cc pc d => xr_getf d (show vwCl[11]? = some (RX11, TX11, 15) from rfl) (by decide) xin_X11 xw_49) <| xcns (fun cc pc d => xr_getf d (show vwCl[11]? = some (RX11, TX11, 15) from rfl) (by decide) xin_X11 xw_55) <| xcns (fun cc pc d => xr_getf d (show vwCl[11]? = some (RX11, TX11, 15) from rfl) (by decide) xin_X11 xw_56) <| xcns (fun cc pc d => xr_getf d (show vwCl[11]? = some (RX11, TX11, 15) from rfl) (by decide) xin_X11 xw_57) <| xcns (fun cc pc d => xr_getf d (show vwCl[11]? = some (RX11, TX11, 15) from rfl) (by decide) xin_X11 xw_58) <| xcns (fun cc pc d => xr_getf d (show vwCl[11]? = some (RX11, TX11, 15) from rfl) (by decide) xin_X11 xw_59) <| xcns (fun cc pc d => xr_getf d (show vwCl[8]? = some (RX8, TX8, 4) from rfl) (by decide) xin_X8 xw_255) <| xcns (fun cc pc d => xr_getf d (show vwCl[9]? = some (RX9, TX9, 9) from rfl) (by decide) xin_X9 xw_256) <| xcns (fun cc pc d => xr_getf d (show vwCl[9]? = some (RX9, TX9, 9) from rfl) (by decide) xin_X9 xw_257) <| xcns (fun cc pc d => xr_getf d (show vwCl[3]? = some (RX3, TX3, 2) from rfl) (by decide) xin_X3 xw_117) <| xcns (fun cc pc d => xr_getf d (show vwCl[4]? = some (RX4, TX4, 19) from rfl) (by decide) xin_X4 xw_112) <| xcns (fun cc pc d => xr_getf d (show vwCl[4]? = some (RX4, TX4, 19) from rfl) (by decide) xin_X4 xw_107) <| xcns (fun cc pc d => xr_getf d (show vwCl[4]? = some (RX4, TX4, 19) from rfl) (by decide) xin_X4 xw_71) <| xcns (fun cc pc d => xr_getf d (show vwCl[4]? = some (RX4, TX4, 19) from rfl) (by decide) xin_X4 xw_93) <| xcns (fun cc pc d => xr_getf d (show vwCl[4]? = some (RX4, TX4, 19) from rfl) (by decide) xin_X4 xw_109) <| xcns (fun cc pc d => xr_getf d (show vwCl[10]? = some (RX10, TX10, 13) from rfl) (by decide) xin_X10 xw_110) <| xcns (fun cc pc d => xr_getf d (show vwCl[4]? = some (RX4, TX4, 19) from rfl) (by decide) xin_X4 xw_247) <| xcns (fun cc pc d => xr_getf d (show vwCl[10]? = some (RX10, TX10, 13) from rfl) (by decide) xin_X10 xw_196) <| xcns (fun cc pc d => xr_getf d (show vwCl[4]? = some (RX4, TX4, 19) from rfl) (by decide) xin_X4 xw_75) <| xcns (fun cc pc d => xr_getf d (show vwCl[4]? = some (RX4, TX4, 19) from rfl) (by decide) xin_X4 xw_201) <| xcns (fun cc pc d => xr_getf d (show vwCl[10]? = some (RX10, TX10, 13) from rfl) (by decide) xin_X10 xw_94) <| xcns (fun cc pc d => xr_getf d (show vwCl[10]? = some (RX10, TX10, 13) from rfl) (by decide) xin_X10 xw_69) <| xcns (fun cc pc d => xr_getf d (show vwCl[10]? = some (RX10, TX10, 13) from rfl) (by decide) xin_X10 xw_78) <| xcns (fun cc pc d => xr_getf d (show vwCl[10]? = some (RX10, TX10, 13) from rfl) (by decide) xin_X10 xw_115) <| xcns (fun cc pc d => xr_getf d (show vwCl[10]? = some (RX10, TX10, 13) from rfl) (by decide) xin_X10 xw_116) <| xcns (fun cc pc d => xr_getf d (show vwCl[10]? = some (RX10, TX10, 13) from rfl) (by decide) xin_X10 xw_235) <| xcns (fun cc pc d => xr_getf d (show vwCl[10]? = some (RX10, TX10, 13) from rfl) (by decide) xin_X10 xw_263) <| xcns (fun cc pc d => xr_getf d (show vwCl[1]? = some (RX1, TX1, 11) from rfl) (by decide) xin_X1 xw_105) <| xcns (fun cc pc d => xr_getf d (show vwCl[7]? = some (RX7, TX7, 6) from rfl) (by decide) xin_X7 xw_230) <| xcns (fun cc pc d => xr_getf d (show vwCl[7]? = some (RX7, TX7, 6) from rfl) (by decide) xin_X7 xw_231) <| xcns (fun cc pc d => xr_getf d (show vwCl[6]? = some (RX6, TX6, 2) from rfl) (by decide) xin_X6 xw_108) <| xcns (fun cc pc d => xr_getf d (show vwCl[7]? = some (RX7, TX7, 6) from rfl) (by decide) xin_X7 xw_152) <| xcns (fun cc pc d => xr_getf d (show vwCl[10]? = some (RX10, TX10, 13) from rfl) (by decide) xin_X10 xw_181) <| xcns (fun cc pc d => xr_getf d (show vwCl[4]? = some (RX4, TX4, 19) from rfl) (by decide) xin_X4 xw_192) <| xcns (fun cc pc d => xr_getf d (show vwCl[10]? = some (RX10, TX10, 13) from rfl) (by decide) xin_X10 xw_121) <| xcns (fun cc pc d => xr_getf d (show vwCl[0]? = some (RX0, TX0, 10) from rfl) (by decide) xin_X0 xw_160) <| xcns (fun cc pc d => xr_getf d (show vwCl[10]? = some (RX10, TX10, 13) from rfl) (by decide) xin_X10 xw_199) <| xcns (fun cc pc d => xr_getf d (show vwCl[4]? = some (RX4, TX4, 19) from rfl) (by decide) xin_X4 xw_113) <| xcns (fun cc pc d => xr_getf d (show vwCl[2]? = some (RX2, TX2, 10) from rfl) (by decide) xin_X2 xw_114) <| xnl
def gx_RX12 : List (Nat × Nat × Nat) := [(7, 12, 1), (13, 12, 3), (16, 12, 4), (19, 12, 5), (22, 12, 6), (25, 12, 7), (28, 12, 8), (31, 12, 9), (34, 12, 10), (38, 12, 11), (41, 12, 12), (44, 12, 13), (47, 12, 14), (50, 12, 15), (53, 12, 16), (56, 12, 17), (59, 12, 18), (62, 12, 19), (65, 12, 20), (68, 12, 21), (71, 12, 22), (74, 12, 23), (77, 12, 34), (81, 12, 37), (84, 12, 38), (87, 12, 39), (90, 12, 40), (93, 12, 41), (96, 12, 42), (99, 12, 43), (102, 12, 44), (105, 12, 45), (108, 12, 46), (111, 12, 47), (114, 12, 48), (117, 12, 50), (121, 12, 51), (124, 12, 53), (127, 12, 54), (130, 12, 55), (133, 12, 56), (136, 12, 57), (139, 12, 58), (142, 12, 62), (145, 12, 63), (148, 12, 64), (151, 12, 65), (154, 12, 66), (157, 12, 67), (163, 12, 0), (166, 12, 2), (169, 12, 27), (172, 12, 26), (179, 12, 28), (182, 12, 29), (192, 12, 30), (217, 12, 31), (220, 12, 32), (243, 12, 24), (273, 12, 25), (288, 12, 36), (312, 12, 35), (318, 12, 33), (325, 12, 61), (328, 12, 49), (348, 12, 52), (455, 12, 59), (458, 12, 60), (491, 12, 68)]
set_option maxRecDepth 100000 in
set_option maxHeartbeats 4000000 in
theorem gxo_RX12 : ∀ g ∈ gx_RX12, ∀ (cc : ByteArray) (pc : Nat), decode cc pc = .ok (.getfield g.1, 3) → xGf cc RX12 pc (pc + 3) g.2.1 g.2.2 := xcns (fun cc pc d => xr_getf d (show vwCl[12]? = some (RX12, TX12, 69) from rfl) (by decide) xin_X12 xw_765) <| xcns (fun cc pc d => xr_getf d (show vwCl[12]? = some (RX12, TX12, 69) from rfl) (by decide) xin_X12 xw_766) <| xcns (fun cc pc d => xr_getf d (show vwCl[12]? = some (RX12, TX12, 69) from rfl) (by decide) xin_X12 xw_767) <| xcns (fun cc pc d => xr_getf d (show vwCl[12]? = some (RX12, TX12, 69) from rfl) (by decide) xin_X12 xw_768) <| xcns (fun cc pc d => xr_getf d (show vwCl[12]? = some (RX12, TX12, 69) from rfl) (by decide) xin_X12 xw_769) <| xcns (fun cc pc d => xr_getf d (show vwCl[12]? = some (RX12, TX12, 69) from rfl) (by decide) xin_X12 xw_770) <| xcns (fun cc pc d => xr_getf d (show vwCl[12]? = some (RX12, TX12, 69) from rfl) (by decide) xin_X12 xw_771) <| xcns (fun cc pc d => xr_getf d (show vwCl[12]? = some (RX12, TX12, 69) from rfl) (by decide) xin_X12 xw_772) <| xcns (fun cc pc d => xr_getf d (show vwCl[12]? = some (RX12, TX12, 69) from rfl) (by decide) xin_X12 xw_774) <| xcns (fun cc pc d => xr_getf d (show vwCl[12]? = some (RX12, TX12, 69) from rfl) (by decide) xin_X12 xw_775) <| xcns (fun cc pc d => xr_getf d (show vwCl[12]? = some (RX12, TX12, 69) from rfl) (by decide) xin_X12 xw_776) <| xcns (fun cc pc d => xr_getf d (show vwCl[12]? = some (RX12, TX12, 69) from rfl) (by decide) xin_X12 xw_777) <| xcns (fun cc pc d => xr_getf d (show vwCl[12]? = some (RX12, TX12, 69) from rfl) (by decide) xin_X12 xw_778) <| xcns (fun cc pc d => xr_getf d (show vwCl[12]? = some (RX12, TX12, 69) from rfl) (by decide) xin_X12 xw_779) <| xcns (fun cc pc d => xr_getf d (show vwCl[12]? = some (RX12, TX12, 69) from rfl) (by decide) xin_X12 xw_780) <| xcns (fun cc pc d => xr_getf d (show vwCl[12]? = some (RX12, TX12, 69) from rfl) (by decide) xin_X12 xw_781) <| xcns (fun cc pc d => xr_getf d (show vwCl[12]? = some (RX12, TX12, 69) from rfl) (by decide) xin_X12 xw_782) <| xcns (fun cc pc d => xr_getf d (show vwCl[12]? = some (RX12, TX12, 69) from rfl) (by decide) xin_X12 xw_783) <| xcns (fun cc pc d => xr_getf d (show vwCl[12]? = some (RX12, TX12, 69) from rfl) (by decide) xin_X12 xw_784) <| xcns (fun cc pc d => xr_getf d (show vwCl[12]? = some (RX12, TX12, 69) from rfl) (by decide) xin_X12 xw_785) <| xcns (fun cc pc d => xr_getf d (show vwCl[12]? = some (RX12, TX12, 69) from rfl) (by decide) xin_X12 xw_786) <| xcns (fun cc pc d => xr_getf d (show vwCl[12]? = some (RX12, TX12, 69) from rfl) (by decide) xin_X12 xw_787) <| xcns (fun cc pc d => xr_getf d (show vwCl[12]? = some (RX12, TX12, 69) from rfl) (by decide) xin_X12 xw_788) <| xcns (fun cc pc d => xr_getf d (show vwCl[12]? = some (RX12, TX12, 69) from rfl) (by decide) xin_X12 xw_789) <| xcns (fun cc pc d => xr_getf d (show vwCl[12]? = some (RX12, TX12, 69) from rfl) (by decide) xin_X12 xw_790) <| xcns (fun cc pc d => xr_getf d (show vwCl[12]? = some (RX12, TX12, 69) from rfl) (by decide) xin_X12 xw_791) <| xcns (fun cc pc d => xr_getf d (show vwCl[12]? = some (RX12, TX12, 69) from rfl) (by decide) xin_X12 xw_792) <| xcns (fun cc pc d => xr_getf d (show vwCl[12]? = some (RX12, TX12, 69) from rfl) (by decide) xin_X12 xw_793) <| xcns (fun cc pc d => xr_getf d (show vwCl[12]? = some (RX12, TX12, 69) from rfl) (by decide) xin_X12 xw_794) <| xcns (fun cc pc d => xr_getf d (show vwCl[12]? = some (RX12, TX12, 69) from rfl) (by decide) xin_X12 xw_795) <| xcns (fun cc pc d => xr_getf d (show vwCl[12]? = some (RX12, TX12, 69) from rfl) (by decide) xin_X12 xw_796) <| xcns (fun cc pc d => xr_getf d (show vwCl[12]? = some (RX12, TX12, 69) from rfl) (by decide) xin_X12 xw_797) <| xcns (fun cc pc d => xr_getf d (show vwCl[12]? = some (RX12, TX12, 69) from rfl) (by decide) xin_X12 xw_798) <| xcns (fun cc pc d => xr_getf d (show vwCl[12]? = some (RX12, TX12, 69) from rfl) (by decide) xin_X12 xw_799) <| xcns (fun cc pc d => xr_getf d (show vwCl[12]? = some (RX12, TX12, 69) from rfl) (by decide) xin_X12 xw_800) <| xcns (fun cc pc d => xr_getf d (show vwCl[12]? = some (RX12, TX12, 69) from rfl) (by decide) xin_X12 xw_801) <| xcns (fun cc pc d => xr_getf d (show vwCl[12]? = some (RX12, TX12, 69) from rfl) (by decide) xin_X12 xw_802) <| xcns (fun cc pc d => xr_getf d (show vwCl[12]? = some (RX12, TX12, 69) from rfl) (by decide) xin_X12 xw_803) <| xcns (fun cc pc d => xr_getf d (show vwCl[12]? = some (RX12, TX12, 69) from rfl) (by decide) xin_X12 xw_804) <| xcns (fun cc pc d => xr_getf d (show vwCl[12]? = some (RX12, TX12, 69) from rfl) (by decide) xin_X12 xw_805) <| xcns (fun cc pc d => xr_getf d (show vwCl[12]? = some (RX12, TX12, 69) from rfl) (by decide) xin_X12 xw_806) <| xcns (fun cc pc d => xr_getf d (show vwCl[12]? = some (RX12, TX12, 69) from rfl) (by decide) xin_X12 xw_807) <| xcns (fun cc pc d => xr_getf d (show vwCl[12]? = some (RX12, TX12, 69) from rfl) (by decide) xin_X12 xw_808) <| xcns (fun cc pc d => xr_getf d (show vwCl[12]? = some (RX12, TX12, 69) from rfl) (by decide) xin_X12 xw_809) <| xcns (fun cc pc d => xr_getf d (show vwCl[12]? = some (RX12, TX12, 69) from rfl) (by decide) xin_X12 xw_810) <| xcns (fun cc pc d => xr_getf d (show vwCl[12]? = some (RX12, TX12, 69) from rfl) (by decide) xin_X12 xw_811) <| xcns (fun cc pc d => xr_getf d (show vwCl[12]? = some (RX12, TX12, 69) from rfl) (by decide) xin_X12 xw_812) <| xcns (fun cc pc d => xr_getf d (show vwCl[12]? = some (RX12, TX12, 69) from rfl) (by decide) xin_X12 xw_813) <| xcns (fun cc pc d => xr_getf d (show vwCl[12]? = some (RX12, TX12, 69) from rfl) (by decide) xin_X12 xw_814) <| xcns (fun cc pc d => xr_getf d (show vwCl[12]? = some (RX12, TX12, 69) from rfl) (by decide) xin_X12 xw_821) <| xcns (fun cc pc d => xr_getf d (show vwCl[12]? = some (RX12, TX12, 69) from rfl) (by decide) xin_X12 xw_946) <| xcns (fun cc pc d => xr_getf d (show vwCl[12]? = some (RX12, TX12, 69) from rfl) (by decide) xin_X12 xw_980) <| xcns (fun cc pc d => xr_getf d (show vwCl[12]? = some (RX12, TX12, 69) from rfl) (by decide) xin_X12 xw_981) <| xcns (fun cc pc d => xr_getf d (show vwCl[12]? = some (RX12, TX12, 69) from rfl) (by decide) xin_X12 xw_1065) <| xcns (fun cc pc d => xr_getf d (show vwCl[12]? = some (RX12, TX12, 69) from rfl) (by decide) xin_X12 xw_950) <| xcns (fun cc pc d => xr_getf d (show vwCl[12]? = some (RX12, TX12, 69) from rfl) (by decide) xin_X12 xw_954) <| xcns (fun cc pc d => xr_getf d (show vwCl[12]? = some (RX12, TX12, 69) from rfl) (by decide) xin_X12 xw_949) <| xcns (fun cc pc d => xr_getf d (show vwCl[12]? = some (RX12, TX12, 69) from rfl) (by decide) xin_X12 xw_1134) <| xcns (fun cc pc d => xr_getf d (show vwCl[12]? = some (RX12, TX12, 69) from rfl) (by decide) xin_X12 xw_1023) <| xcns (fun cc pc d => xr_getf d (show vwCl[12]? = some (RX12, TX12, 69) from rfl) (by decide) xin_X12 xw_1061) <| xcns (fun cc pc d => xr_getf d (show vwCl[12]? = some (RX12, TX12, 69) from rfl) (by decide) xin_X12 xw_1019) <| xcns (fun cc pc d => xr_getf d (show vwCl[12]? = some (RX12, TX12, 69) from rfl) (by decide) xin_X12 xw_1085) <| xcns (fun cc pc d => xr_getf d (show vwCl[12]? = some (RX12, TX12, 69) from rfl) (by decide) xin_X12 xw_944) <| xcns (fun cc pc d => xr_getf d (show vwCl[12]? = some (RX12, TX12, 69) from rfl) (by decide) xin_X12 xw_897) <| xcns (fun cc pc d => xr_getf d (show vwCl[12]? = some (RX12, TX12, 69) from rfl) (by decide) xin_X12 xw_822) <| xcns (fun cc pc d => xr_getf d (show vwCl[12]? = some (RX12, TX12, 69) from rfl) (by decide) xin_X12 xw_971) <| xcns (fun cc pc d => xr_getf d (show vwCl[12]? = some (RX12, TX12, 69) from rfl) (by decide) xin_X12 xw_1108) <| xcns (fun cc pc d => xr_getf d (show vwCl[12]? = some (RX12, TX12, 69) from rfl) (by decide) xin_X12 xw_1109) <| xcns (fun cc pc d => xr_getf d (show vwCl[12]? = some (RX12, TX12, 69) from rfl) (by decide) xin_X12 xw_935) <| xnl
def gx_RX2 : List (Nat × Nat × Nat) := [(9, 2, 0), (15, 2, 1), (18, 2, 2), (21, 2, 3), (24, 2, 4), (28, 2, 5), (31, 2, 6), (34, 2, 7), (37, 2, 8), (40, 2, 9), (72, 9, 4), (89, 9, 6)]
set_option maxRecDepth 100000 in
set_option maxHeartbeats 4000000 in
theorem gxo_RX2 : ∀ g ∈ gx_RX2, ∀ (cc : ByteArray) (pc : Nat), decode cc pc = .ok (.getfield g.1, 3) → xGf cc RX2 pc (pc + 3) g.2.1 g.2.2 := xcns (fun cc pc d => xr_getf d (show vwCl[2]? = some (RX2, TX2, 10) from rfl) (by decide) xin_X2 xw_358) <| xcns (fun cc pc d => xr_getf d (show vwCl[2]? = some (RX2, TX2, 10) from rfl) (by decide) xin_X2 xw_359) <| xcns (fun cc pc d => xr_getf d (show vwCl[2]? = some (RX2, TX2, 10) from rfl) (by decide) xin_X2 xw_360) <| xcns (fun cc pc d => xr_getf d (show vwCl[2]? = some (RX2, TX2, 10) from rfl) (by decide) xin_X2 xw_361) <| xcns (fun cc pc d => xr_getf d (show vwCl[2]? = some (RX2, TX2, 10) from rfl) (by decide) xin_X2 xw_362) <| xcns (fun cc pc d => xr_getf d (show vwCl[2]? = some (RX2, TX2, 10) from rfl) (by decide) xin_X2 xw_363) <| xcns (fun cc pc d => xr_getf d (show vwCl[2]? = some (RX2, TX2, 10) from rfl) (by decide) xin_X2 xw_364) <| xcns (fun cc pc d => xr_getf d (show vwCl[2]? = some (RX2, TX2, 10) from rfl) (by decide) xin_X2 xw_365) <| xcns (fun cc pc d => xr_getf d (show vwCl[2]? = some (RX2, TX2, 10) from rfl) (by decide) xin_X2 xw_366) <| xcns (fun cc pc d => xr_getf d (show vwCl[2]? = some (RX2, TX2, 10) from rfl) (by decide) xin_X2 xw_367) <| xcns (fun cc pc d => xr_getf d (show vwCl[9]? = some (RX9, TX9, 9) from rfl) (by decide) xin_X9 xw_380) <| xcns (fun cc pc d => xr_getf d (show vwCl[9]? = some (RX9, TX9, 9) from rfl) (by decide) xin_X9 xw_396) <| xnl
def gx_RX3 : List (Nat × Nat × Nat) := [(9, 3, 0), (15, 3, 1)]
set_option maxRecDepth 100000 in
set_option maxHeartbeats 4000000 in
theorem gxo_RX3 : ∀ g ∈ gx_RX3, ∀ (cc : ByteArray) (pc : Nat), decode cc pc = .ok (.getfield g.1, 3) → xGf cc RX3 pc (pc + 3) g.2.1 g.2.2 := xcns (fun cc pc d => xr_getf d (show vwCl[3]? = some (RX3, TX3, 2) from rfl) (by decide) xin_X3 xw_416) <| xcns (fun cc pc d => xr_getf d (show vwCl[3]? = some (RX3, TX3, 2) from rfl) (by decide) xin_X3 xw_417) <| xnl
def gx_RX4 : List (Nat × Nat × Nat) := [(14, 4, 0), (20, 4, 1), (23, 4, 2), (26, 4, 3), (29, 4, 4), (33, 4, 5), (36, 4, 6), (39, 4, 7), (42, 4, 8), (45, 4, 9), (48, 4, 10), (51, 4, 11), (54, 4, 12), (57, 4, 13), (60, 4, 14), (66, 4, 15), (70, 4, 16), (74, 4, 17), (77, 4, 18), (80, 6, 1)]
set_option maxRecDepth 100000 in
set_option maxHeartbeats 4000000 in
theorem gxo_RX4 : ∀ g ∈ gx_RX4, ∀ (cc : ByteArray) (pc : Nat), decode cc pc = .ok (.getfield g.1, 3) → xGf cc RX4 pc (pc + 3) g.2.1 g.2.2 := xcns (fun cc pc d => xr_getf d (show vwCl[4]? = some (RX4, TX4, 19) from rfl) (by decide) xin_X4 xw_428) <| xcns (fun cc pc d => xr_getf d (show vwCl[4]? = some (RX4, TX4, 19) from rfl) (by decide) xin_X4 xw_429) <| xcns (fun cc pc d => xr_getf d (show vwCl[4]? = some (RX4, TX4, 19) from rfl) (by decide) xin_X4 xw_430) <| xcns (fun cc pc d => xr_getf d (show vwCl[4]? = some (RX4, TX4, 19) from rfl) (by decide) xin_X4 xw_431) <| xcns (fun cc pc d => xr_getf d (show vwCl[4]? = some (RX4, TX4, 19) from rfl) (by decide) xin_X4 xw_432) <| xcns (fun cc pc d => xr_getf d (show vwCl[4]? = some (RX4, TX4, 19) from rfl) (by decide) xin_X4 xw_433) <| xcns (fun cc pc d => xr_getf d (show vwCl[4]? = some (RX4, TX4, 19) from rfl) (by decide) xin_X4 xw_434) <| xcns (fun cc pc d => xr_getf d (show vwCl[4]? = some (RX4, TX4, 19) from rfl) (by decide) xin_X4 xw_435) <| xcns (fun cc pc d => xr_getf d (show vwCl[4]? = some (RX4, TX4, 19) from rfl) (by decide) xin_X4 xw_436) <| xcns (fun cc pc d => xr_getf d (show vwCl[4]? = some (RX4, TX4, 19) from rfl) (by decide) xin_X4 xw_437) <| xcns (fun cc pc d => xr_getf d (show vwCl[4]? = some (RX4, TX4, 19) from rfl) (by decide) xin_X4 xw_438) <| xcns (fun cc pc d => xr_getf d (show vwCl[4]? = some (RX4, TX4, 19) from rfl) (by decide) xin_X4 xw_439) <| xcns (fun cc pc d => xr_getf d (show vwCl[4]? = some (RX4, TX4, 19) from rfl) (by decide) xin_X4 xw_440) <| xcns (fun cc pc d => xr_getf d (show vwCl[4]? = some (RX4, TX4, 19) from rfl) (by decide) xin_X4 xw_441) <| xcns (fun cc pc d => xr_getf d (show vwCl[4]? = some (RX4, TX4, 19) from rfl) (by decide) xin_X4 xw_442) <| xcns (fun cc pc d => xr_getf d (show vwCl[4]? = some (RX4, TX4, 19) from rfl) (by decide) xin_X4 xw_446) <| xcns (fun cc pc d => xr_getf d (show vwCl[4]? = some (RX4, TX4, 19) from rfl) (by decide) xin_X4 xw_447) <| xcns (fun cc pc d => xr_getf d (show vwCl[4]? = some (RX4, TX4, 19) from rfl) (by decide) xin_X4 xw_448) <| xcns (fun cc pc d => xr_getf d (show vwCl[4]? = some (RX4, TX4, 19) from rfl) (by decide) xin_X4 xw_449) <| xcns (fun cc pc d => xr_getf d (show vwCl[6]? = some (RX6, TX6, 2) from rfl) (by decide) xin_X6 xw_451) <| xnl
def gx_RX5 : List (Nat × Nat × Nat) := [(9, 5, 2), (15, 5, 3), (18, 5, 4), (22, 5, 5), (26, 5, 0), (30, 5, 1), (46, 4, 8), (53, 4, 9), (65, 4, 4), (68, 10, 7), (81, 4, 11), (92, 4, 7), (95, 4, 12), (106, 4, 15), (115, 2, 2), (118, 2, 3), (121, 2, 0), (124, 2, 1)]
set_option maxRecDepth 100000 in
set_option maxHeartbeats 4000000 in
theorem gxo_RX5 : ∀ g ∈ gx_RX5, ∀ (cc : ByteArray) (pc : Nat), decode cc pc = .ok (.getfield g.1, 3) → xGf cc RX5 pc (pc + 3) g.2.1 g.2.2 := xcns (fun cc pc d => xr_getf d (show vwCl[5]? = some (RX5, TX5, 6) from rfl) (by decide) xin_X5 xw_479) <| xcns (fun cc pc d => xr_getf d (show vwCl[5]? = some (RX5, TX5, 6) from rfl) (by decide) xin_X5 xw_480) <| xcns (fun cc pc d => xr_getf d (show vwCl[5]? = some (RX5, TX5, 6) from rfl) (by decide) xin_X5 xw_481) <| xcns (fun cc pc d => xr_getf d (show vwCl[5]? = some (RX5, TX5, 6) from rfl) (by decide) xin_X5 xw_482) <| xcns (fun cc pc d => xr_getf d (show vwCl[5]? = some (RX5, TX5, 6) from rfl) (by decide) xin_X5 xw_483) <| xcns (fun cc pc d => xr_getf d (show vwCl[5]? = some (RX5, TX5, 6) from rfl) (by decide) xin_X5 xw_484) <| xcns (fun cc pc d => xr_getf d (show vwCl[4]? = some (RX4, TX4, 19) from rfl) (by decide) xin_X4 xw_517) <| xcns (fun cc pc d => xr_getf d (show vwCl[4]? = some (RX4, TX4, 19) from rfl) (by decide) xin_X4 xw_518) <| xcns (fun cc pc d => xr_getf d (show vwCl[4]? = some (RX4, TX4, 19) from rfl) (by decide) xin_X4 xw_519) <| xcns (fun cc pc d => xr_getf d (show vwCl[10]? = some (RX10, TX10, 13) from rfl) (by decide) xin_X10 xw_505) <| xcns (fun cc pc d => xr_getf d (show vwCl[4]? = some (RX4, TX4, 19) from rfl) (by decide) xin_X4 xw_498) <| xcns (fun cc pc d => xr_getf d (show vwCl[4]? = some (RX4, TX4, 19) from rfl) (by decide) xin_X4 xw_520) <| xcns (fun cc pc d => xr_getf d (show vwCl[4]? = some (RX4, TX4, 19) from rfl) (by decide) xin_X4 xw_499) <| xcns (fun cc pc d => xr_getf d (show vwCl[4]? = some (RX4, TX4, 19) from rfl) (by decide) xin_X4 xw_530) <| xcns (fun cc pc d => xr_getf d (show vwCl[2]? = some (RX2, TX2, 10) from rfl) (by decide) xin_X2 xw_534) <| xcns (fun cc pc d => xr_getf d (show vwCl[2]? = some (RX2, TX2, 10) from rfl) (by decide) xin_X2 xw_535) <| xcns (fun cc pc d => xr_getf d (show vwCl[2]? = some (RX2, TX2, 10) from rfl) (by decide) xin_X2 xw_536) <| xcns (fun cc pc d => xr_getf d (show vwCl[2]? = some (RX2, TX2, 10) from rfl) (by decide) xin_X2 xw_537) <| xnl
def gx_RX6 : List (Nat × Nat × Nat) := [(9, 6, 1), (15, 6, 0)]
set_option maxRecDepth 100000 in
set_option maxHeartbeats 4000000 in
theorem gxo_RX6 : ∀ g ∈ gx_RX6, ∀ (cc : ByteArray) (pc : Nat), decode cc pc = .ok (.getfield g.1, 3) → xGf cc RX6 pc (pc + 3) g.2.1 g.2.2 := xcns (fun cc pc d => xr_getf d (show vwCl[6]? = some (RX6, TX6, 2) from rfl) (by decide) xin_X6 xw_557) <| xcns (fun cc pc d => xr_getf d (show vwCl[6]? = some (RX6, TX6, 2) from rfl) (by decide) xin_X6 xw_558) <| xnl
def gx_RX7 : List (Nat × Nat × Nat) := [(9, 7, 3), (15, 7, 4), (18, 7, 5), (21, 7, 0), (25, 7, 1), (29, 7, 2), (33, 10, 2), (44, 4, 2), (50, 6, 1), (60, 4, 3)]
set_option maxRecDepth 100000 in
set_option maxHeartbeats 4000000 in
theorem gxo_RX7 : ∀ g ∈ gx_RX7, ∀ (cc : ByteArray) (pc : Nat), decode cc pc = .ok (.getfield g.1, 3) → xGf cc RX7 pc (pc + 3) g.2.1 g.2.2 := xcns (fun cc pc d => xr_getf d (show vwCl[7]? = some (RX7, TX7, 6) from rfl) (by decide) xin_X7 xw_570) <| xcns (fun cc pc d => xr_getf d (show vwCl[7]? = some (RX7, TX7, 6) from rfl) (by decide) xin_X7 xw_571) <| xcns (fun cc pc d => xr_getf d (show vwCl[7]? = some (RX7, TX7, 6) from rfl) (by decide) xin_X7 xw_572) <| xcns (fun cc pc d => xr_getf d (show vwCl[7]? = some (RX7, TX7, 6) from rfl) (by decide) xin_X7 xw_573) <| xcns (fun cc pc d => xr_getf d (show vwCl[7]? = some (RX7, TX7, 6) from rfl) (by decide) xin_X7 xw_574) <| xcns (fun cc pc d => xr_getf d (show vwCl[7]? = some (RX7, TX7, 6) from rfl) (by decide) xin_X7 xw_575) <| xcns (fun cc pc d => xr_getf d (show vwCl[10]? = some (RX10, TX10, 13) from rfl) (by decide) xin_X10 xw_577) <| xcns (fun cc pc d => xr_getf d (show vwCl[4]? = some (RX4, TX4, 19) from rfl) (by decide) xin_X4 xw_579) <| xcns (fun cc pc d => xr_getf d (show vwCl[6]? = some (RX6, TX6, 2) from rfl) (by decide) xin_X6 xw_580) <| xcns (fun cc pc d => xr_getf d (show vwCl[4]? = some (RX4, TX4, 19) from rfl) (by decide) xin_X4 xw_585) <| xnl
def gx_RX8 : List (Nat × Nat × Nat) := [(9, 8, 2), (15, 8, 3), (18, 8, 0), (22, 8, 1), (37, 9, 4), (74, 4, 0), (82, 4, 4), (90, 4, 5), (93, 4, 1), (96, 4, 6), (99, 4, 7), (102, 4, 8), (105, 4, 9), (108, 4, 10), (111, 4, 16), (118, 4, 2), (127, 4, 11), (130, 4, 13), (133, 4, 12), (136, 4, 3), (139, 4, 14), (142, 4, 15), (164, 9, 6)]
set_option maxRecDepth 100000 in
set_option maxHeartbeats 4000000 in
theorem gxo_RX8 : ∀ g ∈ gx_RX8, ∀ (cc : ByteArray) (pc : Nat), decode cc pc = .ok (.getfield g.1, 3) → xGf cc RX8 pc (pc + 3) g.2.1 g.2.2 := xcns (fun cc pc d => xr_getf d (show vwCl[8]? = some (RX8, TX8, 4) from rfl) (by decide) xin_X8 xw_590) <| xcns (fun cc pc d => xr_getf d (show vwCl[8]? = some (RX8, TX8, 4) from rfl) (by decide) xin_X8 xw_591) <| xcns (fun cc pc d => xr_getf d (show vwCl[8]? = some (RX8, TX8, 4) from rfl) (by decide) xin_X8 xw_592) <| xcns (fun cc pc d => xr_getf d (show vwCl[8]? = some (RX8, TX8, 4) from rfl) (by decide) xin_X8 xw_593) <| xcns (fun cc pc d => xr_getf d (show vwCl[9]? = some (RX9, TX9, 9) from rfl) (by decide) xin_X9 xw_598) <| xcns (fun cc pc d => xr_getf d (show vwCl[4]? = some (RX4, TX4, 19) from rfl) (by decide) xin_X4 xw_628) <| xcns (fun cc pc d => xr_getf d (show vwCl[4]? = some (RX4, TX4, 19) from rfl) (by decide) xin_X4 xw_629) <| xcns (fun cc pc d => xr_getf d (show vwCl[4]? = some (RX4, TX4, 19) from rfl) (by decide) xin_X4 xw_630) <| xcns (fun cc pc d => xr_getf d (show vwCl[4]? = some (RX4, TX4, 19) from rfl) (by decide) xin_X4 xw_638) <| xcns (fun cc pc d => xr_getf d (show vwCl[4]? = some (RX4, TX4, 19) from rfl) (by decide) xin_X4 xw_639) <| xcns (fun cc pc d => xr_getf d (show vwCl[4]? = some (RX4, TX4, 19) from rfl) (by decide) xin_X4 xw_640) <| xcns (fun cc pc d => xr_getf d (show vwCl[4]? = some (RX4, TX4, 19) from rfl) (by decide) xin_X4 xw_641) <| xcns (fun cc pc d => xr_getf d (show vwCl[4]? = some (RX4, TX4, 19) from rfl) (by decide) xin_X4 xw_642) <| xcns (fun cc pc d => xr_getf d (show vwCl[4]? = some (RX4, TX4, 19) from rfl) (by decide) xin_X4 xw_643) <| xcns (fun cc pc d => xr_getf d (show vwCl[4]? = some (RX4, TX4, 19) from rfl) (by decide) xin_X4 xw_644) <| xcns (fun cc pc d => xr_getf d (show vwCl[4]? = some (RX4, TX4, 19) from rfl) (by decide) xin_X4 xw_632) <| xcns (fun cc pc d => xr_getf d (show vwCl[4]? = some (RX4, TX4, 19) from rfl) (by decide) xin_X4 xw_636) <| xcns (fun cc pc d => xr_getf d (show vwCl[4]? = some (RX4, TX4, 19) from rfl) (by decide) xin_X4 xw_625) <| xcns (fun cc pc d => xr_getf d (show vwCl[4]? = some (RX4, TX4, 19) from rfl) (by decide) xin_X4 xw_626) <| xcns (fun cc pc d => xr_getf d (show vwCl[4]? = some (RX4, TX4, 19) from rfl) (by decide) xin_X4 xw_610) <| xcns (fun cc pc d => xr_getf d (show vwCl[4]? = some (RX4, TX4, 19) from rfl) (by decide) xin_X4 xw_614) <| xcns (fun cc pc d => xr_getf d (show vwCl[4]? = some (RX4, TX4, 19) from rfl) (by decide) xin_X4 xw_615) <| xcns (fun cc pc d => xr_getf d (show vwCl[9]? = some (RX9, TX9, 9) from rfl) (by decide) xin_X9 xw_599) <| xnl
def gx_RX9 : List (Nat × Nat × Nat) := [(9, 9, 1), (15, 9, 2), (19, 9, 3), (22, 9, 4), (25, 9, 5), (28, 9, 6), (31, 9, 7), (37, 9, 0)]
set_option maxRecDepth 100000 in
set_option maxHeartbeats 4000000 in
theorem gxo_RX9 : ∀ g ∈ gx_RX9, ∀ (cc : ByteArray) (pc : Nat), decode cc pc = .ok (.getfield g.1, 3) → xGf cc RX9 pc (pc + 3) g.2.1 g.2.2 := xcns (fun cc pc d => xr_getf d (show vwCl[9]? = some (RX9, TX9, 9) from rfl) (by decide) xin_X9 xw_680) <| xcns (fun cc pc d => xr_getf d (show vwCl[9]? = some (RX9, TX9, 9) from rfl) (by decide) xin_X9 xw_681) <| xcns (fun cc pc d => xr_getf d (show vwCl[9]? = some (RX9, TX9, 9) from rfl) (by decide) xin_X9 xw_682) <| xcns (fun cc pc d => xr_getf d (show vwCl[9]? = some (RX9, TX9, 9) from rfl) (by decide) xin_X9 xw_683) <| xcns (fun cc pc d => xr_getf d (show vwCl[9]? = some (RX9, TX9, 9) from rfl) (by decide) xin_X9 xw_684) <| xcns (fun cc pc d => xr_getf d (show vwCl[9]? = some (RX9, TX9, 9) from rfl) (by decide) xin_X9 xw_685) <| xcns (fun cc pc d => xr_getf d (show vwCl[9]? = some (RX9, TX9, 9) from rfl) (by decide) xin_X9 xw_686) <| xcns (fun cc pc d => xr_getf d (show vwCl[9]? = some (RX9, TX9, 9) from rfl) (by decide) xin_X9 xw_688) <| xnl
end
section
set_option maxRecDepth 100000 in
set_option maxHeartbeats 4000000 in
theorem xo_0 : ∀ q ∈ xk_0, xok xmt xm_0 q.1 q.2 := xqw_ok (M := xm_0) (G := gx_RX11) gxo_RX11 rfl (hd := [(1, (25, 4, 0, 0, [])), (5, (0, 8, 800, 0, [])), (8, (23, 10, 1, 0, [])), (10, (17, 13, 11, 0, [(4, 0)])), (14, (22, 17, 4, 19, [(2, 0), (2, 0), (2, 0), (2, 0), (2, 0), (2, 0), (2, 0), (2, 0), (2, 0), (2, 0), (2, 0), (2, 0), (2, 0), (2, 0), (2, 0), (2, 0), (0, 0), (0, 0), (0, 0)])), (18, (29, 21, 76, 0, [])), (21, (17, 24, 11, 1, [(4, 0)])), (25, (22, 28, 4, 19, [(2, 0), (2, 0), (2, 0), (2, 0), (2, 0), (2, 0), (2, 0), (2, 0), (2, 0), (2, 0), (2, 0), (2, 0), (2, 0), (2, 0), (2, 0), (2, 0), (0, 0), (0, 0), (0, 0)])), (29, (29, 32, 76, 0, [])), (32, (17, 35, 11, 2, [(4, 0)])), (36, (22, 39, 8, 4, [(2, 0), (2, 0), (0, 0), (0, 0)])), (40, (22, 43, 9, 9, [(2, 0), (2, 0), (0, 0), (0, 0), (0, 0), (0, 0), (0, 0), (0, 0), (0, 0)])), (48, (29, 51, 122, 0, [])), (55, (29, 58, 109, 0, [])), (58, (17, 61, 11, 3, [(4, 0)])), (62, (22, 65, 10, 13, [(2, 0), (2, 0), (2, 0), (2, 0), (2, 0), (2, 0), (0, 0), (0, 0), (0, 0), (0, 0), (0, 0), (0, 0), (0, 0)])), (66, (29, 69, 133, 0, [])), (69, (17, 72, 11, 4, [(4, 0)])), (73, (22, 76, 10, 13, [(2, 0), (2, 0), (2, 0), (2, 0), (2, 0), (2, 0), (0, 0), (0, 0), (0, 0), (0, 0), (0, 0), (0, 0), (0, 0)])), (77, (29, 80, 133, 0, [])), (80, (17, 83, 11, 5, [(4, 0)])), (84, (22, 87, 3, 2, [(2, 0), (0, 0)])), (88, (29, 91, 73, 0, [])), (91, (17, 94, 11, 6, [(4, 0)])), (95, (22, 98, 5, 6, [(2, 0), (2, 0), (2, 0), (2, 0), (0, 0), (0, 0)])), (107, (29, 110, 87, 0, [])), (110, (17, 113, 11, 7, [(4, 0)])), (114, (22, 117, 1, 11, [(2, 0), (2, 0), (2, 0), (2, 0), (2, 0), (2, 0), (2, 0), (2, 0), (0, 0), (0, 0), (0, 0)])), (130, (29, 133, 49, 0, [])), (133, (17, 136, 11, 8, [(4, 0)])), (137, (22, 140, 7, 6, [(2, 0), (2, 0), (2, 0), (2, 0), (2, 0), (2, 0)])), (153, (29, 156, 106, 0, [])), (156, (17, 159, 11, 9, [(4, 0)])), (160, (22, 163, 0, 10, [(2, 0), (2, 0), (2, 0), (2, 0), (2, 0), (2, 0), (0, 0), (0, 0), (0, 0), (0, 0)])), (176, (29, 179, 46, 0, [])), (179, (17, 182, 11, 10, [(4, 0)])), (184, (17, 187, 11, 11, [(0, 0)])), (189, (17, 192, 11, 12, [(0, 0)])), (194, (17, 197, 11, 13, [(0, 0)])), (199, (17, 202, 11, 14, [(3, 0)])), (210, (28, 213, 135, 10, []))]) (by decide +kernel) (by
  refine xcns ?_ <| xcns ?_ <| xcns ?_ <| xcns ?_ <| xcns ?_ <| xcns ?_ <| xcns ?_ <| xcns ?_ <| xcns ?_ <| xcns ?_ <| xcns ?_ <| xcns ?_ <| xcns ?_ <| xcns ?_ <| xcns ?_ <| xcns ?_ <| xcns ?_ <| xcns ?_ <| xcns ?_ <| xcns ?_ <| xcns ?_ <| xcns ?_ <| xcns ?_ <| xcns ?_ <| xcns ?_ <| xcns ?_ <| xcns ?_ <| xcns ?_ <| xcns ?_ <| xcns ?_ <| xcns ?_ <| xcns ?_ <| xcns ?_ <| xcns ?_ <| xcns ?_ <| xcns ?_ <| xcns ?_ <| xcns ?_ <| xcns ?_ <| xcns ?_ <| xcns ?_ <| xnl
  · exact (xr_oinit dX11_init_1 xw_0 xw_1 xw_oc)
  · exact (xr_sipush dX11_init_5 (by decide +kernel))
  · exact (⟨by decide, xr_newa dX11_init_8 rfl xw_2⟩)
  · exact (⟨(.array .byte), true, 0, rfl, xr_putF dX11_init_10 (show vwCl[11]? = some (RX11, TX11, 15) from rfl) (by decide) xin_X11 tyX11_ok nmX11 xw_3 rfl (rfl : tyX11 0 = (.array .byte)) rfl, fun _ => rfl⟩)
  · exact (xr_new dX11_init_14 (show vwCl[4]? = some (RX4, TX4, 19) from rfl) xin_X4 tyX4_ok xw_4 xw_5 xw_6 _ (by decide +kernel))
  · exact (⟨rfl, _, rfl, ⟨15, dX11_init_18, rfl, rfl, xw_7, Or.inr ⟨_, List.mem_of_getElem? (i := 0) rfl⟩⟩⟩)
  · exact (⟨(.object "RansomHymn$Hymn"), true, 0, rfl, xr_putF dX11_init_21 (show vwCl[11]? = some (RX11, TX11, 15) from rfl) (by decide) xin_X11 tyX11_ok nmX11 xw_8 rfl (rfl : tyX11 1 = (.object "RansomHymn$Hymn")) rfl, fun _ => rfl⟩)
  · exact (xr_new dX11_init_25 (show vwCl[4]? = some (RX4, TX4, 19) from rfl) xin_X4 tyX4_ok xw_4 xw_5 xw_6 _ (by decide +kernel))
  · exact (⟨rfl, _, rfl, ⟨15, dX11_init_29, rfl, rfl, xw_7, Or.inr ⟨_, List.mem_of_getElem? (i := 0) rfl⟩⟩⟩)
  · exact (⟨(.object "RansomHymn$Hymn"), true, 0, rfl, xr_putF dX11_init_32 (show vwCl[11]? = some (RX11, TX11, 15) from rfl) (by decide) xin_X11 tyX11_ok nmX11 xw_9 rfl (rfl : tyX11 2 = (.object "RansomHymn$Hymn")) rfl, fun _ => rfl⟩)
  · exact (xr_new dX11_init_36 (show vwCl[8]? = some (RX8, TX8, 4) from rfl) xin_X8 tyX8_ok xw_10 xw_11 xw_12 _ (by decide +kernel))
  · exact (xr_new dX11_init_40 (show vwCl[9]? = some (RX9, TX9, 9) from rfl) xin_X9 tyX9_ok xw_13 xw_14 xw_15 _ (by decide +kernel))
  · exact (⟨rfl, _, rfl, ⟨27, dX11_init_48, rfl, rfl, xw_16, Or.inl xw_17⟩⟩)
  · exact (⟨rfl, _, rfl, ⟨30, dX11_init_55, rfl, rfl, xw_18, Or.inl xw_19⟩⟩)
  · exact (⟨(.object "RansomHymn$Teller"), true, 0, rfl, xr_putF dX11_init_58 (show vwCl[11]? = some (RX11, TX11, 15) from rfl) (by decide) xin_X11 tyX11_ok nmX11 xw_20 rfl (rfl : tyX11 3 = (.object "RansomHymn$Teller")) rfl, fun _ => rfl⟩)
  · exact (xr_new dX11_init_62 (show vwCl[10]? = some (RX10, TX10, 13) from rfl) xin_X10 tyX10_ok xw_21 xw_22 xw_23 _ (by decide +kernel))
  · exact (⟨rfl, _, rfl, ⟨39, dX11_init_66, rfl, rfl, xw_24, Or.inr ⟨_, List.mem_of_getElem? (i := 1) rfl⟩⟩⟩)
  · exact (⟨(.object "RansomHymn$World"), true, 0, rfl, xr_putF dX11_init_69 (show vwCl[11]? = some (RX11, TX11, 15) from rfl) (by decide) xin_X11 tyX11_ok nmX11 xw_25 rfl (rfl : tyX11 4 = (.object "RansomHymn$World")) rfl, fun _ => rfl⟩)
  · exact (xr_new dX11_init_73 (show vwCl[10]? = some (RX10, TX10, 13) from rfl) xin_X10 tyX10_ok xw_21 xw_22 xw_23 _ (by decide +kernel))
  · exact (⟨rfl, _, rfl, ⟨39, dX11_init_77, rfl, rfl, xw_24, Or.inr ⟨_, List.mem_of_getElem? (i := 1) rfl⟩⟩⟩)
  · exact (⟨(.object "RansomHymn$World"), true, 0, rfl, xr_putF dX11_init_80 (show vwCl[11]? = some (RX11, TX11, 15) from rfl) (by decide) xin_X11 tyX11_ok nmX11 xw_26 rfl (rfl : tyX11 5 = (.object "RansomHymn$World")) rfl, fun _ => rfl⟩)
  · exact (xr_new dX11_init_84 (show vwCl[3]? = some (RX3, TX3, 2) from rfl) xin_X3 tyX3_ok xw_27 xw_28 xw_29 _ (by decide +kernel))
  · exact (⟨rfl, _, rfl, ⟨49, dX11_init_88, rfl, rfl, xw_30, Or.inr ⟨_, List.mem_of_getElem? (i := 2) rfl⟩⟩⟩)
  · exact (⟨(.object "RansomHymn$Hums"), true, 0, rfl, xr_putF dX11_init_91 (show vwCl[11]? = some (RX11, TX11, 15) from rfl) (by decide) xin_X11 tyX11_ok nmX11 xw_31 rfl (rfl : tyX11 6 = (.object "RansomHymn$Hums")) rfl, fun _ => rfl⟩)
  · exact (xr_new dX11_init_95 (show vwCl[5]? = some (RX5, TX5, 6) from rfl) xin_X5 tyX5_ok xw_32 xw_33 xw_34 _ (by decide +kernel))
  · exact (⟨rfl, _, rfl, ⟨56, dX11_init_107, rfl, rfl, xw_35, Or.inl xw_36⟩⟩)
  · exact (⟨(.object "RansomHymn$Laws"), true, 0, rfl, xr_putF dX11_init_110 (show vwCl[11]? = some (RX11, TX11, 15) from rfl) (by decide) xin_X11 tyX11_ok nmX11 xw_37 rfl (rfl : tyX11 7 = (.object "RansomHymn$Laws")) rfl, fun _ => rfl⟩)
  · exact (xr_new dX11_init_114 (show vwCl[1]? = some (RX1, TX1, 11) from rfl) xin_X1 tyX1_ok xw_38 xw_39 xw_40 _ (by decide +kernel))
  · exact (⟨rfl, _, rfl, ⟨65, dX11_init_130, rfl, rfl, xw_41, Or.inl xw_42⟩⟩)
  · exact (⟨(.object "RansomHymn$Choice"), true, 0, rfl, xr_putF dX11_init_133 (show vwCl[11]? = some (RX11, TX11, 15) from rfl) (by decide) xin_X11 tyX11_ok nmX11 xw_43 rfl (rfl : tyX11 8 = (.object "RansomHymn$Choice")) rfl, fun _ => rfl⟩)
  · exact (xr_new dX11_init_137 (show vwCl[7]? = some (RX7, TX7, 6) from rfl) xin_X7 tyX7_ok xw_44 xw_45 xw_46 _ (by decide +kernel))
  · exact (⟨rfl, _, rfl, ⟨74, dX11_init_153, rfl, rfl, xw_47, Or.inl xw_48⟩⟩)
  · exact (⟨(.object "RansomHymn$Sale"), true, 0, rfl, xr_putF dX11_init_156 (show vwCl[11]? = some (RX11, TX11, 15) from rfl) (by decide) xin_X11 tyX11_ok nmX11 xw_49 rfl (rfl : tyX11 9 = (.object "RansomHymn$Sale")) rfl, fun _ => rfl⟩)
  · exact (xr_new dX11_init_160 (show vwCl[0]? = some (RX0, TX0, 10) from rfl) xin_X0 tyX0_ok xw_50 xw_51 xw_52 _ (by decide +kernel))
  · exact (⟨rfl, _, rfl, ⟨81, dX11_init_176, rfl, rfl, xw_53, Or.inl xw_54⟩⟩)
  · exact (⟨(.object "RansomHymn$Canon"), true, 0, rfl, xr_putF dX11_init_179 (show vwCl[11]? = some (RX11, TX11, 15) from rfl) (by decide) xin_X11 tyX11_ok nmX11 xw_55 rfl (rfl : tyX11 10 = (.object "RansomHymn$Canon")) rfl, fun _ => rfl⟩)
  · exact (⟨.int, false, 0, rfl, xr_putf dX11_init_184 (show vwCl[11]? = some (RX11, TX11, 15) from rfl) (by decide) xin_X11 tyX11_ok nmX11 xw_56 rfl (rfl : tyX11 11 = .int), fun h => (by cases h)⟩)
  · exact (⟨.int, false, 0, rfl, xr_putf dX11_init_189 (show vwCl[11]? = some (RX11, TX11, 15) from rfl) (by decide) xin_X11 tyX11_ok nmX11 xw_57 rfl (rfl : tyX11 12 = .int), fun h => (by cases h)⟩)
  · exact (⟨.int, false, 0, rfl, xr_putf dX11_init_194 (show vwCl[11]? = some (RX11, TX11, 15) from rfl) (by decide) xin_X11 tyX11_ok nmX11 xw_58 rfl (rfl : tyX11 13 = .int), fun h => (by cases h)⟩)
  · exact (⟨.boolean, false, 0, rfl, xr_putf dX11_init_199 (show vwCl[11]? = some (RX11, TX11, 15) from rfl) (by decide) xin_X11 tyX11_ok nmX11 xw_59 rfl (rfl : tyX11 14 = .boolean), fun h => (by cases h)⟩)
  · exact (⟨rfl, _, rfl, ⟨100, dX11_init_210, xw_62, xw_60, xw_61⟩, _, rfl, rfl⟩)
)
theorem xmo_0 : xMok xmt xm_0 := ⟨xw_63, xw_64, ⟨by decide, by decide, by decide +kernel⟩, by decide +kernel, rfl, xo_0⟩
set_option maxRecDepth 100000 in
set_option maxHeartbeats 4000000 in
theorem xo_1 : ∀ q ∈ xk_1, xok xmt xm_1 q.1 q.2 := xqw_ok (M := xm_1) (G := gx_RX11) gxo_RX11 rfl (hd := [(17, (28, 20, 141, 10, [])), (25, (17, 28, 1, 10, [(3, 0)]))]) (by decide +kernel) (by
  refine xcns ?_ <| xcns ?_ <| xnl
  · exact (⟨rfl, _, rfl, ⟨354, dX11_back_17, xw_67, xw_65, xw_66⟩, _, rfl, rfl⟩)
  · exact (⟨.boolean, false, 0, rfl, xr_putf dX11_back_25 (show vwCl[1]? = some (RX1, TX1, 11) from rfl) (by decide) xin_X1 tyX1_ok nmX1 xw_68 rfl (rfl : tyX1 10 = .boolean), fun h => (by cases h)⟩)
)
theorem xmo_1 : xMok xmt xm_1 := ⟨xw_70, xw_64, ⟨by decide, by decide, by decide +kernel⟩, by decide +kernel, rfl, xo_1⟩
set_option maxRecDepth 100000 in
set_option maxHeartbeats 4000000 in
theorem xo_2 : ∀ q ∈ xk_2, xok xmt xm_2 q.1 q.2 := xqw_ok (M := xm_2) (G := gx_RX11) gxo_RX11 rfl (hd := [(8, (28, 11, 103, 6, [])), (48, (27, 51, 34, 0, [])), (79, (28, 82, 99, 5, []))]) (by decide +kernel) (by
  refine xcns ?_ <| xcns ?_ <| xcns ?_ <| xnl
  · exact (⟨rfl, _, rfl, ⟨145, dX11_bar_8, xw_74, xw_72, xw_73⟩, _, rfl, rfl⟩)
  · exact (⟨rfl, _, rfl, ⟨202, dX11_bar_48, xw_76, xw_77⟩⟩)
  · exact (⟨rfl, _, rfl, ⟨213, dX11_bar_79, xw_81, xw_79, xw_80⟩, _, rfl, rfl⟩)
)
theorem xmo_2 : xMok xmt xm_2 := ⟨xw_82, xw_64, ⟨by decide, by decide, by decide +kernel⟩, by decide +kernel, rfl, xo_2⟩
set_option maxRecDepth 100000 in
set_option maxHeartbeats 4000000 in
theorem xo_3 : ∀ q ∈ xk_3, xok xmt xm_3 q.1 q.2 := xqw_ok (M := xm_3) (G := gx_RX11) gxo_RX11 rfl (hd := [(5, (0, 8, 999, 0, [])), (26, (28, 29, 57, 1, [])), (34, (28, 37, 55, 1, [])), (51, (28, 54, 51, 1, []))]) (by decide +kernel) (by
  refine xcns ?_ <| xcns ?_ <| xcns ?_ <| xcns ?_ <| xnl
  · exact (xr_sipush dX11_best_5 (by decide +kernel))
  · exact (⟨rfl, _, rfl, ⟨267, dX11_best_26, xw_85, xw_83, xw_84⟩, _, rfl, rfl⟩)
  · exact (⟨rfl, _, rfl, ⟨270, dX11_best_34, xw_88, xw_86, xw_87⟩, _, rfl, rfl⟩)
  · exact (⟨rfl, _, rfl, ⟨273, dX11_best_51, xw_91, xw_89, xw_90⟩, _, rfl, rfl⟩)
)
theorem xmo_3 : xMok xmt xm_3 := ⟨xw_92, xw_64, ⟨by decide, by decide, by decide +kernel⟩, by decide +kernel, rfl, xo_3⟩
set_option maxRecDepth 100000 in
set_option maxHeartbeats 4000000 in
theorem xo_4 : ∀ q ∈ xk_4, xok xmt xm_4 q.1 q.2 := xqw_ok (M := xm_4) (G := gx_RX11) gxo_RX11 rfl (hd := [(8, (28, 11, 103, 6, [])), (22, (28, 25, 103, 6, [])), (45, (28, 48, 89, 5, []))]) (by decide +kernel) (by
  refine xcns ?_ <| xcns ?_ <| xcns ?_ <| xnl
  · exact (⟨rfl, _, rfl, ⟨145, dX11_bids_8, xw_74, xw_72, xw_73⟩, _, rfl, rfl⟩)
  · exact (⟨rfl, _, rfl, ⟨145, dX11_bids_22, xw_74, xw_72, xw_73⟩, _, rfl, rfl⟩)
  · exact (⟨rfl, _, rfl, ⟨224, dX11_bids_45, xw_97, xw_95, xw_96⟩, _, rfl, rfl⟩)
)
theorem xmo_4 : xMok xmt xm_4 := ⟨xw_98, xw_64, ⟨by decide, by decide, by decide +kernel⟩, by decide +kernel, rfl, xo_4⟩
set_option maxRecDepth 100000 in
set_option maxHeartbeats 4000000 in
theorem xo_5 : ∀ q ∈ xk_5, xok xmt xm_5 q.1 q.2 := xqw_ok (M := xm_5) (G := gx_RX11) gxo_RX11 rfl (hd := [(5, (0, 8, 999, 0, [])), (17, (28, 20, 78, 4, [])), (29, (28, 32, 57, 1, [])), (37, (28, 40, 50, 1, [])), (49, (27, 52, 34, 0, []))]) (by decide +kernel) (by
  refine xcns ?_ <| xcns ?_ <| xcns ?_ <| xcns ?_ <| xcns ?_ <| xnl
  · exact (xr_sipush dX11_chosen_5 (by decide +kernel))
  · exact (⟨rfl, _, rfl, ⟨195, dX11_chosen_17, xw_101, xw_99, xw_100⟩, _, rfl, rfl⟩)
  · exact (⟨rfl, _, rfl, ⟨267, dX11_chosen_29, xw_85, xw_83, xw_84⟩, _, rfl, rfl⟩)
  · exact (⟨rfl, _, rfl, ⟨276, dX11_chosen_37, xw_104, xw_102, xw_103⟩, _, rfl, rfl⟩)
  · exact (⟨rfl, _, rfl, ⟨202, dX11_chosen_49, xw_76, xw_77⟩⟩)
)
theorem xmo_5 : xMok xmt xm_5 := ⟨xw_106, xw_64, ⟨by decide, by decide, by decide +kernel⟩, by decide +kernel, rfl, xo_5⟩
set_option maxRecDepth 100000 in
set_option maxHeartbeats 4000000 in
theorem xo_6 : ∀ q ∈ xk_6, xok xmt xm_6 q.1 q.2 := xqw_ok (M := xm_6) (G := gx_RX11) gxo_RX11 rfl (hd := []) (by decide +kernel) (xnl)
theorem xmo_6 : xMok xmt xm_6 := ⟨xw_111, xw_64, ⟨by decide, by decide, by decide +kernel⟩, by decide +kernel, rfl, xo_6⟩
set_option maxRecDepth 100000 in
set_option maxHeartbeats 4000000 in
theorem xo_7 : ∀ q ∈ xk_7, xok xmt xm_7 q.1 q.2 := xqw_ok (M := xm_7) (G := gx_RX11) gxo_RX11 rfl (hd := [(1, (15, 0, 175, 0, [(0, 64), (1, 75), (2, 86), (3, 97), (4, 108), (5, 119), (6, 127), (7, 135), (8, 143), (9, 151), (10, 156), (11, 167)])), (152, (28, 155, 20, 11, [])), (163, (27, 166, 255, 0, [])), (171, (28, 174, 134, 10, []))]) (by decide +kernel) (by
  refine xcns ?_ <| xcns ?_ <| xcns ?_ <| xcns ?_ <| xnl
  · exact (xr_table dX11_count_1 (by decide) (by decide) (by decide))
  · exact (⟨rfl, _, rfl, ⟨302, dX11_count_152, xw_120, xw_118, xw_119⟩, _, rfl, rfl⟩)
  · exact (⟨rfl, _, rfl, ⟨216, dX11_count_163, xw_122, xw_123⟩⟩)
  · exact (⟨rfl, _, rfl, ⟨364, dX11_count_171, xw_126, xw_124, xw_125⟩, _, rfl, rfl⟩)
)
theorem xmo_7 : xMok xmt xm_7 := ⟨xw_127, xw_64, ⟨by decide, by decide, by decide +kernel⟩, by decide +kernel, rfl, xo_7⟩
set_option maxRecDepth 100000 in
set_option maxHeartbeats 4000000 in
theorem xo_8 : ∀ q ∈ xk_8, xok xmt xm_8 q.1 q.2 := xqw_ok (M := xm_8) (G := gx_RX11) gxo_RX11 rfl (hd := [(21, (28, 24, 81, 4, [])), (32, (28, 35, 139, 10, [])), (42, (28, 45, 140, 10, [])), (62, (28, 65, 90, 5, [])), (80, (17, 83, 10, 10, [(0, 0)]))]) (by decide +kernel) (by
  refine xcns ?_ <| xcns ?_ <| xcns ?_ <| xcns ?_ <| xcns ?_ <| xnl
  · exact (⟨rfl, _, rfl, ⟨175, dX11_crackBoys_21, xw_130, xw_128, xw_129⟩, _, rfl, rfl⟩)
  · exact (⟨rfl, _, rfl, ⟨172, dX11_crackBoys_32, xw_133, xw_131, xw_132⟩, _, rfl, rfl⟩)
  · exact (⟨rfl, _, rfl, ⟨370, dX11_crackBoys_42, xw_136, xw_134, xw_135⟩, _, rfl, rfl⟩)
  · exact (⟨rfl, _, rfl, ⟨230, dX11_crackBoys_62, xw_139, xw_137, xw_138⟩, _, rfl, rfl⟩)
  · exact (⟨.int, false, 0, rfl, xr_putf dX11_crackBoys_80 (show vwCl[10]? = some (RX10, TX10, 13) from rfl) (by decide) xin_X10 tyX10_ok nmX10 xw_121 rfl (rfl : tyX10 10 = .int), fun h => (by cases h)⟩)
)
theorem xmo_8 : xMok xmt xm_8 := ⟨xw_140, xw_64, ⟨by decide, by decide, by decide +kernel⟩, by decide +kernel, rfl, xo_8⟩
set_option maxRecDepth 100000 in
set_option maxHeartbeats 4000000 in
theorem xo_9 : ∀ q ∈ xk_9, xok xmt xm_9 q.1 q.2 := xqw_ok (M := xm_9) (G := gx_RX11) gxo_RX11 rfl (hd := [(8, (28, 11, 103, 6, [])), (26, (28, 29, 90, 5, []))]) (by decide +kernel) (by
  refine xcns ?_ <| xcns ?_ <| xnl
  · exact (⟨rfl, _, rfl, ⟨145, dX11_cracks_8, xw_74, xw_72, xw_73⟩, _, rfl, rfl⟩)
  · exact (⟨rfl, _, rfl, ⟨230, dX11_cracks_26, xw_139, xw_137, xw_138⟩, _, rfl, rfl⟩)
)
theorem xmo_9 : xMok xmt xm_9 := ⟨xw_141, xw_64, ⟨by decide, by decide, by decide +kernel⟩, by decide +kernel, rfl, xo_9⟩
set_option maxRecDepth 100000 in
set_option maxHeartbeats 4000000 in
theorem xo_10 : ∀ q ∈ xk_10, xok xmt xm_10 q.1 q.2 := xqw_ok (M := xm_10) (G := gx_RX11) gxo_RX11 rfl (hd := [(6, (28, 9, 78, 4, [])), (20, (28, 23, 103, 6, [])), (33, (28, 36, 91, 5, []))]) (by decide +kernel) (by
  refine xcns ?_ <| xcns ?_ <| xcns ?_ <| xnl
  · exact (⟨rfl, _, rfl, ⟨195, dX11_due_6, xw_101, xw_99, xw_100⟩, _, rfl, rfl⟩)
  · exact (⟨rfl, _, rfl, ⟨145, dX11_due_20, xw_74, xw_72, xw_73⟩, _, rfl, rfl⟩)
  · exact (⟨rfl, _, rfl, ⟨209, dX11_due_33, xw_144, xw_142, xw_143⟩, _, rfl, rfl⟩)
)
theorem xmo_10 : xMok xmt xm_10 := ⟨xw_145, xw_64, ⟨by decide, by decide, by decide +kernel⟩, by decide +kernel, rfl, xo_10⟩
set_option maxRecDepth 100000 in
set_option maxHeartbeats 4000000 in
theorem xo_11 : ∀ q ∈ xk_11, xok xmt xm_11 q.1 q.2 := xqw_ok (M := xm_11) (G := gx_RX11) gxo_RX11 rfl (hd := [(5, (28, 8, 79, 4, [])), (18, (28, 21, 107, 7, [])), (72, (17, 75, 10, 8, [(0, 0)]))]) (by decide +kernel) (by
  refine xcns ?_ <| xcns ?_ <| xcns ?_ <| xnl
  · exact (⟨rfl, _, rfl, ⟨280, dX11_easter_5, xw_148, xw_146, xw_147⟩, _, rfl, rfl⟩)
  · exact (⟨rfl, _, rfl, ⟨283, dX11_easter_18, xw_151, xw_149, xw_150⟩, _, rfl, rfl⟩)
  · exact (⟨.int, false, 0, rfl, xr_putf dX11_easter_72 (show vwCl[10]? = some (RX10, TX10, 13) from rfl) (by decide) xin_X10 tyX10_ok nmX10 xw_115 rfl (rfl : tyX10 8 = .int), fun h => (by cases h)⟩)
)
theorem xmo_11 : xMok xmt xm_11 := ⟨xw_153, xw_64, ⟨by decide, by decide, by decide +kernel⟩, by decide +kernel, rfl, xo_11⟩
set_option maxRecDepth 100000 in
set_option maxHeartbeats 4000000 in
theorem xo_12 : ∀ q ∈ xk_12, xok xmt xm_12 q.1 q.2 := xqw_ok (M := xm_12) (G := gx_RX11) gxo_RX11 rfl (hd := [(6, (28, 9, 17, 11, [])), (31, (27, 34, 34, 0, [])), (37, (28, 40, 47, 0, []))]) (by decide +kernel) (by
  refine xcns ?_ <| xcns ?_ <| xcns ?_ <| xnl
  · exact (⟨rfl, _, rfl, ⟨331, dX11_entry_6, xw_156, xw_154, xw_155⟩, _, rfl, rfl⟩)
  · exact (⟨rfl, _, rfl, ⟨202, dX11_entry_31, xw_76, xw_77⟩⟩)
  · exact (⟨rfl, _, rfl, ⟨335, dX11_entry_37, xw_159, xw_157, xw_158⟩, _, rfl, rfl⟩)
)
theorem xmo_12 : xMok xmt xm_12 := ⟨xw_161, xw_64, ⟨by decide, by decide, by decide +kernel⟩, by decide +kernel, rfl, xo_12⟩
set_option maxRecDepth 100000 in
set_option maxHeartbeats 4000000 in
theorem xo_13 : ∀ q ∈ xk_13, xok xmt xm_13 q.1 q.2 := xqw_ok (M := xm_13) (G := gx_RX11) gxo_RX11 rfl (hd := [(1, (15, 0, 38, 0, [(0, 28), (1, 33)]))]) (by decide +kernel) (by
  refine xcns ?_ <| xnl
  · exact (xr_look2 dX11_fault_1 (by decide) (by decide) (by decide) (by decide))
)
theorem xmo_13 : xMok xmt xm_13 := ⟨xw_162, xw_64, ⟨by decide, by decide, by decide +kernel⟩, by decide +kernel, rfl, xo_13⟩
set_option maxRecDepth 100000 in
set_option maxHeartbeats 4000000 in
theorem xo_14 : ∀ q ∈ xk_14, xok xmt xm_14 q.1 q.2 := xqw_ok (M := xm_14) (G := gx_RX11) gxo_RX11 rfl (hd := [(7, (0, 10, 800, 0, [])), (17, (28, 20, 39, 11, [])), (22, (28, 25, 39, 11, [])), (27, (28, 30, 39, 11, [])), (33, (28, 36, 39, 11, [])), (39, (28, 42, 39, 11, []))]) (by decide +kernel) (by
  refine xcns ?_ <| xcns ?_ <| xcns ?_ <| xcns ?_ <| xcns ?_ <| xcns ?_ <| xnl
  · exact (xr_sipush dX11_feed_7 (by decide +kernel))
  · exact (⟨rfl, _, rfl, ⟨104, dX11_feed_17, xw_165, xw_163, xw_164⟩, _, rfl, rfl⟩)
  · exact (⟨rfl, _, rfl, ⟨104, dX11_feed_22, xw_165, xw_163, xw_164⟩, _, rfl, rfl⟩)
  · exact (⟨rfl, _, rfl, ⟨104, dX11_feed_27, xw_165, xw_163, xw_164⟩, _, rfl, rfl⟩)
  · exact (⟨rfl, _, rfl, ⟨104, dX11_feed_33, xw_165, xw_163, xw_164⟩, _, rfl, rfl⟩)
  · exact (⟨rfl, _, rfl, ⟨104, dX11_feed_39, xw_165, xw_163, xw_164⟩, _, rfl, rfl⟩)
)
theorem xmo_14 : xMok xmt xm_14 := ⟨xw_166, xw_64, ⟨by decide, by decide, by decide +kernel⟩, by decide +kernel, rfl, xo_14⟩
set_option maxRecDepth 100000 in
set_option maxHeartbeats 4000000 in
theorem xo_15 : ∀ q ∈ xk_15, xok xmt xm_15 q.1 q.2 := xqw_ok (M := xm_15) (G := gx_RX11) gxo_RX11 rfl (hd := [(5, (28, 8, 20, 11, [])), (8, (28, 11, 75, 3, [])), (41, (27, 44, 255, 0, [])), (70, (28, 73, 26, 11, [])), (73, (1, 76, 18446744073709551615, 0, []))]) (by decide +kernel) (by
  refine xcns ?_ <| xcns ?_ <| xcns ?_ <| xcns ?_ <| xcns ?_ <| xnl
  · exact (⟨rfl, _, rfl, ⟨302, dX11_gang_5, xw_120, xw_118, xw_119⟩, _, rfl, rfl⟩)
  · exact (⟨rfl, _, rfl, ⟨306, dX11_gang_8, xw_169, xw_167, xw_168⟩, _, rfl, rfl⟩)
  · exact (⟨rfl, _, rfl, ⟨216, dX11_gang_41, xw_122, xw_123⟩⟩)
  · exact (⟨rfl, _, rfl, ⟨328, dX11_gang_70, xw_172, xw_170, xw_171⟩, _, rfl, rfl⟩)
  · exact (xr_ldc2 dX11_gang_73 xw_173)
)
theorem xmo_15 : xMok xmt xm_15 := ⟨xw_174, xw_64, ⟨by decide, by decide, by decide +kernel⟩, by decide +kernel, rfl, xo_15⟩
set_option maxRecDepth 100000 in
set_option maxHeartbeats 4000000 in
theorem xo_16 : ∀ q ∈ xk_16, xok xmt xm_16 q.1 q.2 := xqw_ok (M := xm_16) (G := gx_RX11) gxo_RX11 rfl (hd := [(16, (28, 19, 74, 3, []))]) (by decide +kernel) (by
  refine xcns ?_ <| xnl
  · exact (⟨rfl, _, rfl, ⟨296, dX11_hum_16, xw_177, xw_175, xw_176⟩, _, rfl, rfl⟩)
)
theorem xmo_16 : xMok xmt xm_16 := ⟨xw_178, xw_64, ⟨by decide, by decide, by decide +kernel⟩, by decide +kernel, rfl, xo_16⟩
set_option maxRecDepth 100000 in
set_option maxHeartbeats 4000000 in
theorem xo_17 : ∀ q ∈ xk_17, xok xmt xm_17 q.1 q.2 := xqw_ok (M := xm_17) (G := gx_RX11) gxo_RX11 rfl (hd := [(6, (28, 9, 78, 4, []))]) (by decide +kernel) (by
  refine xcns ?_ <| xnl
  · exact (⟨rfl, _, rfl, ⟨195, dX11_isRound_6, xw_101, xw_99, xw_100⟩, _, rfl, rfl⟩)
)
theorem xmo_17 : xMok xmt xm_17 := ⟨xw_179, xw_64, ⟨by decide, by decide, by decide +kernel⟩, by decide +kernel, rfl, xo_17⟩
set_option maxRecDepth 100000 in
set_option maxHeartbeats 4000000 in
theorem xo_18 : ∀ q ∈ xk_18, xok xmt xm_18 q.1 q.2 := xqw_ok (M := xm_18) (G := gx_RX11) gxo_RX11 rfl (hd := [(8, (28, 11, 141, 10, [])), (13, (17, 16, 11, 14, [(3, 0)]))]) (by decide +kernel) (by
  refine xcns ?_ <| xcns ?_ <| xnl
  · exact (⟨rfl, _, rfl, ⟨354, dX11_keep_8, xw_67, xw_65, xw_66⟩, _, rfl, rfl⟩)
  · exact (⟨.boolean, false, 0, rfl, xr_putf dX11_keep_13 (show vwCl[11]? = some (RX11, TX11, 15) from rfl) (by decide) xin_X11 tyX11_ok nmX11 xw_59 rfl (rfl : tyX11 14 = .boolean), fun h => (by cases h)⟩)
)
theorem xmo_18 : xMok xmt xm_18 := ⟨xw_180, xw_64, ⟨by decide, by decide, by decide +kernel⟩, by decide +kernel, rfl, xo_18⟩
set_option maxRecDepth 100000 in
set_option maxHeartbeats 4000000 in
theorem xo_19 : ∀ q ∈ xk_19, xok xmt xm_19 q.1 q.2 := xqw_ok (M := xm_19) (G := gx_RX11) gxo_RX11 rfl (hd := [(23, (17, 26, 10, 11, [(0, 0)]))]) (by decide +kernel) (by
  refine xcns ?_ <| xnl
  · exact (⟨.int, false, 0, rfl, xr_putf dX11_known_23 (show vwCl[10]? = some (RX10, TX10, 13) from rfl) (by decide) xin_X10 tyX10_ok nmX10 xw_181 rfl (rfl : tyX10 11 = .int), fun h => (by cases h)⟩)
)
theorem xmo_19 : xMok xmt xm_19 := ⟨xw_182, xw_64, ⟨by decide, by decide, by decide +kernel⟩, by decide +kernel, rfl, xo_19⟩
set_option maxRecDepth 100000 in
set_option maxHeartbeats 4000000 in
theorem xo_20 : ∀ q ∈ xk_20, xok xmt xm_20 q.1 q.2 := xqw_ok (M := xm_20) (G := gx_RX11) gxo_RX11 rfl (hd := []) (by decide +kernel) (xnl)
theorem xmo_20 : xMok xmt xm_20 := ⟨xw_183, xw_64, ⟨by decide, by decide, by decide +kernel⟩, by decide +kernel, rfl, xo_20⟩
set_option maxRecDepth 100000 in
set_option maxHeartbeats 4000000 in
theorem xo_21 : ∀ q ∈ xk_21, xok xmt xm_21 q.1 q.2 := xqw_ok (M := xm_21) (G := gx_RX11) gxo_RX11 rfl (hd := [(11, (0, 14, 1000, 0, []))]) (by decide +kernel) (by
  refine xcns ?_ <| xnl
  · exact (xr_sipush dX11_leastTerm_11 (by decide +kernel))
)
theorem xmo_21 : xMok xmt xm_21 := ⟨xw_184, xw_64, ⟨by decide, by decide, by decide +kernel⟩, by decide +kernel, rfl, xo_21⟩
set_option maxRecDepth 100000 in
set_option maxHeartbeats 4000000 in
theorem xo_22 : ∀ q ∈ xk_22, xok xmt xm_22 q.1 q.2 := xqw_ok (M := xm_22) (G := gx_RX11) gxo_RX11 rfl (hd := [(1, (15, 0, 80, 0, [(0, 32), (1, 44), (2, 56), (3, 68)])), (40, (28, 43, 102, 6, [])), (52, (28, 55, 102, 6, [])), (64, (28, 67, 102, 6, [])), (76, (28, 79, 102, 6, []))]) (by decide +kernel) (by
  refine xcns ?_ <| xcns ?_ <| xcns ?_ <| xcns ?_ <| xcns ?_ <| xnl
  · exact (xr_table dX11_named_1 (by decide) (by decide) (by decide))
  · exact (⟨rfl, _, rfl, ⟨131, dX11_named_40, xw_187, xw_185, xw_186⟩, _, rfl, rfl⟩)
  · exact (⟨rfl, _, rfl, ⟨131, dX11_named_52, xw_187, xw_185, xw_186⟩, _, rfl, rfl⟩)
  · exact (⟨rfl, _, rfl, ⟨131, dX11_named_64, xw_187, xw_185, xw_186⟩, _, rfl, rfl⟩)
  · exact (⟨rfl, _, rfl, ⟨131, dX11_named_76, xw_187, xw_185, xw_186⟩, _, rfl, rfl⟩)
)
theorem xmo_22 : xMok xmt xm_22 := ⟨xw_188, xw_64, ⟨by decide, by decide, by decide +kernel⟩, by decide +kernel, rfl, xo_22⟩
end
section
set_option maxRecDepth 100000 in
set_option maxHeartbeats 4000000 in
theorem xo_23 : ∀ q ∈ xk_23, xok xmt xm_23 q.1 q.2 := xqw_ok (M := xm_23) (G := gx_RX11) gxo_RX11 rfl (hd := [(8, (28, 11, 103, 6, [])), (26, (28, 29, 42, 11, [])), (105, (27, 108, 21, 0, []))]) (by decide +kernel) (by
  refine xcns ?_ <| xcns ?_ <| xcns ?_ <| xnl
  · exact (⟨rfl, _, rfl, ⟨145, dX11_odds_8, xw_74, xw_72, xw_73⟩, _, rfl, rfl⟩)
  · exact (⟨rfl, _, rfl, ⟨315, dX11_odds_26, xw_191, xw_189, xw_190⟩, _, rfl, rfl⟩)
  · exact (⟨rfl, _, rfl, ⟨321, dX11_odds_105, xw_193, xw_194⟩⟩)
)
theorem xmo_23 : xMok xmt xm_23 := ⟨xw_195, xw_64, ⟨by decide, by decide, by decide +kernel⟩, by decide +kernel, rfl, xo_23⟩
set_option maxRecDepth 100000 in
set_option maxHeartbeats 4000000 in
theorem xo_24 : ∀ q ∈ xk_24, xok xmt xm_24 q.1 q.2 := xqw_ok (M := xm_24) (G := gx_RX11) gxo_RX11 rfl (hd := [(8, (28, 11, 103, 6, [])), (65, (70, 68, 0, 0, [])), (119, (17, 122, 10, 9, [(0, 0)]))]) (by decide +kernel) (by
  refine xcns ?_ <| xcns ?_ <| xcns ?_ <| xnl
  · exact (⟨rfl, _, rfl, ⟨145, dX11_pay_8, xw_74, xw_72, xw_73⟩, _, rfl, rfl⟩)
  · exact (fun x y => xr_mmin dX11_pay_65 xv_0 xv_1 xv_2 xv_3 x y)
  · exact (⟨.int, false, 0, rfl, xr_putf dX11_pay_119 (show vwCl[10]? = some (RX10, TX10, 13) from rfl) (by decide) xin_X10 tyX10_ok nmX10 xw_199 rfl (rfl : tyX10 9 = .int), fun h => (by cases h)⟩)
)
theorem xmo_24 : xMok xmt xm_24 := ⟨xw_200, xw_64, ⟨by decide, by decide, by decide +kernel⟩, by decide +kernel, rfl, xo_24⟩
set_option maxRecDepth 100000 in
set_option maxHeartbeats 4000000 in
theorem xo_25 : ∀ q ∈ xk_25, xok xmt xm_25 q.1 q.2 := xqw_ok (M := xm_25) (G := gx_RX11) gxo_RX11 rfl (hd := [(6, (28, 9, 78, 4, [])), (16, (27, 19, 34, 0, [])), (46, (28, 49, 82, 4, []))]) (by decide +kernel) (by
  refine xcns ?_ <| xcns ?_ <| xcns ?_ <| xnl
  · exact (⟨rfl, _, rfl, ⟨195, dX11_pitch_6, xw_101, xw_99, xw_100⟩, _, rfl, rfl⟩)
  · exact (⟨rfl, _, rfl, ⟨202, dX11_pitch_16, xw_76, xw_77⟩⟩)
  · exact (⟨rfl, _, rfl, ⟨206, dX11_pitch_46, xw_204, xw_202, xw_203⟩, _, rfl, rfl⟩)
)
theorem xmo_25 : xMok xmt xm_25 := ⟨xw_205, xw_64, ⟨by decide, by decide, by decide +kernel⟩, by decide +kernel, rfl, xo_25⟩
set_option maxRecDepth 100000 in
set_option maxHeartbeats 4000000 in
theorem xo_26 : ∀ q ∈ xk_26, xok xmt xm_26 q.1 q.2 := xqw_ok (M := xm_26) (G := gx_RX11) gxo_RX11 rfl (hd := [(36, (28, 39, 83, 4, []))]) (by decide +kernel) (by
  refine xcns ?_ <| xnl
  · exact (⟨rfl, _, rfl, ⟨310, dX11_reachOf_36, xw_208, xw_206, xw_207⟩, _, rfl, rfl⟩)
)
theorem xmo_26 : xMok xmt xm_26 := ⟨xw_209, xw_64, ⟨by decide, by decide, by decide +kernel⟩, by decide +kernel, rfl, xo_26⟩
set_option maxRecDepth 100000 in
set_option maxHeartbeats 4000000 in
theorem xo_27 : ∀ q ∈ xk_27, xok xmt xm_27 q.1 q.2 := xqw_ok (M := xm_27) (G := gx_RX11) gxo_RX11 rfl (hd := [(6, (28, 9, 78, 4, [])), (20, (28, 23, 103, 6, [])), (31, (28, 34, 139, 10, [])), (41, (27, 44, 34, 0, [])), (63, (28, 66, 33, 11, [])), (78, (28, 81, 91, 5, [])), (116, (28, 119, 138, 10, []))]) (by decide +kernel) (by
  refine xcns ?_ <| xcns ?_ <| xcns ?_ <| xcns ?_ <| xcns ?_ <| xcns ?_ <| xcns ?_ <| xnl
  · exact (⟨rfl, _, rfl, ⟨195, dX11_redeem_6, xw_101, xw_99, xw_100⟩, _, rfl, rfl⟩)
  · exact (⟨rfl, _, rfl, ⟨145, dX11_redeem_20, xw_74, xw_72, xw_73⟩, _, rfl, rfl⟩)
  · exact (⟨rfl, _, rfl, ⟨172, dX11_redeem_31, xw_133, xw_131, xw_132⟩, _, rfl, rfl⟩)
  · exact (⟨rfl, _, rfl, ⟨202, dX11_redeem_41, xw_76, xw_77⟩⟩)
  · exact (⟨rfl, _, rfl, ⟨236, dX11_redeem_63, xw_212, xw_210, xw_211⟩, _, rfl, rfl⟩)
  · exact (⟨rfl, _, rfl, ⟨209, dX11_redeem_78, xw_144, xw_142, xw_143⟩, _, rfl, rfl⟩)
  · exact (⟨rfl, _, rfl, ⟨242, dX11_redeem_116, xw_215, xw_213, xw_214⟩, _, rfl, rfl⟩)
)
theorem xmo_27 : xMok xmt xm_27 := ⟨xw_216, xw_64, ⟨by decide, by decide, by decide +kernel⟩, by decide +kernel, rfl, xo_27⟩
set_option maxRecDepth 100000 in
set_option maxHeartbeats 4000000 in
theorem xo_28 : ∀ q ∈ xk_28, xok xmt xm_28 q.1 q.2 := xqw_ok (M := xm_28) (G := gx_RX11) gxo_RX11 rfl (hd := [(6, (28, 9, 17, 11, [])), (20, (27, 23, 34, 0, [])), (26, (28, 29, 47, 0, []))]) (by decide +kernel) (by
  refine xcns ?_ <| xcns ?_ <| xcns ?_ <| xnl
  · exact (⟨rfl, _, rfl, ⟨331, dX11_round_6, xw_156, xw_154, xw_155⟩, _, rfl, rfl⟩)
  · exact (⟨rfl, _, rfl, ⟨202, dX11_round_20, xw_76, xw_77⟩⟩)
  · exact (⟨rfl, _, rfl, ⟨335, dX11_round_26, xw_159, xw_157, xw_158⟩, _, rfl, rfl⟩)
)
theorem xmo_28 : xMok xmt xm_28 := ⟨xw_217, xw_64, ⟨by decide, by decide, by decide +kernel⟩, by decide +kernel, rfl, xo_28⟩
set_option maxRecDepth 100000 in
set_option maxHeartbeats 4000000 in
theorem xo_29 : ∀ q ∈ xk_29, xok xmt xm_29 q.1 q.2 := xqw_ok (M := xm_29) (G := gx_RX11) gxo_RX11 rfl (hd := [(8, (28, 11, 103, 6, [])), (29, (28, 32, 103, 6, [])), (53, (28, 56, 30, 11, []))]) (by decide +kernel) (by
  refine xcns ?_ <| xcns ?_ <| xcns ?_ <| xnl
  · exact (⟨rfl, _, rfl, ⟨145, dX11_run_8, xw_74, xw_72, xw_73⟩, _, rfl, rfl⟩)
  · exact (⟨rfl, _, rfl, ⟨145, dX11_run_29, xw_74, xw_72, xw_73⟩, _, rfl, rfl⟩)
  · exact (⟨rfl, _, rfl, ⟨341, dX11_run_53, xw_220, xw_218, xw_219⟩, _, rfl, rfl⟩)
)
theorem xmo_29 : xMok xmt xm_29 := ⟨xw_221, xw_64, ⟨by decide, by decide, by decide +kernel⟩, by decide +kernel, rfl, xo_29⟩
set_option maxRecDepth 100000 in
set_option maxHeartbeats 4000000 in
theorem xo_30 : ∀ q ∈ xk_30, xok xmt xm_30 q.1 q.2 := xqw_ok (M := xm_30) (G := gx_RX11) gxo_RX11 rfl (hd := [(56, (70, 59, 0, 0, []))]) (by decide +kernel) (by
  refine xcns ?_ <| xnl
  · exact (fun x y => xr_mmin dX11_shareOf_56 xv_0 xv_1 xv_2 xv_3 x y)
)
theorem xmo_30 : xMok xmt xm_30 := ⟨xw_222, xw_64, ⟨by decide, by decide, by decide +kernel⟩, by decide +kernel, rfl, xo_30⟩
set_option maxRecDepth 100000 in
set_option maxHeartbeats 4000000 in
theorem xo_31 : ∀ q ∈ xk_31, xok xmt xm_31 q.1 q.2 := xqw_ok (M := xm_31) (G := gx_RX11) gxo_RX11 rfl (hd := [(45, (28, 48, 85, 4, [])), (56, (28, 59, 99, 5, [])), (59, (27, 62, 255, 0, []))]) (by decide +kernel) (by
  refine xcns ?_ <| xcns ?_ <| xcns ?_ <| xnl
  · exact (⟨rfl, _, rfl, ⟨367, dX11_singPart_45, xw_225, xw_223, xw_224⟩, _, rfl, rfl⟩)
  · exact (⟨rfl, _, rfl, ⟨213, dX11_singPart_56, xw_81, xw_79, xw_80⟩, _, rfl, rfl⟩)
  · exact (⟨rfl, _, rfl, ⟨216, dX11_singPart_59, xw_122, xw_123⟩⟩)
)
theorem xmo_31 : xMok xmt xm_31 := ⟨xw_226, xw_64, ⟨by decide, by decide, by decide +kernel⟩, by decide +kernel, rfl, xo_31⟩
set_option maxRecDepth 100000 in
set_option maxHeartbeats 4000000 in
theorem xo_32 : ∀ q ∈ xk_32, xok xmt xm_32 q.1 q.2 := xqw_ok (M := xm_32) (G := gx_RX11) gxo_RX11 rfl (hd := [(6, (28, 9, 78, 4, [])), (23, (27, 26, 34, 0, []))]) (by decide +kernel) (by
  refine xcns ?_ <| xcns ?_ <| xnl
  · exact (⟨rfl, _, rfl, ⟨195, dX11_sings_6, xw_101, xw_99, xw_100⟩, _, rfl, rfl⟩)
  · exact (⟨rfl, _, rfl, ⟨202, dX11_sings_23, xw_76, xw_77⟩⟩)
)
theorem xmo_32 : xMok xmt xm_32 := ⟨xw_227, xw_64, ⟨by decide, by decide, by decide +kernel⟩, by decide +kernel, rfl, xo_32⟩
set_option maxRecDepth 100000 in
set_option maxHeartbeats 4000000 in
theorem xo_33 : ∀ q ∈ xk_33, xok xmt xm_33 q.1 q.2 := xqw_ok (M := xm_33) (G := gx_RX11) gxo_RX11 rfl (hd := [(24, (27, 27, 34, 0, []))]) (by decide +kernel) (by
  refine xcns ?_ <| xnl
  · exact (⟨rfl, _, rfl, ⟨202, dX11_singsIn_24, xw_76, xw_77⟩⟩)
)
theorem xmo_33 : xMok xmt xm_33 := ⟨xw_228, xw_64, ⟨by decide, by decide, by decide +kernel⟩, by decide +kernel, rfl, xo_33⟩
set_option maxRecDepth 100000 in
set_option maxHeartbeats 4000000 in
theorem xo_34 : ∀ q ∈ xk_34, xok xmt xm_34 q.1 q.2 := xqw_ok (M := xm_34) (G := gx_RX11) gxo_RX11 rfl (hd := []) (by decide +kernel) (xnl)
theorem xmo_34 : xMok xmt xm_34 := ⟨xw_229, xw_64, ⟨by decide, by decide, by decide +kernel⟩, by decide +kernel, rfl, xo_34⟩
set_option maxRecDepth 100000 in
set_option maxHeartbeats 4000000 in
theorem xo_35 : ∀ q ∈ xk_35, xok xmt xm_35 q.1 q.2 := xqw_ok (M := xm_35) (G := gx_RX11) gxo_RX11 rfl (hd := [(5, (28, 8, 79, 4, [])), (19, (28, 22, 103, 6, [])), (51, (28, 54, 107, 7, []))]) (by decide +kernel) (by
  refine xcns ?_ <| xcns ?_ <| xcns ?_ <| xnl
  · exact (⟨rfl, _, rfl, ⟨280, dX11_sold_5, xw_148, xw_146, xw_147⟩, _, rfl, rfl⟩)
  · exact (⟨rfl, _, rfl, ⟨145, dX11_sold_19, xw_74, xw_72, xw_73⟩, _, rfl, rfl⟩)
  · exact (⟨rfl, _, rfl, ⟨283, dX11_sold_51, xw_151, xw_149, xw_150⟩, _, rfl, rfl⟩)
)
theorem xmo_35 : xMok xmt xm_35 := ⟨xw_232, xw_64, ⟨by decide, by decide, by decide +kernel⟩, by decide +kernel, rfl, xo_35⟩
set_option maxRecDepth 100000 in
set_option maxHeartbeats 4000000 in
theorem xo_36 : ∀ q ∈ xk_36, xok xmt xm_36 q.1 q.2 := xqw_ok (M := xm_36) (G := gx_RX11) gxo_RX11 rfl (hd := [(6, (28, 9, 78, 4, [])), (20, (28, 23, 103, 6, [])), (34, (27, 37, 34, 0, [])), (38, (28, 41, 99, 5, [])), (41, (27, 44, 255, 0, []))]) (by decide +kernel) (by
  refine xcns ?_ <| xcns ?_ <| xcns ?_ <| xcns ?_ <| xcns ?_ <| xnl
  · exact (⟨rfl, _, rfl, ⟨195, dX11_sounds_6, xw_101, xw_99, xw_100⟩, _, rfl, rfl⟩)
  · exact (⟨rfl, _, rfl, ⟨145, dX11_sounds_20, xw_74, xw_72, xw_73⟩, _, rfl, rfl⟩)
  · exact (⟨rfl, _, rfl, ⟨202, dX11_sounds_34, xw_76, xw_77⟩⟩)
  · exact (⟨rfl, _, rfl, ⟨213, dX11_sounds_38, xw_81, xw_79, xw_80⟩, _, rfl, rfl⟩)
  · exact (⟨rfl, _, rfl, ⟨216, dX11_sounds_41, xw_122, xw_123⟩⟩)
)
theorem xmo_36 : xMok xmt xm_36 := ⟨xw_233, xw_64, ⟨by decide, by decide, by decide +kernel⟩, by decide +kernel, rfl, xo_36⟩
set_option maxRecDepth 100000 in
set_option maxHeartbeats 4000000 in
theorem xo_37 : ∀ q ∈ xk_37, xok xmt xm_37 q.1 q.2 := xqw_ok (M := xm_37) (G := gx_RX11) gxo_RX11 rfl (hd := [(22, (28, 25, 74, 3, []))]) (by decide +kernel) (by
  refine xcns ?_ <| xnl
  · exact (⟨rfl, _, rfl, ⟨296, dX11_strike_22, xw_177, xw_175, xw_176⟩, _, rfl, rfl⟩)
)
theorem xmo_37 : xMok xmt xm_37 := ⟨xw_234, xw_64, ⟨by decide, by decide, by decide +kernel⟩, by decide +kernel, rfl, xo_37⟩
set_option maxRecDepth 100000 in
set_option maxHeartbeats 4000000 in
theorem xo_38 : ∀ q ∈ xk_38, xok xmt xm_38 q.1 q.2 := xqw_ok (M := xm_38) (G := gx_RX11) gxo_RX11 rfl (hd := [(26, (28, 29, 31, 11, [])), (41, (28, 44, 137, 10, [])), (45, (28, 48, 8, 11, [])), (58, (17, 61, 10, 7, [(0, 0)])), (66, (17, 69, 1, 10, [(3, 0)]))]) (by decide +kernel) (by
  refine xcns ?_ <| xcns ?_ <| xcns ?_ <| xcns ?_ <| xcns ?_ <| xnl
  · exact (⟨rfl, _, rfl, ⟨258, dX11_sunday_26, xw_238, xw_236, xw_237⟩, _, rfl, rfl⟩)
  · exact (⟨rfl, _, rfl, ⟨261, dX11_sunday_41, xw_241, xw_239, xw_240⟩, _, rfl, rfl⟩)
  · exact (⟨rfl, _, rfl, ⟨264, dX11_sunday_45, xw_244, xw_242, xw_243⟩, _, rfl, rfl⟩)
  · exact (⟨.int, false, 0, rfl, xr_putf dX11_sunday_58 (show vwCl[10]? = some (RX10, TX10, 13) from rfl) (by decide) xin_X10 tyX10_ok nmX10 xw_69 rfl (rfl : tyX10 7 = .int), fun h => (by cases h)⟩)
  · exact (⟨.boolean, false, 0, rfl, xr_putf dX11_sunday_66 (show vwCl[1]? = some (RX1, TX1, 11) from rfl) (by decide) xin_X1 tyX1_ok nmX1 xw_68 rfl (rfl : tyX1 10 = .boolean), fun h => (by cases h)⟩)
)
theorem xmo_38 : xMok xmt xm_38 := ⟨xw_245, xw_64, ⟨by decide, by decide, by decide +kernel⟩, by decide +kernel, rfl, xo_38⟩
set_option maxRecDepth 100000 in
set_option maxHeartbeats 4000000 in
theorem xo_39 : ∀ q ∈ xk_39, xok xmt xm_39 q.1 q.2 := xqw_ok (M := xm_39) (G := gx_RX11) gxo_RX11 rfl (hd := [(11, (0, 14, 800, 0, [])), (37, (17, 40, 11, 11, [(0, 0)]))]) (by decide +kernel) (by
  refine xcns ?_ <| xcns ?_ <| xnl
  · exact (xr_sipush dX11_tapeNumber_11 (by decide +kernel))
  · exact (⟨.int, false, 0, rfl, xr_putf dX11_tapeNumber_37 (show vwCl[11]? = some (RX11, TX11, 15) from rfl) (by decide) xin_X11 tyX11_ok nmX11 xw_56 rfl (rfl : tyX11 11 = .int), fun h => (by cases h)⟩)
)
theorem xmo_39 : xMok xmt xm_39 := ⟨xw_246, xw_64, ⟨by decide, by decide, by decide +kernel⟩, by decide +kernel, rfl, xo_39⟩
set_option maxRecDepth 100000 in
set_option maxHeartbeats 4000000 in
theorem xo_40 : ∀ q ∈ xk_40, xok xmt xm_40 q.1 q.2 := xqw_ok (M := xm_40) (G := gx_RX11) gxo_RX11 rfl (hd := [(8, (28, 11, 103, 6, [])), (17, (15, 0, 70, 0, [(0, 44), (1, 54), (2, 64)])), (66, (28, 69, 6, 11, []))]) (by decide +kernel) (by
  refine xcns ?_ <| xcns ?_ <| xcns ?_ <| xnl
  · exact (⟨rfl, _, rfl, ⟨145, dX11_tavern_8, xw_74, xw_72, xw_73⟩, _, rfl, rfl⟩)
  · exact (xr_table dX11_tavern_17 (by decide) (by decide) (by decide))
  · exact (⟨rfl, _, rfl, ⟨189, dX11_tavern_66, xw_250, xw_248, xw_249⟩, _, rfl, rfl⟩)
)
theorem xmo_40 : xMok xmt xm_40 := ⟨xw_251, xw_64, ⟨by decide, by decide, by decide +kernel⟩, by decide +kernel, rfl, xo_40⟩
set_option maxRecDepth 100000 in
set_option maxHeartbeats 4000000 in
theorem xo_41 : ∀ q ∈ xk_41, xok xmt xm_41 q.1 q.2 := xqw_ok (M := xm_41) (G := gx_RX11) gxo_RX11 rfl (hd := [(20, (28, 23, 120, 8, [])), (26, (17, 29, 11, 11, [(0, 0)])), (40, (17, 43, 11, 12, [(0, 0)])), (54, (17, 57, 11, 13, [(0, 0)])), (74, (28, 77, 86, 4, [])), (85, (28, 88, 135, 10, [])), (93, (17, 96, 3, 1, [(0, 0)])), (98, (17, 101, 11, 14, [(3, 0)])), (106, (17, 109, 1, 10, [(3, 0)]))]) (by decide +kernel) (by
  refine xcns ?_ <| xcns ?_ <| xcns ?_ <| xcns ?_ <| xcns ?_ <| xcns ?_ <| xcns ?_ <| xcns ?_ <| xcns ?_ <| xnl
  · exact (⟨rfl, _, rfl, ⟨108, dX11_text_20, xw_254, xw_252, xw_253⟩, _, rfl, rfl⟩)
  · exact (⟨.int, false, 0, rfl, xr_putf dX11_text_26 (show vwCl[11]? = some (RX11, TX11, 15) from rfl) (by decide) xin_X11 tyX11_ok nmX11 xw_56 rfl (rfl : tyX11 11 = .int), fun h => (by cases h)⟩)
  · exact (⟨.int, false, 0, rfl, xr_putf dX11_text_40 (show vwCl[11]? = some (RX11, TX11, 15) from rfl) (by decide) xin_X11 tyX11_ok nmX11 xw_57 rfl (rfl : tyX11 12 = .int), fun h => (by cases h)⟩)
  · exact (⟨.int, false, 0, rfl, xr_putf dX11_text_54 (show vwCl[11]? = some (RX11, TX11, 15) from rfl) (by decide) xin_X11 tyX11_ok nmX11 xw_58 rfl (rfl : tyX11 13 = .int), fun h => (by cases h)⟩)
  · exact (⟨rfl, _, rfl, ⟨118, dX11_text_74, xw_260, xw_258, xw_259⟩, _, rfl, rfl⟩)
  · exact (⟨rfl, _, rfl, ⟨100, dX11_text_85, xw_62, xw_60, xw_61⟩, _, rfl, rfl⟩)
  · exact (⟨.int, false, 0, rfl, xr_putf dX11_text_93 (show vwCl[3]? = some (RX3, TX3, 2) from rfl) (by decide) xin_X3 tyX3_ok nmX3 xw_117 rfl (rfl : tyX3 1 = .int), fun h => (by cases h)⟩)
  · exact (⟨.boolean, false, 0, rfl, xr_putf dX11_text_98 (show vwCl[11]? = some (RX11, TX11, 15) from rfl) (by decide) xin_X11 tyX11_ok nmX11 xw_59 rfl (rfl : tyX11 14 = .boolean), fun h => (by cases h)⟩)
  · exact (⟨.boolean, false, 0, rfl, xr_putf dX11_text_106 (show vwCl[1]? = some (RX1, TX1, 11) from rfl) (by decide) xin_X1 tyX1_ok nmX1 xw_68 rfl (rfl : tyX1 10 = .boolean), fun h => (by cases h)⟩)
)
theorem xmo_41 : xMok xmt xm_41 := ⟨xw_261, xw_64, ⟨by decide, by decide, by decide +kernel⟩, by decide +kernel, rfl, xo_41⟩
set_option maxRecDepth 100000 in
set_option maxHeartbeats 4000000 in
theorem xo_42 : ∀ q ∈ xk_42, xok xmt xm_42 q.1 q.2 := xqw_ok (M := xm_42) (G := gx_RX11) gxo_RX11 rfl (hd := [(5, (28, 8, 20, 11, [])), (8, (28, 11, 75, 3, [])), (38, (28, 41, 139, 10, [])), (51, (28, 54, 83, 4, [])), (54, (1, 57, 18446744073709551615, 0, []))]) (by decide +kernel) (by
  refine xcns ?_ <| xcns ?_ <| xcns ?_ <| xcns ?_ <| xcns ?_ <| xnl
  · exact (⟨rfl, _, rfl, ⟨302, dX11_thieves_5, xw_120, xw_118, xw_119⟩, _, rfl, rfl⟩)
  · exact (⟨rfl, _, rfl, ⟨306, dX11_thieves_8, xw_169, xw_167, xw_168⟩, _, rfl, rfl⟩)
  · exact (⟨rfl, _, rfl, ⟨172, dX11_thieves_38, xw_133, xw_131, xw_132⟩, _, rfl, rfl⟩)
  · exact (⟨rfl, _, rfl, ⟨310, dX11_thieves_51, xw_208, xw_206, xw_207⟩, _, rfl, rfl⟩)
  · exact (xr_ldc2 dX11_thieves_54 xw_173)
)
theorem xmo_42 : xMok xmt xm_42 := ⟨xw_262, xw_64, ⟨by decide, by decide, by decide +kernel⟩, by decide +kernel, rfl, xo_42⟩
set_option maxRecDepth 100000 in
set_option maxHeartbeats 4000000 in
theorem xo_43 : ∀ q ∈ xk_43, xok xmt xm_43 q.1 q.2 := xqw_ok (M := xm_43) (G := gx_RX11) gxo_RX11 rfl (hd := [(99, (28, 102, 136, 10, []))]) (by decide +kernel) (by
  refine xcns ?_ <| xnl
  · exact (⟨rfl, _, rfl, ⟨255, dX11_undo_99, xw_266, xw_264, xw_265⟩, _, rfl, rfl⟩)
)
theorem xmo_43 : xMok xmt xm_43 := ⟨xw_267, xw_64, ⟨by decide, by decide, by decide +kernel⟩, by decide +kernel, rfl, xo_43⟩
end
section
set_option maxRecDepth 100000 in
set_option maxHeartbeats 4000000 in
theorem xo_44 : ∀ q ∈ xk_44, xok xmt xm_44 q.1 q.2 := xqw_ok (M := xm_44) (G := gx_RX11) gxo_RX11 rfl (hd := [(8, (28, 11, 103, 6, [])), (42, (28, 45, 78, 4, [])), (61, (27, 64, 34, 0, []))]) (by decide +kernel) (by
  refine xcns ?_ <| xcns ?_ <| xcns ?_ <| xnl
  · exact (⟨rfl, _, rfl, ⟨145, dX11_verse_8, xw_74, xw_72, xw_73⟩, _, rfl, rfl⟩)
  · exact (⟨rfl, _, rfl, ⟨195, dX11_verse_42, xw_101, xw_99, xw_100⟩, _, rfl, rfl⟩)
  · exact (⟨rfl, _, rfl, ⟨202, dX11_verse_61, xw_76, xw_77⟩⟩)
)
theorem xmo_44 : xMok xmt xm_44 := ⟨xw_268, xw_64, ⟨by decide, by decide, by decide +kernel⟩, by decide +kernel, rfl, xo_44⟩
set_option maxRecDepth 100000 in
set_option maxHeartbeats 4000000 in
theorem xo_45 : ∀ q ∈ xk_45, xok xmt xm_45 q.1 q.2 := xqw_ok (M := xm_45) (G := gx_RX11) gxo_RX11 rfl (hd := [(8, (28, 11, 103, 6, [])), (33, (1, 36, 18446744073709551615, 0, [])), (42, (28, 45, 139, 10, [])), (56, (28, 59, 81, 4, [])), (98, (28, 101, 90, 5, [])), (108, (1, 111, 100, 0, [])), (125, (27, 128, 21, 0, []))]) (by decide +kernel) (by
  refine xcns ?_ <| xcns ?_ <| xcns ?_ <| xcns ?_ <| xcns ?_ <| xcns ?_ <| xcns ?_ <| xnl
  · exact (⟨rfl, _, rfl, ⟨145, dX11_whole_8, xw_74, xw_72, xw_73⟩, _, rfl, rfl⟩)
  · exact (xr_ldc2 dX11_whole_33 xw_173)
  · exact (⟨rfl, _, rfl, ⟨172, dX11_whole_42, xw_133, xw_131, xw_132⟩, _, rfl, rfl⟩)
  · exact (⟨rfl, _, rfl, ⟨175, dX11_whole_56, xw_130, xw_128, xw_129⟩, _, rfl, rfl⟩)
  · exact (⟨rfl, _, rfl, ⟨230, dX11_whole_98, xw_139, xw_137, xw_138⟩, _, rfl, rfl⟩)
  · exact (xr_ldc2 dX11_whole_108 xw_269)
  · exact (⟨rfl, _, rfl, ⟨321, dX11_whole_125, xw_193, xw_194⟩⟩)
)
theorem xmo_45 : xMok xmt xm_45 := ⟨xw_270, xw_64, ⟨by decide, by decide, by decide +kernel⟩, by decide +kernel, rfl, xo_45⟩
set_option maxRecDepth 100000 in
set_option maxHeartbeats 4000000 in
theorem xo_46 : ∀ q ∈ xk_46, xok xmt xm_46 q.1 q.2 := xqw_ok (M := xm_46) (G := gx_RX0) gxo_RX0 rfl (hd := [(1, (25, 4, 0, 0, [])), (7, (23, 9, 0, 0, [])), (9, (17, 12, 0, 3, [(4, 0)])), (14, (23, 16, 0, 0, [])), (16, (17, 19, 0, 4, [(4, 0)])), (21, (23, 23, 0, 0, [])), (23, (17, 26, 0, 5, [(4, 0)])), (28, (17, 31, 0, 6, [(0, 0)])), (33, (17, 36, 0, 7, [(0, 0)])), (38, (17, 41, 0, 8, [(0, 0)])), (42, (0, 44, 1000000, 0, [])), (44, (17, 47, 0, 9, [(0, 0)])), (49, (17, 52, 0, 0, [(4, 0)])), (54, (17, 57, 0, 1, [(4, 0)])), (59, (17, 62, 0, 2, [(4, 0)]))]) (by decide +kernel) (by
  refine xcns ?_ <| xcns ?_ <| xcns ?_ <| xcns ?_ <| xcns ?_ <| xcns ?_ <| xcns ?_ <| xcns ?_ <| xcns ?_ <| xcns ?_ <| xcns ?_ <| xcns ?_ <| xcns ?_ <| xcns ?_ <| xcns ?_ <| xnl
  · exact (xr_oinit dX0_init_1 xw_271 xw_1 xw_oc)
  · exact (⟨by decide, xr_newa dX0_init_7 rfl xw_272⟩)
  · exact (⟨(.array .int), true, 0, rfl, xr_putF dX0_init_9 (show vwCl[0]? = some (RX0, TX0, 10) from rfl) (by decide) xin_X0 tyX0_ok nmX0 xw_273 rfl (rfl : tyX0 3 = (.array .int)) rfl, fun _ => rfl⟩)
  · exact (⟨by decide, xr_newa dX0_init_14 rfl xw_272⟩)
  · exact (⟨(.array .int), true, 0, rfl, xr_putF dX0_init_16 (show vwCl[0]? = some (RX0, TX0, 10) from rfl) (by decide) xin_X0 tyX0_ok nmX0 xw_274 rfl (rfl : tyX0 4 = (.array .int)) rfl, fun _ => rfl⟩)
  · exact (⟨by decide, xr_newa dX0_init_21 rfl xw_272⟩)
  · exact (⟨(.array .int), true, 0, rfl, xr_putF dX0_init_23 (show vwCl[0]? = some (RX0, TX0, 10) from rfl) (by decide) xin_X0 tyX0_ok nmX0 xw_275 rfl (rfl : tyX0 5 = (.array .int)) rfl, fun _ => rfl⟩)
  · exact (⟨.int, false, 0, rfl, xr_putf dX0_init_28 (show vwCl[0]? = some (RX0, TX0, 10) from rfl) (by decide) xin_X0 tyX0_ok nmX0 xw_276 rfl (rfl : tyX0 6 = .int), fun h => (by cases h)⟩)
  · exact (⟨.int, false, 0, rfl, xr_putf dX0_init_33 (show vwCl[0]? = some (RX0, TX0, 10) from rfl) (by decide) xin_X0 tyX0_ok nmX0 xw_277 rfl (rfl : tyX0 7 = .int), fun h => (by cases h)⟩)
  · exact (⟨.int, false, 0, rfl, xr_putf dX0_init_38 (show vwCl[0]? = some (RX0, TX0, 10) from rfl) (by decide) xin_X0 tyX0_ok nmX0 xw_278 rfl (rfl : tyX0 8 = .int), fun h => (by cases h)⟩)
  · exact (xr_ldc dX0_init_42 xw_279)
  · exact (⟨.int, false, 0, rfl, xr_putf dX0_init_44 (show vwCl[0]? = some (RX0, TX0, 10) from rfl) (by decide) xin_X0 tyX0_ok nmX0 xw_280 rfl (rfl : tyX0 9 = .int), fun h => (by cases h)⟩)
  · exact (⟨(.object "RansomHymn$Hymn"), true, 0, rfl, xr_putF dX0_init_49 (show vwCl[0]? = some (RX0, TX0, 10) from rfl) (by decide) xin_X0 tyX0_ok nmX0 xw_281 rfl (rfl : tyX0 0 = (.object "RansomHymn$Hymn")) rfl, fun _ => rfl⟩)
  · exact (⟨(.object "RansomHymn$World"), true, 0, rfl, xr_putF dX0_init_54 (show vwCl[0]? = some (RX0, TX0, 10) from rfl) (by decide) xin_X0 tyX0_ok nmX0 xw_282 rfl (rfl : tyX0 1 = (.object "RansomHymn$World")) rfl, fun _ => rfl⟩)
  · exact (⟨(.object "RansomHymn$Laws"), true, 0, rfl, xr_putF dX0_init_59 (show vwCl[0]? = some (RX0, TX0, 10) from rfl) (by decide) xin_X0 tyX0_ok nmX0 xw_283 rfl (rfl : tyX0 2 = (.object "RansomHymn$Laws")) rfl, fun _ => rfl⟩)
)
theorem xmo_46 : xMok xmt xm_46 := ⟨xw_284, xw_52, ⟨by decide, by decide, by decide +kernel⟩, by decide +kernel, rfl, xo_46⟩
set_option maxRecDepth 100000 in
set_option maxHeartbeats 4000000 in
theorem xo_47 : ∀ q ∈ xk_47, xok xmt xm_47 q.1 q.2 := xqw_ok (M := xm_47) (G := gx_RX0) gxo_RX0 rfl (hd := [(17, (27, 20, 255, 0, [])), (30, (17, 33, 0, 6, [(0, 0)])), (35, (17, 38, 0, 7, [(0, 0)])), (54, (17, 57, 0, 8, [(0, 0)])), (58, (0, 60, 1000000, 0, [])), (60, (17, 63, 0, 9, [(0, 0)])), (94, (28, 97, 99, 5, [])), (114, (28, 117, 48, 0, []))]) (by decide +kernel) (by
  refine xcns ?_ <| xcns ?_ <| xcns ?_ <| xcns ?_ <| xcns ?_ <| xcns ?_ <| xcns ?_ <| xcns ?_ <| xnl
  · exact (⟨rfl, _, rfl, ⟨63, dX0_fewestGaps_17, xw_288, xw_123⟩⟩)
  · exact (⟨.int, false, 0, rfl, xr_putf dX0_fewestGaps_30 (show vwCl[0]? = some (RX0, TX0, 10) from rfl) (by decide) xin_X0 tyX0_ok nmX0 xw_276 rfl (rfl : tyX0 6 = .int), fun h => (by cases h)⟩)
  · exact (⟨.int, false, 0, rfl, xr_putf dX0_fewestGaps_35 (show vwCl[0]? = some (RX0, TX0, 10) from rfl) (by decide) xin_X0 tyX0_ok nmX0 xw_277 rfl (rfl : tyX0 7 = .int), fun h => (by cases h)⟩)
  · exact (⟨.int, false, 0, rfl, xr_putf dX0_fewestGaps_54 (show vwCl[0]? = some (RX0, TX0, 10) from rfl) (by decide) xin_X0 tyX0_ok nmX0 xw_278 rfl (rfl : tyX0 8 = .int), fun h => (by cases h)⟩)
  · exact (xr_ldc dX0_fewestGaps_58 xw_279)
  · exact (⟨.int, false, 0, rfl, xr_putf dX0_fewestGaps_60 (show vwCl[0]? = some (RX0, TX0, 10) from rfl) (by decide) xin_X0 tyX0_ok nmX0 xw_280 rfl (rfl : tyX0 9 = .int), fun h => (by cases h)⟩)
  · exact (⟨rfl, _, rfl, ⟨72, dX0_fewestGaps_94, xw_290, xw_79, xw_80⟩, _, rfl, rfl⟩)
  · exact (⟨rfl, _, rfl, ⟨78, dX0_fewestGaps_114, xw_293, xw_291, xw_292⟩, _, rfl, rfl⟩)
)
theorem xmo_47 : xMok xmt xm_47 := ⟨xw_294, xw_52, ⟨by decide, by decide, by decide +kernel⟩, by decide +kernel, rfl, xo_47⟩
set_option maxRecDepth 100000 in
set_option maxHeartbeats 4000000 in
theorem xo_48 : ∀ q ∈ xk_48, xok xmt xm_48 q.1 q.2 := xqw_ok (M := xm_48) (G := gx_RX0) gxo_RX0 rfl (hd := [(18, (27, 21, 256, 0, [])), (36, (17, 39, 0, 9, [(0, 0)])), (50, (26, 53, 0, 0, [])), (116, (28, 119, 48, 0, []))]) (by decide +kernel) (by
  refine xcns ?_ <| xcns ?_ <| xcns ?_ <| xcns ?_ <| xnl
  · exact (⟨rfl, _, rfl, ⟨82, dX0_fill_18, xw_295, xw_296⟩⟩)
  · exact (⟨.int, false, 0, rfl, xr_putf dX0_fill_36 (show vwCl[0]? = some (RX0, TX0, 10) from rfl) (by decide) xin_X0 tyX0_ok nmX0 xw_280 rfl (rfl : tyX0 9 = .int), fun h => (by cases h)⟩)
  · exact (xr_copy dX0_fill_50 xw_297 xw_298 xw_299 xw_300)
  · exact (⟨rfl, _, rfl, ⟨78, dX0_fill_116, xw_293, xw_291, xw_292⟩, _, rfl, rfl⟩)
)
theorem xmo_48 : xMok xmt xm_48 := ⟨xw_301, xw_52, ⟨by decide, by decide, by decide +kernel⟩, by decide +kernel, rfl, xo_48⟩
set_option maxRecDepth 100000 in
set_option maxHeartbeats 4000000 in
theorem xo_49 : ∀ q ∈ xk_49, xok xmt xm_49 q.1 q.2 := xqw_ok (M := xm_49) (G := gx_RX1) gxo_RX1 rfl (hd := [(1, (25, 4, 0, 0, [])), (7, (23, 9, 0, 0, [])), (9, (17, 12, 1, 3, [(4, 0)])), (15, (23, 17, 0, 0, [])), (17, (17, 20, 1, 4, [(4, 0)])), (23, (23, 25, 0, 0, [])), (25, (17, 28, 1, 5, [(4, 0)])), (32, (24, 36, 0, 0, [])), (36, (17, 39, 1, 6, [(4, 0)])), (42, (23, 44, 0, 0, [])), (44, (17, 47, 1, 7, [(4, 0)])), (49, (17, 52, 1, 8, [(0, 0)])), (54, (17, 57, 1, 9, [(0, 0)])), (59, (17, 62, 1, 10, [(3, 0)])), (64, (17, 67, 1, 0, [(4, 0)])), (69, (17, 72, 1, 1, [(4, 0)])), (74, (17, 77, 1, 2, [(4, 0)]))]) (by decide +kernel) (by
  refine xcns ?_ <| xcns ?_ <| xcns ?_ <| xcns ?_ <| xcns ?_ <| xcns ?_ <| xcns ?_ <| xcns ?_ <| xcns ?_ <| xcns ?_ <| xcns ?_ <| xcns ?_ <| xcns ?_ <| xcns ?_ <| xcns ?_ <| xcns ?_ <| xcns ?_ <| xnl
  · exact (xr_oinit dX1_init_1 xw_302 xw_1 xw_oc)
  · exact (⟨by decide, xr_newa dX1_init_7 rfl xw_272⟩)
  · exact (⟨(.array .int), true, 0, rfl, xr_putF dX1_init_9 (show vwCl[1]? = some (RX1, TX1, 11) from rfl) (by decide) xin_X1 tyX1_ok nmX1 xw_303 rfl (rfl : tyX1 3 = (.array .int)) rfl, fun _ => rfl⟩)
  · exact (⟨by decide, xr_newa dX1_init_15 rfl xw_272⟩)
  · exact (⟨(.array .int), true, 0, rfl, xr_putF dX1_init_17 (show vwCl[1]? = some (RX1, TX1, 11) from rfl) (by decide) xin_X1 tyX1_ok nmX1 xw_304 rfl (rfl : tyX1 4 = (.array .int)) rfl, fun _ => rfl⟩)
  · exact (⟨by decide, xr_newa dX1_init_23 rfl xw_272⟩)
  · exact (⟨(.array .int), true, 0, rfl, xr_putF dX1_init_25 (show vwCl[1]? = some (RX1, TX1, 11) from rfl) (by decide) xin_X1 tyX1_ok nmX1 xw_305 rfl (rfl : tyX1 5 = (.array .int)) rfl, fun _ => rfl⟩)
  · exact (xr_mna dX1_init_32 xw_306 xw_272)
  · exact (⟨(.array (.array .int)), true, 0, rfl, xr_putF dX1_init_36 (show vwCl[1]? = some (RX1, TX1, 11) from rfl) (by decide) xin_X1 tyX1_ok nmX1 xw_307 rfl (rfl : tyX1 6 = (.array (.array .int))) rfl, fun _ => rfl⟩)
  · exact (⟨by decide, xr_newa dX1_init_42 rfl xw_272⟩)
  · exact (⟨(.array .int), true, 0, rfl, xr_putF dX1_init_44 (show vwCl[1]? = some (RX1, TX1, 11) from rfl) (by decide) xin_X1 tyX1_ok nmX1 xw_308 rfl (rfl : tyX1 7 = (.array .int)) rfl, fun _ => rfl⟩)
  · exact (⟨.int, false, 0, rfl, xr_putf dX1_init_49 (show vwCl[1]? = some (RX1, TX1, 11) from rfl) (by decide) xin_X1 tyX1_ok nmX1 xw_309 rfl (rfl : tyX1 8 = .int), fun h => (by cases h)⟩)
  · exact (⟨.int, false, 0, rfl, xr_putf dX1_init_54 (show vwCl[1]? = some (RX1, TX1, 11) from rfl) (by decide) xin_X1 tyX1_ok nmX1 xw_310 rfl (rfl : tyX1 9 = .int), fun h => (by cases h)⟩)
  · exact (⟨.boolean, false, 0, rfl, xr_putf dX1_init_59 (show vwCl[1]? = some (RX1, TX1, 11) from rfl) (by decide) xin_X1 tyX1_ok nmX1 xw_311 rfl (rfl : tyX1 10 = .boolean), fun h => (by cases h)⟩)
  · exact (⟨(.object "RansomHymn$Hymn"), true, 0, rfl, xr_putF dX1_init_64 (show vwCl[1]? = some (RX1, TX1, 11) from rfl) (by decide) xin_X1 tyX1_ok nmX1 xw_312 rfl (rfl : tyX1 0 = (.object "RansomHymn$Hymn")) rfl, fun _ => rfl⟩)
  · exact (⟨(.object "RansomHymn$World"), true, 0, rfl, xr_putF dX1_init_69 (show vwCl[1]? = some (RX1, TX1, 11) from rfl) (by decide) xin_X1 tyX1_ok nmX1 xw_313 rfl (rfl : tyX1 1 = (.object "RansomHymn$World")) rfl, fun _ => rfl⟩)
  · exact (⟨(.object "RansomHymn$Laws"), true, 0, rfl, xr_putF dX1_init_74 (show vwCl[1]? = some (RX1, TX1, 11) from rfl) (by decide) xin_X1 tyX1_ok nmX1 xw_314 rfl (rfl : tyX1 2 = (.object "RansomHymn$Laws")) rfl, fun _ => rfl⟩)
)
theorem xmo_49 : xMok xmt xm_49 := ⟨xw_315, xw_40, ⟨by decide, by decide, by decide +kernel⟩, by decide +kernel, rfl, xo_49⟩
set_option maxRecDepth 100000 in
set_option maxHeartbeats 4000000 in
theorem xo_50 : ∀ q ∈ xk_50, xok xmt xm_50 q.1 q.2 := xqw_ok (M := xm_50) (G := gx_RX1) gxo_RX1 rfl (hd := [(2, (28, 5, 55, 1, [])), (24, (28, 27, 56, 1, [])), (51, (28, 54, 52, 1, [])), (60, (28, 63, 53, 1, []))]) (by decide +kernel) (by
  refine xcns ?_ <| xcns ?_ <| xcns ?_ <| xcns ?_ <| xnl
  · exact (⟨rfl, _, rfl, ⟨84, dX1_choose_2, xw_316, xw_86, xw_87⟩, _, rfl, rfl⟩)
  · exact (⟨rfl, _, rfl, ⟨88, dX1_choose_24, xw_321, xw_319, xw_320⟩, _, rfl, rfl⟩)
  · exact (⟨rfl, _, rfl, ⟨91, dX1_choose_51, xw_324, xw_322, xw_323⟩, _, rfl, rfl⟩)
  · exact (⟨rfl, _, rfl, ⟨95, dX1_choose_60, xw_327, xw_325, xw_326⟩, _, rfl, rfl⟩)
)
theorem xmo_50 : xMok xmt xm_50 := ⟨xw_328, xw_40, ⟨by decide, by decide, by decide +kernel⟩, by decide +kernel, rfl, xo_50⟩
set_option maxRecDepth 100000 in
set_option maxHeartbeats 4000000 in
theorem xo_51 : ∀ q ∈ xk_51, xok xmt xm_51 q.1 q.2 := xqw_ok (M := xm_51) (G := gx_RX1) gxo_RX1 rfl (hd := []) (by decide +kernel) (xnl)
theorem xmo_51 : xMok xmt xm_51 := ⟨xw_329, xw_40, ⟨by decide, by decide, by decide +kernel⟩, by decide +kernel, rfl, xo_51⟩
set_option maxRecDepth 100000 in
set_option maxHeartbeats 4000000 in
theorem xo_52 : ∀ q ∈ xk_52, xok xmt xm_52 q.1 q.2 := xqw_ok (M := xm_52) (G := gx_RX1) gxo_RX1 rfl (hd := [(25, (17, 28, 1, 8, [(0, 0)])), (30, (17, 33, 1, 9, [(0, 0)])), (54, (47, 57, 34, 0, [])), (138, (17, 141, 1, 8, [(0, 0)])), (160, (17, 163, 1, 9, [(0, 0)]))]) (by decide +kernel) (by
  refine xcns ?_ <| xcns ?_ <| xcns ?_ <| xcns ?_ <| xcns ?_ <| xnl
  · exact (⟨.int, false, 0, rfl, xr_putf dX1_fits_25 (show vwCl[1]? = some (RX1, TX1, 11) from rfl) (by decide) xin_X1 tyX1_ok nmX1 xw_309 rfl (rfl : tyX1 8 = .int), fun h => (by cases h)⟩)
  · exact (⟨.int, false, 0, rfl, xr_putf dX1_fits_30 (show vwCl[1]? = some (RX1, TX1, 11) from rfl) (by decide) xin_X1 tyX1_ok nmX1 xw_310 rfl (rfl : tyX1 9 = .int), fun h => (by cases h)⟩)
  · exact (⟨rfl, _, rfl, ⟨98, dX1_fits_54, _, List.mem_of_getElem? (i := 6) rfl, xw_77⟩⟩)
  · exact (⟨.int, false, 0, rfl, xr_putf dX1_fits_138 (show vwCl[1]? = some (RX1, TX1, 11) from rfl) (by decide) xin_X1 tyX1_ok nmX1 xw_309 rfl (rfl : tyX1 8 = .int), fun h => (by cases h)⟩)
  · exact (⟨.int, false, 0, rfl, xr_putf dX1_fits_160 (show vwCl[1]? = some (RX1, TX1, 11) from rfl) (by decide) xin_X1 tyX1_ok nmX1 xw_310 rfl (rfl : tyX1 9 = .int), fun h => (by cases h)⟩)
)
theorem xmo_52 : xMok xmt xm_52 := ⟨xw_333, xw_40, ⟨by decide, by decide, by decide +kernel⟩, by decide +kernel, rfl, xo_52⟩
set_option maxRecDepth 100000 in
set_option maxHeartbeats 4000000 in
theorem xo_53 : ∀ q ∈ xk_53, xok xmt xm_53 q.1 q.2 := xqw_ok (M := xm_53) (G := gx_RX1) gxo_RX1 rfl (hd := []) (by decide +kernel) (xnl)
theorem xmo_53 : xMok xmt xm_53 := ⟨xw_334, xw_40, ⟨by decide, by decide, by decide +kernel⟩, by decide +kernel, rfl, xo_53⟩
set_option maxRecDepth 100000 in
set_option maxHeartbeats 4000000 in
theorem xo_54 : ∀ q ∈ xk_54, xok xmt xm_54 q.1 q.2 := xqw_ok (M := xm_54) (G := gx_RX1) gxo_RX1 rfl (hd := [(17, (0, 19, 1000000, 0, [])), (19, (27, 22, 263, 0, [])), (52, (0, 54, 1000000, 0, [])), (82, (70, 85, 0, 0, []))]) (by decide +kernel) (by
  refine xcns ?_ <| xcns ?_ <| xcns ?_ <| xcns ?_ <| xnl
  · exact (xr_ldc dX1_joinRest_17 xw_335)
  · exact (⟨rfl, _, rfl, ⟨64, dX1_joinRest_19, xw_336, xw_337⟩⟩)
  · exact (xr_ldc dX1_joinRest_52 xw_335)
  · exact (fun x y => xr_mmin dX1_joinRest_82 xv_4 xv_1 xv_2 xv_3 x y)
)
theorem xmo_54 : xMok xmt xm_54 := ⟨xw_339, xw_40, ⟨by decide, by decide, by decide +kernel⟩, by decide +kernel, rfl, xo_54⟩
set_option maxRecDepth 100000 in
set_option maxHeartbeats 4000000 in
theorem xo_55 : ∀ q ∈ xk_55, xok xmt xm_55 q.1 q.2 := xqw_ok (M := xm_55) (G := gx_RX1) gxo_RX1 rfl (hd := []) (by decide +kernel) (xnl)
theorem xmo_55 : xMok xmt xm_55 := ⟨xw_340, xw_40, ⟨by decide, by decide, by decide +kernel⟩, by decide +kernel, rfl, xo_55⟩
set_option maxRecDepth 100000 in
set_option maxHeartbeats 4000000 in
theorem xo_56 : ∀ q ∈ xk_56, xok xmt xm_56 q.1 q.2 := xqw_ok (M := xm_56) (G := gx_RX1) gxo_RX1 rfl (hd := []) (by decide +kernel) (xnl)
theorem xmo_56 : xMok xmt xm_56 := ⟨xw_341, xw_40, ⟨by decide, by decide, by decide +kernel⟩, by decide +kernel, rfl, xo_56⟩
set_option maxRecDepth 100000 in
set_option maxHeartbeats 4000000 in
theorem xo_57 : ∀ q ∈ xk_57, xok xmt xm_57 q.1 q.2 := xqw_ok (M := xm_57) (G := gx_RX1) gxo_RX1 rfl (hd := [(10, (17, 13, 1, 10, [(3, 0)])), (30, (0, 32, 1000000, 0, [])), (32, (27, 35, 263, 0, [])), (70, (28, 73, 58, 1, [])), (81, (28, 84, 59, 1, [])), (86, (28, 89, 54, 1, []))]) (by decide +kernel) (by
  refine xcns ?_ <| xcns ?_ <| xcns ?_ <| xcns ?_ <| xcns ?_ <| xcns ?_ <| xnl
  · exact (⟨.boolean, false, 0, rfl, xr_putf dX1_weigh_10 (show vwCl[1]? = some (RX1, TX1, 11) from rfl) (by decide) xin_X1 tyX1_ok nmX1 xw_311 rfl (rfl : tyX1 10 = .boolean), fun h => (by cases h)⟩)
  · exact (xr_ldc dX1_weigh_30 xw_335)
  · exact (⟨rfl, _, rfl, ⟨64, dX1_weigh_32, xw_336, xw_337⟩⟩)
  · exact (⟨rfl, _, rfl, ⟨73, dX1_weigh_70, xw_344, xw_342, xw_343⟩, _, rfl, rfl⟩)
  · exact (⟨rfl, _, rfl, ⟨77, dX1_weigh_81, xw_347, xw_345, xw_346⟩, _, rfl, rfl⟩)
  · exact (⟨rfl, _, rfl, ⟨81, dX1_weigh_86, xw_350, xw_348, xw_349⟩, _, rfl, rfl⟩)
)
theorem xmo_57 : xMok xmt xm_57 := ⟨xw_351, xw_40, ⟨by decide, by decide, by decide +kernel⟩, by decide +kernel, rfl, xo_57⟩
set_option maxRecDepth 100000 in
set_option maxHeartbeats 4000000 in
theorem xo_58 : ∀ q ∈ xk_58, xok xmt xm_58 q.1 q.2 := xqw_ok (M := xm_58) (G := gx_RX1) gxo_RX1 rfl (hd := [(2, (47, 5, 34, 0, [])), (42, (28, 45, 99, 5, [])), (45, (27, 48, 255, 0, [])), (68, (28, 71, 91, 5, []))]) (by decide +kernel) (by
  refine xcns ?_ <| xcns ?_ <| xcns ?_ <| xcns ?_ <| xnl
  · exact (⟨rfl, _, rfl, ⟨98, dX1_weighPart_2, _, List.mem_of_getElem? (i := 6) rfl, xw_77⟩⟩)
  · exact (⟨rfl, _, rfl, ⟨105, dX1_weighPart_42, xw_352, xw_79, xw_80⟩, _, rfl, rfl⟩)
  · exact (⟨rfl, _, rfl, ⟨110, dX1_weighPart_45, xw_353, xw_123⟩⟩)
  · exact (⟨rfl, _, rfl, ⟨115, dX1_weighPart_68, xw_354, xw_142, xw_143⟩, _, rfl, rfl⟩)
)
theorem xmo_58 : xMok xmt xm_58 := ⟨xw_355, xw_40, ⟨by decide, by decide, by decide +kernel⟩, by decide +kernel, rfl, xo_58⟩
set_option maxRecDepth 100000 in
set_option maxHeartbeats 4000000 in
theorem xo_59 : ∀ q ∈ xk_59, xok xmt xm_59 q.1 q.2 := xqw_ok (M := xm_59) (G := gx_RX1) gxo_RX1 rfl (hd := [(4, (0, 6, 1000000, 0, [])), (6, (27, 9, 263, 0, [])), (11, (28, 14, 56, 1, [])), (25, (28, 28, 52, 1, []))]) (by decide +kernel) (by
  refine xcns ?_ <| xcns ?_ <| xcns ?_ <| xcns ?_ <| xnl
  · exact (xr_ldc dX1_weighRows_4 xw_335)
  · exact (⟨rfl, _, rfl, ⟨64, dX1_weighRows_6, xw_336, xw_337⟩⟩)
  · exact (⟨rfl, _, rfl, ⟨88, dX1_weighRows_11, xw_321, xw_319, xw_320⟩, _, rfl, rfl⟩)
  · exact (⟨rfl, _, rfl, ⟨91, dX1_weighRows_25, xw_324, xw_322, xw_323⟩, _, rfl, rfl⟩)
)
theorem xmo_59 : xMok xmt xm_59 := ⟨xw_356, xw_40, ⟨by decide, by decide, by decide +kernel⟩, by decide +kernel, rfl, xo_59⟩
set_option maxRecDepth 100000 in
set_option maxHeartbeats 4000000 in
theorem xo_60 : ∀ q ∈ xk_60, xok xmt xm_60 q.1 q.2 := xqw_ok (M := xm_60) (G := gx_RX2) gxo_RX2 rfl (hd := [(1, (25, 4, 0, 0, [])), (7, (23, 9, 0, 0, [])), (9, (17, 12, 2, 0, [(4, 0)])), (15, (23, 17, 0, 0, [])), (17, (17, 20, 2, 1, [(4, 0)])), (22, (23, 24, 0, 0, [])), (24, (17, 27, 2, 2, [(4, 0)])), (29, (23, 31, 0, 0, [])), (31, (17, 34, 2, 3, [(4, 0)])), (36, (17, 39, 2, 4, [(0, 0)])), (42, (23, 44, 0, 0, [])), (44, (17, 47, 2, 5, [(4, 0)])), (49, (17, 52, 2, 6, [(0, 0)])), (54, (17, 57, 2, 7, [(0, 0)])), (59, (17, 62, 2, 8, [(0, 0)])), (64, (17, 67, 2, 9, [(3, 0)]))]) (by decide +kernel) (by
  refine xcns ?_ <| xcns ?_ <| xcns ?_ <| xcns ?_ <| xcns ?_ <| xcns ?_ <| xcns ?_ <| xcns ?_ <| xcns ?_ <| xcns ?_ <| xcns ?_ <| xcns ?_ <| xcns ?_ <| xcns ?_ <| xcns ?_ <| xcns ?_ <| xnl
  · exact (xr_oinit dX2_init_1 xw_357 xw_1 xw_oc)
  · exact (⟨by decide, xr_newa dX2_init_7 rfl xw_272⟩)
  · exact (⟨(.array .int), true, 0, rfl, xr_putF dX2_init_9 (show vwCl[2]? = some (RX2, TX2, 10) from rfl) (by decide) xin_X2 tyX2_ok nmX2 xw_358 rfl (rfl : tyX2 0 = (.array .int)) rfl, fun _ => rfl⟩)
  · exact (⟨by decide, xr_newa dX2_init_15 rfl xw_272⟩)
  · exact (⟨(.array .int), true, 0, rfl, xr_putF dX2_init_17 (show vwCl[2]? = some (RX2, TX2, 10) from rfl) (by decide) xin_X2 tyX2_ok nmX2 xw_359 rfl (rfl : tyX2 1 = (.array .int)) rfl, fun _ => rfl⟩)
  · exact (⟨by decide, xr_newa dX2_init_22 rfl xw_272⟩)
  · exact (⟨(.array .int), true, 0, rfl, xr_putF dX2_init_24 (show vwCl[2]? = some (RX2, TX2, 10) from rfl) (by decide) xin_X2 tyX2_ok nmX2 xw_360 rfl (rfl : tyX2 2 = (.array .int)) rfl, fun _ => rfl⟩)
  · exact (⟨by decide, xr_newa dX2_init_29 rfl xw_272⟩)
  · exact (⟨(.array .int), true, 0, rfl, xr_putF dX2_init_31 (show vwCl[2]? = some (RX2, TX2, 10) from rfl) (by decide) xin_X2 tyX2_ok nmX2 xw_361 rfl (rfl : tyX2 3 = (.array .int)) rfl, fun _ => rfl⟩)
  · exact (⟨.int, false, 0, rfl, xr_putf dX2_init_36 (show vwCl[2]? = some (RX2, TX2, 10) from rfl) (by decide) xin_X2 tyX2_ok nmX2 xw_362 rfl (rfl : tyX2 4 = .int), fun h => (by cases h)⟩)
  · exact (⟨by decide, xr_newa dX2_init_42 rfl xw_272⟩)
  · exact (⟨(.array .int), true, 0, rfl, xr_putF dX2_init_44 (show vwCl[2]? = some (RX2, TX2, 10) from rfl) (by decide) xin_X2 tyX2_ok nmX2 xw_363 rfl (rfl : tyX2 5 = (.array .int)) rfl, fun _ => rfl⟩)
  · exact (⟨.int, false, 0, rfl, xr_putf dX2_init_49 (show vwCl[2]? = some (RX2, TX2, 10) from rfl) (by decide) xin_X2 tyX2_ok nmX2 xw_364 rfl (rfl : tyX2 6 = .int), fun h => (by cases h)⟩)
  · exact (⟨.int, false, 0, rfl, xr_putf dX2_init_54 (show vwCl[2]? = some (RX2, TX2, 10) from rfl) (by decide) xin_X2 tyX2_ok nmX2 xw_365 rfl (rfl : tyX2 7 = .int), fun h => (by cases h)⟩)
  · exact (⟨.int, false, 0, rfl, xr_putf dX2_init_59 (show vwCl[2]? = some (RX2, TX2, 10) from rfl) (by decide) xin_X2 tyX2_ok nmX2 xw_366 rfl (rfl : tyX2 8 = .int), fun h => (by cases h)⟩)
  · exact (⟨.boolean, false, 0, rfl, xr_putf dX2_init_64 (show vwCl[2]? = some (RX2, TX2, 10) from rfl) (by decide) xin_X2 tyX2_ok nmX2 xw_367 rfl (rfl : tyX2 9 = .boolean), fun h => (by cases h)⟩)
)
theorem xmo_60 : xMok xmt xm_60 := ⟨xw_368, xw_369, ⟨by decide, by decide, by decide +kernel⟩, by decide +kernel, rfl, xo_60⟩
end
section
theorem xr_tableL {cc : ByteArray} {own : String} {pc : Nat} {dflt hi : Int} {lo : Nat} {lo' : Int} {offs : Array Int} {len df : Nat} {cs : List (Nat × Nat)} (d : decode cc pc = .ok (.tableswitch dflt lo' hi offs, len)) (h0 : lo' = (lo : Int)) (h1 : hi + 1 = (lo : Int) + cs.length ∧ offs.size = cs.length ∧ lo + cs.length < 1000) (h2 : (pc : Int) + dflt = (df : Int)) (h3 : ∀ i, i < cs.length → ((cs.getD i (0, 0)).1 = lo + i ∧ (pc : Int) + offs.getD i 0 = ((cs.getD i (0, 0)).2 : Int))) : xSw cc own pc df cs := by
  subst h0
  intro p l e R s m args below meth c H locs cells slots Q ls rest C x h
  have key : ∀ i, i < cs.length → cs[i]? = some (lo + i, (cs.getD i (0, 0)).2) := fun i hi => by
    have e1 := (h3 i hi).1
    rw [List.getD_eq_getElem?_getD, List.getElem?_eq_getElem hi] at e1 ⊢
    simp only [Option.getD_some] at e1 ⊢
    exact congrArg some (Prod.ext e1 rfl)
  rcases h with ⟨q, hq, rfl, hW⟩ | ⟨hn, hW⟩
  · obtain ⟨i, hi⟩ := List.getElem?_of_mem hq
    have hl : i < cs.length := (List.getElem?_eq_some_iff.mp hi).1
    have hk := key i hl
    rw [hi] at hk
    cases hk
    have ht := (h3 i hl).2
    have e2 : (nI (lo + i)).toInt = ((lo + i : Nat) : Int) := nI_toInt (by omega)
    refine lv_tableIn C.1 C.2.1 d (off := offs.getD i 0) (by rw [e2]; omega) (by rw [e2]; omega) ?_ ht hW
    rw [e2, show (((lo + i : Nat) : Int) - (lo : Int)).toNat = i by omega, Array.getD_eq_getD_getElem?, Array.getElem?_eq_getElem (by omega)]
    rfl
  · refine lv_tableOut C.1 C.2.1 d ?_ h2 hW
    by_cases a : x.toInt < (lo : Int)
    · exact Or.inl a
    · refine Or.inr ?_
      by_cases b : hi < x.toInt
      · exact b
      · exfalso
        have hj : (x.toInt - (lo : Int)).toNat < cs.length := by omega
        refine hn _ (List.mem_of_getElem? (key _ hj)) ?_
        apply Int32.toInt_inj.mp
        show x.toInt = (nI (lo + (x.toInt - (lo : Int)).toNat)).toInt
        rw [nI_toInt (by omega)]
        omega
end
section
set_option maxRecDepth 100000 in
set_option maxHeartbeats 4000000 in
theorem xo_61 : ∀ q ∈ xk_61, xok xmt xm_61 q.1 q.2 := xqw_ok (M := xm_61) (G := gx_RX2) gxo_RX2 rfl (hd := [(2, (17, 5, 2, 4, [(0, 0)])), (7, (17, 10, 2, 8, [(0, 0)])), (15, (27, 18, 263, 0, [])), (23, (27, 26, 263, 0, []))]) (by decide +kernel) (by
  refine xcns ?_ <| xcns ?_ <| xcns ?_ <| xcns ?_ <| xnl
  · exact (⟨.int, false, 0, rfl, xr_putf dX2_clear_2 (show vwCl[2]? = some (RX2, TX2, 10) from rfl) (by decide) xin_X2 tyX2_ok nmX2 xw_362 rfl (rfl : tyX2 4 = .int), fun h => (by cases h)⟩)
  · exact (⟨.int, false, 0, rfl, xr_putf dX2_clear_7 (show vwCl[2]? = some (RX2, TX2, 10) from rfl) (by decide) xin_X2 tyX2_ok nmX2 xw_366 rfl (rfl : tyX2 8 = .int), fun h => (by cases h)⟩)
  · exact (⟨rfl, _, rfl, ⟨44, dX2_clear_15, xw_370, xw_337⟩⟩)
  · exact (⟨rfl, _, rfl, ⟨44, dX2_clear_23, xw_370, xw_337⟩⟩)
)
theorem xmo_61 : xMok xmt xm_61 := ⟨xw_371, xw_369, ⟨by decide, by decide, by decide +kernel⟩, by decide +kernel, rfl, xo_61⟩
set_option maxRecDepth 100000 in
set_option maxHeartbeats 4000000 in
theorem xo_62 : ∀ q ∈ xk_62, xok xmt xm_62 q.1 q.2 := xqw_ok (M := xm_62) (G := gx_RX2) gxo_RX2 rfl (hd := [(29, (17, 32, 2, 6, [(0, 0)])), (44, (17, 47, 2, 7, [(0, 0)]))]) (by decide +kernel) (by
  refine xcns ?_ <| xcns ?_ <| xnl
  · exact (⟨.int, false, 0, rfl, xr_putf dX2_hold_29 (show vwCl[2]? = some (RX2, TX2, 10) from rfl) (by decide) xin_X2 tyX2_ok nmX2 xw_364 rfl (rfl : tyX2 6 = .int), fun h => (by cases h)⟩)
  · exact (⟨.int, false, 0, rfl, xr_putf dX2_hold_44 (show vwCl[2]? = some (RX2, TX2, 10) from rfl) (by decide) xin_X2 tyX2_ok nmX2 xw_365 rfl (rfl : tyX2 7 = .int), fun h => (by cases h)⟩)
)
theorem xmo_62 : xMok xmt xm_62 := ⟨xw_372, xw_369, ⟨by decide, by decide, by decide +kernel⟩, by decide +kernel, rfl, xo_62⟩
set_option maxRecDepth 100000 in
set_option maxHeartbeats 4000000 in
theorem xo_63 : ∀ q ∈ xk_63, xok xmt xm_63 q.1 q.2 := xqw_ok (M := xm_63) (G := gx_RX2) gxo_RX2 rfl (hd := [(11, (28, 14, 123, 9, [])), (22, (17, 25, 2, 8, [(0, 0)]))]) (by decide +kernel) (by
  refine xcns ?_ <| xcns ?_ <| xnl
  · exact (⟨rfl, _, rfl, ⟨79, dX2_isRoom_11, xw_375, xw_373, xw_374⟩, _, rfl, rfl⟩)
  · exact (⟨.int, false, 0, rfl, xr_putf dX2_isRoom_22 (show vwCl[2]? = some (RX2, TX2, 10) from rfl) (by decide) xin_X2 tyX2_ok nmX2 xw_366 rfl (rfl : tyX2 8 = .int), fun h => (by cases h)⟩)
)
theorem xmo_63 : xMok xmt xm_63 := ⟨xw_376, xw_369, ⟨by decide, by decide, by decide +kernel⟩, by decide +kernel, rfl, xo_63⟩
set_option maxRecDepth 100000 in
set_option maxHeartbeats 4000000 in
theorem xo_64 : ∀ q ∈ xk_64, xok xmt xm_64 q.1 q.2 := xqw_ok (M := xm_64) (G := gx_RX2) gxo_RX2 rfl (hd := []) (by decide +kernel) (xnl)
theorem xmo_64 : xMok xmt xm_64 := ⟨xw_377, xw_369, ⟨by decide, by decide, by decide +kernel⟩, by decide +kernel, rfl, xo_64⟩
set_option maxRecDepth 100000 in
set_option maxHeartbeats 4000000 in
theorem xo_65 : ∀ q ∈ xk_65, xok xmt xm_65 q.1 q.2 := xqw_ok (M := xm_65) (G := gx_RX2) gxo_RX2 rfl (hd := [(1, (15, 0, 107, 0, [(13, 102), (14, 102), (15, 104), (16, 104), (17, 107), (18, 107), (19, 107), (20, 107), (21, 107), (22, 107), (23, 107), (24, 107), (25, 107), (26, 107), (27, 107), (28, 107), (29, 107), (30, 96), (31, 98), (32, 100)]))]) (by decide +kernel) (by
  refine xcns ?_ <| xnl
  · exact (xr_tableL (lo := 13) dX2_levelOf_1 (by decide) (by decide) (by decide) (by decide))
)
theorem xmo_65 : xMok xmt xm_65 := ⟨xw_378, xw_369, ⟨by decide, by decide, by decide +kernel⟩, by decide +kernel, rfl, xo_65⟩
set_option maxRecDepth 100000 in
set_option maxHeartbeats 4000000 in
theorem xo_66 : ∀ q ∈ xk_66, xok xmt xm_66 q.1 q.2 := xqw_ok (M := xm_66) (G := gx_RX2) gxo_RX2 rfl (hd := [(36, (17, 39, 2, 4, [(0, 0)]))]) (by decide +kernel) (by
  refine xcns ?_ <| xnl
  · exact (⟨.int, false, 0, rfl, xr_putf dX2_put_36 (show vwCl[2]? = some (RX2, TX2, 10) from rfl) (by decide) xin_X2 tyX2_ok nmX2 xw_362 rfl (rfl : tyX2 4 = .int), fun h => (by cases h)⟩)
)
theorem xmo_66 : xMok xmt xm_66 := ⟨xw_379, xw_369, ⟨by decide, by decide, by decide +kernel⟩, by decide +kernel, rfl, xo_66⟩
set_option maxRecDepth 100000 in
set_option maxHeartbeats 4000000 in
theorem xo_67 : ∀ q ∈ xk_67, xok xmt xm_67 q.1 q.2 := xqw_ok (M := xm_67) (G := gx_RX2) gxo_RX2 rfl (hd := [(20, (28, 23, 69, 2, [])), (30, (17, 33, 2, 6, [(0, 0)])), (40, (17, 43, 2, 7, [(0, 0)])), (46, (27, 49, 65, 0, [])), (68, (28, 71, 123, 9, [])), (91, (28, 94, 69, 2, [])), (100, (28, 103, 72, 2, [])), (109, (28, 112, 123, 9, [])), (115, (17, 118, 2, 9, [(3, 0)])), (120, (28, 123, 63, 2, [])), (128, (28, 131, 62, 2, []))]) (by decide +kernel) (by
  refine xcns ?_ <| xcns ?_ <| xcns ?_ <| xcns ?_ <| xcns ?_ <| xcns ?_ <| xcns ?_ <| xcns ?_ <| xcns ?_ <| xcns ?_ <| xcns ?_ <| xnl
  · exact (⟨rfl, _, rfl, ⟨68, dX2_readSign_20, xw_383, xw_381, xw_382⟩, _, rfl, rfl⟩)
  · exact (⟨.int, false, 0, rfl, xr_putf dX2_readSign_30 (show vwCl[2]? = some (RX2, TX2, 10) from rfl) (by decide) xin_X2 tyX2_ok nmX2 xw_364 rfl (rfl : tyX2 6 = .int), fun h => (by cases h)⟩)
  · exact (⟨.int, false, 0, rfl, xr_putf dX2_readSign_40 (show vwCl[2]? = some (RX2, TX2, 10) from rfl) (by decide) xin_X2 tyX2_ok nmX2 xw_365 rfl (rfl : tyX2 7 = .int), fun h => (by cases h)⟩)
  · exact (⟨rfl, _, rfl, ⟨96, dX2_readSign_46, xw_384, xw_385⟩⟩)
  · exact (⟨rfl, _, rfl, ⟨79, dX2_readSign_68, xw_375, xw_373, xw_374⟩, _, rfl, rfl⟩)
  · exact (⟨rfl, _, rfl, ⟨68, dX2_readSign_91, xw_383, xw_381, xw_382⟩, _, rfl, rfl⟩)
  · exact (⟨rfl, _, rfl, ⟨82, dX2_readSign_100, xw_388, xw_386, xw_387⟩, _, rfl, rfl⟩)
  · exact (⟨rfl, _, rfl, ⟨79, dX2_readSign_109, xw_375, xw_373, xw_374⟩, _, rfl, rfl⟩)
  · exact (⟨.boolean, false, 0, rfl, xr_putf dX2_readSign_115 (show vwCl[2]? = some (RX2, TX2, 10) from rfl) (by decide) xin_X2 tyX2_ok nmX2 xw_367 rfl (rfl : tyX2 9 = .boolean), fun h => (by cases h)⟩)
  · exact (⟨rfl, _, rfl, ⟨86, dX2_readSign_120, xw_391, xw_389, xw_390⟩, _, rfl, rfl⟩)
  · exact (⟨rfl, _, rfl, ⟨75, dX2_readSign_128, xw_394, xw_392, xw_393⟩, _, rfl, rfl⟩)
)
theorem xmo_67 : xMok xmt xm_67 := ⟨xw_395, xw_369, ⟨by decide, by decide, by decide +kernel⟩, by decide +kernel, rfl, xo_67⟩
set_option maxRecDepth 100000 in
set_option maxHeartbeats 4000000 in
theorem xo_68 : ∀ q ∈ xk_68, xok xmt xm_68 q.1 q.2 := xqw_ok (M := xm_68) (G := gx_RX2) gxo_RX2 rfl (hd := [(21, (28, 24, 62, 2, [])), (29, (28, 32, 123, 9, [])), (40, (28, 43, 72, 2, [])), (49, (28, 52, 63, 2, [])), (57, (28, 60, 62, 2, [])), (88, (28, 91, 123, 9, [])), (96, (0, 99, 9999, 0, [])), (109, (28, 112, 123, 9, [])), (115, (17, 118, 2, 9, [(3, 0)])), (120, (28, 123, 63, 2, [])), (132, (28, 135, 66, 2, []))]) (by decide +kernel) (by
  refine xcns ?_ <| xcns ?_ <| xcns ?_ <| xcns ?_ <| xcns ?_ <| xcns ?_ <| xcns ?_ <| xcns ?_ <| xcns ?_ <| xcns ?_ <| xcns ?_ <| xnl
  · exact (⟨rfl, _, rfl, ⟨75, dX2_readValue_21, xw_394, xw_392, xw_393⟩, _, rfl, rfl⟩)
  · exact (⟨rfl, _, rfl, ⟨79, dX2_readValue_29, xw_375, xw_373, xw_374⟩, _, rfl, rfl⟩)
  · exact (⟨rfl, _, rfl, ⟨82, dX2_readValue_40, xw_388, xw_386, xw_387⟩, _, rfl, rfl⟩)
  · exact (⟨rfl, _, rfl, ⟨86, dX2_readValue_49, xw_391, xw_389, xw_390⟩, _, rfl, rfl⟩)
  · exact (⟨rfl, _, rfl, ⟨75, dX2_readValue_57, xw_394, xw_392, xw_393⟩, _, rfl, rfl⟩)
  · exact (⟨rfl, _, rfl, ⟨79, dX2_readValue_88, xw_375, xw_373, xw_374⟩, _, rfl, rfl⟩)
  · exact (xr_sipush dX2_readValue_96 (by decide +kernel))
  · exact (⟨rfl, _, rfl, ⟨79, dX2_readValue_109, xw_375, xw_373, xw_374⟩, _, rfl, rfl⟩)
  · exact (⟨.boolean, false, 0, rfl, xr_putf dX2_readValue_115 (show vwCl[2]? = some (RX2, TX2, 10) from rfl) (by decide) xin_X2 tyX2_ok nmX2 xw_367 rfl (rfl : tyX2 9 = .boolean), fun h => (by cases h)⟩)
  · exact (⟨rfl, _, rfl, ⟨86, dX2_readValue_120, xw_391, xw_389, xw_390⟩, _, rfl, rfl⟩)
  · exact (⟨rfl, _, rfl, ⟨92, dX2_readValue_132, xw_399, xw_397, xw_398⟩, _, rfl, rfl⟩)
)
theorem xmo_68 : xMok xmt xm_68 := ⟨xw_400, xw_369, ⟨by decide, by decide, by decide +kernel⟩, by decide +kernel, rfl, xo_68⟩
set_option maxRecDepth 100000 in
set_option maxHeartbeats 4000000 in
theorem xo_69 : ∀ q ∈ xk_69, xok xmt xm_69 q.1 q.2 := xqw_ok (M := xm_69) (G := gx_RX2) gxo_RX2 rfl (hd := [(17, (27, 20, 65, 0, [])), (32, (28, 35, 66, 2, [])), (38, (17, 41, 2, 6, [(0, 0)]))]) (by decide +kernel) (by
  refine xcns ?_ <| xcns ?_ <| xcns ?_ <| xnl
  · exact (⟨rfl, _, rfl, ⟨96, dX2_settle_17, xw_384, xw_385⟩⟩)
  · exact (⟨rfl, _, rfl, ⟨92, dX2_settle_32, xw_399, xw_397, xw_398⟩, _, rfl, rfl⟩)
  · exact (⟨.int, false, 0, rfl, xr_putf dX2_settle_38 (show vwCl[2]? = some (RX2, TX2, 10) from rfl) (by decide) xin_X2 tyX2_ok nmX2 xw_364 rfl (rfl : tyX2 6 = .int), fun h => (by cases h)⟩)
)
theorem xmo_69 : xMok xmt xm_69 := ⟨xw_401, xw_369, ⟨by decide, by decide, by decide +kernel⟩, by decide +kernel, rfl, xo_69⟩
set_option maxRecDepth 100000 in
set_option maxHeartbeats 4000000 in
theorem xo_70 : ∀ q ∈ xk_70, xok xmt xm_70 q.1 q.2 := xqw_ok (M := xm_70) (G := gx_RX2) gxo_RX2 rfl (hd := [(15, (26, 18, 0, 0, [])), (33, (26, 36, 0, 0, [])), (51, (26, 54, 0, 0, [])), (69, (26, 72, 0, 0, [])), (77, (17, 80, 2, 4, [(0, 0)]))]) (by decide +kernel) (by
  refine xcns ?_ <| xcns ?_ <| xcns ?_ <| xcns ?_ <| xcns ?_ <| xnl
  · exact (xr_copy dX2_take_15 xw_402 xw_298 xw_299 xw_300)
  · exact (xr_copy dX2_take_33 xw_402 xw_298 xw_299 xw_300)
  · exact (xr_copy dX2_take_51 xw_402 xw_298 xw_299 xw_300)
  · exact (xr_copy dX2_take_69 xw_402 xw_298 xw_299 xw_300)
  · exact (⟨.int, false, 0, rfl, xr_putf dX2_take_77 (show vwCl[2]? = some (RX2, TX2, 10) from rfl) (by decide) xin_X2 tyX2_ok nmX2 xw_362 rfl (rfl : tyX2 4 = .int), fun h => (by cases h)⟩)
)
theorem xmo_70 : xMok xmt xm_70 := ⟨xw_403, xw_369, ⟨by decide, by decide, by decide +kernel⟩, by decide +kernel, rfl, xo_70⟩
set_option maxRecDepth 100000 in
set_option maxHeartbeats 4000000 in
theorem xo_71 : ∀ q ∈ xk_71, xok xmt xm_71 q.1 q.2 := xqw_ok (M := xm_71) (G := gx_RX2) gxo_RX2 rfl (hd := [(12, (17, 15, 2, 6, [(0, 0)])), (17, (17, 20, 2, 7, [(0, 0)])), (22, (17, 25, 2, 9, [(3, 0)])), (32, (0, 35, 800, 0, [])), (51, (28, 54, 68, 2, [])), (59, (28, 62, 67, 2, [])), (68, (28, 71, 126, 9, [])), (79, (28, 82, 69, 2, []))]) (by decide +kernel) (by
  refine xcns ?_ <| xcns ?_ <| xcns ?_ <| xcns ?_ <| xcns ?_ <| xcns ?_ <| xcns ?_ <| xcns ?_ <| xnl
  · exact (⟨.int, false, 0, rfl, xr_putf dX2_tell_12 (show vwCl[2]? = some (RX2, TX2, 10) from rfl) (by decide) xin_X2 tyX2_ok nmX2 xw_364 rfl (rfl : tyX2 6 = .int), fun h => (by cases h)⟩)
  · exact (⟨.int, false, 0, rfl, xr_putf dX2_tell_17 (show vwCl[2]? = some (RX2, TX2, 10) from rfl) (by decide) xin_X2 tyX2_ok nmX2 xw_365 rfl (rfl : tyX2 7 = .int), fun h => (by cases h)⟩)
  · exact (⟨.boolean, false, 0, rfl, xr_putf dX2_tell_22 (show vwCl[2]? = some (RX2, TX2, 10) from rfl) (by decide) xin_X2 tyX2_ok nmX2 xw_367 rfl (rfl : tyX2 9 = .boolean), fun h => (by cases h)⟩)
  · exact (xr_sipush dX2_tell_32 (by decide +kernel))
  · exact (⟨rfl, _, rfl, ⟨56, dX2_tell_51, xw_406, xw_404, xw_405⟩, _, rfl, rfl⟩)
  · exact (⟨rfl, _, rfl, ⟨60, dX2_tell_59, xw_409, xw_407, xw_408⟩, _, rfl, rfl⟩)
  · exact (⟨rfl, _, rfl, ⟨63, dX2_tell_68, xw_412, xw_410, xw_411⟩, _, rfl, rfl⟩)
  · exact (⟨rfl, _, rfl, ⟨68, dX2_tell_79, xw_383, xw_381, xw_382⟩, _, rfl, rfl⟩)
)
theorem xmo_71 : xMok xmt xm_71 := ⟨xw_413, xw_369, ⟨by decide, by decide, by decide +kernel⟩, by decide +kernel, rfl, xo_71⟩
set_option maxRecDepth 100000 in
set_option maxHeartbeats 4000000 in
theorem xo_72 : ∀ q ∈ xk_72, xok xmt xm_72 q.1 q.2 := xqw_ok (M := xm_72) (G := gx_RX2) gxo_RX2 rfl (hd := [(22, (27, 25, 65, 0, []))]) (by decide +kernel) (by
  refine xcns ?_ <| xnl
  · exact (⟨rfl, _, rfl, ⟨96, dX2_topLevel_22, xw_384, xw_385⟩⟩)
)
theorem xmo_72 : xMok xmt xm_72 := ⟨xw_414, xw_369, ⟨by decide, by decide, by decide +kernel⟩, by decide +kernel, rfl, xo_72⟩
set_option maxRecDepth 100000 in
set_option maxHeartbeats 4000000 in
theorem xo_73 : ∀ q ∈ xk_73, xok xmt xm_73 q.1 q.2 := xqw_ok (M := xm_73) (G := gx_RX3) gxo_RX3 rfl (hd := [(1, (25, 4, 0, 0, [])), (7, (23, 9, 0, 0, [])), (9, (17, 12, 3, 0, [(4, 0)])), (14, (17, 17, 3, 1, [(0, 0)]))]) (by decide +kernel) (by
  refine xcns ?_ <| xcns ?_ <| xcns ?_ <| xcns ?_ <| xnl
  · exact (xr_oinit dX3_init_1 xw_415 xw_1 xw_oc)
  · exact (⟨by decide, xr_newa dX3_init_7 rfl xw_272⟩)
  · exact (⟨(.array .int), true, 0, rfl, xr_putF dX3_init_9 (show vwCl[3]? = some (RX3, TX3, 2) from rfl) (by decide) xin_X3 tyX3_ok nmX3 xw_416 rfl (rfl : tyX3 0 = (.array .int)) rfl, fun _ => rfl⟩)
  · exact (⟨.int, false, 0, rfl, xr_putf dX3_init_14 (show vwCl[3]? = some (RX3, TX3, 2) from rfl) (by decide) xin_X3 tyX3_ok nmX3 xw_417 rfl (rfl : tyX3 1 = .int), fun h => (by cases h)⟩)
)
theorem xmo_73 : xMok xmt xm_73 := ⟨xw_418, xw_29, ⟨by decide, by decide, by decide +kernel⟩, by decide +kernel, rfl, xo_73⟩
set_option maxRecDepth 100000 in
set_option maxHeartbeats 4000000 in
theorem xo_74 : ∀ q ∈ xk_74, xok xmt xm_74 q.1 q.2 := xqw_ok (M := xm_74) (G := gx_RX3) gxo_RX3 rfl (hd := [(28, (17, 31, 3, 1, [(0, 0)]))]) (by decide +kernel) (by
  refine xcns ?_ <| xnl
  · exact (⟨.int, false, 0, rfl, xr_putf dX3_add_28 (show vwCl[3]? = some (RX3, TX3, 2) from rfl) (by decide) xin_X3 tyX3_ok nmX3 xw_417 rfl (rfl : tyX3 1 = .int), fun h => (by cases h)⟩)
)
theorem xmo_74 : xMok xmt xm_74 := ⟨xw_419, xw_29, ⟨by decide, by decide, by decide +kernel⟩, by decide +kernel, rfl, xo_74⟩
set_option maxRecDepth 100000 in
set_option maxHeartbeats 4000000 in
theorem xo_75 : ∀ q ∈ xk_75, xok xmt xm_75 q.1 q.2 := xqw_ok (M := xm_75) (G := gx_RX3) gxo_RX3 rfl (hd := [(9, (70, 12, 0, 0, []))]) (by decide +kernel) (by
  refine xcns ?_ <| xnl
  · exact (fun x y => xr_mmin dX3_pitches_9 xv_5 xv_1 xv_2 xv_3 x y)
)
theorem xmo_75 : xMok xmt xm_75 := ⟨xw_421, xw_29, ⟨by decide, by decide, by decide +kernel⟩, by decide +kernel, rfl, xo_75⟩
set_option maxRecDepth 100000 in
set_option maxHeartbeats 4000000 in
theorem xo_76 : ∀ q ∈ xk_76, xok xmt xm_76 q.1 q.2 := xqw_ok (M := xm_76) (G := gx_RX4) gxo_RX4 rfl (hd := [(1, (25, 4, 0, 0, [])), (5, (22, 8, 6, 2, [(2, 0), (0, 0)])), (10, (29, 13, 100, 0, [])), (13, (17, 16, 4, 0, [(4, 0)])), (17, (22, 20, 6, 2, [(2, 0), (0, 0)])), (23, (29, 26, 100, 0, [])), (26, (17, 29, 4, 1, [(4, 0)])), (30, (22, 33, 6, 2, [(2, 0), (0, 0)])), (35, (29, 38, 100, 0, [])), (38, (17, 41, 4, 2, [(4, 0)])), (42, (22, 45, 6, 2, [(2, 0), (0, 0)])), (47, (29, 50, 100, 0, [])), (50, (17, 53, 4, 3, [(4, 0)])), (55, (23, 57, 0, 0, [])), (57, (17, 60, 4, 4, [(4, 0)])), (62, (23, 64, 0, 0, [])), (64, (17, 67, 4, 5, [(4, 0)])), (70, (23, 72, 0, 0, [])), (72, (17, 75, 4, 6, [(4, 0)])), (78, (23, 80, 0, 0, [])), (80, (17, 83, 4, 7, [(4, 0)])), (86, (23, 88, 0, 0, [])), (88, (17, 91, 4, 8, [(4, 0)])), (94, (23, 96, 0, 0, [])), (96, (17, 99, 4, 9, [(4, 0)])), (102, (23, 104, 0, 0, [])), (104, (17, 107, 4, 10, [(4, 0)])), (109, (23, 111, 0, 0, [])), (111, (17, 114, 4, 11, [(4, 0)])), (117, (23, 119, 0, 0, [])), (119, (17, 122, 4, 12, [(4, 0)])), (125, (23, 127, 0, 0, [])), (127, (17, 130, 4, 13, [(4, 0)])), (132, (23, 134, 0, 0, [])), (134, (17, 137, 4, 14, [(4, 0)])), (138, (22, 141, 2, 10, [(2, 0), (2, 0), (2, 0), (2, 0), (0, 0), (2, 0), (0, 0), (0, 0), (0, 0), (0, 0)])), (142, (29, 145, 60, 0, [])), (145, (17, 148, 4, 15, [(4, 0)])), (150, (17, 153, 4, 16, [(0, 0)])), (155, (17, 158, 4, 17, [(0, 0)])), (160, (17, 163, 4, 18, [(0, 0)]))]) (by decide +kernel) (by
  refine xcns ?_ <| xcns ?_ <| xcns ?_ <| xcns ?_ <| xcns ?_ <| xcns ?_ <| xcns ?_ <| xcns ?_ <| xcns ?_ <| xcns ?_ <| xcns ?_ <| xcns ?_ <| xcns ?_ <| xcns ?_ <| xcns ?_ <| xcns ?_ <| xcns ?_ <| xcns ?_ <| xcns ?_ <| xcns ?_ <| xcns ?_ <| xcns ?_ <| xcns ?_ <| xcns ?_ <| xcns ?_ <| xcns ?_ <| xcns ?_ <| xcns ?_ <| xcns ?_ <| xcns ?_ <| xcns ?_ <| xcns ?_ <| xcns ?_ <| xcns ?_ <| xcns ?_ <| xcns ?_ <| xcns ?_ <| xcns ?_ <| xcns ?_ <| xcns ?_ <| xcns ?_ <| xnl
  · exact (xr_oinit dX4_init_1 xw_422 xw_1 xw_oc)
  · exact (xr_new dX4_init_5 (show vwCl[6]? = some (RX6, TX6, 2) from rfl) xin_X6 tyX6_ok xw_423 xw_424 xw_425 _ (by decide +kernel))
  · exact (⟨rfl, _, rfl, ⟨11, dX4_init_10, rfl, rfl, xw_426, Or.inl xw_427⟩⟩)
  · exact (⟨(.object "RansomHymn$Roll"), true, 0, rfl, xr_putF dX4_init_13 (show vwCl[4]? = some (RX4, TX4, 19) from rfl) (by decide) xin_X4 tyX4_ok nmX4 xw_428 rfl (rfl : tyX4 0 = (.object "RansomHymn$Roll")) rfl, fun _ => rfl⟩)
  · exact (xr_new dX4_init_17 (show vwCl[6]? = some (RX6, TX6, 2) from rfl) xin_X6 tyX6_ok xw_423 xw_424 xw_425 _ (by decide +kernel))
  · exact (⟨rfl, _, rfl, ⟨11, dX4_init_23, rfl, rfl, xw_426, Or.inl xw_427⟩⟩)
  · exact (⟨(.object "RansomHymn$Roll"), true, 0, rfl, xr_putF dX4_init_26 (show vwCl[4]? = some (RX4, TX4, 19) from rfl) (by decide) xin_X4 tyX4_ok nmX4 xw_429 rfl (rfl : tyX4 1 = (.object "RansomHymn$Roll")) rfl, fun _ => rfl⟩)
  · exact (xr_new dX4_init_30 (show vwCl[6]? = some (RX6, TX6, 2) from rfl) xin_X6 tyX6_ok xw_423 xw_424 xw_425 _ (by decide +kernel))
  · exact (⟨rfl, _, rfl, ⟨11, dX4_init_35, rfl, rfl, xw_426, Or.inl xw_427⟩⟩)
  · exact (⟨(.object "RansomHymn$Roll"), true, 0, rfl, xr_putF dX4_init_38 (show vwCl[4]? = some (RX4, TX4, 19) from rfl) (by decide) xin_X4 tyX4_ok nmX4 xw_430 rfl (rfl : tyX4 2 = (.object "RansomHymn$Roll")) rfl, fun _ => rfl⟩)
  · exact (xr_new dX4_init_42 (show vwCl[6]? = some (RX6, TX6, 2) from rfl) xin_X6 tyX6_ok xw_423 xw_424 xw_425 _ (by decide +kernel))
  · exact (⟨rfl, _, rfl, ⟨11, dX4_init_47, rfl, rfl, xw_426, Or.inl xw_427⟩⟩)
  · exact (⟨(.object "RansomHymn$Roll"), true, 0, rfl, xr_putF dX4_init_50 (show vwCl[4]? = some (RX4, TX4, 19) from rfl) (by decide) xin_X4 tyX4_ok nmX4 xw_431 rfl (rfl : tyX4 3 = (.object "RansomHymn$Roll")) rfl, fun _ => rfl⟩)
  · exact (⟨by decide, xr_newa dX4_init_55 rfl xw_272⟩)
  · exact (⟨(.array .int), true, 0, rfl, xr_putF dX4_init_57 (show vwCl[4]? = some (RX4, TX4, 19) from rfl) (by decide) xin_X4 tyX4_ok nmX4 xw_432 rfl (rfl : tyX4 4 = (.array .int)) rfl, fun _ => rfl⟩)
  · exact (⟨by decide, xr_newa dX4_init_62 rfl xw_272⟩)
  · exact (⟨(.array .int), true, 0, rfl, xr_putF dX4_init_64 (show vwCl[4]? = some (RX4, TX4, 19) from rfl) (by decide) xin_X4 tyX4_ok nmX4 xw_433 rfl (rfl : tyX4 5 = (.array .int)) rfl, fun _ => rfl⟩)
  · exact (⟨by decide, xr_newa dX4_init_70 rfl xw_272⟩)
  · exact (⟨(.array .int), true, 0, rfl, xr_putF dX4_init_72 (show vwCl[4]? = some (RX4, TX4, 19) from rfl) (by decide) xin_X4 tyX4_ok nmX4 xw_434 rfl (rfl : tyX4 6 = (.array .int)) rfl, fun _ => rfl⟩)
  · exact (⟨by decide, xr_newa dX4_init_78 rfl xw_272⟩)
  · exact (⟨(.array .int), true, 0, rfl, xr_putF dX4_init_80 (show vwCl[4]? = some (RX4, TX4, 19) from rfl) (by decide) xin_X4 tyX4_ok nmX4 xw_435 rfl (rfl : tyX4 7 = (.array .int)) rfl, fun _ => rfl⟩)
  · exact (⟨by decide, xr_newa dX4_init_86 rfl xw_272⟩)
  · exact (⟨(.array .int), true, 0, rfl, xr_putF dX4_init_88 (show vwCl[4]? = some (RX4, TX4, 19) from rfl) (by decide) xin_X4 tyX4_ok nmX4 xw_436 rfl (rfl : tyX4 8 = (.array .int)) rfl, fun _ => rfl⟩)
  · exact (⟨by decide, xr_newa dX4_init_94 rfl xw_272⟩)
  · exact (⟨(.array .int), true, 0, rfl, xr_putF dX4_init_96 (show vwCl[4]? = some (RX4, TX4, 19) from rfl) (by decide) xin_X4 tyX4_ok nmX4 xw_437 rfl (rfl : tyX4 9 = (.array .int)) rfl, fun _ => rfl⟩)
  · exact (⟨by decide, xr_newa dX4_init_102 rfl xw_272⟩)
  · exact (⟨(.array .int), true, 0, rfl, xr_putF dX4_init_104 (show vwCl[4]? = some (RX4, TX4, 19) from rfl) (by decide) xin_X4 tyX4_ok nmX4 xw_438 rfl (rfl : tyX4 10 = (.array .int)) rfl, fun _ => rfl⟩)
  · exact (⟨by decide, xr_newa dX4_init_109 rfl xw_272⟩)
  · exact (⟨(.array .int), true, 0, rfl, xr_putF dX4_init_111 (show vwCl[4]? = some (RX4, TX4, 19) from rfl) (by decide) xin_X4 tyX4_ok nmX4 xw_439 rfl (rfl : tyX4 11 = (.array .int)) rfl, fun _ => rfl⟩)
  · exact (⟨by decide, xr_newa dX4_init_117 rfl xw_272⟩)
  · exact (⟨(.array .int), true, 0, rfl, xr_putF dX4_init_119 (show vwCl[4]? = some (RX4, TX4, 19) from rfl) (by decide) xin_X4 tyX4_ok nmX4 xw_440 rfl (rfl : tyX4 12 = (.array .int)) rfl, fun _ => rfl⟩)
  · exact (⟨by decide, xr_newa dX4_init_125 rfl xw_272⟩)
  · exact (⟨(.array .int), true, 0, rfl, xr_putF dX4_init_127 (show vwCl[4]? = some (RX4, TX4, 19) from rfl) (by decide) xin_X4 tyX4_ok nmX4 xw_441 rfl (rfl : tyX4 13 = (.array .int)) rfl, fun _ => rfl⟩)
  · exact (⟨by decide, xr_newa dX4_init_132 rfl xw_272⟩)
  · exact (⟨(.array .int), true, 0, rfl, xr_putF dX4_init_134 (show vwCl[4]? = some (RX4, TX4, 19) from rfl) (by decide) xin_X4 tyX4_ok nmX4 xw_442 rfl (rfl : tyX4 14 = (.array .int)) rfl, fun _ => rfl⟩)
  · exact (xr_new dX4_init_138 (show vwCl[2]? = some (RX2, TX2, 10) from rfl) xin_X2 tyX2_ok xw_443 xw_444 xw_369 _ (by decide +kernel))
  · exact (⟨rfl, _, rfl, ⟨65, dX4_init_142, rfl, rfl, xw_445, Or.inr ⟨_, List.mem_of_getElem? (i := 3) rfl⟩⟩⟩)
  · exact (⟨(.object "RansomHymn$Formulas"), true, 0, rfl, xr_putF dX4_init_145 (show vwCl[4]? = some (RX4, TX4, 19) from rfl) (by decide) xin_X4 tyX4_ok nmX4 xw_446 rfl (rfl : tyX4 15 = (.object "RansomHymn$Formulas")) rfl, fun _ => rfl⟩)
  · exact (⟨.int, false, 0, rfl, xr_putf dX4_init_150 (show vwCl[4]? = some (RX4, TX4, 19) from rfl) (by decide) xin_X4 tyX4_ok nmX4 xw_447 rfl (rfl : tyX4 16 = .int), fun h => (by cases h)⟩)
  · exact (⟨.int, false, 0, rfl, xr_putf dX4_init_155 (show vwCl[4]? = some (RX4, TX4, 19) from rfl) (by decide) xin_X4 tyX4_ok nmX4 xw_448 rfl (rfl : tyX4 17 = .int), fun h => (by cases h)⟩)
  · exact (⟨.int, false, 0, rfl, xr_putf dX4_init_160 (show vwCl[4]? = some (RX4, TX4, 19) from rfl) (by decide) xin_X4 tyX4_ok nmX4 xw_449 rfl (rfl : tyX4 18 = .int), fun h => (by cases h)⟩)
)
theorem xmo_76 : xMok xmt xm_76 := ⟨xw_450, xw_6, ⟨by decide, by decide, by decide +kernel⟩, by decide +kernel, rfl, xo_76⟩
set_option maxRecDepth 100000 in
set_option maxHeartbeats 4000000 in
theorem xo_77 : ∀ q ∈ xk_77, xok xmt xm_77 q.1 q.2 := xqw_ok (M := xm_77) (G := gx_RX4) gxo_RX4 rfl (hd := [(5, (17, 8, 6, 1, [(0, 0)])), (13, (17, 16, 6, 1, [(0, 0)])), (21, (17, 24, 6, 1, [(0, 0)])), (29, (17, 32, 6, 1, [(0, 0)])), (36, (28, 39, 61, 2, [])), (41, (17, 44, 4, 16, [(0, 0)])), (46, (17, 49, 4, 17, [(0, 0)])), (51, (17, 54, 4, 18, [(0, 0)]))]) (by decide +kernel) (by
  refine xcns ?_ <| xcns ?_ <| xcns ?_ <| xcns ?_ <| xcns ?_ <| xcns ?_ <| xcns ?_ <| xcns ?_ <| xnl
  · exact (⟨.int, false, 0, rfl, xr_putf dX4_clear_5 (show vwCl[6]? = some (RX6, TX6, 2) from rfl) (by decide) xin_X6 tyX6_ok nmX6 xw_451 rfl (rfl : tyX6 1 = .int), fun h => (by cases h)⟩)
  · exact (⟨.int, false, 0, rfl, xr_putf dX4_clear_13 (show vwCl[6]? = some (RX6, TX6, 2) from rfl) (by decide) xin_X6 tyX6_ok nmX6 xw_451 rfl (rfl : tyX6 1 = .int), fun h => (by cases h)⟩)
  · exact (⟨.int, false, 0, rfl, xr_putf dX4_clear_21 (show vwCl[6]? = some (RX6, TX6, 2) from rfl) (by decide) xin_X6 tyX6_ok nmX6 xw_451 rfl (rfl : tyX6 1 = .int), fun h => (by cases h)⟩)
  · exact (⟨.int, false, 0, rfl, xr_putf dX4_clear_29 (show vwCl[6]? = some (RX6, TX6, 2) from rfl) (by decide) xin_X6 tyX6_ok nmX6 xw_451 rfl (rfl : tyX6 1 = .int), fun h => (by cases h)⟩)
  · exact (⟨rfl, _, rfl, ⟨83, dX4_clear_36, xw_454, xw_452, xw_453⟩, _, rfl, rfl⟩)
  · exact (⟨.int, false, 0, rfl, xr_putf dX4_clear_41 (show vwCl[4]? = some (RX4, TX4, 19) from rfl) (by decide) xin_X4 tyX4_ok nmX4 xw_447 rfl (rfl : tyX4 16 = .int), fun h => (by cases h)⟩)
  · exact (⟨.int, false, 0, rfl, xr_putf dX4_clear_46 (show vwCl[4]? = some (RX4, TX4, 19) from rfl) (by decide) xin_X4 tyX4_ok nmX4 xw_448 rfl (rfl : tyX4 17 = .int), fun h => (by cases h)⟩)
  · exact (⟨.int, false, 0, rfl, xr_putf dX4_clear_51 (show vwCl[4]? = some (RX4, TX4, 19) from rfl) (by decide) xin_X4 tyX4_ok nmX4 xw_449 rfl (rfl : tyX4 18 = .int), fun h => (by cases h)⟩)
)
theorem xmo_77 : xMok xmt xm_77 := ⟨xw_455, xw_6, ⟨by decide, by decide, by decide +kernel⟩, by decide +kernel, rfl, xo_77⟩
set_option maxRecDepth 100000 in
set_option maxHeartbeats 4000000 in
theorem xo_78 : ∀ q ∈ xk_78, xok xmt xm_78 q.1 q.2 := xqw_ok (M := xm_78) (G := gx_RX4) gxo_RX4 rfl (hd := [(5, (28, 8, 103, 6, []))]) (by decide +kernel) (by
  refine xcns ?_ <| xnl
  · exact (⟨rfl, _, rfl, ⟨99, dX4_hasPart_5, xw_456, xw_72, xw_73⟩, _, rfl, rfl⟩)
)
theorem xmo_78 : xMok xmt xm_78 := ⟨xw_457, xw_6, ⟨by decide, by decide, by decide +kernel⟩, by decide +kernel, rfl, xo_78⟩
set_option maxRecDepth 100000 in
set_option maxHeartbeats 4000000 in
theorem xo_79 : ∀ q ∈ xk_79, xok xmt xm_79 q.1 q.2 := xqw_ok (M := xm_79) (G := gx_RX4) gxo_RX4 rfl (hd := []) (by decide +kernel) (xnl)
theorem xmo_79 : xMok xmt xm_79 := ⟨xw_458, xw_6, ⟨by decide, by decide, by decide +kernel⟩, by decide +kernel, rfl, xo_79⟩
set_option maxRecDepth 100000 in
set_option maxHeartbeats 4000000 in
theorem xo_80 : ∀ q ∈ xk_80, xok xmt xm_80 q.1 q.2 := xqw_ok (M := xm_80) (G := gx_RX4) gxo_RX4 rfl (hd := [(18, (28, 21, 82, 4, [])), (21, (70, 24, 1, 0, []))]) (by decide +kernel) (by
  refine xcns ?_ <| xcns ?_ <| xnl
  · exact (⟨rfl, _, rfl, ⟨103, dX4_highestIn_18, xw_459, xw_202, xw_203⟩, _, rfl, rfl⟩)
  · exact (fun x y => xr_mmax dX4_highestIn_21 xv_6 xv_7 xv_2 xv_8 x y)
)
theorem xmo_80 : xMok xmt xm_80 := ⟨xw_462, xw_6, ⟨by decide, by decide, by decide +kernel⟩, by decide +kernel, rfl, xo_80⟩
set_option maxRecDepth 100000 in
set_option maxHeartbeats 4000000 in
theorem xo_81 : ∀ q ∈ xk_81, xok xmt xm_81 q.1 q.2 := xqw_ok (M := xm_81) (G := gx_RX4) gxo_RX4 rfl (hd := []) (by decide +kernel) (xnl)
theorem xmo_81 : xMok xmt xm_81 := ⟨xw_463, xw_6, ⟨by decide, by decide, by decide +kernel⟩, by decide +kernel, rfl, xo_81⟩
set_option maxRecDepth 100000 in
set_option maxHeartbeats 4000000 in
theorem xo_82 : ∀ q ∈ xk_82, xok xmt xm_82 q.1 q.2 := xqw_ok (M := xm_82) (G := gx_RX4) gxo_RX4 rfl (hd := []) (by decide +kernel) (xnl)
theorem xmo_82 : xMok xmt xm_82 := ⟨xw_464, xw_6, ⟨by decide, by decide, by decide +kernel⟩, by decide +kernel, rfl, xo_82⟩
set_option maxRecDepth 100000 in
set_option maxHeartbeats 4000000 in
theorem xo_83 : ∀ q ∈ xk_83, xok xmt xm_83 q.1 q.2 := xqw_ok (M := xm_83) (G := gx_RX4) gxo_RX4 rfl (hd := [(0, (1, 3, 2, 0, []))]) (by decide +kernel) (by
  refine xcns ?_ <| xnl
  · exact (xr_ldc2 dX4_reach_0 xw_465)
)
theorem xmo_83 : xMok xmt xm_83 := ⟨xw_466, xw_6, ⟨by decide, by decide, by decide +kernel⟩, by decide +kernel, rfl, xo_83⟩
set_option maxRecDepth 100000 in
set_option maxHeartbeats 4000000 in
theorem xo_84 : ∀ q ∈ xk_84, xok xmt xm_84 q.1 q.2 := xqw_ok (M := xm_84) (G := gx_RX4) gxo_RX4 rfl (hd := [(20, (28, 23, 82, 4, []))]) (by decide +kernel) (by
  refine xcns ?_ <| xnl
  · exact (⟨rfl, _, rfl, ⟨103, dX4_reachedBars_20, xw_459, xw_202, xw_203⟩, _, rfl, rfl⟩)
)
theorem xmo_84 : xMok xmt xm_84 := ⟨xw_467, xw_6, ⟨by decide, by decide, by decide +kernel⟩, by decide +kernel, rfl, xo_84⟩
end
section
set_option maxRecDepth 100000 in
set_option maxHeartbeats 4000000 in
theorem xo_85 : ∀ q ∈ xk_85, xok xmt xm_85 q.1 q.2 := xqw_ok (M := xm_85) (G := gx_RX4) gxo_RX4 rfl (hd := [(17, (28, 20, 82, 4, []))]) (by decide +kernel) (by
  refine xcns ?_ <| xnl
  · exact (⟨rfl, _, rfl, ⟨103, dX4_restsIn_17, xw_459, xw_202, xw_203⟩, _, rfl, rfl⟩)
)
theorem xmo_85 : xMok xmt xm_85 := ⟨xw_468, xw_6, ⟨by decide, by decide, by decide +kernel⟩, by decide +kernel, rfl, xo_85⟩
set_option maxRecDepth 100000 in
set_option maxHeartbeats 4000000 in
theorem xo_86 : ∀ q ∈ xk_86, xok xmt xm_86 q.1 q.2 := xqw_ok (M := xm_86) (G := gx_RX4) gxo_RX4 rfl (hd := [(8, (28, 11, 105, 6, [])), (19, (28, 22, 105, 6, [])), (30, (28, 33, 105, 6, [])), (41, (28, 44, 105, 6, [])), (59, (26, 62, 0, 0, [])), (77, (26, 80, 0, 0, [])), (95, (26, 98, 0, 0, [])), (113, (26, 116, 0, 0, [])), (131, (26, 134, 0, 0, [])), (149, (26, 152, 0, 0, [])), (167, (26, 170, 0, 0, [])), (185, (26, 188, 0, 0, [])), (203, (26, 206, 0, 0, [])), (221, (26, 224, 0, 0, [])), (239, (26, 242, 0, 0, [])), (250, (28, 253, 70, 2, [])), (258, (17, 261, 4, 16, [(0, 0)])), (266, (17, 269, 4, 17, [(0, 0)])), (274, (17, 277, 4, 18, [(0, 0)]))]) (by decide +kernel) (by
  refine xcns ?_ <| xcns ?_ <| xcns ?_ <| xcns ?_ <| xcns ?_ <| xcns ?_ <| xcns ?_ <| xcns ?_ <| xcns ?_ <| xcns ?_ <| xcns ?_ <| xcns ?_ <| xcns ?_ <| xcns ?_ <| xcns ?_ <| xcns ?_ <| xcns ?_ <| xcns ?_ <| xcns ?_ <| xnl
  · exact (⟨rfl, _, rfl, ⟨86, dX4_take_8, xw_471, xw_469, xw_470⟩, _, rfl, rfl⟩)
  · exact (⟨rfl, _, rfl, ⟨86, dX4_take_19, xw_471, xw_469, xw_470⟩, _, rfl, rfl⟩)
  · exact (⟨rfl, _, rfl, ⟨86, dX4_take_30, xw_471, xw_469, xw_470⟩, _, rfl, rfl⟩)
  · exact (⟨rfl, _, rfl, ⟨86, dX4_take_41, xw_471, xw_469, xw_470⟩, _, rfl, rfl⟩)
  · exact (xr_copy dX4_take_59 xw_472 xw_298 xw_299 xw_300)
  · exact (xr_copy dX4_take_77 xw_472 xw_298 xw_299 xw_300)
  · exact (xr_copy dX4_take_95 xw_472 xw_298 xw_299 xw_300)
  · exact (xr_copy dX4_take_113 xw_472 xw_298 xw_299 xw_300)
  · exact (xr_copy dX4_take_131 xw_472 xw_298 xw_299 xw_300)
  · exact (xr_copy dX4_take_149 xw_472 xw_298 xw_299 xw_300)
  · exact (xr_copy dX4_take_167 xw_472 xw_298 xw_299 xw_300)
  · exact (xr_copy dX4_take_185 xw_472 xw_298 xw_299 xw_300)
  · exact (xr_copy dX4_take_203 xw_472 xw_298 xw_299 xw_300)
  · exact (xr_copy dX4_take_221 xw_472 xw_298 xw_299 xw_300)
  · exact (xr_copy dX4_take_239 xw_472 xw_298 xw_299 xw_300)
  · exact (⟨rfl, _, rfl, ⟨96, dX4_take_250, xw_475, xw_473, xw_474⟩, _, rfl, rfl⟩)
  · exact (⟨.int, false, 0, rfl, xr_putf dX4_take_258 (show vwCl[4]? = some (RX4, TX4, 19) from rfl) (by decide) xin_X4 tyX4_ok nmX4 xw_447 rfl (rfl : tyX4 16 = .int), fun h => (by cases h)⟩)
  · exact (⟨.int, false, 0, rfl, xr_putf dX4_take_266 (show vwCl[4]? = some (RX4, TX4, 19) from rfl) (by decide) xin_X4 tyX4_ok nmX4 xw_448 rfl (rfl : tyX4 17 = .int), fun h => (by cases h)⟩)
  · exact (⟨.int, false, 0, rfl, xr_putf dX4_take_274 (show vwCl[4]? = some (RX4, TX4, 19) from rfl) (by decide) xin_X4 tyX4_ok nmX4 xw_449 rfl (rfl : tyX4 18 = .int), fun h => (by cases h)⟩)
)
theorem xmo_86 : xMok xmt xm_86 := ⟨xw_476, xw_6, ⟨by decide, by decide, by decide +kernel⟩, by decide +kernel, rfl, xo_86⟩
set_option maxRecDepth 100000 in
set_option maxHeartbeats 4000000 in
theorem xo_87 : ∀ q ∈ xk_87, xok xmt xm_87 q.1 q.2 := xqw_ok (M := xm_87) (G := gx_RX5) gxo_RX5 rfl (hd := [(1, (25, 4, 0, 0, [])), (7, (23, 9, 2, 0, [])), (9, (17, 12, 5, 2, [(4, 0)])), (15, (23, 17, 2, 0, [])), (17, (17, 20, 5, 3, [(4, 0)])), (22, (17, 25, 5, 4, [(0, 0)])), (27, (17, 30, 5, 5, [(3, 0)])), (32, (17, 35, 5, 0, [(4, 0)])), (37, (17, 40, 5, 1, [(4, 0)]))]) (by decide +kernel) (by
  refine xcns ?_ <| xcns ?_ <| xcns ?_ <| xcns ?_ <| xcns ?_ <| xcns ?_ <| xcns ?_ <| xcns ?_ <| xcns ?_ <| xnl
  · exact (xr_oinit dX5_init_1 xw_477 xw_1 xw_oc)
  · exact (⟨by decide, xr_newa dX5_init_7 rfl xw_478⟩)
  · exact (⟨(.array .long), true, 0, rfl, xr_putF dX5_init_9 (show vwCl[5]? = some (RX5, TX5, 6) from rfl) (by decide) xin_X5 tyX5_ok nmX5 xw_479 rfl (rfl : tyX5 2 = (.array .long)) rfl, fun _ => rfl⟩)
  · exact (⟨by decide, xr_newa dX5_init_15 rfl xw_478⟩)
  · exact (⟨(.array .long), true, 0, rfl, xr_putF dX5_init_17 (show vwCl[5]? = some (RX5, TX5, 6) from rfl) (by decide) xin_X5 tyX5_ok nmX5 xw_480 rfl (rfl : tyX5 3 = (.array .long)) rfl, fun _ => rfl⟩)
  · exact (⟨.int, false, 0, rfl, xr_putf dX5_init_22 (show vwCl[5]? = some (RX5, TX5, 6) from rfl) (by decide) xin_X5 tyX5_ok nmX5 xw_481 rfl (rfl : tyX5 4 = .int), fun h => (by cases h)⟩)
  · exact (⟨.boolean, false, 0, rfl, xr_putf dX5_init_27 (show vwCl[5]? = some (RX5, TX5, 6) from rfl) (by decide) xin_X5 tyX5_ok nmX5 xw_482 rfl (rfl : tyX5 5 = .boolean), fun h => (by cases h)⟩)
  · exact (⟨(.object "RansomHymn$Hymn"), true, 0, rfl, xr_putF dX5_init_32 (show vwCl[5]? = some (RX5, TX5, 6) from rfl) (by decide) xin_X5 tyX5_ok nmX5 xw_483 rfl (rfl : tyX5 0 = (.object "RansomHymn$Hymn")) rfl, fun _ => rfl⟩)
  · exact (⟨(.object "RansomHymn$World"), true, 0, rfl, xr_putF dX5_init_37 (show vwCl[5]? = some (RX5, TX5, 6) from rfl) (by decide) xin_X5 tyX5_ok nmX5 xw_484 rfl (rfl : tyX5 1 = (.object "RansomHymn$World")) rfl, fun _ => rfl⟩)
)
theorem xmo_87 : xMok xmt xm_87 := ⟨xw_485, xw_34, ⟨by decide, by decide, by decide +kernel⟩, by decide +kernel, rfl, xo_87⟩
set_option maxRecDepth 100000 in
set_option maxHeartbeats 4000000 in
theorem xo_88 : ∀ q ∈ xk_88, xok xmt xm_88 q.1 q.2 := xqw_ok (M := xm_88) (G := gx_RX5) gxo_RX5 rfl (hd := [(8, (28, 11, 94, 5, [])), (36, (28, 39, 94, 5, [])), (50, (28, 53, 93, 5, [])), (63, (28, 66, 94, 5, [])), (70, (28, 73, 93, 5, [])), (75, (28, 78, 93, 5, [])), (98, (28, 101, 96, 5, [])), (108, (27, 111, 92, 0, [])), (111, (28, 114, 94, 5, []))]) (by decide +kernel) (by
  refine xcns ?_ <| xcns ?_ <| xcns ?_ <| xcns ?_ <| xcns ?_ <| xcns ?_ <| xcns ?_ <| xcns ?_ <| xcns ?_ <| xnl
  · exact (⟨rfl, _, rfl, ⟨140, dX5_apply_8, xw_488, xw_486, xw_487⟩, _, rfl, rfl⟩)
  · exact (⟨rfl, _, rfl, ⟨140, dX5_apply_36, xw_488, xw_486, xw_487⟩, _, rfl, rfl⟩)
  · exact (⟨rfl, _, rfl, ⟨131, dX5_apply_50, xw_491, xw_489, xw_490⟩, _, rfl, rfl⟩)
  · exact (⟨rfl, _, rfl, ⟨140, dX5_apply_63, xw_488, xw_486, xw_487⟩, _, rfl, rfl⟩)
  · exact (⟨rfl, _, rfl, ⟨131, dX5_apply_70, xw_491, xw_489, xw_490⟩, _, rfl, rfl⟩)
  · exact (⟨rfl, _, rfl, ⟨131, dX5_apply_75, xw_491, xw_489, xw_490⟩, _, rfl, rfl⟩)
  · exact (⟨rfl, _, rfl, ⟨144, dX5_apply_98, xw_494, xw_492, xw_493⟩, _, rfl, rfl⟩)
  · exact (⟨rfl, _, rfl, ⟨148, dX5_apply_108, xw_495, xw_496⟩⟩)
  · exact (⟨rfl, _, rfl, ⟨140, dX5_apply_111, xw_488, xw_486, xw_487⟩, _, rfl, rfl⟩)
)
theorem xmo_88 : xMok xmt xm_88 := ⟨xw_497, xw_34, ⟨by decide, by decide, by decide +kernel⟩, by decide +kernel, rfl, xo_88⟩
set_option maxRecDepth 100000 in
set_option maxHeartbeats 4000000 in
theorem xo_89 : ∀ q ∈ xk_89, xok xmt xm_89 q.1 q.2 := xqw_ok (M := xm_89) (G := gx_RX5) gxo_RX5 rfl (hd := [(29, (47, 32, 34, 0, [])), (57, (28, 60, 85, 4, [])), (71, (28, 74, 80, 4, [])), (74, (70, 77, 1, 0, [])), (95, (28, 98, 98, 5, [])), (117, (28, 120, 97, 5, [])), (125, (0, 128, 999, 0, [])), (129, (28, 132, 95, 5, [])), (132, (70, 135, 0, 0, []))]) (by decide +kernel) (by
  refine xcns ?_ <| xcns ?_ <| xcns ?_ <| xcns ?_ <| xcns ?_ <| xcns ?_ <| xcns ?_ <| xcns ?_ <| xcns ?_ <| xnl
  · exact (⟨rfl, _, rfl, ⟨50, dX5_bidFor_29, _, List.mem_of_getElem? (i := 5) rfl, xw_77⟩⟩)
  · exact (⟨rfl, _, rfl, ⟨75, dX5_bidFor_57, xw_500, xw_223, xw_224⟩, _, rfl, rfl⟩)
  · exact (⟨rfl, _, rfl, ⟨78, dX5_bidFor_71, xw_503, xw_501, xw_502⟩, _, rfl, rfl⟩)
  · exact (fun x y => xr_mmax dX5_bidFor_74 xv_9 xv_7 xv_2 xv_8 x y)
  · exact (⟨rfl, _, rfl, ⟨71, dX5_bidFor_95, xw_508, xw_506, xw_507⟩, _, rfl, rfl⟩)
  · exact (⟨rfl, _, rfl, ⟨84, dX5_bidFor_117, xw_511, xw_509, xw_510⟩, _, rfl, rfl⟩)
  · exact (xr_sipush dX5_bidFor_125 (by decide +kernel))
  · exact (⟨rfl, _, rfl, ⟨88, dX5_bidFor_129, xw_514, xw_512, xw_513⟩, _, rfl, rfl⟩)
  · exact (fun x y => xr_mmin dX5_bidFor_132 xv_10 xv_1 xv_2 xv_3 x y)
)
theorem xmo_89 : xMok xmt xm_89 := ⟨xw_516, xw_34, ⟨by decide, by decide, by decide +kernel⟩, by decide +kernel, rfl, xo_89⟩
set_option maxRecDepth 100000 in
set_option maxHeartbeats 4000000 in
theorem xo_90 : ∀ q ∈ xk_90, xok xmt xm_90 q.1 q.2 := xqw_ok (M := xm_90) (G := gx_RX5) gxo_RX5 rfl (hd := [(39, (28, 42, 98, 5, [])), (55, (28, 58, 97, 5, [])), (63, (28, 66, 95, 5, []))]) (by decide +kernel) (by
  refine xcns ?_ <| xcns ?_ <| xcns ?_ <| xnl
  · exact (⟨rfl, _, rfl, ⟨71, dX5_crackFor_39, xw_508, xw_506, xw_507⟩, _, rfl, rfl⟩)
  · exact (⟨rfl, _, rfl, ⟨84, dX5_crackFor_55, xw_511, xw_509, xw_510⟩, _, rfl, rfl⟩)
  · exact (⟨rfl, _, rfl, ⟨88, dX5_crackFor_63, xw_514, xw_512, xw_513⟩, _, rfl, rfl⟩)
)
theorem xmo_90 : xMok xmt xm_90 := ⟨xw_521, xw_34, ⟨by decide, by decide, by decide +kernel⟩, by decide +kernel, rfl, xo_90⟩
set_option maxRecDepth 100000 in
set_option maxHeartbeats 4000000 in
theorem xo_91 : ∀ q ∈ xk_91, xok xmt xm_91 q.1 q.2 := xqw_ok (M := xm_91) (G := gx_RX5) gxo_RX5 rfl (hd := [(21, (47, 24, 34, 0, [])), (41, (28, 44, 99, 5, [])), (44, (27, 47, 255, 0, [])), (69, (28, 72, 98, 5, [])), (81, (28, 84, 85, 4, [])), (90, (28, 93, 80, 4, [])), (102, (28, 105, 97, 5, [])), (107, (0, 110, 999, 0, [])), (112, (28, 115, 95, 5, []))]) (by decide +kernel) (by
  refine xcns ?_ <| xcns ?_ <| xcns ?_ <| xcns ?_ <| xcns ?_ <| xcns ?_ <| xcns ?_ <| xcns ?_ <| xcns ?_ <| xnl
  · exact (⟨rfl, _, rfl, ⟨50, dX5_dueFor_21, _, List.mem_of_getElem? (i := 5) rfl, xw_77⟩⟩)
  · exact (⟨rfl, _, rfl, ⟨56, dX5_dueFor_41, xw_522, xw_79, xw_80⟩, _, rfl, rfl⟩)
  · exact (⟨rfl, _, rfl, ⟨59, dX5_dueFor_44, xw_523, xw_123⟩⟩)
  · exact (⟨rfl, _, rfl, ⟨71, dX5_dueFor_69, xw_508, xw_506, xw_507⟩, _, rfl, rfl⟩)
  · exact (⟨rfl, _, rfl, ⟨75, dX5_dueFor_81, xw_500, xw_223, xw_224⟩, _, rfl, rfl⟩)
  · exact (⟨rfl, _, rfl, ⟨78, dX5_dueFor_90, xw_503, xw_501, xw_502⟩, _, rfl, rfl⟩)
  · exact (⟨rfl, _, rfl, ⟨84, dX5_dueFor_102, xw_511, xw_509, xw_510⟩, _, rfl, rfl⟩)
  · exact (xr_sipush dX5_dueFor_107 (by decide +kernel))
  · exact (⟨rfl, _, rfl, ⟨88, dX5_dueFor_112, xw_514, xw_512, xw_513⟩, _, rfl, rfl⟩)
)
theorem xmo_91 : xMok xmt xm_91 := ⟨xw_524, xw_34, ⟨by decide, by decide, by decide +kernel⟩, by decide +kernel, rfl, xo_91⟩
set_option maxRecDepth 100000 in
set_option maxHeartbeats 4000000 in
theorem xo_92 : ∀ q ∈ xk_92, xok xmt xm_92 q.1 q.2 := xqw_ok (M := xm_92) (G := gx_RX5) gxo_RX5 rfl (hd := [(1, (15, 0, 220, 0, [(7, 160), (8, 172), (9, 184), (10, 196), (11, 208), (12, 220), (13, 116), (14, 120), (15, 220), (16, 220), (17, 220), (18, 220), (19, 220), (20, 220), (21, 220), (22, 220), (23, 220), (24, 220), (25, 220), (26, 220), (27, 220), (28, 220), (29, 220), (30, 142), (31, 124)]))]) (by decide +kernel) (by
  refine xcns ?_ <| xnl
  · exact (xr_tableL (lo := 7) dX5_join_1 (by decide) (by decide) (by decide) (by decide))
)
theorem xmo_92 : xMok xmt xm_92 := ⟨xw_525, xw_34, ⟨by decide, by decide, by decide +kernel⟩, by decide +kernel, rfl, xo_92⟩
set_option maxRecDepth 100000 in
set_option maxHeartbeats 4000000 in
theorem xo_93 : ∀ q ∈ xk_93, xok xmt xm_93 q.1 q.2 := xqw_ok (M := xm_93) (G := gx_RX5) gxo_RX5 rfl (hd := [(16, (17, 19, 5, 4, [(0, 0)]))]) (by decide +kernel) (by
  refine xcns ?_ <| xnl
  · exact (⟨.int, false, 0, rfl, xr_putf dX5_pop_16 (show vwCl[5]? = some (RX5, TX5, 6) from rfl) (by decide) xin_X5 tyX5_ok nmX5 xw_481 rfl (rfl : tyX5 4 = .int), fun h => (by cases h)⟩)
)
theorem xmo_93 : xMok xmt xm_93 := ⟨xw_526, xw_34, ⟨by decide, by decide, by decide +kernel⟩, by decide +kernel, rfl, xo_93⟩
set_option maxRecDepth 100000 in
set_option maxHeartbeats 4000000 in
theorem xo_94 : ∀ q ∈ xk_94, xok xmt xm_94 q.1 q.2 := xqw_ok (M := xm_94) (G := gx_RX5) gxo_RX5 rfl (hd := [(6, (1, 9, 1000000000000, 0, [])), (14, (1, 17, 18446743073709551616, 0, [])), (27, (17, 30, 5, 5, [(3, 0)])), (59, (17, 62, 5, 4, [(0, 0)]))]) (by decide +kernel) (by
  refine xcns ?_ <| xcns ?_ <| xcns ?_ <| xcns ?_ <| xnl
  · exact (xr_ldc2 dX5_push_6 xw_527)
  · exact (xr_ldc2 dX5_push_14 xw_528)
  · exact (⟨.boolean, false, 0, rfl, xr_putf dX5_push_27 (show vwCl[5]? = some (RX5, TX5, 6) from rfl) (by decide) xin_X5 tyX5_ok nmX5 xw_482 rfl (rfl : tyX5 5 = .boolean), fun h => (by cases h)⟩)
  · exact (⟨.int, false, 0, rfl, xr_putf dX5_push_59 (show vwCl[5]? = some (RX5, TX5, 6) from rfl) (by decide) xin_X5 tyX5_ok nmX5 xw_481 rfl (rfl : tyX5 4 = .int), fun h => (by cases h)⟩)
)
theorem xmo_94 : xMok xmt xm_94 := ⟨xw_529, xw_34, ⟨by decide, by decide, by decide +kernel⟩, by decide +kernel, rfl, xo_94⟩
set_option maxRecDepth 100000 in
set_option maxHeartbeats 4000000 in
theorem xo_95 : ∀ q ∈ xk_95, xok xmt xm_95 q.1 q.2 := xqw_ok (M := xm_95) (G := gx_RX5) gxo_RX5 rfl (hd := [(12, (28, 15, 64, 2, [])), (22, (17, 25, 5, 4, [(0, 0)])), (27, (17, 30, 5, 5, [(3, 0)])), (75, (28, 78, 88, 5, [])), (97, (28, 100, 93, 5, [])), (100, (71, 103, 0, 0, [])), (103, (71, 106, 1, 0, []))]) (by decide +kernel) (by
  refine xcns ?_ <| xcns ?_ <| xcns ?_ <| xcns ?_ <| xcns ?_ <| xcns ?_ <| xcns ?_ <| xnl
  · exact (⟨rfl, _, rfl, ⟨110, dX5_reckon_12, xw_533, xw_531, xw_532⟩, _, rfl, rfl⟩)
  · exact (⟨.int, false, 0, rfl, xr_putf dX5_reckon_22 (show vwCl[5]? = some (RX5, TX5, 6) from rfl) (by decide) xin_X5 tyX5_ok nmX5 xw_481 rfl (rfl : tyX5 4 = .int), fun h => (by cases h)⟩)
  · exact (⟨.boolean, false, 0, rfl, xr_putf dX5_reckon_27 (show vwCl[5]? = some (RX5, TX5, 6) from rfl) (by decide) xin_X5 tyX5_ok nmX5 xw_482 rfl (rfl : tyX5 5 = .boolean), fun h => (by cases h)⟩)
  · exact (⟨rfl, _, rfl, ⟨127, dX5_reckon_75, xw_540, xw_538, xw_539⟩, _, rfl, rfl⟩)
  · exact (⟨rfl, _, rfl, ⟨131, dX5_reckon_97, xw_491, xw_489, xw_490⟩, _, rfl, rfl⟩)
  · exact (fun x y => xr_lmin dX5_reckon_100 xv_11 xv_12 xv_2 xv_13 x y)
  · exact (fun x y => xr_lmax dX5_reckon_103 xv_14 xv_15 xv_2 xv_16 x y)
)
theorem xmo_95 : xMok xmt xm_95 := ⟨xw_545, xw_34, ⟨by decide, by decide, by decide +kernel⟩, by decide +kernel, rfl, xo_95⟩
set_option maxRecDepth 100000 in
set_option maxHeartbeats 4000000 in
theorem xo_96 : ∀ q ∈ xk_96, xok xmt xm_96 q.1 q.2 := xqw_ok (M := xm_96) (G := gx_RX5) gxo_RX5 rfl (hd := [(24, (17, 27, 5, 5, [(3, 0)])), (51, (72, 54, 0, 0, [])), (54, (1, 57, 1000000000000, 0, [])), (58, (72, 61, 0, 0, [])), (68, (17, 71, 5, 5, [(3, 0)]))]) (by decide +kernel) (by
  refine xcns ?_ <| xcns ?_ <| xcns ?_ <| xcns ?_ <| xcns ?_ <| xnl
  · exact (⟨.boolean, false, 0, rfl, xr_putf dX5_scale_24 (show vwCl[5]? = some (RX5, TX5, 6) from rfl) (by decide) xin_X5 tyX5_ok nmX5 xw_482 rfl (rfl : tyX5 5 = .boolean), fun h => (by cases h)⟩)
  · exact (fun x => xr_labs dX5_scale_51 xv_17 xv_18 xv_2 xv_19 x)
  · exact (xr_ldc2 dX5_scale_54 xw_527)
  · exact (fun x => xr_labs dX5_scale_58 xv_17 xv_18 xv_2 xv_19 x)
  · exact (⟨.boolean, false, 0, rfl, xr_putf dX5_scale_68 (show vwCl[5]? = some (RX5, TX5, 6) from rfl) (by decide) xin_X5 tyX5_ok nmX5 xw_482 rfl (rfl : tyX5 5 = .boolean), fun h => (by cases h)⟩)
)
theorem xmo_96 : xMok xmt xm_96 := ⟨xw_548, xw_34, ⟨by decide, by decide, by decide +kernel⟩, by decide +kernel, rfl, xo_96⟩
set_option maxRecDepth 100000 in
set_option maxHeartbeats 4000000 in
theorem xo_97 : ∀ q ∈ xk_97, xok xmt xm_97 q.1 q.2 := xqw_ok (M := xm_97) (G := gx_RX5) gxo_RX5 rfl (hd := []) (by decide +kernel) (xnl)
theorem xmo_97 : xMok xmt xm_97 := ⟨xw_549, xw_34, ⟨by decide, by decide, by decide +kernel⟩, by decide +kernel, rfl, xo_97⟩
set_option maxRecDepth 100000 in
set_option maxHeartbeats 4000000 in
theorem xo_98 : ∀ q ∈ xk_98, xok xmt xm_98 q.1 q.2 := xqw_ok (M := xm_98) (G := gx_RX5) gxo_RX5 rfl (hd := []) (by decide +kernel) (xnl)
theorem xmo_98 : xMok xmt xm_98 := ⟨xw_550, xw_34, ⟨by decide, by decide, by decide +kernel⟩, by decide +kernel, rfl, xo_98⟩
set_option maxRecDepth 100000 in
set_option maxHeartbeats 4000000 in
theorem xo_99 : ∀ q ∈ xk_99, xok xmt xm_99 q.1 q.2 := xqw_ok (M := xm_99) (G := gx_RX5) gxo_RX5 rfl (hd := [(5, (28, 8, 139, 10, [])), (21, (28, 24, 84, 4, []))]) (by decide +kernel) (by
  refine xcns ?_ <| xcns ?_ <| xnl
  · exact (⟨rfl, _, rfl, ⟨34, dX5_soundBits_5, xw_551, xw_131, xw_132⟩, _, rfl, rfl⟩)
  · exact (⟨rfl, _, rfl, ⟨40, dX5_soundBits_21, xw_554, xw_552, xw_553⟩, _, rfl, rfl⟩)
)
theorem xmo_99 : xMok xmt xm_99 := ⟨xw_555, xw_34, ⟨by decide, by decide, by decide +kernel⟩, by decide +kernel, rfl, xo_99⟩
set_option maxRecDepth 100000 in
set_option maxHeartbeats 4000000 in
theorem xo_100 : ∀ q ∈ xk_100, xok xmt xm_100 q.1 q.2 := xqw_ok (M := xm_100) (G := gx_RX6) gxo_RX6 rfl (hd := [(1, (25, 4, 0, 0, [])), (6, (17, 9, 6, 1, [(0, 0)])), (11, (23, 13, 0, 0, [])), (13, (17, 16, 6, 0, [(4, 0)]))]) (by decide +kernel) (by
  refine xcns ?_ <| xcns ?_ <| xcns ?_ <| xcns ?_ <| xnl
  · exact (xr_oinit dX6_init_1 xw_556 xw_1 xw_oc)
  · exact (⟨.int, false, 0, rfl, xr_putf dX6_init_6 (show vwCl[6]? = some (RX6, TX6, 2) from rfl) (by decide) xin_X6 tyX6_ok nmX6 xw_557 rfl (rfl : tyX6 1 = .int), fun h => (by cases h)⟩)
  · exact (⟨by decide, xr_newa dX6_init_11 rfl xw_272⟩)
  · exact (⟨(.array .int), true, 0, rfl, xr_putF dX6_init_13 (show vwCl[6]? = some (RX6, TX6, 2) from rfl) (by decide) xin_X6 tyX6_ok nmX6 xw_558 rfl (rfl : tyX6 0 = (.array .int)) rfl, fun _ => rfl⟩)
)
theorem xmo_100 : xMok xmt xm_100 := ⟨xw_559, xw_425, ⟨by decide, by decide, by decide +kernel⟩, by decide +kernel, rfl, xo_100⟩
set_option maxRecDepth 100000 in
set_option maxHeartbeats 4000000 in
theorem xo_101 : ∀ q ∈ xk_101, xok xmt xm_101 q.1 q.2 := xqw_ok (M := xm_101) (G := gx_RX6) gxo_RX6 rfl (hd := [(1, (28, 4, 104, 6, [])), (26, (17, 29, 6, 1, [(0, 0)]))]) (by decide +kernel) (by
  refine xcns ?_ <| xcns ?_ <| xnl
  · exact (⟨rfl, _, rfl, ⟨19, dX6_add_1, xw_562, xw_560, xw_561⟩, _, rfl, rfl⟩)
  · exact (⟨.int, false, 0, rfl, xr_putf dX6_add_26 (show vwCl[6]? = some (RX6, TX6, 2) from rfl) (by decide) xin_X6 tyX6_ok nmX6 xw_557 rfl (rfl : tyX6 1 = .int), fun h => (by cases h)⟩)
)
theorem xmo_101 : xMok xmt xm_101 := ⟨xw_563, xw_425, ⟨by decide, by decide, by decide +kernel⟩, by decide +kernel, rfl, xo_101⟩
end
section
set_option maxRecDepth 100000 in
set_option maxHeartbeats 4000000 in
theorem xo_102 : ∀ q ∈ xk_102, xok xmt xm_102 q.1 q.2 := xqw_ok (M := xm_102) (G := gx_RX6) gxo_RX6 rfl (hd := []) (by decide +kernel) (xnl)
theorem xmo_102 : xMok xmt xm_102 := ⟨xw_564, xw_425, ⟨by decide, by decide, by decide +kernel⟩, by decide +kernel, rfl, xo_102⟩
set_option maxRecDepth 100000 in
set_option maxHeartbeats 4000000 in
theorem xo_103 : ∀ q ∈ xk_103, xok xmt xm_103 q.1 q.2 := xqw_ok (M := xm_103) (G := gx_RX6) gxo_RX6 rfl (hd := []) (by decide +kernel) (xnl)
theorem xmo_103 : xMok xmt xm_103 := ⟨xw_565, xw_425, ⟨by decide, by decide, by decide +kernel⟩, by decide +kernel, rfl, xo_103⟩
set_option maxRecDepth 100000 in
set_option maxHeartbeats 4000000 in
theorem xo_104 : ∀ q ∈ xk_104, xok xmt xm_104 q.1 q.2 := xqw_ok (M := xm_104) (G := gx_RX6) gxo_RX6 rfl (hd := []) (by decide +kernel) (xnl)
theorem xmo_104 : xMok xmt xm_104 := ⟨xw_566, xw_425, ⟨by decide, by decide, by decide +kernel⟩, by decide +kernel, rfl, xo_104⟩
set_option maxRecDepth 100000 in
set_option maxHeartbeats 4000000 in
theorem xo_105 : ∀ q ∈ xk_105, xok xmt xm_105 q.1 q.2 := xqw_ok (M := xm_105) (G := gx_RX6) gxo_RX6 rfl (hd := [(15, (26, 18, 0, 0, [])), (23, (17, 26, 6, 1, [(0, 0)]))]) (by decide +kernel) (by
  refine xcns ?_ <| xcns ?_ <| xnl
  · exact (xr_copy dX6_take_15 xw_567 xw_298 xw_299 xw_300)
  · exact (⟨.int, false, 0, rfl, xr_putf dX6_take_23 (show vwCl[6]? = some (RX6, TX6, 2) from rfl) (by decide) xin_X6 tyX6_ok nmX6 xw_557 rfl (rfl : tyX6 1 = .int), fun h => (by cases h)⟩)
)
theorem xmo_105 : xMok xmt xm_105 := ⟨xw_568, xw_425, ⟨by decide, by decide, by decide +kernel⟩, by decide +kernel, rfl, xo_105⟩
set_option maxRecDepth 100000 in
set_option maxHeartbeats 4000000 in
theorem xo_106 : ∀ q ∈ xk_106, xok xmt xm_106 q.1 q.2 := xqw_ok (M := xm_106) (G := gx_RX7) gxo_RX7 rfl (hd := [(1, (25, 4, 0, 0, [])), (6, (23, 8, 0, 0, [])), (8, (17, 11, 7, 3, [(4, 0)])), (13, (23, 15, 0, 0, [])), (15, (17, 18, 7, 4, [(4, 0)])), (20, (23, 22, 0, 0, [])), (22, (17, 25, 7, 5, [(4, 0)])), (27, (17, 30, 7, 0, [(4, 0)])), (32, (17, 35, 7, 1, [(4, 0)])), (37, (17, 40, 7, 2, [(4, 0)]))]) (by decide +kernel) (by
  refine xcns ?_ <| xcns ?_ <| xcns ?_ <| xcns ?_ <| xcns ?_ <| xcns ?_ <| xcns ?_ <| xcns ?_ <| xcns ?_ <| xcns ?_ <| xnl
  · exact (xr_oinit dX7_init_1 xw_569 xw_1 xw_oc)
  · exact (⟨by decide, xr_newa dX7_init_6 rfl xw_272⟩)
  · exact (⟨(.array .int), true, 0, rfl, xr_putF dX7_init_8 (show vwCl[7]? = some (RX7, TX7, 6) from rfl) (by decide) xin_X7 tyX7_ok nmX7 xw_570 rfl (rfl : tyX7 3 = (.array .int)) rfl, fun _ => rfl⟩)
  · exact (⟨by decide, xr_newa dX7_init_13 rfl xw_272⟩)
  · exact (⟨(.array .int), true, 0, rfl, xr_putF dX7_init_15 (show vwCl[7]? = some (RX7, TX7, 6) from rfl) (by decide) xin_X7 tyX7_ok nmX7 xw_571 rfl (rfl : tyX7 4 = (.array .int)) rfl, fun _ => rfl⟩)
  · exact (⟨by decide, xr_newa dX7_init_20 rfl xw_272⟩)
  · exact (⟨(.array .int), true, 0, rfl, xr_putF dX7_init_22 (show vwCl[7]? = some (RX7, TX7, 6) from rfl) (by decide) xin_X7 tyX7_ok nmX7 xw_572 rfl (rfl : tyX7 5 = (.array .int)) rfl, fun _ => rfl⟩)
  · exact (⟨(.object "RansomHymn$Hymn"), true, 0, rfl, xr_putF dX7_init_27 (show vwCl[7]? = some (RX7, TX7, 6) from rfl) (by decide) xin_X7 tyX7_ok nmX7 xw_573 rfl (rfl : tyX7 0 = (.object "RansomHymn$Hymn")) rfl, fun _ => rfl⟩)
  · exact (⟨(.object "RansomHymn$World"), true, 0, rfl, xr_putF dX7_init_32 (show vwCl[7]? = some (RX7, TX7, 6) from rfl) (by decide) xin_X7 tyX7_ok nmX7 xw_574 rfl (rfl : tyX7 1 = (.object "RansomHymn$World")) rfl, fun _ => rfl⟩)
  · exact (⟨(.object "RansomHymn$Laws"), true, 0, rfl, xr_putF dX7_init_37 (show vwCl[7]? = some (RX7, TX7, 6) from rfl) (by decide) xin_X7 tyX7_ok nmX7 xw_575 rfl (rfl : tyX7 2 = (.object "RansomHymn$Laws")) rfl, fun _ => rfl⟩)
)
theorem xmo_106 : xMok xmt xm_106 := ⟨xw_576, xw_46, ⟨by decide, by decide, by decide +kernel⟩, by decide +kernel, rfl, xo_106⟩
set_option maxRecDepth 100000 in
set_option maxHeartbeats 4000000 in
theorem xo_107 : ∀ q ∈ xk_107, xok xmt xm_107 q.1 q.2 := xqw_ok (M := xm_107) (G := gx_RX7) gxo_RX7 rfl (hd := [(18, (26, 21, 0, 0, [])), (63, (28, 66, 108, 7, []))]) (by decide +kernel) (by
  refine xcns ?_ <| xcns ?_ <| xnl
  · exact (xr_copy dX7_hold_18 xw_578 xw_298 xw_299 xw_300)
  · exact (⟨rfl, _, rfl, ⟨56, dX7_hold_63, xw_583, xw_581, xw_582⟩, _, rfl, rfl⟩)
)
theorem xmo_107 : xMok xmt xm_107 := ⟨xw_584, xw_46, ⟨by decide, by decide, by decide +kernel⟩, by decide +kernel, rfl, xo_107⟩
set_option maxRecDepth 100000 in
set_option maxHeartbeats 4000000 in
theorem xo_108 : ∀ q ∈ xk_108, xok xmt xm_108 q.1 q.2 := xqw_ok (M := xm_108) (G := gx_RX7) gxo_RX7 rfl (hd := [(39, (28, 42, 89, 5, [])), (65, (70, 68, 1, 0, []))]) (by decide +kernel) (by
  refine xcns ?_ <| xcns ?_ <| xnl
  · exact (⟨rfl, _, rfl, ⟨63, dX7_sellVerse_39, xw_586, xw_95, xw_96⟩, _, rfl, rfl⟩)
  · exact (fun x y => xr_mmax dX7_sellVerse_65 xv_20 xv_7 xv_2 xv_8 x y)
)
theorem xmo_108 : xMok xmt xm_108 := ⟨xw_588, xw_46, ⟨by decide, by decide, by decide +kernel⟩, by decide +kernel, rfl, xo_108⟩
set_option maxRecDepth 100000 in
set_option maxHeartbeats 4000000 in
theorem xo_109 : ∀ q ∈ xk_109, xok xmt xm_109 q.1 q.2 := xqw_ok (M := xm_109) (G := gx_RX8) gxo_RX8 rfl (hd := [(1, (25, 4, 0, 0, [])), (6, (17, 9, 8, 2, [(3, 0)])), (11, (17, 14, 8, 3, [(3, 0)])), (16, (17, 19, 8, 0, [(4, 0)])), (21, (17, 24, 8, 1, [(4, 0)]))]) (by decide +kernel) (by
  refine xcns ?_ <| xcns ?_ <| xcns ?_ <| xcns ?_ <| xcns ?_ <| xnl
  · exact (xr_oinit dX8_init_1 xw_589 xw_1 xw_oc)
  · exact (⟨.boolean, false, 0, rfl, xr_putf dX8_init_6 (show vwCl[8]? = some (RX8, TX8, 4) from rfl) (by decide) xin_X8 tyX8_ok nmX8 xw_590 rfl (rfl : tyX8 2 = .boolean), fun h => (by cases h)⟩)
  · exact (⟨.boolean, false, 0, rfl, xr_putf dX8_init_11 (show vwCl[8]? = some (RX8, TX8, 4) from rfl) (by decide) xin_X8 tyX8_ok nmX8 xw_591 rfl (rfl : tyX8 3 = .boolean), fun h => (by cases h)⟩)
  · exact (⟨(.object "RansomHymn$Tokens"), true, 0, rfl, xr_putF dX8_init_16 (show vwCl[8]? = some (RX8, TX8, 4) from rfl) (by decide) xin_X8 tyX8_ok nmX8 xw_592 rfl (rfl : tyX8 0 = (.object "RansomHymn$Tokens")) rfl, fun _ => rfl⟩)
  · exact (⟨(.object "RansomHymn$Hymn"), true, 0, rfl, xr_putF dX8_init_21 (show vwCl[8]? = some (RX8, TX8, 4) from rfl) (by decide) xin_X8 tyX8_ok nmX8 xw_593 rfl (rfl : tyX8 1 = (.object "RansomHymn$Hymn")) rfl, fun _ => rfl⟩)
)
theorem xmo_109 : xMok xmt xm_109 := ⟨xw_594, xw_12, ⟨by decide, by decide, by decide +kernel⟩, by decide +kernel, rfl, xo_109⟩
set_option maxRecDepth 100000 in
set_option maxHeartbeats 4000000 in
theorem xo_110 : ∀ q ∈ xk_110, xok xmt xm_110 q.1 q.2 := xqw_ok (M := xm_110) (G := gx_RX8) gxo_RX8 rfl (hd := [(1, (28, 4, 104, 6, [])), (12, (28, 15, 123, 9, [])), (22, (28, 25, 126, 9, [])), (41, (28, 44, 123, 9, [])), (55, (28, 58, 102, 6, [])), (67, (28, 70, 123, 9, [])), (81, (28, 84, 101, 6, [])), (89, (28, 92, 126, 9, []))]) (by decide +kernel) (by
  refine xcns ?_ <| xcns ?_ <| xcns ?_ <| xcns ?_ <| xcns ?_ <| xcns ?_ <| xcns ?_ <| xcns ?_ <| xnl
  · exact (⟨rfl, _, rfl, ⟨158, dX8_begin_1, xw_595, xw_560, xw_561⟩, _, rfl, rfl⟩)
  · exact (⟨rfl, _, rfl, ⟨67, dX8_begin_12, xw_596, xw_373, xw_374⟩, _, rfl, rfl⟩)
  · exact (⟨rfl, _, rfl, ⟨152, dX8_begin_22, xw_597, xw_410, xw_411⟩, _, rfl, rfl⟩)
  · exact (⟨rfl, _, rfl, ⟨67, dX8_begin_41, xw_596, xw_373, xw_374⟩, _, rfl, rfl⟩)
  · exact (⟨rfl, _, rfl, ⟨167, dX8_begin_55, xw_600, xw_185, xw_186⟩, _, rfl, rfl⟩)
  · exact (⟨rfl, _, rfl, ⟨67, dX8_begin_67, xw_596, xw_373, xw_374⟩, _, rfl, rfl⟩)
  · exact (⟨rfl, _, rfl, ⟨171, dX8_begin_81, xw_603, xw_601, xw_602⟩, _, rfl, rfl⟩)
  · exact (⟨rfl, _, rfl, ⟨152, dX8_begin_89, xw_597, xw_410, xw_411⟩, _, rfl, rfl⟩)
)
theorem xmo_110 : xMok xmt xm_110 := ⟨xw_604, xw_12, ⟨by decide, by decide, by decide +kernel⟩, by decide +kernel, rfl, xo_110⟩
set_option maxRecDepth 100000 in
set_option maxHeartbeats 4000000 in
theorem xo_111 : ∀ q ∈ xk_111, xok xmt xm_111 q.1 q.2 := xqw_ok (M := xm_111) (G := gx_RX8) gxo_RX8 rfl (hd := [(9, (28, 12, 123, 9, [])), (19, (28, 22, 126, 9, [])), (25, (28, 28, 112, 8, []))]) (by decide +kernel) (by
  refine xcns ?_ <| xcns ?_ <| xcns ?_ <| xnl
  · exact (⟨rfl, _, rfl, ⟨67, dX8_loneNumber_9, xw_596, xw_373, xw_374⟩, _, rfl, rfl⟩)
  · exact (⟨rfl, _, rfl, ⟨152, dX8_loneNumber_19, xw_597, xw_410, xw_411⟩, _, rfl, rfl⟩)
  · exact (⟨rfl, _, rfl, ⟨86, dX8_loneNumber_25, xw_607, xw_605, xw_606⟩, _, rfl, rfl⟩)
)
theorem xmo_111 : xMok xmt xm_111 := ⟨xw_608, xw_12, ⟨by decide, by decide, by decide +kernel⟩, by decide +kernel, rfl, xo_111⟩
set_option maxRecDepth 100000 in
set_option maxHeartbeats 4000000 in
theorem xo_112 : ∀ q ∈ xk_112, xok xmt xm_112 q.1 q.2 := xqw_ok (M := xm_112) (G := gx_RX8) gxo_RX8 rfl (hd := [(24, (28, 27, 123, 9, [])), (45, (28, 48, 123, 9, [])), (55, (28, 58, 126, 9, []))]) (by decide +kernel) (by
  refine xcns ?_ <| xcns ?_ <| xcns ?_ <| xnl
  · exact (⟨rfl, _, rfl, ⟨67, dX8_number_24, xw_596, xw_373, xw_374⟩, _, rfl, rfl⟩)
  · exact (⟨rfl, _, rfl, ⟨67, dX8_number_45, xw_596, xw_373, xw_374⟩, _, rfl, rfl⟩)
  · exact (⟨rfl, _, rfl, ⟨152, dX8_number_55, xw_597, xw_410, xw_411⟩, _, rfl, rfl⟩)
)
theorem xmo_112 : xMok xmt xm_112 := ⟨xw_609, xw_12, ⟨by decide, by decide, by decide +kernel⟩, by decide +kernel, rfl, xo_112⟩
set_option maxRecDepth 100000 in
set_option maxHeartbeats 4000000 in
theorem xo_113 : ∀ q ∈ xk_113, xok xmt xm_113 q.1 q.2 := xqw_ok (M := xm_113) (G := gx_RX8) gxo_RX8 rfl (hd := [(8, (28, 11, 110, 8, [])), (28, (0, 31, 999, 0, [])), (31, (28, 34, 112, 8, [])), (49, (28, 52, 71, 2, []))]) (by decide +kernel) (by
  refine xcns ?_ <| xcns ?_ <| xcns ?_ <| xcns ?_ <| xnl
  · exact (⟨rfl, _, rfl, ⟨78, dX8_readBaker_8, xw_613, xw_611, xw_612⟩, _, rfl, rfl⟩)
  · exact (xr_sipush dX8_readBaker_28 (by decide +kernel))
  · exact (⟨rfl, _, rfl, ⟨86, dX8_readBaker_31, xw_607, xw_605, xw_606⟩, _, rfl, rfl⟩)
  · exact (⟨rfl, _, rfl, ⟨146, dX8_readBaker_49, xw_618, xw_616, xw_617⟩, _, rfl, rfl⟩)
)
theorem xmo_113 : xMok xmt xm_113 := ⟨xw_619, xw_12, ⟨by decide, by decide, by decide +kernel⟩, by decide +kernel, rfl, xo_113⟩
set_option maxRecDepth 100000 in
set_option maxHeartbeats 4000000 in
theorem xo_114 : ∀ q ∈ xk_114, xok xmt xm_114 q.1 q.2 := xqw_ok (M := xm_114) (G := gx_RX8) gxo_RX8 rfl (hd := [(4, (28, 7, 126, 9, [])), (36, (28, 39, 123, 9, [])), (67, (28, 70, 64, 2, [])), (78, (28, 81, 123, 9, [])), (87, (28, 90, 126, 9, [])), (102, (28, 105, 71, 2, []))]) (by decide +kernel) (by
  refine xcns ?_ <| xcns ?_ <| xcns ?_ <| xcns ?_ <| xcns ?_ <| xcns ?_ <| xnl
  · exact (⟨rfl, _, rfl, ⟨152, dX8_readLaw_4, xw_597, xw_410, xw_411⟩, _, rfl, rfl⟩)
  · exact (⟨rfl, _, rfl, ⟨67, dX8_readLaw_36, xw_596, xw_373, xw_374⟩, _, rfl, rfl⟩)
  · exact (⟨rfl, _, rfl, ⟨155, dX8_readLaw_67, xw_620, xw_531, xw_532⟩, _, rfl, rfl⟩)
  · exact (⟨rfl, _, rfl, ⟨67, dX8_readLaw_78, xw_596, xw_373, xw_374⟩, _, rfl, rfl⟩)
  · exact (⟨rfl, _, rfl, ⟨152, dX8_readLaw_87, xw_597, xw_410, xw_411⟩, _, rfl, rfl⟩)
  · exact (⟨rfl, _, rfl, ⟨146, dX8_readLaw_102, xw_618, xw_616, xw_617⟩, _, rfl, rfl⟩)
)
theorem xmo_114 : xMok xmt xm_114 := ⟨xw_621, xw_12, ⟨by decide, by decide, by decide +kernel⟩, by decide +kernel, rfl, xo_114⟩
set_option maxRecDepth 100000 in
set_option maxHeartbeats 4000000 in
theorem xo_115 : ∀ q ∈ xk_115, xok xmt xm_115 q.1 q.2 := xqw_ok (M := xm_115) (G := gx_RX8) gxo_RX8 rfl (hd := [(3, (28, 6, 119, 8, [])), (14, (28, 17, 123, 9, [])), (37, (28, 40, 112, 8, [])), (66, (28, 69, 123, 9, []))]) (by decide +kernel) (by
  refine xcns ?_ <| xcns ?_ <| xcns ?_ <| xcns ?_ <| xnl
  · exact (⟨rfl, _, rfl, ⟨71, dX8_readPart_3, xw_624, xw_622, xw_623⟩, _, rfl, rfl⟩)
  · exact (⟨rfl, _, rfl, ⟨67, dX8_readPart_14, xw_596, xw_373, xw_374⟩, _, rfl, rfl⟩)
  · exact (⟨rfl, _, rfl, ⟨86, dX8_readPart_37, xw_607, xw_605, xw_606⟩, _, rfl, rfl⟩)
  · exact (⟨rfl, _, rfl, ⟨67, dX8_readPart_66, xw_596, xw_373, xw_374⟩, _, rfl, rfl⟩)
)
theorem xmo_115 : xMok xmt xm_115 := ⟨xw_627, xw_12, ⟨by decide, by decide, by decide +kernel⟩, by decide +kernel, rfl, xo_115⟩
set_option maxRecDepth 100000 in
set_option maxHeartbeats 4000000 in
theorem xo_116 : ∀ q ∈ xk_116, xok xmt xm_116 q.1 q.2 := xqw_ok (M := xm_116) (G := gx_RX8) gxo_RX8 rfl (hd := [(8, (28, 11, 110, 8, [])), (30, (28, 33, 112, 8, [])), (44, (0, 47, 9999, 0, [])), (47, (28, 50, 112, 8, []))]) (by decide +kernel) (by
  refine xcns ?_ <| xcns ?_ <| xcns ?_ <| xcns ?_ <| xnl
  · exact (⟨rfl, _, rfl, ⟨78, dX8_readTavern_8, xw_613, xw_611, xw_612⟩, _, rfl, rfl⟩)
  · exact (⟨rfl, _, rfl, ⟨86, dX8_readTavern_30, xw_607, xw_605, xw_606⟩, _, rfl, rfl⟩)
  · exact (xr_sipush dX8_readTavern_44 (by decide +kernel))
  · exact (⟨rfl, _, rfl, ⟨86, dX8_readTavern_47, xw_607, xw_605, xw_606⟩, _, rfl, rfl⟩)
)
theorem xmo_116 : xMok xmt xm_116 := ⟨xw_631, xw_12, ⟨by decide, by decide, by decide +kernel⟩, by decide +kernel, rfl, xo_116⟩
set_option maxRecDepth 100000 in
set_option maxHeartbeats 4000000 in
theorem xo_117 : ∀ q ∈ xk_117, xok xmt xm_117 q.1 q.2 := xqw_ok (M := xm_117) (G := gx_RX8) gxo_RX8 rfl (hd := [(8, (28, 11, 110, 8, [])), (23, (47, 26, 34, 0, [])), (26, (28, 29, 115, 8, [])), (54, (28, 57, 123, 9, []))]) (by decide +kernel) (by
  refine xcns ?_ <| xcns ?_ <| xcns ?_ <| xcns ?_ <| xnl
  · exact (⟨rfl, _, rfl, ⟨78, dX8_readVerse_8, xw_613, xw_611, xw_612⟩, _, rfl, rfl⟩)
  · exact (⟨rfl, _, rfl, ⟨121, dX8_readVerse_23, _, List.mem_of_getElem? (i := 4) rfl, xw_77⟩⟩)
  · exact (⟨rfl, _, rfl, ⟨124, dX8_readVerse_26, xw_635, xw_633, xw_634⟩, _, rfl, rfl⟩)
  · exact (⟨rfl, _, rfl, ⟨67, dX8_readVerse_54, xw_596, xw_373, xw_374⟩, _, rfl, rfl⟩)
)
theorem xmo_117 : xMok xmt xm_117 := ⟨xw_637, xw_12, ⟨by decide, by decide, by decide +kernel⟩, by decide +kernel, rfl, xo_117⟩
set_option maxRecDepth 100000 in
set_option maxHeartbeats 4000000 in
theorem xo_118 : ∀ q ∈ xk_118, xok xmt xm_118 q.1 q.2 := xqw_ok (M := xm_118) (G := gx_RX8) gxo_RX8 rfl (hd := [(8, (28, 11, 110, 8, [])), (30, (28, 33, 112, 8, [])), (54, (28, 57, 112, 8, [])), (91, (28, 94, 119, 8, [])), (109, (17, 112, 4, 16, [(0, 0)])), (115, (28, 118, 119, 8, [])), (130, (28, 133, 121, 8, [])), (146, (28, 149, 112, 8, [])), (153, (28, 156, 119, 8, [])), (171, (28, 174, 112, 8, []))]) (by decide +kernel) (by
  refine xcns ?_ <| xcns ?_ <| xcns ?_ <| xcns ?_ <| xcns ?_ <| xcns ?_ <| xcns ?_ <| xcns ?_ <| xcns ?_ <| xcns ?_ <| xnl
  · exact (⟨rfl, _, rfl, ⟨78, dX8_readVoice_8, xw_613, xw_611, xw_612⟩, _, rfl, rfl⟩)
  · exact (⟨rfl, _, rfl, ⟨86, dX8_readVoice_30, xw_607, xw_605, xw_606⟩, _, rfl, rfl⟩)
  · exact (⟨rfl, _, rfl, ⟨86, dX8_readVoice_54, xw_607, xw_605, xw_606⟩, _, rfl, rfl⟩)
  · exact (⟨rfl, _, rfl, ⟨71, dX8_readVoice_91, xw_624, xw_622, xw_623⟩, _, rfl, rfl⟩)
  · exact (⟨.int, false, 0, rfl, xr_putf dX8_readVoice_109 (show vwCl[4]? = some (RX4, TX4, 19) from rfl) (by decide) xin_X4 tyX4_ok nmX4 xw_644 rfl (rfl : tyX4 16 = .int), fun h => (by cases h)⟩)
  · exact (⟨rfl, _, rfl, ⟨71, dX8_readVoice_115, xw_624, xw_622, xw_623⟩, _, rfl, rfl⟩)
  · exact (⟨rfl, _, rfl, ⟨114, dX8_readVoice_130, xw_647, xw_645, xw_646⟩, _, rfl, rfl⟩)
  · exact (⟨rfl, _, rfl, ⟨86, dX8_readVoice_146, xw_607, xw_605, xw_606⟩, _, rfl, rfl⟩)
  · exact (⟨rfl, _, rfl, ⟨71, dX8_readVoice_153, xw_624, xw_622, xw_623⟩, _, rfl, rfl⟩)
  · exact (⟨rfl, _, rfl, ⟨86, dX8_readVoice_171, xw_607, xw_605, xw_606⟩, _, rfl, rfl⟩)
)
theorem xmo_118 : xMok xmt xm_118 := ⟨xw_648, xw_12, ⟨by decide, by decide, by decide +kernel⟩, by decide +kernel, rfl, xo_118⟩
set_option maxRecDepth 100000 in
set_option maxHeartbeats 4000000 in
theorem xo_119 : ∀ q ∈ xk_119, xok xmt xm_119 q.1 q.2 := xqw_ok (M := xm_119) (G := gx_RX8) gxo_RX8 rfl (hd := [(17, (28, 20, 126, 9, []))]) (by decide +kernel) (by
  refine xcns ?_ <| xnl
  · exact (⟨rfl, _, rfl, ⟨152, dX8_skips_17, xw_597, xw_410, xw_411⟩, _, rfl, rfl⟩)
)
theorem xmo_119 : xMok xmt xm_119 := ⟨xw_649, xw_12, ⟨by decide, by decide, by decide +kernel⟩, by decide +kernel, rfl, xo_119⟩
set_option maxRecDepth 100000 in
set_option maxHeartbeats 4000000 in
theorem xo_120 : ∀ q ∈ xk_120, xok xmt xm_120 q.1 q.2 := xqw_ok (M := xm_120) (G := gx_RX8) gxo_RX8 rfl (hd := [(4, (28, 7, 77, 4, [])), (9, (17, 12, 8, 2, [(3, 0)])), (14, (17, 17, 8, 3, [(3, 0)])), (22, (28, 25, 132, 9, [])), (30, (0, 33, 800, 0, [])), (53, (15, 0, 182, 0, [(17, 96), (18, 103), (19, 110), (20, 117), (21, 124), (22, 150), (23, 175)])), (97, (28, 100, 116, 8, [])), (104, (28, 107, 118, 8, [])), (111, (28, 114, 117, 8, [])), (118, (28, 121, 113, 8, [])), (133, (0, 136, 999, 0, [])), (136, (28, 139, 111, 8, [])), (139, (17, 142, 4, 17, [(0, 0)])), (144, (17, 147, 8, 2, [(3, 0)])), (159, (0, 161, 99999, 0, [])), (161, (28, 164, 111, 8, [])), (164, (17, 167, 4, 18, [(0, 0)])), (169, (17, 172, 8, 3, [(3, 0)])), (176, (28, 179, 114, 8, [])), (187, (28, 190, 123, 9, [])), (193, (28, 196, 119, 8, [])), (210, (28, 213, 123, 9, []))]) (by decide +kernel) (by
  refine xcns ?_ <| xcns ?_ <| xcns ?_ <| xcns ?_ <| xcns ?_ <| xcns ?_ <| xcns ?_ <| xcns ?_ <| xcns ?_ <| xcns ?_ <| xcns ?_ <| xcns ?_ <| xcns ?_ <| xcns ?_ <| xcns ?_ <| xcns ?_ <| xcns ?_ <| xcns ?_ <| xcns ?_ <| xcns ?_ <| xcns ?_ <| xcns ?_ <| xnl
  · exact (⟨rfl, _, rfl, ⟨26, dX8_tell_4, xw_652, xw_650, xw_651⟩, _, rfl, rfl⟩)
  · exact (⟨.boolean, false, 0, rfl, xr_putf dX8_tell_9 (show vwCl[8]? = some (RX8, TX8, 4) from rfl) (by decide) xin_X8 tyX8_ok nmX8 xw_590 rfl (rfl : tyX8 2 = .boolean), fun h => (by cases h)⟩)
  · exact (⟨.boolean, false, 0, rfl, xr_putf dX8_tell_14 (show vwCl[8]? = some (RX8, TX8, 4) from rfl) (by decide) xin_X8 tyX8_ok nmX8 xw_591 rfl (rfl : tyX8 3 = .boolean), fun h => (by cases h)⟩)
  · exact (⟨rfl, _, rfl, ⟨31, dX8_tell_22, xw_655, xw_653, xw_654⟩, _, rfl, rfl⟩)
  · exact (xr_sipush dX8_tell_30 (by decide +kernel))
  · exact (xr_tableL (lo := 17) dX8_tell_53 (by decide) (by decide) (by decide) (by decide))
  · exact (⟨rfl, _, rfl, ⟨41, dX8_tell_97, xw_658, xw_656, xw_657⟩, _, rfl, rfl⟩)
  · exact (⟨rfl, _, rfl, ⟨44, dX8_tell_104, xw_661, xw_659, xw_660⟩, _, rfl, rfl⟩)
  · exact (⟨rfl, _, rfl, ⟨47, dX8_tell_111, xw_664, xw_662, xw_663⟩, _, rfl, rfl⟩)
  · exact (⟨rfl, _, rfl, ⟨50, dX8_tell_118, xw_667, xw_665, xw_666⟩, _, rfl, rfl⟩)
  · exact (xr_sipush dX8_tell_133 (by decide +kernel))
  · exact (⟨rfl, _, rfl, ⟨53, dX8_tell_136, xw_670, xw_668, xw_669⟩, _, rfl, rfl⟩)
  · exact (⟨.int, false, 0, rfl, xr_putf dX8_tell_139 (show vwCl[4]? = some (RX4, TX4, 19) from rfl) (by decide) xin_X4 tyX4_ok nmX4 xw_671 rfl (rfl : tyX4 17 = .int), fun h => (by cases h)⟩)
  · exact (⟨.boolean, false, 0, rfl, xr_putf dX8_tell_144 (show vwCl[8]? = some (RX8, TX8, 4) from rfl) (by decide) xin_X8 tyX8_ok nmX8 xw_590 rfl (rfl : tyX8 2 = .boolean), fun h => (by cases h)⟩)
  · exact (xr_ldc dX8_tell_159 xw_672)
  · exact (⟨rfl, _, rfl, ⟨53, dX8_tell_161, xw_670, xw_668, xw_669⟩, _, rfl, rfl⟩)
  · exact (⟨.int, false, 0, rfl, xr_putf dX8_tell_164 (show vwCl[4]? = some (RX4, TX4, 19) from rfl) (by decide) xin_X4 tyX4_ok nmX4 xw_673 rfl (rfl : tyX4 18 = .int), fun h => (by cases h)⟩)
  · exact (⟨.boolean, false, 0, rfl, xr_putf dX8_tell_169 (show vwCl[8]? = some (RX8, TX8, 4) from rfl) (by decide) xin_X8 tyX8_ok nmX8 xw_591 rfl (rfl : tyX8 3 = .boolean), fun h => (by cases h)⟩)
  · exact (⟨rfl, _, rfl, ⟨64, dX8_tell_176, xw_676, xw_674, xw_675⟩, _, rfl, rfl⟩)
  · exact (⟨rfl, _, rfl, ⟨67, dX8_tell_187, xw_596, xw_373, xw_374⟩, _, rfl, rfl⟩)
  · exact (⟨rfl, _, rfl, ⟨71, dX8_tell_193, xw_624, xw_622, xw_623⟩, _, rfl, rfl⟩)
  · exact (⟨rfl, _, rfl, ⟨67, dX8_tell_210, xw_596, xw_373, xw_374⟩, _, rfl, rfl⟩)
)
theorem xmo_120 : xMok xmt xm_120 := ⟨xw_677, xw_12, ⟨by decide, by decide, by decide +kernel⟩, by decide +kernel, rfl, xo_120⟩
set_option maxRecDepth 100000 in
set_option maxHeartbeats 4000000 in
theorem xo_121 : ∀ q ∈ xk_121, xok xmt xm_121 q.1 q.2 := xqw_ok (M := xm_121) (G := gx_RX8) gxo_RX8 rfl (hd := [(16, (28, 19, 123, 9, [])), (36, (28, 39, 102, 6, [])), (50, (28, 53, 123, 9, [])), (58, (28, 61, 126, 9, []))]) (by decide +kernel) (by
  refine xcns ?_ <| xcns ?_ <| xcns ?_ <| xcns ?_ <| xnl
  · exact (⟨rfl, _, rfl, ⟨67, dX8_toldTavern_16, xw_596, xw_373, xw_374⟩, _, rfl, rfl⟩)
  · exact (⟨rfl, _, rfl, ⟨167, dX8_toldTavern_36, xw_600, xw_185, xw_186⟩, _, rfl, rfl⟩)
  · exact (⟨rfl, _, rfl, ⟨67, dX8_toldTavern_50, xw_596, xw_373, xw_374⟩, _, rfl, rfl⟩)
  · exact (⟨rfl, _, rfl, ⟨152, dX8_toldTavern_58, xw_597, xw_410, xw_411⟩, _, rfl, rfl⟩)
)
theorem xmo_121 : xMok xmt xm_121 := ⟨xw_678, xw_12, ⟨by decide, by decide, by decide +kernel⟩, by decide +kernel, rfl, xo_121⟩
end
section
set_option maxRecDepth 100000 in
set_option maxHeartbeats 4000000 in
theorem xo_122 : ∀ q ∈ xk_122, xok xmt xm_122 q.1 q.2 := xqw_ok (M := xm_122) (G := gx_RX9) gxo_RX9 rfl (hd := [(1, (25, 4, 0, 0, [])), (7, (23, 9, 0, 0, [])), (9, (17, 12, 9, 1, [(4, 0)])), (14, (17, 17, 9, 2, [(0, 0)])), (19, (17, 22, 9, 3, [(0, 0)])), (24, (17, 27, 9, 4, [(0, 0)])), (29, (17, 32, 9, 5, [(0, 0)])), (34, (17, 37, 9, 6, [(0, 0)])), (39, (17, 42, 9, 7, [(0, 0)])), (44, (17, 47, 9, 8, [(0, 0)])), (49, (17, 52, 9, 0, [(4, 0)])), (53, (33, 55, 0, 0, [])), (56, (28, 59, 127, 9, [])), (60, (33, 62, 1, 0, [])), (64, (28, 67, 127, 9, []))]) (by decide +kernel) (by
  refine xcns ?_ <| xcns ?_ <| xcns ?_ <| xcns ?_ <| xcns ?_ <| xcns ?_ <| xcns ?_ <| xcns ?_ <| xcns ?_ <| xcns ?_ <| xcns ?_ <| xcns ?_ <| xcns ?_ <| xcns ?_ <| xcns ?_ <| xnl
  · exact (xr_oinit dX9_init_1 xw_679 xw_1 xw_oc)
  · exact (⟨by decide, xr_newa dX9_init_7 rfl xw_272⟩)
  · exact (⟨(.array .int), true, 0, rfl, xr_putF dX9_init_9 (show vwCl[9]? = some (RX9, TX9, 9) from rfl) (by decide) xin_X9 tyX9_ok nmX9 xw_680 rfl (rfl : tyX9 1 = (.array .int)) rfl, fun _ => rfl⟩)
  · exact (⟨.int, false, 0, rfl, xr_putf dX9_init_14 (show vwCl[9]? = some (RX9, TX9, 9) from rfl) (by decide) xin_X9 tyX9_ok nmX9 xw_681 rfl (rfl : tyX9 2 = .int), fun h => (by cases h)⟩)
  · exact (⟨.int, false, 0, rfl, xr_putf dX9_init_19 (show vwCl[9]? = some (RX9, TX9, 9) from rfl) (by decide) xin_X9 tyX9_ok nmX9 xw_682 rfl (rfl : tyX9 3 = .int), fun h => (by cases h)⟩)
  · exact (⟨.int, false, 0, rfl, xr_putf dX9_init_24 (show vwCl[9]? = some (RX9, TX9, 9) from rfl) (by decide) xin_X9 tyX9_ok nmX9 xw_683 rfl (rfl : tyX9 4 = .int), fun h => (by cases h)⟩)
  · exact (⟨.int, false, 0, rfl, xr_putf dX9_init_29 (show vwCl[9]? = some (RX9, TX9, 9) from rfl) (by decide) xin_X9 tyX9_ok nmX9 xw_684 rfl (rfl : tyX9 5 = .int), fun h => (by cases h)⟩)
  · exact (⟨.int, false, 0, rfl, xr_putf dX9_init_34 (show vwCl[9]? = some (RX9, TX9, 9) from rfl) (by decide) xin_X9 tyX9_ok nmX9 xw_685 rfl (rfl : tyX9 6 = .int), fun h => (by cases h)⟩)
  · exact (⟨.int, false, 0, rfl, xr_putf dX9_init_39 (show vwCl[9]? = some (RX9, TX9, 9) from rfl) (by decide) xin_X9 tyX9_ok nmX9 xw_686 rfl (rfl : tyX9 7 = .int), fun h => (by cases h)⟩)
  · exact (⟨.int, false, 0, rfl, xr_putf dX9_init_44 (show vwCl[9]? = some (RX9, TX9, 9) from rfl) (by decide) xin_X9 tyX9_ok nmX9 xw_687 rfl (rfl : tyX9 8 = .int), fun h => (by cases h)⟩)
  · exact (⟨(.array .byte), true, 0, rfl, xr_putF dX9_init_49 (show vwCl[9]? = some (RX9, TX9, 9) from rfl) (by decide) xin_X9 tyX9_ok nmX9 xw_688 rfl (rfl : tyX9 0 = (.array .byte)) rfl, fun _ => rfl⟩)
  · exact (xr_ldcs0 dX9_init_53)
  · exact (⟨rfl, _, rfl, ⟨43, dX9_init_56, xw_691, xw_689, xw_690⟩, _, rfl, rfl⟩)
  · exact (xr_ldcs1 dX9_init_60)
  · exact (⟨rfl, _, rfl, ⟨43, dX9_init_64, xw_691, xw_689, xw_690⟩, _, rfl, rfl⟩)
)
theorem xmo_122 : xMok xmt xm_122 := ⟨xw_692, xw_15, ⟨by decide, by decide, by decide +kernel⟩, by decide +kernel, rfl, xo_122⟩
set_option maxRecDepth 100000 in
set_option maxHeartbeats 4000000 in
theorem xo_123 : ∀ q ∈ xk_123, xok xmt xm_123 q.1 q.2 := xqw_ok (M := xm_123) (G := gx_RX9) gxo_RX9 rfl (hd := [(9, (17, 12, 9, 7, [(0, 0)])), (17, (17, 20, 9, 8, [(0, 0)])), (22, (17, 25, 9, 4, [(0, 0)]))]) (by decide +kernel) (by
  refine xcns ?_ <| xcns ?_ <| xcns ?_ <| xnl
  · exact (⟨.int, false, 0, rfl, xr_putf dX9_fail_9 (show vwCl[9]? = some (RX9, TX9, 9) from rfl) (by decide) xin_X9 tyX9_ok nmX9 xw_686 rfl (rfl : tyX9 7 = .int), fun h => (by cases h)⟩)
  · exact (⟨.int, false, 0, rfl, xr_putf dX9_fail_17 (show vwCl[9]? = some (RX9, TX9, 9) from rfl) (by decide) xin_X9 tyX9_ok nmX9 xw_687 rfl (rfl : tyX9 8 = .int), fun h => (by cases h)⟩)
  · exact (⟨.int, false, 0, rfl, xr_putf dX9_fail_22 (show vwCl[9]? = some (RX9, TX9, 9) from rfl) (by decide) xin_X9 tyX9_ok nmX9 xw_683 rfl (rfl : tyX9 4 = .int), fun h => (by cases h)⟩)
)
theorem xmo_123 : xMok xmt xm_123 := ⟨xw_693, xw_15, ⟨by decide, by decide, by decide +kernel⟩, by decide +kernel, rfl, xo_123⟩
set_option maxRecDepth 100000 in
set_option maxHeartbeats 4000000 in
theorem xo_124 : ∀ q ∈ xk_124, xok xmt xm_124 q.1 q.2 := xqw_ok (M := xm_124) (G := gx_RX9) gxo_RX9 rfl (hd := []) (by decide +kernel) (xnl)
theorem xmo_124 : xMok xmt xm_124 := ⟨xw_694, xw_15, ⟨by decide, by decide, by decide +kernel⟩, by decide +kernel, rfl, xo_124⟩
set_option maxRecDepth 100000 in
set_option maxHeartbeats 4000000 in
theorem xo_125 : ∀ q ∈ xk_125, xok xmt xm_125 q.1 q.2 := xqw_ok (M := xm_125) (G := gx_RX9) gxo_RX9 rfl (hd := []) (by decide +kernel) (xnl)
theorem xmo_125 : xMok xmt xm_125 := ⟨xw_695, xw_15, ⟨by decide, by decide, by decide +kernel⟩, by decide +kernel, rfl, xo_125⟩
set_option maxRecDepth 100000 in
set_option maxHeartbeats 4000000 in
theorem xo_126 : ∀ q ∈ xk_126, xok xmt xm_126 q.1 q.2 := xqw_ok (M := xm_126) (G := gx_RX9) gxo_RX9 rfl (hd := [(54, (17, 57, 9, 3, [(0, 0)])), (65, (17, 68, 9, 5, [(0, 0)])), (70, (17, 73, 9, 6, [(0, 0)])), (86, (17, 89, 9, 4, [(0, 0)])), (101, (27, 104, 125, 0, [])), (108, (28, 111, 130, 9, [])), (123, (27, 126, 124, 0, [])), (130, (28, 133, 128, 9, [])), (137, (28, 140, 129, 9, []))]) (by decide +kernel) (by
  refine xcns ?_ <| xcns ?_ <| xcns ?_ <| xcns ?_ <| xcns ?_ <| xcns ?_ <| xcns ?_ <| xcns ?_ <| xcns ?_ <| xnl
  · exact (⟨.int, false, 0, rfl, xr_putf dX9_next_54 (show vwCl[9]? = some (RX9, TX9, 9) from rfl) (by decide) xin_X9 tyX9_ok nmX9 xw_682 rfl (rfl : tyX9 3 = .int), fun h => (by cases h)⟩)
  · exact (⟨.int, false, 0, rfl, xr_putf dX9_next_65 (show vwCl[9]? = some (RX9, TX9, 9) from rfl) (by decide) xin_X9 tyX9_ok nmX9 xw_684 rfl (rfl : tyX9 5 = .int), fun h => (by cases h)⟩)
  · exact (⟨.int, false, 0, rfl, xr_putf dX9_next_70 (show vwCl[9]? = some (RX9, TX9, 9) from rfl) (by decide) xin_X9 tyX9_ok nmX9 xw_685 rfl (rfl : tyX9 6 = .int), fun h => (by cases h)⟩)
  · exact (⟨.int, false, 0, rfl, xr_putf dX9_next_86 (show vwCl[9]? = some (RX9, TX9, 9) from rfl) (by decide) xin_X9 tyX9_ok nmX9 xw_683 rfl (rfl : tyX9 4 = .int), fun h => (by cases h)⟩)
  · exact (⟨rfl, _, rfl, ⟨68, dX9_next_101, xw_696, xw_697⟩⟩)
  · exact (⟨rfl, _, rfl, ⟨72, dX9_next_108, xw_700, xw_698, xw_699⟩, _, rfl, rfl⟩)
  · exact (⟨rfl, _, rfl, ⟨75, dX9_next_123, xw_701, xw_702⟩⟩)
  · exact (⟨rfl, _, rfl, ⟨78, dX9_next_130, xw_705, xw_703, xw_704⟩, _, rfl, rfl⟩)
  · exact (⟨rfl, _, rfl, ⟨81, dX9_next_137, xw_708, xw_706, xw_707⟩, _, rfl, rfl⟩)
)
theorem xmo_126 : xMok xmt xm_126 := ⟨xw_709, xw_15, ⟨by decide, by decide, by decide +kernel⟩, by decide +kernel, rfl, xo_126⟩
set_option maxRecDepth 100000 in
set_option maxHeartbeats 4000000 in
theorem xo_127 : ∀ q ∈ xk_127, xok xmt xm_127 q.1 q.2 := xqw_ok (M := xm_127) (G := gx_RX9) gxo_RX9 rfl (hd := [(12, (39, 15, 261, 0, [])), (27, (39, 30, 257, 0, []))]) (by decide +kernel) (by
  refine xcns ?_ <| xcns ?_ <| xnl
  · exact (⟨rfl, _, rfl, ⟨49, dX9_packWords_12, xw_712, xw_710, xw_711⟩, rfl⟩)
  · exact (⟨rfl, _, rfl, ⟨55, dX9_packWords_27, xw_715, xw_713, xw_714⟩, rfl⟩)
)
theorem xmo_127 : xMok xmt xm_127 := ⟨xw_716, xw_15, ⟨by decide, by decide, by decide +kernel⟩, by decide +kernel, rfl, xo_127⟩
set_option maxRecDepth 100000 in
set_option maxHeartbeats 4000000 in
theorem xo_128 : ∀ q ∈ xk_128, xok xmt xm_128 q.1 q.2 := xqw_ok (M := xm_128) (G := gx_RX9) gxo_RX9 rfl (hd := [(20, (27, 23, 124, 0, [])), (47, (0, 49, 1000000, 0, [])), (49, (70, 52, 0, 0, [])), (52, (17, 55, 9, 6, [(0, 0)])), (62, (17, 65, 9, 3, [(0, 0)])), (70, (17, 73, 9, 4, [(0, 0)]))]) (by decide +kernel) (by
  refine xcns ?_ <| xcns ?_ <| xcns ?_ <| xcns ?_ <| xcns ?_ <| xcns ?_ <| xnl
  · exact (⟨rfl, _, rfl, ⟨75, dX9_readNumber_20, xw_701, xw_702⟩⟩)
  · exact (xr_ldc dX9_readNumber_47 xw_717)
  · exact (fun x y => xr_mmin dX9_readNumber_49 xv_21 xv_1 xv_2 xv_3 x y)
  · exact (⟨.int, false, 0, rfl, xr_putf dX9_readNumber_52 (show vwCl[9]? = some (RX9, TX9, 9) from rfl) (by decide) xin_X9 tyX9_ok nmX9 xw_685 rfl (rfl : tyX9 6 = .int), fun h => (by cases h)⟩)
  · exact (⟨.int, false, 0, rfl, xr_putf dX9_readNumber_62 (show vwCl[9]? = some (RX9, TX9, 9) from rfl) (by decide) xin_X9 tyX9_ok nmX9 xw_682 rfl (rfl : tyX9 3 = .int), fun h => (by cases h)⟩)
  · exact (⟨.int, false, 0, rfl, xr_putf dX9_readNumber_70 (show vwCl[9]? = some (RX9, TX9, 9) from rfl) (by decide) xin_X9 tyX9_ok nmX9 xw_683 rfl (rfl : tyX9 4 = .int), fun h => (by cases h)⟩)
)
theorem xmo_128 : xMok xmt xm_128 := ⟨xw_719, xw_15, ⟨by decide, by decide, by decide +kernel⟩, by decide +kernel, rfl, xo_128⟩
set_option maxRecDepth 100000 in
set_option maxHeartbeats 4000000 in
theorem xo_129 : ∀ q ∈ xk_129, xok xmt xm_129 q.1 q.2 := xqw_ok (M := xm_129) (G := gx_RX9) gxo_RX9 rfl (hd := [(40, (27, 43, 131, 0, [])), (43, (17, 46, 9, 4, [(0, 0)])), (94, (17, 97, 9, 3, [(0, 0)]))]) (by decide +kernel) (by
  refine xcns ?_ <| xcns ?_ <| xcns ?_ <| xnl
  · exact (⟨rfl, _, rfl, ⟨85, dX9_readSign_40, xw_720, xw_721⟩⟩)
  · exact (⟨.int, false, 0, rfl, xr_putf dX9_readSign_43 (show vwCl[9]? = some (RX9, TX9, 9) from rfl) (by decide) xin_X9 tyX9_ok nmX9 xw_683 rfl (rfl : tyX9 4 = .int), fun h => (by cases h)⟩)
  · exact (⟨.int, false, 0, rfl, xr_putf dX9_readSign_94 (show vwCl[9]? = some (RX9, TX9, 9) from rfl) (by decide) xin_X9 tyX9_ok nmX9 xw_682 rfl (rfl : tyX9 3 = .int), fun h => (by cases h)⟩)
)
theorem xmo_129 : xMok xmt xm_129 := ⟨xw_722, xw_15, ⟨by decide, by decide, by decide +kernel⟩, by decide +kernel, rfl, xo_129⟩
set_option maxRecDepth 100000 in
set_option maxHeartbeats 4000000 in
theorem xo_130 : ∀ q ∈ xk_130, xok xmt xm_130 q.1 q.2 := xqw_ok (M := xm_130) (G := gx_RX9) gxo_RX9 rfl (hd := [(23, (27, 26, 125, 0, [])), (55, (17, 58, 9, 6, [(0, 0)])), (68, (17, 71, 9, 3, [(0, 0)])), (86, (17, 89, 9, 4, [(0, 0)])), (123, (17, 126, 9, 4, [(0, 0)]))]) (by decide +kernel) (by
  refine xcns ?_ <| xcns ?_ <| xcns ?_ <| xcns ?_ <| xcns ?_ <| xnl
  · exact (⟨rfl, _, rfl, ⟨68, dX9_readWord_23, xw_696, xw_697⟩⟩)
  · exact (⟨.int, false, 0, rfl, xr_putf dX9_readWord_55 (show vwCl[9]? = some (RX9, TX9, 9) from rfl) (by decide) xin_X9 tyX9_ok nmX9 xw_685 rfl (rfl : tyX9 6 = .int), fun h => (by cases h)⟩)
  · exact (⟨.int, false, 0, rfl, xr_putf dX9_readWord_68 (show vwCl[9]? = some (RX9, TX9, 9) from rfl) (by decide) xin_X9 tyX9_ok nmX9 xw_682 rfl (rfl : tyX9 3 = .int), fun h => (by cases h)⟩)
  · exact (⟨.int, false, 0, rfl, xr_putf dX9_readWord_86 (show vwCl[9]? = some (RX9, TX9, 9) from rfl) (by decide) xin_X9 tyX9_ok nmX9 xw_683 rfl (rfl : tyX9 4 = .int), fun h => (by cases h)⟩)
  · exact (⟨.int, false, 0, rfl, xr_putf dX9_readWord_123 (show vwCl[9]? = some (RX9, TX9, 9) from rfl) (by decide) xin_X9 tyX9_ok nmX9 xw_683 rfl (rfl : tyX9 4 = .int), fun h => (by cases h)⟩)
)
theorem xmo_130 : xMok xmt xm_130 := ⟨xw_723, xw_15, ⟨by decide, by decide, by decide +kernel⟩, by decide +kernel, rfl, xo_130⟩
set_option maxRecDepth 100000 in
set_option maxHeartbeats 4000000 in
theorem xo_131 : ∀ q ∈ xk_131, xok xmt xm_131 q.1 q.2 := xqw_ok (M := xm_131) (G := gx_RX9) gxo_RX9 rfl (hd := [(1, (15, 0, 169, 0, [(40, 110), (41, 112), (42, 163), (43, 157), (44, 169), (45, 160), (46, 169), (47, 166), (48, 169), (49, 169), (50, 169), (51, 169), (52, 169), (53, 169), (54, 169), (55, 169), (56, 169), (57, 169), (58, 169), (59, 108), (60, 115), (61, 140), (62, 143)]))]) (by decide +kernel) (by
  refine xcns ?_ <| xnl
  · exact (xr_tableL (lo := 40) dX9_signKind_1 (by decide) (by decide) (by decide) (by decide))
)
theorem xmo_131 : xMok xmt xm_131 := ⟨xw_724, xw_15, ⟨by decide, by decide, by decide +kernel⟩, by decide +kernel, rfl, xo_131⟩
set_option maxRecDepth 100000 in
set_option maxHeartbeats 4000000 in
theorem xo_132 : ∀ q ∈ xk_132, xok xmt xm_132 q.1 q.2 := xqw_ok (M := xm_132) (G := gx_RX9) gxo_RX9 rfl (hd := [(7, (70, 10, 0, 0, [])), (10, (17, 13, 9, 2, [(0, 0)])), (15, (17, 18, 9, 3, [(0, 0)])), (20, (17, 23, 9, 7, [(0, 0)])), (25, (17, 28, 9, 8, [(0, 0)])), (29, (28, 32, 126, 9, []))]) (by decide +kernel) (by
  refine xcns ?_ <| xcns ?_ <| xcns ?_ <| xcns ?_ <| xcns ?_ <| xcns ?_ <| xnl
  · exact (fun x y => xr_mmin dX9_start_7 xv_21 xv_1 xv_2 xv_3 x y)
  · exact (⟨.int, false, 0, rfl, xr_putf dX9_start_10 (show vwCl[9]? = some (RX9, TX9, 9) from rfl) (by decide) xin_X9 tyX9_ok nmX9 xw_681 rfl (rfl : tyX9 2 = .int), fun h => (by cases h)⟩)
  · exact (⟨.int, false, 0, rfl, xr_putf dX9_start_15 (show vwCl[9]? = some (RX9, TX9, 9) from rfl) (by decide) xin_X9 tyX9_ok nmX9 xw_682 rfl (rfl : tyX9 3 = .int), fun h => (by cases h)⟩)
  · exact (⟨.int, false, 0, rfl, xr_putf dX9_start_20 (show vwCl[9]? = some (RX9, TX9, 9) from rfl) (by decide) xin_X9 tyX9_ok nmX9 xw_686 rfl (rfl : tyX9 7 = .int), fun h => (by cases h)⟩)
  · exact (⟨.int, false, 0, rfl, xr_putf dX9_start_25 (show vwCl[9]? = some (RX9, TX9, 9) from rfl) (by decide) xin_X9 tyX9_ok nmX9 xw_687 rfl (rfl : tyX9 8 = .int), fun h => (by cases h)⟩)
  · exact (⟨rfl, _, rfl, ⟨65, dX9_start_29, xw_725, xw_410, xw_411⟩, _, rfl, rfl⟩)
)
theorem xmo_132 : xMok xmt xm_132 := ⟨xw_726, xw_15, ⟨by decide, by decide, by decide +kernel⟩, by decide +kernel, rfl, xo_132⟩
set_option maxRecDepth 100000 in
set_option maxHeartbeats 4000000 in
theorem xo_133 : ∀ q ∈ xk_133, xok xmt xm_133 q.1 q.2 := xqw_ok (M := xm_133) (G := gx_RX10) gxo_RX10 rfl (hd := [(1, (25, 4, 0, 0, [])), (6, (23, 8, 0, 0, [])), (8, (17, 11, 10, 0, [(4, 0)])), (14, (23, 16, 0, 0, [])), (16, (17, 19, 10, 1, [(4, 0)])), (21, (23, 23, 0, 0, [])), (23, (17, 26, 10, 2, [(4, 0)])), (29, (23, 31, 0, 0, [])), (31, (17, 34, 10, 3, [(4, 0)])), (37, (23, 39, 0, 0, [])), (39, (17, 42, 10, 4, [(4, 0)])), (45, (23, 47, 0, 0, [])), (47, (17, 50, 10, 5, [(4, 0)])), (52, (17, 55, 10, 6, [(0, 0)])), (57, (17, 60, 10, 7, [(0, 0)])), (62, (17, 65, 10, 8, [(0, 0)])), (67, (17, 70, 10, 9, [(0, 0)])), (72, (17, 75, 10, 10, [(0, 0)])), (77, (17, 80, 10, 11, [(0, 0)])), (82, (17, 85, 10, 12, [(0, 0)]))]) (by decide +kernel) (by
  refine xcns ?_ <| xcns ?_ <| xcns ?_ <| xcns ?_ <| xcns ?_ <| xcns ?_ <| xcns ?_ <| xcns ?_ <| xcns ?_ <| xcns ?_ <| xcns ?_ <| xcns ?_ <| xcns ?_ <| xcns ?_ <| xcns ?_ <| xcns ?_ <| xcns ?_ <| xcns ?_ <| xcns ?_ <| xcns ?_ <| xnl
  · exact (xr_oinit dX10_init_1 xw_727 xw_1 xw_oc)
  · exact (⟨by decide, xr_newa dX10_init_6 rfl xw_272⟩)
  · exact (⟨(.array .int), true, 0, rfl, xr_putF dX10_init_8 (show vwCl[10]? = some (RX10, TX10, 13) from rfl) (by decide) xin_X10 tyX10_ok nmX10 xw_728 rfl (rfl : tyX10 0 = (.array .int)) rfl, fun _ => rfl⟩)
  · exact (⟨by decide, xr_newa dX10_init_14 rfl xw_272⟩)
  · exact (⟨(.array .int), true, 0, rfl, xr_putF dX10_init_16 (show vwCl[10]? = some (RX10, TX10, 13) from rfl) (by decide) xin_X10 tyX10_ok nmX10 xw_729 rfl (rfl : tyX10 1 = (.array .int)) rfl, fun _ => rfl⟩)
  · exact (⟨by decide, xr_newa dX10_init_21 rfl xw_272⟩)
  · exact (⟨(.array .int), true, 0, rfl, xr_putF dX10_init_23 (show vwCl[10]? = some (RX10, TX10, 13) from rfl) (by decide) xin_X10 tyX10_ok nmX10 xw_730 rfl (rfl : tyX10 2 = (.array .int)) rfl, fun _ => rfl⟩)
  · exact (⟨by decide, xr_newa dX10_init_29 rfl xw_272⟩)
  · exact (⟨(.array .int), true, 0, rfl, xr_putF dX10_init_31 (show vwCl[10]? = some (RX10, TX10, 13) from rfl) (by decide) xin_X10 tyX10_ok nmX10 xw_731 rfl (rfl : tyX10 3 = (.array .int)) rfl, fun _ => rfl⟩)
  · exact (⟨by decide, xr_newa dX10_init_37 rfl xw_272⟩)
  · exact (⟨(.array .int), true, 0, rfl, xr_putF dX10_init_39 (show vwCl[10]? = some (RX10, TX10, 13) from rfl) (by decide) xin_X10 tyX10_ok nmX10 xw_732 rfl (rfl : tyX10 4 = (.array .int)) rfl, fun _ => rfl⟩)
  · exact (⟨by decide, xr_newa dX10_init_45 rfl xw_272⟩)
  · exact (⟨(.array .int), true, 0, rfl, xr_putF dX10_init_47 (show vwCl[10]? = some (RX10, TX10, 13) from rfl) (by decide) xin_X10 tyX10_ok nmX10 xw_733 rfl (rfl : tyX10 5 = (.array .int)) rfl, fun _ => rfl⟩)
  · exact (⟨.int, false, 0, rfl, xr_putf dX10_init_52 (show vwCl[10]? = some (RX10, TX10, 13) from rfl) (by decide) xin_X10 tyX10_ok nmX10 xw_734 rfl (rfl : tyX10 6 = .int), fun h => (by cases h)⟩)
  · exact (⟨.int, false, 0, rfl, xr_putf dX10_init_57 (show vwCl[10]? = some (RX10, TX10, 13) from rfl) (by decide) xin_X10 tyX10_ok nmX10 xw_735 rfl (rfl : tyX10 7 = .int), fun h => (by cases h)⟩)
  · exact (⟨.int, false, 0, rfl, xr_putf dX10_init_62 (show vwCl[10]? = some (RX10, TX10, 13) from rfl) (by decide) xin_X10 tyX10_ok nmX10 xw_736 rfl (rfl : tyX10 8 = .int), fun h => (by cases h)⟩)
  · exact (⟨.int, false, 0, rfl, xr_putf dX10_init_67 (show vwCl[10]? = some (RX10, TX10, 13) from rfl) (by decide) xin_X10 tyX10_ok nmX10 xw_737 rfl (rfl : tyX10 9 = .int), fun h => (by cases h)⟩)
  · exact (⟨.int, false, 0, rfl, xr_putf dX10_init_72 (show vwCl[10]? = some (RX10, TX10, 13) from rfl) (by decide) xin_X10 tyX10_ok nmX10 xw_738 rfl (rfl : tyX10 10 = .int), fun h => (by cases h)⟩)
  · exact (⟨.int, false, 0, rfl, xr_putf dX10_init_77 (show vwCl[10]? = some (RX10, TX10, 13) from rfl) (by decide) xin_X10 tyX10_ok nmX10 xw_739 rfl (rfl : tyX10 11 = .int), fun h => (by cases h)⟩)
  · exact (⟨.int, false, 0, rfl, xr_putf dX10_init_82 (show vwCl[10]? = some (RX10, TX10, 13) from rfl) (by decide) xin_X10 tyX10_ok nmX10 xw_740 rfl (rfl : tyX10 12 = .int), fun h => (by cases h)⟩)
)
theorem xmo_133 : xMok xmt xm_133 := ⟨xw_741, xw_23, ⟨by decide, by decide, by decide +kernel⟩, by decide +kernel, rfl, xo_133⟩
set_option maxRecDepth 100000 in
set_option maxHeartbeats 4000000 in
theorem xo_134 : ∀ q ∈ xk_134, xok xmt xm_134 q.1 q.2 := xqw_ok (M := xm_134) (G := gx_RX10) gxo_RX10 rfl (hd := []) (by decide +kernel) (xnl)
theorem xmo_134 : xMok xmt xm_134 := ⟨xw_742, xw_23, ⟨by decide, by decide, by decide +kernel⟩, by decide +kernel, rfl, xo_134⟩
set_option maxRecDepth 100000 in
set_option maxHeartbeats 4000000 in
theorem xo_135 : ∀ q ∈ xk_135, xok xmt xm_135 q.1 q.2 := xqw_ok (M := xm_135) (G := gx_RX10) gxo_RX10 rfl (hd := [(5, (27, 8, 263, 0, [])), (13, (27, 16, 263, 0, [])), (21, (27, 24, 263, 0, [])), (41, (26, 44, 0, 0, [])), (61, (26, 64, 0, 0, [])), (65, (28, 68, 137, 10, [])), (70, (17, 73, 10, 7, [(0, 0)])), (78, (17, 81, 10, 8, [(0, 0)])), (83, (17, 86, 10, 9, [(0, 0)])), (88, (17, 91, 10, 10, [(0, 0)])), (93, (17, 96, 10, 11, [(0, 0)])), (101, (17, 104, 10, 12, [(0, 0)]))]) (by decide +kernel) (by
  refine xcns ?_ <| xcns ?_ <| xcns ?_ <| xcns ?_ <| xcns ?_ <| xcns ?_ <| xcns ?_ <| xcns ?_ <| xcns ?_ <| xcns ?_ <| xcns ?_ <| xcns ?_ <| xnl
  · exact (⟨rfl, _, rfl, ⟨52, dX10_begin_5, xw_743, xw_337⟩⟩)
  · exact (⟨rfl, _, rfl, ⟨52, dX10_begin_13, xw_743, xw_337⟩⟩)
  · exact (⟨rfl, _, rfl, ⟨52, dX10_begin_21, xw_743, xw_337⟩⟩)
  · exact (xr_copy dX10_begin_41 xw_747 xw_298 xw_299 xw_300)
  · exact (xr_copy dX10_begin_61 xw_747 xw_298 xw_299 xw_300)
  · exact (⟨rfl, _, rfl, ⟨80, dX10_begin_65, xw_750, xw_239, xw_240⟩, _, rfl, rfl⟩)
  · exact (⟨.int, false, 0, rfl, xr_putf dX10_begin_70 (show vwCl[10]? = some (RX10, TX10, 13) from rfl) (by decide) xin_X10 tyX10_ok nmX10 xw_735 rfl (rfl : tyX10 7 = .int), fun h => (by cases h)⟩)
  · exact (⟨.int, false, 0, rfl, xr_putf dX10_begin_78 (show vwCl[10]? = some (RX10, TX10, 13) from rfl) (by decide) xin_X10 tyX10_ok nmX10 xw_736 rfl (rfl : tyX10 8 = .int), fun h => (by cases h)⟩)
  · exact (⟨.int, false, 0, rfl, xr_putf dX10_begin_83 (show vwCl[10]? = some (RX10, TX10, 13) from rfl) (by decide) xin_X10 tyX10_ok nmX10 xw_737 rfl (rfl : tyX10 9 = .int), fun h => (by cases h)⟩)
  · exact (⟨.int, false, 0, rfl, xr_putf dX10_begin_88 (show vwCl[10]? = some (RX10, TX10, 13) from rfl) (by decide) xin_X10 tyX10_ok nmX10 xw_738 rfl (rfl : tyX10 10 = .int), fun h => (by cases h)⟩)
  · exact (⟨.int, false, 0, rfl, xr_putf dX10_begin_93 (show vwCl[10]? = some (RX10, TX10, 13) from rfl) (by decide) xin_X10 tyX10_ok nmX10 xw_739 rfl (rfl : tyX10 11 = .int), fun h => (by cases h)⟩)
  · exact (⟨.int, false, 0, rfl, xr_putf dX10_begin_101 (show vwCl[10]? = some (RX10, TX10, 13) from rfl) (by decide) xin_X10 tyX10_ok nmX10 xw_740 rfl (rfl : tyX10 12 = .int), fun h => (by cases h)⟩)
)
theorem xmo_135 : xMok xmt xm_135 := ⟨xw_753, xw_23, ⟨by decide, by decide, by decide +kernel⟩, by decide +kernel, rfl, xo_135⟩
set_option maxRecDepth 100000 in
set_option maxHeartbeats 4000000 in
theorem xo_136 : ∀ q ∈ xk_136, xok xmt xm_136 q.1 q.2 := xqw_ok (M := xm_136) (G := gx_RX10) gxo_RX10 rfl (hd := [(15, (17, 18, 10, 6, [(0, 0)])), (48, (17, 51, 10, 8, [(0, 0)]))]) (by decide +kernel) (by
  refine xcns ?_ <| xcns ?_ <| xnl
  · exact (⟨.int, false, 0, rfl, xr_putf dX10_dismiss_15 (show vwCl[10]? = some (RX10, TX10, 13) from rfl) (by decide) xin_X10 tyX10_ok nmX10 xw_734 rfl (rfl : tyX10 6 = .int), fun h => (by cases h)⟩)
  · exact (⟨.int, false, 0, rfl, xr_putf dX10_dismiss_48 (show vwCl[10]? = some (RX10, TX10, 13) from rfl) (by decide) xin_X10 tyX10_ok nmX10 xw_736 rfl (rfl : tyX10 8 = .int), fun h => (by cases h)⟩)
)
theorem xmo_136 : xMok xmt xm_136 := ⟨xw_754, xw_23, ⟨by decide, by decide, by decide +kernel⟩, by decide +kernel, rfl, xo_136⟩
set_option maxRecDepth 100000 in
set_option maxHeartbeats 4000000 in
theorem xo_137 : ∀ q ∈ xk_137, xok xmt xm_137 q.1 q.2 := xqw_ok (M := xm_137) (G := gx_RX10) gxo_RX10 rfl (hd := [(2, (17, 5, 10, 6, [(0, 0)])), (10, (27, 13, 263, 0, []))]) (by decide +kernel) (by
  refine xcns ?_ <| xcns ?_ <| xnl
  · exact (⟨.int, false, 0, rfl, xr_putf dX10_dismissAll_2 (show vwCl[10]? = some (RX10, TX10, 13) from rfl) (by decide) xin_X10 tyX10_ok nmX10 xw_734 rfl (rfl : tyX10 6 = .int), fun h => (by cases h)⟩)
  · exact (⟨rfl, _, rfl, ⟨52, dX10_dismissAll_10, xw_743, xw_337⟩⟩)
)
theorem xmo_137 : xMok xmt xm_137 := ⟨xw_755, xw_23, ⟨by decide, by decide, by decide +kernel⟩, by decide +kernel, rfl, xo_137⟩
set_option maxRecDepth 100000 in
set_option maxHeartbeats 4000000 in
theorem xo_138 : ∀ q ∈ xk_138, xok xmt xm_138 q.1 q.2 := xqw_ok (M := xm_138) (G := gx_RX10) gxo_RX10 rfl (hd := [(44, (17, 47, 10, 6, [(0, 0)])), (54, (17, 57, 10, 8, [(0, 0)]))]) (by decide +kernel) (by
  refine xcns ?_ <| xcns ?_ <| xnl
  · exact (⟨.int, false, 0, rfl, xr_putf dX10_enlist_44 (show vwCl[10]? = some (RX10, TX10, 13) from rfl) (by decide) xin_X10 tyX10_ok nmX10 xw_734 rfl (rfl : tyX10 6 = .int), fun h => (by cases h)⟩)
  · exact (⟨.int, false, 0, rfl, xr_putf dX10_enlist_54 (show vwCl[10]? = some (RX10, TX10, 13) from rfl) (by decide) xin_X10 tyX10_ok nmX10 xw_736 rfl (rfl : tyX10 8 = .int), fun h => (by cases h)⟩)
)
theorem xmo_138 : xMok xmt xm_138 := ⟨xw_756, xw_23, ⟨by decide, by decide, by decide +kernel⟩, by decide +kernel, rfl, xo_138⟩
set_option maxRecDepth 100000 in
set_option maxHeartbeats 4000000 in
theorem xo_139 : ∀ q ∈ xk_139, xok xmt xm_139 q.1 q.2 := xqw_ok (M := xm_139) (G := gx_RX10) gxo_RX10 rfl (hd := []) (by decide +kernel) (xnl)
theorem xmo_139 : xMok xmt xm_139 := ⟨xw_757, xw_23, ⟨by decide, by decide, by decide +kernel⟩, by decide +kernel, rfl, xo_139⟩
set_option maxRecDepth 100000 in
set_option maxHeartbeats 4000000 in
theorem xo_140 : ∀ q ∈ xk_140, xok xmt xm_140 q.1 q.2 := xqw_ok (M := xm_140) (G := gx_RX10) gxo_RX10 rfl (hd := [(6, (1, 9, 1103515245, 0, [])), (10, (1, 13, 12345, 0, [])), (14, (1, 17, 2147483647, 0, [])), (19, (17, 22, 10, 12, [(0, 0)])), (26, (0, 28, 65536, 0, []))]) (by decide +kernel) (by
  refine xcns ?_ <| xcns ?_ <| xcns ?_ <| xcns ?_ <| xcns ?_ <| xnl
  · exact (xr_ldc2 dX10_nextNumber_6 xw_758)
  · exact (xr_ldc2 dX10_nextNumber_10 xw_759)
  · exact (xr_ldc2 dX10_nextNumber_14 xw_760)
  · exact (⟨.int, false, 0, rfl, xr_putf dX10_nextNumber_19 (show vwCl[10]? = some (RX10, TX10, 13) from rfl) (by decide) xin_X10 tyX10_ok nmX10 xw_740 rfl (rfl : tyX10 12 = .int), fun h => (by cases h)⟩)
  · exact (xr_ldc dX10_nextNumber_26 xw_761)
)
theorem xmo_140 : xMok xmt xm_140 := ⟨xw_762, xw_23, ⟨by decide, by decide, by decide +kernel⟩, by decide +kernel, rfl, xo_140⟩
set_option maxRecDepth 100000 in
set_option maxHeartbeats 4000000 in
theorem xo_141 : ∀ q ∈ xk_141, xok xmt xm_141 q.1 q.2 := xqw_ok (M := xm_141) (G := gx_RX10) gxo_RX10 rfl (hd := [(15, (26, 18, 0, 0, [])), (33, (26, 36, 0, 0, [])), (51, (26, 54, 0, 0, [])), (69, (26, 72, 0, 0, [])), (87, (26, 90, 0, 0, [])), (105, (26, 108, 0, 0, [])), (113, (17, 116, 10, 6, [(0, 0)])), (121, (17, 124, 10, 7, [(0, 0)])), (129, (17, 132, 10, 8, [(0, 0)])), (137, (17, 140, 10, 9, [(0, 0)])), (145, (17, 148, 10, 10, [(0, 0)])), (153, (17, 156, 10, 11, [(0, 0)])), (161, (17, 164, 10, 12, [(0, 0)]))]) (by decide +kernel) (by
  refine xcns ?_ <| xcns ?_ <| xcns ?_ <| xcns ?_ <| xcns ?_ <| xcns ?_ <| xcns ?_ <| xcns ?_ <| xcns ?_ <| xcns ?_ <| xcns ?_ <| xcns ?_ <| xcns ?_ <| xnl
  · exact (xr_copy dX10_take_15 xw_747 xw_298 xw_299 xw_300)
  · exact (xr_copy dX10_take_33 xw_747 xw_298 xw_299 xw_300)
  · exact (xr_copy dX10_take_51 xw_747 xw_298 xw_299 xw_300)
  · exact (xr_copy dX10_take_69 xw_747 xw_298 xw_299 xw_300)
  · exact (xr_copy dX10_take_87 xw_747 xw_298 xw_299 xw_300)
  · exact (xr_copy dX10_take_105 xw_747 xw_298 xw_299 xw_300)
  · exact (⟨.int, false, 0, rfl, xr_putf dX10_take_113 (show vwCl[10]? = some (RX10, TX10, 13) from rfl) (by decide) xin_X10 tyX10_ok nmX10 xw_734 rfl (rfl : tyX10 6 = .int), fun h => (by cases h)⟩)
  · exact (⟨.int, false, 0, rfl, xr_putf dX10_take_121 (show vwCl[10]? = some (RX10, TX10, 13) from rfl) (by decide) xin_X10 tyX10_ok nmX10 xw_735 rfl (rfl : tyX10 7 = .int), fun h => (by cases h)⟩)
  · exact (⟨.int, false, 0, rfl, xr_putf dX10_take_129 (show vwCl[10]? = some (RX10, TX10, 13) from rfl) (by decide) xin_X10 tyX10_ok nmX10 xw_736 rfl (rfl : tyX10 8 = .int), fun h => (by cases h)⟩)
  · exact (⟨.int, false, 0, rfl, xr_putf dX10_take_137 (show vwCl[10]? = some (RX10, TX10, 13) from rfl) (by decide) xin_X10 tyX10_ok nmX10 xw_737 rfl (rfl : tyX10 9 = .int), fun h => (by cases h)⟩)
  · exact (⟨.int, false, 0, rfl, xr_putf dX10_take_145 (show vwCl[10]? = some (RX10, TX10, 13) from rfl) (by decide) xin_X10 tyX10_ok nmX10 xw_738 rfl (rfl : tyX10 10 = .int), fun h => (by cases h)⟩)
  · exact (⟨.int, false, 0, rfl, xr_putf dX10_take_153 (show vwCl[10]? = some (RX10, TX10, 13) from rfl) (by decide) xin_X10 tyX10_ok nmX10 xw_739 rfl (rfl : tyX10 11 = .int), fun h => (by cases h)⟩)
  · exact (⟨.int, false, 0, rfl, xr_putf dX10_take_161 (show vwCl[10]? = some (RX10, TX10, 13) from rfl) (by decide) xin_X10 tyX10_ok nmX10 xw_740 rfl (rfl : tyX10 12 = .int), fun h => (by cases h)⟩)
)
theorem xmo_141 : xMok xmt xm_141 := ⟨xw_763, xw_23, ⟨by decide, by decide, by decide +kernel⟩, by decide +kernel, rfl, xo_141⟩
end
section
def xkp_142_0 : List (Nat × xOp) := [(0, (2, 1, 1, 0, [])), (1, (25, 4, 0, 0, [])), (4, (2, 5, 1, 0, [])), (5, (0, 8, 800, 0, [])), (8, (23, 10, 0, 0, [])), (10, (17, 13, 12, 1, [(4, 0)])), (13, (2, 14, 1, 0, [])), (14, (0, 16, 14, 0, [])), (16, (23, 18, 0, 0, [])), (18, (17, 21, 12, 3, [(4, 0)])), (21, (2, 22, 1, 0, [])), (22, (0, 24, 6, 0, [])), (24, (23, 26, 0, 0, [])), (26, (17, 29, 12, 4, [(4, 0)])), (29, (2, 30, 1, 0, [])), (30, (0, 32, 6, 0, [])), (32, (23, 34, 0, 0, [])), (34, (17, 37, 12, 5, [(4, 0)])), (37, (2, 38, 1, 0, [])), (38, (0, 40, 6, 0, [])), (40, (23, 42, 0, 0, [])), (42, (17, 45, 12, 6, [(4, 0)])), (45, (2, 46, 1, 0, [])), (46, (0, 48, 12, 0, [])), (48, (23, 50, 0, 0, [])), (50, (17, 53, 12, 7, [(4, 0)])), (53, (2, 54, 1, 0, [])), (54, (0, 56, 12, 0, [])), (56, (23, 58, 0, 0, [])), (58, (17, 61, 12, 8, [(4, 0)])), (61, (2, 62, 1, 0, [])), (62, (0, 64, 12, 0, [])), (64, (23, 66, 0, 0, [])), (66, (17, 69, 12, 9, [(4, 0)])), (69, (2, 70, 1, 0, [])), (70, (0, 72, 12, 0, [])), (72, (23, 74, 3, 0, [])), (74, (17, 77, 12, 10, [(4, 0)])), (77, (2, 78, 1, 0, [])), (78, (0, 80, 12, 0, [])), (80, (23, 82, 0, 0, [])), (82, (9, 83, 0, 0, [])), (83, (0, 84, 0, 0, [])), (84, (0, 85, 4294967295, 0, [])), (85, (21, 86, 0, 0, [])), (86, (9, 87, 0, 0, [])), (87, (0, 88, 1, 0, [])), (88, (0, 89, 4294967295, 0, [])), (89, (21, 90, 0, 0, [])), (90, (9, 91, 0, 0, [])), (91, (0, 92, 2, 0, [])), (92, (0, 93, 4294967295, 0, [])), (93, (21, 94, 0, 0, [])), (94, (9, 95, 0, 0, [])), (95, (0, 96, 3, 0, [])), (96, (0, 97, 4294967295, 0, [])), (97, (21, 98, 0, 0, [])), (98, (9, 99, 0, 0, [])), (99, (0, 100, 4, 0, [])), (100, (0, 101, 4294967295, 0, [])), (101, (21, 102, 0, 0, [])), (102, (9, 103, 0, 0, [])), (103, (0, 104, 5, 0, [])), (104, (0, 105, 4294967295, 0, [])), (105, (21, 106, 0, 0, [])), (106, (9, 107, 0, 0, [])), (107, (0, 109, 6, 0, [])), (109, (0, 110, 4294967295, 0, [])), (110, (21, 111, 0, 0, [])), (111, (9, 112, 0, 0, [])), (112, (0, 114, 7, 0, [])), (114, (0, 115, 4294967295, 0, [])), (115, (21, 116, 0, 0, [])), (116, (9, 117, 0, 0, [])), (117, (0, 119, 8, 0, [])), (119, (0, 120, 4294967295, 0, [])), (120, (21, 121, 0, 0, [])), (121, (9, 122, 0, 0, [])), (122, (0, 124, 9, 0, [])), (124, (0, 125, 4294967295, 0, [])), (125, (21, 126, 0, 0, [])), (126, (9, 127, 0, 0, [])), (127, (0, 129, 10, 0, [])), (129, (0, 130, 4294967295, 0, [])), (130, (21, 131, 0, 0, [])), (131, (9, 132, 0, 0, [])), (132, (0, 134, 11, 0, [])), (134, (0, 135, 4294967295, 0, [])), (135, (21, 136, 0, 0, [])), (136, (17, 139, 12, 11, [(4, 0)])), (139, (2, 140, 1, 0, [])), (140, (0, 142, 12, 0, [])), (142, (23, 144, 0, 0, [])), (144, (17, 147, 12, 12, [(4, 0)])), (147, (2, 148, 1, 0, [])), (148, (0, 150, 12, 0, [])), (150, (23, 152, 0, 0, [])), (152, (17, 155, 12, 13, [(4, 0)])), (155, (2, 156, 1, 0, [])), (156, (0, 158, 8, 0, [])), (158, (23, 160, 0, 0, [])), (160, (17, 163, 12, 14, [(4, 0)])), (163, (2, 164, 1, 0, [])), (164, (0, 166, 8, 0, [])), (166, (23, 168, 0, 0, [])), (168, (17, 171, 12, 15, [(4, 0)])), (171, (2, 172, 1, 0, [])), (172, (0, 174, 24, 0, [])), (174, (23, 176, 0, 0, [])), (176, (17, 179, 12, 16, [(4, 0)])), (179, (2, 180, 1, 0, [])), (180, (0, 183, 192, 0, [])), (183, (23, 185, 0, 0, [])), (185, (17, 188, 12, 17, [(4, 0)])), (188, (2, 189, 1, 0, [])), (189, (0, 191, 6, 0, [])), (191, (23, 193, 0, 0, [])), (193, (17, 196, 12, 18, [(4, 0)])), (196, (2, 197, 1, 0, [])), (197, (0, 199, 6, 0, []))]
set_option maxRecDepth 100000 in
set_option maxHeartbeats 4000000 in
theorem xop_142_0 : ∀ q ∈ xkp_142_0, xok xmt xm_142 q.1 q.2 := xqw_ok (M := xm_142) (G := gx_RX12) gxo_RX12 rfl (hd := [(1, (25, 4, 0, 0, [])), (5, (0, 8, 800, 0, [])), (8, (23, 10, 0, 0, [])), (10, (17, 13, 12, 1, [(4, 0)])), (16, (23, 18, 0, 0, [])), (18, (17, 21, 12, 3, [(4, 0)])), (24, (23, 26, 0, 0, [])), (26, (17, 29, 12, 4, [(4, 0)])), (32, (23, 34, 0, 0, [])), (34, (17, 37, 12, 5, [(4, 0)])), (40, (23, 42, 0, 0, [])), (42, (17, 45, 12, 6, [(4, 0)])), (48, (23, 50, 0, 0, [])), (50, (17, 53, 12, 7, [(4, 0)])), (56, (23, 58, 0, 0, [])), (58, (17, 61, 12, 8, [(4, 0)])), (64, (23, 66, 0, 0, [])), (66, (17, 69, 12, 9, [(4, 0)])), (72, (23, 74, 3, 0, [])), (74, (17, 77, 12, 10, [(4, 0)])), (80, (23, 82, 0, 0, [])), (136, (17, 139, 12, 11, [(4, 0)])), (142, (23, 144, 0, 0, [])), (144, (17, 147, 12, 12, [(4, 0)])), (150, (23, 152, 0, 0, [])), (152, (17, 155, 12, 13, [(4, 0)])), (158, (23, 160, 0, 0, [])), (160, (17, 163, 12, 14, [(4, 0)])), (166, (23, 168, 0, 0, [])), (168, (17, 171, 12, 15, [(4, 0)])), (174, (23, 176, 0, 0, [])), (176, (17, 179, 12, 16, [(4, 0)])), (180, (0, 183, 192, 0, [])), (183, (23, 185, 0, 0, [])), (185, (17, 188, 12, 17, [(4, 0)])), (191, (23, 193, 0, 0, [])), (193, (17, 196, 12, 18, [(4, 0)]))]) (by decide +kernel) (by
  refine xcns ?_ <| xcns ?_ <| xcns ?_ <| xcns ?_ <| xcns ?_ <| xcns ?_ <| xcns ?_ <| xcns ?_ <| xcns ?_ <| xcns ?_ <| xcns ?_ <| xcns ?_ <| xcns ?_ <| xcns ?_ <| xcns ?_ <| xcns ?_ <| xcns ?_ <| xcns ?_ <| xcns ?_ <| xcns ?_ <| xcns ?_ <| xcns ?_ <| xcns ?_ <| xcns ?_ <| xcns ?_ <| xcns ?_ <| xcns ?_ <| xcns ?_ <| xcns ?_ <| xcns ?_ <| xcns ?_ <| xcns ?_ <| xcns ?_ <| xcns ?_ <| xcns ?_ <| xcns ?_ <| xcns ?_ <| xnl
  · exact (xr_oinit dX12_init_1 xw_764 xw_1 xw_oc)
  · exact (xr_sipush dX12_init_5 (by decide +kernel))
  · exact (⟨by decide, xr_newa dX12_init_8 rfl xw_272⟩)
  · exact (⟨(.array .int), true, 0, rfl, xr_putF dX12_init_10 (show vwCl[12]? = some (RX12, TX12, 69) from rfl) (by decide) xin_X12 tyX12_ok nmX12 xw_765 rfl (rfl : tyX12 1 = (.array .int)) rfl, fun _ => rfl⟩)
  · exact (⟨by decide, xr_newa dX12_init_16 rfl xw_272⟩)
  · exact (⟨(.array .int), true, 0, rfl, xr_putF dX12_init_18 (show vwCl[12]? = some (RX12, TX12, 69) from rfl) (by decide) xin_X12 tyX12_ok nmX12 xw_766 rfl (rfl : tyX12 3 = (.array .int)) rfl, fun _ => rfl⟩)
  · exact (⟨by decide, xr_newa dX12_init_24 rfl xw_272⟩)
  · exact (⟨(.array .int), true, 0, rfl, xr_putF dX12_init_26 (show vwCl[12]? = some (RX12, TX12, 69) from rfl) (by decide) xin_X12 tyX12_ok nmX12 xw_767 rfl (rfl : tyX12 4 = (.array .int)) rfl, fun _ => rfl⟩)
  · exact (⟨by decide, xr_newa dX12_init_32 rfl xw_272⟩)
  · exact (⟨(.array .int), true, 0, rfl, xr_putF dX12_init_34 (show vwCl[12]? = some (RX12, TX12, 69) from rfl) (by decide) xin_X12 tyX12_ok nmX12 xw_768 rfl (rfl : tyX12 5 = (.array .int)) rfl, fun _ => rfl⟩)
  · exact (⟨by decide, xr_newa dX12_init_40 rfl xw_272⟩)
  · exact (⟨(.array .int), true, 0, rfl, xr_putF dX12_init_42 (show vwCl[12]? = some (RX12, TX12, 69) from rfl) (by decide) xin_X12 tyX12_ok nmX12 xw_769 rfl (rfl : tyX12 6 = (.array .int)) rfl, fun _ => rfl⟩)
  · exact (⟨by decide, xr_newa dX12_init_48 rfl xw_272⟩)
  · exact (⟨(.array .int), true, 0, rfl, xr_putF dX12_init_50 (show vwCl[12]? = some (RX12, TX12, 69) from rfl) (by decide) xin_X12 tyX12_ok nmX12 xw_770 rfl (rfl : tyX12 7 = (.array .int)) rfl, fun _ => rfl⟩)
  · exact (⟨by decide, xr_newa dX12_init_56 rfl xw_272⟩)
  · exact (⟨(.array .int), true, 0, rfl, xr_putF dX12_init_58 (show vwCl[12]? = some (RX12, TX12, 69) from rfl) (by decide) xin_X12 tyX12_ok nmX12 xw_771 rfl (rfl : tyX12 8 = (.array .int)) rfl, fun _ => rfl⟩)
  · exact (⟨by decide, xr_newa dX12_init_64 rfl xw_272⟩)
  · exact (⟨(.array .int), true, 0, rfl, xr_putF dX12_init_66 (show vwCl[12]? = some (RX12, TX12, 69) from rfl) (by decide) xin_X12 tyX12_ok nmX12 xw_772 rfl (rfl : tyX12 9 = (.array .int)) rfl, fun _ => rfl⟩)
  · exact (⟨by decide, xr_newa dX12_init_72 rfl xw_773⟩)
  · exact (⟨(.array .boolean), true, 0, rfl, xr_putF dX12_init_74 (show vwCl[12]? = some (RX12, TX12, 69) from rfl) (by decide) xin_X12 tyX12_ok nmX12 xw_774 rfl (rfl : tyX12 10 = (.array .boolean)) rfl, fun _ => rfl⟩)
  · exact (⟨by decide, xr_newa dX12_init_80 rfl xw_272⟩)
  · exact (⟨(.array .int), true, 0, rfl, xr_putF dX12_init_136 (show vwCl[12]? = some (RX12, TX12, 69) from rfl) (by decide) xin_X12 tyX12_ok nmX12 xw_775 rfl (rfl : tyX12 11 = (.array .int)) rfl, fun _ => rfl⟩)
  · exact (⟨by decide, xr_newa dX12_init_142 rfl xw_272⟩)
  · exact (⟨(.array .int), true, 0, rfl, xr_putF dX12_init_144 (show vwCl[12]? = some (RX12, TX12, 69) from rfl) (by decide) xin_X12 tyX12_ok nmX12 xw_776 rfl (rfl : tyX12 12 = (.array .int)) rfl, fun _ => rfl⟩)
  · exact (⟨by decide, xr_newa dX12_init_150 rfl xw_272⟩)
  · exact (⟨(.array .int), true, 0, rfl, xr_putF dX12_init_152 (show vwCl[12]? = some (RX12, TX12, 69) from rfl) (by decide) xin_X12 tyX12_ok nmX12 xw_777 rfl (rfl : tyX12 13 = (.array .int)) rfl, fun _ => rfl⟩)
  · exact (⟨by decide, xr_newa dX12_init_158 rfl xw_272⟩)
  · exact (⟨(.array .int), true, 0, rfl, xr_putF dX12_init_160 (show vwCl[12]? = some (RX12, TX12, 69) from rfl) (by decide) xin_X12 tyX12_ok nmX12 xw_778 rfl (rfl : tyX12 14 = (.array .int)) rfl, fun _ => rfl⟩)
  · exact (⟨by decide, xr_newa dX12_init_166 rfl xw_272⟩)
  · exact (⟨(.array .int), true, 0, rfl, xr_putF dX12_init_168 (show vwCl[12]? = some (RX12, TX12, 69) from rfl) (by decide) xin_X12 tyX12_ok nmX12 xw_779 rfl (rfl : tyX12 15 = (.array .int)) rfl, fun _ => rfl⟩)
  · exact (⟨by decide, xr_newa dX12_init_174 rfl xw_272⟩)
  · exact (⟨(.array .int), true, 0, rfl, xr_putF dX12_init_176 (show vwCl[12]? = some (RX12, TX12, 69) from rfl) (by decide) xin_X12 tyX12_ok nmX12 xw_780 rfl (rfl : tyX12 16 = (.array .int)) rfl, fun _ => rfl⟩)
  · exact (xr_sipush dX12_init_180 (by decide +kernel))
  · exact (⟨by decide, xr_newa dX12_init_183 rfl xw_272⟩)
  · exact (⟨(.array .int), true, 0, rfl, xr_putF dX12_init_185 (show vwCl[12]? = some (RX12, TX12, 69) from rfl) (by decide) xin_X12 tyX12_ok nmX12 xw_781 rfl (rfl : tyX12 17 = (.array .int)) rfl, fun _ => rfl⟩)
  · exact (⟨by decide, xr_newa dX12_init_191 rfl xw_272⟩)
  · exact (⟨(.array .int), true, 0, rfl, xr_putF dX12_init_193 (show vwCl[12]? = some (RX12, TX12, 69) from rfl) (by decide) xin_X12 tyX12_ok nmX12 xw_782 rfl (rfl : tyX12 18 = (.array .int)) rfl, fun _ => rfl⟩)
)
def xkp_142_1 : List (Nat × xOp) := [(199, (23, 201, 0, 0, [])), (201, (17, 204, 12, 19, [(4, 0)])), (204, (2, 205, 1, 0, [])), (205, (0, 207, 10, 0, [])), (207, (23, 209, 0, 0, [])), (209, (17, 212, 12, 20, [(4, 0)])), (212, (2, 213, 1, 0, [])), (213, (0, 215, 10, 0, [])), (215, (23, 217, 0, 0, [])), (217, (17, 220, 12, 21, [(4, 0)])), (220, (2, 221, 1, 0, [])), (221, (0, 224, 128, 0, [])), (224, (23, 226, 0, 0, [])), (226, (17, 229, 12, 22, [(4, 0)])), (229, (2, 230, 1, 0, [])), (230, (0, 233, 128, 0, [])), (233, (23, 235, 0, 0, [])), (235, (17, 238, 12, 23, [(4, 0)])), (238, (2, 239, 1, 0, [])), (239, (0, 240, 4294967295, 0, [])), (240, (17, 243, 12, 34, [(0, 0)])), (243, (2, 244, 1, 0, [])), (244, (0, 245, 2, 0, [])), (245, (23, 247, 0, 0, [])), (247, (17, 250, 12, 37, [(4, 0)])), (250, (2, 251, 1, 0, [])), (251, (0, 252, 2, 0, [])), (252, (23, 254, 0, 0, [])), (254, (17, 257, 12, 38, [(4, 0)])), (257, (2, 258, 1, 0, [])), (258, (0, 259, 2, 0, [])), (259, (23, 261, 0, 0, [])), (261, (17, 264, 12, 39, [(4, 0)])), (264, (2, 265, 1, 0, [])), (265, (0, 266, 2, 0, [])), (266, (23, 268, 0, 0, [])), (268, (17, 271, 12, 40, [(4, 0)])), (271, (2, 272, 1, 0, [])), (272, (0, 273, 2, 0, [])), (273, (23, 275, 0, 0, [])), (275, (17, 278, 12, 41, [(4, 0)])), (278, (2, 279, 1, 0, [])), (279, (0, 281, 6, 0, [])), (281, (23, 283, 0, 0, [])), (283, (17, 286, 12, 42, [(4, 0)])), (286, (2, 287, 1, 0, [])), (287, (0, 289, 6, 0, [])), (289, (23, 291, 0, 0, [])), (291, (17, 294, 12, 43, [(4, 0)])), (294, (2, 295, 1, 0, [])), (295, (0, 297, 12, 0, [])), (297, (23, 299, 0, 0, [])), (299, (17, 302, 12, 44, [(4, 0)])), (302, (2, 303, 1, 0, [])), (303, (0, 305, 24, 0, [])), (305, (23, 307, 0, 0, [])), (307, (17, 310, 12, 45, [(4, 0)])), (310, (2, 311, 1, 0, [])), (311, (0, 312, 2, 0, [])), (312, (23, 314, 0, 0, [])), (314, (17, 317, 12, 46, [(4, 0)])), (317, (2, 318, 1, 0, [])), (318, (0, 320, 24, 0, [])), (320, (23, 322, 0, 0, [])), (322, (17, 325, 12, 47, [(4, 0)])), (325, (2, 326, 1, 0, [])), (326, (0, 328, 24, 0, [])), (328, (23, 330, 0, 0, [])), (330, (17, 333, 12, 48, [(4, 0)])), (333, (2, 334, 1, 0, [])), (334, (0, 336, 7, 0, [])), (336, (23, 338, 2, 0, [])), (338, (17, 341, 12, 50, [(4, 0)])), (341, (2, 342, 1, 0, [])), (342, (0, 344, 64, 0, [])), (344, (23, 346, 2, 0, [])), (346, (17, 349, 12, 51, [(4, 0)])), (349, (2, 350, 1, 0, [])), (350, (0, 353, 5000, 0, [])), (353, (23, 355, 0, 0, [])), (355, (17, 358, 12, 53, [(4, 0)])), (358, (2, 359, 1, 0, [])), (359, (0, 362, 5000, 0, [])), (362, (23, 364, 0, 0, [])), (364, (17, 367, 12, 54, [(4, 0)])), (367, (2, 368, 1, 0, [])), (368, (0, 370, 72, 0, [])), (370, (23, 372, 0, 0, [])), (372, (17, 375, 12, 55, [(4, 0)])), (375, (2, 376, 1, 0, [])), (376, (0, 378, 72, 0, [])), (378, (23, 380, 0, 0, [])), (380, (17, 383, 12, 56, [(4, 0)])), (383, (2, 384, 1, 0, [])), (384, (0, 385, 3, 0, [])), (385, (23, 387, 0, 0, [])), (387, (17, 390, 12, 57, [(4, 0)])), (390, (2, 391, 1, 0, [])), (391, (0, 392, 3, 0, [])), (392, (23, 394, 0, 0, [])), (394, (17, 397, 12, 58, [(4, 0)])), (397, (2, 398, 1, 0, [])), (398, (0, 399, 4294967295, 0, [])), (399, (17, 402, 12, 62, [(0, 0)])), (402, (2, 403, 1, 0, [])), (403, (0, 405, 24, 0, [])), (405, (23, 407, 0, 0, [])), (407, (17, 410, 12, 63, [(4, 0)])), (410, (2, 411, 1, 0, [])), (411, (0, 413, 24, 0, [])), (413, (23, 415, 0, 0, [])), (415, (17, 418, 12, 64, [(4, 0)])), (418, (2, 419, 1, 0, [])), (419, (0, 421, 24, 0, [])), (421, (23, 423, 3, 0, [])), (423, (17, 426, 12, 65, [(4, 0)])), (426, (2, 427, 1, 0, [])), (427, (0, 428, 4, 0, [])), (428, (23, 430, 0, 0, [])), (430, (17, 433, 12, 66, [(4, 0)]))]
set_option maxRecDepth 100000 in
set_option maxHeartbeats 4000000 in
theorem xop_142_1 : ∀ q ∈ xkp_142_1, xok xmt xm_142 q.1 q.2 := xqw_ok (M := xm_142) (G := gx_RX12) gxo_RX12 rfl (hd := [(199, (23, 201, 0, 0, [])), (201, (17, 204, 12, 19, [(4, 0)])), (207, (23, 209, 0, 0, [])), (209, (17, 212, 12, 20, [(4, 0)])), (215, (23, 217, 0, 0, [])), (217, (17, 220, 12, 21, [(4, 0)])), (221, (0, 224, 128, 0, [])), (224, (23, 226, 0, 0, [])), (226, (17, 229, 12, 22, [(4, 0)])), (230, (0, 233, 128, 0, [])), (233, (23, 235, 0, 0, [])), (235, (17, 238, 12, 23, [(4, 0)])), (240, (17, 243, 12, 34, [(0, 0)])), (245, (23, 247, 0, 0, [])), (247, (17, 250, 12, 37, [(4, 0)])), (252, (23, 254, 0, 0, [])), (254, (17, 257, 12, 38, [(4, 0)])), (259, (23, 261, 0, 0, [])), (261, (17, 264, 12, 39, [(4, 0)])), (266, (23, 268, 0, 0, [])), (268, (17, 271, 12, 40, [(4, 0)])), (273, (23, 275, 0, 0, [])), (275, (17, 278, 12, 41, [(4, 0)])), (281, (23, 283, 0, 0, [])), (283, (17, 286, 12, 42, [(4, 0)])), (289, (23, 291, 0, 0, [])), (291, (17, 294, 12, 43, [(4, 0)])), (297, (23, 299, 0, 0, [])), (299, (17, 302, 12, 44, [(4, 0)])), (305, (23, 307, 0, 0, [])), (307, (17, 310, 12, 45, [(4, 0)])), (312, (23, 314, 0, 0, [])), (314, (17, 317, 12, 46, [(4, 0)])), (320, (23, 322, 0, 0, [])), (322, (17, 325, 12, 47, [(4, 0)])), (328, (23, 330, 0, 0, [])), (330, (17, 333, 12, 48, [(4, 0)])), (336, (23, 338, 2, 0, [])), (338, (17, 341, 12, 50, [(4, 0)])), (344, (23, 346, 2, 0, [])), (346, (17, 349, 12, 51, [(4, 0)])), (350, (0, 353, 5000, 0, [])), (353, (23, 355, 0, 0, [])), (355, (17, 358, 12, 53, [(4, 0)])), (359, (0, 362, 5000, 0, [])), (362, (23, 364, 0, 0, [])), (364, (17, 367, 12, 54, [(4, 0)])), (370, (23, 372, 0, 0, [])), (372, (17, 375, 12, 55, [(4, 0)])), (378, (23, 380, 0, 0, [])), (380, (17, 383, 12, 56, [(4, 0)])), (385, (23, 387, 0, 0, [])), (387, (17, 390, 12, 57, [(4, 0)])), (392, (23, 394, 0, 0, [])), (394, (17, 397, 12, 58, [(4, 0)])), (399, (17, 402, 12, 62, [(0, 0)])), (405, (23, 407, 0, 0, [])), (407, (17, 410, 12, 63, [(4, 0)])), (413, (23, 415, 0, 0, [])), (415, (17, 418, 12, 64, [(4, 0)])), (421, (23, 423, 3, 0, [])), (423, (17, 426, 12, 65, [(4, 0)])), (428, (23, 430, 0, 0, [])), (430, (17, 433, 12, 66, [(4, 0)]))]) (by decide +kernel) (by
  refine xcns ?_ <| xcns ?_ <| xcns ?_ <| xcns ?_ <| xcns ?_ <| xcns ?_ <| xcns ?_ <| xcns ?_ <| xcns ?_ <| xcns ?_ <| xcns ?_ <| xcns ?_ <| xcns ?_ <| xcns ?_ <| xcns ?_ <| xcns ?_ <| xcns ?_ <| xcns ?_ <| xcns ?_ <| xcns ?_ <| xcns ?_ <| xcns ?_ <| xcns ?_ <| xcns ?_ <| xcns ?_ <| xcns ?_ <| xcns ?_ <| xcns ?_ <| xcns ?_ <| xcns ?_ <| xcns ?_ <| xcns ?_ <| xcns ?_ <| xcns ?_ <| xcns ?_ <| xcns ?_ <| xcns ?_ <| xcns ?_ <| xcns ?_ <| xcns ?_ <| xcns ?_ <| xcns ?_ <| xcns ?_ <| xcns ?_ <| xcns ?_ <| xcns ?_ <| xcns ?_ <| xcns ?_ <| xcns ?_ <| xcns ?_ <| xcns ?_ <| xcns ?_ <| xcns ?_ <| xcns ?_ <| xcns ?_ <| xcns ?_ <| xcns ?_ <| xcns ?_ <| xcns ?_ <| xcns ?_ <| xcns ?_ <| xcns ?_ <| xcns ?_ <| xcns ?_ <| xnl
  · exact (⟨by decide, xr_newa dX12_init_199 rfl xw_272⟩)
  · exact (⟨(.array .int), true, 0, rfl, xr_putF dX12_init_201 (show vwCl[12]? = some (RX12, TX12, 69) from rfl) (by decide) xin_X12 tyX12_ok nmX12 xw_783 rfl (rfl : tyX12 19 = (.array .int)) rfl, fun _ => rfl⟩)
  · exact (⟨by decide, xr_newa dX12_init_207 rfl xw_272⟩)
  · exact (⟨(.array .int), true, 0, rfl, xr_putF dX12_init_209 (show vwCl[12]? = some (RX12, TX12, 69) from rfl) (by decide) xin_X12 tyX12_ok nmX12 xw_784 rfl (rfl : tyX12 20 = (.array .int)) rfl, fun _ => rfl⟩)
  · exact (⟨by decide, xr_newa dX12_init_215 rfl xw_272⟩)
  · exact (⟨(.array .int), true, 0, rfl, xr_putF dX12_init_217 (show vwCl[12]? = some (RX12, TX12, 69) from rfl) (by decide) xin_X12 tyX12_ok nmX12 xw_785 rfl (rfl : tyX12 21 = (.array .int)) rfl, fun _ => rfl⟩)
  · exact (xr_sipush dX12_init_221 (by decide +kernel))
  · exact (⟨by decide, xr_newa dX12_init_224 rfl xw_272⟩)
  · exact (⟨(.array .int), true, 0, rfl, xr_putF dX12_init_226 (show vwCl[12]? = some (RX12, TX12, 69) from rfl) (by decide) xin_X12 tyX12_ok nmX12 xw_786 rfl (rfl : tyX12 22 = (.array .int)) rfl, fun _ => rfl⟩)
  · exact (xr_sipush dX12_init_230 (by decide +kernel))
  · exact (⟨by decide, xr_newa dX12_init_233 rfl xw_272⟩)
  · exact (⟨(.array .int), true, 0, rfl, xr_putF dX12_init_235 (show vwCl[12]? = some (RX12, TX12, 69) from rfl) (by decide) xin_X12 tyX12_ok nmX12 xw_787 rfl (rfl : tyX12 23 = (.array .int)) rfl, fun _ => rfl⟩)
  · exact (⟨.int, false, 0, rfl, xr_putf dX12_init_240 (show vwCl[12]? = some (RX12, TX12, 69) from rfl) (by decide) xin_X12 tyX12_ok nmX12 xw_788 rfl (rfl : tyX12 34 = .int), fun h => (by cases h)⟩)
  · exact (⟨by decide, xr_newa dX12_init_245 rfl xw_272⟩)
  · exact (⟨(.array .int), true, 0, rfl, xr_putF dX12_init_247 (show vwCl[12]? = some (RX12, TX12, 69) from rfl) (by decide) xin_X12 tyX12_ok nmX12 xw_789 rfl (rfl : tyX12 37 = (.array .int)) rfl, fun _ => rfl⟩)
  · exact (⟨by decide, xr_newa dX12_init_252 rfl xw_272⟩)
  · exact (⟨(.array .int), true, 0, rfl, xr_putF dX12_init_254 (show vwCl[12]? = some (RX12, TX12, 69) from rfl) (by decide) xin_X12 tyX12_ok nmX12 xw_790 rfl (rfl : tyX12 38 = (.array .int)) rfl, fun _ => rfl⟩)
  · exact (⟨by decide, xr_newa dX12_init_259 rfl xw_272⟩)
  · exact (⟨(.array .int), true, 0, rfl, xr_putF dX12_init_261 (show vwCl[12]? = some (RX12, TX12, 69) from rfl) (by decide) xin_X12 tyX12_ok nmX12 xw_791 rfl (rfl : tyX12 39 = (.array .int)) rfl, fun _ => rfl⟩)
  · exact (⟨by decide, xr_newa dX12_init_266 rfl xw_272⟩)
  · exact (⟨(.array .int), true, 0, rfl, xr_putF dX12_init_268 (show vwCl[12]? = some (RX12, TX12, 69) from rfl) (by decide) xin_X12 tyX12_ok nmX12 xw_792 rfl (rfl : tyX12 40 = (.array .int)) rfl, fun _ => rfl⟩)
  · exact (⟨by decide, xr_newa dX12_init_273 rfl xw_272⟩)
  · exact (⟨(.array .int), true, 0, rfl, xr_putF dX12_init_275 (show vwCl[12]? = some (RX12, TX12, 69) from rfl) (by decide) xin_X12 tyX12_ok nmX12 xw_793 rfl (rfl : tyX12 41 = (.array .int)) rfl, fun _ => rfl⟩)
  · exact (⟨by decide, xr_newa dX12_init_281 rfl xw_272⟩)
  · exact (⟨(.array .int), true, 0, rfl, xr_putF dX12_init_283 (show vwCl[12]? = some (RX12, TX12, 69) from rfl) (by decide) xin_X12 tyX12_ok nmX12 xw_794 rfl (rfl : tyX12 42 = (.array .int)) rfl, fun _ => rfl⟩)
  · exact (⟨by decide, xr_newa dX12_init_289 rfl xw_272⟩)
  · exact (⟨(.array .int), true, 0, rfl, xr_putF dX12_init_291 (show vwCl[12]? = some (RX12, TX12, 69) from rfl) (by decide) xin_X12 tyX12_ok nmX12 xw_795 rfl (rfl : tyX12 43 = (.array .int)) rfl, fun _ => rfl⟩)
  · exact (⟨by decide, xr_newa dX12_init_297 rfl xw_272⟩)
  · exact (⟨(.array .int), true, 0, rfl, xr_putF dX12_init_299 (show vwCl[12]? = some (RX12, TX12, 69) from rfl) (by decide) xin_X12 tyX12_ok nmX12 xw_796 rfl (rfl : tyX12 44 = (.array .int)) rfl, fun _ => rfl⟩)
  · exact (⟨by decide, xr_newa dX12_init_305 rfl xw_272⟩)
  · exact (⟨(.array .int), true, 0, rfl, xr_putF dX12_init_307 (show vwCl[12]? = some (RX12, TX12, 69) from rfl) (by decide) xin_X12 tyX12_ok nmX12 xw_797 rfl (rfl : tyX12 45 = (.array .int)) rfl, fun _ => rfl⟩)
  · exact (⟨by decide, xr_newa dX12_init_312 rfl xw_272⟩)
  · exact (⟨(.array .int), true, 0, rfl, xr_putF dX12_init_314 (show vwCl[12]? = some (RX12, TX12, 69) from rfl) (by decide) xin_X12 tyX12_ok nmX12 xw_798 rfl (rfl : tyX12 46 = (.array .int)) rfl, fun _ => rfl⟩)
  · exact (⟨by decide, xr_newa dX12_init_320 rfl xw_272⟩)
  · exact (⟨(.array .int), true, 0, rfl, xr_putF dX12_init_322 (show vwCl[12]? = some (RX12, TX12, 69) from rfl) (by decide) xin_X12 tyX12_ok nmX12 xw_799 rfl (rfl : tyX12 47 = (.array .int)) rfl, fun _ => rfl⟩)
  · exact (⟨by decide, xr_newa dX12_init_328 rfl xw_272⟩)
  · exact (⟨(.array .int), true, 0, rfl, xr_putF dX12_init_330 (show vwCl[12]? = some (RX12, TX12, 69) from rfl) (by decide) xin_X12 tyX12_ok nmX12 xw_800 rfl (rfl : tyX12 48 = (.array .int)) rfl, fun _ => rfl⟩)
  · exact (⟨by decide, xr_newa dX12_init_336 rfl xw_478⟩)
  · exact (⟨(.array .long), true, 0, rfl, xr_putF dX12_init_338 (show vwCl[12]? = some (RX12, TX12, 69) from rfl) (by decide) xin_X12 tyX12_ok nmX12 xw_801 rfl (rfl : tyX12 50 = (.array .long)) rfl, fun _ => rfl⟩)
  · exact (⟨by decide, xr_newa dX12_init_344 rfl xw_478⟩)
  · exact (⟨(.array .long), true, 0, rfl, xr_putF dX12_init_346 (show vwCl[12]? = some (RX12, TX12, 69) from rfl) (by decide) xin_X12 tyX12_ok nmX12 xw_802 rfl (rfl : tyX12 51 = (.array .long)) rfl, fun _ => rfl⟩)
  · exact (xr_sipush dX12_init_350 (by decide +kernel))
  · exact (⟨by decide, xr_newa dX12_init_353 rfl xw_272⟩)
  · exact (⟨(.array .int), true, 0, rfl, xr_putF dX12_init_355 (show vwCl[12]? = some (RX12, TX12, 69) from rfl) (by decide) xin_X12 tyX12_ok nmX12 xw_803 rfl (rfl : tyX12 53 = (.array .int)) rfl, fun _ => rfl⟩)
  · exact (xr_sipush dX12_init_359 (by decide +kernel))
  · exact (⟨by decide, xr_newa dX12_init_362 rfl xw_272⟩)
  · exact (⟨(.array .int), true, 0, rfl, xr_putF dX12_init_364 (show vwCl[12]? = some (RX12, TX12, 69) from rfl) (by decide) xin_X12 tyX12_ok nmX12 xw_804 rfl (rfl : tyX12 54 = (.array .int)) rfl, fun _ => rfl⟩)
  · exact (⟨by decide, xr_newa dX12_init_370 rfl xw_272⟩)
  · exact (⟨(.array .int), true, 0, rfl, xr_putF dX12_init_372 (show vwCl[12]? = some (RX12, TX12, 69) from rfl) (by decide) xin_X12 tyX12_ok nmX12 xw_805 rfl (rfl : tyX12 55 = (.array .int)) rfl, fun _ => rfl⟩)
  · exact (⟨by decide, xr_newa dX12_init_378 rfl xw_272⟩)
  · exact (⟨(.array .int), true, 0, rfl, xr_putF dX12_init_380 (show vwCl[12]? = some (RX12, TX12, 69) from rfl) (by decide) xin_X12 tyX12_ok nmX12 xw_806 rfl (rfl : tyX12 56 = (.array .int)) rfl, fun _ => rfl⟩)
  · exact (⟨by decide, xr_newa dX12_init_385 rfl xw_272⟩)
  · exact (⟨(.array .int), true, 0, rfl, xr_putF dX12_init_387 (show vwCl[12]? = some (RX12, TX12, 69) from rfl) (by decide) xin_X12 tyX12_ok nmX12 xw_807 rfl (rfl : tyX12 57 = (.array .int)) rfl, fun _ => rfl⟩)
  · exact (⟨by decide, xr_newa dX12_init_392 rfl xw_272⟩)
  · exact (⟨(.array .int), true, 0, rfl, xr_putF dX12_init_394 (show vwCl[12]? = some (RX12, TX12, 69) from rfl) (by decide) xin_X12 tyX12_ok nmX12 xw_808 rfl (rfl : tyX12 58 = (.array .int)) rfl, fun _ => rfl⟩)
  · exact (⟨.int, false, 0, rfl, xr_putf dX12_init_399 (show vwCl[12]? = some (RX12, TX12, 69) from rfl) (by decide) xin_X12 tyX12_ok nmX12 xw_809 rfl (rfl : tyX12 62 = .int), fun h => (by cases h)⟩)
  · exact (⟨by decide, xr_newa dX12_init_405 rfl xw_272⟩)
  · exact (⟨(.array .int), true, 0, rfl, xr_putF dX12_init_407 (show vwCl[12]? = some (RX12, TX12, 69) from rfl) (by decide) xin_X12 tyX12_ok nmX12 xw_810 rfl (rfl : tyX12 63 = (.array .int)) rfl, fun _ => rfl⟩)
  · exact (⟨by decide, xr_newa dX12_init_413 rfl xw_272⟩)
  · exact (⟨(.array .int), true, 0, rfl, xr_putF dX12_init_415 (show vwCl[12]? = some (RX12, TX12, 69) from rfl) (by decide) xin_X12 tyX12_ok nmX12 xw_811 rfl (rfl : tyX12 64 = (.array .int)) rfl, fun _ => rfl⟩)
  · exact (⟨by decide, xr_newa dX12_init_421 rfl xw_773⟩)
  · exact (⟨(.array .boolean), true, 0, rfl, xr_putF dX12_init_423 (show vwCl[12]? = some (RX12, TX12, 69) from rfl) (by decide) xin_X12 tyX12_ok nmX12 xw_812 rfl (rfl : tyX12 65 = (.array .boolean)) rfl, fun _ => rfl⟩)
  · exact (⟨by decide, xr_newa dX12_init_428 rfl xw_272⟩)
  · exact (⟨(.array .int), true, 0, rfl, xr_putF dX12_init_430 (show vwCl[12]? = some (RX12, TX12, 69) from rfl) (by decide) xin_X12 tyX12_ok nmX12 xw_813 rfl (rfl : tyX12 66 = (.array .int)) rfl, fun _ => rfl⟩)
)
def xkp_142_2 : List (Nat × xOp) := [(433, (2, 434, 1, 0, [])), (434, (0, 435, 4, 0, [])), (435, (23, 437, 0, 0, [])), (437, (17, 440, 12, 67, [(4, 0)])), (440, (2, 441, 1, 0, [])), (441, (28, 444, 146, 12, [])), (444, (32, 0, 0, 0, []))]
set_option maxRecDepth 100000 in
set_option maxHeartbeats 4000000 in
theorem xop_142_2 : ∀ q ∈ xkp_142_2, xok xmt xm_142 q.1 q.2 := xqw_ok (M := xm_142) (G := gx_RX12) gxo_RX12 rfl (hd := [(435, (23, 437, 0, 0, [])), (437, (17, 440, 12, 67, [(4, 0)])), (441, (28, 444, 146, 12, []))]) (by decide +kernel) (by
  refine xcns ?_ <| xcns ?_ <| xcns ?_ <| xnl
  · exact (⟨by decide, xr_newa dX12_init_435 rfl xw_272⟩)
  · exact (⟨(.array .int), true, 0, rfl, xr_putF dX12_init_437 (show vwCl[12]? = some (RX12, TX12, 69) from rfl) (by decide) xin_X12 tyX12_ok nmX12 xw_814 rfl (rfl : tyX12 67 = (.array .int)) rfl, fun _ => rfl⟩)
  · exact (⟨rfl, _, rfl, ⟨160, dX12_init_441, xw_817, xw_815, xw_816⟩, _, rfl, rfl⟩)
)
set_option maxRecDepth 1000000 in
theorem xoe_142 : xk_142 = xkp_142_0 ++ (xkp_142_1 ++ (xkp_142_2)) := rfl
theorem xo_142 : ∀ q ∈ xk_142, xok xmt xm_142 q.1 q.2 := by
  rw [xoe_142]
  exact List.forall_mem_append.mpr ⟨xop_142_0, List.forall_mem_append.mpr ⟨xop_142_1, xop_142_2⟩⟩
theorem xmo_142 : xMok xmt xm_142 := ⟨xw_818, xw_819, ⟨by decide, by decide, by decide +kernel⟩, by decide +kernel, rfl, xo_142⟩
set_option maxRecDepth 100000 in
set_option maxHeartbeats 4000000 in
theorem xo_143 : ∀ q ∈ xk_143, xok xmt xm_143 q.1 q.2 := xqw_ok (M := xm_143) (G := gx_RX12) gxo_RX12 rfl (hd := []) (by decide +kernel) (xnl)
theorem xmo_143 : xMok xmt xm_143 := ⟨xw_820, xw_819, ⟨by decide, by decide, by decide +kernel⟩, by decide +kernel, rfl, xo_143⟩
set_option maxRecDepth 100000 in
set_option maxHeartbeats 4000000 in
theorem xo_144 : ∀ q ∈ xk_144, xok xmt xm_144 q.1 q.2 := xqw_ok (M := xm_144) (G := gx_RX12) gxo_RX12 rfl (hd := [(2, (17, 5, 12, 0, [(0, 0)])), (17, (28, 20, 155, 12, []))]) (by decide +kernel) (by
  refine xcns ?_ <| xcns ?_ <| xnl
  · exact (⟨.int, false, 0, rfl, xr_putf dX12_back_2 (show vwCl[12]? = some (RX12, TX12, 69) from rfl) (by decide) xin_X12 tyX12_ok nmX12 xw_821 rfl (rfl : tyX12 0 = .int), fun h => (by cases h)⟩)
  · exact (⟨rfl, _, rfl, ⟨508, dX12_back_17, xw_825, xw_823, xw_824⟩, _, rfl, rfl⟩)
)
theorem xmo_144 : xMok xmt xm_144 := ⟨xw_826, xw_819, ⟨by decide, by decide, by decide +kernel⟩, by decide +kernel, rfl, xo_144⟩
set_option maxRecDepth 100000 in
set_option maxHeartbeats 4000000 in
theorem xo_145 : ∀ q ∈ xk_145, xok xmt xm_145 q.1 q.2 := xqw_ok (M := xm_145) (G := gx_RX12) gxo_RX12 rfl (hd := [(2, (17, 5, 12, 0, [(0, 0)])), (7, (28, 10, 196, 12, [])), (71, (28, 74, 193, 12, []))]) (by decide +kernel) (by
  refine xcns ?_ <| xcns ?_ <| xcns ?_ <| xnl
  · exact (⟨.int, false, 0, rfl, xr_putf dX12_bar_2 (show vwCl[12]? = some (RX12, TX12, 69) from rfl) (by decide) xin_X12 tyX12_ok nmX12 xw_821 rfl (rfl : tyX12 0 = .int), fun h => (by cases h)⟩)
  · exact (⟨rfl, _, rfl, ⟨332, dX12_bar_7, xw_829, xw_827, xw_828⟩, _, rfl, rfl⟩)
  · exact (⟨rfl, _, rfl, ⟨381, dX12_bar_71, xw_832, xw_830, xw_831⟩, _, rfl, rfl⟩)
)
theorem xmo_145 : xMok xmt xm_145 := ⟨xw_833, xw_819, ⟨by decide, by decide, by decide +kernel⟩, by decide +kernel, rfl, xo_145⟩
set_option maxRecDepth 100000 in
set_option maxHeartbeats 4000000 in
theorem xo_146 : ∀ q ∈ xk_146, xok xmt xm_146 q.1 q.2 := xqw_ok (M := xm_146) (G := gx_RX12) gxo_RX12 rfl (hd := []) (by decide +kernel) (xnl)
theorem xmo_146 : xMok xmt xm_146 := ⟨xw_834, xw_819, ⟨by decide, by decide, by decide +kernel⟩, by decide +kernel, rfl, xo_146⟩
set_option maxRecDepth 100000 in
set_option maxHeartbeats 4000000 in
theorem xo_147 : ∀ q ∈ xk_147, xok xmt xm_147 q.1 q.2 := xqw_ok (M := xm_147) (G := gx_RX12) gxo_RX12 rfl (hd := [(2, (17, 5, 12, 0, [(0, 0)])), (6, (27, 9, 184, 0, [])), (25, (28, 28, 204, 12, []))]) (by decide +kernel) (by
  refine xcns ?_ <| xcns ?_ <| xcns ?_ <| xnl
  · exact (⟨.int, false, 0, rfl, xr_putf dX12_best_2 (show vwCl[12]? = some (RX12, TX12, 69) from rfl) (by decide) xin_X12 tyX12_ok nmX12 xw_821 rfl (rfl : tyX12 0 = .int), fun h => (by cases h)⟩)
  · exact (⟨rfl, _, rfl, ⟨446, dX12_best_6, xw_835, xw_836⟩⟩)
  · exact (⟨rfl, _, rfl, ⟨449, dX12_best_25, xw_839, xw_837, xw_838⟩, _, rfl, rfl⟩)
)
theorem xmo_147 : xMok xmt xm_147 := ⟨xw_840, xw_819, ⟨by decide, by decide, by decide +kernel⟩, by decide +kernel, rfl, xo_147⟩
set_option maxRecDepth 100000 in
set_option maxHeartbeats 4000000 in
theorem xo_148 : ∀ q ∈ xk_148, xok xmt xm_148 q.1 q.2 := xqw_ok (M := xm_148) (G := gx_RX12) gxo_RX12 rfl (hd := [(92, (28, 95, 223, 12, [])), (115, (28, 118, 223, 12, [])), (136, (28, 139, 179, 12, [])), (140, (71, 143, 1, 0, [])), (155, (0, 158, 999, 0, [])), (159, (28, 162, 251, 12, [])), (162, (70, 165, 0, 0, []))]) (by decide +kernel) (by
  refine xcns ?_ <| xcns ?_ <| xcns ?_ <| xcns ?_ <| xcns ?_ <| xcns ?_ <| xcns ?_ <| xnl
  · exact (⟨rfl, _, rfl, ⟨393, dX12_bidOf_92, xw_843, xw_841, xw_842⟩, _, rfl, rfl⟩)
  · exact (⟨rfl, _, rfl, ⟨393, dX12_bidOf_115, xw_843, xw_841, xw_842⟩, _, rfl, rfl⟩)
  · exact (⟨rfl, _, rfl, ⟨396, dX12_bidOf_136, xw_846, xw_844, xw_845⟩, _, rfl, rfl⟩)
  · exact (fun x y => xr_lmax dX12_bidOf_140 xv_22 xv_15 xv_2 xv_16 x y)
  · exact (xr_sipush dX12_bidOf_155 (by decide +kernel))
  · exact (⟨rfl, _, rfl, ⟨399, dX12_bidOf_159, xw_850, xw_848, xw_849⟩, _, rfl, rfl⟩)
  · exact (fun x y => xr_mmin dX12_bidOf_162 xv_23 xv_1 xv_2 xv_3 x y)
)
theorem xmo_148 : xMok xmt xm_148 := ⟨xw_852, xw_819, ⟨by decide, by decide, by decide +kernel⟩, by decide +kernel, rfl, xo_148⟩
set_option maxRecDepth 100000 in
set_option maxHeartbeats 4000000 in
theorem xo_149 : ∀ q ∈ xk_149, xok xmt xm_149 q.1 q.2 := xqw_ok (M := xm_149) (G := gx_RX12) gxo_RX12 rfl (hd := [(2, (17, 5, 12, 0, [(0, 0)])), (21, (28, 24, 196, 12, [])), (36, (28, 39, 148, 12, []))]) (by decide +kernel) (by
  refine xcns ?_ <| xcns ?_ <| xcns ?_ <| xnl
  · exact (⟨.int, false, 0, rfl, xr_putf dX12_bids_2 (show vwCl[12]? = some (RX12, TX12, 69) from rfl) (by decide) xin_X12 tyX12_ok nmX12 xw_821 rfl (rfl : tyX12 0 = .int), fun h => (by cases h)⟩)
  · exact (⟨rfl, _, rfl, ⟨332, dX12_bids_21, xw_829, xw_827, xw_828⟩, _, rfl, rfl⟩)
  · exact (⟨rfl, _, rfl, ⟨408, dX12_bids_36, xw_855, xw_853, xw_854⟩, _, rfl, rfl⟩)
)
theorem xmo_149 : xMok xmt xm_149 := ⟨xw_856, xw_819, ⟨by decide, by decide, by decide +kernel⟩, by decide +kernel, rfl, xo_149⟩
set_option maxRecDepth 100000 in
set_option maxHeartbeats 4000000 in
theorem xo_150 : ∀ q ∈ xk_150, xok xmt xm_150 q.1 q.2 := xqw_ok (M := xm_150) (G := gx_RX12) gxo_RX12 rfl (hd := []) (by decide +kernel) (xnl)
theorem xmo_150 : xMok xmt xm_150 := ⟨xw_857, xw_819, ⟨by decide, by decide, by decide +kernel⟩, by decide +kernel, rfl, xo_150⟩
set_option maxRecDepth 100000 in
set_option maxHeartbeats 4000000 in
theorem xo_151 : ∀ q ∈ xk_151, xok xmt xm_151 q.1 q.2 := xqw_ok (M := xm_151) (G := gx_RX12) gxo_RX12 rfl (hd := []) (by decide +kernel) (xnl)
theorem xmo_151 : xMok xmt xm_151 := ⟨xw_858, xw_819, ⟨by decide, by decide, by decide +kernel⟩, by decide +kernel, rfl, xo_151⟩
set_option maxRecDepth 100000 in
set_option maxHeartbeats 4000000 in
theorem xo_152 : ∀ q ∈ xk_152, xok xmt xm_152 q.1 q.2 := xqw_ok (M := xm_152) (G := gx_RX12) gxo_RX12 rfl (hd := [(2, (17, 5, 12, 0, [(0, 0)])), (6, (27, 9, 184, 0, [])), (15, (28, 18, 189, 12, [])), (25, (28, 28, 204, 12, [])), (41, (28, 44, 234, 12, [])), (47, (28, 50, 208, 12, [])), (58, (28, 61, 182, 12, [])), (67, (28, 70, 175, 12, [])), (79, (28, 82, 156, 12, []))]) (by decide +kernel) (by
  refine xcns ?_ <| xcns ?_ <| xcns ?_ <| xcns ?_ <| xcns ?_ <| xcns ?_ <| xcns ?_ <| xcns ?_ <| xcns ?_ <| xnl
  · exact (⟨.int, false, 0, rfl, xr_putf dX12_chosen_2 (show vwCl[12]? = some (RX12, TX12, 69) from rfl) (by decide) xin_X12 tyX12_ok nmX12 xw_821 rfl (rfl : tyX12 0 = .int), fun h => (by cases h)⟩)
  · exact (⟨rfl, _, rfl, ⟨446, dX12_chosen_6, xw_835, xw_836⟩⟩)
  · exact (⟨rfl, _, rfl, ⟨344, dX12_chosen_15, xw_861, xw_859, xw_860⟩, _, rfl, rfl⟩)
  · exact (⟨rfl, _, rfl, ⟨449, dX12_chosen_25, xw_839, xw_837, xw_838⟩, _, rfl, rfl⟩)
  · exact (⟨rfl, _, rfl, ⟨427, dX12_chosen_41, xw_864, xw_862, xw_863⟩, _, rfl, rfl⟩)
  · exact (⟨rfl, _, rfl, ⟨430, dX12_chosen_47, xw_867, xw_865, xw_866⟩, _, rfl, rfl⟩)
  · exact (⟨rfl, _, rfl, ⟨452, dX12_chosen_58, xw_870, xw_868, xw_869⟩, _, rfl, rfl⟩)
  · exact (⟨rfl, _, rfl, ⟨443, dX12_chosen_67, xw_873, xw_871, xw_872⟩, _, rfl, rfl⟩)
  · exact (⟨rfl, _, rfl, ⟨433, dX12_chosen_79, xw_876, xw_874, xw_875⟩, _, rfl, rfl⟩)
)
theorem xmo_152 : xMok xmt xm_152 := ⟨xw_877, xw_819, ⟨by decide, by decide, by decide +kernel⟩, by decide +kernel, rfl, xo_152⟩
set_option maxRecDepth 100000 in
set_option maxHeartbeats 4000000 in
theorem xo_153 : ∀ q ∈ xk_153, xok xmt xm_153 q.1 q.2 := xqw_ok (M := xm_153) (G := gx_RX12) gxo_RX12 rfl (hd := []) (by decide +kernel) (xnl)
theorem xmo_153 : xMok xmt xm_153 := ⟨xw_878, xw_819, ⟨by decide, by decide, by decide +kernel⟩, by decide +kernel, rfl, xo_153⟩
end
section
set_option maxRecDepth 100000 in
set_option maxHeartbeats 4000000 in
theorem xo_154 : ∀ q ∈ xk_154, xok xmt xm_154 q.1 q.2 := xqw_ok (M := xm_154) (G := gx_RX12) gxo_RX12 rfl (hd := [(1, (28, 4, 211, 12, [])), (7, (28, 10, 198, 12, [])), (14, (28, 17, 200, 12, [])), (18, (28, 21, 173, 12, [])), (22, (28, 25, 211, 12, [])), (27, (0, 30, 261, 0, [])), (30, (28, 33, 219, 12, []))]) (by decide +kernel) (by
  refine xcns ?_ <| xcns ?_ <| xcns ?_ <| xcns ?_ <| xcns ?_ <| xcns ?_ <| xcns ?_ <| xnl
  · exact (⟨rfl, _, rfl, ⟨300, dX12_conjunction_1, xw_881, xw_879, xw_880⟩, _, rfl, rfl⟩)
  · exact (⟨rfl, _, rfl, ⟨279, dX12_conjunction_7, xw_884, xw_882, xw_883⟩, _, rfl, rfl⟩)
  · exact (⟨rfl, _, rfl, ⟨294, dX12_conjunction_14, xw_887, xw_885, xw_886⟩, _, rfl, rfl⟩)
  · exact (⟨rfl, _, rfl, ⟨237, dX12_conjunction_18, xw_890, xw_888, xw_889⟩, _, rfl, rfl⟩)
  · exact (⟨rfl, _, rfl, ⟨300, dX12_conjunction_22, xw_881, xw_879, xw_880⟩, _, rfl, rfl⟩)
  · exact (xr_sipush dX12_conjunction_27 (by decide +kernel))
  · exact (⟨rfl, _, rfl, ⟨297, dX12_conjunction_30, xw_893, xw_891, xw_892⟩, _, rfl, rfl⟩)
)
theorem xmo_154 : xMok xmt xm_154 := ⟨xw_894, xw_819, ⟨by decide, by decide, by decide +kernel⟩, by decide +kernel, rfl, xo_154⟩
def xkp_155_0 : List (Nat × xOp) := [(0, (2, 1, 1, 0, [])), (1, (16, 4, 12, 37, [])), (4, (2, 5, 0, 1, [])), (5, (2, 6, 1, 0, [])), (6, (16, 9, 12, 37, [])), (9, (2, 10, 0, 2, [])), (10, (19, 11, 0, 0, [])), (11, (21, 12, 0, 0, [])), (12, (2, 13, 1, 0, [])), (13, (16, 16, 12, 38, [])), (16, (2, 17, 0, 1, [])), (17, (2, 18, 1, 0, [])), (18, (16, 21, 12, 38, [])), (21, (2, 22, 0, 2, [])), (22, (19, 23, 0, 0, [])), (23, (21, 24, 0, 0, [])), (24, (2, 25, 1, 0, [])), (25, (16, 28, 12, 39, [])), (28, (2, 29, 0, 1, [])), (29, (2, 30, 1, 0, [])), (30, (16, 33, 12, 39, [])), (33, (2, 34, 0, 2, [])), (34, (19, 35, 0, 0, [])), (35, (21, 36, 0, 0, [])), (36, (2, 37, 1, 0, [])), (37, (16, 40, 12, 40, [])), (40, (2, 41, 0, 1, [])), (41, (2, 42, 1, 0, [])), (42, (16, 45, 12, 40, [])), (45, (2, 46, 0, 2, [])), (46, (19, 47, 0, 0, [])), (47, (21, 48, 0, 0, [])), (48, (2, 49, 1, 0, [])), (49, (16, 52, 12, 41, [])), (52, (2, 53, 0, 1, [])), (53, (2, 54, 1, 0, [])), (54, (16, 57, 12, 41, [])), (57, (2, 58, 0, 2, [])), (58, (19, 59, 0, 0, [])), (59, (21, 60, 0, 0, [])), (60, (2, 61, 1, 0, [])), (61, (16, 64, 12, 46, [])), (64, (2, 65, 0, 1, [])), (65, (2, 66, 1, 0, [])), (66, (16, 69, 12, 46, [])), (69, (2, 70, 0, 2, [])), (70, (19, 71, 0, 0, [])), (71, (21, 72, 0, 0, [])), (72, (0, 73, 0, 0, [])), (73, (3, 74, 0, 3, [])), (74, (2, 75, 0, 3, [])), (75, (0, 76, 3, 0, [])), (76, (13, 79, 105, 3, [])), (79, (2, 80, 1, 0, [])), (80, (16, 83, 12, 42, [])), (83, (0, 84, 3, 0, [])), (84, (2, 85, 0, 1, [])), (85, (5, 86, 2, 0, [])), (86, (2, 87, 0, 3, [])), (87, (5, 88, 0, 0, [])), (88, (2, 89, 1, 0, [])), (89, (16, 92, 12, 42, [])), (92, (0, 93, 3, 0, [])), (93, (2, 94, 0, 2, [])), (94, (5, 95, 2, 0, [])), (95, (2, 96, 0, 3, [])), (96, (5, 97, 0, 0, [])), (97, (19, 98, 0, 0, [])), (98, (21, 99, 0, 0, [])), (99, (4, 102, 3, 1, [])), (102, (14, 74, 0, 0, [])), (105, (0, 106, 0, 0, [])), (106, (3, 107, 0, 3, [])), (107, (2, 108, 0, 3, [])), (108, (0, 109, 3, 0, [])), (109, (13, 112, 138, 3, [])), (112, (2, 113, 1, 0, [])), (113, (16, 116, 12, 43, [])), (116, (0, 117, 3, 0, [])), (117, (2, 118, 0, 1, [])), (118, (5, 119, 2, 0, [])), (119, (2, 120, 0, 3, [])), (120, (5, 121, 0, 0, [])), (121, (2, 122, 1, 0, [])), (122, (16, 125, 12, 43, [])), (125, (0, 126, 3, 0, [])), (126, (2, 127, 0, 2, [])), (127, (5, 128, 2, 0, [])), (128, (2, 129, 0, 3, [])), (129, (5, 130, 0, 0, [])), (130, (19, 131, 0, 0, [])), (131, (21, 132, 0, 0, [])), (132, (4, 135, 3, 1, [])), (135, (14, 107, 0, 0, [])), (138, (0, 139, 0, 0, [])), (139, (3, 140, 0, 3, [])), (140, (2, 141, 0, 3, [])), (141, (0, 143, 6, 0, [])), (143, (13, 146, 174, 3, [])), (146, (2, 147, 1, 0, [])), (147, (16, 150, 12, 44, [])), (150, (0, 152, 6, 0, [])), (152, (2, 153, 0, 1, [])), (153, (5, 154, 2, 0, [])), (154, (2, 155, 0, 3, [])), (155, (5, 156, 0, 0, [])), (156, (2, 157, 1, 0, [])), (157, (16, 160, 12, 44, [])), (160, (0, 162, 6, 0, [])), (162, (2, 163, 0, 2, [])), (163, (5, 164, 2, 0, [])), (164, (2, 165, 0, 3, [])), (165, (5, 166, 0, 0, [])), (166, (19, 167, 0, 0, [])), (167, (21, 168, 0, 0, [])), (168, (4, 171, 3, 1, [])), (171, (14, 140, 0, 0, [])), (174, (0, 175, 0, 0, [])), (175, (3, 176, 0, 3, [])), (176, (2, 177, 0, 3, []))]
set_option maxRecDepth 100000 in
set_option maxHeartbeats 4000000 in
theorem xop_155_0 : ∀ q ∈ xkp_155_0, xok xmt xm_155 q.1 q.2 := xqw_ok (M := xm_155) (G := gx_RX12) gxo_RX12 rfl (hd := []) (by decide +kernel) (xnl)
def xkp_155_1 : List (Nat × xOp) := [(177, (0, 179, 12, 0, [])), (179, (13, 182, 254, 3, [])), (182, (2, 183, 1, 0, [])), (183, (16, 186, 12, 45, [])), (186, (0, 188, 12, 0, [])), (188, (2, 189, 0, 1, [])), (189, (5, 190, 2, 0, [])), (190, (2, 191, 0, 3, [])), (191, (5, 192, 0, 0, [])), (192, (2, 193, 1, 0, [])), (193, (16, 196, 12, 45, [])), (196, (0, 198, 12, 0, [])), (198, (2, 199, 0, 2, [])), (199, (5, 200, 2, 0, [])), (200, (2, 201, 0, 3, [])), (201, (5, 202, 0, 0, [])), (202, (19, 203, 0, 0, [])), (203, (21, 204, 0, 0, [])), (204, (2, 205, 1, 0, [])), (205, (16, 208, 12, 47, [])), (208, (0, 210, 12, 0, [])), (210, (2, 211, 0, 1, [])), (211, (5, 212, 2, 0, [])), (212, (2, 213, 0, 3, [])), (213, (5, 214, 0, 0, [])), (214, (2, 215, 1, 0, [])), (215, (16, 218, 12, 47, [])), (218, (0, 220, 12, 0, [])), (220, (2, 221, 0, 2, [])), (221, (5, 222, 2, 0, [])), (222, (2, 223, 0, 3, [])), (223, (5, 224, 0, 0, [])), (224, (19, 225, 0, 0, [])), (225, (21, 226, 0, 0, [])), (226, (2, 227, 1, 0, [])), (227, (16, 230, 12, 48, [])), (230, (0, 232, 12, 0, [])), (232, (2, 233, 0, 1, [])), (233, (5, 234, 2, 0, [])), (234, (2, 235, 0, 3, [])), (235, (5, 236, 0, 0, [])), (236, (2, 237, 1, 0, [])), (237, (16, 240, 12, 48, [])), (240, (0, 242, 12, 0, [])), (242, (2, 243, 0, 2, [])), (243, (5, 244, 2, 0, [])), (244, (2, 245, 0, 3, [])), (245, (5, 246, 0, 0, [])), (246, (19, 247, 0, 0, [])), (247, (21, 248, 0, 0, [])), (248, (4, 251, 3, 1, [])), (251, (14, 176, 0, 0, [])), (254, (32, 0, 0, 0, []))]
set_option maxRecDepth 100000 in
set_option maxHeartbeats 4000000 in
theorem xop_155_1 : ∀ q ∈ xkp_155_1, xok xmt xm_155 q.1 q.2 := xqw_ok (M := xm_155) (G := gx_RX12) gxo_RX12 rfl (hd := []) (by decide +kernel) (xnl)
set_option maxRecDepth 1000000 in
theorem xoe_155 : xk_155 = xkp_155_0 ++ (xkp_155_1) := rfl
theorem xo_155 : ∀ q ∈ xk_155, xok xmt xm_155 q.1 q.2 := by
  rw [xoe_155]
  exact List.forall_mem_append.mpr ⟨xop_155_0, xop_155_1⟩
theorem xmo_155 : xMok xmt xm_155 := ⟨xw_895, xw_819, ⟨by decide, by decide, by decide +kernel⟩, by decide +kernel, rfl, xo_155⟩
set_option maxRecDepth 100000 in
set_option maxHeartbeats 4000000 in
theorem xo_156 : ∀ q ∈ xk_156, xok xmt xm_156 q.1 q.2 := xqw_ok (M := xm_156) (G := gx_RX12) gxo_RX12 rfl (hd := []) (by decide +kernel) (xnl)
theorem xmo_156 : xMok xmt xm_156 := ⟨xw_896, xw_819, ⟨by decide, by decide, by decide +kernel⟩, by decide +kernel, rfl, xo_156⟩
set_option maxRecDepth 100000 in
set_option maxHeartbeats 4000000 in
theorem xo_157 : ∀ q ∈ xk_157, xok xmt xm_157 q.1 q.2 := xqw_ok (M := xm_157) (G := gx_RX12) gxo_RX12 rfl (hd := [(2, (17, 5, 12, 0, [(0, 0)])), (8, (15, 0, 219, 0, [(0, 72), (1, 79), (2, 86), (3, 93), (4, 100), (5, 108), (6, 115), (7, 122), (8, 129), (9, 134), (10, 139), (11, 149)])), (135, (28, 138, 202, 12, [])), (145, (27, 148, 150, 0, []))]) (by decide +kernel) (by
  refine xcns ?_ <| xcns ?_ <| xcns ?_ <| xcns ?_ <| xnl
  · exact (⟨.int, false, 0, rfl, xr_putf dX12_count_2 (show vwCl[12]? = some (RX12, TX12, 69) from rfl) (by decide) xin_X12 tyX12_ok nmX12 xw_821 rfl (rfl : tyX12 0 = .int), fun h => (by cases h)⟩)
  · exact (xr_table dX12_count_8 (by decide) (by decide) (by decide))
  · exact (⟨rfl, _, rfl, ⟨467, dX12_count_135, xw_900, xw_898, xw_899⟩, _, rfl, rfl⟩)
  · exact (⟨rfl, _, rfl, ⟨485, dX12_count_145, xw_901, xw_902⟩⟩)
)
theorem xmo_157 : xMok xmt xm_157 := ⟨xw_903, xw_819, ⟨by decide, by decide, by decide +kernel⟩, by decide +kernel, rfl, xo_157⟩
set_option maxRecDepth 100000 in
set_option maxHeartbeats 4000000 in
theorem xo_158 : ∀ q ∈ xk_158, xok xmt xm_158 q.1 q.2 := xqw_ok (M := xm_158) (G := gx_RX12) gxo_RX12 rfl (hd := [(2, (28, 5, 151, 12, [])), (25, (28, 28, 251, 12, []))]) (by decide +kernel) (by
  refine xcns ?_ <| xcns ?_ <| xnl
  · exact (⟨rfl, _, rfl, ⟨387, dX12_crackOf_2, xw_906, xw_904, xw_905⟩, _, rfl, rfl⟩)
  · exact (⟨rfl, _, rfl, ⟨399, dX12_crackOf_25, xw_850, xw_848, xw_849⟩, _, rfl, rfl⟩)
)
theorem xmo_158 : xMok xmt xm_158 := ⟨xw_907, xw_819, ⟨by decide, by decide, by decide +kernel⟩, by decide +kernel, rfl, xo_158⟩
set_option maxRecDepth 100000 in
set_option maxHeartbeats 4000000 in
theorem xo_159 : ∀ q ∈ xk_159, xok xmt xm_159 q.1 q.2 := xqw_ok (M := xm_159) (G := gx_RX12) gxo_RX12 rfl (hd := [(2, (17, 5, 12, 0, [(0, 0)])), (7, (28, 10, 197, 12, [])), (16, (28, 19, 158, 12, []))]) (by decide +kernel) (by
  refine xcns ?_ <| xcns ?_ <| xcns ?_ <| xnl
  · exact (⟨.int, false, 0, rfl, xr_putf dX12_cracks_2 (show vwCl[12]? = some (RX12, TX12, 69) from rfl) (by decide) xin_X12 tyX12_ok nmX12 xw_821 rfl (rfl : tyX12 0 = .int), fun h => (by cases h)⟩)
  · exact (⟨rfl, _, rfl, ⟨335, dX12_cracks_7, xw_910, xw_908, xw_909⟩, _, rfl, rfl⟩)
  · exact (⟨rfl, _, rfl, ⟨411, dX12_cracks_16, xw_913, xw_911, xw_912⟩, _, rfl, rfl⟩)
)
theorem xmo_159 : xMok xmt xm_159 := ⟨xw_914, xw_819, ⟨by decide, by decide, by decide +kernel⟩, by decide +kernel, rfl, xo_159⟩
set_option maxRecDepth 100000 in
set_option maxHeartbeats 4000000 in
theorem xo_160 : ∀ q ∈ xk_160, xok xmt xm_160 q.1 q.2 := xqw_ok (M := xm_160) (G := gx_RX12) gxo_RX12 rfl (hd := [(11, (0, 14, 1103515245, 0, [])), (15, (0, 18, 12345, 0, [])), (19, (0, 22, 2147483647, 0, []))]) (by decide +kernel) (by
  refine xcns ?_ <| xcns ?_ <| xcns ?_ <| xnl
  · exact (xr_ldcw dX12_draw_11 xw_915)
  · exact (xr_sipush dX12_draw_15 (by decide +kernel))
  · exact (xr_ldcw dX12_draw_19 xw_916)
)
theorem xmo_160 : xMok xmt xm_160 := ⟨xw_917, xw_819, ⟨by decide, by decide, by decide +kernel⟩, by decide +kernel, rfl, xo_160⟩
set_option maxRecDepth 100000 in
set_option maxHeartbeats 4000000 in
theorem xo_161 : ∀ q ∈ xk_161, xok xmt xm_161 q.1 q.2 := xqw_ok (M := xm_161) (G := gx_RX12) gxo_RX12 rfl (hd := [(2, (17, 5, 12, 0, [(0, 0)])), (8, (28, 11, 189, 12, [])), (16, (28, 19, 197, 12, [])), (29, (28, 32, 162, 12, []))]) (by decide +kernel) (by
  refine xcns ?_ <| xcns ?_ <| xcns ?_ <| xcns ?_ <| xnl
  · exact (⟨.int, false, 0, rfl, xr_putf dX12_due_2 (show vwCl[12]? = some (RX12, TX12, 69) from rfl) (by decide) xin_X12 tyX12_ok nmX12 xw_821 rfl (rfl : tyX12 0 = .int), fun h => (by cases h)⟩)
  · exact (⟨rfl, _, rfl, ⟨344, dX12_due_8, xw_861, xw_859, xw_860⟩, _, rfl, rfl⟩)
  · exact (⟨rfl, _, rfl, ⟨335, dX12_due_16, xw_910, xw_908, xw_909⟩, _, rfl, rfl⟩)
  · exact (⟨rfl, _, rfl, ⟨405, dX12_due_29, xw_920, xw_918, xw_919⟩, _, rfl, rfl⟩)
)
theorem xmo_161 : xMok xmt xm_161 := ⟨xw_921, xw_819, ⟨by decide, by decide, by decide +kernel⟩, by decide +kernel, rfl, xo_161⟩
set_option maxRecDepth 100000 in
set_option maxHeartbeats 4000000 in
theorem xo_162 : ∀ q ∈ xk_162, xok xmt xm_162 q.1 q.2 := xqw_ok (M := xm_162) (G := gx_RX12) gxo_RX12 rfl (hd := [(14, (28, 17, 151, 12, [])), (25, (28, 28, 233, 12, [])), (37, (28, 40, 223, 12, [])), (49, (28, 52, 179, 12, [])), (72, (0, 75, 999, 0, [])), (81, (28, 84, 251, 12, []))]) (by decide +kernel) (by
  refine xcns ?_ <| xcns ?_ <| xcns ?_ <| xcns ?_ <| xcns ?_ <| xcns ?_ <| xnl
  · exact (⟨rfl, _, rfl, ⟨387, dX12_dueOf_14, xw_906, xw_904, xw_905⟩, _, rfl, rfl⟩)
  · exact (⟨rfl, _, rfl, ⟨390, dX12_dueOf_25, xw_924, xw_922, xw_923⟩, _, rfl, rfl⟩)
  · exact (⟨rfl, _, rfl, ⟨393, dX12_dueOf_37, xw_843, xw_841, xw_842⟩, _, rfl, rfl⟩)
  · exact (⟨rfl, _, rfl, ⟨396, dX12_dueOf_49, xw_846, xw_844, xw_845⟩, _, rfl, rfl⟩)
  · exact (xr_sipush dX12_dueOf_72 (by decide +kernel))
  · exact (⟨rfl, _, rfl, ⟨399, dX12_dueOf_81, xw_850, xw_848, xw_849⟩, _, rfl, rfl⟩)
)
theorem xmo_162 : xMok xmt xm_162 := ⟨xw_925, xw_819, ⟨by decide, by decide, by decide +kernel⟩, by decide +kernel, rfl, xo_162⟩
set_option maxRecDepth 100000 in
set_option maxHeartbeats 4000000 in
theorem xo_163 : ∀ q ∈ xk_163, xok xmt xm_163 q.1 q.2 := xqw_ok (M := xm_163) (G := gx_RX12) gxo_RX12 rfl (hd := [(2, (17, 5, 12, 0, [(0, 0)])), (7, (28, 10, 143, 12, [])), (25, (28, 28, 227, 12, []))]) (by decide +kernel) (by
  refine xcns ?_ <| xcns ?_ <| xcns ?_ <| xnl
  · exact (⟨.int, false, 0, rfl, xr_putf dX12_easter_2 (show vwCl[12]? = some (RX12, TX12, 69) from rfl) (by decide) xin_X12 tyX12_ok nmX12 xw_821 rfl (rfl : tyX12 0 = .int), fun h => (by cases h)⟩)
  · exact (⟨rfl, _, rfl, ⟨461, dX12_easter_7, xw_928, xw_926, xw_927⟩, _, rfl, rfl⟩)
  · exact (⟨rfl, _, rfl, ⟨464, dX12_easter_25, xw_931, xw_929, xw_930⟩, _, rfl, rfl⟩)
)
theorem xmo_163 : xMok xmt xm_163 := ⟨xw_932, xw_819, ⟨by decide, by decide, by decide +kernel⟩, by decide +kernel, rfl, xo_163⟩
set_option maxRecDepth 100000 in
set_option maxHeartbeats 4000000 in
theorem xo_164 : ∀ q ∈ xk_164, xok xmt xm_164 q.1 q.2 := xqw_ok (M := xm_164) (G := gx_RX12) gxo_RX12 rfl (hd := [(2, (17, 5, 12, 0, [(0, 0)])), (8, (28, 11, 189, 12, [])), (17, (27, 20, 190, 0, [])), (38, (17, 41, 12, 68, [(0, 0)])), (52, (28, 55, 225, 12, []))]) (by decide +kernel) (by
  refine xcns ?_ <| xcns ?_ <| xcns ?_ <| xcns ?_ <| xcns ?_ <| xnl
  · exact (⟨.int, false, 0, rfl, xr_putf dX12_entry_2 (show vwCl[12]? = some (RX12, TX12, 69) from rfl) (by decide) xin_X12 tyX12_ok nmX12 xw_821 rfl (rfl : tyX12 0 = .int), fun h => (by cases h)⟩)
  · exact (⟨rfl, _, rfl, ⟨344, dX12_entry_8, xw_861, xw_859, xw_860⟩, _, rfl, rfl⟩)
  · exact (⟨rfl, _, rfl, ⟨498, dX12_entry_17, xw_933, xw_934⟩⟩)
  · exact (⟨.int, false, 0, rfl, xr_putf dX12_entry_38 (show vwCl[12]? = some (RX12, TX12, 69) from rfl) (by decide) xin_X12 tyX12_ok nmX12 xw_935 rfl (rfl : tyX12 68 = .int), fun h => (by cases h)⟩)
  · exact (⟨rfl, _, rfl, ⟨494, dX12_entry_52, xw_938, xw_936, xw_937⟩, _, rfl, rfl⟩)
)
theorem xmo_164 : xMok xmt xm_164 := ⟨xw_939, xw_819, ⟨by decide, by decide, by decide +kernel⟩, by decide +kernel, rfl, xo_164⟩
set_option maxRecDepth 100000 in
set_option maxHeartbeats 4000000 in
theorem xo_165 : ∀ q ∈ xk_165, xok xmt xm_165 q.1 q.2 := xqw_ok (M := xm_165) (G := gx_RX12) gxo_RX12 rfl (hd := [(1, (28, 4, 154, 12, [])), (7, (28, 10, 198, 12, [])), (14, (28, 17, 200, 12, [])), (18, (28, 21, 173, 12, [])), (22, (28, 25, 154, 12, [])), (27, (0, 30, 262, 0, [])), (30, (28, 33, 219, 12, []))]) (by decide +kernel) (by
  refine xcns ?_ <| xcns ?_ <| xcns ?_ <| xcns ?_ <| xcns ?_ <| xcns ?_ <| xcns ?_ <| xnl
  · exact (⟨rfl, _, rfl, ⟨291, dX12_expression_1, xw_942, xw_940, xw_941⟩, _, rfl, rfl⟩)
  · exact (⟨rfl, _, rfl, ⟨279, dX12_expression_7, xw_884, xw_882, xw_883⟩, _, rfl, rfl⟩)
  · exact (⟨rfl, _, rfl, ⟨294, dX12_expression_14, xw_887, xw_885, xw_886⟩, _, rfl, rfl⟩)
  · exact (⟨rfl, _, rfl, ⟨237, dX12_expression_18, xw_890, xw_888, xw_889⟩, _, rfl, rfl⟩)
  · exact (⟨rfl, _, rfl, ⟨291, dX12_expression_22, xw_942, xw_940, xw_941⟩, _, rfl, rfl⟩)
  · exact (xr_sipush dX12_expression_27 (by decide +kernel))
  · exact (⟨rfl, _, rfl, ⟨297, dX12_expression_30, xw_893, xw_891, xw_892⟩, _, rfl, rfl⟩)
)
theorem xmo_165 : xMok xmt xm_165 := ⟨xw_943, xw_819, ⟨by decide, by decide, by decide +kernel⟩, by decide +kernel, rfl, xo_165⟩
set_option maxRecDepth 100000 in
set_option maxHeartbeats 4000000 in
theorem xo_166 : ∀ q ∈ xk_166, xok xmt xm_166 q.1 q.2 := xqw_ok (M := xm_166) (G := gx_RX12) gxo_RX12 rfl (hd := [(2, (17, 5, 12, 0, [(0, 0)]))]) (by decide +kernel) (by
  refine xcns ?_ <| xnl
  · exact (⟨.int, false, 0, rfl, xr_putf dX12_fault_2 (show vwCl[12]? = some (RX12, TX12, 69) from rfl) (by decide) xin_X12 tyX12_ok nmX12 xw_821 rfl (rfl : tyX12 0 = .int), fun h => (by cases h)⟩)
)
theorem xmo_166 : xMok xmt xm_166 := ⟨xw_945, xw_819, ⟨by decide, by decide, by decide +kernel⟩, by decide +kernel, rfl, xo_166⟩
set_option maxRecDepth 100000 in
set_option maxHeartbeats 4000000 in
theorem xo_167 : ∀ q ∈ xk_167, xok xmt xm_167 q.1 q.2 := xqw_ok (M := xm_167) (G := gx_RX12) gxo_RX12 rfl (hd := [(2, (17, 5, 12, 0, [(0, 0)])), (9, (0, 12, 780, 0, [])), (99, (0, 102, 255, 0, [])), (118, (17, 121, 12, 2, [(0, 0)]))]) (by decide +kernel) (by
  refine xcns ?_ <| xcns ?_ <| xcns ?_ <| xcns ?_ <| xnl
  · exact (⟨.int, false, 0, rfl, xr_putf dX12_feed_2 (show vwCl[12]? = some (RX12, TX12, 69) from rfl) (by decide) xin_X12 tyX12_ok nmX12 xw_821 rfl (rfl : tyX12 0 = .int), fun h => (by cases h)⟩)
  · exact (xr_sipush dX12_feed_9 (by decide +kernel))
  · exact (xr_sipush dX12_feed_99 (by decide +kernel))
  · exact (⟨.int, false, 0, rfl, xr_putf dX12_feed_118 (show vwCl[12]? = some (RX12, TX12, 69) from rfl) (by decide) xin_X12 tyX12_ok nmX12 xw_946 rfl (rfl : tyX12 2 = .int), fun h => (by cases h)⟩)
)
theorem xmo_167 : xMok xmt xm_167 := ⟨xw_947, xw_819, ⟨by decide, by decide, by decide +kernel⟩, by decide +kernel, rfl, xo_167⟩
set_option maxRecDepth 100000 in
set_option maxHeartbeats 4000000 in
theorem xo_168 : ∀ q ∈ xk_168, xok xmt xm_168 q.1 q.2 := xqw_ok (M := xm_168) (G := gx_RX12) gxo_RX12 rfl (hd := []) (by decide +kernel) (xnl)
theorem xmo_168 : xMok xmt xm_168 := ⟨xw_948, xw_819, ⟨by decide, by decide, by decide +kernel⟩, by decide +kernel, rfl, xo_168⟩
set_option maxRecDepth 100000 in
set_option maxHeartbeats 4000000 in
theorem xo_169 : ∀ q ∈ xk_169, xok xmt xm_169 q.1 q.2 := xqw_ok (M := xm_169) (G := gx_RX12) gxo_RX12 rfl (hd := [(19, (28, 22, 254, 12, [])), (32, (27, 35, 168, 0, [])), (41, (28, 44, 254, 12, [])), (60, (28, 63, 244, 12, []))]) (by decide +kernel) (by
  refine xcns ?_ <| xcns ?_ <| xcns ?_ <| xcns ?_ <| xnl
  · exact (⟨rfl, _, rfl, ⟨226, dX12_fresh_19, xw_953, xw_951, xw_952⟩, _, rfl, rfl⟩)
  · exact (⟨rfl, _, rfl, ⟨229, dX12_fresh_32, xw_955, xw_956⟩⟩)
  · exact (⟨rfl, _, rfl, ⟨226, dX12_fresh_41, xw_953, xw_951, xw_952⟩, _, rfl, rfl⟩)
  · exact (⟨rfl, _, rfl, ⟨223, dX12_fresh_60, xw_959, xw_957, xw_958⟩, _, rfl, rfl⟩)
)
theorem xmo_169 : xMok xmt xm_169 := ⟨xw_960, xw_819, ⟨by decide, by decide, by decide +kernel⟩, by decide +kernel, rfl, xo_169⟩
set_option maxRecDepth 100000 in
set_option maxHeartbeats 4000000 in
theorem xo_170 : ∀ q ∈ xk_170, xok xmt xm_170 q.1 q.2 := xqw_ok (M := xm_170) (G := gx_RX12) gxo_RX12 rfl (hd := []) (by decide +kernel) (xnl)
theorem xmo_170 : xMok xmt xm_170 := ⟨xw_961, xw_819, ⟨by decide, by decide, by decide +kernel⟩, by decide +kernel, rfl, xo_170⟩
set_option maxRecDepth 100000 in
set_option maxHeartbeats 4000000 in
theorem xo_171 : ∀ q ∈ xk_171, xok xmt xm_171 q.1 q.2 := xqw_ok (M := xm_171) (G := gx_RX12) gxo_RX12 rfl (hd := []) (by decide +kernel) (xnl)
theorem xmo_171 : xMok xmt xm_171 := ⟨xw_962, xw_819, ⟨by decide, by decide, by decide +kernel⟩, by decide +kernel, rfl, xo_171⟩
end
section
set_option maxRecDepth 100000 in
set_option maxHeartbeats 4000000 in
theorem xo_172 : ∀ q ∈ xk_172, xok xmt xm_172 q.1 q.2 := xqw_ok (M := xm_172) (G := gx_RX12) gxo_RX12 rfl (hd := [(2, (17, 5, 12, 0, [(0, 0)])), (6, (28, 9, 236, 12, [])), (33, (27, 36, 150, 0, [])), (37, (27, 40, 150, 0, [])), (45, (28, 48, 187, 12, []))]) (by decide +kernel) (by
  refine xcns ?_ <| xcns ?_ <| xcns ?_ <| xcns ?_ <| xcns ?_ <| xnl
  · exact (⟨.int, false, 0, rfl, xr_putf dX12_gang_2 (show vwCl[12]? = some (RX12, TX12, 69) from rfl) (by decide) xin_X12 tyX12_ok nmX12 xw_821 rfl (rfl : tyX12 0 = .int), fun h => (by cases h)⟩)
  · exact (⟨rfl, _, rfl, ⟨473, dX12_gang_6, xw_965, xw_963, xw_964⟩, _, rfl, rfl⟩)
  · exact (⟨rfl, _, rfl, ⟨485, dX12_gang_33, xw_901, xw_902⟩⟩)
  · exact (⟨rfl, _, rfl, ⟨485, dX12_gang_37, xw_901, xw_902⟩⟩)
  · exact (⟨rfl, _, rfl, ⟨488, dX12_gang_45, xw_968, xw_966, xw_967⟩, _, rfl, rfl⟩)
)
theorem xmo_172 : xMok xmt xm_172 := ⟨xw_969, xw_819, ⟨by decide, by decide, by decide +kernel⟩, by decide +kernel, rfl, xo_172⟩
set_option maxRecDepth 100000 in
set_option maxHeartbeats 4000000 in
theorem xo_173 : ∀ q ∈ xk_173, xok xmt xm_173 q.1 q.2 := xqw_ok (M := xm_173) (G := gx_RX12) gxo_RX12 rfl (hd := [(8, (28, 11, 244, 12, []))]) (by decide +kernel) (by
  refine xcns ?_ <| xnl
  · exact (⟨rfl, _, rfl, ⟨223, dX12_goOn_8, xw_959, xw_957, xw_958⟩, _, rfl, rfl⟩)
)
theorem xmo_173 : xMok xmt xm_173 := ⟨xw_970, xw_819, ⟨by decide, by decide, by decide +kernel⟩, by decide +kernel, rfl, xo_173⟩
set_option maxRecDepth 100000 in
set_option maxHeartbeats 4000000 in
theorem xo_174 : ∀ q ∈ xk_174, xok xmt xm_174 q.1 q.2 := xqw_ok (M := xm_174) (G := gx_RX12) gxo_RX12 rfl (hd := [(2, (17, 5, 12, 52, [(0, 0)])), (39, (28, 42, 253, 12, [])), (93, (17, 96, 12, 52, [(0, 0)]))]) (by decide +kernel) (by
  refine xcns ?_ <| xcns ?_ <| xcns ?_ <| xnl
  · exact (⟨.int, false, 0, rfl, xr_putf dX12_goes_2 (show vwCl[12]? = some (RX12, TX12, 69) from rfl) (by decide) xin_X12 tyX12_ok nmX12 xw_971 rfl (rfl : tyX12 52 = .int), fun h => (by cases h)⟩)
  · exact (⟨rfl, _, rfl, ⟨365, dX12_goes_39, xw_974, xw_972, xw_973⟩, _, rfl, rfl⟩)
  · exact (⟨.int, false, 0, rfl, xr_putf dX12_goes_93 (show vwCl[12]? = some (RX12, TX12, 69) from rfl) (by decide) xin_X12 tyX12_ok nmX12 xw_971 rfl (rfl : tyX12 52 = .int), fun h => (by cases h)⟩)
)
theorem xmo_174 : xMok xmt xm_174 := ⟨xw_975, xw_819, ⟨by decide, by decide, by decide +kernel⟩, by decide +kernel, rfl, xo_174⟩
set_option maxRecDepth 100000 in
set_option maxHeartbeats 4000000 in
theorem xo_175 : ∀ q ∈ xk_175, xok xmt xm_175 q.1 q.2 := xqw_ok (M := xm_175) (G := gx_RX12) gxo_RX12 rfl (hd := []) (by decide +kernel) (xnl)
theorem xmo_175 : xMok xmt xm_175 := ⟨xw_976, xw_819, ⟨by decide, by decide, by decide +kernel⟩, by decide +kernel, rfl, xo_175⟩
set_option maxRecDepth 100000 in
set_option maxHeartbeats 4000000 in
theorem xo_176 : ∀ q ∈ xk_176, xok xmt xm_176 q.1 q.2 := xqw_ok (M := xm_176) (G := gx_RX12) gxo_RX12 rfl (hd := []) (by decide +kernel) (xnl)
theorem xmo_176 : xMok xmt xm_176 := ⟨xw_977, xw_819, ⟨by decide, by decide, by decide +kernel⟩, by decide +kernel, rfl, xo_176⟩
set_option maxRecDepth 100000 in
set_option maxHeartbeats 4000000 in
theorem xo_177 : ∀ q ∈ xk_177, xok xmt xm_177 q.1 q.2 := xqw_ok (M := xm_177) (G := gx_RX12) gxo_RX12 rfl (hd := [(47, (70, 50, 0, 0, [])), (50, (70, 53, 1, 0, []))]) (by decide +kernel) (by
  refine xcns ?_ <| xcns ?_ <| xnl
  · exact (fun x y => xr_mmin dX12_hasOf_47 xv_23 xv_1 xv_2 xv_3 x y)
  · exact (fun x y => xr_mmax dX12_hasOf_50 xv_24 xv_7 xv_2 xv_8 x y)
)
theorem xmo_177 : xMok xmt xm_177 := ⟨xw_979, xw_819, ⟨by decide, by decide, by decide +kernel⟩, by decide +kernel, rfl, xo_177⟩
set_option maxRecDepth 100000 in
set_option maxHeartbeats 4000000 in
theorem xo_178 : ∀ q ∈ xk_178, xok xmt xm_178 q.1 q.2 := xqw_ok (M := xm_178) (G := gx_RX12) gxo_RX12 rfl (hd := []) (by decide +kernel) (xnl)
theorem xmo_178 : xMok xmt xm_178 := ⟨xw_982, xw_819, ⟨by decide, by decide, by decide +kernel⟩, by decide +kernel, rfl, xo_178⟩
set_option maxRecDepth 100000 in
set_option maxHeartbeats 4000000 in
theorem xo_179 : ∀ q ∈ xk_179, xok xmt xm_179 q.1 q.2 := xqw_ok (M := xm_179) (G := gx_RX12) gxo_RX12 rfl (hd := [(26, (70, 29, 1, 0, []))]) (by decide +kernel) (by
  refine xcns ?_ <| xnl
  · exact (fun x y => xr_mmax dX12_highOf_26 xv_24 xv_7 xv_2 xv_8 x y)
)
theorem xmo_179 : xMok xmt xm_179 := ⟨xw_983, xw_819, ⟨by decide, by decide, by decide +kernel⟩, by decide +kernel, rfl, xo_179⟩
set_option maxRecDepth 100000 in
set_option maxHeartbeats 4000000 in
theorem xo_180 : ∀ q ∈ xk_180, xok xmt xm_180 q.1 q.2 := xqw_ok (M := xm_180) (G := gx_RX12) gxo_RX12 rfl (hd := [(2, (17, 5, 12, 0, [(0, 0)])), (54, (17, 57, 12, 61, [(0, 0)]))]) (by decide +kernel) (by
  refine xcns ?_ <| xcns ?_ <| xnl
  · exact (⟨.int, false, 0, rfl, xr_putf dX12_hum_2 (show vwCl[12]? = some (RX12, TX12, 69) from rfl) (by decide) xin_X12 tyX12_ok nmX12 xw_821 rfl (rfl : tyX12 0 = .int), fun h => (by cases h)⟩)
  · exact (⟨.int, false, 0, rfl, xr_putf dX12_hum_54 (show vwCl[12]? = some (RX12, TX12, 69) from rfl) (by decide) xin_X12 tyX12_ok nmX12 xw_897 rfl (rfl : tyX12 61 = .int), fun h => (by cases h)⟩)
)
theorem xmo_180 : xMok xmt xm_180 := ⟨xw_984, xw_819, ⟨by decide, by decide, by decide +kernel⟩, by decide +kernel, rfl, xo_180⟩
set_option maxRecDepth 100000 in
set_option maxHeartbeats 4000000 in
theorem xo_181 : ∀ q ∈ xk_181, xok xmt xm_181 q.1 q.2 := xqw_ok (M := xm_181) (G := gx_RX12) gxo_RX12 rfl (hd := []) (by decide +kernel) (xnl)
theorem xmo_181 : xMok xmt xm_181 := ⟨xw_985, xw_819, ⟨by decide, by decide, by decide +kernel⟩, by decide +kernel, rfl, xo_181⟩
set_option maxRecDepth 100000 in
set_option maxHeartbeats 4000000 in
theorem xo_182 : ∀ q ∈ xk_182, xok xmt xm_182 q.1 q.2 := xqw_ok (M := xm_182) (G := gx_RX12) gxo_RX12 rfl (hd := [(2, (28, 5, 156, 12, [])), (13, (0, 16, 1000, 0, [])), (26, (0, 29, 1000, 0, [])), (37, (28, 40, 171, 12, []))]) (by decide +kernel) (by
  refine xcns ?_ <| xcns ?_ <| xcns ?_ <| xcns ?_ <| xnl
  · exact (⟨rfl, _, rfl, ⟨433, dX12_isBest_2, xw_876, xw_874, xw_875⟩, _, rfl, rfl⟩)
  · exact (xr_sipush dX12_isBest_13 (by decide +kernel))
  · exact (xr_sipush dX12_isBest_26 (by decide +kernel))
  · exact (⟨rfl, _, rfl, ⟨436, dX12_isBest_37, xw_988, xw_986, xw_987⟩, _, rfl, rfl⟩)
)
theorem xmo_182 : xMok xmt xm_182 := ⟨xw_989, xw_819, ⟨by decide, by decide, by decide +kernel⟩, by decide +kernel, rfl, xo_182⟩
set_option maxRecDepth 100000 in
set_option maxHeartbeats 4000000 in
theorem xo_183 : ∀ q ∈ xk_183, xok xmt xm_183 q.1 q.2 := xqw_ok (M := xm_183) (G := gx_RX12) gxo_RX12 rfl (hd := []) (by decide +kernel) (xnl)
theorem xmo_183 : xMok xmt xm_183 := ⟨xw_990, xw_819, ⟨by decide, by decide, by decide +kernel⟩, by decide +kernel, rfl, xo_183⟩
set_option maxRecDepth 100000 in
set_option maxHeartbeats 4000000 in
theorem xo_184 : ∀ q ∈ xk_184, xok xmt xm_184 q.1 q.2 := xqw_ok (M := xm_184) (G := gx_RX12) gxo_RX12 rfl (hd := [(5, (0, 8, 1000, 0, []))]) (by decide +kernel) (by
  refine xcns ?_ <| xnl
  · exact (xr_sipush dX12_isCrowns_5 (by decide +kernel))
)
theorem xmo_184 : xMok xmt xm_184 := ⟨xw_991, xw_819, ⟨by decide, by decide, by decide +kernel⟩, by decide +kernel, rfl, xo_184⟩
set_option maxRecDepth 100000 in
set_option maxHeartbeats 4000000 in
theorem xo_185 : ∀ q ∈ xk_185, xok xmt xm_185 q.1 q.2 := xqw_ok (M := xm_185) (G := gx_RX12) gxo_RX12 rfl (hd := []) (by decide +kernel) (xnl)
theorem xmo_185 : xMok xmt xm_185 := ⟨xw_992, xw_819, ⟨by decide, by decide, by decide +kernel⟩, by decide +kernel, rfl, xo_185⟩
set_option maxRecDepth 100000 in
set_option maxHeartbeats 4000000 in
theorem xo_186 : ∀ q ∈ xk_186, xok xmt xm_186 q.1 q.2 := xqw_ok (M := xm_186) (G := gx_RX12) gxo_RX12 rfl (hd := [(6, (28, 9, 170, 12, [])), (20, (28, 23, 170, 12, [])), (35, (28, 38, 170, 12, [])), (49, (28, 52, 170, 12, []))]) (by decide +kernel) (by
  refine xcns ?_ <| xcns ?_ <| xcns ?_ <| xcns ?_ <| xnl
  · exact (⟨rfl, _, rfl, ⟨233, dX12_isFull_6, xw_995, xw_993, xw_994⟩, _, rfl, rfl⟩)
  · exact (⟨rfl, _, rfl, ⟨233, dX12_isFull_20, xw_995, xw_993, xw_994⟩, _, rfl, rfl⟩)
  · exact (⟨rfl, _, rfl, ⟨233, dX12_isFull_35, xw_995, xw_993, xw_994⟩, _, rfl, rfl⟩)
  · exact (⟨rfl, _, rfl, ⟨233, dX12_isFull_49, xw_995, xw_993, xw_994⟩, _, rfl, rfl⟩)
)
theorem xmo_186 : xMok xmt xm_186 := ⟨xw_996, xw_819, ⟨by decide, by decide, by decide +kernel⟩, by decide +kernel, rfl, xo_186⟩
set_option maxRecDepth 100000 in
set_option maxHeartbeats 4000000 in
theorem xo_187 : ∀ q ∈ xk_187, xok xmt xm_187 q.1 q.2 := xqw_ok (M := xm_187) (G := gx_RX12) gxo_RX12 rfl (hd := [(4, (28, 7, 202, 12, [])), (12, (28, 15, 188, 12, [])), (51, (28, 54, 183, 12, [])), (66, (28, 69, 220, 12, []))]) (by decide +kernel) (by
  refine xcns ?_ <| xcns ?_ <| xcns ?_ <| xcns ?_ <| xnl
  · exact (⟨rfl, _, rfl, ⟨467, dX12_isGang_4, xw_900, xw_898, xw_899⟩, _, rfl, rfl⟩)
  · exact (⟨rfl, _, rfl, ⟨470, dX12_isGang_12, xw_999, xw_997, xw_998⟩, _, rfl, rfl⟩)
  · exact (⟨rfl, _, rfl, ⟨338, dX12_isGang_51, xw_1002, xw_1000, xw_1001⟩, _, rfl, rfl⟩)
  · exact (⟨rfl, _, rfl, ⟨378, dX12_isGang_66, xw_1005, xw_1003, xw_1004⟩, _, rfl, rfl⟩)
)
theorem xmo_187 : xMok xmt xm_187 := ⟨xw_1006, xw_819, ⟨by decide, by decide, by decide +kernel⟩, by decide +kernel, rfl, xo_187⟩
set_option maxRecDepth 100000 in
set_option maxHeartbeats 4000000 in
theorem xo_188 : ∀ q ∈ xk_188, xok xmt xm_188 q.1 q.2 := xqw_ok (M := xm_188) (G := gx_RX12) gxo_RX12 rfl (hd := []) (by decide +kernel) (xnl)
theorem xmo_188 : xMok xmt xm_188 := ⟨xw_1007, xw_819, ⟨by decide, by decide, by decide +kernel⟩, by decide +kernel, rfl, xo_188⟩
set_option maxRecDepth 100000 in
set_option maxHeartbeats 4000000 in
theorem xo_189 : ∀ q ∈ xk_189, xok xmt xm_189 q.1 q.2 := xqw_ok (M := xm_189) (G := gx_RX12) gxo_RX12 rfl (hd := [(2, (28, 5, 196, 12, []))]) (by decide +kernel) (by
  refine xcns ?_ <| xnl
  · exact (⟨rfl, _, rfl, ⟨332, dX12_isPart_2, xw_829, xw_827, xw_828⟩, _, rfl, rfl⟩)
)
theorem xmo_189 : xMok xmt xm_189 := ⟨xw_1008, xw_819, ⟨by decide, by decide, by decide +kernel⟩, by decide +kernel, rfl, xo_189⟩
set_option maxRecDepth 100000 in
set_option maxHeartbeats 4000000 in
theorem xo_190 : ∀ q ∈ xk_190, xok xmt xm_190 q.1 q.2 := xqw_ok (M := xm_190) (G := gx_RX12) gxo_RX12 rfl (hd := []) (by decide +kernel) (xnl)
theorem xmo_190 : xMok xmt xm_190 := ⟨xw_1009, xw_819, ⟨by decide, by decide, by decide +kernel⟩, by decide +kernel, rfl, xo_190⟩
set_option maxRecDepth 100000 in
set_option maxHeartbeats 4000000 in
theorem xo_191 : ∀ q ∈ xk_191, xok xmt xm_191 q.1 q.2 := xqw_ok (M := xm_191) (G := gx_RX12) gxo_RX12 rfl (hd := []) (by decide +kernel) (xnl)
theorem xmo_191 : xMok xmt xm_191 := ⟨xw_1010, xw_819, ⟨by decide, by decide, by decide +kernel⟩, by decide +kernel, rfl, xo_191⟩
set_option maxRecDepth 100000 in
set_option maxHeartbeats 4000000 in
theorem xo_192 : ∀ q ∈ xk_192, xok xmt xm_192 q.1 q.2 := xqw_ok (M := xm_192) (G := gx_RX12) gxo_RX12 rfl (hd := []) (by decide +kernel) (xnl)
theorem xmo_192 : xMok xmt xm_192 := ⟨xw_1011, xw_819, ⟨by decide, by decide, by decide +kernel⟩, by decide +kernel, rfl, xo_192⟩
set_option maxRecDepth 100000 in
set_option maxHeartbeats 4000000 in
theorem xo_193 : ∀ q ∈ xk_193, xok xmt xm_193 q.1 q.2 := xqw_ok (M := xm_193) (G := gx_RX12) gxo_RX12 rfl (hd := [(16, (28, 19, 183, 12, [])), (35, (28, 38, 220, 12, []))]) (by decide +kernel) (by
  refine xcns ?_ <| xcns ?_ <| xnl
  · exact (⟨rfl, _, rfl, ⟨338, dX12_isSounded_16, xw_1002, xw_1000, xw_1001⟩, _, rfl, rfl⟩)
  · exact (⟨rfl, _, rfl, ⟨378, dX12_isSounded_35, xw_1005, xw_1003, xw_1004⟩, _, rfl, rfl⟩)
)
theorem xmo_193 : xMok xmt xm_193 := ⟨xw_1012, xw_819, ⟨by decide, by decide, by decide +kernel⟩, by decide +kernel, rfl, xo_193⟩
set_option maxRecDepth 100000 in
set_option maxHeartbeats 4000000 in
theorem xo_194 : ∀ q ∈ xk_194, xok xmt xm_194 q.1 q.2 := xqw_ok (M := xm_194) (G := gx_RX12) gxo_RX12 rfl (hd := []) (by decide +kernel) (xnl)
theorem xmo_194 : xMok xmt xm_194 := ⟨xw_1013, xw_819, ⟨by decide, by decide, by decide +kernel⟩, by decide +kernel, rfl, xo_194⟩
set_option maxRecDepth 100000 in
set_option maxHeartbeats 4000000 in
theorem xo_195 : ∀ q ∈ xk_195, xok xmt xm_195 q.1 q.2 := xqw_ok (M := xm_195) (G := gx_RX12) gxo_RX12 rfl (hd := [(4, (28, 7, 202, 12, [])), (12, (28, 15, 188, 12, [])), (26, (28, 29, 220, 12, [])), (42, (28, 45, 183, 12, []))]) (by decide +kernel) (by
  refine xcns ?_ <| xcns ?_ <| xcns ?_ <| xcns ?_ <| xnl
  · exact (⟨rfl, _, rfl, ⟨467, dX12_isThief_4, xw_900, xw_898, xw_899⟩, _, rfl, rfl⟩)
  · exact (⟨rfl, _, rfl, ⟨470, dX12_isThief_12, xw_999, xw_997, xw_998⟩, _, rfl, rfl⟩)
  · exact (⟨rfl, _, rfl, ⟨378, dX12_isThief_26, xw_1005, xw_1003, xw_1004⟩, _, rfl, rfl⟩)
  · exact (⟨rfl, _, rfl, ⟨338, dX12_isThief_42, xw_1002, xw_1000, xw_1001⟩, _, rfl, rfl⟩)
)
theorem xmo_195 : xMok xmt xm_195 := ⟨xw_1014, xw_819, ⟨by decide, by decide, by decide +kernel⟩, by decide +kernel, rfl, xo_195⟩
set_option maxRecDepth 100000 in
set_option maxHeartbeats 4000000 in
theorem xo_196 : ∀ q ∈ xk_196, xok xmt xm_196 q.1 q.2 := xqw_ok (M := xm_196) (G := gx_RX12) gxo_RX12 rfl (hd := []) (by decide +kernel) (xnl)
theorem xmo_196 : xMok xmt xm_196 := ⟨xw_1015, xw_819, ⟨by decide, by decide, by decide +kernel⟩, by decide +kernel, rfl, xo_196⟩
set_option maxRecDepth 100000 in
set_option maxHeartbeats 4000000 in
theorem xo_197 : ∀ q ∈ xk_197, xok xmt xm_197 q.1 q.2 := xqw_ok (M := xm_197) (G := gx_RX12) gxo_RX12 rfl (hd := []) (by decide +kernel) (xnl)
theorem xmo_197 : xMok xmt xm_197 := ⟨xw_1016, xw_819, ⟨by decide, by decide, by decide +kernel⟩, by decide +kernel, rfl, xo_197⟩
set_option maxRecDepth 100000 in
set_option maxHeartbeats 4000000 in
theorem xo_198 : ∀ q ∈ xk_198, xok xmt xm_198 q.1 q.2 := xqw_ok (M := xm_198) (G := gx_RX12) gxo_RX12 rfl (hd := []) (by decide +kernel) (xnl)
theorem xmo_198 : xMok xmt xm_198 := ⟨xw_1017, xw_819, ⟨by decide, by decide, by decide +kernel⟩, by decide +kernel, rfl, xo_198⟩
set_option maxRecDepth 100000 in
set_option maxHeartbeats 4000000 in
theorem xo_199 : ∀ q ∈ xk_199, xok xmt xm_199 q.1 q.2 := xqw_ok (M := xm_199) (G := gx_RX12) gxo_RX12 rfl (hd := [(2, (17, 5, 12, 0, [(0, 0)])), (8, (28, 11, 155, 12, [])), (13, (17, 16, 12, 49, [(3, 0)]))]) (by decide +kernel) (by
  refine xcns ?_ <| xcns ?_ <| xcns ?_ <| xnl
  · exact (⟨.int, false, 0, rfl, xr_putf dX12_keep_2 (show vwCl[12]? = some (RX12, TX12, 69) from rfl) (by decide) xin_X12 tyX12_ok nmX12 xw_821 rfl (rfl : tyX12 0 = .int), fun h => (by cases h)⟩)
  · exact (⟨rfl, _, rfl, ⟨508, dX12_keep_8, xw_825, xw_823, xw_824⟩, _, rfl, rfl⟩)
  · exact (⟨.boolean, false, 0, rfl, xr_putf dX12_keep_13 (show vwCl[12]? = some (RX12, TX12, 69) from rfl) (by decide) xin_X12 tyX12_ok nmX12 xw_822 rfl (rfl : tyX12 49 = .boolean), fun h => (by cases h)⟩)
)
theorem xmo_199 : xMok xmt xm_199 := ⟨xw_1018, xw_819, ⟨by decide, by decide, by decide +kernel⟩, by decide +kernel, rfl, xo_199⟩
set_option maxRecDepth 100000 in
set_option maxHeartbeats 4000000 in
theorem xo_200 : ∀ q ∈ xk_200, xok xmt xm_200 q.1 q.2 := xqw_ok (M := xm_200) (G := gx_RX12) gxo_RX12 rfl (hd := [(19, (28, 22, 254, 12, [])), (32, (17, 35, 12, 36, [(0, 0)]))]) (by decide +kernel) (by
  refine xcns ?_ <| xcns ?_ <| xnl
  · exact (⟨rfl, _, rfl, ⟨226, dX12_knot_19, xw_953, xw_951, xw_952⟩, _, rfl, rfl⟩)
  · exact (⟨.int, false, 0, rfl, xr_putf dX12_knot_32 (show vwCl[12]? = some (RX12, TX12, 69) from rfl) (by decide) xin_X12 tyX12_ok nmX12 xw_1019 rfl (rfl : tyX12 36 = .int), fun h => (by cases h)⟩)
)
theorem xmo_200 : xMok xmt xm_200 := ⟨xw_1020, xw_819, ⟨by decide, by decide, by decide +kernel⟩, by decide +kernel, rfl, xo_200⟩
set_option maxRecDepth 100000 in
set_option maxHeartbeats 4000000 in
theorem xo_201 : ∀ q ∈ xk_201, xok xmt xm_201 q.1 q.2 := xqw_ok (M := xm_201) (G := gx_RX12) gxo_RX12 rfl (hd := [(2, (17, 5, 12, 0, [(0, 0)])), (22, (17, 25, 12, 62, [(0, 0)]))]) (by decide +kernel) (by
  refine xcns ?_ <| xcns ?_ <| xnl
  · exact (⟨.int, false, 0, rfl, xr_putf dX12_known_2 (show vwCl[12]? = some (RX12, TX12, 69) from rfl) (by decide) xin_X12 tyX12_ok nmX12 xw_821 rfl (rfl : tyX12 0 = .int), fun h => (by cases h)⟩)
  · exact (⟨.int, false, 0, rfl, xr_putf dX12_known_22 (show vwCl[12]? = some (RX12, TX12, 69) from rfl) (by decide) xin_X12 tyX12_ok nmX12 xw_809 rfl (rfl : tyX12 62 = .int), fun h => (by cases h)⟩)
)
theorem xmo_201 : xMok xmt xm_201 := ⟨xw_1021, xw_819, ⟨by decide, by decide, by decide +kernel⟩, by decide +kernel, rfl, xo_201⟩
set_option maxRecDepth 100000 in
set_option maxHeartbeats 4000000 in
theorem xo_202 : ∀ q ∈ xk_202, xok xmt xm_202 q.1 q.2 := xqw_ok (M := xm_202) (G := gx_RX12) gxo_RX12 rfl (hd := []) (by decide +kernel) (xnl)
theorem xmo_202 : xMok xmt xm_202 := ⟨xw_1022, xw_819, ⟨by decide, by decide, by decide +kernel⟩, by decide +kernel, rfl, xo_202⟩
end
