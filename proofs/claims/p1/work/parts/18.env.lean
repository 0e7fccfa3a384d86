/-! the unknown ints: the script's, and those made of them -/
def xbuild : xD → (Nat → Int32) → Nat → (Nat → Int32)
  | [], g, _ => g
  | d :: r, g, k => xbuild r (if d.1 < 90 then (fun j => if j = k then xfd g d.1 d.2.1 d.2.2 else g j) else g) (k + 1)
theorem xbuild_old : ∀ (ds : xD) (g : Nat → Int32) (k j : Nat), j < k → xbuild ds g k j = g j
  | [], g, k, j, h => rfl
  | d :: r, g, k, j, h => by
    rw [xbuild, xbuild_old r _ (k + 1) j (by omega)]
    split
    · show (if j = k then _ else g j) = g j
      rw [if_neg (by omega)]
    · rfl
/-- an operand that speaks of earlier ones alone -/
def xbel (v : xV) (k : Nat) : Bool := match v with
  | (3, j) => Nat.blt j k
  | _ => true
def xwf : xD → Nat → Bool
  | [], _ => true
  | d :: r, k => xbel d.2.1 k && (xbel d.2.2 k && xwf r (k + 1))
theorem xdi_below {ρ g : Nat → Int32} {k : Nat} (h : ∀ j, j < k → ρ j = g j) {v : xV} (hv : xbel v k = true) : xdi ρ v = xdi g v := by
  match v, hv with
  | (0, _), _ | (1, _), _ | (2, _), _ => rfl
  | (n + 4, _), _ => rfl
  | (3, j), hv => exact h j (by simpa [xbel, Nat.blt_eq] using hv)
theorem xbuild_new : ∀ (ds : xD) (g : Nat → Int32) (k : Nat), xwf ds k = true → ∀ (i o : Nat) (x y : xV), ds[i]? = some (o, x, y) → o < 90 → xbuild ds g k (k + i) = xfd (xbuild ds g k) o x y
  | d :: r, g, k, hw, 0, o, x, y, h, ho => by
    simp only [List.getElem?_cons_zero] at h
    cases h
    simp only [xwf, Bool.and_eq_true] at hw
    have hold : ∀ j, j < k → xbuild ((o, x, y) :: r) g k j = g j := fun j hj => xbuild_old _ g k j hj
    have e1 : xbuild ((o, x, y) :: r) g k (k + 0) = xfd g o x y := by
      rw [xbuild, xbuild_old r _ (k + 1) (k + 0) (by omega), if_pos ho, if_pos (by omega)]
    rw [e1]
    simp only [xfd, xdi_below hold hw.1, xdi_below hold hw.2.1]
  | d :: r, g, k, hw, i + 1, o, x, y, h, ho => by
    simp only [List.getElem?_cons_succ] at h
    simp only [xwf, Bool.and_eq_true] at hw
    have := xbuild_new r (if d.1 < 90 then (fun j => if j = k then xfd g d.1 d.2.1 d.2.2 else g j) else g) (k + 1) hw.2.2 i o x y h ho
    rw [show k + 1 + i = k + (i + 1) by omega] at this
    exact this
theorem xdok_build (ds : xD) (g : Nat → Int32) (hw : xwf ds 0 = true) : xdok (xbuild ds g 0) ds := fun k o x y h ho => by
  have := xbuild_new ds g 0 hw k o x y h ho
  rwa [Nat.zero_add] at this
theorem xwf_ds : xwf xds 0 = true := by decide +kernel
/-- the first seven are the script's own -/
theorem xfirst (g : Nat → Int32) : ∀ j, j < 7 → xbuild xds g 0 j = g j := by
  have key : ∀ (n : Nat) (ds : xD) (g : Nat → Int32) (k : Nat), (∀ i, i < n → ∃ d, ds[i]? = some d ∧ ¬ d.1 < 90) → ∀ j, j < k + n → xbuild ds g k j = g j := by
    intro n
    induction n with
    | zero => exact fun ds g k _ j hj => xbuild_old ds g k j hj
    | succ n ih =>
      intro ds g k hd j hj
      match ds, hd with
      | [], hd => rfl
      | d :: r, hd =>
        obtain ⟨d', h1, h2⟩ := hd 0 (by omega)
        simp only [List.getElem?_cons_zero] at h1
        cases h1
        rw [xbuild, if_neg h2]
        exact ih r g (k + 1) (fun i hi => by
          obtain ⟨d2, q1, q2⟩ := hd (i + 1) (by omega)
          exact ⟨d2, by simpa using q1, q2⟩) j (by omega)
  intro j hj
  refine key 7 xds g 0 (fun i hi => ?_) j (by omega)
  match i, hi with
  | 0, _ | 1, _ | 2, _ | 3, _ | 4, _ | 5, _ | 6, _ => exact ⟨_, rfl, by decide⟩
/-- facts that stay: the script too -/
def xEXs (b : Nat) (sa : Nat → Nat) (L : Nat) (xs : Nat → Int32) (U : State) : Prop := xFx b sa U ∧ va_X (sa 50) L xs U U.heap ∧ sa 50 < b
theorem xEXs_ok (b : Nat) (sa : Nat → Nat) (L : Nat) (xs : Nat → Int32) : xEok b sa (xEXs b sa L xs) := by
  have warm : ∀ s U : State, xEXs b sa L xs s → s.WarmedH U.vm → (∀ q, q < b → U.heap[q]? = s.heap[q]?) → xEXs b sa L xs U := fun s U h hW hq => ⟨xFx_warm h.1 hW hq, (va_X.moved hW.alike h.2.1).kept (hq _ h.2.2), h.2.2⟩
  exact ⟨fun U g mk a h => warm U _ h (State.WarmedH.refl U) (fun _ _ => rfl), warm, fun s h => h.1⟩
theorem xone_ok {r : Option (List xR)} (h : xone r = true) : ∃ Ls, r = some Ls ∧ ∀ lf ∈ Ls, lf.2.1 = some (0, 1) := by
  cases r with
  | none => cases h
  | some L =>
    refine ⟨L, rfl, fun lf hlf => ?_⟩
    have := List.all_eq_true.mp h lf hlf
    split at this
    · next e => exact e
    · cases this
theorem xnos_ok {al : Bool} {b : Nat} {ρ : Nat → Int32} {sa : Nat → Nat} {dA : Nat → ClassId} {D : va_G} {M : xM} {p : Program} {l : Launch} {e : Env} {s : State} {m : MethodId} {args : Array Value} {below : List Frame} {meth : Method} {c : Code} {A : Nat → Prop} {Qc : Array Value → State → Outcome → State → Prop} : xSnd al b ρ sa dA D M p l e s m args below meth c A Qc xnos := fun _ _ _ _ _ _ _ _ h => by cases h
theorem xκ_ok {ρ : Nat → Int32} {lo hi : Nat} (h1 : lo ≤ sgI (ρ 7)) (h2 : sgI (ρ 7) ≤ hi) : xKok ρ (xκ lo hi) := by
  refine ⟨fun q hq => (by cases hq), fun k a c h => ?_⟩
  match k, h with
  | 0, h | 1, h | 2, h | 3, h | 4, h | 5, h | 6, h =>
    cases h
    exact ⟨Nat.zero_le _, Nat.le_of_lt_succ (sgI_lt _)⟩
  | 7, h => cases h; exact ⟨h1, h2⟩
  | k + 8, h => cases h
theorem xK1 {ρ : Nat → Int32} : xKok ρ ([], []) := ⟨fun q hq => (by cases hq), fun k a c h => (by cases h)⟩
/-- which run of the loop is this script's -/
theorem xpick (L : Nat) (hL : L ≤ 6) (g : Nat → Int32) : ∃ (ds : xD) (ρ : Nat → Int32) (κ : xK) (N n : Nat), xdok ρ ds ∧ xSc ds = some L ∧ (∀ j, j < 7 → ρ j = g j) ∧ xKok ρ κ ∧ xone (xeT xmt ds false N xm_L1 xnos n 23 xlv0 [] xK0 144 14558 κ) = true := by
  by_cases h6 : L < 6
  · refine ⟨[(98, (0, L), (0, 0))], g, ([], []), 10, 20, fun k o x y h ho => ?_, rfl, fun _ _ => rfl, xK1, xrunL L h6⟩
    match k, h with
    | 0, h => cases h; omega
    | k + 1, h => simp at h
  · have e6 : L = 6 := by omega
    subst e6
    obtain ⟨ρ, hd, hfst⟩ : ∃ ρ : Nat → Int32, xdok ρ xds ∧ ∀ j, j < 7 → ρ j = g j := ⟨xbuild xds g 0, xdok_build xds g xwf_ds, xfirst g⟩
    have h7 : ρ 7 = xfd ρ 3 (3, 1) (0, 63) := hd 7 3 (3, 1) (0, 63) rfl (by decide)
    rw [xfd, if_neg (by decide)] at h7
    obtain ⟨j, hj, ej⟩ := pk_andE (ρ 1) (m := nI 63) 6 (by decide)
    have e7 : ρ 7 = nI j := h7.trans ej
    have es : sgI (ρ 7) = 2147483648 + j := by
      rw [e7, sgI_nI (by omega)]
      simp only [xsg]
      omega
    by_cases hj35 : j < 35
    · by_cases h17 : j = 17
      · exact ⟨xds, ρ, xκ 2147483665 2147483665, 8000, 400, hd, rfl, hfst, xκ_ok (by omega) (by omega), xrun_17⟩
      · exact ⟨xds, ρ, xκ (2147483648 + j) (2147483648 + j), 8000, 400, hd, rfl, hfst, xκ_ok (by omega) (by omega), xrunK j hj35 h17⟩
    · exact ⟨xds, ρ, xκ 2147483683 2147483711, 8000, 400, hd, rfl, hfst, xκ_ok (by omega) (by omega), xrun_35⟩
