/-! THE LAW: its loop, call by call -/
def lSc (E : yE) (L : Nat) (xs : Nat → Int32) : Prop := ∀ s, yEX E s → va_X (ysa E 50) L xs s s.heap ∧ ysa E 50 < yb E
abbrev llaw (i : Int) : yL := [(4, (0, i)), (3, (1, 143)), (2, (1, 95)), (1, (1, 0)), (0, (5, 50))]
abbrev LG (E : yE) (i : Int) (pc : Nat) (st : List yV) (mem : yMem) (ce sl : Nat) (Post : Option yV → yMem → Prop) : Prop := yG E room_1 xm_L1 pc (llaw i) st mem ce sl Post
theorem l1o {pc : Nat} {op : xOp} (h : xfind xk_L1 pc = some op) : xok xmt xm_L1 pc op := xo_L1 _ (xfind_mem h)
def lop (pc a b c e : Nat) : Bool := match xfind xk_L1 pc with
  | some (a', b', c', e', []) => Nat.beq a' a && (Nat.beq b' b && (Nat.beq c' c && Nat.beq e' e))
  | _ => false
theorem lo1 {pc a b c e : Nat} (h : lop pc a b c e = true) : xok xmt xm_L1 pc (a, b, c, e, []) := by
  refine l1o ?_
  unfold lop at h
  split at h
  · next a' b' c' e' hf =>
    simp only [Bool.and_eq_true, Nat.beq_eq] at h
    obtain ⟨rfl, rfl, rfl, rfl⟩ := h
    exact hf
  · cases h
/-- an int of the script, of the run that begins at i -/
abbrev lX (xs : Nat → Int32) (i : Int) (k : Nat) : Int := (xs ((w32 i).toNat + k)).toInt
section LW
variable {E : yE} {L : Nat} {xs : Nat → Int32} {pc nx : Nat} {lv : yL} {st : List yV} {mem : yMem} {ce sl d : Nat} {Post : Option yV → yMem → Prop} {i : Int}
theorem l_sld (hS : lSc E L xs) (hL : L ≤ 3072) {j : Int} (hok : xok xmt xm_L1 pc (43, nx, 0, 0, [])) (h0 : 0 ≤ w32 j) (h1 : w32 j < (L : Int)) (h : yG E room_1 xm_L1 nx lv ((0, (xs (w32 j).toNat).toInt) :: st) mem ce sl Post) : yG E room_1 xm_L1 pc lv ((0, j) :: (5, 50) :: st) mem ce sl Post := by
  intro p e s m args below meth c A Qc hC hQ H locs ls hl hP hS'
  have := h p e s m args below meth c A Qc hC hQ H locs ls hl hP hS'
  obtain ⟨hX, hq⟩ := hS s hC.1.2.2.2.2.2.2.2.2.1
  rw [List.map_cons] at this
  rw [List.map_cons, List.map_cons]
  have e1 : ydv E (0, j) = .int (nI (w32 j).toNat) := by
    show Value.int (iI j) = _
    rw [← iI_n, Int.toNat_of_nonneg h0, iI_w]
  have e2 : ydv E (0, (xs (w32 j).toNat).toInt) = .int (xs (w32 j).toNat) := by
    show Value.int (iI _) = _
    rw [iI_t]
  rw [e2] at this
  rw [e1]
  have hb := hC.1.2.2.2.2.2.2.2.2.2
  exact hok p (yl E) e room_1 s m args below meth c H locs ce sl _ ls _ hC.1.1 (ysa E 50) L xs A hX (by omega) (fun z => by have := hC.1.2.2.2.2.1 _ z; omega) hS' (w32 j).toNat (by omega) (by omega) (by omega) this
theorem l_slen (hS : lSc E L xs) (hok : xok xmt xm_L1 pc (42, nx, 0, 0, [])) (h : yG E room_1 xm_L1 nx lv ((0, (L : Int)) :: st) mem ce sl Post) : yG E room_1 xm_L1 pc lv ((5, 50) :: st) mem ce sl Post := by
  intro p e s m args below meth c A Qc hC hQ H locs ls hl hP hS'
  have := h p e s m args below meth c A Qc hC hQ H locs ls hl hP hS'
  obtain ⟨hX, hq⟩ := hS s hC.1.2.2.2.2.2.2.2.2.1
  rw [List.map_cons] at this ⊢
  have e2 : ydv E (0, (L : Int)) = .int (nI L) := by
    show Value.int (iI _) = _
    rw [iI_n]
  rw [e2] at this
  have hb := hC.1.2.2.2.2.2.2.2.2.2
  exact hok p (yl E) e room_1 s m args below meth c H locs ce sl _ ls _ hC.1.1 (ysa E 50) L xs A hX (by omega) (fun z => by have := hC.1.2.2.2.2.1 _ z; omega) hS' this
def largb (pc k : Nat) : Bool := lop pc 2 (pc + 1) 1 0 && (lop (pc + 1) 2 (pc + 3) 0 4 && (lop (pc + 3) 0 (pc + 4) k 0 && (lop (pc + 4) 5 (pc + 5) 0 0 && lop (pc + 5) 43 (pc + 6) 0 0)))
theorem l_cI {k : Nat} (h : k < 100) : cI k = (k : Int) := by
  unfold cI
  rw [if_pos (by rw [Nat.blt_eq]; omega)]
theorem l_arg (hE : yEok E) (hR : yRm room_1 d ce sl) (hS : lSc E L xs) (hL : L ≤ 3072) {k : Nat} (hk : k < 6) (h0 : 0 ≤ w32 i) (h6 : w32 i + 6 ≤ (L : Int)) (hb : largb pc k = true) (h : LG E i (pc + 6) ((0, lX xs i k) :: st) mem ce sl Post) : LG E i pc st mem ce sl Post := by
  simp only [largb, Bool.and_eq_true] at hb
  obtain ⟨a1, a2, a3, a4, a5⟩ := hb
  have ec := l_cI (show k < 100 by omega)
  have ek : w32 (i + cI k) = w32 i + (k : Int) := by rw [ec, w32_ad (by rw [w32_of (x := (k : Int)) (by omega) (by omega)]; omega) (by rw [w32_of (x := (k : Int)) (by omega) (by omega)]; omega), w32_of (x := (k : Int)) (by omega) (by omega)]
  refine yo_ld (v := (5, 50)) hE hR (lo1 a1) rfl rfl ?_
  refine yo_ld (v := (0, i)) hE hR (lo1 a2) rfl rfl ?_
  refine yo_c hE hR (lo1 a3) ?_
  refine yo_bin hE hR (lo1 a4) (by decide) ?_
  refine l_sld hS hL (lo1 a5) (show 0 ≤ w32 (i + cI k) by omega) (show w32 (i + cI k) < (L : Int) by omega) ?_
  rw [show (w32 (ybin 0 i (cI k))).toNat = (w32 i).toNat + k from (show (w32 (i + cI k)).toNat = (w32 i).toNat + k by omega)]
  exact h
def largsb : Nat → Nat → Nat → Bool
  | 0, _, _ => true
  | n + 1, k, pc => largb pc k && largsb n (k + 1) (pc + 6)
theorem lav_len {X : Nat → Int} : ∀ n k, (lav X n k).length = n
  | 0, _ => rfl
  | n + 1, k => by rw [lav, List.length_cons, lav_len n]
theorem lav_sum {X : Nat → Int} : ∀ n k, ysum (lav X n k) = n
  | 0, _ => rfl
  | n + 1, k => by
    rw [lav, ysum, lav_sum n]
    show 1 + n = n + 1
    omega
theorem l_args (hE : yEok E) (hR : yRm room_1 d ce sl) (hS : lSc E L xs) (hL : L ≤ 3072) (h0 : 0 ≤ w32 i) (h6 : w32 i + 6 ≤ (L : Int)) : ∀ (n k pc : Nat) (st : List yV), largsb n k pc = true → k + n ≤ 6 → LG E i (pc + 6 * n) ((lav (lX xs i) n k).reverse ++ st) mem ce sl Post → LG E i pc st mem ce sl Post
  | 0, k, pc, st, _, _, h => h
  | n + 1, k, pc, st, hb, hk, h => by
    simp only [largsb, Bool.and_eq_true] at hb
    refine l_arg hE hR hS hL (k := k) (by omega) h0 h6 hb.1 (l_args hE hR hS hL h0 h6 n (k + 1) (pc + 6) _ hb.2 (by omega) ?_)
    rw [show pc + 6 + 6 * n = pc + 6 * (n + 1) by omega]
    rw [lav, List.reverse_cons, List.append_assoc] at h
    exact h
def lsegb (pc r n mi ci : Nat) : Bool := lop pc 2 (pc + 1) 1 r && (largsb n 1 (pc + 1) && lop (pc + 1 + 6 * n) 28 (pc + 1 + 6 * n + 3) mi ci)
theorem l_seg (hE : yEok E) (hR : yRm room_1 d ce sl) (hS : lSc E L xs) (hL : L ≤ 3072) (h0 : 0 ≤ w32 i) (h6 : w32 i + 6 ≤ (L : Int)) {r n mi ci z : Nat} {M' : xM} {fs rest : List yV} (hb : lsegb pc r n mi ci = true) (hn : n ≤ 5) (hr : ylk (llaw i) r = some (1, (z : Int))) (hmi : xmt[mi]? = some M') (hmn : xMn M' = n) (hml : n + 1 ≤ xMl M') (hml2 : xMl M' ≤ 45) (hK : ysh[z]? = some (.inr (ci, fs))) (hrest : ysum rest ≤ 8) (h : yCon E d M' ((1, (z : Int)) :: lav (lX xs i) n 1) mem (fun v mem' => LG E i (pc + 1 + 6 * n + 3) (yput rest v) mem' ce sl Post)) : LG E i pc rest mem ce sl Post := by
  simp only [lsegb, Bool.and_eq_true] at hb
  obtain ⟨a1, a2, a3⟩ := hb
  refine yo_ld (v := (1, (z : Int))) hE hR (lo1 a1) hr rfl ?_
  refine l_args hE hR hS hL h0 h6 n 1 (pc + 1) _ a2 (by omega) ?_
  refine yo_call (i := z) (avs := lav (lX xs i) n 1) hE hR (lo1 a3) hmi (by rw [lav_len, hmn]) hrest ?_ hml2 hK h
  rw [ysum, lav_sum]
  show 1 + n ≤ _
  omega
def lcaseb (pc n mi1 mi2 po : Nat) : Bool := lsegb pc 1 n mi1 11 && (lop (pc + 1 + 6 * n + 3) po (pc + 1 + 6 * n + 3 + 1) 0 0 && (lsegb (pc + 1 + 6 * n + 3 + 1) 2 n mi2 12 && (lop (pc + 1 + 6 * n + 3 + 1 + 1 + 6 * n + 3) po (pc + 1 + 6 * n + 3 + 1 + 1 + 6 * n + 3 + 1) 0 0 && lop (pc + 1 + 6 * n + 3 + 1 + 1 + 6 * n + 3 + 1) 14 1422 0 0)))
theorem l_pop (hE : yEok E) (hR : yRm room_1 d ce sl) {po t : Nat} {x : Int} (hpo : (po = 10 ∧ t = 0) ∨ (po = 69 ∧ t = 4)) (hok : xok xmt xm_L1 pc (po, nx, 0, 0, [])) (h : LG E i nx st mem ce sl Post) : LG E i pc ((t, x) :: st) mem ce sl Post := by
  rcases hpo with ⟨rfl, rfl⟩ | ⟨rfl, rfl⟩
  · exact yo_pop hE hR hok rfl h
  · exact yo_pop2 hE hR hok rfl h
theorem l_case (hE : yEok E) (hR : yRm room_1 d ce sl) (hS : lSc E L xs) (hL : L ≤ 3072) (h0 : 0 ≤ w32 i) (h6 : w32 i + 6 ≤ (L : Int)) {n mi1 mi2 po t : Nat} {M1 M2 : xM} (hb : lcaseb pc n mi1 mi2 po = true) (hn : n ≤ 5) (hpo : (po = 10 ∧ t = 0) ∨ (po = 69 ∧ t = 4)) (hm1 : xmt[mi1]? = some M1) (hm2 : xmt[mi2]? = some M2) (hk1 : xMn M1 = n ∧ n + 1 ≤ xMl M1 ∧ xMl M1 ≤ 45) (hk2 : xMn M2 = n ∧ n + 1 ≤ xMl M2 ∧ xMl M2 ≤ 45) {Nx : yMem → Prop} (hnx : ∀ m, Nx m → LG E i 1422 [] m ce sl Post)
    (h : yCon E d M1 ((1, ((0 : Nat) : Int)) :: lav (lX xs i) n 1) mem (fun r mem1 => (∃ x, r = some (t, x)) ∧ yCon E d M2 ((1, ((95 : Nat) : Int)) :: lav (lX xs i) n 1) mem1 (fun r mem2 => (∃ x, r = some (t, x)) ∧ Nx mem2))) : LG E i pc [] mem ce sl Post := by
  simp only [lcaseb, Bool.and_eq_true] at hb
  obtain ⟨b1, b2, b3, b4, b5⟩ := hb
  refine l_seg (z := 0) (rest := []) hE hR hS hL h0 h6 b1 hn rfl hm1 hk1.1 hk1.2.1 hk1.2.2 rfl (by decide) (yCon_mono h ?_)
  rintro r mem1 ⟨⟨x, rfl⟩, h2⟩
  refine l_pop hE hR hpo (lo1 b2) ?_
  refine l_seg (z := 95) (rest := []) hE hR hS hL h0 h6 b3 hn rfl hm2 hk2.1 hk2.2.1 hk2.2.2 rfl (by decide) (yCon_mono h2 ?_)
  rintro r mem2 ⟨⟨x, rfl⟩, h3⟩
  refine l_pop hE hR hpo (lo1 b4) ?_
  exact yo_go hE hR (lo1 b5) (hnx _ h3)
end LW
def lcmpb (pc n mi1 mi2 : Nat) : Bool := lsegb pc 1 n mi1 11 && (lsegb (pc + 1 + 6 * n + 3) 2 n mi2 12 && lop (pc + 1 + 6 * n + 3 + 1 + 6 * n + 3) 13 (pc + 1 + 6 * n + 3 + 1 + 6 * n + 3 + 3) 1422 0)
theorem l_cmp {E : yE} {L : Nat} {xs : Nat → Int32} {i : Int} {pc d ce sl : Nat} {mem : yMem} {Post : Option yV → yMem → Prop} (hE : yEok E) (hR : yRm room_1 d ce sl) (hS : lSc E L xs) (hL : L ≤ 3072) (h0 : 0 ≤ w32 i) (h6 : w32 i + 6 ≤ (L : Int)) {n mi1 mi2 : Nat} {M1 M2 : xM} (hb : lcmpb pc n mi1 mi2 = true) (hn : n ≤ 5) (hm1 : xmt[mi1]? = some M1) (hm2 : xmt[mi2]? = some M2) (hk1 : xMn M1 = n ∧ n + 1 ≤ xMl M1 ∧ xMl M1 ≤ 45) (hk2 : xMn M2 = n ∧ n + 1 ≤ xMl M2 ∧ xMl M2 ≤ 45) {Nx : yMem → Prop} (hnx : ∀ m, Nx m → LG E i 1422 [] m ce sl Post)
    (h : yCon E d M1 ((1, ((0 : Nat) : Int)) :: lav (lX xs i) n 1) mem (fun r mem1 => ∃ x, r = some (0, x) ∧ yCon E d M2 ((1, ((95 : Nat) : Int)) :: lav (lX xs i) n 1) mem1 (fun r2 mem2 => ∃ y, r2 = some (0, y) ∧ w32 x = w32 y ∧ Nx mem2))) : LG E i pc [] mem ce sl Post := by
  simp only [lcmpb, Bool.and_eq_true] at hb
  obtain ⟨b1, b2, b3⟩ := hb
  refine l_seg (z := 0) (rest := []) hE hR hS hL h0 h6 b1 hn rfl hm1 hk1.1 hk1.2.1 hk1.2.2 rfl (by decide) (yCon_mono h ?_)
  rintro r mem1 ⟨x, rfl, h2⟩
  refine l_seg (z := 95) (rest := [(0, x)]) hE hR hS hL h0 h6 b2 hn rfl hm2 hk2.1 hk2.2.1 hk2.2.2 rfl (Nat.le_of_ble_eq_true rfl) (yCon_mono h2 ?_)
  rintro r mem2 ⟨y, rfl, h3, h4⟩
  exact yo_cmp (c := 0) hE hR (lo1 b3) (fun _ => hnx _ h4) (fun hne => absurd (show w32 x = w32 y from h3) hne)
/-- a contract as the loop needs it -/
def LC (E : yE) (d mi z n t : Nat) : Prop := ∀ M', xmt[mi]? = some M' → ∀ (X : Nat → Int) (mem : yMem) (Q : Option yV → yMem → Prop), LI mem → (∀ x m, LI m → Q (some (t, x)) m) → yCon E d M' ((1, (z : Int)) :: lav X n 1) mem Q
def lokN : List aArg → Nat → Bool
  | [], 0 => true
  | a :: r, n + 1 => Nat.beq a.1 3 && (decide (a.2.2.1 = -2147483648) && (decide (a.2.2.2 = 2147483647) && lokN r n))
  | _, _ => false
def lokA (l : List aArg) (z n : Nat) : Bool := match l with
  | a :: r => Nat.beq a.1 1 && (Nat.beq a.2.1 z && lokN r n)
  | [] => false
def lchk (c : aCon) (mi z n t d : Nat) : Bool := Nat.beq (acM c) mi && (Nat.ble (acD c) d && (decide (acP c = []) && (lokA (acA c) z n && (((Nat.beq t 0 && (Nat.beq (acR c).1 0 || Nat.beq (acR c).1 3)) || (Nat.beq t 4 && Nat.beq (acR c).1 8)) && tp3 (acW c)))))
theorem lokN_ok {X : Nat → Int} : ∀ (l : List aArg) (n k : Nat), lokN l n = true → aArgsOk l (lav X n k)
  | [], 0, _, _ => trivial
  | a :: r, n + 1, k, h => by
    simp only [lokN, Bool.and_eq_true, decide_eq_true_eq, Nat.beq_eq] at h
    obtain ⟨h1, h2, h3, h4⟩ := h
    refine ⟨?_, lokN_ok r n (k + 1) h4⟩
    unfold aArgOk
    rw [h1]
    refine ⟨rfl, ?_, ?_⟩
    · rw [h2]; exact w32_lo _
    · rw [h3]
      have := w32_hi (X k)
      dsimp only
      omega
  | [], n + 1, _, h => by cases h
  | a :: r, 0, _, h => by cases h
theorem LC_as {c : aCon} (hc : aSnd Om c) {E : yE} (hE : yEok E) {d mi z n t : Nat} (hk : lchk c mi z n t d = true) : LC E d mi z n t := by
  intro M' hM X mem Q hI hQ
  simp only [lchk, Bool.and_eq_true, Nat.beq_eq, decide_eq_true_eq, Bool.not_eq_true', Bool.or_eq_true] at hk
  obtain ⟨k1, k2, k3, k4, k5, k6⟩ := hk
  have hargs : aArgsOk (acA c) ((1, (z : Int)) :: lav X n 1) := by
    cases hA : acA c with
    | nil => rw [hA] at k4; cases k4
    | cons a r =>
      rw [hA] at k4
      simp only [lokA, Bool.and_eq_true, Nat.beq_eq] at k4
      refine ⟨?_, lokN_ok r n 1 k4.2.2⟩
      unfold aArgOk
      rw [k4.1, k4.2.1]
      exact (rfl : ((1, (z : Int)) : yV) = (1, (z : Int)))
  refine hc E hE d (Nat.le_of_ble_eq_true k2) M' (by rw [k1]; exact hM) _ mem Q hargs hI.1 hI.2.1 (by rw [k3]; exact fun q hq => by cases hq) (fun r m he => ?_)
  have hI' : LI m := LI_a hI he.2.1 he.2.2.1 he.2.2.2.1 k6
  have hr := he.1
  cases r with
  | none =>
    have hr : (acR c).1 = 99 := hr
    omega
  | some y =>
    obtain ⟨ty, x⟩ := y
    have hr : aArgOk (acR c) (ty, x) := hr
    have ht : ty = t := by
      unfold aArgOk at hr
      rcases k5 with ⟨rfl, h | h⟩ | ⟨rfl, h⟩ <;> rw [h] at hr
      · exact hr.1
      · exact hr.1
      · exact hr
    subst ht
    exact hQ x m hI'
/-- a case of the law -/
def LK (E : yE) (L : Nat) (xs : Nat → Int32) (pc : Nat) : Prop := ∀ (i : Int) (mem : yMem) (ce sl : Nat) (Post : Option yV → yMem → Prop), yRm room_1 1000 (ce + 1) (sl + 6) → lSc E L xs → L ≤ 3072 → 0 ≤ w32 i → w32 i + 6 ≤ (L : Int) → LI mem → (∀ m ce' sl', LI m → ce' ≤ ce + 1 → sl' ≤ sl + 6 → LG E i 1422 [] m ce' sl' Post) → LG E i pc [] mem ce sl Post
theorem yRm_le {R : Room} {d ce sl ce' sl' : Nat} (h : yRm R d ce' sl') (h1 : ce ≤ ce') (h2 : sl ≤ sl') : yRm R d ce sl := ⟨h.1, Nat.le_trans h1 h.2.1, Nat.le_trans h2 h.2.2⟩
theorem LK_of {E : yE} (hE : yEok E) {L : Nat} {xs : Nat → Int32} {pc n mi1 mi2 po t : Nat} {M1 M2 : xM} (hb : lcaseb pc n mi1 mi2 po = true) (hn : n ≤ 5) (hpo : (po = 10 ∧ t = 0) ∨ (po = 69 ∧ t = 4)) (hm1 : xmt[mi1]? = some M1) (hm2 : xmt[mi2]? = some M2) (hk1 : xMn M1 = n ∧ n + 1 ≤ xMl M1 ∧ xMl M1 ≤ 45) (hk2 : xMn M2 = n ∧ n + 1 ≤ xMl M2 ∧ xMl M2 ≤ 45) (c1 : LC E 1000 mi1 0 n t) (c2 : LC E 1000 mi2 95 n t) : LK E L xs pc := by
  intro i mem ce sl Post hR hS hL h0 h6 hI nx
  refine l_case (d := 1000) (t := t) hE (yRm_le hR (by omega) (by omega)) hS hL h0 h6 hb hn hpo hm1 hm2 hk1 hk2 (Nx := LI) (fun m hm => nx m ce sl hm (by omega) (by omega)) ?_
  exact c1 M1 hm1 _ mem _ hI (fun x m1 hI1 => ⟨⟨x, rfl⟩, c2 M2 hm2 _ m1 _ hI1 (fun x m2 hI2 => ⟨⟨x, rfl⟩, hI2⟩)⟩)
theorem LK_px {E : yE} (hE : yEok E) {L : Nat} {xs : Nat → Int32} {pc n mi1 mi2 : Nat} {M1 M2 : xM} (hb : lcaseb pc n mi1 mi2 10 = true) (hn : n ≤ 5) (hm1 : xmt[mi1]? = some M1) (hm2 : xmt[mi2]? = some M2) (hk1 : xMn M1 = n ∧ n + 1 ≤ xMl M1 ∧ xMl M1 ≤ 45) (hk2 : xMn M2 = n ∧ n + 1 ≤ xMl M2 ∧ xMl M2 ≤ 45) (c : LX E n M1 M2 0) : LK E L xs pc := by
  intro i mem ce sl Post hR hS hL h0 h6 hI nx
  refine l_case (d := 1000) (t := 0) hE (yRm_le hR (by omega) (by omega)) hS hL h0 h6 hb hn (Or.inl ⟨rfl, rfl⟩) hm1 hm2 hk1 hk2 (Nx := LI) (fun m hm => nx m ce sl hm (by omega) (by omega)) ?_
  refine yCon_mono (c (lX xs i) mem hI) (fun r m h => ?_)
  obtain ⟨x, rfl, h⟩ := h
  refine ⟨⟨x, rfl⟩, yCon_mono h (fun r m h => ?_)⟩
  obtain ⟨y, rfl, _, h⟩ := h
  exact ⟨⟨y, rfl⟩, h⟩
theorem LK_cx {E : yE} (hE : yEok E) {L : Nat} {xs : Nat → Int32} {pc n mi1 mi2 : Nat} {M1 M2 : xM} (hb : lcmpb pc n mi1 mi2 = true) (hn : n ≤ 5) (hm1 : xmt[mi1]? = some M1) (hm2 : xmt[mi2]? = some M2) (hk1 : xMn M1 = n ∧ n + 1 ≤ xMl M1 ∧ xMl M1 ≤ 45) (hk2 : xMn M2 = n ∧ n + 1 ≤ xMl M2 ∧ xMl M2 ≤ 45) (c : LX E n M1 M2 0) : LK E L xs pc := by
  intro i mem ce sl Post hR hS hL h0 h6 hI nx
  exact l_cmp (d := 1000) hE (yRm_le hR (by omega) (by omega)) hS hL h0 h6 hb hn hm1 hm2 hk1 hk2 (Nx := LI) (fun m hm => nx m ce sl hm (by omega) (by omega)) (c (lX xs i) mem hI)

theorem lw_case0 {E : yE} (hE : yEok E) (hm : yman Om) (hmAC : yman OmAC) {L : Nat} {xs : Nat → Int32} : LK E L xs 196 := LK_px (n := 5) (mi1 := 14) (mi2 := 167) (M1 := xm_14) (M2 := xm_167) hE (by decide +kernel) (by decide) rfl rfl (by decide) (by decide) (lx_feed hE)
theorem lw_case1 {E : yE} (hE : yEok E) (hm : yman Om) (hmAC : yman OmAC) {L : Nat} {xs : Nat → Int32} : LK E L xs 269 := LK_px (n := 1) (mi1 := 41) (mi2 := 242) (M1 := xm_41) (M2 := xm_242) hE (by decide +kernel) (by decide) rfl rfl (by decide) (by decide) (lx_text hE hm)
theorem lw_case2 {E : yE} (hE : yEok E) (hm : yman Om) (hmAC : yman OmAC) {L : Nat} {xs : Nat → Int32} : LK E L xs 294 := LK_px (n := 1) (mi1 := 13) (mi2 := 166) (M1 := xm_13) (M2 := xm_166) hE (by decide +kernel) (by decide) rfl rfl (by decide) (by decide) (lx_fault hE)
theorem lw_case3 {E : yE} (hE : yEok E) (hm : yman Om) (hmAC : yman OmAC) {L : Nat} {xs : Nat → Int32} : LK E L xs 319 := LK_cx (n := 2) (mi1 := 22) (mi2 := 210) (M1 := xm_22) (M2 := xm_210) hE (by decide +kernel) (by decide) rfl rfl (by decide) (by decide) (lx_named hE)
theorem lw_case5 {E : yE} (hE : yEok E) (hm : yman Om) (hmAC : yman OmAC) {L : Nat} {xs : Nat → Int32} : LK E L xs 396 := LK_of (n := 2) (mi1 := 40) (mi2 := 240) (po := 10) (t := 0) (M1 := xm_40) (M2 := xm_240) hE (by decide +kernel) (by decide) (Or.inl ⟨rfl, rfl⟩) rfl rfl (by decide) (by decide) (LC_as (as_78 yoc_Om hm) hE (by decide +kernel)) (LC_as (as_90 yoc_Om hm) hE (by decide +kernel))
theorem lw_case6 {E : yE} (hE : yEok E) (hm : yman Om) (hmAC : yman OmAC) {L : Nat} {xs : Nat → Int32} : LK E L xs 433 := LK_px (n := 2) (mi1 := 44) (mi2 := 247) (M1 := xm_44) (M2 := xm_247) hE (by decide +kernel) (by decide) rfl rfl (by decide) (by decide) (lx_verse hE)
theorem lw_case7 {E : yE} (hE : yEok E) (hm : yman Om) (hmAC : yman OmAC) {L : Nat} {xs : Nat → Int32} : LK E L xs 470 := LK_px (n := 3) (mi1 := 25) (mi2 := 216) (M1 := xm_25) (M2 := xm_216) hE (by decide +kernel) (by decide) rfl rfl (by decide) (by decide) (lx_pitch hE)
theorem lw_case8 {E : yE} (hE : yEok E) (hm : yman Om) (hmAC : yman OmAC) {L : Nat} {xs : Nat → Int32} : LK E L xs 519 := LK_of (n := 3) (mi1 := 10) (mi2 := 161) (po := 10) (t := 0) (M1 := xm_10) (M2 := xm_161) hE (by decide +kernel) (by decide) (Or.inl ⟨rfl, rfl⟩) rfl rfl (by decide) (by decide) (LC_as (as_35 yoc_Om hm) hE (by decide +kernel)) (LC_as (as_98 yoc_Om hm) hE (by decide +kernel))
theorem lw_case9 {E : yE} (hE : yEok E) (hm : yman Om) (hmAC : yman OmAC) {L : Nat} {xs : Nat → Int32} : LK E L xs 568 := LK_of (n := 3) (mi1 := 36) (mi2 := 232) (po := 10) (t := 0) (M1 := xm_36) (M2 := xm_232) hE (by decide +kernel) (by decide) (Or.inl ⟨rfl, rfl⟩) rfl rfl (by decide) (by decide) (LC_as (as_72 yoc_Om hm) hE (by decide +kernel)) (LC_as (as_99 yoc_Om hm) hE (by decide +kernel))
theorem lw_case10 {E : yE} (hE : yEok E) (hm : yman Om) (hmAC : yman OmAC) {L : Nat} {xs : Nat → Int32} : LK E L xs 617 := LK_of (n := 2) (mi1 := 4) (mi2 := 149) (po := 10) (t := 0) (M1 := xm_4) (M2 := xm_149) hE (by decide +kernel) (by decide) (Or.inl ⟨rfl, rfl⟩) rfl rfl (by decide) (by decide) (LC_as (as_28 yoc_Om hm) hE (by decide +kernel)) (LC_as (as_101 yoc_Om hm) hE (by decide +kernel))
theorem lw_case11 {E : yE} (hE : yEok E) (hm : yman Om) (hmAC : yman OmAC) {L : Nat} {xs : Nat → Int32} : LK E L xs 654 := LK_of (n := 1) (mi1 := 9) (mi2 := 159) (po := 10) (t := 0) (M1 := xm_9) (M2 := xm_159) hE (by decide +kernel) (by decide) (Or.inl ⟨rfl, rfl⟩) rfl rfl (by decide) (by decide) (LC_as (as_34 yoc_Om hm) hE (by decide +kernel)) (LC_as (as_103 yoc_Om hm) hE (by decide +kernel))
theorem lc_222 {E : yE} (hE : yEok E) (hm : yman Om) (hmAC : yman OmAC) : LC E 1000 222 95 3 0 := fun M' hM X mem Q hI hQ => by
  have e : xm_222 = M' := Option.some.inj (show some xm_222 = some M' from hM)
  subst e
  exact c_redeem hE hm (by decide) hI.1 hI.2.1 (fun r m h => hQ r m (LI_R hI h))
theorem lw_case12 {E : yE} (hE : yEok E) (hm : yman Om) (hmAC : yman OmAC) {L : Nat} {xs : Nat → Int32} : LK E L xs 679 := LK_of (n := 3) (mi1 := 27) (mi2 := 222) (po := 10) (t := 0) (M1 := xm_27) (M2 := xm_222) hE (by decide +kernel) (by decide) (Or.inl ⟨rfl, rfl⟩) rfl rfl (by decide) (by decide) (LC_as (as_66 yoc_Om hm) hE (by decide +kernel)) (lc_222 hE hm hmAC)
theorem lc_246 {E : yE} (hE : yEok E) (hm : yman Om) (hmAC : yman OmAC) : LC E 1000 246 95 0 0 := fun M' hM X mem Q hI hQ => by
  have e : xm_246 = M' := Option.some.inj (show some xm_246 = some M' from hM)
  subst e
  exact c_undo hE (by decide) hI.1 hI.2.1 (fun r m h => hQ r m (LI_R hI h))
theorem lw_case13 {E : yE} (hE : yEok E) (hm : yman Om) (hmAC : yman OmAC) {L : Nat} {xs : Nat → Int32} : LK E L xs 728 := LK_of (n := 0) (mi1 := 43) (mi2 := 246) (po := 10) (t := 0) (M1 := xm_43) (M2 := xm_246) hE (by decide +kernel) (by decide) (Or.inl ⟨rfl, rfl⟩) rfl rfl (by decide) (by decide) (LC_as (as_79 yoc_Om hm) hE (by decide +kernel)) (lc_246 hE hm hmAC)
theorem lw_case14 {E : yE} (hE : yEok E) (hm : yman Om) (hmAC : yman OmAC) {L : Nat} {xs : Nat → Int32} : LK E L xs 741 := LK_of (n := 2) (mi1 := 32) (mi2 := 229) (po := 10) (t := 0) (M1 := xm_32) (M2 := xm_229) hE (by decide +kernel) (by decide) (Or.inl ⟨rfl, rfl⟩) rfl rfl (by decide) (by decide) (LC_as (as_70 yoc_Om hm) hE (by decide +kernel)) (LC_as (as_104 yoc_Om hm) hE (by decide +kernel))
theorem lw_case15 {E : yE} (hE : yEok E) (hm : yman Om) (hmAC : yman OmAC) {L : Nat} {xs : Nat → Int32} : LK E L xs 778 := LK_of (n := 2) (mi1 := 2) (mi2 := 145) (po := 10) (t := 0) (M1 := xm_2) (M2 := xm_145) hE (by decide +kernel) (by decide) (Or.inl ⟨rfl, rfl⟩) rfl rfl (by decide) (by decide) (LC_as (as_3 yoc_Om hm) hE (by decide +kernel)) (LC_as (as_105 yoc_Om hm) hE (by decide +kernel))
theorem lc_239 {E : yE} (hE : yEok E) (hm : yman Om) (hmAC : yman OmAC) : LC E 1000 239 95 0 0 := fun M' hM X mem Q hI hQ => by
  have e : xm_239 = M' := Option.some.inj (show some xm_239 = some M' from hM)
  subst e
  exact c_sunday hE hmAC (by decide) hI.1 hI.2.1 (fun r m h => hQ r m (LI_R hI h))
theorem lw_case16 {E : yE} (hE : yEok E) (hm : yman Om) (hmAC : yman OmAC) {L : Nat} {xs : Nat → Int32} : LK E L xs 815 := LK_of (n := 0) (mi1 := 38) (mi2 := 239) (po := 10) (t := 0) (M1 := xm_38) (M2 := xm_239) hE (by decide +kernel) (by decide) (Or.inl ⟨rfl, rfl⟩) rfl rfl (by decide) (by decide) (LC_as (as_76 yoc_Om hm) hE (by decide +kernel)) (lc_239 hE hm hmAC)
theorem lc_147 {E : yE} (hE : yEok E) (hm : yman Om) (hmAC : yman OmAC) : LC E 1000 147 95 2 0 := fun M' hM X mem Q hI hQ => by
  have e : xm_147 = M' := Option.some.inj (show some xm_147 = some M' from hM)
  subst e
  exact c_best hE hm (by decide) hI.1 hI.2.1 (fun r m h => hQ r m (LI_R hI h))
theorem lw_case17 {E : yE} (hE : yEok E) (hm : yman Om) (hmAC : yman OmAC) {L : Nat} {xs : Nat → Int32} : LK E L xs 828 := LK_of (n := 2) (mi1 := 3) (mi2 := 147) (po := 10) (t := 0) (M1 := xm_3) (M2 := xm_147) hE (by decide +kernel) (by decide) (Or.inl ⟨rfl, rfl⟩) rfl rfl (by decide) (by decide) (LC_as (as_26 yoc_Om hm) hE (by decide +kernel)) (lc_147 hE hm hmAC)
theorem lc_152 {E : yE} (hE : yEok E) (hm : yman Om) (hmAC : yman OmAC) : LC E 1000 152 95 3 0 := fun M' hM X mem Q hI hQ => by
  have e : xm_152 = M' := Option.some.inj (show some xm_152 = some M' from hM)
  subst e
  exact c_chosen hE hm (by decide) hI.1 hI.2.1 (fun r m h => hQ r m (LI_R hI h))
theorem lw_case18 {E : yE} (hE : yEok E) (hm : yman Om) (hmAC : yman OmAC) {L : Nat} {xs : Nat → Int32} : LK E L xs 865 := LK_of (n := 3) (mi1 := 5) (mi2 := 152) (po := 10) (t := 0) (M1 := xm_5) (M2 := xm_152) hE (by decide +kernel) (by decide) (Or.inl ⟨rfl, rfl⟩) rfl rfl (by decide) (by decide) (LC_as (as_30 yoc_Om hm) hE (by decide +kernel)) (lc_152 hE hm hmAC)
theorem lw_case19 {E : yE} (hE : yEok E) (hm : yman Om) (hmAC : yman OmAC) {L : Nat} {xs : Nat → Int32} : LK E L xs 914 := LK_of (n := 3) (mi1 := 35) (mi2 := 231) (po := 10) (t := 0) (M1 := xm_35) (M2 := xm_231) hE (by decide +kernel) (by decide) (Or.inl ⟨rfl, rfl⟩) rfl rfl (by decide) (by decide) (LC_as (as_71 yoc_Om hm) hE (by decide +kernel)) (LC_as (as_107 yoc_Om hm) hE (by decide +kernel))
theorem lw_case20 {E : yE} (hE : yEok E) (hm : yman Om) (hmAC : yman OmAC) {L : Nat} {xs : Nat → Int32} : LK E L xs 963 := LK_of (n := 1) (mi1 := 11) (mi2 := 163) (po := 10) (t := 0) (M1 := xm_11) (M2 := xm_163) hE (by decide +kernel) (by decide) (Or.inl ⟨rfl, rfl⟩) rfl rfl (by decide) (by decide) (LC_as (as_38 yoc_Om hm) hE (by decide +kernel)) (LC_as (as_108 yoc_Om hm) hE (by decide +kernel))
theorem lw_case21 {E : yE} (hE : yEok E) (hm : yman Om) (hmAC : yman OmAC) {L : Nat} {xs : Nat → Int32} : LK E L xs 988 := LK_of (n := 1) (mi1 := 16) (mi2 := 180) (po := 10) (t := 0) (M1 := xm_16) (M2 := xm_180) hE (by decide +kernel) (by decide) (Or.inl ⟨rfl, rfl⟩) rfl rfl (by decide) (by decide) (LC_as (as_52 yoc_Om hm) hE (by decide +kernel)) (LC_as (as_109 yoc_Om hm) hE (by decide +kernel))
theorem lw_case22 {E : yE} (hE : yEok E) (hm : yman Om) (hmAC : yman OmAC) {L : Nat} {xs : Nat → Int32} : LK E L xs 1013 := LK_of (n := 1) (mi1 := 37) (mi2 := 235) (po := 10) (t := 0) (M1 := xm_37) (M2 := xm_235) hE (by decide +kernel) (by decide) (Or.inl ⟨rfl, rfl⟩) rfl rfl (by decide) (by decide) (LC_as (as_73 yoc_Om hm) hE (by decide +kernel)) (LC_as (as_110 yoc_Om hm) hE (by decide +kernel))
theorem lw_case23 {E : yE} (hE : yEok E) (hm : yman Om) (hmAC : yman OmAC) {L : Nat} {xs : Nat → Int32} : LK E L xs 1038 := LK_of (n := 1) (mi1 := 19) (mi2 := 201) (po := 10) (t := 0) (M1 := xm_19) (M2 := xm_201) hE (by decide +kernel) (by decide) (Or.inl ⟨rfl, rfl⟩) rfl rfl (by decide) (by decide) (LC_as (as_54 yoc_Om hm) hE (by decide +kernel)) (LC_as (as_111 yoc_Om hm) hE (by decide +kernel))
theorem lw_case24 {E : yE} (hE : yEok E) (hm : yman Om) (hmAC : yman OmAC) {L : Nat} {xs : Nat → Int32} : LK E L xs 1063 := LK_of (n := 0) (mi1 := 42) (mi2 := 243) (po := 10) (t := 0) (M1 := xm_42) (M2 := xm_243) hE (by decide +kernel) (by decide) (Or.inl ⟨rfl, rfl⟩) rfl rfl (by decide) (by decide) (LC_as (as_60 yoc_Om hm) hE (by decide +kernel)) (LC_as (as_114 yoc_Om hm) hE (by decide +kernel))
theorem lc_213 {E : yE} (hE : yEok E) (hm : yman Om) (hmAC : yman OmAC) : LC E 1000 213 95 2 0 := fun M' hM X mem Q hI hQ => by
  have e : xm_213 = M' := Option.some.inj (show some xm_213 = some M' from hM)
  subst e
  exact c_odds hE hm (by decide) hI.1 hI.2.1 (fun r m h => hQ r m (LI_R hI h))
theorem lw_case25 {E : yE} (hE : yEok E) (hm : yman Om) (hmAC : yman OmAC) {L : Nat} {xs : Nat → Int32} : LK E L xs 1076 := LK_of (n := 2) (mi1 := 23) (mi2 := 213) (po := 10) (t := 0) (M1 := xm_23) (M2 := xm_213) hE (by decide +kernel) (by decide) (Or.inl ⟨rfl, rfl⟩) rfl rfl (by decide) (by decide) (LC_as (as_62 yoc_Om hm) hE (by decide +kernel)) (lc_213 hE hm hmAC)
theorem lw_case26 {E : yE} (hE : yEok E) (hm : yman Om) (hmAC : yman OmAC) {L : Nat} {xs : Nat → Int32} : LK E L xs 1113 := LK_of (n := 0) (mi1 := 15) (mi2 := 172) (po := 10) (t := 0) (M1 := xm_15) (M2 := xm_172) hE (by decide +kernel) (by decide) (Or.inl ⟨rfl, rfl⟩) rfl rfl (by decide) (by decide) (LC_as (as_51 yoc_Om hm) hE (by decide +kernel)) (LC_as (as_117 yoc_Om hm) hE (by decide +kernel))
theorem lw_case27 {E : yE} (hE : yEok E) (hm : yman Om) (hmAC : yman OmAC) {L : Nat} {xs : Nat → Int32} : LK E L xs 1126 := LK_of (n := 4) (mi1 := 28) (mi2 := 224) (po := 10) (t := 0) (M1 := xm_28) (M2 := xm_224) hE (by decide +kernel) (by decide) (Or.inl ⟨rfl, rfl⟩) rfl rfl (by decide) (by decide) (LC_as (as_67 yoc_Om hm) hE (by decide +kernel)) (LC_as (as_123 yoc_Om hm) hE (by decide +kernel))
theorem lw_case28 {E : yE} (hE : yEok E) (hm : yman Om) (hmAC : yman OmAC) {L : Nat} {xs : Nat → Int32} : LK E L xs 1187 := LK_of (n := 5) (mi1 := 12) (mi2 := 164) (po := 10) (t := 0) (M1 := xm_12) (M2 := xm_164) hE (by decide +kernel) (by decide) (Or.inl ⟨rfl, rfl⟩) rfl rfl (by decide) (by decide) (LC_as (as_45 yoc_Om hm) hE (by decide +kernel)) (LC_as (as_124 yoc_Om hm) hE (by decide +kernel))
theorem lw_case29 {E : yE} (hE : yEok E) (hm : yman Om) (hmAC : yman OmAC) {L : Nat} {xs : Nat → Int32} : LK E L xs 1260 := LK_of (n := 2) (mi1 := 29) (mi2 := 226) (po := 10) (t := 0) (M1 := xm_29) (M2 := xm_226) hE (by decide +kernel) (by decide) (Or.inl ⟨rfl, rfl⟩) rfl rfl (by decide) (by decide) (LC_as (as_69 yoc_Om hm) hE (by decide +kernel)) (LC_as (as_126 yoc_Om hm) hE (by decide +kernel))
theorem lw_case30 {E : yE} (hE : yEok E) (hm : yman Om) (hmAC : yman OmAC) {L : Nat} {xs : Nat → Int32} : LK E L xs 1297 := LK_of (n := 1) (mi1 := 24) (mi2 := 215) (po := 10) (t := 0) (M1 := xm_24) (M2 := xm_215) hE (by decide +kernel) (by decide) (Or.inl ⟨rfl, rfl⟩) rfl rfl (by decide) (by decide) (LC_as (as_63 yoc_Om hm) hE (by decide +kernel)) (LC_as (as_127 yoc_Om hm) hE (by decide +kernel))
theorem lc_250 {E : yE} (hE : yEok E) (hm : yman Om) (hmAC : yman OmAC) : LC E 1000 250 95 3 4 := fun M' hM X mem Q hI hQ => by
  have e : xm_250 = M' := Option.some.inj (show some xm_250 = some M' from hM)
  subst e
  exact c_whole hE hm (by decide) hI.1 hI.2.1 (fun r m h => hQ r m (LI_R hI h))
theorem lw_case31 {E : yE} (hE : yEok E) (hm : yman Om) (hmAC : yman OmAC) {L : Nat} {xs : Nat → Int32} : LK E L xs 1322 := LK_of (n := 3) (mi1 := 45) (mi2 := 250) (po := 69) (t := 4) (M1 := xm_45) (M2 := xm_250) hE (by decide +kernel) (by decide) (Or.inr ⟨rfl, rfl⟩) rfl rfl (by decide) (by decide) (LC_as (as_81 yoc_Om hm) hE (by decide +kernel)) (lc_250 hE hm hmAC)
theorem lc_199 {E : yE} (hE : yEok E) (hm : yman Om) (hmAC : yman OmAC) : LC E 1000 199 95 0 0 := fun M' hM X mem Q hI hQ => by
  have e : xm_199 = M' := Option.some.inj (show some xm_199 = some M' from hM)
  subst e
  exact c_keep hE (by decide) hI.1 hI.2.1 (fun r m h => hQ r m (LI_R hI h))
theorem lw_case32 {E : yE} (hE : yEok E) (hm : yman Om) (hmAC : yman OmAC) {L : Nat} {xs : Nat → Int32} : LK E L xs 1371 := LK_of (n := 0) (mi1 := 18) (mi2 := 199) (po := 10) (t := 0) (M1 := xm_18) (M2 := xm_199) hE (by decide +kernel) (by decide) (Or.inl ⟨rfl, rfl⟩) rfl rfl (by decide) (by decide) (LC_as (as_53 yoc_Om hm) hE (by decide +kernel)) (lc_199 hE hm hmAC)
theorem lc_144 {E : yE} (hE : yEok E) (hm : yman Om) (hmAC : yman OmAC) : LC E 1000 144 95 0 0 := fun M' hM X mem Q hI hQ => by
  have e : xm_144 = M' := Option.some.inj (show some xm_144 = some M' from hM)
  subst e
  exact c_back hE (by decide) hI.1 hI.2.1 (fun r m h => hQ r m (LI_R hI h))
theorem lw_case33 {E : yE} (hE : yEok E) (hm : yman Om) (hmAC : yman OmAC) {L : Nat} {xs : Nat → Int32} : LK E L xs 1384 := LK_of (n := 0) (mi1 := 1) (mi2 := 144) (po := 10) (t := 0) (M1 := xm_1) (M2 := xm_144) hE (by decide +kernel) (by decide) (Or.inl ⟨rfl, rfl⟩) rfl rfl (by decide) (by decide) (LC_as (as_0 yoc_Om hm) hE (by decide +kernel)) (lc_144 hE hm hmAC)
theorem lw_case34 {E : yE} (hE : yEok E) (hm : yman Om) (hmAC : yman OmAC) {L : Nat} {xs : Nat → Int32} : LK E L xs 1397 := LK_of (n := 1) (mi1 := 7) (mi2 := 157) (po := 10) (t := 0) (M1 := xm_7) (M2 := xm_157) hE (by decide +kernel) (by decide) (Or.inl ⟨rfl, rfl⟩) rfl rfl (by decide) (by decide) (LC_as (as_32 yoc_Om hm) hE (by decide +kernel)) (LC_as (as_128 yoc_Om hm) hE (by decide +kernel))
theorem dLk_370 : decode cL_law 370 = .ok (.invokestatic 39, 3) := by decide +kernel
theorem l_look {E : yE} (hE : yEok E) (hnc : ∀ s, yEX E s → va_Nc "java/util/NoSuchElementException" "java/lang/IndexOutOfBoundsException" s) {lv : yL} {st : List yV} {mem : yMem} {ce sl : Nat} {Post : Option yV → yMem → Prop} {x y : Int} (hG : aGok mem) (hR : yRm room_1 1000 (ce + 1) (sl + 6)) (hst : ysum st ≤ 8) (h : ∀ v m', (m' = mem ∨ ∃ w, m' = yset mem 143 0 w) → yG E room_1 xm_L1 373 lv ((0, v) :: st) m' (ce + 1) (sl + 6) Post) : yG E room_1 xm_L1 370 lv ((1, 143) :: (0, y) :: (0, x) :: (1, 0) :: st) mem ce sl Post := by
  intro p e s m args below meth c A Qc hC hQ H locs ls hl hP hS
  have C := hC.1.1
  have hGw : ∀ w ∈ va_wsS RL 39 yL_look xLW, w ∈ xgt := fun w hw => by
    rcases List.mem_append.mp hw with hw | hw
    · simp only [List.mem_cons, List.not_mem_nil, or_false] at hw
      rcases hw with rfl | rfl | rfl
      · exact (xwm 1294 (by decide +kernel) (by decide +kernel))
      · exact (xwm 1295 (by decide +kernel) (by decide +kernel))
      · exact (xwm 115 (by decide +kernel) (by decide +kernel))
    · rcases List.mem_cons.mp hw with rfl | hw
      · exact (xwm 1296 (by decide +kernel) (by decide +kernel))
      · exact hw
  refine yw_call (st := (1, 143) :: (0, y) :: (0, x) :: (1, 0) :: st) (rest := st) (Pc := lkP mem) (mc := 1) (ms := 6) hC hS (vx_runSW (As := llAs E x y) (rest := st.map (ydv E)) (nL := 7) (n := 4) (index := 39) ⟨C.1, C.2.1, hC.1.2.1, C.2.2.1, C.2.2.2⟩ (y_lklaw hE hnc hG x y H.size (yP_size hP)) (vx_cwSW 4 C.2.2.2 (xgt_in' hGw) rfl rfl rfl ⟨by decide, by decide, by decide +kernel⟩ ⟨by decide, by decide⟩) ⟨yPp_blind hE, fun U hU hW => ⟨rfl, yPp_at hC hE hP hS U hU hW⟩⟩ rfl rfl hl.1 rfl (lv_room (by rw [ysum_ok]; exact hst)) dLk_370 hR.2) (fun r mem' H1 locs1 hr hP1 hS1 => ?_)
  obtain ⟨⟨v, rfl⟩, hm'⟩ := hr
  exact h v mem' hm' p e s m args below meth c A Qc hC hQ H1 locs1 ls hl hP1 hS1
theorem lw_case4 {E : yE} (hE : yEok E) (hm : yman Om) (hnc : ∀ s, yEX E s → va_Nc "java/util/NoSuchElementException" "java/lang/IndexOutOfBoundsException" s) {L : Nat} {xs : Nat → Int32} : LK E L xs 356 := by
  intro i mem ce sl Post hR hS hL h0 h6 hI nx
  have hR' := yRm_le hR (show ce ≤ ce + 1 by omega) (show sl ≤ sl + 6 by omega)
  refine yo_ld (nx := 357) (k := 1) (i := 1) (v := (1, 0)) hE hR' (lo1 (by decide +kernel)) rfl rfl ?_
  refine l_args hE hR' hS hL h0 h6 2 1 357 _ (by decide +kernel) (by decide) ?_
  refine yo_ld (pc := 369) (nx := 370) (k := 1) (i := 3) (v := (1, 143)) hE hR' (lo1 (by decide +kernel)) rfl rfl ?_
  refine l_look (x := lX xs i 1) (y := lX xs i 2) (st := []) hE hnc hI.1 hR (by decide) (fun v m' hm' => ?_)
  have hI' : LI m' := by
    rcases hm' with rfl | ⟨w, rfl⟩
    · exact hI
    · exact LI_fr hI (aGok_set hI.1 (ag_32 (agam_A ae_143))) (yoc_Om mem _ (fun i j hi => yset_o (fun e => by subst e; exact absurd hi (by decide))) hI.2.1) (fun j _ => yset_o (by decide)) (fun j => yset_o (by decide)) (fun j => yset_o (by decide)) (fun j _ => yset_o (by decide)) (fun c j hc => yset_o (by omega))
  refine yo_st (nx := 375) (k := 0) (i := 5) hE hR (lo1 (by decide +kernel)) rfl (by decide) (zG_sub (lv' := llaw i) (fun q hq => List.mem_cons_of_mem _ hq) ?_)
  refine l_seg (pc := 375) (d := 1000) (r := 2) (n := 2) (mi := 207) (ci := 12) (z := 95) (M' := xm_207) (rest := []) hE hR hS hL h0 h6 (by decide +kernel) (by decide) rfl rfl rfl (by decide) (by decide) rfl (by decide) ?_
  refine (LC_as (as_89 yoc_Om hm) hE (by decide +kernel) : LC E 1000 207 95 2 0) xm_207 rfl _ m' _ hI' (fun x m2 hI2 => ?_)
  refine yo_st (pc := 391) (nx := 393) (k := 0) (i := 6) hE hR (lo1 (by decide +kernel)) rfl (by decide) (zG_sub (lv' := llaw i) (fun q hq => List.mem_cons_of_mem _ hq) ?_)
  exact yo_go (nx := 1422) hE hR (lo1 (by decide +kernel)) (nx m2 (ce + 1) (sl + 6) hI2 (Nat.le_refl _) (Nat.le_refl _))
section LOOP
variable {E : yE} {L : Nat} {xs : Nat → Int32} {mem : yMem} {ce sl : Nat} {Post : Option yV → yMem → Prop} {i : Int}
theorem l_rm {ce sl : Nat} (h1 : ce ≤ 601024) (h2 : sl ≤ 7293034) : yRm room_1 1000 ce sl := ⟨⟨by decide, by decide⟩, h1, h2⟩
theorem l_head (hE : yEok E) (hR : yRm room_1 1000 ce sl) (hS : lSc E L xs) (hL : L ≤ 3072) (h0 : 0 ≤ w32 i) (hP : ∀ m, Post (some (0, cI 1)) m) (h : w32 i + 6 ≤ (L : Int) → LG E i 33 [] mem ce sl Post) : LG E i 23 [] mem ce sl Post := by
  refine yo_ld (nx := 25) (k := 0) (i := 4) (v := (0, i)) hE hR (lo1 (by decide +kernel)) rfl rfl ?_
  refine yo_ld (nx := 26) (k := 1) (i := 0) (v := (5, 50)) hE hR (lo1 (by decide +kernel)) rfl rfl ?_
  refine l_slen (nx := 27) hS (lo1 (by decide +kernel)) ?_
  refine yo_c (nx := 29) (a := 6) hE hR (lo1 (by decide +kernel)) ?_
  refine yo_bin (nx := 30) (o := 1) hE hR (lo1 (by decide +kernel)) (by decide) ?_
  have eL : w32 (L : Int) = (L : Int) := w32_of (by omega) (by omega)
  have e6 : w32 ((L : Int) - cI 6) = (L : Int) - 6 := by
    rw [l_cI (show 6 < 100 by decide)]
    exact (w32_of (by omega) (by omega)).trans (by rfl)
  refine yo_cmp (nx := 33) (t := 1428) (c := 4) hE hR (lo1 (by decide +kernel)) (fun _ => ?_) (fun hn => h ?_)
  · refine yo_c (nx := 1429) (a := 1) hE hR (lo1 (by decide +kernel)) ?_
    exact yo_rt (nx := 0) (b := 3) hE hR (lo1 (by decide +kernel)) (Or.inr ⟨rfl, Or.inr (by decide)⟩) (hP _)
  · have hn' : ¬ w32 ((L : Int) - cI 6) < w32 i := hn
    omega
theorem l_body (hE : yEok E) (hm : yman Om) (hmAC : yman OmAC) (hnc : ∀ s, yEX E s → va_Nc "java/util/NoSuchElementException" "java/lang/IndexOutOfBoundsException" s) (hR : yRm room_1 1000 (ce + 1) (sl + 6)) (hS : lSc E L xs) (hL : L ≤ 3072) (h0 : 0 ≤ w32 i) (h6 : w32 i + 6 ≤ (L : Int)) (hI : LI mem) (nx : ∀ m ce' sl', LI m → ce' ≤ ce + 1 → sl' ≤ sl + 6 → LG E i 1422 [] m ce' sl' Post) : LG E i 33 [] mem ce sl Post := by
  have hR' := yRm_le hR (show ce ≤ ce + 1 by omega) (show sl ≤ sl + 6 by omega)
  refine yo_ld (nx := 34) (k := 1) (i := 0) (v := (5, 50)) hE hR' (lo1 (by decide +kernel)) rfl rfl ?_
  refine yo_ld (nx := 36) (k := 0) (i := 4) (v := (0, i)) hE hR' (lo1 (by decide +kernel)) rfl rfl ?_
  refine l_sld (nx := 37) hS hL (lo1 (by decide +kernel)) h0 (by omega) ?_
  refine yo_c (nx := 39) (a := 63) hE hR' (lo1 (by decide +kernel)) ?_
  refine yo_bin (nx := 40) (o := 3) hE hR' (lo1 (by decide +kernel)) (by decide) ?_
  have k4 := lw_case4 hE hm hnc i mem ce sl Post hR hS hL h0 h6 hI nx
  refine yo_sw (t := 1422) (cs := [(0, 196), (1, 269), (2, 294), (3, 319), (4, 356), (5, 396), (6, 433), (7, 470), (8, 519), (9, 568), (10, 617), (11, 654), (12, 679), (13, 728), (14, 741), (15, 778), (16, 815), (17, 828), (18, 865), (19, 914), (20, 963), (21, 988), (22, 1013), (23, 1038), (24, 1063), (25, 1076), (26, 1113), (27, 1126), (28, 1187), (29, 1260), (30, 1297), (31, 1322), (32, 1371), (33, 1384), (34, 1397)]) hE hR' (l1o rfl) ?_ (fun _ => nx mem ce sl hI (by omega) (by omega)) (by decide)
  exact xcns (fun _ => lw_case0 hE hm hmAC i mem ce sl Post hR hS hL h0 h6 hI nx) <| xcns (fun _ => lw_case1 hE hm hmAC i mem ce sl Post hR hS hL h0 h6 hI nx) <| xcns (fun _ => lw_case2 hE hm hmAC i mem ce sl Post hR hS hL h0 h6 hI nx) <| xcns (fun _ => lw_case3 hE hm hmAC i mem ce sl Post hR hS hL h0 h6 hI nx) <| xcns (fun _ => k4) <| xcns (fun _ => lw_case5 hE hm hmAC i mem ce sl Post hR hS hL h0 h6 hI nx) <| xcns (fun _ => lw_case6 hE hm hmAC i mem ce sl Post hR hS hL h0 h6 hI nx) <| xcns (fun _ => lw_case7 hE hm hmAC i mem ce sl Post hR hS hL h0 h6 hI nx) <| xcns (fun _ => lw_case8 hE hm hmAC i mem ce sl Post hR hS hL h0 h6 hI nx) <| xcns (fun _ => lw_case9 hE hm hmAC i mem ce sl Post hR hS hL h0 h6 hI nx) <| xcns (fun _ => lw_case10 hE hm hmAC i mem ce sl Post hR hS hL h0 h6 hI nx) <| xcns (fun _ => lw_case11 hE hm hmAC i mem ce sl Post hR hS hL h0 h6 hI nx) <| xcns (fun _ => lw_case12 hE hm hmAC i mem ce sl Post hR hS hL h0 h6 hI nx) <| xcns (fun _ => lw_case13 hE hm hmAC i mem ce sl Post hR hS hL h0 h6 hI nx) <| xcns (fun _ => lw_case14 hE hm hmAC i mem ce sl Post hR hS hL h0 h6 hI nx) <| xcns (fun _ => lw_case15 hE hm hmAC i mem ce sl Post hR hS hL h0 h6 hI nx) <| xcns (fun _ => lw_case16 hE hm hmAC i mem ce sl Post hR hS hL h0 h6 hI nx) <| xcns (fun _ => lw_case17 hE hm hmAC i mem ce sl Post hR hS hL h0 h6 hI nx) <| xcns (fun _ => lw_case18 hE hm hmAC i mem ce sl Post hR hS hL h0 h6 hI nx) <| xcns (fun _ => lw_case19 hE hm hmAC i mem ce sl Post hR hS hL h0 h6 hI nx) <| xcns (fun _ => lw_case20 hE hm hmAC i mem ce sl Post hR hS hL h0 h6 hI nx) <| xcns (fun _ => lw_case21 hE hm hmAC i mem ce sl Post hR hS hL h0 h6 hI nx) <| xcns (fun _ => lw_case22 hE hm hmAC i mem ce sl Post hR hS hL h0 h6 hI nx) <| xcns (fun _ => lw_case23 hE hm hmAC i mem ce sl Post hR hS hL h0 h6 hI nx) <| xcns (fun _ => lw_case24 hE hm hmAC i mem ce sl Post hR hS hL h0 h6 hI nx) <| xcns (fun _ => lw_case25 hE hm hmAC i mem ce sl Post hR hS hL h0 h6 hI nx) <| xcns (fun _ => lw_case26 hE hm hmAC i mem ce sl Post hR hS hL h0 h6 hI nx) <| xcns (fun _ => lw_case27 hE hm hmAC i mem ce sl Post hR hS hL h0 h6 hI nx) <| xcns (fun _ => lw_case28 hE hm hmAC i mem ce sl Post hR hS hL h0 h6 hI nx) <| xcns (fun _ => lw_case29 hE hm hmAC i mem ce sl Post hR hS hL h0 h6 hI nx) <| xcns (fun _ => lw_case30 hE hm hmAC i mem ce sl Post hR hS hL h0 h6 hI nx) <| xcns (fun _ => lw_case31 hE hm hmAC i mem ce sl Post hR hS hL h0 h6 hI nx) <| xcns (fun _ => lw_case32 hE hm hmAC i mem ce sl Post hR hS hL h0 h6 hI nx) <| xcns (fun _ => lw_case33 hE hm hmAC i mem ce sl Post hR hS hL h0 h6 hI nx) <| xcns (fun _ => lw_case34 hE hm hmAC i mem ce sl Post hR hS hL h0 h6 hI nx) <| xnl
theorem l_loop (hE : yEok E) (hm : yman Om) (hmAC : yman OmAC) (hnc : ∀ s, yEX E s → va_Nc "java/util/NoSuchElementException" "java/lang/IndexOutOfBoundsException" s) (hS : lSc E L xs) (hL : L ≤ 3072) (hP : ∀ m, Post (some (0, cI 1)) m) : ∀ (n : Nat) (i : Int) (mem : yMem) (ce sl : Nat), L ≤ (w32 i).toNat + n → 0 ≤ w32 i → w32 i ≤ 4000 → LI mem → ce ≤ 144 + (w32 i).toNat → sl ≤ 14558 + (w32 i).toNat → LG E i 23 [] mem ce sl Post := by
  intro n
  induction n with
  | zero =>
    intro i mem ce sl hn h0 h4 hI hc hs
    exact l_head hE (l_rm (by omega) (by omega)) hS hL h0 hP (fun h6 => by omega)
  | succ n ih =>
    intro i mem ce sl hn h0 h4 hI hc hs
    refine l_head hE (l_rm (by omega) (by omega)) hS hL h0 hP (fun h6 => ?_)
    refine l_body hE hm hmAC hnc (l_rm (by omega) (by omega)) hS hL h0 h6 hI (fun m ce' sl' hI' hc' hs' => ?_)
    have e6 : w32 (i + cI 6) = w32 i + 6 := by
      rw [l_cI (show 6 < 100 by decide), w32_ad (by rw [w32_of (x := ((6 : Nat) : Int)) (by decide) (by decide)]; omega) (by rw [w32_of (x := ((6 : Nat) : Int)) (by decide) (by decide)]; omega), w32_of (x := ((6 : Nat) : Int)) (by decide) (by decide)]
      rfl
    refine yo_inc (d := 1000) (nx := 1425) (i := 4) (a := 6) hE (l_rm (by omega) (by omega)) (lo1 (by decide +kernel)) rfl (by decide) ?_
    refine yo_go (d := 1000) (nx := 23) hE (l_rm (by omega) (by omega)) (lo1 (by decide +kernel)) ?_
    exact ih (i + cI 6) m ce' sl' (by omega) (by omega) (by omega) hI' (by omega) (by omega)
end LOOP

