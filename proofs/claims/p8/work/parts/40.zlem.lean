/-! what symbolic runs are simplified by -/
theorem yput_s (st : List yV) (v : yV) : yput st (some v) = v :: st := rfl
theorem yput_n (st : List yV) : yput st none = st := rfl
theorem znl_n : znl none = none := rfl
theorem znl_0 (x : Int) : znl (some (0, x)) = some (0, x) := rfl
theorem znl_1 (x : Int) : znl (some (1, x)) = some (1, x) := rfl
theorem znl_4 (x : Int) : znl (some (4, x)) = none := rfl
theorem znl_5 (x : Int) : znl (some (5, x)) = some (5, x) := rfl
theorem znl_6 (x : Int) : znl (some (6, x)) = some (6, x) := rfl
theorem ysum_n : ysum [] = 0 := rfl
theorem ysum_0 (x : Int) (r : List yV) : ysum ((0, x) :: r) = 1 + ysum r := rfl
theorem ysum_1 (x : Int) (r : List yV) : ysum ((1, x) :: r) = 1 + ysum r := rfl
theorem ysum_4 (x : Int) (r : List yV) : ysum ((4, x) :: r) = 2 + ysum r := rfl
theorem yset_a (mem : yMem) (i n : Nat) (x : Int) (c j : Nat) : yset mem i n x c j = if c = i then (if j = n then x else mem c j) else mem c j := rfl
theorem yset_o {mem : yMem} {i n : Nat} {x : Int} {c j : Nat} (h : c ≠ i) : yset mem i n x c j = mem c j := if_neg h
theorem yset_s {mem : yMem} {i n : Nat} {x : Int} : yset mem i n x i n = x := by simp [yset]
theorem yset_d {mem : yMem} {i n : Nat} {x : Int} {j : Nat} (h : j ≠ n) : yset mem i n x i j = mem i j := by simp [yset, h]
/-- the cells of longs -/
def zlg (i : Nat) : Bool := zis [74, 75, 130, 131, 143] i
/-- a memory whose numbers are what they stand for -/
def zN (mem : yMem) : Prop := ∀ i j, zlg i = false → w32 (mem i j) = mem i j
def znrm (mem : yMem) : yMem := fun i j => match zlg i with
  | true => mem i j
  | false => w32 (mem i j)
theorem znrm_N (mem : yMem) : zN (znrm mem) := by
  intro i j h
  simp only [znrm, h]
  exact w32_w _
theorem znrm_w (mem : yMem) (i j : Nat) : w32 (znrm mem i j) = w32 (mem i j) := by
  simp only [znrm]
  split
  · rfl
  · exact w32_w _
theorem yfs_nrm {E : yE} {f g : Nat → Int} (h : ∀ j, iI (f j) = iI (g j)) : ∀ (fs : List yV) (o : Nat), (∀ v ∈ fs, v.1 ≠ 4) → yfs E o fs f = yfs E o fs g
  | [], o, _ => rfl
  | v :: r, o, hv => by
    simp only [yfs]
    rw [yfs_nrm h r (o + 1) (fun v hv' => hv v (List.mem_cons_of_mem _ hv'))]
    congr 1
    have h4 := hv v List.mem_cons_self
    obtain ⟨t, x⟩ := v
    match t, h4 with
    | 0, _ => show Value.int _ = Value.int _; rw [h o]
    | 1, _ | 2, _ | 3, _ | 5, _ | 6, _ | 7, _ => rfl
    | 4, h4 => exact absurd rfl h4
    | n + 8, _ => rfl
/-- cells of longs are told, no object holds one -/
def zshok : Nat → List yS → Bool
  | _, [] => true
  | i, .inl (t, _, _) :: r => (!(Nat.beq t 2) || zlg i) && zshok (i + 1) r
  | i, .inr (_, fs) :: r => (!(fs.any (fun v => Nat.beq v.1 4)) && !(zlg i)) && zshok (i + 1) r
theorem ycx_nrm {E : yE} {mem : yMem} : ∀ (L : List yS) (o : Nat), zshok o L = true → ycx E (znrm mem) o L = ycx E mem o L
  | [], o, _ => rfl
  | S :: r, o, h => by
    simp only [ycx]
    have hi : zlg o = false → ∀ j, iI (znrm mem o j) = iI (mem o j) := fun e j => by
      simp only [znrm, e]
      exact iI_w _
    have hl : zlg o = true → znrm mem o = mem o := fun e => by
      funext j
      simp only [znrm, e]
    match S, h with
    | .inl (t, n, rs), h =>
      simp only [zshok, Bool.and_eq_true] at h
      rw [ycx_nrm r (o + 1) h.2]
      congr 1
      congr 1
      cases e : zlg o with
      | true => rw [hl e]
      | false =>
        have h1 := h.1
        rw [e, Bool.or_false] at h1
        have ht : t ≠ 2 := fun z => by subst z; cases h1
        match t, ht with
        | 0, _ => simp only [yce]; congr 1; congr 1; congr 1; congr 1; funext j; exact hi e j
        | 1, _ => simp only [yce]; congr 1; congr 1; congr 1; congr 1; funext j; exact hi e j
        | 2, ht => exact absurd rfl ht
        | 3, _ => simp only [yce]; congr 1; congr 1; congr 1; congr 1; funext j; exact hi e j
        | 4, _ => rfl
        | k + 5, _ => simp only [yce]; congr 1; congr 1; congr 1; congr 1; funext j; exact hi e j
    | .inr (ci, fs), h =>
      simp only [zshok, Bool.and_eq_true, Bool.not_eq_true'] at h
      rw [ycx_nrm r (o + 1) h.2]
      congr 1
      congr 1
      simp only [yce]
      congr 1
      congr 1
      refine yfs_nrm (hi h.1.2) fs 0 (fun v hv e => ?_)
      have := h.1.1
      rw [List.any_eq_false] at this
      exact this v hv ((Nat.beq_eq).mpr e)
theorem zshok_ysh : zshok 0 ysh = true := by decide +kernel
theorem yW_nrm {E : yE} {mem : yMem} : yW E (znrm mem) = yW E mem := ycx_nrm ysh 0 zshok_ysh
theorem yCon_nrm {E : yE} {d : Nat} {M : xM} {avs : List yV} {mem : yMem} {P : Option yV → yMem → Prop} (h : yCon E d M avs (znrm mem) P) : yCon E d M avs mem P := by
  intro sz hb
  have := h sz hb
  unfold yPp at this
  rw [yW_nrm] at this
  exact this
theorem zG_nrm {E : yE} {d : Nat} {M : xM} {pc : Nat} {rg : zR} {st : List yV} {mem : yMem} {P : Option yV → yMem → Prop} (h : zG E d M pc rg st (znrm mem) P) : zG E d M pc rg st mem P := by
  intro p e s m args below meth c A Qc hC hQ H locs ls hl hP hS
  exact h p e s m args below meth c A Qc hC hQ H locs ls hl (by rw [yW_nrm]; exact hP) hS
/-- what is found behind a contract may be told of the memory of plain numbers -/
theorem yCon_post {E : yE} {d : Nat} {M : xM} {avs : List yV} {mem : yMem} {P : Option yV → yMem → Prop} (h : yCon E d M avs mem (fun r mem' => P r (znrm mem'))) : yCon E d M avs mem P := by
  intro sz hb p e ha hc hk s m args below hf happ hP hK
  obtain ⟨n, o, h1, h2, h3, ⟨r, mem', k1, k2, k3, k4⟩, h5⟩ := h sz hb p e ha hc hk s m args below hf happ hP hK
  exact ⟨n, o, h1, h2, h3, ⟨r, znrm mem', k1, k2, by rw [yW_nrm]; exact k3, k4⟩, h5⟩
theorem zgkN {mem : yMem} (hG : aGok mem) (hN : zN mem) (i j : Nat) {lo hi : Int} (h : agam i j = (lo, hi)) (hl : zlg i = false) : lo ≤ mem i j ∧ mem i j ≤ hi := by
  have := hG i j
  rw [h, hN i j hl] at this
  exact this
theorem aGok_nrm {mem : yMem} (h : aGok mem) : aGok (znrm mem) := fun i j => by rw [znrm_w]; exact h i j
theorem w32_ad {x y : Int} (h1 : -2147483648 ≤ w32 x + w32 y) (h2 : w32 x + w32 y < 2147483648) : w32 (x + y) = w32 x + w32 y := by
  have : iI (x + y) = iI (w32 x + w32 y) := by
    rw [show iI (x + y) = iI x + iI y from Int32.ofInt_add x y, show iI (w32 x + w32 y) = iI (w32 x) + iI (w32 y) from Int32.ofInt_add _ _, iI_w, iI_w]
  show (iI (x + y)).toInt = _
  rw [this]
  exact w32_of h1 h2
theorem w32_sb {x y : Int} (h1 : -2147483648 ≤ w32 x - w32 y) (h2 : w32 x - w32 y < 2147483648) : w32 (x - y) = w32 x - w32 y := by
  have : iI (x - y) = iI (w32 x - w32 y) := by
    rw [show iI (x - y) = iI x - iI y from Int32.ofInt_sub x y, show iI (w32 x - w32 y) = iI (w32 x) - iI (w32 y) from Int32.ofInt_sub _ _, iI_w, iI_w]
  show (iI (x - y)).toInt = _
  rw [this]
  exact w32_of h1 h2
theorem w32_ml (x y : Int) : w32 (x * y) = w32 (w32 x * w32 y) := by
  have : iI (x * y) = iI (w32 x * w32 y) := by
    rw [show iI (x * y) = iI x * iI y from Int32.ofInt_mul x y, show iI (w32 x * w32 y) = iI (w32 x) * iI (w32 y) from Int32.ofInt_mul _ _, iI_w, iI_w]
  show (iI (x * y)).toInt = _
  rw [this]
  rfl
theorem w32_k {c : Int} {x : Int} (hc : w32 c = c) (h1 : -2147483648 ≤ c * w32 x) (h2 : c * w32 x < 2147483648) : w32 (c * x) = c * w32 x := by
  rw [w32_ml, hc, w32_of h1 h2]
theorem ag {mem : yMem} (hG : aGok mem) (i j : Nat) {lo hi : Int} (h : agam i j = (lo, hi)) : lo ≤ w32 (mem i j) ∧ w32 (mem i j) ≤ hi := by
  have := hG i j
  rw [h] at this
  exact this
/-- of an array without told slots -/
theorem agA {mem : yMem} (hG : aGok mem) (i j : Nat) {lo hi : Int} (h : aent i = ((lo, hi), [])) : lo ≤ w32 (mem i j) ∧ w32 (mem i j) ≤ hi := by
  refine ag hG i j ?_
  unfold agam
  rw [h]
  rfl
theorem aGok_set {mem : yMem} (hG : aGok mem) {i n : Nat} {x : Int} (h : (agam i n).1 ≤ w32 x ∧ w32 x ≤ (agam i n).2) : aGok (yset mem i n x) := by
  intro a b
  unfold yset
  split
  · next e =>
    subst e
    split
    · next e => subst e; exact h
    · exact hG a b
  · exact hG a b
theorem agam_A {i j : Nat} {q : Int × Int} (h : aent i = (q, [])) : agam i j = q := by
  unfold agam
  rw [h]
  rfl
theorem ynok_30 : ynok 3 0 = True := eq_true (Or.inl (by decide))
theorem ynok_31 : ynok 3 1 = True := eq_true (Or.inr (by decide))
