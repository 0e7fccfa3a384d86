section YS
variable {E : yE} {R : Room} {d : Nat} {M : xM} {pc nx : Nat} {lv : yL} {st : List yV} {mem : yMem} {ce sl : Nat} {Post : Option yV → yMem → Prop}
theorem y_T {st0 st1 : List yV} (hT : xT (xMc M) (xMo M) pc nx (st0.map (ydv E)) (st1.map (ydv E))) (h : yG E R M nx lv (st1 ++ st) mem ce sl Post) : yG E R M pc lv (st0 ++ st) mem ce sl Post := by
  intro p e s m args below meth c A Qc hC hQ H locs ls hl hP hS
  have := h p e s m args below meth c A Qc hC hQ H locs ls hl hP hS
  rw [List.map_append] at this ⊢
  exact hT p (yl E) e R s m args below meth c H locs ce sl _ ls _ hC.1.1 this
theorem y_load {k i : Nat} {v : yV} (hk3 : k < 3) (hT : xLd (xMc M) (xMo M) pc nx k i) (hv : ylk lv i = some v) (hk : ykdb k v = true) (h : yG E R M nx lv (v :: st) mem ce sl Post) : yG E R M pc lv st mem ce sl Post := by
  intro p e s m args below meth c A Qc hC hQ H locs ls hl hP hS
  have := h p e s m args below meth c A Qc hC hQ H locs ls hl hP hS
  rw [List.map_cons] at this
  exact hT p (yl E) e R s m args below meth c H locs ce sl _ ls _ hC.1.1 _ (ykk hk3 hk) (hl.2.2 _ (List.mem_map.mpr ⟨(i, v), ylk_mem hv, rfl⟩)) this
theorem y_store {k i : Nat} {v : yV} (hk3 : k < 3) (hT : xSt (xMc M) (xMo M) pc nx k i) (hk : ykdb k v = true) (hi : i + xwd k < xMl M) (h : yG E R M nx ((i, v) :: lv.filter (yflb k i)) st mem ce sl Post) : yG E R M pc lv (v :: st) mem ce sl Post := by
  intro p e s m args below meth c A Qc hC hQ H locs ls hl hP hS
  rw [List.map_cons]
  refine hT p (yl E) e R s m args below meth c H locs ce sl _ ls _ hC.1.1 _ _ _ (ykk hk3 hk) hl hi (fun ls' hl' => ?_)
  rw [yflb_ok] at hl'
  exact h p e s m args below meth c A Qc hC hQ H locs ls' hl' hP hS
theorem y_iinc {i n : Nat} {x : Int} (hT : xIn (xMc M) (xMo M) pc nx i n) (hv : ylk lv i = some (0, x)) (hi : i < xMl M) (h : yG E R M nx ((i, (0, x + cI n)) :: lv.filter (yflb 0 i)) st mem ce sl Post) : yG E R M pc lv st mem ce sl Post := by
  intro p e s m args below meth c A Qc hC hQ H locs ls hl hP hS
  have hm : (i, ydv E (0, x)) ∈ ydL E lv := List.mem_map.mpr ⟨(i, (0, x)), ylk_mem hv, rfl⟩
  obtain ⟨k, hk⟩ := List.getElem?_of_mem hm
  refine hT p (yl E) e R s m args below meth c H locs ce sl _ ls _ hC.1.1 _ k _ (iI x) hl hk hi (fun ls' hl' => ?_)
  have e1 : iI x + nI n = iI (x + cI n) := by rw [← iI_c]; exact (Int32.ofInt_add x (cI n)).symm
  rw [yflb_ok, e1] at hl'
  exact h p e s m args below meth c A Qc hC hQ H locs ls' hl' hP hS
theorem y_fork {k tgt : Nat} {x y : Int} (hT : xB (xMc M) (xMo M) pc nx tgt k) (h1 : ycp k x y → yG E R M tgt lv st mem ce sl Post) (h2 : ¬ ycp k x y → yG E R M nx lv st mem ce sl Post) : yG E R M pc lv ((0, y) :: (0, x) :: st) mem ce sl Post := by
  intro p e s m args below meth c A Qc hC hQ H locs ls hl hP hS
  rw [List.map_cons, List.map_cons]
  refine hT p (yl E) e R s m args below meth c H locs ce sl _ ls _ hC.1.1 (iI x) (iI y) (fun hc => ?_) (fun hc => ?_)
  · exact h1 ((ycp_ok k x y).mp hc) p e s m args below meth c A Qc hC hQ H locs ls hl hP hS
  · exact h2 (fun z => hc ((ycp_ok k x y).mpr z)) p e s m args below meth c A Qc hC hQ H locs ls hl hP hS
theorem y_fork0 {k tgt : Nat} {x : Int} (hT : xB0 (xMc M) (xMo M) pc nx tgt k) (h1 : ycp k x 0 → yG E R M tgt lv st mem ce sl Post) (h2 : ¬ ycp k x 0 → yG E R M nx lv st mem ce sl Post) : yG E R M pc lv ((0, x) :: st) mem ce sl Post := by
  intro p e s m args below meth c A Qc hC hQ H locs ls hl hP hS
  rw [List.map_cons]
  have e0 : nI 0 = iI 0 := by decide
  refine hT p (yl E) e R s m args below meth c H locs ce sl _ ls _ hC.1.1 (iI x) (fun hc => ?_) (fun hc => ?_)
  · rw [e0] at hc
    exact h1 ((ycp_ok k x 0).mp hc) p e s m args below meth c A Qc hC hQ H locs ls hl hP hS
  · rw [e0] at hc
    exact h2 (fun z => hc ((ycp_ok k x 0).mpr z)) p e s m args below meth c A Qc hC hQ H locs ls hl hP hS
theorem w32_c {a : Nat} (h : a < 4294967296) : w32 (cI a) = cI a := by
  apply w32_of
  · unfold cI
    split
    · omega
    · next h2 => rw [Nat.blt_eq] at h2; omega
  · unfold cI
    split
    · next h2 => rw [Nat.blt_eq] at h2; omega
    · omega
theorem y_sw {dflt : Nat} {cs : List (Nat × Nat)} {x : Int} (hT : xSw (xMc M) (xMo M) pc dflt cs) (h1 : ∀ q ∈ cs, w32 x = cI q.1 → yG E R M q.2 lv st mem ce sl Post) (h2 : (∀ q ∈ cs, ¬ w32 x = cI q.1) → yG E R M dflt lv st mem ce sl Post) (h3 : ∀ q ∈ cs, q.1 < 4294967296) : yG E R M pc lv ((0, x) :: st) mem ce sl Post := by
  intro p e s m args below meth c A Qc hC hQ H locs ls hl hP hS
  rw [List.map_cons]
  have key : ∀ q ∈ cs, (iI x = nI q.1 ↔ w32 x = cI q.1) := fun q hq => by
    rw [← iI_c, iI_inj, w32_c (h3 q hq)]
  refine hT p (yl E) e R s m args below meth c H locs ce sl _ ls _ hC.1.1 (iI x) ?_
  by_cases hx : ∃ q ∈ cs, w32 x = cI q.1
  · obtain ⟨q, hq, e1⟩ := hx
    exact Or.inl ⟨q, hq, (key q hq).mpr e1, h1 q hq e1 p e s m args below meth c A Qc hC hQ H locs ls hl hP hS⟩
  · have hn : ∀ q ∈ cs, ¬ w32 x = cI q.1 := fun q hq z => hx ⟨q, hq, z⟩
    exact Or.inr ⟨fun q hq z => hn q hq ((key q hq).mp z), h2 hn p e s m args below meth c A Qc hC hQ H locs ls hl hP hS⟩
theorem y_getf {ci k i : Nat} {fs : List yV} {v : yV} (hT : xGf (xMc M) (xMo M) pc nx ci k) (hK : ysh[i]? = some (.inr (ci, fs))) (hv : fs[k]? = some v) {z : Int} (hz : z.toNat = i) (h : yG E R M nx lv (yfv v (mem i k) :: st) mem ce sl Post) : yG E R M pc lv ((1, z) :: st) mem ce sl Post := by
  intro p e s m args below meth c A Qc hC hQ H locs ls hl hP hS
  have := h p e s m args below meth c A Qc hC hQ H locs ls hl hP hS
  rw [List.map_cons] at this ⊢
  subst hz
  exact hT p (yl E) e R s m args below meth c H locs ce sl _ ls _ hC.1.1 (yD E) (xtys (yda E)) _ z.toNat (yb E + z.toNat) (yfs E 0 fs (mem z.toNat)) _ hC.1.2.2.1 hP (yW_at hK) (by rw [yfs_get, hv, Nat.zero_add]; rfl) this
theorem y_world {f : Nat → Int} {i : Nat} {S : yS} (hK : ysh[i]? = some S) {x : va_E} (hx : x = yce E S f) : (yW E mem).set i (yb E + i, x) = yW E (fun c => if c = 0 + i then f else mem c) := by
  rw [hx]
  exact yW_put hK
theorem y_putf {ci k i : Nat} {fs : List yV} {v w : yV} {ty : FieldType} {fin : Bool} (hT : xPf (xMc M) (xMo M) pc nx ci k ty fin) (hf : fin = true → (xMy M).name = "<init>") (hft : yfit (xtc ty) v w) (hw : fs[k]? = some w) (hK : ysh[i]? = some (.inr (ci, fs))) {z : Int} (hz : z.toNat = i) (h : yG E R M nx lv st (yset mem i k v.2) ce sl Post) : yG E R M pc lv (v :: (1, z) :: st) mem ce sl Post := by
  intro p e s m args below meth c A Qc hC hQ H locs ls hl hP hS
  rw [List.map_cons, List.map_cons]
  subst hz
  have hk : k < (yfs E 0 fs (mem z.toNat)).length := by rw [yfs_len]; exact (List.getElem?_eq_some_iff.mp hw).1
  have f12 : narrow ty (ydv E v) = ydv E v ∧ fits ty (ydv E v) = true ∧ yfv w v.2 = v := by
    obtain ⟨v1, v2⟩ := v
    obtain ⟨w1, w2⟩ := w
    cases ty with
    | int =>
      obtain ⟨h1, h2⟩ := hft
      dsimp only at h1 h2
      subst h1
      subst h2
      exact ⟨rfl, rfl, rfl⟩
    | long =>
      obtain ⟨h1, h2⟩ := hft
      dsimp only at h1 h2
      subst h1
      subst h2
      exact ⟨rfl, rfl, rfl⟩
    | boolean =>
      obtain ⟨h1, h3, h2⟩ := hft
      dsimp only at h1 h2 h3
      subst h1
      subst h2
      show narrow .boolean (.int (iI v2)) = .int (iI v2) ∧ fits .boolean (.int (iI v2)) = true ∧ _
      rcases w32_01 h3 with e | e <;> rw [e]
      · exact ⟨by decide +kernel, by decide +kernel, rfl⟩
      · exact ⟨by decide +kernel, by decide +kernel, rfl⟩
    | _ => exact hft.elim
  refine hT p (yl E) e R s m args below meth c H locs ce sl _ ls _ hC.1.1 (yD E) (xtys (yda E)) _ z.toNat (yb E + z.toNat) A s.heap (yfs E 0 fs (mem z.toNat)) _ hC.1.2.2.1 hP (yW_D hC.2) hS (yW_at hK) (fun q => hC.1.2.2.2.2.2.2.2.1 (hf q)) f12.1 f12.2.1 hk (fun H1 locs1 hP1 _ hS1 z1 => ?_)
  have e1 : (Sum.inr (ci, (yfs E 0 fs (mem z.toNat)).set k (ydv E v)) : va_E) = yce E (.inr (ci, fs)) (fun j => if j = k then v.2 else mem z.toNat j) := by
    show Sum.inr (ci, _) = Sum.inr (ci, yfs E 0 fs _)
    have := yfs_set (E := E) (f := mem z.toNat) (x := v.2) fs 0 k w hw
    rw [f12.2.2, Nat.zero_add] at this
    rw [this]
  rw [y_world hK e1, yset_eq] at hP1
  exact h p e s m args below meth c A Qc hC hQ H1 locs1 ls hl hP1 hS1
theorem yce_arr {t n : Nat} {rs : List Nat} {f : Nat → Int} (ht : t = 0 ∨ t = 1 ∨ t = 3) : yce E (.inl (t, n, rs)) f = .inl (yda E t, n, .inl (fun j => iI (f j))) := by
  rcases ht with rfl | rfl | rfl <;> rfl
theorem yce_any {t n : Nat} {rs : List Nat} {f : Nat → Int} : ∃ z, yce E (.inl (t, n, rs)) f = .inl (yda E t, n, z) := by
  match t with
  | 0 | 1 | 2 | 3 | 4 => exact ⟨_, rfl⟩
  | n + 5 => exact ⟨_, rfl⟩
theorem y_alen {t i n : Nat} {rs : List Nat} (hT : xAl (xMc M) (xMo M) pc nx) (ht : t < 5) (hK : ysh[i]? = some (.inl (t, n, rs))) {z : Int} (hz : z.toNat = i) (h : yG E R M nx lv ((0, (n : Int)) :: st) mem ce sl Post) : yG E R M pc lv ((1, z) :: st) mem ce sl Post := by
  intro p e s m args below meth c A Qc hC hQ H locs ls hl hP hS
  have := h p e s m args below meth c A Qc hC hQ H locs ls hl hP hS
  rw [List.map_cons] at this ⊢
  subst hz
  obtain ⟨y, hy⟩ := yce_any (E := E) (t := t) (n := n) (rs := rs) (f := mem z.toNat)
  have hg := yW_at (E := E) (mem := mem) hK
  rw [hy] at hg
  have e1 : ydv E (0, (n : Int)) = .int (nI n) := by show Value.int (iI _) = _; rw [iI_n]
  rw [e1] at this
  exact hT p (yl E) e R s m args below meth c H locs ce sl _ ls _ hC.1.1 (yD E) (xtys (yda E)) _ z.toNat (yb E + z.toNat) t (yda E t) (n, y) (xty t) hC.1.2.2.1 hP hg (xtys_get ht) this
theorem y_in {j : Int} {n : Nat} (h1 : 0 ≤ w32 j) (h2 : w32 j < (n : Int)) : vp_in (iI j) n ∧ (iI j).toNatClampNeg = (w32 j).toNat := by
  refine ⟨?_, rfl⟩
  rintro (h | h)
  · have : (iI j).toInt < 0 := by simpa using Int32.lt_iff_toInt_lt.mp h
    have h3 : w32 j < 0 := this
    omega
  · have h3 : n ≤ (w32 j).toNat := h
    omega
theorem y_read {t i n : Nat} {rs : List Nat} {j z : Int} (ht : t = 0 ∨ t = 1 ∨ t = 3) (hT : xRd (xMc M) (xMo M) pc nx (xty t)) (hK : ysh[i]? = some (.inl (t, n, rs))) (hz : z.toNat = i) (h1 : 0 ≤ w32 j) (h2 : w32 j < (n : Int)) (h : yG E R M nx lv ((0, mem i (w32 j).toNat) :: st) mem ce sl Post) : yG E R M pc lv ((0, j) :: (1, z) :: st) mem ce sl Post := by
  intro p e s m args below meth c A Qc hC hQ H locs ls hl hP hS
  have := h p e s m args below meth c A Qc hC hQ H locs ls hl hP hS
  rw [List.map_cons] at this
  rw [List.map_cons, List.map_cons]
  subst hz
  have hg := yW_at (E := E) (mem := mem) hK
  rw [yce_arr ht] at hg
  obtain ⟨g1, g2⟩ := y_in h1 h2
  refine hT p (yl E) e R s m args below meth c H locs ce sl _ ls _ hC.1.1 (yD E) (xtys (yda E)) _ z.toNat (yb E + z.toNat) t (yda E t) n _ (iI j) hC.1.2.2.1 hP hg (xtys_get (by omega)) g1 ?_
  rw [g2]
  exact this
theorem y_readr {i n q : Nat} {rs : List Nat} {j z : Int} (hT : xRr (xMc M) (xMo M) pc nx) (hK : ysh[i]? = some (.inl (4, n, rs))) (hz : z.toNat = i) (h1 : 0 ≤ w32 j) (h2 : w32 j < (n : Int)) (hq : rs[(w32 j).toNat]? = some q) (h : yG E R M nx lv ((1, (q : Int)) :: st) mem ce sl Post) : yG E R M pc lv ((0, j) :: (1, z) :: st) mem ce sl Post := by
  intro p e s m args below meth c A Qc hC hQ H locs ls hl hP hS
  have := h p e s m args below meth c A Qc hC hQ H locs ls hl hP hS
  rw [List.map_cons] at this
  rw [List.map_cons, List.map_cons]
  subst hz
  have hg := yW_at (E := E) (mem := mem) hK
  obtain ⟨g1, g2⟩ := y_in h1 h2
  refine hT p (yl E) e R s m args below meth c H locs ce sl _ ls _ hC.1.1 (yD E) (xtys (yda E)) _ z.toNat (yb E + z.toNat) 4 (yda E 4) n (fun j => (rs[j]?).map (fun q => yb E + q)) (iI j) hC.1.2.2.1 hP hg (xtys_get (by omega)) g1 ?_
  rw [g2, hq]
  exact this
theorem y_write {t i n : Nat} {rs : List Nat} {j x z : Int} (ht : t = 0 ∨ t = 1 ∨ t = 3) (hT : xWr (xMc M) (xMo M) pc nx (xty t)) (hK : ysh[i]? = some (.inl (t, n, rs))) (hz : z.toNat = i) (h1 : 0 ≤ w32 j) (h2 : w32 j < (n : Int)) (hx : vp_nar (xty t) (iI x) = iI x) (h : yG E R M nx lv st (yset mem i (w32 j).toNat x) ce sl Post) : yG E R M pc lv ((0, x) :: (0, j) :: (1, z) :: st) mem ce sl Post := by
  intro p e s m args below meth c A Qc hC hQ H locs ls hl hP hS
  rw [List.map_cons, List.map_cons, List.map_cons]
  subst hz
  have hg := yW_at (E := E) (mem := mem) hK
  rw [yce_arr ht] at hg
  obtain ⟨g1, g2⟩ := y_in h1 h2
  refine hT p (yl E) e R s m args below meth c H locs ce sl _ ls _ hC.1.1 (yD E) (xtys (yda E)) _ z.toNat (yb E + z.toNat) A s.heap t (yda E t) n _ (iI j) (iI x) hC.1.2.2.1 hP (yW_D hC.2) hS hg (xtys_get (by omega)) g1 (fun H1 locs1 hP1 _ hS1 z1 => ?_)
  have e1 : (Sum.inl (yda E t, n, Sum.inl (upd (fun j => iI (mem z.toNat j)) (iI j).toNatClampNeg (vp_nar (xty t) (iI x)))) : va_E) = yce E (.inl (t, n, rs)) (fun k => if k = (w32 j).toNat then x else mem z.toNat k) := by
    rw [yce_arr ht, hx, g2]
    congr 4
    funext k
    simp only [upd]
    split <;> rfl
  rw [y_world hK e1, yset_eq] at hP1
  exact h p e s m args below meth c A Qc hC hQ H1 locs1 ls hl hP1 hS1
theorem y_readl {i n : Nat} {rs : List Nat} {j z : Int} (hT : xRl (xMc M) (xMo M) pc nx) (hK : ysh[i]? = some (.inl (2, n, rs))) (hz : z.toNat = i) (h1 : 0 ≤ w32 j) (h2 : w32 j < (n : Int)) (h : yG E R M nx lv ((4, mem i (w32 j).toNat) :: st) mem ce sl Post) : yG E R M pc lv ((0, j) :: (1, z) :: st) mem ce sl Post := by
  intro p e s m args below meth c A Qc hC hQ H locs ls hl hP hS
  have := h p e s m args below meth c A Qc hC hQ H locs ls hl hP hS
  rw [List.map_cons] at this
  rw [List.map_cons, List.map_cons]
  subst hz
  have hg := yW_at (E := E) (mem := mem) hK
  obtain ⟨g1, g2⟩ := y_in h1 h2
  refine hT p (yl E) e R s m args below meth c H locs ce sl _ ls _ hC.1.1 (yD E) (xtys (yda E)) _ z.toNat (yb E + z.toNat) 2 (yda E 2) n (fun j => lI (mem z.toNat j)) (iI j) hC.1.2.2.1 hP hg (xtys_get (by omega)) g1 ?_
  rw [g2]
  exact this
theorem y_writel {i n : Nat} {rs : List Nat} {j x z : Int} (hT : xWl (xMc M) (xMo M) pc nx) (hK : ysh[i]? = some (.inl (2, n, rs))) (hz : z.toNat = i) (h1 : 0 ≤ w32 j) (h2 : w32 j < (n : Int)) (h : yG E R M nx lv st (yset mem i (w32 j).toNat x) ce sl Post) : yG E R M pc lv ((4, x) :: (0, j) :: (1, z) :: st) mem ce sl Post := by
  intro p e s m args below meth c A Qc hC hQ H locs ls hl hP hS
  rw [List.map_cons, List.map_cons, List.map_cons]
  subst hz
  have hg := yW_at (E := E) (mem := mem) hK
  obtain ⟨g1, g2⟩ := y_in h1 h2
  refine hT p (yl E) e R s m args below meth c H locs ce sl _ ls _ hC.1.1 (yD E) (xtys (yda E)) _ z.toNat (yb E + z.toNat) A s.heap 2 (yda E 2) n (fun j => lI (mem z.toNat j)) (iI j) (lI x) hC.1.2.2.1 hP (yW_D hC.2) hS hg (xtys_get (by omega)) g1 (fun H1 locs1 hP1 _ hS1 => ?_)
  have e1 : (Sum.inl (yda E 2, n, Sum.inr (Sum.inl (vp_updL (fun j => lI (mem z.toNat j)) (iI j).toNatClampNeg (lI x)))) : va_E) = yce E (.inl (2, n, rs)) (fun k => if k = (w32 j).toNat then x else mem z.toNat k) := by
    rw [g2]
    show Sum.inl (yda E 2, n, _) = Sum.inl (yda E 2, n, _)
    congr 5
    funext k
    simp only [vp_updL]
    split <;> rfl
  rw [y_world hK e1, yset_eq] at hP1
  exact h p e s m args below meth c A Qc hC hQ H1 locs1 ls hl hP1 hS1
end YS
