section XC
variable {al : Bool} {b : Nat} {ρ : Nat → Int32} {sa : Nat → Nat} {dA : Nat → ClassId} {D : va_G} {M : xM} {p : Program} {l : Launch} {e : Env} {s : State} {m : MethodId} {args : Array Value} {below : List Frame} {meth : Method} {c : Code} {A : Nat → Prop} {Qc : Array Value → State → Outcome → State → Prop} {EX : State → Prop}
variable {mt : List xM} {ds : xD} {rec : xRec} {pc nx : Nat} {lv : xL} {st : List xV} {K : xH} {ce sl : Nat} {κ : xK} {Ls : List xR}
theorem xp_load (hC : xCtx b dA D M p s m args meth c A EX) (hr : xSnd al b ρ sa dA D M p l e s m args below meth c A Qc rec) {k i : Nat} {v : xV} (hk3 : k < 3) (hT : xLd (xMc M) (xMo M) pc nx k i) (hv : xlk lv i = some v) (hk : xkdb k v = true) (h : rec nx lv (xnm κ.2 v :: st) K ce sl κ = some Ls) : xGood al b ρ sa dA D M p l e s m args below meth c A Qc pc lv st K ce sl κ Ls := by
  intro H locs ls hl hP hS hz hA0 hκ hQ
  have := hr _ _ _ _ _ _ _ _ h H locs ls hl hP hS hz hA0 hκ hQ
  rw [List.map_cons, (xnm_ok hκ v).1] at this
  exact hT p l e _ s m args below meth c H locs ce sl _ ls _ hC.1 _ (xkk hk3 hk) (hl.2.2 _ (List.mem_map.mpr ⟨(i, v), xlk_mem hv, rfl⟩)) this
theorem xp_store (hC : xCtx b dA D M p s m args meth c A EX) (hr : xSnd al b ρ sa dA D M p l e s m args below meth c A Qc rec) {k i : Nat} {v : xV} (hk3 : k < 3) (hT : xSt (xMc M) (xMo M) pc nx k i) (hk : xkdb k v = true) (hi : i + xwd k < xMl M) (h : rec nx ((i, v) :: lv.filter (xflb k i)) st K ce sl κ = some Ls) : xGood al b ρ sa dA D M p l e s m args below meth c A Qc pc lv (v :: st) K ce sl κ Ls := by
  intro H locs ls hl hP hS hz hA0 hκ hQ
  rw [List.map_cons]
  refine hT p l e _ s m args below meth c H locs ce sl _ ls _ hC.1 _ _ _ (xkk hk3 hk) hl hi (fun ls' hl' => ?_)
  rw [xflb_ok] at hl'
  exact hr _ _ _ _ _ _ _ _ h H locs ls' hl' hP hS hz hA0 hκ hQ
theorem xp_iinc (hC : xCtx b dA D M p s m args meth c A EX) (hr : xSnd al b ρ sa dA D M p l e s m args below meth c A Qc rec) {i n x : Nat} (hT : xIn (xMc M) (xMo M) pc nx i n) (hv : xlk lv i = some (0, x)) (hi : i < xMl M) (h : rec nx ((i, (0, (x + n) % 4294967296)) :: lv.filter (xflb 0 i)) st K ce sl κ = some Ls) : xGood al b ρ sa dA D M p l e s m args below meth c A Qc pc lv st K ce sl κ Ls := by
  intro H locs ls hl hP hS hz hA0 hκ hQ
  have hm : (i, xdv b ρ sa (0, x)) ∈ xdL b ρ sa lv := List.mem_map.mpr ⟨(i, (0, x)), xlk_mem hv, rfl⟩
  obtain ⟨k, hk⟩ := List.getElem?_of_mem hm
  refine hT p l e _ s m args below meth c H locs ce sl _ ls _ hC.1 _ k _ (nI x) hl hk hi (fun ls' hl' => ?_)
  rw [xflb_ok, nI_add, ← nI_m] at hl'
  exact hr _ _ _ _ _ _ _ _ h H locs ls' hl' hP hS hz hA0 hκ hQ
theorem xp_bin (hC : xCtx b dA D M p s m args meth c A EX) (hr : xSnd al b ρ sa dA D M p l e s m args below meth c A Qc rec) {o : Nat} {x y w : xV} (hT : ∀ x y : Int32, ((o = 9 ∨ o = 10) → ¬ y = 0) → xT (xMc M) (xMo M) pc nx [.int y, .int x] [.int (fbin o x y)]) (hκ0 : xKok ρ κ → xdv b ρ sa x = .int (xdi ρ x) ∧ xdv b ρ sa y = .int (xdi ρ y) ∧ xdv b ρ sa w = .int (fbin o (xdi ρ x) (xdi ρ y)) ∧ ((o = 9 ∨ o = 10) → ¬ xdi ρ y = 0)) (h : rec nx lv (w :: st) K ce sl κ = some Ls) : xGood al b ρ sa dA D M p l e s m args below meth c A Qc pc lv (y :: x :: st) K ce sl κ Ls := by
  intro H locs ls hl hP hS hz hA0 hκ hQ
  have := hr _ _ _ _ _ _ _ _ h H locs ls hl hP hS hz hA0 hκ hQ
  obtain ⟨e1, e2, e3, e4⟩ := hκ0 hκ
  rw [List.map_cons, e3] at this
  rw [List.map_cons, List.map_cons, e1, e2]
  exact hT _ _ e4 p l e _ s m args below meth c H locs ce sl _ ls _ hC.1 this
theorem xp_fork (hC : xCtx b dA D M p s m args meth c A EX) (hr : xSnd al b ρ sa dA D M p l e s m args below meth c A Qc rec) {k tgt : Nat} {x y : xV} (hT : xB (xMc M) (xMo M) pc nx tgt k) (hx : xkdb 0 x = true) (hy : xkdb 0 y = true) (h : xfork κ k x y (fun κ' => rec tgt lv st K ce sl κ') (fun κ' => rec nx lv st K ce sl κ') = some Ls) : xGood al b ρ sa dA D M p l e s m args below meth c A Qc pc lv (y :: x :: st) K ce sl κ Ls := by
  intro H locs ls hl hP hS hz hA0 hκ hQ
  obtain ⟨h1, h2⟩ := xfork_ok hκ h
  rw [List.map_cons, List.map_cons, xk0 hx, xk0 hy]
  refine hT p l e _ s m args below meth c H locs ce sl _ ls _ hC.1 _ _ (fun hc => ?_) (fun hc => ?_)
  · obtain ⟨κ', L, g1, g2, g3⟩ := h1 hc
    exact hr _ _ _ _ _ _ _ _ g1 H locs ls hl hP hS hz hA0 g2 (hQ.sub g3)
  · obtain ⟨κ', L, g1, g2, g3⟩ := h2 hc
    exact hr _ _ _ _ _ _ _ _ g1 H locs ls hl hP hS hz hA0 g2 (hQ.sub g3)
theorem xp_fork0 (hC : xCtx b dA D M p s m args meth c A EX) (hr : xSnd al b ρ sa dA D M p l e s m args below meth c A Qc rec) {k tgt : Nat} {x : xV} (hT : xB0 (xMc M) (xMo M) pc nx tgt k) (hx : xkdb 0 x = true) (h : xfork κ k x (0, 0) (fun κ' => rec tgt lv st K ce sl κ') (fun κ' => rec nx lv st K ce sl κ') = some Ls) : xGood al b ρ sa dA D M p l e s m args below meth c A Qc pc lv (x :: st) K ce sl κ Ls := by
  intro H locs ls hl hP hS hz hA0 hκ hQ
  obtain ⟨h1, h2⟩ := xfork_ok hκ h
  rw [List.map_cons, xk0 hx]
  refine hT p l e _ s m args below meth c H locs ce sl _ ls _ hC.1 _ (fun hc => ?_) (fun hc => ?_)
  · obtain ⟨κ', L, g1, g2, g3⟩ := h1 hc
    exact hr _ _ _ _ _ _ _ _ g1 H locs ls hl hP hS hz hA0 g2 (hQ.sub g3)
  · obtain ⟨κ', L, g1, g2, g3⟩ := h2 hc
    exact hr _ _ _ _ _ _ _ _ g1 H locs ls hl hP hS hz hA0 g2 (hQ.sub g3)
theorem xp_sw (hC : xCtx b dA D M p s m args meth c A EX) (hr : xSnd al b ρ sa dA D M p l e s m args below meth c A Qc rec) {dflt : Nat} {cs : List (Nat × Nat)} {x : xV} (hT : xSw (xMc M) (xMo M) pc dflt cs) (hx : xkdb 0 x = true) (h : xsw x (fun κ' => rec dflt lv st K ce sl κ') (fun t κ' => rec t lv st K ce sl κ') cs κ = some Ls) : xGood al b ρ sa dA D M p l e s m args below meth c A Qc pc lv (x :: st) K ce sl κ Ls := by
  intro H locs ls hl hP hS hz hA0 hκ hQ
  rw [List.map_cons, xk0 hx]
  refine hT p l e _ s m args below meth c H locs ce sl _ ls _ hC.1 _ ?_
  rcases xsw_ok hκ h with ⟨q, hq, e, κ', L, g1, g2, g3⟩ | ⟨hn, κ', L, g1, g2, g3⟩
  · exact Or.inl ⟨q, hq, e, hr _ _ _ _ _ _ _ _ g1 H locs ls hl hP hS hz hA0 g2 (hQ.sub g3)⟩
  · exact Or.inr ⟨hn, hr _ _ _ _ _ _ _ _ g1 H locs ls hl hP hS hz hA0 g2 (hQ.sub g3)⟩
theorem xcx_at {i : Nat} {x : xC} (h : K[i]? = some x) : (xcx b ρ sa dA 0 K)[i]? = some (b + i, xce b ρ sa dA x) := by
  rw [xcx_get, h, show 0 + i = i by omega]
  rfl
theorem xcx_put (i : Nat) (x : xC) : (xcx b ρ sa dA 0 K).set i (b + i, xce b ρ sa dA x) = xcx b ρ sa dA 0 (K.set i x) := by
  rw [← xcx_set, show 0 + i = i by omega]
theorem xp_getf (hC : xCtx b dA D M p s m args meth c A EX) (hr : xSnd al b ρ sa dA D M p l e s m args below meth c A Qc rec) {ci k i : Nat} {fs : List xV} {v : xV} (hT : xGf (xMc M) (xMo M) pc nx ci k) (hK : K[i]? = some (.inr (ci, fs))) (hv : fs[k]? = some v) (h : rec nx lv (v :: st) K ce sl κ = some Ls) : xGood al b ρ sa dA D M p l e s m args below meth c A Qc pc lv ((1, i) :: st) K ce sl κ Ls := by
  intro H locs ls hl hP hS hz hA0 hκ hQ
  have := hr _ _ _ _ _ _ _ _ h H locs ls hl hP hS hz hA0 hκ hQ
  rw [List.map_cons] at this ⊢
  exact hT p l e _ s m args below meth c H locs ce sl _ ls _ hC.1 D (xtys dA) _ i (b + i) (fs.map (xdv b ρ sa)) _ hC.2.2.1 hP (xcx_at hK) (by rw [List.getElem?_map, hv]; rfl) this
theorem xp_putf (hC : xCtx b dA D M p s m args meth c A EX) (hr : xSnd al b ρ sa dA D M p l e s m args below meth c A Qc rec) {ci k i : Nat} {fs : List xV} {v : xV} {ty : FieldType} {fin : Bool} (hT : xPf (xMc M) (xMo M) pc nx ci k ty fin) (hf : fin = true → (xMy M).name = "<init>") (hft : xfit (xtc ty) v = true) (hk : k < fs.length) (hK : K[i]? = some (.inr (ci, fs))) (h : rec nx lv st (K.set i (.inr (ci, fs.set k v))) ce sl κ = some Ls) : xGood al b ρ sa dA D M p l e s m args below meth c A Qc pc lv (v :: (1, i) :: st) K ce sl κ Ls := by
  intro H locs ls hl hP hS hz hA0 hκ hQ
  rw [List.map_cons, List.map_cons]
  obtain ⟨f1, f2⟩ := xfit_ok hft (b := b) (ρ := ρ) (sa := sa)
  refine hT p l e _ s m args below meth c H locs ce sl _ ls _ hC.1 D (xtys dA) _ i (b + i) A s.heap (fs.map (xdv b ρ sa)) _ hC.2.2.1 hP (xcx_D hA0) hS (xcx_at hK) (fun q => hC.2.2.2.2.2.2.2.1 (hf q)) f1 f2 (by rw [List.length_map]; exact hk) (fun H1 locs1 hP1 _ hS1 z1 => ?_)
  have e1 : (Sum.inr (ci, (fs.map (xdv b ρ sa)).set k (xdv b ρ sa v)) : va_E) = xce b ρ sa dA (.inr (ci, fs.set k v)) := by
    show Sum.inr (ci, _) = Sum.inr (ci, (fs.set k v).map (xdv b ρ sa))
    rw [List.map_set]
  rw [e1, xcx_put] at hP1
  exact hr _ _ _ _ _ _ _ _ h H1 locs1 ls hl hP1 hS1 (fun q => by rw [List.length_set, ← hz q]; exact z1) (fun j hj => hA0 j (by rw [List.length_set] at hj; exact hj)) hκ hQ
theorem xce_arr {t : Nat} (ht : t = 0 ∨ t = 1 ∨ t = 3) (vs : List xV) : xce b ρ sa dA (.inl (t, vs)) = .inl (dA t, vs.length, .inl (fun j => xdi ρ (vs.getD j (0, 0)))) := by
  rcases ht with rfl | rfl | rfl <;> rfl
theorem xce_any {t : Nat} (vs : List xV) : ∃ z, xce b ρ sa dA (.inl (t, vs)) = .inl (dA t, vs.length, z) := by
  match t with
  | 0 | 1 | 2 | 3 | 4 => exact ⟨_, rfl⟩
  | n + 5 => exact ⟨_, rfl⟩
theorem xp_alen (hC : xCtx b dA D M p s m args meth c A EX) (hr : xSnd al b ρ sa dA D M p l e s m args below meth c A Qc rec) {t i : Nat} {vs : List xV} (hT : xAl (xMc M) (xMo M) pc nx) (ht : t < 5) (hK : K[i]? = some (.inl (t, vs))) (h : rec nx lv ((0, vs.length) :: st) K ce sl κ = some Ls) : xGood al b ρ sa dA D M p l e s m args below meth c A Qc pc lv ((1, i) :: st) K ce sl κ Ls := by
  intro H locs ls hl hP hS hz hA0 hκ hQ
  have := hr _ _ _ _ _ _ _ _ h H locs ls hl hP hS hz hA0 hκ hQ
  rw [List.map_cons] at this ⊢
  obtain ⟨z, hz2⟩ := xce_any (b := b) (ρ := ρ) (sa := sa) (dA := dA) (t := t) vs
  have hg := xcx_at (b := b) (ρ := ρ) (sa := sa) (dA := dA) hK
  rw [hz2] at hg
  exact hT p l e _ s m args below meth c H locs ce sl _ ls _ hC.1 D (xtys dA) _ i (b + i) t (dA t) (vs.length, z) (xty t) hC.2.2.1 hP hg (xtys_get ht) this
theorem xin {n N : Nat} (hn : n < 2147483648) (h : n < N) : vp_in (nI n) N := by
  rintro (h1 | h1)
  · exact nI_pos hn h1
  · rw [nI_clamp hn] at h1
    omega
theorem xp_read (hC : xCtx b dA D M p s m args meth c A EX) (hr : xSnd al b ρ sa dA D M p l e s m args below meth c A Qc rec) {t i n : Nat} {vs : List xV} {j v : xV} (ht : t = 0 ∨ t = 1 ∨ t = 3) (hT : xRd (xMc M) (xMo M) pc nx (xty t)) (hj : xnm κ.2 j = (0, n)) (hn : n < 2147483648) (hK : K[i]? = some (.inl (t, vs))) (hv : vs[n]? = some v) (hk : xkdb 0 v = true) (h : rec nx lv (v :: st) K ce sl κ = some Ls) : xGood al b ρ sa dA D M p l e s m args below meth c A Qc pc lv (j :: (1, i) :: st) K ce sl κ Ls := by
  intro H locs ls hl hP hS hz hA0 hκ hQ
  have := hr _ _ _ _ _ _ _ _ h H locs ls hl hP hS hz hA0 hκ hQ
  rw [List.map_cons, xk0 hk] at this
  rw [List.map_cons, List.map_cons]
  have ej := (xnm_ok hκ (b := b) (sa := sa) j).1
  rw [hj] at ej
  rw [← ej]
  have hg := xcx_at (b := b) (ρ := ρ) (sa := sa) (dA := dA) hK
  rw [xce_arr ht] at hg
  refine hT p l e _ s m args below meth c H locs ce sl _ ls _ hC.1 D (xtys dA) _ i (b + i) t (dA t) vs.length _ (nI n) hC.2.2.1 hP hg (xtys_get (by omega)) (xin hn (List.getElem?_eq_some_iff.mp hv).1) ?_
  rw [nI_clamp hn, List.getD_eq_getElem?_getD, hv]
  exact this
theorem xp_readz (hC : xCtx b dA D M p s m args meth c A EX) (hr : xSnd al b ρ sa dA D M p l e s m args below meth c A Qc rec) {t i k : Nat} {vs : List xV} {j : xV} (ht : t = 0 ∨ t = 1 ∨ t = 3) (hT : xRd (xMc M) (xMo M) pc nx (xty t)) (hj : xnm κ.2 j = (3, k)) (hk : xin0 κ.2 k = true) (hK : K[i]? = some (.inl (t, vs))) (hv : xzs 1000 vs = true) (h : rec nx lv ((0, 0) :: st) K ce sl κ = some Ls) : xGood al b ρ sa dA D M p l e s m args below meth c A Qc pc lv (j :: (1, i) :: st) K ce sl κ Ls := by
  intro H locs ls hl hP hS hz hA0 hκ hQ
  have := hr _ _ _ _ _ _ _ _ h H locs ls hl hP hS hz hA0 hκ hQ
  rw [List.map_cons] at this
  rw [List.map_cons, List.map_cons]
  have ej := (xnm_ok hκ (b := b) (sa := sa) j).1
  rw [hj] at ej
  obtain ⟨n, hn, en⟩ := xin0_ok hκ hk
  have ej2 : xdv b ρ sa j = .int (nI n) := by
    rw [← ej, ← en]
    rfl
  rw [ej2]
  have hvn := xzs_ok hv n hn
  have hg := xcx_at (b := b) (ρ := ρ) (sa := sa) (dA := dA) hK
  rw [xce_arr ht] at hg
  refine hT p l e _ s m args below meth c H locs ce sl _ ls _ hC.1 D (xtys dA) _ i (b + i) t (dA t) vs.length _ (nI n) hC.2.2.1 hP hg (xtys_get (by omega)) (xin (by omega) (List.getElem?_eq_some_iff.mp hvn).1) ?_
  rw [nI_clamp (by omega), List.getD_eq_getElem?_getD, hvn]
  exact this
theorem xp_readr (hC : xCtx b dA D M p s m args meth c A EX) (hr : xSnd al b ρ sa dA D M p l e s m args below meth c A Qc rec) {i n q : Nat} {vs : List xV} {j : xV} (hT : xRr (xMc M) (xMo M) pc nx) (hj : xnm κ.2 j = (0, n)) (hn : n < 2147483648) (hK : K[i]? = some (.inl (4, vs))) (hv : vs[n]? = some (1, q)) (h : rec nx lv ((1, q) :: st) K ce sl κ = some Ls) : xGood al b ρ sa dA D M p l e s m args below meth c A Qc pc lv (j :: (1, i) :: st) K ce sl κ Ls := by
  intro H locs ls hl hP hS hz hA0 hκ hQ
  have := hr _ _ _ _ _ _ _ _ h H locs ls hl hP hS hz hA0 hκ hQ
  rw [List.map_cons] at this
  rw [List.map_cons, List.map_cons]
  have ej := (xnm_ok hκ (b := b) (sa := sa) j).1
  rw [hj] at ej
  rw [← ej]
  have hg := xcx_at (b := b) (ρ := ρ) (sa := sa) (dA := dA) hK
  refine hT p l e _ s m args below meth c H locs ce sl _ ls _ hC.1 D (xtys dA) _ i (b + i) 4 (dA 4) vs.length _ (nI n) hC.2.2.1 hP hg rfl (xin hn (List.getElem?_eq_some_iff.mp hv).1) ?_
  rw [nI_clamp hn, List.getD_eq_getElem?_getD, hv]
  exact this
theorem xupd {ρ : Nat → Int32} {vs : List xV} {n : Nat} (h : n < vs.length) (v : xV) : upd (fun j => xdi ρ (vs.getD j (0, 0))) n (xdi ρ v) = fun j => xdi ρ ((vs.set n v).getD j (0, 0)) := by
  funext j
  simp only [upd]
  by_cases e : j = n
  · subst e
    rw [if_pos rfl, List.getD_eq_getElem?_getD, List.getElem?_set_self h]
    rfl
  · rw [if_neg e, List.getD_eq_getElem?_getD, List.getD_eq_getElem?_getD, List.getElem?_set_ne (Ne.symm e)]
theorem xp_write (hC : xCtx b dA D M p s m args meth c A EX) (hr : xSnd al b ρ sa dA D M p l e s m args below meth c A Qc rec) {t i n : Nat} {vs : List xV} {j v : xV} (ht : t = 0 ∨ t = 1 ∨ t = 3) (hT : xWr (xMc M) (xMo M) pc nx (xty t)) (hj : xnm κ.2 j = (0, n)) (hn : n < 2147483648) (hK : K[i]? = some (.inl (t, vs))) (hl2 : n < vs.length) (hk : xkdb 0 v = true) (hnar : vp_nar (xty t) (xdi ρ v) = xdi ρ v) (h : rec nx lv st (K.set i (.inl (t, vs.set n v))) ce sl κ = some Ls) : xGood al b ρ sa dA D M p l e s m args below meth c A Qc pc lv (v :: j :: (1, i) :: st) K ce sl κ Ls := by
  intro H locs ls hl hP hS hz hA0 hκ hQ
  rw [List.map_cons, List.map_cons, List.map_cons, xk0 hk]
  have ej := (xnm_ok hκ (b := b) (sa := sa) j).1
  rw [hj] at ej
  rw [← ej]
  have hg := xcx_at (b := b) (ρ := ρ) (sa := sa) (dA := dA) hK
  rw [xce_arr ht] at hg
  refine hT p l e _ s m args below meth c H locs ce sl _ ls _ hC.1 D (xtys dA) _ i (b + i) A s.heap t (dA t) vs.length _ (nI n) _ hC.2.2.1 hP (xcx_D hA0) hS hg (xtys_get (by omega)) (xin hn hl2) (fun H1 locs1 hP1 _ hS1 z1 => ?_)
  rw [hnar, nI_clamp hn, xupd hl2] at hP1
  have e1 : (Sum.inl (dA t, vs.length, .inl (fun j => xdi ρ ((vs.set n v).getD j (0, 0)))) : va_E) = xce b ρ sa dA (.inl (t, vs.set n v)) := by
    rw [xce_arr ht, List.length_set]
  rw [e1, xcx_put] at hP1
  exact hr _ _ _ _ _ _ _ _ h H1 locs1 ls hl hP1 hS1 (fun q => by rw [List.length_set, ← hz q]; exact z1) (fun j hj => hA0 j (by rw [List.length_set] at hj; exact hj)) hκ hQ
theorem xdz {v : xV} (h : (Nat.beq v.1 0 || (Nat.beq v.1 2 || Nat.beq v.1 4)) = true) : xdv 0 (fun _ => 0) (fun _ => 0) v = xdv b ρ sa v := by
  match v, h with
  | (0, _), _ | (2, _), _ | (4, _), _ => rfl
  | (1, _), h | (3, _), h | (5, _), h | (6, _), h | (7, _), h => cases h
  | (n + 8, _), h => cases h
theorem xp_new (hC : xCtx b dA D M p s m args meth c A EX) (hr : xSnd al b ρ sa dA D M p l e s m args below meth c A Qc rec) {ci N : Nat} {fs : List xV} (hT : xNw (xMc M) (xMo M) pc nx ci N (fs.map (xdv 0 (fun _ => 0) (fun _ => 0)))) (hal : al = true) (hce : ce < (xMm M).cells) (hsl : sl + N ≤ (xMm M).slots) (hfs : fs.all (fun q => Nat.beq q.1 0 || (Nat.beq q.1 2 || Nat.beq q.1 4)) = true) (h : rec nx lv ((1, K.length) :: st) (K ++ [.inr (ci, fs)]) (ce + 1) (sl + N) κ = some Ls) : xGood al b ρ sa dA D M p l e s m args below meth c A Qc pc lv st K ce sl κ Ls := by
  intro H locs ls hl hP hS hz hA0 hκ hQ
  refine hT p l e _ s m args below meth c H locs ce sl _ ls _ hC.1 D (xtys dA) _ A s.heap hC.2.2.1 hP hS hce hsl (fun H1 hP1 hS1 z1 => ?_)
  have e0 : fs.map (xdv 0 (fun _ => 0) (fun _ => 0)) = fs.map (xdv b ρ sa) := List.map_congr_left (fun v hv => xdz (List.all_eq_true.mp hfs v hv))
  rw [e0, hz hal, show b + K.length = b + (0 + K.length) by omega] at hP1
  have e1 : (Sum.inr (ci, fs.map (xdv b ρ sa)) : va_E) = xce b ρ sa dA (.inr (ci, fs)) := rfl
  rw [e1, ← xcx_push] at hP1
  have := hr _ _ _ _ _ _ _ _ h H1 locs ls hl hP1 hS1 (fun q => by rw [List.length_append, z1, hz q]; rfl) (fun j hj => by
    rw [List.length_append] at hj
    by_cases hj2 : j < K.length
    · exact hA0 j hj2
    · refine hC.2.2.2.1 _ ?_
      have e2 : j = K.length := by simp at hj; omega
      rw [e2, ← hz hal]
      exact hS.1) hκ hQ
  rw [List.map_cons] at this
  rw [hz hal]
  exact this
theorem xp_newa (hC : xCtx b dA D M p s m args meth c A EX) (hr : xSnd al b ρ sa dA D M p l e s m args below meth c A Qc rec) {t n : Nat} (ht : t < 4) (hT : xNa (xMc M) (xMo M) pc nx (xty t)) (hal : al = true) (hce : ce < (xMm M).cells) (hsl : sl + n ≤ (xMm M).slots) (hn : n < 67108864) (h : rec nx lv ((1, K.length) :: st) (K ++ [.inl (t, List.replicate n (xzero t))]) (ce + 1) (sl + n) κ = some Ls) : xGood al b ρ sa dA D M p l e s m args below meth c A Qc pc lv ((0, n) :: st) K ce sl κ Ls := by
  intro H locs ls hl hP hS hz hA0 hκ hQ
  rw [List.map_cons]
  obtain ⟨-, hRA⟩ := hC.2.2.1.2 t _ (xtys_get (by omega))
  have hfc : s.vm.findClass ("[" ++ (xty t).toString) = some (dA t) := by
    match t, ht, hRA with
    | 0, _, h | 1, _, h | 2, _, h | 3, _, h => exact h
  obtain ⟨z, hz2⟩ : ∃ z : vp_A, xce b ρ sa dA (.inl (t, List.replicate n (xzero t))) = .inl (dA t, z) ∧ vp_cell (dA t) z = arrV (dA t) n (fun _ => defaultValue (xty t)) := by
    match t, ht with
    | 0, _ | 1, _ | 3, _ =>
      refine ⟨_, rfl, ?_⟩
      rw [vp_cell_i, List.length_replicate]
      congr 1
      funext j
      simp [List.getD_eq_getElem?_getD, List.getElem?_replicate, xzero, defaultValue, xty]
      split <;> rfl
    | 2, _ =>
      refine ⟨_, rfl, ?_⟩
      rw [vp_cell_l, List.length_replicate]
      congr 1
      funext j
      simp [List.getD_eq_getElem?_getD, List.getElem?_replicate, xzero, defaultValue, xty]
      split <;> rfl
  refine hT p l e _ s m args below meth c H locs ce sl _ ls _ hC.1 D (xtys dA) _ A s.heap (nI n) n z (dA t) hC.2.2.1 hP hS hfc hz2.2 (nI_pos (by omega)) (nI_clamp (by omega)) (by
    have hb : componentBytes (xty t) ≤ 8 := by
      match t, ht with
      | 0, _ | 1, _ | 2, _ | 3, _ => decide
    calc n * componentBytes (xty t) ≤ 67108864 * 8 := Nat.mul_le_mul (by omega) hb
      _ ≤ 536870912 := by decide) hce hsl (fun H1 hP1 hS1 z1 => ?_)
  rw [← hz2.1, hz hal, show b + K.length = b + (0 + K.length) by omega, ← xcx_push] at hP1
  have := hr _ _ _ _ _ _ _ _ h H1 locs ls hl hP1 hS1 (fun q => by rw [List.length_append, z1, hz q]; rfl) (fun j hj => by
    rw [List.length_append] at hj
    by_cases hj2 : j < K.length
    · exact hA0 j hj2
    · refine hC.2.2.2.1 _ ?_
      have e2 : j = K.length := by simp at hj; omega
      rw [e2, ← hz hal]
      exact hS.1) hκ hQ
  rw [List.map_cons] at this
  rw [hz hal]
  exact this
theorem xp_oinit (hC : xCtx b dA D M p s m args meth c A EX) (hr : xSnd al b ρ sa dA D M p l e s m args below meth c A Qc rec) {i : Nat} (hT : xOi (xMc M) (xMo M) pc nx) (hf : 1 ≤ (xMm M).frames) (hlo : xsum st + 12 ≤ (xMm M).locals) (h : rec nx lv st K ce sl κ = some Ls) : xGood al b ρ sa dA D M p l e s m args below meth c A Qc pc lv ((1, i) :: st) K ce sl κ Ls := by
  intro H locs ls hl hP hS hz hA0 hκ hQ
  have := hr _ _ _ _ _ _ _ _ h H locs ls hl hP hS hz hA0 hκ hQ
  rw [List.map_cons]
  exact hT p l e _ s m args below meth c H locs ce sl _ ls _ hC.1 (b + i) (by rw [hC.2.1, hl.1]) hf (by rw [xsum_ok]; exact hlo) this
theorem xp_copy (hC : xCtx b dA D M p s m args meth c A EX) (hr : xSnd al b ρ sa dA D M p l e s m args below meth c A Qc rec) {d0 s0 sp dp n : Nat} {vs ws : List xV} (hT : xCp (xMc M) (xMo M) pc nx) (hKs : K[s0]? = some (.inl (0, vs))) (hKd : K[d0]? = some (.inl (0, ws))) (h1 : sp + n ≤ vs.length) (h2 : dp + n ≤ ws.length) (h3 : sp + n < 2147483648) (h4 : dp + n < 2147483648) (hf : 1 ≤ (xMm M).frames) (hlo : xsum st + (nativeFrameWords "java/lang/System" "arraycopy" 5 + 11) ≤ (xMm M).locals) (h : rec nx lv st (K.set d0 (.inl (0, ws.take dp ++ ((vs.drop sp).take n ++ ws.drop (dp + n))))) ce sl κ = some Ls) : xGood al b ρ sa dA D M p l e s m args below meth c A Qc pc lv ((0, n) :: (0, dp) :: (1, d0) :: (0, sp) :: (1, s0) :: st) K ce sl κ Ls := by
  intro H locs ls hl hP hS hz hA0 hκ hQ
  simp only [List.map_cons]
  have hg0 := xcx_at (b := b) (ρ := ρ) (sa := sa) (dA := dA) hKs
  have hg1 := xcx_at (b := b) (ρ := ρ) (sa := sa) (dA := dA) hKd
  rw [xce_arr (Or.inl rfl)] at hg0 hg1
  refine hT p l e _ s m args below meth c H locs ce sl _ ls _ hC.1 D (xtys dA) _ A s.heap s0 d0 (b + s0) (b + d0) 0 (dA 0) vs.length ws.length _ _ (nI sp) (nI dp) (nI n) (by rw [hC.2.1, hl.1]) hC.2.2.1 hP (xcx_D hA0) hS hg0 hg1 rfl (nI_pos (by omega)) (nI_pos (by omega)) (nI_pos (by omega)) (by rw [nI_clamp (by omega), nI_clamp (by omega)]; exact h1) (by rw [nI_clamp (by omega), nI_clamp (by omega)]; exact h2) hf (by rw [xsum_ok]; exact hlo) (fun H1 locs1 hP1 hS1 z1 => ?_)
  rw [nI_clamp (by omega), nI_clamp (by omega), nI_clamp (by omega)] at hP1
  have e1 : (Sum.inl (dA 0, ws.length, .inl (va_cpy (fun j => xdi ρ (vs.getD j (0, 0))) (fun j => xdi ρ (ws.getD j (0, 0))) sp dp n)) : va_E) = xce b ρ sa dA (.inl (0, ws.take dp ++ ((vs.drop sp).take n ++ ws.drop (dp + n)))) := by
    rw [xce_arr (Or.inl rfl)]
    have el : (ws.take dp ++ ((vs.drop sp).take n ++ ws.drop (dp + n))).length = ws.length := by
      simp only [List.length_append, List.length_take, List.length_drop]
      omega
    rw [el]
    congr 4
    funext j
    simp only [va_cpy, List.getD_eq_getElem?_getD]
    by_cases hj : dp ≤ j ∧ j < dp + n
    · rw [if_pos hj, List.getElem?_append_right (by rw [List.length_take]; omega), List.getElem?_append_left (by simp only [List.length_take, List.length_drop]; omega), List.getElem?_take_of_lt (by rw [List.length_take]; omega), List.getElem?_drop]
      rw [List.length_take, Nat.min_eq_left (by omega)]
    · rw [if_neg hj]
      by_cases hj2 : j < dp
      · rw [List.getElem?_append_left (by rw [List.length_take]; omega), List.getElem?_take_of_lt hj2]
      · rw [List.getElem?_append_right (by rw [List.length_take]; omega), List.getElem?_append_right (by simp only [List.length_take, List.length_drop]; omega), List.getElem?_drop]
        congr 3
        simp only [List.length_take, List.length_drop]
        omega
  rw [e1, xcx_put] at hP1
  exact hr _ _ _ _ _ _ _ _ h H1 locs1 ls hl hP1 hS1 (fun q => by rw [List.length_set, ← hz q]; exact z1) (fun j hj => hA0 j (by rw [List.length_set] at hj; exact hj)) hκ hQ
/-- any next state that is good -/
noncomputable def xcl (al : Bool) (b : Nat) (ρ : Nat → Int32) (sa : Nat → Nat) (dA : Nat → ClassId) (D : va_G) (M : xM) (p : Program) (l : Launch) (e : Env) (s : State) (m : MethodId) (args : Array Value) (below : List Frame) (meth : Method) (c : Code) (A : Nat → Prop) (Qc : Array Value → State → Outcome → State → Prop) (Ls : List xR) : xRec := fun pc lv st K ce sl κ => @ite (Option (List xR)) (xGood al b ρ sa dA D M p l e s m args below meth c A Qc pc lv st K ce sl κ Ls) (Classical.propDecidable _) (some Ls) none
theorem xcl_ok : xSnd al b ρ sa dA D M p l e s m args below meth c A Qc (xcl al b ρ sa dA D M p l e s m args below meth c A Qc Ls) := by
  intro pc lv st K ce sl κ L h
  simp only [xcl] at h
  split at h
  · next hg =>
    cases h
    exact hg
  · cases h
theorem xcl_in {pc : Nat} {lv : xL} {st : List xV} {K : xH} {ce sl : Nat} {κ : xK} (h : xGood al b ρ sa dA D M p l e s m args below meth c A Qc pc lv st K ce sl κ Ls) : xcl al b ρ sa dA D M p l e s m args below meth c A Qc Ls pc lv st K ce sl κ = some Ls := if_pos h
theorem xadd0 (i : Nat) : fbin 0 (nI 0) (nI i) = nI i := by
  show nI 0 + nI i = nI i
  rw [show nI 0 = 0 from by decide +kernel, Int32.zero_add]
/-- a turn of the loop -/
theorem xp_turn (hC : xCtx b dA D M p s m args meth c A EX) (hok : ∀ q ∈ xlops, xok mt M q.1 q.2) (hM2 : 2 < xMl M) {o k : Nat} {fs : List xV} (hK : K[o]? = some (.inr (12, fs))) {a1 a2 a3 : Nat} {vs1 vs2 vs3 : List xV} (hf1 : fs[53]? = some (1, a1)) (hf2 : fs[54]? = some (1, a2)) (hf3 : fs[3]? = some (1, a3)) (hK1 : K[a1]? = some (.inl (0, vs1))) (hK2 : K[a2]? = some (.inl (0, vs2))) (hK3 : K[a3]? = some (.inl (0, vs3))) (hv3 : vs3[2]? = some (0, 0)) {i : Nat} (hi : i < 1000) (hv1 : vs1[i]? = some (0, 0)) (hv2 : vs2[i]? = some (0, 0))
    (hnext : xGood al b ρ sa dA D M p l e s m args below meth c A Qc 6 [(2, (0, i + 1)), (0, (1, o)), (1, (3, k))] [] K ce sl κ Ls) : xGood al b ρ sa dA D M p l e s m args below meth c A Qc 11 [(2, (0, i)), (0, (1, o)), (1, (3, k))] [] K ce sl κ Ls := by
  have r11 := hok (11, (2, 12, 1, 0, [])) (by decide)
  have r12 := hok (12, (16, 15, 12, 53, [])) (by decide)
  have r15 := hok (15, (0, 18, 1000, 0, [])) (by decide)
  have r18 := hok (18, (2, 19, 1, 0, [])) (by decide)
  have r19 := hok (19, (16, 22, 12, 3, [])) (by decide)
  have r22 := hok (22, (0, 23, 2, 0, [])) (by decide)
  have r23 := hok (23, (19, 24, 0, 0, [])) (by decide)
  have r24 := hok (24, (5, 25, 2, 0, [])) (by decide)
  have r25 := hok (25, (2, 26, 0, 2, [])) (by decide)
  have r26 := hok (26, (5, 27, 0, 0, [])) (by decide)
  have r27 := hok (27, (0, 28, 0, 0, [])) (by decide)
  have r28 := hok (28, (21, 29, 0, 0, [])) (by decide)
  have r29 := hok (29, (2, 30, 1, 0, [])) (by decide)
  have r30 := hok (30, (16, 33, 12, 54, [])) (by decide)
  have r33 := hok (33, (0, 36, 1000, 0, [])) (by decide)
  have r36 := hok (36, (2, 37, 1, 0, [])) (by decide)
  have r37 := hok (37, (16, 40, 12, 3, [])) (by decide)
  have r40 := hok (40, (0, 41, 2, 0, [])) (by decide)
  have r41 := hok (41, (19, 42, 0, 0, [])) (by decide)
  have r42 := hok (42, (5, 43, 2, 0, [])) (by decide)
  have r43 := hok (43, (2, 44, 0, 2, [])) (by decide)
  have r44 := hok (44, (5, 45, 0, 0, [])) (by decide)
  have r45 := hok (45, (0, 46, 0, 0, [])) (by decide)
  have r46 := hok (46, (21, 47, 0, 0, [])) (by decide)
  have r47 := hok (47, (4, 50, 2, 1, [])) (by decide)
  have r50 := hok (50, (14, 6, 0, 0, [])) (by decide)
  have hm : fbin 2 (nI 1000) (nI 0) = nI 0 := by decide +kernel
  have hl1 := (List.getElem?_eq_some_iff.mp hv1).1
  have hl2 := (List.getElem?_eq_some_iff.mp hv2).1
  refine xp_load hC xcl_ok r11.1 r11.2 (v := (1, o)) rfl rfl (xcl_in ?_)
  refine xp_getf hC xcl_ok r12 hK hf1 (xcl_in ?_)
  refine xp_T hC xcl_ok (st0 := []) (st1 := [(0, 1000)]) r15 (xcl_in ?_)
  refine xp_load hC xcl_ok r18.1 r18.2 (v := (1, o)) rfl rfl (xcl_in ?_)
  refine xp_getf hC xcl_ok r19 hK hf3 (xcl_in ?_)
  refine xp_T hC xcl_ok (st0 := []) (st1 := [(0, 2)]) r22 (xcl_in ?_)
  refine xp_read hC xcl_ok (n := 2) (v := (0, 0)) r23.1 r23.2 rfl (by decide) hK3 hv3 rfl (xcl_in ?_)
  refine xp_bin hC xcl_ok (w := (0, 0)) r24 (fun _ => ⟨rfl, rfl, congrArg Value.int hm.symm, fun z => by rcases z with z | z <;> cases z⟩) (xcl_in ?_)
  refine xp_load hC xcl_ok r25.1 r25.2 (v := (0, i)) rfl rfl (xcl_in ?_)
  refine xp_bin hC xcl_ok (w := (0, i)) r26 (fun _ => ⟨rfl, rfl, congrArg Value.int (xadd0 i).symm, fun z => by rcases z with z | z <;> cases z⟩) (xcl_in ?_)
  refine xp_T hC xcl_ok (st0 := []) (st1 := [(0, 0)]) r27 (xcl_in ?_)
  refine xp_write hC xcl_ok (n := i) (v := (0, 0)) (Or.inl rfl) r28 rfl (by omega) hK1 hl1 rfl rfl (xcl_in ?_)
  rw [xset_same hK1 hv1]
  refine xp_load hC xcl_ok r29.1 r29.2 (v := (1, o)) rfl rfl (xcl_in ?_)
  refine xp_getf hC xcl_ok r30 hK hf2 (xcl_in ?_)
  refine xp_T hC xcl_ok (st0 := []) (st1 := [(0, 1000)]) r33 (xcl_in ?_)
  refine xp_load hC xcl_ok r36.1 r36.2 (v := (1, o)) rfl rfl (xcl_in ?_)
  refine xp_getf hC xcl_ok r37 hK hf3 (xcl_in ?_)
  refine xp_T hC xcl_ok (st0 := []) (st1 := [(0, 2)]) r40 (xcl_in ?_)
  refine xp_read hC xcl_ok (n := 2) (v := (0, 0)) r41.1 r41.2 rfl (by decide) hK3 hv3 rfl (xcl_in ?_)
  refine xp_bin hC xcl_ok (w := (0, 0)) r42 (fun _ => ⟨rfl, rfl, congrArg Value.int hm.symm, fun z => by rcases z with z | z <;> cases z⟩) (xcl_in ?_)
  refine xp_load hC xcl_ok r43.1 r43.2 (v := (0, i)) rfl rfl (xcl_in ?_)
  refine xp_bin hC xcl_ok (w := (0, i)) r44 (fun _ => ⟨rfl, rfl, congrArg Value.int (xadd0 i).symm, fun z => by rcases z with z | z <;> cases z⟩) (xcl_in ?_)
  refine xp_T hC xcl_ok (st0 := []) (st1 := [(0, 0)]) r45 (xcl_in ?_)
  refine xp_write hC xcl_ok (n := i) (v := (0, 0)) (Or.inl rfl) r46 rfl (by omega) hK2 hl2 rfl rfl (xcl_in ?_)
  rw [xset_same hK2 hv2]
  refine xp_iinc hC xcl_ok (x := i) (n := 1) r47 rfl hM2 (xcl_in ?_)
  rw [Nat.mod_eq_of_lt (show i + 1 < 4294967296 by omega)]
  exact xp_T hC xcl_ok (st0 := []) (st1 := []) r50 (xcl_in hnext)
theorem xp_clear (hC : xCtx b dA D M p s m args meth c A EX) (hok : ∀ q ∈ xlops, xok mt M q.1 q.2) (hM2 : 2 < xMl M) {o k : Nat} {fs : List xV} (hK : K[o]? = some (.inr (12, fs))) (hx : xin0 κ.2 k = true) (h1 : xzf K fs 53 1000 = true) (h2 : xzf K fs 54 1000 = true) (h3 : xzf K fs 3 3 = true)
    (hend : xGood al b ρ sa dA D M p l e s m args below meth c A Qc 53 [(0, (1, o)), (1, (3, k))] [] K ce sl κ Ls) : ∀ (d i : Nat), i + d = 1000 → xGood al b ρ sa dA D M p l e s m args below meth c A Qc 6 [(2, (0, i)), (0, (1, o)), (1, (3, k))] [] K ce sl κ Ls := by
  obtain ⟨a1, vs1, hf1, hK1, hv1⟩ := xzf_ok h1
  obtain ⟨a2, vs2, hf2, hK2, hv2⟩ := xzf_ok h2
  obtain ⟨a3, vs3, hf3, hK3, hv3⟩ := xzf_ok h3
  have r6 := hok (6, (2, 7, 0, 2, [])) (by decide)
  have r7 := hok (7, (2, 8, 0, 1, [])) (by decide)
  have r8 := hok (8, (13, 11, 53, 4, [])) (by decide)
  intro d
  induction d with
  | zero =>
    intro i hid H locs ls hl hP hS hz hA0 hκ hQ
    obtain ⟨n, hn, en⟩ := xin0_ok hκ hx
    refine r6.2 p l e _ s m args below meth c H locs ce sl _ ls _ hC.1 (.int (nI i)) ⟨_, rfl⟩ (hl.2.2 (2, .int (nI i)) List.mem_cons_self) ?_
    refine r7.2 p l e _ s m args below meth c H locs ce sl _ ls _ hC.1 (.int (ρ k)) ⟨_, rfl⟩ (hl.2.2 (1, .int (ρ k)) (List.mem_cons_of_mem _ (List.mem_cons_of_mem _ List.mem_cons_self))) ?_
    refine r8 p l e _ s m args below meth c H locs ce sl _ ls _ hC.1 _ _ (fun hc => ?_) (fun hc => ?_)
    · exact hend H locs ls ⟨hl.1, hl.2.1, fun q hq => hl.2.2 q (List.mem_cons_of_mem _ hq)⟩ hP hS hz hA0 hκ hQ
    · refine absurd ?_ hc
      show ρ k < nI i
      rw [sgI_ltI, en, sgI_nI (by omega), sgI_nI (by omega)]
      simp only [xsg]
      omega
  | succ d ih =>
    intro i hid H locs ls hl hP hS hz hA0 hκ hQ
    refine r6.2 p l e _ s m args below meth c H locs ce sl _ ls _ hC.1 (.int (nI i)) ⟨_, rfl⟩ (hl.2.2 (2, .int (nI i)) List.mem_cons_self) ?_
    refine r7.2 p l e _ s m args below meth c H locs ce sl _ ls _ hC.1 (.int (ρ k)) ⟨_, rfl⟩ (hl.2.2 (1, .int (ρ k)) (List.mem_cons_of_mem _ (List.mem_cons_of_mem _ List.mem_cons_self))) ?_
    refine r8 p l e _ s m args below meth c H locs ce sl _ ls _ hC.1 _ _ (fun hc => ?_) (fun hc => ?_)
    · exact hend H locs ls ⟨hl.1, hl.2.1, fun q hq => hl.2.2 q (List.mem_cons_of_mem _ hq)⟩ hP hS hz hA0 hκ hQ
    · exact xp_turn hC hok hM2 hK hf1 hf2 hf3 hK1 hK2 hK3 (hv3 2 (by decide)) (by omega) (hv1 i (by omega)) (hv2 i (by omega)) (ih (i + 1) (by omega)) H locs ls hl hP hS hz hA0 hκ hQ
end XC
