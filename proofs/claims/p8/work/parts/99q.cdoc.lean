/-! A DOCUMENT: taverns, voices, verses, bakers, purse, seed, formulas (from, to), knots counted, knots -/
abbrev dFs : Type := (Nat → Int × Int) × Nat × sK
abbrev dDc : Type := dTv × dVo × dVe × dBk × (Bool × Int) × (Bool × Int) × dFs
def cFs (m : yMem) (fs : dFs) : Prop := (∀ j, j < 5 → w32 (m 51 j) = (fs.1 j).1 ∧ w32 (m 52 j) = (fs.1 j).2) ∧ FoS m fs.2.1 fs.2.2
def cDc (m : yMem) (D : dDc) : Prop := cTv m D.1 ∧ cVo m D.2.1 ∧ cVe m D.2.2.1 ∧ cBk m D.2.2.2.1 ∧ (w32 (m 54 2) = (if D.2.2.2.2.1.1 then 1 else 0) ∧ w32 (m 28 17) = D.2.2.2.2.1.2) ∧ (w32 (m 54 3) = (if D.2.2.2.2.2.1.1 then 1 else 0) ∧ w32 (m 28 18) = D.2.2.2.2.2.1.2) ∧ cFs m D.2.2.2.2.2.2
/-- a formula more -/
def dFu (fs : dFs) (f : Nat) (u : sU) : dFs := (fun j => if j = f then ((fs.2.2.length : Int), (u.2.2.2.length : Int)) else fs.1 j, u.2.1, u.2.2.2)
def dFx (fs : dFs) (f : Nat) (x : sX) : dFs := match x with
  | .inl _ => fs
  | .inr u => dFu fs f u
def tlF (fs : dFs) (f : Nat) : Bool := decide ((fs.1 f).1 < (fs.1 f).2)
/-- a LINE ahead of its ';' -/
def pLine (x : sY) (D : dDc) : sY × dDc :=
  if yKd x = 17 then ((pTv D.1 x).1, (D.1 ++ [(pTv D.1 x).2], D.2))
  else if yKd x = 18 then ((pVo (D.1.map (fun t => t.1)) D.2.1 x).1, (D.1, D.2.1 ++ [(pVo (D.1.map (fun t => t.1)) D.2.1 x).2], D.2.2))
  else if yKd x = 19 then ((pVe D.2.2.1 x).1, (D.1, D.2.1, D.2.2.1 ++ [(pVe D.2.2.1 x).2], D.2.2.2))
  else if yKd x = 20 then (yOf (pBk D.2.2.2.1 D.2.2.2.2.2.2.2.1 D.2.2.2.2.2.2.2.2 x).1, (D.1, D.2.1, D.2.2.1, D.2.2.2.1 ++ [(pBk D.2.2.2.1 D.2.2.2.2.2.2.2.1 D.2.2.2.2.2.2.2.2 x).2], D.2.2.2.2.1, D.2.2.2.2.2.1, dFx D.2.2.2.2.2.2 (2 + D.2.2.2.1.length) (pBk D.2.2.2.1 D.2.2.2.2.2.2.2.1 D.2.2.2.2.2.2.2.2 x).1))
  else if yKd x = 21 then ((pLn D.2.2.2.2.1.1 999 x).2, (D.1, D.2.1, D.2.2.1, D.2.2.2.1, (true, (pLn D.2.2.2.2.1.1 999 x).1), D.2.2.2.2.2))
  else if yKd x = 22 then ((pLn D.2.2.2.2.2.1.1 99999 x).2, (D.1, D.2.1, D.2.2.1, D.2.2.2.1, D.2.2.2.2.1, (true, (pLn D.2.2.2.2.2.1.1 99999 x).1), D.2.2.2.2.2.2))
  else if yKd x = 23 then (yOf (pLw (tlF D.2.2.2.2.2.2) D.2.2.2.2.2.2.2.1 D.2.2.2.2.2.2.2.2 x).1, (D.1, D.2.1, D.2.2.1, D.2.2.2.1, D.2.2.2.2.1, D.2.2.2.2.2.1, dFx D.2.2.2.2.2.2 (pLw (tlF D.2.2.2.2.2.2) D.2.2.2.2.2.2.2.1 D.2.2.2.2.2.2.2.2 x).2 (pLw (tlF D.2.2.2.2.2.2) D.2.2.2.2.2.2.2.1 D.2.2.2.2.2.2.2.2 x).1))
  else (yFl 1 x, D)
/-- a TEXT: LINES, each with its ';' -/
def pTx : Nat → sY → dDc → Int → sY × dDc × Int
  | 0, x, D, k => (x, D, k)
  | f + 1, x, D, k => if yKd x = 0 then (x, D, k) else if yKd (pLine x D).1 = 4 then pTx f (yNx (pLine x D).1) (pLine x D).2 (k + 1) else pTx f (yFl 1 (pLine x D).1) (pLine x D).2 k
/-! how many tokens are left -/
def ySz (x : sY) : Nat := match x with
  | .inl _ => 0
  | .inr l => l.length
theorem ySz_nx (x : sY) : ySz (yNx x) ≤ ySz x := by
  cases x with
  | inl e => exact Nat.le_refl _
  | inr l =>
    show (if _ then _ else _ : List sT).length ≤ l.length
    split
    · exact Nat.le_refl _
    · rw [List.length_tail]; omega
theorem ySz_nl {x : sY} (h : yKd x ≠ 0) : ySz (yNx x) + 1 ≤ ySz x := by
  cases x with
  | inl e => exact absurd rfl h
  | inr l =>
    show (if _ then _ else _ : List sT).length + 1 ≤ l.length
    rw [if_neg (show ¬ (sHd l).1 = 0 from h)]
    cases l with
    | nil => exact absurd rfl h
    | cons t r => exact Nat.le_refl _
theorem ySz_fl (f : Nat) (x : sY) : ySz (yFl f x) ≤ ySz x := by
  cases x with
  | inl e => exact Nat.le_refl _
  | inr l => exact Nat.zero_le _
theorem ySz_nm (a b : Int) (x : sY) : ySz (yNm a b x).2 ≤ ySz x := by
  unfold yNm
  split
  · split
    · exact ySz_fl _ _
    · exact ySz_nx _
  · exact ySz_fl _ _
theorem ySz_bg (nm : List Int) (mx : Nat) (x : sY) : ySz (yBg nm mx x).2 ≤ ySz x := by
  have h1 := ySz_nx x
  have h2 := ySz_nx (yNx x)
  have h3 := fun f => ySz_fl f (yNx x)
  unfold yBg
  split
  · exact ySz_fl _ _
  · split
    · exact Nat.le_trans (h3 1) h1
    · split
      · exact Nat.le_trans (h3 3) h1
      · exact Nat.le_trans h2 h1
theorem ySz_tt (nm : List Int) (x : sY) : ySz (yTt nm x).2 ≤ ySz x := by
  unfold yTt
  split
  · split
    · exact ySz_fl _ _
    · exact ySz_nx _
  · exact ySz_fl _ _
theorem ySz_tv (t : dTv) (x : sY) : ySz (pTv t x).1 ≤ ySz x := by
  have h1 := ySz_bg (t.map (fun t => t.1)) 3 x
  unfold pTv
  split
  · exact h1
  · exact Nat.le_trans (ySz_nm _ _ _) (Nat.le_trans (ySz_nm _ _ _) h1)
theorem ySz_v1 (x : sY) : ySz (pV1 x).1 ≤ ySz x := by
  unfold pV1
  split
  · exact ySz_nx _
  · exact Nat.le_refl _
theorem ySz_v2 (nm : List Int) (x : sY) : ySz (pV2 nm x).1 ≤ ySz x := by
  unfold pV2
  split
  · exact Nat.le_trans (ySz_nm _ _ _) (Nat.le_trans (ySz_tt _ _) (ySz_nx _))
  · exact Nat.le_refl _
theorem ySz_v3 (x : sY) : ySz (pV3 x).1 ≤ ySz x := by
  unfold pV3
  split
  · exact Nat.le_trans (ySz_nm _ _ _) (ySz_nx _)
  · exact Nat.le_refl _
theorem ySz_vo (tn : List Int) (vo : dVo) (x : sY) : ySz (pVo tn vo x).1 ≤ ySz x := by
  have h1 := ySz_bg (vo.map (fun t => t.1)) 6 x
  unfold pVo
  split
  · exact h1
  · exact Nat.le_trans (ySz_v3 _) (Nat.le_trans (ySz_v2 _ _) (Nat.le_trans (ySz_v1 _) (Nat.le_trans (ySz_nm _ _ _) (Nat.le_trans (ySz_nm _ _ _) h1))))
theorem ySz_bars : ∀ (c : Nat) (x : sY), ySz (pBars c x).2 ≤ ySz x
  | 0, x => Nat.le_refl _
  | 1, x => by
    show ySz (if _ then _ else _) ≤ _
    split
    · exact Nat.le_trans (ySz_fl _ _) (ySz_nm _ _ _)
    · exact ySz_nm _ _ _
  | c + 2, x => by
    show ySz (if _ then _ else _ : List Int × sY).2 ≤ _
    split
    · exact Nat.le_trans (ySz_bars (c + 1) _) (ySz_nm _ _ _)
    · exact ySz_nm _ _ _
theorem ySz_pt (x : sY) : ySz (pPt x).2 ≤ ySz x := by
  unfold pPt
  refine Nat.le_trans (ySz_bars 8 _) ?_
  split
  · exact ySz_nx _
  · exact ySz_fl _ _
theorem ySz_pts : ∀ (c : Nat) (x : sY), ySz (pPts c x).2 ≤ ySz x
  | 0, x => Nat.le_refl _
  | 1, x => by
    show ySz (if _ then _ else _) ≤ _
    split
    · exact Nat.le_trans (ySz_fl _ _) (ySz_pt _)
    · exact ySz_pt _
  | c + 2, x => by
    show ySz (if _ then _ else _ : List (List Int) × sY).2 ≤ _
    split
    · exact Nat.le_trans (ySz_pts (c + 1) _) (ySz_pt _)
    · exact ySz_pt _
theorem ySz_ve (ve : dVe) (x : sY) : ySz (pVe ve x).1 ≤ ySz x := by
  have h1 := ySz_bg (ve.map (fun t => t.1)) 4 x
  unfold pVe
  split
  · exact h1
  · exact Nat.le_trans (ySz_pts _ _) h1
theorem ySz_ln (t : Bool) (mx : Int) (x : sY) : ySz (pLn t mx x).2 ≤ ySz x := by
  unfold pLn
  split
  · exact ySz_fl _ _
  · exact Nat.le_trans (ySz_nm _ _ _) (ySz_nx _)
theorem tail_le (l : List sT) : l.tail.length ≤ l.length := by rw [List.length_tail]; omega
theorem inl_s {f p c : Nat} : ySz (yOf (Sum.inl (f, p) : sX)) ≤ c := Nat.zero_le _
theorem sKn_s {p c : Nat} {u : sU} {k : sU → sX} (h : ySz (yOf (k (u.1, u.2.1 + 1, u.2.2))) ≤ c) : ySz (yOf (sKn p u k)) ≤ c := by
  unfold sKn
  split
  · exact inl_s
  · exact h
theorem ySz_sy : ∀ (f : Nat) (v : Bool) (w : List Nat) (l : List sT) (cn op : Nat) (o : sK), ySz (yOf (sy f v w (l, cn, op, o))) ≤ l.length
  | 0, v, w, l, cn, op, o => Nat.zero_le _
  | f + 1, true, w, l, cn, op, o => by
    have ht := tail_le l
    rw [sy_t]
    split
    · split
      · exact inl_s
      · exact Nat.le_trans (ySz_sy f true _ l.tail _ _ _) ht
    · split
      · exact sKn_s (Nat.le_trans (ySz_sy f true _ l.tail _ _ _) ht)
      · split
        · exact inl_s
        · split
          · exact inl_s
          · exact sKn_s (Nat.le_trans (ySz_sy f false _ l.tail _ _ _) ht)
  | f + 1, false, w, l, cn, op, o => by
    have ht := tail_le l
    rw [sy_f]
    split
    · exact Nat.le_trans (ySz_sy f false _ l.tail _ _ _) ht
    · split
      · split
        · exact inl_s
        · exact Nat.le_refl _
      · split
        · split
          · exact inl_s
          · exact sKn_s (Nat.le_trans (ySz_sy f true _ l.tail _ _ _) ht)
        · exact sKn_s (Nat.le_trans (ySz_sy f true _ l.tail _ _ _) ht)
theorem ySz_pE (y : sY) (cn : Nat) (o : sK) : ySz (yOf (pE y cn o)) ≤ ySz y := by
  cases y with
  | inl e => exact Nat.le_refl _
  | inr l => exact ySz_sy _ _ _ _ _ _ _
theorem ySz_xf (f : Nat) (y : sY) : ySz (yOf (xFl f y)) ≤ ySz y := by rw [yOf_fl]; exact ySz_fl _ _
theorem ySz_l1 (tl : Bool) (cn : Nat) (o : sK) (y : sY) : ySz (yOf (pL1 tl cn o y)) ≤ ySz y := by
  unfold pL1
  split
  · exact ySz_xf _ _
  · exact Nat.le_trans (ySz_pE _ _ _) (ySz_nx _)
theorem ySz_lw (tl : Nat → Bool) (cn : Nat) (o : sK) (x : sY) : ySz (yOf (pLw tl cn o x).1) ≤ ySz x := by
  unfold pLw
  split
  · exact Nat.le_trans (ySz_l1 _ _ _ _) (ySz_nx _)
  · split
    · exact Nat.le_trans (ySz_l1 _ _ _ _) (ySz_nx _)
    · exact Nat.le_trans (ySz_xf _ _) (ySz_nx _)
theorem ySz_bk (bk : dBk) (cn : Nat) (o : sK) (x : sY) : ySz (yOf (pBk bk cn o x).1) ≤ ySz x := by
  have h1 := ySz_bg (bk.map (fun t => t.1)) 3 x
  unfold pBk
  split
  · show ySz (yOf (match (yBg (bk.map (fun t => t.1)) 3 x).2 with | .inl e => .inl e | .inr _ => .inl (0, 0))) ≤ _
    split
    · exact Nat.zero_le _
    · exact Nat.zero_le _
  · exact Nat.le_trans (ySz_pE _ _ _) (Nat.le_trans (ySz_nm _ _ _) h1)
theorem ySz_line (x : sY) (D : dDc) : ySz (pLine x D).1 ≤ ySz x := by
  unfold pLine
  split
  · exact ySz_tv _ _
  · split
    · exact ySz_vo _ _ _
    · split
      · exact ySz_ve _ _
      · split
        · exact ySz_bk _ _ _ _
        · split
          · exact ySz_ln _ _ _
          · split
            · exact ySz_ln _ _ _
            · split
              · exact ySz_lw _ _ _ _
              · exact ySz_fl _ _
