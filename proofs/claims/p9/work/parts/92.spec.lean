/-! WHAT A TEXT SAYS: its tokens. ch: the bytes (0 to 255), n: how many; from a on -/
def sRn (ch : Nat → Int) (lo hi : Int) (n a e : Nat) : Prop := a ≤ e ∧ e ≤ n ∧ (∀ j, a ≤ j → j < e → lo ≤ ch j ∧ ch j ≤ hi) ∧ (e < n → ¬ (lo ≤ ch e ∧ ch e ≤ hi))
def sBk (ch : Nat → Int) (n a p : Nat) : Prop := a ≤ p ∧ p ≤ n ∧ (∀ j, a ≤ j → j < p → ch j = 10 ∨ ch j = 32) ∧ (p < n → ¬ (ch p = 10 ∨ ch p = 32))
def sNm (ch : Nat → Int) (p : Nat) : Nat → Int
  | 0 => 0
  | k + 1 => min (10 * sNm ch p k + (ch (p + k) - 48)) 100000
def sLt (ch : Nat → Int) (p e k : Nat) : Int := if p + k < e then ch (p + k) - 96 else 0
def sPk (ch : Nat → Int) (p e : Nat) : Int := zix (sLt ch p e) 32 6
def sWd : List Int := [672863822, 754224288, 744049824, 68523584, 559500448, 642945024, 404455424, 83656704, 538687488, 507661312, 538529792, 156401664, 119573856, 522190848, 48365568, 486146048, 139546624, 605688832, 486151776, 609866336, 278110208, 777169920, 538530400]
def sWi : List Int → Int → Nat → Nat
  | [], _, _ => 3
  | w :: r, v, i => if v = w then i else sWi r v (i + 1)
def sWk (v : Int) : Nat := sWi sWd v 17
/-- a sign's kind and length -/
def sSg (c b : Int) : Nat × Nat := if c = 59 then (4, 1) else if c = 40 then (5, 1) else if c = 41 then (6, 1) else if c = 60 then (if b = 61 then (8, 2) else if b = 62 then (10, 2) else (7, 1)) else if c = 61 then (9, 1) else if c = 62 then (if b = 61 then (11, 2) else (12, 1)) else if c = 43 then (13, 1) else if c = 45 then (14, 1) else if c = 42 then (15, 1) else if c = 47 then (16, 1) else (1, 1)
/-- the token from a on: its kind, place, value, end -/
def sTk (ch : Nat → Int) (n a k p : Nat) (v : Int) (e : Nat) : Prop := sBk ch n a p ∧
  ((p = n ∧ k = 0 ∧ v = 0 ∧ e = n) ∨
   (p < n ∧ (97 ≤ ch p ∧ ch p ≤ 122) ∧ sRn ch 97 122 n p e ∧ ((p + 6 < e ∧ k = 1 ∧ v = 0) ∨ (e ≤ p + 6 ∧ k = sWk (sPk ch p e) ∧ v = sPk ch p e))) ∨
   (p < n ∧ (48 ≤ ch p ∧ ch p ≤ 57) ∧ sRn ch 48 57 n p e ∧ k = 2 ∧ v = sNm ch p (e - p)) ∨
   (p < n ∧ ¬ (97 ≤ ch p ∧ ch p ≤ 122) ∧ ¬ (48 ≤ ch p ∧ ch p ≤ 57) ∧ k = (sSg (ch p) (if p + 1 < n then ch (p + 1) else 0)).1 ∧ e = p + (sSg (ch p) (if p + 1 < n then ch (p + 1) else 0)).2 ∧ v = 0))
theorem sRn_u {ch : Nat → Int} {lo hi : Int} {n a e e' : Nat} (h : sRn ch lo hi n a e) (h' : sRn ch lo hi n a e') : e = e' := by
  obtain ⟨h1, h2, h3, h4⟩ := h
  obtain ⟨g1, g2, g3, g4⟩ := h'
  rcases Nat.lt_trichotomy e e' with hl | hl | hl
  · exact absurd (g3 e h1 hl) (h4 (by omega))
  · exact hl
  · exact absurd (h3 e' g1 hl) (g4 (by omega))
theorem sBk_u {ch : Nat → Int} {n a p p' : Nat} (h : sBk ch n a p) (h' : sBk ch n a p') : p = p' := by
  obtain ⟨h1, h2, h3, h4⟩ := h
  obtain ⟨g1, g2, g3, g4⟩ := h'
  rcases Nat.lt_trichotomy p p' with hl | hl | hl
  · exact absurd (g3 p h1 hl) (h4 (by omega))
  · exact hl
  · exact absurd (h3 p' g1 hl) (g4 (by omega))
/-- there is but one -/
theorem sTk_u {ch : Nat → Int} {n a k p e k' p' e' : Nat} {v v' : Int} (h : sTk ch n a k p v e) (h' : sTk ch n a k' p' v' e') : k = k' ∧ p = p' ∧ v = v' ∧ e = e' := by
  obtain ⟨hb, h⟩ := h
  obtain ⟨gb, g⟩ := h'
  have hp := sBk_u hb gb
  subst hp
  rcases h with ⟨h1, h2, h3, h4⟩ | ⟨h1, h2, h3, h4⟩ | ⟨h1, h2, h3, h4, h5⟩ | ⟨h1, h2, h3, h4, h5, h6⟩ <;> rcases g with ⟨g1, g2, g3, g4⟩ | ⟨g1, g2, g3, g4⟩ | ⟨g1, g2, g3, g4, g5⟩ | ⟨g1, g2, g3, g4, g5, g6⟩
  · exact ⟨by rw [h2, g2], rfl, by rw [h3, g3], by rw [h4, g4]⟩
  · omega
  · omega
  · omega
  · omega
  · have he := sRn_u h3 g3
    subst he
    rcases h4 with ⟨a1, a2, a3⟩ | ⟨a1, a2, a3⟩ <;> rcases g4 with ⟨b1, b2, b3⟩ | ⟨b1, b2, b3⟩
    · exact ⟨by rw [a2, b2], rfl, by rw [a3, b3], rfl⟩
    · omega
    · omega
    · exact ⟨by rw [a2, b2], rfl, by rw [a3, b3], rfl⟩
  · omega
  · exact absurd h2 g2
  · omega
  · omega
  · have he := sRn_u h3 g3
    subst he
    exact ⟨by rw [h4, g4], rfl, by rw [h5, g5], rfl⟩
  · exact absurd h2 g3
  · omega
  · exact absurd g2 h2
  · exact absurd g2 h3
  · exact ⟨by rw [h4, g4], rfl, by rw [h6, g6], by rw [h5, g5]⟩
theorem sSg_l (c b : Int) : 1 ≤ (sSg c b).2 ∧ (sSg c b).2 ≤ 2 ∧ ((sSg c b).2 = 2 → b = 61 ∨ b = 62) := by
  unfold sSg
  repeat' split
  all_goals first | (refine ⟨by decide, by decide, fun h => ?_⟩; first | exact absurd h (by decide) | exact Or.inl (by assumption) | exact Or.inr (by assumption))
theorem sSg_2 (c b : Int) : ((sSg c b).2 = 2 ∧ ((sSg c b).1 = 8 ∨ (sSg c b).1 = 10 ∨ (sSg c b).1 = 11)) ∨ ((sSg c b).2 = 1 ∧ ¬ (sSg c b).1 = 8 ∧ ¬ (sSg c b).1 = 10 ∧ ¬ (sSg c b).1 = 11) := by
  unfold sSg
  repeat' split
  all_goals decide
/-- a token that isn't the end has its bytes -/
theorem sTk_lt {ch : Nat → Int} {n a k p e : Nat} {v : Int} (h : sTk ch n a k p v e) : a ≤ p ∧ p ≤ e ∧ e ≤ n ∧ (¬ k = 0 → p < e) := by
  obtain ⟨⟨b1, b2, b3, b4⟩, h⟩ := h
  rcases h with ⟨h1, h2, h3, h4⟩ | ⟨h1, h2, h3, h4⟩ | ⟨h1, h2, h3, h4, h5⟩ | ⟨h1, h2, h3, h4, h5, h6⟩
  · exact ⟨b1, by omega, by omega, fun h => absurd h2 h⟩
  · have hlt : p < e := by
      rcases Nat.lt_or_ge p e with h | h
      · exact h
      · have : e = p := by have := h3.1; omega
        subst this
        exact absurd h2 (h3.2.2.2 h1)
    exact ⟨b1, by omega, h3.2.1, fun _ => hlt⟩
  · have hlt : p < e := by
      rcases Nat.lt_or_ge p e with h | h
      · exact h
      · have : e = p := by have := h3.1; omega
        subst this
        exact absurd h2 (h3.2.2.2 h1)
    exact ⟨b1, by omega, h3.2.1, fun _ => hlt⟩
  · have hl := sSg_l (ch p) (if p + 1 < n then ch (p + 1) else 0)
    refine ⟨b1, by omega, ?_, fun _ => by omega⟩
    by_cases hn : p + 1 < n
    · omega
    · rw [if_neg hn] at hl h5
      have : ¬ (sSg (ch p) 0).2 = 2 := fun h => by
        rcases hl.2.2 h with h | h <;> exact absurd h (by decide)
      omega
/-! words -/
def sgm (m j : Nat) : Int := if j < zwe.getD m 0 - zws.getD m 0 then ((zW (zws.getD m 0 + j) : Nat) : Int) - 96 else 0
/-- the reference's word m among the class's -/
def sPm (m : Nat) : Nat := [0, 1, 2, 3, 4, 5, 6, 10, 7, 8, 9, 11, 12, 13, 14, 15, 16, 17, 18, 19, 20, 21, 22].getD m 0
def sRw (k : Nat) : Int := [0, 1, 2, 3, 4, 5, 6, 8, 9, 10, 7, 11, 12, 13, 14, 15, 16, 17, 18, 19, 20, 21, 22].getD (k - 17) 0
theorem sgm_ok : ∀ m : Nat, m < 23 → zix (sgm m) 32 6 = sWd.getD (sPm m) 0 ∧ sWk (sWd.getD (sPm m) 0) = 17 + sPm m ∧ sRw (17 + sPm m) = (m : Int) ∧ sPm m < 23 := by decide +kernel
theorem sgm_l : ∀ m : Nat, m < 23 → 1 ≤ zwe.getD m 0 - zws.getD m 0 ∧ zwe.getD m 0 - zws.getD m 0 ≤ 6 ∧ zws.getD m 0 ≤ zwe.getD m 0 := by decide +kernel
theorem sgm_d : ∀ m : Nat, m < 23 → ∀ j : Nat, j < 6 → 0 ≤ sgm m j ∧ sgm m j < 32 ∧ (j < zwe.getD m 0 - zws.getD m 0 ↔ 1 ≤ sgm m j) := by decide +kernel
theorem sWd_all : ∀ i : Nat, i < 23 → ∃ m : Nat, m < 23 ∧ sWd.getD i 0 = sWd.getD (sPm m) 0 := by decide +kernel
/-- the letters from p to e are word m -/
def sMt (ch : Nat → Int) (p e m : Nat) : Prop := e - p = zwe.getD m 0 - zws.getD m 0 ∧ ∀ i, i < zwe.getD m 0 - zws.getD m 0 → ch (p + i) = ((zW (zws.getD m 0 + i) : Nat) : Int)
theorem sLt_d {ch : Nat → Int} {p e : Nat} (hl : ∀ j, p ≤ j → j < e → 97 ≤ ch j ∧ ch j ≤ 122) (j : Nat) : 0 ≤ sLt ch p e j ∧ sLt ch p e j < 32 ∧ (p + j < e ↔ 1 ≤ sLt ch p e j) := by
  unfold sLt
  split
  · next h =>
    have := hl (p + j) (by omega) h
    omega
  · next h => omega
theorem sMt_pk {ch : Nat → Int} {p e : Nat} (hpe : p ≤ e) (h6 : e ≤ p + 6) (hl : ∀ j, p ≤ j → j < e → 97 ≤ ch j ∧ ch j ≤ 122) {m : Nat} (hm : m < 23) : sMt ch p e m ↔ sPk ch p e = sWd.getD (sPm m) 0 := by
  have l1 := sgm_l m hm
  constructor
  · rintro ⟨h1, h2⟩
    rw [← (sgm_ok m hm).1]
    refine zix_ext 6 (fun j hj => ?_)
    unfold sLt sgm
    by_cases hj2 : j < zwe.getD m 0 - zws.getD m 0
    · rw [if_pos (by omega), if_pos hj2, h2 j hj2]
    · rw [if_neg (by omega), if_neg hj2]
  · intro h
    rw [← (sgm_ok m hm).1] at h
    have wd : ∀ x : Int, 0 ≤ x → x < 32 → w32 x = x := fun x a b => w32_of (by omega) (by omega)
    have dg := zix_inj (f := sLt ch p e) (g := sgm m) (b := 32) (by decide) 6 (fun j _ => by
      have := sLt_d hl j
      rw [wd _ this.1 this.2.1]
      exact ⟨this.1, this.2.1⟩) (fun j hj => by
      have := sgm_d m hm j hj
      rw [wd _ this.1 this.2.1]
      exact ⟨this.1, this.2.1⟩) h
    have de : ∀ j, j < 6 → sLt ch p e j = sgm m j := fun j hj => by
      have a := sLt_d hl j
      have b := sgm_d m hm j hj
      have := dg j hj
      rw [wd _ a.1 a.2.1, wd _ b.1 b.2.1] at this
      exact this
    have iff : ∀ j, j < 6 → (p + j < e ↔ j < zwe.getD m 0 - zws.getD m 0) := fun j hj => by
      rw [(sLt_d hl j).2.2, (sgm_d m hm j hj).2.2, de j hj]
    have hlen : e - p = zwe.getD m 0 - zws.getD m 0 := by
      rcases Nat.lt_trichotomy (e - p) (zwe.getD m 0 - zws.getD m 0) with hlt | heq | hgt
      · have := (iff (e - p) (by omega)).mpr hlt
        omega
      · exact heq
      · have := (iff (zwe.getD m 0 - zws.getD m 0) (by omega)).mp (by omega)
        omega
    refine ⟨hlen, fun i hi => ?_⟩
    have := de i (by omega)
    unfold sLt sgm at this
    rw [if_pos (by omega), if_pos hi] at this
    omega
theorem sWi_no {v : Int} : ∀ (l : List Int) (i : Nat), (∀ j, j < l.length → ¬ v = l.getD j 0) → sWi l v i = 3
  | [], _, _ => rfl
  | w :: r, i, h => by
    simp only [sWi]
    have h0 := h 0 (by simp)
    simp only [List.getD_cons_zero] at h0
    rw [if_neg h0]
    exact sWi_no r (i + 1) (fun j hj => by
      have := h (j + 1) (by simp; omega)
      simpa using this)
/-- a run of letters that is a word, and one that is none -/
theorem sWk_yes {ch : Nat → Int} {p e : Nat} (hpe : p ≤ e) (hl : ∀ j, p ≤ j → j < e → 97 ≤ ch j ∧ ch j ≤ 122) {m : Nat} (hm : m < 23) (h : sMt ch p e m) : e ≤ p + 6 ∧ sWk (sPk ch p e) = 17 + sPm m := by
  have h6 : e ≤ p + 6 := by have := h.1; have := (sgm_l m hm).2.1; omega
  rw [(sMt_pk hpe h6 hl hm).mp h]
  exact ⟨h6, (sgm_ok m hm).2.1⟩
theorem sWk_no {ch : Nat → Int} {p e : Nat} (hpe : p ≤ e) (h6 : e ≤ p + 6) (hl : ∀ j, p ≤ j → j < e → 97 ≤ ch j ∧ ch j ≤ 122) (h : ∀ m, m < 23 → ¬ sMt ch p e m) : sWk (sPk ch p e) = 3 := by
  refine sWi_no sWd 17 (fun j hj hv => ?_)
  obtain ⟨m, hm, e1⟩ := sWd_all j hj
  rw [e1] at hv
  exact h m hm ((sMt_pk hpe h6 hl hm).mpr hv)
/-- how the reference holds a token -/
def sSc (k : Nat) : Int := [59, 40, 41, 60, 256, 61, 257, 258, 62, 43, 45, 42, 47].getD (k - 4) 0
def sRk (so va : Int) (k : Nat) (v : Int) : Prop := (k = 0 ∧ so = 4) ∨ (k = 1 ∧ so = 5) ∨ (k = 2 ∧ so = 2 ∧ 0 ≤ va ∧ min va 100000 = v) ∨ (k = 3 ∧ so = 1 ∧ va = v) ∨ (4 ≤ k ∧ k ≤ 16 ∧ so = 3 ∧ va = sSc k) ∨ (17 ≤ k ∧ k ≤ 39 ∧ so = 0 ∧ va = sRw k)
