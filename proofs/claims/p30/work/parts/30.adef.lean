section
/-! A RUN OVER INTERVALS. An abstract value (tag, k, c): (0, _, c) the int c; (3, k, c) the int symbol k and c more; (1, i, _) the cell i; (4, _, c) the long c; (8, k, _) the long symbol k; (9, k, c) how the long symbol k compares with c. -/
abbrev aV : Type := Nat × Nat × Int
abbrev aL : Type := List (Nat × aV)
abbrev aI : Type := List (Int × Int)
abbrev aN : Type := List (Nat × Int)
abbrev aMp : Type := List ((Nat × Nat) × aV)
abbrev aSt : Type := aMp × aI × aN
/-- what an argument or local may be: (0, _, c, _) the int c; (3, _, lo, hi) an int from lo to hi; (1, i, _, _) the cell i; (8, ..) any long; (99, ..) nothing -/
abbrev aArg : Type := Nat × Nat × Int × Int
abbrev aFct : Type := List ((Nat × Nat) × Int × Int)
/-- a part of a rank: (0, _, _, _, c) c; (1, i, _, s, c) c and s times the local i; (2, i, j, s, c) c and s times the slot j of the cell i -/
abbrev aExp : Type := Nat × Nat × Nat × Int × Int
abbrev aCut : Type := List (Nat × aArg) × aFct × Nat × aExp × aExp
/-- a contract: method, arguments, facts ahead, answer, facts behind, what it may write (cell, slot + 1; slot 0: all), frames, cuts (pc, local to be split + 1, what may hold there) -/
abbrev aCon : Type := Nat × List aArg × aFct × aArg × aFct × List (Nat × Nat) × Nat × List (Nat × Nat × List aCut)
abbrev aFr : Type := xM × Nat × aL × List aV
abbrev aT : Type := Option Nat × Int
def zle (a b : Int) : Bool := match b - a with
  | .ofNat _ => true
  | .negSucc _ => false
theorem zle_ok {a b : Int} : zle a b = true ↔ a ≤ b := by
  unfold zle
  rw [← Int.sub_nonneg]
  cases b - a with
  | ofNat n => simp
  | negSucc n => simp
def zlt (a b : Int) : Bool := zle (a + 1) b
theorem zlt_ok {a b : Int} : zlt a b = true ↔ a < b := by
  unfold zlt
  rw [zle_ok]
  omega
def zeq (a b : Int) : Bool := zle a b && zle b a
theorem zeq_ok {a b : Int} : zeq a b = true ↔ a = b := by
  unfold zeq
  rw [Bool.and_eq_true, zle_ok, zle_ok]
  omega
def zmax (a b : Int) : Int := if zle a b then b else a
def zmin (a b : Int) : Int := if zle a b then a else b
theorem zmax_ok (a b : Int) : zmax a b = max a b := by
  unfold zmax
  split
  · next h => rw [zle_ok] at h; omega
  · next h => rw [zle_ok] at h; omega
theorem zmin_ok (a b : Int) : zmin a b = min a b := by
  unfold zmin
  split
  · next h => rw [zle_ok] at h; omega
  · next h => rw [zle_ok] at h; omega
def a32 : Int × Int := (-2147483648, 2147483647)
def a64 : Int × Int := (-9223372036854775808, 9223372036854775807)
/-- one interval in another -/
def ain (q r : Int × Int) : Bool := zle r.1 q.1 && zle q.2 r.2
def alk : aL → Nat → Option aV
  | [], _ => none
  | q :: r, i => if Nat.beq q.1 i then some q.2 else alk r i
def akdb (k : Nat) (v : aV) : Bool := match k with
  | 0 => Nat.beq v.1 0 || (Nat.beq v.1 3 || Nat.beq v.1 9)
  | 1 => Nat.beq v.1 1
  | _ => Nat.beq v.1 4 || Nat.beq v.1 8
def acat (v : aV) : Nat := if Nat.beq v.1 4 || Nat.beq v.1 8 then 2 else 1
def aflb (k i : Nat) (q : Nat × aV) : Bool := match k with
  | 2 => !(Nat.beq q.1 i) && (!(Nat.beq q.1 (i + 1)) && !(Nat.beq (q.1 + 1) i && Nat.beq (acat q.2) 2))
  | _ => !(Nat.beq q.1 i) && !(Nat.beq (q.1 + 1) i && Nat.beq (acat q.2) 2)
def aflt (k i : Nat) : aL → aL
  | [] => []
  | q :: r => if aflb k i q then q :: aflt k i r else aflt k i r
def aiv (iv : aI) (k : Nat) : Int × Int := match iv[k]? with
  | some q => q
  | none => a64
def trng (iv : aI) (t : aT) : Int × Int := match t.1 with
  | none => (t.2, t.2)
  | some k => ((aiv iv k).1 + t.2, (aiv iv k).2 + t.2)
def aterm (v : aV) : Option aT := match v.1 with
  | 0 => some (none, v.2.2)
  | 3 => some (some v.2.1, v.2.2)
  | _ => none
/-- the interval of an int -/
def arng (iv : aI) (v : aV) : Int × Int := match aterm v with
  | some t => trng iv t
  | none => a32
def aset (iv : aI) (t : aT) (lo hi : Int) : aI := match t.1 with
  | none => iv
  | some k => match iv[k]? with
    | some q => iv.set k (zmax q.1 (lo - t.2), zmin q.2 (hi - t.2))
    | none => iv
def aneq (ne : aN) (t u : aT) : Bool := match t.1, u.1 with
  | some k, none => ne.any (fun q => Nat.beq q.1 k && zeq q.2 (u.2 - t.2))
  | _, _ => false
/-- the symbol k is not c -/
def adifk (iv : aI) (ne : aN) (k : Nat) (c : Int) : aI × aN := (if zeq (aiv iv k).1 c then aset iv (some k, 0) (c + 1) (aiv iv k).2 else if zeq (aiv iv k).2 c then aset iv (some k, 0) (aiv iv k).1 (c - 1) else iv, (k, c) :: ne)
/-- t is not u -/
def adif (iv : aI) (ne : aN) (t u : aT) : aI × aN := match t.1, u.1 with
  | some k, none => adifk iv ne k (u.2 - t.2)
  | none, some k => adifk iv ne k (t.2 - u.2)
  | _, _ => (iv, ne)
def acons (iv : aI) : Bool := match iv with
  | [] => true
  | q :: r => zle q.1 q.2 && acons r
def akeep (l : List (Bool × aI × aN)) : List (Bool × aI × aN) := match l with
  | [] => []
  | q :: r => if acons q.2.1 then q :: akeep r else akeep r
def aeq (iv : aI) (ne : aN) (t u : aT) : List (Bool × aI × aN) :=
  let a := trng iv t
  let b := trng iv u
  if zle a.2 b.1 && zle b.2 a.1 then [(true, iv, ne)]
  else if zlt a.2 b.1 || (zlt b.2 a.1 || aneq ne t u) then [(false, iv, ne)]
  else akeep [(true, aset (aset iv t b.1 b.2) u a.1 a.2, ne), (false, adif iv ne t u)]
def alt (iv : aI) (ne : aN) (t u : aT) : List (Bool × aI × aN) :=
  let a := trng iv t
  let b := trng iv u
  if zlt a.2 b.1 then [(true, iv, ne)]
  else if zle b.2 a.1 then [(false, iv, ne)]
  else akeep [(true, aset (aset iv t a.1 (b.2 - 1)) u (a.1 + 1) b.2, ne), (false, aset (aset iv t b.1 a.2) u b.1 a.2, ne)]
def anot (l : List (Bool × aI × aN)) : List (Bool × aI × aN) := match l with
  | [] => []
  | q :: r => (!q.1, q.2) :: anot r
/-- comparing: 0 =, 1 not =, 2 <, 3 >=, 4 >, 5 <= -/
def acmp (c : Nat) (iv : aI) (ne : aN) (t u : aT) : List (Bool × aI × aN) := match c with
  | 0 => aeq iv ne t u
  | 1 => anot (aeq iv ne t u)
  | 2 => alt iv ne t u
  | 3 => anot (alt iv ne t u)
  | 4 => alt iv ne u t
  | _ => anot (alt iv ne u t)
def aall (l : List (Bool × aI × aN)) (f : Bool → aI → aN → Bool) : Bool := match l with
  | [] => true
  | q :: r => f q.1 q.2.1 q.2.2 && aall r f
def asw (f : Nat → aI → aN → Bool) (dflt : Nat) (t : aT) : List (Nat × Nat) → aI → aN → Bool
  | [], iv, ne => f dflt iv ne
  | q :: r, iv, ne => aall (aeq iv ne t (none, cI q.1)) (fun o iv' ne' => if o then f q.2 iv' ne' else asw f dflt t r iv' ne')
def amlk (mp : aMp) (i j : Nat) : Option aV := match mp with
  | [] => none
  | q :: r => if Nat.beq q.1.1 i && Nat.beq q.1.2 j then some q.2 else amlk r i j
/-- what every slot of a cell holds (0), what its slot j holds -/
def aent (i : Nat) : (Int × Int) × List (Int × Int) := match ygam[i]? with
  | some e => e
  | none => (a32, [])
def agam (i j : Nat) : Int × Int := (aent i).2.getD j (aent i).1
def adefl (i : Nat) : Int × Int := match (aent i).2 with
  | [] => (aent i).1
  | _ => a32
def amod (mods : List (Nat × Nat)) (i j : Nat) : Bool := match mods with
  | [] => false
  | q :: r => (Nat.beq q.1 i && (Nat.beq q.2 0 || Nat.beq q.2 (j + 1))) || amod r i j
def amodA (mods : List (Nat × Nat)) (i : Nat) : Bool := match mods with
  | [] => false
  | q :: r => (Nat.beq q.1 i && Nat.beq q.2 0) || amodA r i
/-- all that the one list may write the other may write -/
def amsub (a b : List (Nat × Nat)) : Bool := match a with
  | [] => true
  | q :: r => (match q.2 with
    | 0 => amodA b q.1
    | j + 1 => amod b q.1 j) && amsub r b
def adrop (mods : List (Nat × Nat)) (mp : aMp) : aMp := match mp with
  | [] => []
  | q :: r => if amod mods q.1.1 q.1.2 then adrop mods r else q :: adrop mods r
def adrop1 (i j : Nat) (mp : aMp) : aMp := match mp with
  | [] => []
  | q :: r => if Nat.beq q.1.1 i && Nat.beq q.1.2 j then adrop1 i j r else q :: adrop1 i j r
def adropA (i : Nat) (mp : aMp) : aMp := match mp with
  | [] => []
  | q :: r => if Nat.beq q.1.1 i then adropA i r else q :: adropA i r
def anew (S : aSt) (q : Int × Int) : aSt := (S.1, S.2.1 ++ [q], S.2.2)
/-- the slot j of the cell i -/
def ardS (S : aSt) (i j : Nat) (k : aV → aSt → Bool) : Bool := match amlk S.1 i j with
  | some v => k v S
  | none => k (3, S.2.1.length, 0) ((((i, j), (3, S.2.1.length, 0)) :: S.1), S.2.1 ++ [agam i j], S.2.2)
def afr (S : aSt) (q : Int × Int) (k : aV → aSt → Bool) : Bool := k (3, S.2.1.length, 0) (anew S q)
def afrL (S : aSt) (k : aV → aSt → Bool) : Bool := k (8, S.2.1.length, 0) (anew S a64)
/-- an int from q.1 to q.2, where that is within ints -/
def afit (S : aSt) (q : Int × Int) (k : aV → aSt → Bool) : Bool := afr S (if ain q a32 then q else a32) k
def a2p (n : Nat) (b : Int) : Int := match n with
  | 0 => b
  | n + 1 => a2p n (b + b)
/-- the least 2^k - 1 that isn't below, up to 2^20 -/
def aones (h : Int) : Nat → Int → Option Int
  | 0, _ => none
  | n + 1, b => if zlt h b then some (b - 1) else aones h n (b + b)
def abinr (o : Nat) (a b : Int × Int) : Int × Int := match o with
  | 0 => (a.1 + b.1, a.2 + b.2)
  | 1 => (a.1 - b.2, a.2 - b.1)
  | 2 => if zle 0 a.1 && zle 0 b.1 then (a.1 * b.1, a.2 * b.2) else a64
  | 3 => if zle 0 b.1 then (0, b.2) else if zle 0 a.1 then (0, a.2) else a64
  | 4 => if zle 0 a.1 && zle 0 b.1 then (match aones (zmax a.2 b.2) 21 1 with
      | some h => (0, h)
      | none => a64) else a64
  | 6 => if zeq a.1 1 && (zeq a.2 1 && (zle 0 b.1 && zle b.2 20)) then (1, a2p b.2.toNat 1) else a64
  | 7 => if zle 0 a.1 then (0, a.2) else a64
  | 9 => if zle 0 a.1 && zle 1 b.1 then (0, if zeq b.1 b.2 then a.2 / b.1 else a.2) else a64
  | 10 => if zle 0 a.1 && zle 1 b.1 then (0, b.2 - 1) else a64
  | _ => a64
/-- x o y, two ints -/
def abin (S : aSt) (o : Nat) (x y : aV) (k : aV → aSt → Bool) : Bool := match aterm x, aterm y with
  | some t, some u =>
    let a := trng S.2.1 t
    let b := trng S.2.1 u
    if (Nat.beq o 9 || Nat.beq o 10) && (zle b.1 0 && zle 0 b.2) && !(aneq S.2.2 u (none, 0)) then false
    else match o, u.1 with
      | 0, none => if ain (a.1 + u.2, a.2 + u.2) a32 then (match t.1 with
          | none => k (0, 0, t.2 + u.2) S
          | some s => k (3, s, t.2 + u.2) S) else afr S a32 k
      | 1, none => if ain (a.1 - u.2, a.2 - u.2) a32 then (match t.1 with
          | none => k (0, 0, t.2 - u.2) S
          | some s => k (3, s, t.2 - u.2) S) else afr S a32 k
      | _, _ => afit S (abinr o a b) k
  | _, _ => false
def aeqv (q : Int × Int) : Option Int := if zle q.2 q.1 then some q.1 else none
def aargI (iv : aI) (v : aV) (a : aArg) : Bool := match a.1 with
  | 0 => (match aterm v with
    | some t => zle a.2.2.1 (trng iv t).1 && zle (trng iv t).2 a.2.2.1
    | none => false)
  | 3 => (match aterm v with
    | some t => zle a.2.2.1 (trng iv t).1 && zle (trng iv t).2 a.2.2.2
    | none => Nat.beq v.1 9 && (zle a.2.2.1 (-1) && zle 1 a.2.2.2))
  | 1 => Nat.beq v.1 1 && Nat.beq v.2.1 a.2.1
  | 8 => Nat.beq v.1 4 || Nat.beq v.1 8
  | _ => false
def aargs (iv : aI) : List aV → List aArg → Bool
  | [], [] => true
  | v :: r, a :: s => aargI iv v a && aargs iv r s
  | _, _ => false
def aslot (S : aSt) (i j : Nat) : Int × Int := match amlk S.1 i j with
  | some v => arng S.2.1 v
  | none => agam i j
def afcts (S : aSt) : aFct → Bool
  | [] => true
  | f :: r => ain (aslot S f.1.1 f.1.2) f.2 && afcts S r
/-- the symbols of facts -/
def afbeg : aFct → aMp → aI → aMp × aI
  | [], mp, iv => (mp, iv)
  | f :: r, mp, iv => afbeg r ((f.1, (3, iv.length, 0)) :: mp) (iv ++ [f.2])
def albeg : List (Nat × aArg) → aI → aL × aI
  | [], iv => ([], iv)
  | a :: r, iv => match a.2.1 with
    | 0 => let q := albeg r iv; ((a.1, (0, 0, a.2.2.2.1)) :: q.1, q.2)
    | 1 => let q := albeg r iv; ((a.1, (1, a.2.2.1, 0)) :: q.1, q.2)
    | 3 => let q := albeg r (iv ++ [(a.2.2.2.1, a.2.2.2.2)]); ((a.1, (3, iv.length, 0)) :: q.1, q.2)
    | _ => let q := albeg r (iv ++ [a64]); ((a.1, (8, iv.length, 0)) :: q.1, q.2)
def aidx : Nat → List aArg → List (Nat × aArg)
  | _, [] => []
  | i, a :: r => (i, a) :: aidx (i + (if Nat.beq a.1 8 then 2 else 1)) r
/-- a part of a rank as it stands: coefficient, symbol, constant -/
def aval (lv : aL) (S : aSt) (e : aExp) : Int × aT := match e.1 with
  | 0 => (0, (none, 0))
  | 1 => (match alk lv e.2.1 with
    | some v => (match aterm v with
      | some t => (e.2.2.2.1, (t.1, t.2))
      | none => (0, (none, 0)))
    | none => (0, (none, 0)))
  | _ => (match amlk S.1 e.2.1 e.2.2.1 with
    | some v => (match aterm v with
      | some t => (e.2.2.2.1, (t.1, t.2))
      | none => (0, (none, 0)))
    | none => (0, (none, 0)))
abbrev aRk : Type := Int × aT × Int
abbrev aRank : Type := Nat × aRk × aRk
def arr (lv : aL) (S : aSt) (e : aExp) : aRk := ((aval lv S e).1, (aval lv S e).2, e.2.2.2.2)
def rlo (iv : aI) (r : aRk) : Int := if zle 0 r.1 then r.2.2 + r.1 * (trng iv r.2.1).1 else r.2.2 + r.1 * (trng iv r.2.1).2
def rhi (iv : aI) (r : aRk) : Int := if zle 0 r.1 then r.2.2 + r.1 * (trng iv r.2.1).2 else r.2.2 + r.1 * (trng iv r.2.1).1
def rsame (r q : aRk) : Bool := zeq r.1 q.1 && (match r.2.1.1, q.2.1.1 with
  | some a, some b => Nat.beq a b
  | none, none => true
  | _, _ => false)
def rlt (iv : aI) (r q : aRk) : Bool := zle 1 (rlo iv q) && ((rsame r q && zlt (r.2.2 + r.1 * r.2.1.2) (q.2.2 + q.1 * q.2.1.2)) || zlt (rhi iv r) (rlo iv q))
def rle (iv : aI) (r q : aRk) : Bool := (rsame r q && zle (r.2.2 + r.1 * r.2.1.2) (q.2.2 + q.1 * q.2.1.2)) || zle (rhi iv r) (rlo iv q)
def arank (iv : aI) (r q : aRank) : Bool := Nat.blt r.1 q.1 || (Nat.beq r.1 q.1 && (rlt iv r.2.1 q.2.1 || (rle iv r.2.1 q.2.1 && rlt iv r.2.2 q.2.2)))
def alocs (iv : aI) (lv : aL) : List (Nat × aArg) → Bool
  | [] => true
  | q :: r => (match alk lv q.1 with
    | some v => aargI iv v q.2
    | none => false) && alocs iv lv r
def atm (v : Option aV) : Bool := match v with
  | some v => (match aterm v with
    | some _ => true
    | none => false)
  | none => false
def aexok (lv : aL) (S : aSt) (e : aExp) : Bool := match e.1 with
  | 0 => true
  | 1 => atm (alk lv e.2.1)
  | _ => atm (amlk S.1 e.2.1 e.2.2.1)
def acut1 (lv : aL) (S : aSt) (g : aRank) (a : aCut) : Bool := aexok lv S a.2.2.2.1 && aexok lv S a.2.2.2.2 && alocs S.2.1 lv a.1 && (afcts S a.2.1 && arank S.2.1 (a.2.2.1, arr lv S a.2.2.2.1, arr lv S a.2.2.2.2) g)
def acuts (lv : aL) (S : aSt) (g : aRank) : List aCut → Bool
  | [] => false
  | a :: r => acut1 lv S g a || acuts lv S g r
def asplit (f : aSt → Bool) (S : aSt) (k : Nat) : Nat → Int → Bool
  | 0, _ => true
  | n + 1, x => f (S.1, aset S.2.1 (some k, 0) x x, S.2.2) && asplit f S k n (x + 1)
/-- every value of the symbol k -/
def aspl (S : aSt) (k : Nat) (f : aSt → Bool) : Bool := asplit f S k ((aiv S.2.1 k).2 - (aiv S.2.1 k).1 + 1).toNat (aiv S.2.1 k).1
def acutc (lv : aL) (S : aSt) (g : aRank) (q : Nat × List aCut) : Bool := match q.1 with
  | 0 => acuts lv S g q.2
  | i + 1 => match alk lv i with
    | some v => if Nat.beq v.1 3 then aspl S v.2.1 (fun S' => acuts lv S' g q.2) else acuts lv S g q.2
    | none => false
def acf : List (Nat × Nat × List aCut) → Nat → Option (Nat × List aCut)
  | [], _ => none
  | q :: r, pc => if Nat.beq q.1 pc then some q.2 else acf r pc
abbrev acM (c : aCon) : Nat := c.1
abbrev acA (c : aCon) : List aArg := c.2.1
abbrev acP (c : aCon) : aFct := c.2.2.1
abbrev acR (c : aCon) : aArg := c.2.2.2.1
abbrev acQ (c : aCon) : aFct := c.2.2.2.2.1
abbrev acW (c : aCon) : List (Nat × Nat) := c.2.2.2.2.2.1
abbrev acD (c : aCon) : Nat := c.2.2.2.2.2.2.1
abbrev acC (c : aCon) : List (Nat × Nat × List aCut) := c.2.2.2.2.2.2.2
def aend (c : aCon) (S : aSt) (r : Option aV) : Bool := (match r with
  | none => Nat.beq (acR c).1 99
  | some v => aargI S.2.1 v (acR c)) && afcts S (acQ c)
abbrev aRec : Type := xM → Nat → aL → List aV → List aFr → aSt → Bool
def apush (r : Option aV) (st : List aV) : List aV := match r with
  | some v => v :: st
  | none => st
def aretn (c : aCon) (rec : aRec) (r : Option aV) (frs : List aFr) (S : aSt) : Bool := match frs with
  | [] => aend c S r
  | f :: fs => rec f.1 f.2.1 f.2.2.1 (apush r f.2.2.2) fs S
def asum : List aV → Nat
  | [] => 0
  | v :: r => acat v + asum r
def aargl : Nat → List aV → aL
  | _, [] => []
  | i, v :: r => (i, v) :: aargl (i + acat v) r
def afind (T : List aCon) (mi : Nat) (iv : aI) (vs : List aV) : Option aCon := match T with
  | [] => none
  | e :: r => if Nat.beq (acM e) mi && aargs iv vs (acA e) then some e else afind r mi iv vs
def acall (T : List aCon) (c : aCon) (M : xM) (rec : aRec) (nx mi n0 : Nat) (lv : aL) (st : List aV) (frs : List aFr) (S : aSt) : Bool := match xmt[mi]? with
  | none => false
  | some M' => Nat.ble (xMn M' + n0) st.length && (Nat.ble (asum (st.drop (xMn M' + n0))) 8 && (Nat.ble (asum (st.take (xMn M' + n0))) (xMl M') && (Nat.ble (xMl M') 45 && (match afind T mi S.2.1 (st.take (xMn M' + n0)).reverse with
    | some e => Nat.ble (acD e + 1 + frs.length) (acD c) && (afcts S (acP e) && (amsub (acW e) (acW c) && (
        let q := afbeg (acQ e) (adrop (acW e) S.1) S.2.1
        match (acR e).1 with
        | 99 => rec M nx lv (st.drop (xMn M' + n0)) frs (q.1, q.2, S.2.2)
        | 0 => rec M nx lv ((0, 0, (acR e).2.2.1) :: st.drop (xMn M' + n0)) frs (q.1, q.2, S.2.2)
        | 3 => rec M nx lv ((3, q.2.length, 0) :: st.drop (xMn M' + n0)) frs (q.1, q.2 ++ [(acR e).2.2], S.2.2)
        | 8 => rec M nx lv ((8, q.2.length, 0) :: st.drop (xMn M' + n0)) frs (q.1, q.2 ++ [a64], S.2.2)
        | _ => false)))
    | none => Nat.ble (frs.length + 2) (acD c) && rec M' 0 (aargl 0 (st.take (xMn M' + n0)).reverse) [] ((M, nx, lv, st.drop (xMn M' + n0)) :: frs) S))))
def acell (v : aV) : Option yS := if Nat.beq v.1 1 then ysh[v.2.1]? else none
/-- the int v into the slot j of the cell i -/
def awrS (c : aCon) (S : aSt) (i j : Nat) (v : aV) (k : aSt → Bool) : Bool := ain (arng S.2.1 v) (agam i j) && (amod (acW c) i j && k (((i, j), v) :: adrop1 i j S.1, S.2.1, S.2.2))
def awrA (c : aCon) (S : aSt) (i : Nat) (v : aV) (k : aSt → Bool) : Bool := (match (aent i).2 with
  | [] => true
  | _ => false) && (ain (arng S.2.1 v) (aent i).1 && (amodA (acW c) i && k (adropA i S.1, S.2.1, S.2.2)))
def atermc (x : aV) : Option (aT × aT) := if Nat.beq x.1 9 then some ((some x.2.1, 0), (none, x.2.2)) else match aterm x with
  | some t => some (t, (none, 0))
  | none => none
def anz (S : aSt) (v : aV) : Bool := match v.1 with
  | 4 => !(zeq v.2.2 0)
  | 8 => aneq S.2.2 (some v.2.1, 0) (none, 0) || (zle 1 (aiv S.2.1 v.2.1).1 || zle (aiv S.2.1 v.2.1).2 (-1))
  | _ => false
def acsl (cs : List (Nat × Nat)) : Bool := match cs with
  | [] => true
  | q :: r => Nat.blt q.1 4294967296 && (!(r.any (fun p => Nat.beq p.1 q.1)) && acsl r)
noncomputable def astep (T : List aCon) (c : aCon) (M : xM) (rec : aRec) (op : xOp) (lv : aL) (st : List aV) (frs : List aFr) (S : aSt) : Bool := match op.1 with
  | 0 => Nat.blt op.2.2.1 4294967296 && rec M op.2.1 lv ((0, 0, cI op.2.2.1) :: st) frs S
  | 1 => Nat.blt op.2.2.1 18446744073709551616 && rec M op.2.1 lv ((4, 0, cL op.2.2.1) :: st) frs S
  | 2 => match alk lv op.2.2.2.1 with
    | some v => akdb op.2.2.1 v && rec M op.2.1 lv (v :: st) frs S
    | none => false
  | 3 => match st with
    | v :: st' => akdb op.2.2.1 v && (Nat.blt (op.2.2.2.1 + xwd op.2.2.1) (xMl M) && rec M op.2.1 ((op.2.2.2.1, v) :: aflt op.2.2.1 op.2.2.2.1 lv) st' frs S)
    | [] => false
  | 4 => match alk lv op.2.2.1 with
    | some v => Nat.blt op.2.2.2.1 4294967296 && (Nat.blt op.2.2.1 (xMl M) && abin S 0 v (0, 0, cI op.2.2.2.1) (fun w S' => rec M op.2.1 ((op.2.2.1, w) :: aflt 0 op.2.2.1 lv) st frs S'))
    | none => false
  | 5 => match st with
    | y :: x :: st' => abin S op.2.2.1 x y (fun w S' => rec M op.2.1 lv (w :: st') frs S')
    | _ => false
  | 6 => match st with
    | x :: st' => akdb 0 x && afr S (-128, 127) (fun w S' => rec M op.2.1 lv (w :: st') frs S')
    | _ => false
  | 8 => match st with
    | y :: x :: st' => akdb 2 x && (akdb 2 y && (if Nat.beq x.1 8 && Nat.beq y.1 4 then rec M op.2.1 lv ((9, x.2.1, y.2.2) :: st') frs S else afr S (-1, 1) (fun w S' => rec M op.2.1 lv (w :: st') frs S')))
    | _ => false
  | 9 => match st with
    | v :: st' => Nat.beq (acat v) 1 && rec M op.2.1 lv (v :: v :: st') frs S
    | _ => false
  | 10 => match st with
    | v :: st' => Nat.beq (acat v) 1 && rec M op.2.1 lv st' frs S
    | _ => false
  | 11 => match st with
    | v :: w :: st' => Nat.beq (acat v) 1 && (Nat.beq (acat w) 1 && rec M op.2.1 lv (v :: w :: v :: w :: st') frs S)
    | _ => false
  | 12 => match st with
    | x :: st' => match atermc x with
      | some q => aall (acmp op.2.2.2.1 S.2.1 S.2.2 q.1 q.2) (fun b iv ne => rec M (if b then op.2.2.1 else op.2.1) lv st' frs (S.1, iv, ne))
      | none => false
    | _ => false
  | 13 => match st with
    | y :: x :: st' => match aterm x, aterm y with
      | some t, some u => aall (acmp op.2.2.2.1 S.2.1 S.2.2 t u) (fun b iv ne => rec M (if b then op.2.2.1 else op.2.1) lv st' frs (S.1, iv, ne))
      | _, _ => false
    | _ => false
  | 14 => rec M op.2.1 lv st frs S
  | 15 => match st with
    | x :: st' => match aterm x with
      | some t => acsl op.2.2.2.2 && asw (fun tgt iv ne => rec M tgt lv st' frs (S.1, iv, ne)) op.2.2.1 t op.2.2.2.2 S.2.1 S.2.2
      | none => false
    | _ => false
  | 16 => match st with
    | v :: st' => match acell v with
      | some (.inr (ci, fs)) => Nat.beq ci op.2.2.1 && (match fs[op.2.2.2.1]? with
        | some (0, _) => ardS S v.2.1 op.2.2.2.1 (fun w S' => rec M op.2.1 lv (w :: st') frs S')
        | some (1, z) => zle 0 z && rec M op.2.1 lv ((1, z.toNat, 0) :: st') frs S
        | _ => false)
      | _ => false
    | _ => false
  | 17 => match st, op.2.2.2.2 with
    | x :: v :: st', [q] => match acell v with
      | some (.inr (ci, fs)) => Nat.beq ci op.2.2.1 && (match fs[op.2.2.2.1]? with
        | some (0, _) => (Nat.beq q.1 0 && akdb 0 x || Nat.beq q.1 3 && (akdb 0 x && ain (arng S.2.1 x) (0, 1))) && awrS c S v.2.1 op.2.2.2.1 x (fun S' => rec M op.2.1 lv st' frs S')
        | _ => false)
      | _ => false
    | _, _ => false
  | 18 => match st with
    | v :: st' => match acell v with
      | some (.inl (t, n, _)) => Nat.blt t 5 && rec M op.2.1 lv ((0, 0, (n : Int)) :: st') frs S
      | _ => false
    | _ => false
  | 19 => match st with
    | j :: v :: st' => match acell v, aterm j with
      | some (.inl (t, n, _)), some u => Nat.beq t op.2.2.1 && (zle 0 (trng S.2.1 u).1 && (zlt (trng S.2.1 u).2 (n : Int) && (match aeqv (trng S.2.1 u) with
        | some z => ardS S v.2.1 z.toNat (fun w S' => rec M op.2.1 lv (w :: st') frs S')
        | none => afr S (adefl v.2.1) (fun w S' => rec M op.2.1 lv (w :: st') frs S'))))
      | _, _ => false
    | _ => false
  | 20 => match st with
    | j :: v :: st' => match acell v, aterm j with
      | some (.inl (4, n, rs)), some u => (match aeqv (trng S.2.1 u) with
        | some z => zle 0 z && (zlt z (n : Int) && (match rs[z.toNat]? with
          | some q => rec M op.2.1 lv ((1, q, 0) :: st') frs S
          | none => false))
        | none => match u.1 with
          | some k => aspl S k (fun S' => match aeqv (trng S'.2.1 u) with
            | some z => zle 0 z && (zlt z (n : Int) && (match rs[z.toNat]? with
              | some q => rec M op.2.1 lv ((1, q, 0) :: st') frs S'
              | none => false))
            | none => false)
          | none => false)
      | _, _ => false
    | _ => false
  | 21 => match st with
    | x :: j :: v :: st' => match acell v, aterm j with
      | some (.inl (t, n, _)), some u => Nat.beq t op.2.2.1 && (akdb 0 x && (zle 0 (trng S.2.1 u).1 && (zlt (trng S.2.1 u).2 (n : Int) && ((match t with
          | 0 => true
          | 1 => ain (arng S.2.1 x) (-128, 127)
          | 3 => ain (arng S.2.1 x) (0, 1)
          | _ => false) && (match aeqv (trng S.2.1 u) with
        | some z => awrS c S v.2.1 z.toNat x (fun S' => rec M op.2.1 lv st' frs S')
        | none => awrA c S v.2.1 x (fun S' => rec M op.2.1 lv st' frs S'))))))
      | _, _ => false
    | _ => false
  | 26 => match st with
    | n :: dp :: dv :: sp :: sv :: st' => match acell sv, acell dv, aterm n, aterm dp, aterm sp with
      | some (.inl (0, n0, _)), some (.inl (0, n1, _)), some tn, some td, some ts => Nat.ble (asum st') 8 && (zle 0 (trng S.2.1 tn).1 && (zle 0 (trng S.2.1 td).1 && (zle 0 (trng S.2.1 ts).1 && (zle ((trng S.2.1 ts).2 + (trng S.2.1 tn).2) (n0 : Int) && (zle ((trng S.2.1 td).2 + (trng S.2.1 tn).2) (n1 : Int) && ((match (aent dv.2.1).2 with
          | [] => true
          | _ => false) && (ain (adefl sv.2.1) (aent dv.2.1).1 && (amodA (acW c) dv.2.1 && rec M op.2.1 lv st' frs (adropA dv.2.1 S.1, S.2.1, S.2.2)))))))))
      | _, _, _, _, _ => false
    | _ => false
  | 27 => acall T c M rec op.2.1 op.2.2.1 0 lv st frs S
  | 47 => acall T c M rec op.2.1 op.2.2.1 0 lv st frs S
  | 28 => (match xmt[op.2.2.1]? with
    | some M' => match st.drop (xMn M') with
      | v :: _ => match acell v with
        | some (.inr (ci, _)) => Nat.beq ci op.2.2.2.1
        | _ => false
      | _ => false
    | none => false) && acall T c M rec op.2.1 op.2.2.1 1 lv st frs S
  | 30 => match st with
    | [v] => akdb 0 v && ((Nat.beq op.2.2.2.1 0 || Nat.beq op.2.2.2.1 3 && ain (arng S.2.1 v) (0, 1)) && aretn c rec (some v) frs S)
    | _ => false
  | 31 => match st with
    | [v] => akdb 2 v && aretn c rec (some v) frs S
    | _ => false
  | 32 => match st with
    | [] => aretn c rec none frs S
    | _ => false
  | 60 => match st with
    | y :: x :: st' => akdb 2 x && (akdb 2 y && afrL S (fun w S' => rec M op.2.1 lv (w :: st') frs S'))
    | _ => false
  | 61 => match st with
    | y :: x :: st' => akdb 2 x && (anz S y && afrL S (fun w S' => rec M op.2.1 lv (w :: st') frs S'))
    | _ => false
  | 62 => match st with
    | y :: x :: st' => akdb 2 x && (akdb 0 y && afrL S (fun w S' => rec M op.2.1 lv (w :: st') frs S'))
    | _ => false
  | 63 => match st with
    | y :: x :: st' => akdb 2 x && (akdb 0 y && afrL S (fun w S' => rec M op.2.1 lv (w :: st') frs S'))
    | _ => false
  | 64 => match st with
    | x :: st' => akdb 2 x && (if anz S x then rec M op.2.1 lv ((8, S.2.1.length, 0) :: st') frs (S.1, S.2.1 ++ [a64], (S.2.1.length, 0) :: S.2.2) else afrL S (fun w S' => rec M op.2.1 lv (w :: st') frs S'))
    | _ => false
  | 65 => match st with
    | x :: st' => akdb 0 x && afrL S (fun w S' => rec M op.2.1 lv (w :: st') frs S')
    | _ => false
  | 66 => match st with
    | x :: st' => akdb 2 x && afr S a32 (fun w S' => rec M op.2.1 lv (w :: st') frs S')
    | _ => false
  | 67 => match st with
    | j :: v :: st' => match acell v, aterm j with
      | some (.inl (2, n, _)), some u => zle 0 (trng S.2.1 u).1 && (zlt (trng S.2.1 u).2 (n : Int) && afrL S (fun w S' => rec M op.2.1 lv (w :: st') frs S'))
      | _, _ => false
    | _ => false
  | 68 => match st with
    | x :: j :: v :: st' => match acell v, aterm j with
      | some (.inl (2, n, _)), some u => akdb 2 x && (zle 0 (trng S.2.1 u).1 && (zlt (trng S.2.1 u).2 (n : Int) && ((match (aent v.2.1).2 with
          | [] => ain a32 (aent v.2.1).1
          | _ => false) && (amodA (acW c) v.2.1 && rec M op.2.1 lv st' frs (adropA v.2.1 S.1, S.2.1, S.2.2)))))
      | _, _ => false
    | _ => false
  | 70 => match st with
    | y :: x :: st' => match aterm x, aterm y with
      | some t, some u => Nat.ble (asum st') 8 && afr S (if Nat.beq op.2.2.1 0 then (zmin (trng S.2.1 t).1 (trng S.2.1 u).1, zmin (trng S.2.1 t).2 (trng S.2.1 u).2) else (zmax (trng S.2.1 t).1 (trng S.2.1 u).1, zmax (trng S.2.1 t).2 (trng S.2.1 u).2)) (fun w S' => rec M op.2.1 lv (w :: st') frs S')
      | _, _ => false
    | _ => false
  | 71 => match st with
    | y :: x :: st' => akdb 2 x && (akdb 2 y && (Nat.ble (asum st') 8 && afrL S (fun w S' => rec M op.2.1 lv (w :: st') frs S')))
    | _ => false
  | 72 => match st with
    | x :: st' => akdb 2 x && (Nat.ble (asum st') 8 && (if anz S x then rec M op.2.1 lv ((8, S.2.1.length, 0) :: st') frs (S.1, S.2.1 ++ [a64], (S.2.1.length, 0) :: S.2.2) else afrL S (fun w S' => rec M op.2.1 lv (w :: st') frs S')))
    | _ => false
  | _ => false
noncomputable def ago (T : List aCon) (c : aCon) (g : aRank) (rec : aRec) : aRec := fun M pc lv st frs S => match frs, acf (acC c) pc with
  | [], some q => (match st with
    | [] => acutc lv S g q
    | _ => false)
  | _, _ => match xfind (xMk M) pc with
    | none => false
    | some op => astep T c M rec op lv st frs S
noncomputable def ai (T : List aCon) (c : aCon) (g : aRank) (n : Nat) : aRec := Nat.rec (fun _ _ _ _ _ _ => false) (fun _ ih => ago T c g ih) n
theorem ai_succ (T : List aCon) (c : aCon) (g : aRank) (n : Nat) : ai T c g (n + 1) = ago T c g (ai T c g n) := rfl
noncomputable def arun (T : List aCon) (c : aCon) (g : aRank) (n : Nat) (M : xM) (pc : Nat) (lv : aL) (S : aSt) : Bool := match xfind (xMk M) pc with
  | none => false
  | some op => astep T c M (ai T c g n) op lv [] [] S
def abeg (a : aCut) : aL × aSt := ((albeg a.1 []).1, ((afbeg a.2.1 [] (albeg a.1 []).2).1, (afbeg a.2.1 [] (albeg a.1 []).2).2, []))
noncomputable def achkC (T : List aCon) (c : aCon) (n : Nat) (M : xM) (pc : Nat) : List aCut → Bool
  | [] => true
  | a :: r => aexok (abeg a).1 (abeg a).2 a.2.2.2.1 && aexok (abeg a).1 (abeg a).2 a.2.2.2.2 && arun T c (a.2.2.1, arr (abeg a).1 (abeg a).2 a.2.2.2.1, arr (abeg a).1 (abeg a).2 a.2.2.2.2) n M pc (abeg a).1 (abeg a).2 && achkC T c n M pc r
noncomputable def achkL (T : List aCon) (c : aCon) (n : Nat) (M : xM) : List (Nat × Nat × List aCut) → Bool
  | [] => true
  | q :: r => achkC T c n M q.1 q.2.2 && achkL T c n M r
def azr : aRk := (0, (none, 0), 0)
/-- a contract holds by a run of its method from its start and from each cut -/
noncomputable def achk (T : List aCon) (c : aCon) (n : Nat) : Bool := match xmt[acM c]? with
  | none => false
  | some M => Nat.ble 1 (acD c) && (arun T c (1000000, azr, azr) n M 0 (abeg (aidx 0 (acA c), acP c, 0, (0, 0, 0, 0, 0), (0, 0, 0, 0, 0))).1 (abeg (aidx 0 (acA c), acP c, 0, (0, 0, 0, 0, 0), (0, 0, 0, 0, 0))).2 && achkL T c n M (acC c))
end
section
/-! what abstract things mean, the symbols being ρ -/
def aok (ρ : List Int) (v : aV) (y : yV) : Prop := match v.1 with
  | 0 => y.1 = 0 ∧ w32 y.2 = v.2.2
  | 3 => y.1 = 0 ∧ ∃ x, ρ[v.2.1]? = some x ∧ w32 y.2 = x + v.2.2
  | 1 => y = (1, (v.2.1 : Int))
  | 4 => y.1 = 4 ∧ w64 y.2 = v.2.2
  | 8 => y.1 = 4 ∧ ρ[v.2.1]? = some (w64 y.2)
  | 9 => y.1 = 0 ∧ ∃ x, ρ[v.2.1]? = some x ∧ w32 y.2 = (if v.2.2 < x then 1 else if x = v.2.2 then 0 else -1)
  | _ => False
theorem agrow {ρ σ : List Int} {k : Nat} {x : Int} (h : ρ[k]? = some x) : (ρ ++ σ)[k]? = some x := by
  rw [List.getElem?_append_left (List.getElem?_eq_some_iff.mp h).1]
  exact h
theorem aok_grow {ρ σ : List Int} {v : aV} {y : yV} (h : aok ρ v y) : aok (ρ ++ σ) v y := by
  obtain ⟨t, k, c⟩ := v
  match t, h with
  | 0, h => exact h
  | 1, h => exact h
  | 3, ⟨h1, x, h2, h3⟩ => exact ⟨h1, x, agrow h2, h3⟩
  | 4, h => exact h
  | 8, ⟨h1, h2⟩ => exact ⟨h1, agrow h2⟩
  | 9, ⟨h1, x, h2, h3⟩ => exact ⟨h1, x, agrow h2, h3⟩
  | 2, h | 5, h | 6, h | 7, h => exact h.elim
  | n + 10, h => exact h.elim
def tv (ρ : List Int) (t : aT) (x : Int) : Prop := match t.1 with
  | none => x = t.2
  | some k => ∃ z, ρ[k]? = some z ∧ x = z + t.2
theorem tv_grow {ρ σ : List Int} {t : aT} {x : Int} (h : tv ρ t x) : tv (ρ ++ σ) t x := by
  obtain ⟨k, c⟩ := t
  cases k with
  | none => exact h
  | some k =>
    obtain ⟨z, h1, h2⟩ := h
    exact ⟨z, agrow h1, h2⟩
def aGok (mem : yMem) : Prop := ∀ i j, (agam i j).1 ≤ w32 (mem i j) ∧ w32 (mem i j) ≤ (agam i j).2
def aMok (ρ : List Int) (mp : aMp) (mem : yMem) : Prop := ∀ q ∈ mp, aok ρ q.2 (0, mem q.1.1 q.1.2)
def aIok (ρ : List Int) (iv : aI) : Prop := ρ.length = iv.length ∧ ∀ (k : Nat) (q : Int × Int), iv[k]? = some q → ∃ x, ρ[k]? = some x ∧ q.1 ≤ x ∧ x ≤ q.2
def aNok (ρ : List Int) (ne : aN) : Prop := ∀ q ∈ ne, ∃ x, ρ[q.1]? = some x ∧ x ≠ q.2
def aSat (ρ : List Int) (S : aSt) (mem : yMem) : Prop := aGok mem ∧ aMok ρ S.1 mem ∧ aIok ρ S.2.1 ∧ aNok ρ S.2.2
theorem aiv_ok {ρ : List Int} {iv : aI} (h : aIok ρ iv) {k : Nat} {x : Int} (hx : ρ[k]? = some x) : (aiv iv k).1 ≤ x ∧ x ≤ (aiv iv k).2 := by
  have hl : k < iv.length := by rw [← h.1]; exact (List.getElem?_eq_some_iff.mp hx).1
  have e : iv[k]? = some iv[k] := List.getElem?_eq_getElem hl
  obtain ⟨z, h1, h2, h3⟩ := h.2 k _ e
  rw [hx] at h1
  cases h1
  simp only [aiv, e]
  exact ⟨h2, h3⟩
theorem trng_ok {ρ : List Int} {iv : aI} (h : aIok ρ iv) {t : aT} {x : Int} (ht : tv ρ t x) : (trng iv t).1 ≤ x ∧ x ≤ (trng iv t).2 := by
  obtain ⟨k, c⟩ := t
  cases k with
  | none =>
    have : x = c := ht
    simp only [trng]
    omega
  | some k =>
    obtain ⟨z, h1, h2⟩ := ht
    have := aiv_ok h h1
    dsimp only at h2
    simp only [trng]
    omega
theorem aterm_ok {ρ : List Int} {v : aV} {t : aT} {y : yV} (h : aterm v = some t) (hv : aok ρ v y) : y.1 = 0 ∧ tv ρ t (w32 y.2) := by
  obtain ⟨g, k, c⟩ := v
  match g, h, hv with
  | 0, h, hv => cases h; exact ⟨hv.1, hv.2⟩
  | 3, h, ⟨h1, x, h2, h3⟩ => cases h; exact ⟨h1, x, h2, h3⟩
  | 1, h, _ | 2, h, _ => cases h
  | n + 4, h, _ => cases h
theorem aint {ρ : List Int} {v : aV} {y : yV} (h : akdb 0 v = true) (hv : aok ρ v y) : y.1 = 0 := by
  obtain ⟨g, k, c⟩ := v
  match g, h, hv with
  | 0, _, hv => exact hv.1
  | 3, _, hv => exact hv.1
  | 9, _, hv => exact hv.1
  | 1, h, _ | 2, h, _ | 4, h, _ | 5, h, _ | 6, h, _ | 7, h, _ | 8, h, _ => cases h
  | n + 10, h, _ => cases h
theorem along {ρ : List Int} {v : aV} {y : yV} (h : akdb 2 v = true) (hv : aok ρ v y) : y.1 = 4 := by
  obtain ⟨g, k, c⟩ := v
  match g, h, hv with
  | 4, _, hv => exact hv.1
  | 8, _, hv => exact hv.1
  | 0, h, _ | 1, h, _ | 2, h, _ | 3, h, _ | 5, h, _ | 6, h, _ | 7, h, _ => cases h
  | n + 9, h, _ => cases h
theorem arng_ok {ρ : List Int} {iv : aI} (h : aIok ρ iv) {v : aV} {y : yV} (hk : akdb 0 v = true) (hv : aok ρ v y) : (arng iv v).1 ≤ w32 y.2 ∧ w32 y.2 ≤ (arng iv v).2 := by
  unfold arng
  cases ht : aterm v with
  | some t => exact trng_ok h (aterm_ok ht hv).2
  | none =>
    have h1 := w32_lo y.2
    have h2 := w32_hi y.2
    exact ⟨h1, by show w32 y.2 ≤ 2147483647; omega⟩
theorem aset_ok {ρ : List Int} {iv : aI} (h : aIok ρ iv) {t : aT} {x lo hi : Int} (ht : tv ρ t x) (h1 : lo ≤ x) (h2 : x ≤ hi) : aIok ρ (aset iv t lo hi) := by
  obtain ⟨k, c⟩ := t
  cases k with
  | none => exact h
  | some k =>
    obtain ⟨z, g1, g2⟩ := ht
    dsimp only at g2
    unfold aset
    dsimp only
    cases hk : iv[k]? with
    | none => exact h
    | some q =>
      dsimp only
      refine ⟨by rw [List.length_set]; exact h.1, fun j r hj => ?_⟩
      by_cases e : j = k
      · subst e
        rw [List.getElem?_set_self (List.getElem?_eq_some_iff.mp hk).1] at hj
        cases hj
        obtain ⟨x', g3, g4, g5⟩ := h.2 j q hk
        rw [g1] at g3
        cases g3
        refine ⟨z, g1, ?_, ?_⟩
        · dsimp only; rw [zmax_ok]; omega
        · dsimp only; rw [zmin_ok]; omega
      · rw [List.getElem?_set_ne (Ne.symm e)] at hj
        exact h.2 j r hj
theorem acons_ok {ρ : List Int} {iv : aI} (h : aIok ρ iv) : acons iv = true := by
  have key : ∀ (l : aI), (∀ q ∈ l, q.1 ≤ q.2) → acons l = true := by
    intro l
    induction l with
    | nil => exact fun _ => rfl
    | cons q r ih =>
      intro hq
      simp only [acons, Bool.and_eq_true, zle_ok]
      exact ⟨hq q List.mem_cons_self, ih (fun z hz => hq z (List.mem_cons_of_mem _ hz))⟩
  refine key iv (fun q hq => ?_)
  obtain ⟨k, hk⟩ := List.getElem?_of_mem hq
  obtain ⟨x, -, h2, h3⟩ := h.2 k q hk
  omega
theorem akeep_ok {l : List (Bool × aI × aN)} {o : Bool × aI × aN} (h : o ∈ l) (hc : acons o.2.1 = true) : o ∈ akeep l := by
  induction l with
  | nil => cases h
  | cons q r ih =>
    simp only [akeep]
    rcases List.mem_cons.mp h with rfl | h
    · rw [if_pos hc]
      exact List.mem_cons_self
    · split
      · exact List.mem_cons_of_mem _ (ih h)
      · exact ih h
/-- one of the outcomes is the real one -/
def aOut (ρ : List Int) (l : List (Bool × aI × aN)) (P : Prop) : Prop := ∃ o ∈ l, (o.1 = true ↔ P) ∧ aIok ρ o.2.1 ∧ aNok ρ o.2.2
theorem adifk_ok {ρ : List Int} {iv : aI} {ne : aN} (h : aIok ρ iv) (hn : aNok ρ ne) {k : Nat} {c w : Int} (hw : ρ[k]? = some w) (hc : w ≠ c) : aIok ρ (adifk iv ne k c).1 ∧ aNok ρ (adifk iv ne k c).2 := by
  have hk := aiv_ok h hw
  have htk : tv ρ (some k, 0) w := ⟨w, hw, by dsimp only; omega⟩
  refine ⟨?_, ?_⟩
  · simp only [adifk]
    split
    · next e => rw [zeq_ok] at e; exact aset_ok h htk (by omega) (by omega)
    · split
      · next e => rw [zeq_ok] at e; exact aset_ok h htk (by omega) (by omega)
      · exact h
  · intro q hq
    rcases List.mem_cons.mp hq with rfl | hq
    · exact ⟨w, hw, hc⟩
    · exact hn q hq
theorem aeq_ok {ρ : List Int} {iv : aI} {ne : aN} (h : aIok ρ iv) (hn : aNok ρ ne) {t u : aT} {x y : Int} (ht : tv ρ t x) (hu : tv ρ u y) : aOut ρ (aeq iv ne t u) (x = y) := by
  have ha := trng_ok h ht
  have hb := trng_ok h hu
  unfold aeq
  dsimp only
  split
  · next hc =>
    simp only [Bool.and_eq_true, zle_ok] at hc
    exact ⟨_, List.mem_cons_self, ⟨fun _ => by omega, fun _ => rfl⟩, h, hn⟩
  · split
    · next hc =>
      simp only [Bool.or_eq_true, zlt_ok] at hc
      refine ⟨_, List.mem_cons_self, ⟨fun z => (by cases z), fun z => ?_⟩, h, hn⟩
      exfalso
      rcases hc with hc | hc | hc
      · omega
      · omega
      · obtain ⟨tk, tc⟩ := t
        obtain ⟨uk, uc⟩ := u
        cases tk with
        | none => cases hc
        | some k =>
          cases uk with
          | some _ => cases hc
          | none =>
            simp only [aneq, List.any_eq_true, Bool.and_eq_true, Nat.beq_eq, zeq_ok] at hc
            obtain ⟨q, hq, e1, e2⟩ := hc
            obtain ⟨w, g1, g2⟩ := hn q hq
            obtain ⟨w', g3, g4⟩ := ht
            rw [e1, g3] at g1
            cases g1
            have hu' : y = uc := hu
            dsimp only at g4
            exact g2 (by omega)
    · by_cases hxy : x = y
      · have h2 := aset_ok (aset_ok h ht (lo := (trng iv u).1) (hi := (trng iv u).2) (by omega) (by omega)) hu (lo := (trng iv t).1) (hi := (trng iv t).2) (by omega) (by omega)
        exact ⟨_, akeep_ok List.mem_cons_self (acons_ok h2), ⟨fun _ => hxy, fun _ => rfl⟩, h2, hn⟩
      · have h2 : aIok ρ (adif iv ne t u).1 ∧ aNok ρ (adif iv ne t u).2 := by
          obtain ⟨tk, tc⟩ := t
          obtain ⟨uk, uc⟩ := u
          cases tk with
          | none =>
            cases uk with
            | none => exact ⟨h, hn⟩
            | some k =>
              obtain ⟨w, g3, g4⟩ := hu
              have ht' : x = tc := ht
              dsimp only at g4
              exact adifk_ok h hn g3 (by dsimp only; omega)
          | some k =>
            cases uk with
            | some _ => exact ⟨h, hn⟩
            | none =>
              obtain ⟨w, g3, g4⟩ := ht
              have hu' : y = uc := hu
              dsimp only at g4
              exact adifk_ok h hn g3 (by dsimp only; omega)
        exact ⟨(false, adif iv ne t u), akeep_ok (List.mem_cons_of_mem _ List.mem_cons_self) (acons_ok h2.1), ⟨fun z => (by cases z), fun z => absurd z hxy⟩, h2.1, h2.2⟩
theorem alt_ok {ρ : List Int} {iv : aI} {ne : aN} (h : aIok ρ iv) (hn : aNok ρ ne) {t u : aT} {x y : Int} (ht : tv ρ t x) (hu : tv ρ u y) : aOut ρ (alt iv ne t u) (x < y) := by
  have ha := trng_ok h ht
  have hb := trng_ok h hu
  unfold alt
  dsimp only
  split
  · next hc =>
    rw [zlt_ok] at hc
    exact ⟨_, List.mem_cons_self, ⟨fun _ => by omega, fun _ => rfl⟩, h, hn⟩
  · split
    · next hc =>
      rw [zle_ok] at hc
      exact ⟨_, List.mem_cons_self, ⟨fun z => (by cases z), fun z => absurd z (by omega)⟩, h, hn⟩
    · by_cases hxy : x < y
      · have h2 := aset_ok (aset_ok h ht (lo := (trng iv t).1) (hi := (trng iv u).2 - 1) (by omega) (by omega)) hu (lo := (trng iv t).1 + 1) (hi := (trng iv u).2) (by omega) (by omega)
        exact ⟨_, akeep_ok List.mem_cons_self (acons_ok h2), ⟨fun _ => hxy, fun _ => rfl⟩, h2, hn⟩
      · have h2 := aset_ok (aset_ok h ht (lo := (trng iv u).1) (hi := (trng iv t).2) (by omega) (by omega)) hu (lo := (trng iv u).1) (hi := (trng iv t).2) (by omega) (by omega)
        exact ⟨_, akeep_ok (List.mem_cons_of_mem _ List.mem_cons_self) (acons_ok h2), ⟨fun z => (by cases z), fun z => absurd z hxy⟩, h2, hn⟩
theorem anot_ok {ρ : List Int} {l : List (Bool × aI × aN)} {P : Prop} (h : aOut ρ l P) : aOut ρ (anot l) (¬ P) := by
  obtain ⟨o, ho, h1, h2⟩ := h
  have key : ∀ l : List (Bool × aI × aN), o ∈ l → (!o.1, o.2) ∈ anot l := by
    intro l
    induction l with
    | nil => exact fun z => (by cases z)
    | cons q r ih =>
      intro z
      rcases List.mem_cons.mp z with rfl | z
      · exact List.mem_cons_self
      · exact List.mem_cons_of_mem _ (ih z)
  refine ⟨_, key l ho, ?_, h2⟩
  rw [← h1]
  cases o.1 <;> simp
def relc (c : Nat) (x y : Int) : Prop := match c with
  | 0 => x = y
  | 1 => ¬ x = y
  | 2 => x < y
  | 3 => y ≤ x
  | 4 => y < x
  | _ => x ≤ y
theorem aOut.iff {ρ : List Int} {l : List (Bool × aI × aN)} {P Q : Prop} (h : aOut ρ l P) (hq : P ↔ Q) : aOut ρ l Q := by
  obtain ⟨o, ho, h1, h2⟩ := h
  exact ⟨o, ho, h1.trans hq, h2⟩
theorem acmp_ok {ρ : List Int} {iv : aI} {ne : aN} (h : aIok ρ iv) (hn : aNok ρ ne) {t u : aT} {x y : Int} (ht : tv ρ t x) (hu : tv ρ u y) (c : Nat) : aOut ρ (acmp c iv ne t u) (relc c x y) := by
  match c with
  | 0 => exact aeq_ok h hn ht hu
  | 1 => exact anot_ok (aeq_ok h hn ht hu)
  | 2 => exact alt_ok h hn ht hu
  | 3 => exact (anot_ok (alt_ok h hn ht hu)).iff (by simp only [relc]; omega)
  | 4 => exact alt_ok h hn hu ht
  | n + 5 => exact (anot_ok (alt_ok h hn hu ht)).iff (by simp only [relc]; omega)
theorem ycp_rel (c : Nat) (x y : Int) : ycp c x y ↔ relc c (w32 x) (w32 y) := by
  match c with
  | 0 | 1 | 2 | 3 | 4 => exact Iff.rfl
  | n + 5 => exact Iff.rfl
theorem aall_ok {l : List (Bool × aI × aN)} {f : Bool → aI → aN → Bool} (h : aall l f = true) {o : Bool × aI × aN} (ho : o ∈ l) : f o.1 o.2.1 o.2.2 = true := by
  induction l with
  | nil => cases ho
  | cons q r ih =>
    simp only [aall, Bool.and_eq_true] at h
    rcases List.mem_cons.mp ho with rfl | ho
    · exact h.1
    · exact ih h.2 ho
/-- a new symbol -/
theorem aI_new {ρ : List Int} {iv : aI} (h : aIok ρ iv) {x : Int} {q : Int × Int} (h1 : q.1 ≤ x) (h2 : x ≤ q.2) : aIok (ρ ++ [x]) (iv ++ [q]) ∧ (ρ ++ [x])[iv.length]? = some x := by
  have hx : (ρ ++ [x])[iv.length]? = some x := by
    rw [← h.1, List.getElem?_append_right (Nat.le_refl _)]
    simp
  refine ⟨⟨by simp [h.1], fun k r hk => ?_⟩, hx⟩
  by_cases e : k < iv.length
  · rw [List.getElem?_append_left e] at hk
    obtain ⟨z, g1, g2, g3⟩ := h.2 k r hk
    exact ⟨z, agrow g1, g2, g3⟩
  · have : k < (iv ++ [q]).length := (List.getElem?_eq_some_iff.mp hk).1
    have e2 : k = iv.length := by
      simp at this
      omega
    subst e2
    rw [List.getElem?_append_right (Nat.le_refl _)] at hk
    simp at hk
    subst hk
    exact ⟨x, hx, h1, h2⟩
theorem aM_grow {ρ σ : List Int} {mp : aMp} {mem : yMem} (h : aMok ρ mp mem) : aMok (ρ ++ σ) mp mem := fun q hq => aok_grow (h q hq)
theorem aN_grow {ρ σ : List Int} {ne : aN} (h : aNok ρ ne) : aNok (ρ ++ σ) ne := fun q hq => by
  obtain ⟨x, h1, h2⟩ := h q hq
  exact ⟨x, agrow h1, h2⟩
theorem aS_new {ρ : List Int} {S : aSt} {mem : yMem} (h : aSat ρ S mem) {x : Int} {q : Int × Int} (h1 : q.1 ≤ x) (h2 : x ≤ q.2) : aSat (ρ ++ [x]) (anew S q) mem ∧ (ρ ++ [x])[S.2.1.length]? = some x := by
  obtain ⟨g1, g2, g3, g4⟩ := h
  obtain ⟨k1, k2⟩ := aI_new g3 h1 h2
  exact ⟨⟨g1, aM_grow g2, k1, aN_grow g4⟩, k2⟩
/-! locals and stack -/
theorem acat_ok {ρ : List Int} {v : aV} {y : yV} (h : aok ρ v y) : acat v = ycat y := by
  obtain ⟨g, k, c⟩ := v
  obtain ⟨y1, y2⟩ := y
  match g, h with
  | 0, h => have e : y1 = 0 := h.1; subst e; rfl
  | 3, h => have e : y1 = 0 := h.1; subst e; rfl
  | 9, h => have e : y1 = 0 := h.1; subst e; rfl
  | 1, h => have e : ((y1, y2) : yV) = (1, (k : Int)) := h; cases e; rfl
  | 4, h => have e : y1 = 4 := h.1; subst e; rfl
  | 8, h => have e : y1 = 4 := h.1; subst e; rfl
  | 2, h | 5, h | 6, h | 7, h => exact h.elim
  | n + 10, h => exact h.elim
def aLm (ρ : List Int) : aL → yL → Prop
  | [], [] => True
  | q :: r, p :: s => q.1 = p.1 ∧ aok ρ q.2 p.2 ∧ aLm ρ r s
  | _, _ => False
def aSm (ρ : List Int) : List aV → List yV → Prop
  | [], [] => True
  | v :: r, y :: s => aok ρ v y ∧ aSm ρ r s
  | _, _ => False
theorem aLm_grow {ρ σ : List Int} : ∀ {lv : aL} {l : yL}, aLm ρ lv l → aLm (ρ ++ σ) lv l
  | [], [], _ => trivial
  | _ :: _, _ :: _, h => ⟨h.1, aok_grow h.2.1, aLm_grow h.2.2⟩
  | [], _ :: _, h => h.elim
  | _ :: _, [], h => h.elim
theorem aSm_grow {ρ σ : List Int} : ∀ {st : List aV} {l : List yV}, aSm ρ st l → aSm (ρ ++ σ) st l
  | [], [], _ => trivial
  | _ :: _, _ :: _, h => ⟨aok_grow h.1, aSm_grow h.2⟩
  | [], _ :: _, h => h.elim
  | _ :: _, [], h => h.elim
theorem alk_ok {ρ : List Int} {i : Nat} {v : aV} : ∀ {lv : aL} {l : yL}, aLm ρ lv l → alk lv i = some v → ∃ y, ylk l i = some y ∧ aok ρ v y
  | [], [], _, h => by cases h
  | q :: r, p :: s, hm, h => by
    simp only [alk] at h
    split at h
    · next he =>
      cases h
      refine ⟨p.2, ?_, hm.2.1⟩
      simp only [ylk]
      rw [← hm.1, if_pos he]
    · next he =>
      obtain ⟨y, h1, h2⟩ := alk_ok hm.2.2 h
      refine ⟨y, ?_, h2⟩
      simp only [ylk]
      rw [← hm.1, if_neg he]
      exact h1
  | [], _ :: _, hm, _ => hm.elim
  | _ :: _, [], hm, _ => hm.elim
theorem aflt_ok {ρ : List Int} {k i : Nat} : ∀ {lv : aL} {l : yL}, aLm ρ lv l → aLm ρ (aflt k i lv) (l.filter (yflb k i))
  | [], [], _ => trivial
  | q :: r, p :: s, hm => by
    have e : aflb k i q = yflb k i p := by
      match k with
      | 0 | 1 => simp only [aflb, yflb, hm.1, acat_ok hm.2.1]
      | 2 => simp only [aflb, yflb, hm.1, acat_ok hm.2.1]
      | n + 3 => simp only [aflb, yflb, hm.1, acat_ok hm.2.1]
    simp only [aflt, List.filter_cons]
    rw [e]
    split
    · exact ⟨hm.1, hm.2.1, aflt_ok hm.2.2⟩
    · exact aflt_ok hm.2.2
  | [], _ :: _, hm => hm.elim
  | _ :: _, [], hm => hm.elim
theorem aSm_len {ρ : List Int} : ∀ {st : List aV} {l : List yV}, aSm ρ st l → st.length = l.length
  | [], [], _ => rfl
  | _ :: _, _ :: _, h => by simp [aSm_len h.2]
  | [], _ :: _, h => h.elim
  | _ :: _, [], h => h.elim
theorem aSm_drop {ρ : List Int} : ∀ (n : Nat) {st : List aV} {l : List yV}, aSm ρ st l → aSm ρ (st.drop n) (l.drop n)
  | 0, _, _, h => h
  | n + 1, [], [], _ => trivial
  | n + 1, _ :: _, _ :: _, h => aSm_drop n h.2
  | _ + 1, [], _ :: _, h => h.elim
  | _ + 1, _ :: _, [], h => h.elim
theorem aSm_take {ρ : List Int} : ∀ (n : Nat) {st : List aV} {l : List yV}, aSm ρ st l → aSm ρ (st.take n) (l.take n)
  | 0, _, _, _ => trivial
  | n + 1, [], [], _ => trivial
  | n + 1, _ :: _, _ :: _, h => ⟨h.1, aSm_take n h.2⟩
  | _ + 1, [], _ :: _, h => h.elim
  | _ + 1, _ :: _, [], h => h.elim
theorem aSm_app {ρ : List Int} {b : List aV} {d : List yV} (hb : aSm ρ b d) : ∀ {a : List aV} {c : List yV}, aSm ρ a c → aSm ρ (a ++ b) (c ++ d)
  | [], [], _ => hb
  | _ :: _, _ :: _, h => ⟨h.1, aSm_app hb h.2⟩
  | [], _ :: _, h => h.elim
  | _ :: _, [], h => h.elim
theorem aSm_rev {ρ : List Int} : ∀ {a : List aV} {c : List yV}, aSm ρ a c → aSm ρ a.reverse c.reverse
  | [], [], _ => trivial
  | v :: r, y :: s, h => by
    rw [List.reverse_cons, List.reverse_cons]
    exact aSm_app (b := [v]) (d := [y]) ⟨h.1, trivial⟩ (aSm_rev h.2)
  | [], _ :: _, h => h.elim
  | _ :: _, [], h => h.elim
theorem asum_ok {ρ : List Int} : ∀ {a : List aV} {c : List yV}, aSm ρ a c → asum a = ysum c
  | [], [], _ => rfl
  | _ :: _, _ :: _, h => by simp only [asum, ysum, acat_ok h.1, asum_ok h.2]
  | [], _ :: _, h => h.elim
  | _ :: _, [], h => h.elim
theorem aargl_ok {ρ : List Int} : ∀ (i : Nat) {a : List aV} {c : List yV}, aSm ρ a c → aLm ρ (aargl i a) (yargs i c)
  | _, [], [], _ => trivial
  | i, _ :: _, _ :: _, h => by
    refine ⟨rfl, h.1, ?_⟩
    rw [acat_ok h.1]
    exact aargl_ok _ h.2
  | _, [], _ :: _, h => h.elim
  | _, _ :: _, [], h => h.elim
end
section
/-! the operations -/
def aGets (ρ : List Int) (mem : yMem) (y : yV) (k : aV → aSt → Bool) : Prop := ∃ (σ : List Int) (v : aV) (S' : aSt), k v S' = true ∧ aSat (ρ ++ σ) S' mem ∧ aok (ρ ++ σ) v y
theorem aGets.here {ρ : List Int} {S : aSt} {mem : yMem} {y : yV} {k : aV → aSt → Bool} {v : aV} (h : k v S = true) (hS : aSat ρ S mem) (hv : aok ρ v y) : aGets ρ mem y k := ⟨[], v, S, h, by rw [List.append_nil]; exact hS, by rw [List.append_nil]; exact hv⟩
theorem afr_ok {ρ : List Int} {S : aSt} {mem : yMem} {q : Int × Int} {k : aV → aSt → Bool} {z : Int} (h : afr S q k = true) (hS : aSat ρ S mem) (h1 : q.1 ≤ w32 z) (h2 : w32 z ≤ q.2) : aGets ρ mem (0, z) k := by
  obtain ⟨g1, g2⟩ := aS_new hS h1 h2
  exact ⟨[w32 z], _, _, h, g1, rfl, w32 z, g2, by show w32 z = w32 z + 0; omega⟩
theorem afr32_ok {ρ : List Int} {S : aSt} {mem : yMem} {k : aV → aSt → Bool} {z : Int} (h : afr S a32 k = true) (hS : aSat ρ S mem) : aGets ρ mem (0, z) k := by
  have h1 := w32_lo z
  have h2 := w32_hi z
  exact afr_ok h hS h1 (by show w32 z ≤ 2147483647; omega)
theorem afit_ok {ρ : List Int} {S : aSt} {mem : yMem} {q : Int × Int} {k : aV → aSt → Bool} {z : Int} (h : afit S q k = true) (hS : aSat ρ S mem) (h1 : ain q a32 = true → q.1 ≤ w32 z ∧ w32 z ≤ q.2) : aGets ρ mem (0, z) k := by
  unfold afit at h
  split at h
  · next hc => exact afr_ok h hS (h1 hc).1 (h1 hc).2
  · exact afr32_ok h hS
theorem afrL_ok {ρ : List Int} {S : aSt} {mem : yMem} {k : aV → aSt → Bool} {z : Int} (h : afrL S k = true) (hS : aSat ρ S mem) : aGets ρ mem (4, z) k := by
  have h1 := w64_lo z
  have h2 := w64_hi z
  obtain ⟨g1, g2⟩ := aS_new hS (q := a64) (x := w64 z) h1 (by show w64 z ≤ 9223372036854775807; omega)
  exact ⟨[w64 z], _, _, h, g1, rfl, g2⟩
theorem amlk_ok {mp : aMp} {i j : Nat} {v : aV} (h : amlk mp i j = some v) : ((i, j), v) ∈ mp := by
  induction mp with
  | nil => cases h
  | cons q r ih =>
    simp only [amlk] at h
    split at h
    · next he =>
      simp only [Bool.and_eq_true, Nat.beq_eq] at he
      cases h
      obtain ⟨⟨a, b⟩, w⟩ := q
      obtain ⟨rfl, rfl⟩ := he
      exact List.mem_cons_self
    · exact List.mem_cons_of_mem _ (ih h)
theorem ardS_ok {ρ : List Int} {S : aSt} {mem : yMem} {i j : Nat} {k : aV → aSt → Bool} (h : ardS S i j k = true) (hS : aSat ρ S mem) : aGets ρ mem (0, mem i j) k := by
  unfold ardS at h
  split at h
  · next v hv => exact aGets.here h hS (hS.2.1 _ (amlk_ok hv))
  · have hg := hS.1 i j
    obtain ⟨g1, g2⟩ := aS_new hS (q := agam i j) (x := w32 (mem i j)) hg.1 hg.2
    have hv : aok (ρ ++ [w32 (mem i j)]) (3, S.2.1.length, 0) (0, mem i j) := ⟨rfl, _, g2, by show w32 (mem i j) = w32 (mem i j) + 0; omega⟩
    refine ⟨[w32 (mem i j)], _, _, h, ⟨g1.1, fun q hq => ?_, g1.2.2⟩, hv⟩
    rcases List.mem_cons.mp hq with rfl | hq
    · exact hv
    · exact g1.2.1 q hq
theorem w32_add (x y : Int) : w32 (x + y) = w32 (w32 x + w32 y) := by
  show (iI (x + y)).toInt = (iI (w32 x + w32 y)).toInt
  rw [show iI (x + y) = iI x + iI y from Int32.ofInt_add x y, show iI (w32 x + w32 y) = iI (w32 x) + iI (w32 y) from Int32.ofInt_add _ _, iI_w, iI_w]
theorem w32_sub (x y : Int) : w32 (x - y) = w32 (w32 x - w32 y) := by
  show (iI (x - y)).toInt = (iI (w32 x - w32 y)).toInt
  rw [show iI (x - y) = iI x - iI y from Int32.ofInt_sub x y, show iI (w32 x - w32 y) = iI (w32 x) - iI (w32 y) from Int32.ofInt_sub _ _, iI_w, iI_w]
theorem w32_mul (x y : Int) : w32 (x * y) = w32 (w32 x * w32 y) := by
  show (iI (x * y)).toInt = (iI (w32 x * w32 y)).toInt
  rw [show iI (x * y) = iI x * iI y from Int32.ofInt_mul x y, show iI (w32 x * w32 y) = iI (w32 x) * iI (w32 y) from Int32.ofInt_mul _ _, iI_w, iI_w]
theorem iI_nat {x : Int} (h : 0 ≤ w32 x) : iI x = nI (w32 x).toNat := by
  rw [← iI_n, Int.toNat_of_nonneg h, iI_w]
theorem nI_t {n : Nat} (h : n < 2147483648) : (nI n).toInt = (n : Int) := nI_toInt (by omega)
theorem y_and {x y : Int} (h : 0 ≤ w32 y) : 0 ≤ (fbin 3 (iI x) (iI y)).toInt ∧ (fbin 3 (iI x) (iI y)).toInt ≤ w32 y := by
  have h2 := w32_hi y
  have e1 : iI x = nI ((iI x).toBitVec.toNat) := by
    apply Int32.toBitVec_inj.mp
    rw [nI_bv]
    simp
  rw [e1, iI_nat h]
  have e2 : fbin 3 (nI (iI x).toBitVec.toNat) (nI (w32 y).toNat) = nI (Nat.land (iI x).toBitVec.toNat (w32 y).toNat) := xbin_ok (o := 3) rfl
  rw [e2]
  have h3 : Nat.land (iI x).toBitVec.toNat (w32 y).toNat ≤ (w32 y).toNat := Nat.and_le_right
  rw [nI_t (by omega)]
  omega
theorem fbin3_comm (a b : Int32) : fbin 3 a b = fbin 3 b a := Int32.and_comm a b
theorem a2p_ok : ∀ (n : Nat) (b : Int), a2p n b = b * 2 ^ n
  | 0, b => by simp [a2p]
  | n + 1, b => by
    rw [a2p, a2p_ok n (b + b), Int.pow_succ]
    rw [← Int.two_mul, Int.mul_comm (2 ^ n : Int) 2, ← Int.mul_assoc, Int.mul_comm b 2]
theorem aones_ok {h : Int} : ∀ (n : Nat) (k : Nat) (b : Int) {r : Int}, b = 2 ^ k → aones h n b = some r → k + n ≤ 31 → ∃ j, j < 31 ∧ r = 2 ^ j - 1 ∧ h ≤ r
  | 0, k, b, r, hb, e, hk => by cases e
  | n + 1, k, b, r, hb, e, hk => by
    simp only [aones] at e
    split at e
    · next hc =>
      rw [zlt_ok] at hc
      cases e
      exact ⟨k, by omega, by rw [hb], by omega⟩
    · refine aones_ok n (k + 1) (b + b) ?_ e (by omega)
      rw [hb, Int.pow_succ]
      omega
theorem y_or {x y : Int} {k : Nat} (hk : k < 31) (hx : 0 ≤ w32 x) (hy : 0 ≤ w32 y) (h1 : w32 x ≤ 2 ^ k - 1) (h2 : w32 y ≤ 2 ^ k - 1) : 0 ≤ (fbin 4 (iI x) (iI y)).toInt ∧ (fbin 4 (iI x) (iI y)).toInt ≤ 2 ^ k - 1 := by
  rw [iI_nat hx, iI_nat hy]
  have e2 : fbin 4 (nI (w32 x).toNat) (nI (w32 y).toNat) = nI (Nat.lor (w32 x).toNat (w32 y).toNat) := xbin_ok (o := 4) rfl
  rw [e2]
  have hp : ((2 ^ k : Nat) : Int) = 2 ^ k := by simp
  have h3 : Nat.lor (w32 x).toNat (w32 y).toNat < 2 ^ k := Nat.or_lt_two_pow (by omega) (by omega)
  have h4 : 2 ^ k ≤ 2 ^ 30 := Nat.pow_le_pow_right (by omega) (by omega)
  rw [nI_t (by omega)]
  omega
theorem y_shl1 {x y : Int} (hx : w32 x = 1) (h1 : 0 ≤ w32 y) (h2 : w32 y ≤ 20) : (fbin 6 (iI x) (iI y)).toInt = 2 ^ (w32 y).toNat := by
  have e1 : iI x = nI 1 := by rw [iI_nat (by omega), hx]; rfl
  rw [e1, iI_nat h1]
  have key : ∀ n : Fin 21, (fbin 6 (nI 1) (nI n.val)).toInt = 2 ^ n.val := by decide +kernel
  exact key ⟨(w32 y).toNat, by omega⟩
theorem y_shr {x y : Int} (hx : 0 ≤ w32 x) : 0 ≤ (fbin 7 (iI x) (iI y)).toInt ∧ (fbin 7 (iI x) (iI y)).toInt ≤ w32 x := by
  have h2 := w32_hi x
  rw [iI_nat hx]
  have e : fbin 7 (nI (w32 x).toNat) (iI y) = nI ((w32 x).toNat / 2 ^ ((iI y &&& 31).toBitVec.smod 32).toNat) := pk_shrN (by omega) _ _ rfl
  rw [e]
  have h3 : (w32 x).toNat / 2 ^ ((iI y &&& 31).toBitVec.smod 32).toNat ≤ (w32 x).toNat := Nat.div_le_self _ _
  generalize (w32 x).toNat / 2 ^ ((iI y &&& 31).toBitVec.smod 32).toNat = q at h3 ⊢
  rw [nI_t (by omega)]
  omega
theorem y_div {x y : Int} (hx : 0 ≤ w32 x) (hy : 1 ≤ w32 y) : (fbin 9 (iI x) (iI y)).toInt = w32 x / w32 y := by
  have h2 := w32_hi x
  have h3 := w32_hi y
  rw [iI_nat hx, iI_nat (show 0 ≤ w32 y by omega)]
  have e : fbin 9 (nI (w32 x).toNat) (nI (w32 y).toNat) = nI ((w32 x).toNat / (w32 y).toNat) := pk_div (by omega) (by omega) (by omega)
  rw [e]
  have h4 : (w32 x).toNat / (w32 y).toNat ≤ (w32 x).toNat := Nat.div_le_self _ _
  rw [nI_t (by omega), Int.natCast_ediv]
  congr 1 <;> omega
theorem y_rem {x y : Int} (hx : 0 ≤ w32 x) (hy : 1 ≤ w32 y) : (fbin 10 (iI x) (iI y)).toInt = w32 x % w32 y := by
  have h2 := w32_hi x
  have h3 := w32_hi y
  rw [iI_nat hx, iI_nat (show 0 ≤ w32 y by omega)]
  have e : fbin 10 (nI (w32 x).toNat) (nI (w32 y).toNat) = nI ((w32 x).toNat % (w32 y).toNat) := pk_rem (by omega) (by omega) (by omega)
  rw [e]
  have h4 : (w32 x).toNat % (w32 y).toNat < (w32 y).toNat := Nat.mod_lt _ (by omega)
  rw [nI_t (by omega), Int.natCast_emod]
  congr 1 <;> omega
theorem ain_ok {q r : Int × Int} : ain q r = true ↔ r.1 ≤ q.1 ∧ q.2 ≤ r.2 := by
  unfold ain
  rw [Bool.and_eq_true, zle_ok, zle_ok]
theorem a64_no : ¬ ain a64 a32 = true := by decide
/-- a result is within its interval -/
theorem abinr_ok {o : Nat} {a b : Int × Int} {x y : Int} (ha1 : a.1 ≤ w32 x) (ha2 : w32 x ≤ a.2) (hb1 : b.1 ≤ w32 y) (hb2 : w32 y ≤ b.2) (h : ain (abinr o a b) a32 = true) : (abinr o a b).1 ≤ w32 (ybin o x y) ∧ w32 (ybin o x y) ≤ (abinr o a b).2 := by
  have wt : ∀ z : Int32, w32 z.toInt = z.toInt := fun z => by
    have h1 := Int32.le_toInt z
    have h2 := Int32.toInt_lt z
    exact w32_of (by simpa using h1) (by simpa using h2)
  match o, h with
  | 0, h =>
    rw [ain_ok] at h
    simp only [abinr, a32] at h ⊢
    show _ ≤ w32 (x + y) ∧ w32 (x + y) ≤ _
    rw [w32_add, w32_of (by omega) (by omega)]
    omega
  | 1, h =>
    rw [ain_ok] at h
    simp only [abinr, a32] at h ⊢
    show _ ≤ w32 (x - y) ∧ w32 (x - y) ≤ _
    rw [w32_sub, w32_of (by omega) (by omega)]
    omega
  | 2, h =>
    simp only [abinr] at h ⊢
    split
    · next hc =>
      rw [if_pos hc, ain_ok] at h
      simp only [Bool.and_eq_true, zle_ok] at hc
      simp only [a32] at h
      show a.1 * b.1 ≤ w32 (x * y) ∧ w32 (x * y) ≤ a.2 * b.2
      have m1 : a.1 * b.1 ≤ w32 x * w32 y := Int.mul_le_mul ha1 hb1 hc.2 (by omega)
      have m2 : w32 x * w32 y ≤ a.2 * b.2 := Int.mul_le_mul ha2 hb2 (by omega) (by omega)
      rw [w32_mul, w32_of (by omega) (by omega)]
      exact ⟨m1, m2⟩
    · next hc =>
      rw [if_neg hc] at h
      exact absurd h a64_no
  | 3, h =>
    simp only [abinr] at h ⊢
    rw [show w32 (ybin 3 x y) = (fbin 3 (iI x) (iI y)).toInt from wt _]
    split
    · next hc =>
      rw [zle_ok] at hc
      have := y_and (x := x) (y := y) (by omega)
      exact ⟨this.1, by omega⟩
    · next hc =>
      rw [if_neg hc] at h
      split
      · next hc2 =>
        rw [zle_ok] at hc2
        have := y_and (x := y) (y := x) (by omega)
        rw [fbin3_comm]
        exact ⟨this.1, by omega⟩
      · next hc2 =>
        rw [if_neg hc2] at h
        exact absurd h a64_no
  | 4, h =>
    simp only [abinr] at h ⊢
    rw [show w32 (ybin 4 x y) = (fbin 4 (iI x) (iI y)).toInt from wt _]
    split
    · next hc =>
      rw [if_pos hc] at h
      simp only [Bool.and_eq_true, zle_ok] at hc
      cases hr : aones (zmax a.2 b.2) 21 1 with
      | none =>
        rw [hr] at h
        exact absurd h a64_no
      | some r =>
        dsimp only
        obtain ⟨j, hj, e, hm⟩ := aones_ok 21 0 1 (by simp) hr (by omega)
        rw [zmax_ok] at hm
        rw [e] at hm ⊢
        exact y_or (x := x) (y := y) hj (by omega) (by omega) (by omega) (by omega)
    · next hc =>
      rw [if_neg hc] at h
      exact absurd h a64_no
  | 6, h =>
    simp only [abinr] at h ⊢
    rw [show w32 (ybin 6 x y) = (fbin 6 (iI x) (iI y)).toInt from wt _]
    split
    · next hc =>
      simp only [Bool.and_eq_true, zle_ok, zeq_ok] at hc
      rw [y_shl1 (by omega) (by omega) (by omega), a2p_ok, Int.one_mul]
      have h1 : (2 : Nat) ^ (w32 y).toNat ≤ 2 ^ b.2.toNat := Nat.pow_le_pow_right (by omega) (by omega)
      have h2 : 1 ≤ (2 : Nat) ^ (w32 y).toNat := Nat.one_le_two_pow
      have e1 : ((2 : Nat) ^ (w32 y).toNat : Nat) = ((2 : Int) ^ (w32 y).toNat) := by simp
      have e2 : ((2 : Nat) ^ b.2.toNat : Nat) = ((2 : Int) ^ b.2.toNat) := by simp
      rw [← e1, ← e2]
      dsimp only
      omega
    · next hc =>
      rw [if_neg hc] at h
      exact absurd h a64_no
  | 7, h =>
    simp only [abinr] at h ⊢
    rw [show w32 (ybin 7 x y) = (fbin 7 (iI x) (iI y)).toInt from wt _]
    split
    · next hc =>
      rw [zle_ok] at hc
      have := y_shr (x := x) (y := y) (by omega)
      exact ⟨this.1, by dsimp only; omega⟩
    · next hc =>
      rw [if_neg hc] at h
      exact absurd h a64_no
  | 9, h =>
    simp only [abinr] at h ⊢
    rw [show w32 (ybin 9 x y) = (fbin 9 (iI x) (iI y)).toInt from wt _]
    split
    · next hc =>
      simp only [Bool.and_eq_true, zle_ok] at hc
      rw [y_div (by omega) (by omega)]
      have h1 : 0 ≤ w32 x / w32 y := Int.ediv_nonneg (by omega) (by omega)
      have h2 : w32 x / w32 y ≤ w32 x := Int.ediv_le_self _ (by omega)
      refine ⟨h1, ?_⟩
      dsimp only
      split
      · next he =>
        rw [zeq_ok] at he
        have e : w32 y = b.1 := by omega
        rw [e]
        exact Int.ediv_le_ediv (by omega) ha2
      · omega
    · next hc =>
      rw [if_neg hc] at h
      exact absurd h a64_no
  | 10, h =>
    simp only [abinr] at h ⊢
    rw [show w32 (ybin 10 x y) = (fbin 10 (iI x) (iI y)).toInt from wt _]
    split
    · next hc =>
      simp only [Bool.and_eq_true, zle_ok] at hc
      rw [y_rem (by omega) (by omega)]
      have h1 : 0 ≤ w32 x % w32 y := Int.emod_nonneg _ (by omega)
      have h2 : w32 x % w32 y < w32 y := Int.emod_lt_of_pos _ (by omega)
      exact ⟨h1, by dsimp only; omega⟩
    · next hc =>
      rw [if_neg hc] at h
      exact absurd h a64_no
  | 5, h => exact absurd h a64_no
  | 8, h => exact absurd h a64_no
  | n + 11, h => exact absurd h a64_no
theorem aneq_ok {ρ : List Int} {ne : aN} (hn : aNok ρ ne) {t : aT} {x c : Int} (ht : tv ρ t x) (h : aneq ne t (none, c) = true) : x ≠ c := by
  obtain ⟨tk, tc⟩ := t
  cases tk with
  | none => cases h
  | some k =>
    simp only [aneq, List.any_eq_true, Bool.and_eq_true, Nat.beq_eq, zeq_ok] at h
    obtain ⟨q, hq, e1, e2⟩ := h
    obtain ⟨w, g1, g2⟩ := hn q hq
    obtain ⟨w', g3, g4⟩ := ht
    rw [e1, g3] at g1
    cases g1
    dsimp only at g4
    intro z
    exact g2 (by omega)
theorem abin_ok {ρ : List Int} {S : aSt} {mem : yMem} {o : Nat} {x y : aV} {zx zy : Int} {k : aV → aSt → Bool} (h : abin S o x y k = true) (hS : aSat ρ S mem) {yx yy : yV} (hx : aok ρ x yx) (hy : aok ρ y yy) (ex : yx.2 = zx) (ey : yy.2 = zy) : yx.1 = 0 ∧ yy.1 = 0 ∧ ((o = 9 ∨ o = 10) → ¬ w32 zy = 0) ∧ aGets ρ mem (0, ybin o zx zy) k := by
  subst ex
  subst ey
  unfold abin at h
  split at h
  · next t u ht hu =>
    obtain ⟨x1, x2⟩ := aterm_ok ht hx
    obtain ⟨y1, y2⟩ := aterm_ok hu hy
    have ha := trng_ok hS.2.2.1 x2
    have hb := trng_ok hS.2.2.1 y2
    refine ⟨x1, y1, ?_⟩
    dsimp only at h
    split at h
    · cases h
    · next hd =>
      refine ⟨fun ho z => hd ?_, ?_⟩
      · simp only [Bool.and_eq_true, Bool.or_eq_true, Nat.beq_eq, zle_ok, Bool.not_eq_true']
        refine ⟨⟨ho, by omega, by omega⟩, ?_⟩
        cases hh : aneq S.2.2 u (none, 0) with
        | false => rfl
        | true => exact absurd z (aneq_ok hS.2.2.2 y2 hh)
      · split at h
        · next hu1 =>
          obtain ⟨uk, uc⟩ := u
          dsimp only at hu1
          subst hu1
          have ey : w32 yy.2 = uc := y2
          dsimp only at h
          split at h
          · next hc =>
            rw [ain_ok] at hc
            simp only [a32] at hc
            have ev : w32 (ybin 0 yx.2 yy.2) = w32 yx.2 + uc := by
              show w32 (yx.2 + yy.2) = _
              rw [w32_add, ey, w32_of (by omega) (by omega)]
            obtain ⟨tk, tc⟩ := t
            cases tk with
            | none =>
              have et : w32 yx.2 = tc := x2
              exact aGets.here h hS ⟨rfl, by rw [ev, et]⟩
            | some s =>
              obtain ⟨z, g1, g2⟩ := x2
              exact aGets.here h hS ⟨rfl, z, g1, by rw [ev, g2]; dsimp only; omega⟩
          · exact afr32_ok h hS
        · next hu1 =>
          obtain ⟨uk, uc⟩ := u
          dsimp only at hu1
          subst hu1
          have ey : w32 yy.2 = uc := y2
          dsimp only at h
          split at h
          · next hc =>
            rw [ain_ok] at hc
            simp only [a32] at hc
            have ev : w32 (ybin 1 yx.2 yy.2) = w32 yx.2 - uc := by
              show w32 (yx.2 - yy.2) = _
              rw [w32_sub, ey, w32_of (by omega) (by omega)]
            obtain ⟨tk, tc⟩ := t
            cases tk with
            | none =>
              have et : w32 yx.2 = tc := x2
              exact aGets.here h hS ⟨rfl, by rw [ev, et]⟩
            | some s =>
              obtain ⟨z, g1, g2⟩ := x2
              exact aGets.here h hS ⟨rfl, z, g1, by rw [ev, g2]; dsimp only; omega⟩
          · exact afr32_ok h hS
        · exact afit_ok h hS (fun hc => abinr_ok ha.1 ha.2 hb.1 hb.2 hc)
  · cases h
end
section
/-! contracts -/
def aArgOk (a : aArg) (y : yV) : Prop := match a.1 with
  | 0 => y.1 = 0 ∧ w32 y.2 = a.2.2.1
  | 3 => y.1 = 0 ∧ a.2.2.1 ≤ w32 y.2 ∧ w32 y.2 ≤ a.2.2.2
  | 1 => y = (1, (a.2.1 : Int))
  | 8 => y.1 = 4
  | _ => False
def aArgsOk : List aArg → List yV → Prop
  | [], [] => True
  | a :: r, y :: s => aArgOk a y ∧ aArgsOk r s
  | _, _ => False
def aFok (f : aFct) (mem : yMem) : Prop := ∀ q ∈ f, q.2.1 ≤ w32 (mem q.1.1 q.1.2) ∧ w32 (mem q.1.1 q.1.2) ≤ q.2.2
def aFrm (w : List (Nat × Nat)) (mem mem' : yMem) : Prop := ∀ i j, amod w i j = false → mem' i j = mem i j
def aRetOk (a : aArg) (r : Option yV) : Prop := match r with
  | none => a.1 = 99
  | some y => aArgOk a y
def aEnd (Om : yMem → Prop) (c : aCon) (mem0 : yMem) (r : Option yV) (mem' : yMem) : Prop := aRetOk (acR c) r ∧ aGok mem' ∧ Om mem' ∧ aFrm (acW c) mem0 mem' ∧ aFok (acQ c) mem'
/-- THE CONTRACT holds -/
def aSnd (Om : yMem → Prop) (c : aCon) : Prop := ∀ (E : yE), yEok E → ∀ D : Nat, acD c ≤ D → ∀ M : xM, xmt[acM c]? = some M → ∀ (args : List yV) (mem : yMem) (Q : Option yV → yMem → Prop), aArgsOk (acA c) args → aGok mem → Om mem → aFok (acP c) mem → (∀ r mem', aEnd Om c mem r mem' → Q r mem') → yCon E D M args mem Q
def adis (oc : List Nat) (w : List (Nat × Nat)) : Bool := w.all (fun q => !(oc.any (fun i => Nat.beq q.1 i)))
def aOmF (oc : List Nat) (Om : yMem → Prop) : Prop := ∀ mem mem' : yMem, (∀ i j, i ∈ oc → mem' i j = mem i j) → Om mem → Om mem'
theorem amod_dis {oc : List Nat} {i j : Nat} (hi : i ∈ oc) : ∀ {w : List (Nat × Nat)}, adis oc w = true → amod w i j = false
  | [], _ => rfl
  | q :: r, h => by
    simp only [adis, List.all_cons, Bool.and_eq_true, Bool.not_eq_true'] at h
    simp only [amod, Bool.or_eq_false_iff, Bool.and_eq_false_iff]
    refine ⟨Or.inl ?_, amod_dis hi h.2⟩
    have h1 := h.1
    rw [List.any_eq_false] at h1
    have := h1 i hi
    cases hh : Nat.beq q.1 i with
    | false => rfl
    | true => rw [hh] at this; exact absurd rfl this
theorem aFrm_Om {oc : List Nat} {Om : yMem → Prop} (hO : aOmF oc Om) {w : List (Nat × Nat)} (hd : adis oc w = true) {mem mem' : yMem} (hf : aFrm w mem mem') (h : Om mem) : Om mem' := hO mem mem' (fun i j hi => hf i j (amod_dis hi hd)) h
theorem aFrm_refl {w : List (Nat × Nat)} {mem : yMem} : aFrm w mem mem := fun _ _ _ => rfl
theorem amodA_mod {w : List (Nat × Nat)} {i : Nat} (j : Nat) (h : amodA w i = true) : amod w i j = true := by
  induction w with
  | nil => cases h
  | cons q r ih =>
    simp only [amodA, Bool.or_eq_true, Bool.and_eq_true] at h
    simp only [amod, Bool.or_eq_true, Bool.and_eq_true]
    rcases h with h | h
    · exact Or.inl ⟨h.1, Or.inl h.2⟩
    · exact Or.inr (ih h)
theorem amsub_ok {a b : List (Nat × Nat)} (h : amsub a b = true) {i j : Nat} (hm : amod a i j = true) : amod b i j = true := by
  induction a with
  | nil => cases hm
  | cons q r ih =>
    simp only [amsub, Bool.and_eq_true] at h
    simp only [amod, Bool.or_eq_true, Bool.and_eq_true, Nat.beq_eq] at hm
    rcases hm with ⟨e1, e2⟩ | hm
    · obtain ⟨q1, q2⟩ := q
      dsimp only at e1 e2 h
      subst e1
      cases q2 with
      | zero => exact amodA_mod j h.1
      | succ k =>
        rcases e2 with e2 | e2
        · omega
        · have : k = j := by omega
          subst this
          exact h.1
    · exact ih h.2 hm
theorem aFrm_sub {a b : List (Nat × Nat)} (h : amsub a b = true) {mem0 mem mem' : yMem} (h0 : aFrm b mem0 mem) (h1 : aFrm a mem mem') : aFrm b mem0 mem' := fun i j hm => by
  rw [h1 i j, h0 i j hm]
  cases hh : amod a i j with
  | false => rfl
  | true => rw [amsub_ok h hh] at hm; cases hm
theorem aok_int {ρ : List Int} {v : aV} {z : Int} (h : aok ρ v (0, z)) : akdb 0 v = true := by
  obtain ⟨g, k, c⟩ := v
  match g, h with
  | 0, _ => rfl
  | 3, _ => rfl
  | 9, _ => rfl
  | 1, h =>
    have h : ((0, z) : yV) = (1, (k : Int)) := h
    cases h
  | 4, h => have h : (0 : Nat) = 4 := h.1; cases h
  | 8, h => have h : (0 : Nat) = 4 := h.1; cases h
  | 2, h | 5, h | 6, h | 7, h => exact h.elim
  | n + 10, h => exact h.elim
theorem aslot_ok {ρ : List Int} {S : aSt} {mem : yMem} (hS : aSat ρ S mem) (i j : Nat) : (aslot S i j).1 ≤ w32 (mem i j) ∧ w32 (mem i j) ≤ (aslot S i j).2 := by
  unfold aslot
  split
  · next v hv =>
    have := hS.2.1 _ (amlk_ok hv)
    exact arng_ok hS.2.2.1 (aok_int this) this
  · exact hS.1 i j
theorem afcts_ok {ρ : List Int} {S : aSt} {mem : yMem} (hS : aSat ρ S mem) : ∀ {f : aFct}, afcts S f = true → aFok f mem
  | [], _ => fun q hq => by cases hq
  | f :: r, h => by
    simp only [afcts, Bool.and_eq_true, ain_ok] at h
    intro q hq
    rcases List.mem_cons.mp hq with rfl | hq
    · have := aslot_ok hS q.1.1 q.1.2
      omega
    · exact afcts_ok hS h.2 q hq
theorem aargI_ok {ρ : List Int} {iv : aI} (hI : aIok ρ iv) {v : aV} {a : aArg} {y : yV} (h : aargI iv v a = true) (hv : aok ρ v y) : aArgOk a y := by
  obtain ⟨g, i, lo, hi⟩ := a
  match g, h with
  | 0, h =>
    simp only [aargI] at h
    split at h
    · next t ht =>
      simp only [Bool.and_eq_true, zle_ok] at h
      obtain ⟨h1, h2⟩ := aterm_ok ht hv
      have := trng_ok hI h2
      exact ⟨h1, by dsimp only at h ⊢; omega⟩
    · cases h
  | 3, h =>
    simp only [aargI] at h
    split at h
    · next t ht =>
      simp only [Bool.and_eq_true, zle_ok] at h
      obtain ⟨h1, h2⟩ := aterm_ok ht hv
      have := trng_ok hI h2
      exact ⟨h1, by dsimp only at h ⊢; omega⟩
    · simp only [Bool.and_eq_true, zle_ok, Nat.beq_eq] at h
      obtain ⟨g, k, c⟩ := v
      obtain ⟨h0, h1, h2⟩ := h
      dsimp only at h0 h1 h2
      subst h0
      obtain ⟨e1, x, -, e2⟩ := hv
      refine ⟨e1, ?_⟩
      rw [e2]
      dsimp only
      split
      · omega
      · split <;> omega
  | 1, h =>
    simp only [aargI, Bool.and_eq_true, Nat.beq_eq] at h
    obtain ⟨g, k, c⟩ := v
    obtain ⟨h0, h1⟩ := h
    dsimp only at h0 h1
    subst h0
    subst h1
    exact hv
  | 8, h =>
    simp only [aargI, Bool.or_eq_true] at h
    exact along (by simp only [akdb, Bool.or_eq_true]; exact h) hv
  | 2, h | 4, h | 5, h | 6, h | 7, h => cases h
  | n + 9, h => cases h
theorem aargs_ok {ρ : List Int} {iv : aI} (hI : aIok ρ iv) : ∀ {vs : List aV} {as : List aArg} {ys : List yV}, aargs iv vs as = true → aSm ρ vs ys → aArgsOk as ys
  | [], [], [], _, _ => trivial
  | v :: r, a :: s, y :: t, h, hm => by
    simp only [aargs, Bool.and_eq_true] at h
    exact ⟨aargI_ok hI h.1 hm.1, aargs_ok hI h.2 hm.2⟩
  | [], [], _ :: _, _, hm => hm.elim
  | _ :: _, [], _, h, _ => by cases h
  | [], _ :: _, _, h, _ => by cases h
  | _ :: _, _ :: _, [], _, hm => hm.elim
theorem afbeg_ok {mem : yMem} : ∀ {f : aFct} {mp : aMp} {iv : aI} {ρ : List Int}, aFok f mem → aMok ρ mp mem → aIok ρ iv → ∃ σ, aMok (ρ ++ σ) (afbeg f mp iv).1 mem ∧ aIok (ρ ++ σ) (afbeg f mp iv).2
  | [], mp, iv, ρ, _, hM, hI => ⟨[], by rw [List.append_nil]; exact hM, by rw [List.append_nil]; exact hI⟩
  | f :: r, mp, iv, ρ, hF, hM, hI => by
    have hf := hF f List.mem_cons_self
    obtain ⟨k1, k2⟩ := aI_new hI hf.1 hf.2
    obtain ⟨σ, g1, g2⟩ := afbeg_ok (f := r) (mp := (f.1, (3, iv.length, 0)) :: mp) (iv := iv ++ [f.2]) (ρ := ρ ++ [w32 (mem f.1.1 f.1.2)]) (fun q hq => hF q (List.mem_cons_of_mem _ hq)) (fun q hq => by
      rcases List.mem_cons.mp hq with rfl | hq
      · exact ⟨rfl, _, k2, by show w32 (mem f.1.1 f.1.2) = w32 (mem f.1.1 f.1.2) + 0; omega⟩
      · exact aM_grow hM q hq) k1
    refine ⟨w32 (mem f.1.1 f.1.2) :: σ, ?_⟩
    rw [show ρ ++ w32 (mem f.1.1 f.1.2) :: σ = ρ ++ [w32 (mem f.1.1 f.1.2)] ++ σ by simp]
    exact ⟨g1, g2⟩
def aAnn : List (Nat × aArg) → yL → Prop
  | [], [] => True
  | a :: r, p :: s => a.1 = p.1 ∧ aArgOk a.2 p.2 ∧ aAnn r s
  | _, _ => False
theorem albeg_ok : ∀ {as : List (Nat × aArg)} {l : yL} {iv : aI} {ρ : List Int}, aAnn as l → aIok ρ iv → ∃ σ, aLm (ρ ++ σ) (albeg as iv).1 l ∧ aIok (ρ ++ σ) (albeg as iv).2
  | [], [], iv, ρ, _, hI => ⟨[], trivial, by rw [List.append_nil]; exact hI⟩
  | a :: r, p :: s, iv, ρ, hA, hI => by
    obtain ⟨i, g, c, lo, hi⟩ := a
    obtain ⟨e1, e2, e3⟩ := hA
    match g, e2 with
    | 0, e2 =>
      obtain ⟨σ, h1, h2⟩ := albeg_ok e3 hI
      exact ⟨σ, ⟨e1, e2, h1⟩, h2⟩
    | 1, e2 =>
      obtain ⟨σ, h1, h2⟩ := albeg_ok e3 hI
      exact ⟨σ, ⟨e1, e2, h1⟩, h2⟩
    | 3, e2 =>
      obtain ⟨e4, e5⟩ := e2
      obtain ⟨k1, k2⟩ := aI_new hI (q := (lo, hi)) e5.1 e5.2
      obtain ⟨σ, h1, h2⟩ := albeg_ok e3 k1
      refine ⟨w32 p.2.2 :: σ, ?_⟩
      rw [show ρ ++ w32 p.2.2 :: σ = ρ ++ [w32 p.2.2] ++ σ by simp]
      exact ⟨⟨e1, ⟨e4, _, agrow k2, by show w32 p.2.2 = w32 p.2.2 + 0; omega⟩, h1⟩, h2⟩
    | 8, e2 =>
      have b1 := w64_lo p.2.2
      have b2 := w64_hi p.2.2
      obtain ⟨k1, k2⟩ := aI_new hI (q := a64) (x := w64 p.2.2) b1 (by show _ ≤ (9223372036854775807 : Int); omega)
      obtain ⟨σ, h1, h2⟩ := albeg_ok e3 k1
      refine ⟨w64 p.2.2 :: σ, ?_⟩
      rw [show ρ ++ w64 p.2.2 :: σ = ρ ++ [w64 p.2.2] ++ σ by simp]
      exact ⟨⟨e1, ⟨e2, agrow k2⟩, h1⟩, h2⟩
    | 2, e2 | 4, e2 | 5, e2 | 6, e2 | 7, e2 => exact e2.elim
    | n + 9, e2 => exact e2.elim
  | [], _ :: _, _, _, h, _ => h.elim
  | _ :: _, [], _, _, h, _ => h.elim
theorem aidx_ok : ∀ {as : List aArg} {ys : List yV} (i : Nat), aArgsOk as ys → aAnn (aidx i as) (yargs i ys)
  | [], [], _, _ => trivial
  | a :: r, y :: s, i, h => by
    refine ⟨rfl, h.1, ?_⟩
    have e : (if Nat.beq a.1 8 then 2 else 1) = ycat y := by
      obtain ⟨g, c, lo, hi⟩ := a
      obtain ⟨y1, y2⟩ := y
      match g, h.1 with
      | 0, h => have e : y1 = 0 := h.1; subst e; rfl
      | 3, h => have e : y1 = 0 := h.1; subst e; rfl
      | 1, h => have e : ((y1, y2) : yV) = (1, (c : Int)) := h; cases e; rfl
      | 8, h => have e : y1 = 4 := h; subst e; rfl
      | 2, h | 4, h | 5, h | 6, h | 7, h => exact h.elim
      | n + 9, h => exact h.elim
    rw [e]
    exact aidx_ok _ h.2
  | [], _ :: _, _, h => h.elim
  | _ :: _, [], _, h => h.elim
/-! memory -/
theorem yset_at {mem : yMem} {i j : Nat} {z : Int} : yset mem i j z i j = z := by simp [yset]
theorem yset_ne {mem : yMem} {i j a b : Nat} {z : Int} (h : ¬ (a = i ∧ b = j)) : yset mem i j z a b = mem a b := by
  simp only [yset]
  by_cases h1 : a = i
  · by_cases h2 : b = j
    · exact absurd ⟨h1, h2⟩ h
    · rw [if_pos h1, if_neg h2]
  · rw [if_neg h1]
theorem adrop_ok {ρ : List Int} {w : List (Nat × Nat)} {mem mem' : yMem} (hf : aFrm w mem mem') : ∀ {mp : aMp}, aMok ρ mp mem → aMok ρ (adrop w mp) mem'
  | [], _ => fun q hq => by cases hq
  | p :: r, h => by
    have hr := adrop_ok hf (mp := r) (fun q hq => h q (List.mem_cons_of_mem _ hq))
    simp only [adrop]
    split
    · exact hr
    · next hc =>
      intro q hq
      rcases List.mem_cons.mp hq with rfl | hq
      · rw [hf _ _ (by simpa using hc)]
        exact h _ List.mem_cons_self
      · exact hr q hq
theorem adrop1_ok {ρ : List Int} {i j : Nat} {mem mem' : yMem} (hf : ∀ a b, ¬ (a = i ∧ b = j) → mem' a b = mem a b) : ∀ {mp : aMp}, aMok ρ mp mem → aMok ρ (adrop1 i j mp) mem'
  | [], _ => fun q hq => by cases hq
  | p :: r, h => by
    have hr := adrop1_ok hf (mp := r) (fun q hq => h q (List.mem_cons_of_mem _ hq))
    simp only [adrop1]
    split
    · exact hr
    · next hc =>
      intro q hq
      rcases List.mem_cons.mp hq with rfl | hq
      · rw [hf _ _ (fun z => hc (by simp only [Bool.and_eq_true, Nat.beq_eq]; exact z))]
        exact h _ List.mem_cons_self
      · exact hr q hq
theorem adropA_ok {ρ : List Int} {i : Nat} {mem mem' : yMem} (hf : ∀ a b, ¬ a = i → mem' a b = mem a b) : ∀ {mp : aMp}, aMok ρ mp mem → aMok ρ (adropA i mp) mem'
  | [], _ => fun q hq => by cases hq
  | p :: r, h => by
    have hr := adropA_ok hf (mp := r) (fun q hq => h q (List.mem_cons_of_mem _ hq))
    simp only [adropA]
    split
    · exact hr
    · next hc =>
      intro q hq
      rcases List.mem_cons.mp hq with rfl | hq
      · rw [hf _ _ (fun z => hc (by rw [Nat.beq_eq]; exact z))]
        exact h _ List.mem_cons_self
      · exact hr q hq
theorem agam_def {i j : Nat} (h : (aent i).2 = []) : agam i j = (aent i).1 := by
  unfold agam
  rw [h]
  rfl
theorem adefl_ok {mem : yMem} (h : aGok mem) (i j : Nat) : (adefl i).1 ≤ w32 (mem i j) ∧ w32 (mem i j) ≤ (adefl i).2 := by
  unfold adefl
  split
  · next e =>
    rw [← agam_def (j := j) e]
    exact h i j
  · have h1 := w32_lo (mem i j)
    have h2 := w32_hi (mem i j)
    exact ⟨h1, by show _ ≤ (2147483647 : Int); omega⟩
theorem awrS_ok {ρ : List Int} {S : aSt} {c : aCon} {mem0 mem : yMem} {i j : Nat} {v : aV} {z : Int} {k : aSt → Bool} (h : awrS c S i j v k = true) (hS : aSat ρ S mem) (hF : aFrm (acW c) mem0 mem) (hv : aok ρ v (0, z)) : ∃ S', k S' = true ∧ aSat ρ S' (yset mem i j z) ∧ aFrm (acW c) mem0 (yset mem i j z) := by
  unfold awrS at h
  simp only [Bool.and_eq_true, ain_ok] at h
  obtain ⟨h1, h2, h3⟩ := h
  have hb := arng_ok hS.2.2.1 (aok_int hv) hv
  dsimp only at hb
  refine ⟨_, h3, ⟨fun a b => ?_, fun q hq => ?_, hS.2.2⟩, fun a b hm => ?_⟩
  · by_cases e : a = i ∧ b = j
    · obtain ⟨rfl, rfl⟩ := e
      rw [yset_at]
      omega
    · rw [yset_ne e]
      exact hS.1 a b
  · rcases List.mem_cons.mp hq with rfl | hq
    · dsimp only
      rw [yset_at]
      exact hv
    · exact adrop1_ok (fun a b e => yset_ne e) hS.2.1 q hq
  · by_cases e : a = i ∧ b = j
    · obtain ⟨rfl, rfl⟩ := e
      rw [h2] at hm
      cases hm
    · rw [yset_ne e]
      exact hF a b hm
/-- a write into a cell all of whose slots are of one interval -/
theorem acell_ok {ρ : List Int} {S : aSt} {c : aCon} {mem0 mem mem' : yMem} {i : Nat} (hS : aSat ρ S mem) (hF : aFrm (acW c) mem0 mem) (h0 : (aent i).2 = []) (hw : amodA (acW c) i = true) (hf : ∀ a b, ¬ a = i → mem' a b = mem a b) (hb : ∀ b, (aent i).1.1 ≤ w32 (mem' i b) ∧ w32 (mem' i b) ≤ (aent i).1.2) : aSat ρ (adropA i S.1, S.2.1, S.2.2) mem' ∧ aFrm (acW c) mem0 mem' := by
  refine ⟨⟨fun a b => ?_, adropA_ok hf hS.2.1, hS.2.2⟩, fun a b hm => ?_⟩
  · by_cases e : a = i
    · subst e
      rw [agam_def h0]
      exact hb b
    · rw [hf a b e]
      exact hS.1 a b
  · by_cases e : a = i
    · subst e
      rw [amodA_mod b hw] at hm
      cases hm
    · rw [hf a b e]
      exact hF a b hm
theorem awrA_ok {ρ : List Int} {S : aSt} {c : aCon} {mem0 mem : yMem} {i j : Nat} {v : aV} {z : Int} {k : aSt → Bool} (h : awrA c S i v k = true) (hS : aSat ρ S mem) (hF : aFrm (acW c) mem0 mem) (hv : aok ρ v (0, z)) : ∃ S', k S' = true ∧ aSat ρ S' (yset mem i j z) ∧ aFrm (acW c) mem0 (yset mem i j z) := by
  unfold awrA at h
  simp only [Bool.and_eq_true, ain_ok] at h
  obtain ⟨h0, h1, h2, h3⟩ := h
  have e0 : (aent i).2 = [] := by
    cases hh : (aent i).2 with
    | nil => rfl
    | cons a b => rw [hh] at h0; cases h0
  have hb := arng_ok hS.2.2.1 (aok_int hv) hv
  dsimp only at hb
  have := acell_ok (mem' := yset mem i j z) hS hF e0 h2 (fun a b e => yset_ne (fun q => e q.1)) (fun b => by
    by_cases e : b = j
    · subst e
      rw [yset_at]
      omega
    · rw [yset_ne (fun q => e q.2), ← agam_def (j := b) e0]
      exact hS.1 i b)
  exact ⟨_, h3, this.1, this.2⟩
end
section
section AK
variable {E : yE} {Om : yMem → Prop} {oc : List Nat} {T : List aCon} {c : aCon} {mem0 : yMem} {D : Nat}
def aKs (E : yE) (Om : yMem → Prop) (c : aCon) (mem0 : yMem) : Nat → List aFr → List Int → (Option yV → yMem → Prop) → Prop
  | _, [], _, Q => ∀ r mem', aEnd Om c mem0 r mem' → Q r mem'
  | d, f :: fs, ρ, Q => ∃ (l : yL) (s : List yV) (Q' : Option yV → yMem → Prop), xMok xmt f.1 ∧ aLm ρ f.2.2.1 l ∧ aSm ρ f.2.2.2 s ∧ aKs E Om c mem0 (d + 1) fs ρ Q' ∧ ∀ r mem', yG E (yR (d + 1)) f.1 f.2.1 l (yput s r) mem' 0 0 Q' → Q r mem'
theorem aKs_grow {σ : List Int} : ∀ {d : Nat} {frs : List aFr} {ρ : List Int} {Q : Option yV → yMem → Prop}, aKs E Om c mem0 d frs ρ Q → aKs E Om c mem0 d frs (ρ ++ σ) Q
  | _, [], _, _, h => h
  | _, _ :: _, _, _, ⟨l, s, Q', h1, h2, h3, h4, h5⟩ => ⟨l, s, Q', h1, aLm_grow h2, aSm_grow h3, aKs_grow h4, h5⟩
def aTop : List aFr → xM → xM
  | [], M => M
  | f :: fs, _ => aTop fs f.1
/-- what a rank comes to -/
def aRv (ρ : List Int) (r : aRk) (v : Int) : Prop := ∃ x, tv ρ r.2.1 x ∧ v = r.2.2 + r.1 * x
def aX (M0 : xM) (g : aRank) (v1 v2 : Int) (ρ : List Int) (frs : List aFr) (M : xM) : Prop := aTop frs M = M0 ∧ aRv ρ g.2.1 v1 ∧ aRv ρ g.2.2 v2
theorem aRv_grow {ρ σ : List Int} {r : aRk} {v : Int} (h : aRv ρ r v) : aRv (ρ ++ σ) r v := by
  obtain ⟨x, h1, h2⟩ := h
  exact ⟨x, tv_grow h1, h2⟩
theorem aX_grow {M0 : xM} {g : aRank} {v1 v2 : Int} {ρ σ : List Int} {frs : List aFr} {M : xM} (h : aX M0 g v1 v2 ρ frs M) : aX M0 g v1 v2 (ρ ++ σ) frs M := ⟨h.1, aRv_grow h.2.1, aRv_grow h.2.2⟩
theorem aX_push {M0 : xM} {g : aRank} {v1 v2 : Int} {ρ : List Int} {frs : List aFr} {M M' : xM} {q : Nat × aL × List aV} (h : aX M0 g v1 v2 ρ frs M) : aX M0 g v1 v2 ρ ((M, q) :: frs) M' := h
theorem aX_pop {M0 : xM} {g : aRank} {v1 v2 : Int} {ρ : List Int} {f : aFr} {frs : List aFr} {M : xM} (h : aX M0 g v1 v2 ρ (f :: frs) M) : aX M0 g v1 v2 ρ frs f.1 := h
def aRs (E : yE) (Om : yMem → Prop) (c : aCon) (mem0 : yMem) (D : Nat) (M0 : xM) (g : aRank) (v1 v2 : Int) (rec : aRec) : Prop := ∀ (M : xM) (pc : Nat) (lv : aL) (st : List aV) (frs : List aFr) (S : aSt), rec M pc lv st frs S = true → xMok xmt M → frs.length + 1 ≤ acD c → ∀ (ρ : List Int) (mem : yMem) (d : Nat) (l : yL) (s : List yV) (Q : Option yV → yMem → Prop), aX M0 g v1 v2 ρ frs M → D = d + 1 + frs.length → aSat ρ S mem → aFrm (acW c) mem0 mem → aLm ρ lv l → aSm ρ st s → aKs E Om c mem0 (d + 1) frs ρ Q → yG E (yR (d + 1)) M pc l s mem 0 0 Q
theorem aSm_cons {ρ : List Int} {v : aV} {st : List aV} {s : List yV} (h : aSm ρ (v :: st) s) : ∃ y s', s = y :: s' ∧ aok ρ v y ∧ aSm ρ st s' := by
  cases s with
  | nil => exact h.elim
  | cons y s' => exact ⟨y, s', rfl, h.1, h.2⟩
theorem aSm_nil {ρ : List Int} {s : List yV} (h : aSm ρ [] s) : s = [] := by
  cases s with
  | nil => rfl
  | cons y s' => exact h.elim
theorem akk {ρ : List Int} {k : Nat} {v : aV} {y : yV} (h : akdb k v = true) (hv : aok ρ v y) : ykdb k y = true := by
  obtain ⟨y1, y2⟩ := y
  match k, h with
  | 0, h => have e : y1 = 0 := aint h hv; subst e; rfl
  | 1, h =>
    obtain ⟨g, i, z⟩ := v
    have e : g = 1 := Nat.eq_of_beq_eq_true h
    subst e
    have e : ((y1, y2) : yV) = (1, (i : Int)) := hv
    cases e
    rfl
  | 2, h => have e : y1 = 4 := along h hv; subst e; rfl
  | n + 3, h => have e : y1 = 4 := along (v := v) h hv; subst e; rfl
theorem arefv {ρ : List Int} {v : aV} {y : yV} {S : yS} (h : acell v = some S) (hv : aok ρ v y) : y = (1, (v.2.1 : Int)) ∧ ysh[v.2.1]? = some S := by
  unfold acell at h
  split at h
  · next e =>
    obtain ⟨g, i, z⟩ := v
    have e : g = 1 := Nat.eq_of_beq_eq_true e
    subst e
    exact ⟨hv, h⟩
  · cases h
variable {M0 : xM} {g : aRank} {v1 v2 : Int} {rec : aRec} {M : xM} {lv : aL} {st : List aV} {frs : List aFr} {S : aSt} {ρ : List Int} {mem : yMem} {d : Nat} {l : yL} {s : List yV} {Q : Option yV → yMem → Prop} {nx : Nat}
theorem a_push (hX : aX M0 g v1 v2 ρ frs M) (hrec : aRs E Om c mem0 D M0 g v1 v2 rec) (hM : xMok xmt M) (hfl : frs.length + 1 ≤ acD c) (hDd : D = d + 1 + frs.length) (hF : aFrm (acW c) mem0 mem) (hl : aLm ρ lv l) (hs : aSm ρ st s) (hK : aKs E Om c mem0 (d + 1) frs ρ Q) {y : yV} (hg : aGets ρ mem y (fun w S' => rec M nx lv (w :: st) frs S')) : yG E (yR (d + 1)) M nx l (y :: s) mem 0 0 Q := by
  obtain ⟨σ, v, S', k1, k2, k3⟩ := hg
  exact hrec M nx lv (v :: st) frs S' k1 hM hfl (ρ ++ σ) mem d l (y :: s) Q (aX_grow hX) hDd k2 hF (aLm_grow hl) ⟨k3, aSm_grow hs⟩ (aKs_grow hK)
theorem asw_ok {f : Nat → aI → aN → Bool} {dflt : Nat} {t : aT} {x : Int} : ∀ {cs : List (Nat × Nat)} {iv : aI} {ne : aN}, aIok ρ iv → aNok ρ ne → tv ρ t x → asw f dflt t cs iv ne = true →
    (∃ q ∈ cs, x = cI q.1 ∧ ∃ iv' ne', aIok ρ iv' ∧ aNok ρ ne' ∧ f q.2 iv' ne' = true) ∨ ((∀ q ∈ cs, ¬ x = cI q.1) ∧ ∃ iv' ne', aIok ρ iv' ∧ aNok ρ ne' ∧ f dflt iv' ne' = true)
  | [], iv, ne, hI, hN, ht, h => Or.inr ⟨fun q hq => (by cases hq), iv, ne, hI, hN, h⟩
  | q :: r, iv, ne, hI, hN, ht, h => by
    simp only [asw] at h
    obtain ⟨o, ho, h1, h2, h3⟩ := aeq_ok hI hN ht (u := (none, cI q.1)) (y := cI q.1) rfl
    have h4 := aall_ok h ho
    by_cases hx : x = cI q.1
    · rw [if_pos (h1.mpr hx)] at h4
      exact Or.inl ⟨q, List.mem_cons_self, hx, _, _, h2, h3, h4⟩
    · rw [if_neg (fun z => hx (h1.mp z))] at h4
      rcases asw_ok h2 h3 ht h4 with ⟨q', hq', e, iv', ne', g1, g2, g3⟩ | ⟨hn, iv', ne', g1, g2, g3⟩
      · exact Or.inl ⟨q', List.mem_cons_of_mem _ hq', e, iv', ne', g1, g2, g3⟩
      · refine Or.inr ⟨fun q' hq' => ?_, iv', ne', g1, g2, g3⟩
        rcases List.mem_cons.mp hq' with rfl | hq'
        · exact hx
        · exact hn q' hq'
theorem acsl_ok : ∀ {cs : List (Nat × Nat)}, acsl cs = true → ∀ q ∈ cs, q.1 < 4294967296
  | [], _, q, hq => by cases hq
  | p :: r, h, q, hq => by
    simp only [acsl, Bool.and_eq_true, Nat.blt_eq] at h
    rcases List.mem_cons.mp hq with rfl | hq
    · exact h.1
    · exact acsl_ok h.2.2 q hq
theorem acsl_inj : ∀ {cs : List (Nat × Nat)}, acsl cs = true → ∀ q ∈ cs, ∀ q' ∈ cs, q.1 = q'.1 → q = q'
  | [], _, q, hq, _, _, _ => by cases hq
  | p :: r, h, q, hq, q', hq', e => by
    simp only [acsl, Bool.and_eq_true, Bool.not_eq_true', List.any_eq_false, Nat.beq_eq] at h
    rcases List.mem_cons.mp hq with e1 | h1
    · rcases List.mem_cons.mp hq' with e2 | h2
      · rw [e1, e2]
      · exact absurd (by rw [← e1]; exact e.symm) (h.2.1 q' h2)
    · rcases List.mem_cons.mp hq' with e2 | h2
      · exact absurd (by rw [← e2]; exact e) (h.2.1 q h1)
      · exact acsl_inj h.2.2 q h1 q' h2 e
/-- every value of a symbol -/
theorem asplit_ok {f : aSt → Bool} {k : Nat} {z : Int} (hS : aSat ρ S mem) (hz : ρ[k]? = some z) : ∀ {n : Nat} {x : Int}, asplit f S k n x = true → x ≤ z → z < x + n → f (S.1, aset S.2.1 (some k, 0) z z, S.2.2) = true
  | 0, x, h, h1, h2 => by omega
  | n + 1, x, h, h1, h2 => by
    simp only [asplit, Bool.and_eq_true] at h
    by_cases e : z = x
    · rw [e]
      exact h.1
    · exact asplit_ok hS hz h.2 (by omega) (by omega)
theorem aspl_ok {f : aSt → Bool} {k : Nat} {z : Int} (hS : aSat ρ S mem) (hz : ρ[k]? = some z) (h : aspl S k f = true) : ∃ S', S'.1 = S.1 ∧ f S' = true ∧ aSat ρ S' mem ∧ S'.2.2 = S.2.2 ∧ S'.2.1 = aset S.2.1 (some k, 0) z z := by
  have hb := aiv_ok hS.2.2.1 hz
  refine ⟨(S.1, aset S.2.1 (some k, 0) z z, S.2.2), rfl, asplit_ok hS hz h hb.1 (by omega), ⟨hS.1, hS.2.1, ?_, hS.2.2.2⟩, rfl, rfl⟩
  exact aset_ok hS.2.2.1 (t := (some k, 0)) (x := z) ⟨z, hz, by omega⟩ (Int.le_refl _) (Int.le_refl _)
theorem anz_ok {v : aV} {y : yV} (hS : aSat ρ S mem) (h : anz S v = true) (hv : aok ρ v y) : y.1 = 4 ∧ ¬ w64 y.2 = 0 := by
  obtain ⟨g, k, z⟩ := v
  match g, h, hv with
  | 4, h, hv =>
    refine ⟨hv.1, fun e => ?_⟩
    have h2 := hv.2
    dsimp only at h2
    simp only [anz, Bool.not_eq_true'] at h
    have : zeq z 0 = true := zeq_ok.mpr (by omega)
    rw [this] at h
    cases h
  | 8, h, hv =>
    obtain ⟨h1, h2⟩ := hv
    refine ⟨h1, fun e => ?_⟩
    simp only [anz, Bool.or_eq_true, zle_ok] at h
    have hb := aiv_ok hS.2.2.1 h2
    rcases h with h | h | h
    · exact aneq_ok hS.2.2.2 (t := (some k, 0)) (x := w64 y.2) ⟨_, h2, by dsimp only; omega⟩ h e
    · dsimp only at h hb; omega
    · dsimp only at h hb; omega
  | 0, h, _ | 1, h, _ | 2, h, _ | 3, h, _ | 5, h, _ | 6, h, _ | 7, h, _ => cases h
  | n + 9, h, _ => cases h
theorem afind_ok {mi : Nat} {iv : aI} {vs : List aV} : ∀ {T : List aCon} {e : aCon}, afind T mi iv vs = some e → e ∈ T ∧ acM e = mi ∧ aargs iv vs (acA e) = true
  | p :: r, e, h => by
    simp only [afind] at h
    split at h
    · next hc =>
      simp only [Bool.and_eq_true, Nat.beq_eq] at hc
      cases h
      exact ⟨List.mem_cons_self, hc.1, hc.2⟩
    · obtain ⟨h1, h2⟩ := afind_ok h
      exact ⟨List.mem_cons_of_mem _ h1, h2⟩
theorem yput_push {r : Option yV} {v : Option aV} (hr : match v, r with
  | none, none => True
  | some v, some y => aok ρ v y
  | _, _ => False) (hs : aSm ρ st s) : aSm ρ (apush v st) (yput s r) := by
  cases v with
  | none => cases r with
    | none => exact hs
    | some y => exact hr.elim
  | some v => cases r with
    | none => exact hr.elim
    | some y => exact ⟨hr, hs⟩
theorem aretn_ok (hX : aX M0 g v1 v2 ρ frs M) (hrec : aRs E Om c mem0 D M0 g v1 v2 rec) (hO : aOmF oc Om) (hdis : adis oc (acW c) = true) (hOm0 : Om mem0) (hfl : frs.length + 1 ≤ acD c) (hDd : D = d + 1 + frs.length) (hS : aSat ρ S mem) (hF : aFrm (acW c) mem0 mem) (hK : aKs E Om c mem0 (d + 1) frs ρ Q) {v : Option aV} {r : Option yV} (hr : match v, r with
  | none, none => True
  | some v, some y => aok ρ v y
  | _, _ => False) (h : aretn c rec v frs S = true) : Q r mem := by
  cases frs with
  | nil =>
    refine hK r mem ?_
    simp only [aretn, aend, Bool.and_eq_true] at h
    refine ⟨?_, hS.1, aFrm_Om hO hdis hF hOm0, hF, afcts_ok hS h.2⟩
    cases v with
    | none => cases r with
      | none => exact Nat.eq_of_beq_eq_true h.1
      | some y => exact hr.elim
    | some v => cases r with
      | none => exact hr.elim
      | some y => exact aargI_ok hS.2.2.1 h.1 hr
  | cons f fs =>
    obtain ⟨l', s', Q', k1, k2, k3, k4, k5⟩ := hK
    refine k5 r mem ?_
    simp only [List.length_cons] at hfl hDd
    exact hrec f.1 f.2.1 f.2.2.1 (apush v f.2.2.2) fs S h k1 (by omega) ρ mem (d + 1) l' (yput s' r) Q' (aX_pop hX) (by omega) hS hF k2 (yput_push hr k3) k4
theorem acall_ok (hX : aX M0 g v1 v2 ρ frs M) (hE : yEok E) (hT : ∀ e ∈ T, aSnd Om e) (hO : aOmF oc Om) (hdis : adis oc (acW c) = true) (hOm0 : Om mem0) (hcD : acD c ≤ D) (hrec : aRs E Om c mem0 D M0 g v1 v2 rec) (hM : xMok xmt M) (hfl : frs.length + 1 ≤ acD c) (hDd : D = d + 1 + frs.length) (hS : aSat ρ S mem) (hF : aFrm (acW c) mem0 mem) (hl : aLm ρ lv l) (hs : aSm ρ st s) (hK : aKs E Om c mem0 (d + 1) frs ρ Q) {mi n0 : Nat} (h : acall T c M rec nx mi n0 lv st frs S = true) : ycall E d mi n0 s mem (fun st' mem' => yG E (yR (d + 1)) M nx l st' mem' 0 0 Q) := by
  unfold acall at h
  unfold ycall
  cases hmi : xmt[mi]? with
  | none => rw [hmi] at h; cases h
  | some M' =>
    rw [hmi] at h
    dsimp only at h ⊢
    simp only [Bool.and_eq_true, Nat.ble_eq] at h
    obtain ⟨h1, h2, h3, h4, h5⟩ := h
    have ht := aSm_take (xMn M' + n0) hs
    have hd := aSm_drop (xMn M' + n0) hs
    have hr := aSm_rev ht
    refine ⟨by rw [← aSm_len hs]; exact h1, by rw [← asum_ok hd]; exact h2, by rw [← asum_ok ht]; exact h3, h4, ?_⟩
    split at h5
    · next e he =>
      simp only [Bool.and_eq_true, Nat.ble_eq] at h5
      obtain ⟨g1, g2, g3, g4⟩ := h5
      obtain ⟨f1, f2, f3⟩ := afind_ok he
      refine hT e f1 E hE d (by omega) M' (by rw [f2]; exact hmi) _ mem _ (aargs_ok hS.2.2.1 f3 hr) hS.1 (aFrm_Om hO hdis hF hOm0) (afcts_ok hS g2) ?_
      rintro r mem' ⟨e1, e2, e3, e4, e5⟩
      obtain ⟨σ, k1, k2⟩ := afbeg_ok (f := acQ e) (mp := adrop (acW e) S.1) (iv := S.2.1) (ρ := ρ) e5 (adrop_ok e4 hS.2.1) hS.2.2.1
      have hF' := aFrm_sub g3 hF e4
      have hS' : aSat (ρ ++ σ) ((afbeg (acQ e) (adrop (acW e) S.1) S.2.1).1, (afbeg (acQ e) (adrop (acW e) S.1) S.2.1).2, S.2.2) mem' := ⟨e2, k1, k2, aN_grow hS.2.2.2⟩
      generalize hq : afbeg (acQ e) (adrop (acW e) S.1) S.2.1 = q at g4 hS' k2
      rcases hR : acR e with ⟨g9, i9, lo, hi⟩
      unfold aRetOk at e1
      rw [hR] at e1 g4
      dsimp only at g4 e1
      cases r with
      | none =>
        have e1 : g9 = 99 := e1
        subst e1
        exact hrec M nx lv _ frs _ g4 hM hfl (ρ ++ σ) mem' d l _ Q (aX_grow hX) hDd hS' hF' (aLm_grow hl) (aSm_grow hd) (aKs_grow hK)
      | some y =>
        match g9, e1, g4 with
        | 0, e1, g4 => exact hrec M nx lv _ frs _ g4 hM hfl (ρ ++ σ) mem' d l _ Q (aX_grow hX) hDd hS' hF' (aLm_grow hl) ⟨e1, aSm_grow hd⟩ (aKs_grow hK)
        | 3, e1, g4 =>
          obtain ⟨b1, b2⟩ := aS_new hS' (q := (lo, hi)) (x := w32 y.2) e1.2.1 e1.2.2
          exact hrec M nx lv _ frs _ g4 hM hfl (ρ ++ σ ++ [w32 y.2]) mem' d l _ Q (aX_grow (aX_grow hX)) hDd b1 hF' (aLm_grow (aLm_grow hl)) ⟨⟨e1.1, _, b2, by show w32 y.2 = w32 y.2 + 0; omega⟩, aSm_grow (aSm_grow hd)⟩ (aKs_grow (aKs_grow hK))
        | 8, e1, g4 =>
          have b0 := w64_lo y.2
          have b3 := w64_hi y.2
          obtain ⟨b1, b2⟩ := aS_new hS' (q := a64) (x := w64 y.2) b0 (by show _ ≤ (9223372036854775807 : Int); omega)
          exact hrec M nx lv _ frs _ g4 hM hfl (ρ ++ σ ++ [w64 y.2]) mem' d l _ Q (aX_grow (aX_grow hX)) hDd b1 hF' (aLm_grow (aLm_grow hl)) ⟨⟨e1, b2⟩, aSm_grow (aSm_grow hd)⟩ (aKs_grow (aKs_grow hK))
        | 1, e1, g4 => cases g4
        | 2, e1, g4 | 4, e1, g4 | 5, e1, g4 | 6, e1, g4 | 7, e1, g4 => exact e1.elim
        | n + 9, e1, g4 => exact e1.elim
    · simp only [Bool.and_eq_true, Nat.ble_eq] at h5
      obtain ⟨g1, g2⟩ := h5
      have hM' := xmt_ok mi M' hmi
      cases d with
      | zero => omega
      | succ d' =>
        refine yCon_of hM' (by rw [ysum_rev, ← asum_ok ht]; exact h3) ?_
        exact hrec M' 0 _ [] _ S g2 hM' (by simp only [List.length_cons]; omega) ρ mem d' _ [] _ (aX_push hX) (by simp only [List.length_cons]; omega) hS hF (aargl_ok 0 hr) trivial ⟨l, s.drop (xMn M' + n0), Q, hM, hl, hd, hK, fun r mem' z => z⟩
end AK
end
section
section AM
variable {E : yE} {Om : yMem → Prop} {oc : List Nat} {T : List aCon} {c : aCon} {mem0 : yMem} {D : Nat} {M0 : xM} {g : aRank} {v1 v2 : Int} {rec : aRec} {M : xM} {pc : Nat} {lv : aL} {st : List aV} {frs : List aFr} {S : aSt} {ρ : List Int} {mem : yMem} {d : Nat} {l : yL} {s : List yV} {Q : Option yV → yMem → Prop}
theorem yv0 {y : yV} (h : y.1 = 0) : y = (0, y.2) := by
  obtain ⟨a, b⟩ := y
  have h : a = 0 := h
  subst h
  rfl
theorem yv4 {y : yV} (h : y.1 = 4) : y = (4, y.2) := by
  obtain ⟨a, b⟩ := y
  have h : a = 4 := h
  subst h
  rfl
theorem cL_ok {a : Nat} (h : a < 18446744073709551616) : w64 (cL a) = cL a := by
  apply w64_of
  · unfold cL
    split
    · omega
    · next h2 => rw [Nat.blt_eq] at h2; omega
  · unfold cL
    split
    · next h2 => rw [Nat.blt_eq] at h2; omega
    · omega
theorem aeqv_ok {iv : aI} {t : aT} {x z : Int} (hI : aIok ρ iv) (ht : tv ρ t x) (h : aeqv (trng iv t) = some z) : x = z := by
  unfold aeqv at h
  split at h
  · next hc =>
    rw [zle_ok] at hc
    cases h
    have := trng_ok hI ht
    omega
  · cases h
theorem aneg_nz {z : Int} (h : ¬ w64 z = 0) : ¬ w64 (-z) = 0 := by
  intro e
  apply h
  have e1 : lI (-z) = 0 := (lI_inj.mpr (by rw [e]; decide) : lI (-z) = lI 0).trans (by decide)
  have e2 : lI (-z) = -lI z := Int64.ofInt_neg z
  rw [e2] at e1
  have e3 : lI z = 0 := by
    have := congrArg (fun q => -q) e1
    simpa using this
  show (lI z).toInt = 0
  rw [e3]
  rfl
theorem acopy_mem {mem : yMem} {ss sp dd dp n : Nat} {a b : Nat} (h : ¬ a = dd) : ycpy mem ss sp dd dp n a b = mem a b := by
  simp only [ycpy]
  rw [if_neg h]
set_option maxHeartbeats 8000000 in
theorem astep_ok (hX : aX M0 g v1 v2 ρ frs M) (hE : yEok E) (hT : ∀ e ∈ T, aSnd Om e) (hO : aOmF oc Om) (hdis : adis oc (acW c) = true) (hOm0 : Om mem0) (hcD : acD c ≤ D) (hrec : aRs E Om c mem0 D M0 g v1 v2 rec) (hM : xMok xmt M) (hfl : frs.length + 1 ≤ acD c) (hDd : D = d + 1 + frs.length) (hS : aSat ρ S mem) (hF : aFrm (acW c) mem0 mem) (hl : aLm ρ lv l) (hs : aSm ρ st s) (hK : aKs E Om c mem0 (d + 1) frs ρ Q) {op : xOp} (hok : xok xmt M pc op) (h : astep T c M rec op lv st frs S = true) : yG E (yR (d + 1)) M pc l s mem 0 0 Q := by
  refine yst (d := d) hE ⟨Nat.le_refl _, by show 64 * d + 64 ≤ 64 * (d + 1); omega⟩ ⟨Nat.le_refl _, Nat.le_refl _⟩ hok ?_
  have go : ∀ (nx : Nat) (lv' : aL) (st' : List aV) (S' : aSt) (mem' : yMem) (l' : yL) (s' : List yV), rec M nx lv' st' frs S' = true → aSat ρ S' mem' → aFrm (acW c) mem0 mem' → aLm ρ lv' l' → aSm ρ st' s' → yG E (yR (d + 1)) M nx l' s' mem' 0 0 Q := fun nx lv' st' S' mem' l' s' h1 h2 h3 h4 h5 => hrec M nx lv' st' frs S' h1 hM hfl ρ mem' d l' s' Q hX hDd h2 h3 h4 h5 hK
  have gp : ∀ {nx : Nat} {st' : List aV} {s' : List yV} {y : yV}, aSm ρ st' s' → aGets ρ mem y (fun w S' => rec M nx lv (w :: st') frs S') → yG E (yR (d + 1)) M nx l (y :: s') mem 0 0 Q := fun h1 h2 => a_push hX hrec hM hfl hDd hF hl h1 hK h2
  clear hok
  obtain ⟨tg, nx, a, b, cs⟩ := op
  match tg, h with
  | 0, h =>
    simp only [astep, Bool.and_eq_true, Nat.blt_eq] at h
    exact go nx lv _ S mem l _ h.2 hS hF hl ⟨⟨rfl, w32_c h.1⟩, hs⟩
  | 1, h =>
    simp only [astep, Bool.and_eq_true, Nat.blt_eq] at h
    exact go nx lv _ S mem l _ h.2 hS hF hl ⟨⟨rfl, cL_ok h.1⟩, hs⟩
  | 2, h =>
    simp only [astep] at h
    split at h
    · next v hv =>
      rw [Bool.and_eq_true] at h
      obtain ⟨y, h1, h2⟩ := alk_ok hl hv
      exact ⟨y, h1, akk h.1 h2, go nx lv _ S mem l _ h.2 hS hF hl ⟨h2, hs⟩⟩
    · cases h
  | 3, h =>
    match st, hs, h with
    | v :: st', hs, h =>
      obtain ⟨y, s', rfl, hy, hs'⟩ := aSm_cons hs
      simp only [astep, Bool.and_eq_true, Nat.blt_eq] at h
      exact ⟨akk h.1 hy, h.2.1, go nx _ st' S mem _ s' h.2.2 hS hF ⟨rfl, hy, aflt_ok hl⟩ hs'⟩
  | 4, h =>
    simp only [astep] at h
    split at h
    · next v hv =>
      simp only [Bool.and_eq_true, Nat.blt_eq] at h
      obtain ⟨y, h1, h2⟩ := alk_ok hl hv
      obtain ⟨k1, -, -, σ, w, S', k2, k3, k4⟩ := abin_ok (yy := (0, cI b)) h.2.2 hS h2 ⟨rfl, w32_c h.1⟩ rfl rfl
      refine ⟨y.2, by rw [h1, ← yv0 k1], h.2.1, ?_⟩
      exact hrec M nx _ st frs S' k2 hM hfl (ρ ++ σ) mem d _ s Q (aX_grow hX) hDd k3 hF ⟨rfl, k4, aLm_grow (aflt_ok hl)⟩ (aSm_grow hs) (aKs_grow hK)
    · cases h
  | 5, h =>
    match st, hs, h with
    | vy :: vx :: st', hs, h =>
      obtain ⟨y, s1, rfl, hy, hs1⟩ := aSm_cons hs
      obtain ⟨x, s', rfl, hx, hs'⟩ := aSm_cons hs1
      obtain ⟨k1, k2, k3, k4⟩ := abin_ok h hS hx hy rfl rfl
      rw [yv0 k1, yv0 k2]
      exact ⟨k3, gp hs' k4⟩
  | 6, h =>
    match st, hs, h with
    | vx :: st', hs, h =>
      obtain ⟨x, s', rfl, hx, hs'⟩ := aSm_cons hs
      simp only [astep, Bool.and_eq_true] at h
      rw [yv0 (aint h.1 hx)]
      refine gp hs' (afr_ok h.2 hS ?_ ?_)
      · have := Int8.le_toInt (iI x.2).toInt8
        rw [show w32 ((iI x.2).toInt8.toInt32.toInt) = (iI x.2).toInt8.toInt by
          show (iI _).toInt = _
          rw [iI_t, Int8.toInt_toInt32]]
        simpa using this
      · have := Int8.toInt_lt (iI x.2).toInt8
        rw [show w32 ((iI x.2).toInt8.toInt32.toInt) = (iI x.2).toInt8.toInt by
          show (iI _).toInt = _
          rw [iI_t, Int8.toInt_toInt32]]
        have : (iI x.2).toInt8.toInt < 128 := by simpa using this
        show _ ≤ (127 : Int)
        omega
  | 8, h =>
    match st, hs, h with
    | vy :: vx :: st', hs, h =>
      obtain ⟨y, s1, rfl, hy, hs1⟩ := aSm_cons hs
      obtain ⟨x, s', rfl, hx, hs'⟩ := aSm_cons hs1
      simp only [astep, Bool.and_eq_true] at h
      obtain ⟨h1, h2, h3⟩ := h
      have e1 := along h1 hx
      have e2 := along h2 hy
      rw [yv4 e1, yv4 e2]
      split at h3
      · next hc =>
        simp only [Nat.beq_eq] at hc
        refine go nx lv _ S mem l _ h3 hS hF hl ⟨?_, hs'⟩
        obtain ⟨gx, kx, cx⟩ := vx
        obtain ⟨gy, ky, cy⟩ := vy
        obtain ⟨c1, c2⟩ := hc
        dsimp only at c1 c2
        subst c1
        subst c2
        refine ⟨rfl, _, hx.2, ?_⟩
        have e3 : w64 y.2 = cy := hy.2
        show w32 (ycmp x.2 y.2) = _
        unfold ycmp
        rw [e3]
        dsimp only
        split
        · decide
        · split <;> decide
      · refine gp hs' (afr_ok h3 hS ?_ ?_)
        · unfold ycmp
          split
          · decide
          · split <;> decide
        · unfold ycmp
          split
          · decide
          · split <;> decide
  | 9, h =>
    match st, hs, h with
    | v :: st', hs, h =>
      obtain ⟨y, s', rfl, hy, hs'⟩ := aSm_cons hs
      simp only [astep, Bool.and_eq_true, Nat.beq_eq] at h
      exact ⟨by rw [← acat_ok hy]; exact h.1, go nx lv _ S mem l _ h.2 hS hF hl ⟨hy, hy, hs'⟩⟩
  | 10, h =>
    match st, hs, h with
    | v :: st', hs, h =>
      obtain ⟨y, s', rfl, hy, hs'⟩ := aSm_cons hs
      simp only [astep, Bool.and_eq_true, Nat.beq_eq] at h
      exact ⟨by rw [← acat_ok hy]; exact h.1, go nx lv _ S mem l _ h.2 hS hF hl hs'⟩
  | 11, h =>
    match st, hs, h with
    | v :: w :: st', hs, h =>
      obtain ⟨y, s1, rfl, hy, hs1⟩ := aSm_cons hs
      obtain ⟨x, s', rfl, hx, hs'⟩ := aSm_cons hs1
      simp only [astep, Bool.and_eq_true, Nat.beq_eq] at h
      exact ⟨by rw [← acat_ok hy]; exact h.1, by rw [← acat_ok hx]; exact h.2.1, go nx lv _ S mem l _ h.2.2 hS hF hl ⟨hy, hx, hy, hx, hs'⟩⟩
  | 12, h =>
    match st, hs, h with
    | vx :: st', hs, h =>
      obtain ⟨x, s', rfl, hx, hs'⟩ := aSm_cons hs
      simp only [astep] at h
      split at h
      · next q hq =>
        have key : x.1 = 0 ∧ aOut ρ (acmp b S.2.1 S.2.2 q.1 q.2) (ycp b x.2 0) := by
          unfold atermc at hq
          split at hq
          · next h9 =>
            cases hq
            obtain ⟨g, k, z⟩ := vx
            have h9 : g = 9 := Nat.eq_of_beq_eq_true h9
            subst h9
            obtain ⟨e1, w, e2, e3⟩ := hx
            refine ⟨e1, (acmp_ok hS.2.2.1 hS.2.2.2 (t := (some k, 0)) (u := (none, z)) (x := w) (y := z) ⟨w, e2, by dsimp only; omega⟩ rfl b).iff ?_⟩
            rw [ycp_rel, e3, show w32 0 = 0 by decide]
            dsimp only
            match b with
            | 0 => simp only [relc]; split <;> (try split) <;> omega
            | 1 => simp only [relc]; split <;> (try split) <;> omega
            | 2 => simp only [relc]; split <;> (try split) <;> omega
            | 3 => simp only [relc]; split <;> (try split) <;> omega
            | 4 => simp only [relc]; split <;> (try split) <;> omega
            | n + 5 => simp only [relc]; split <;> (try split) <;> omega
          · split at hq
            · next t ht =>
              cases hq
              obtain ⟨e1, e2⟩ := aterm_ok ht hx
              refine ⟨e1, (acmp_ok hS.2.2.1 hS.2.2.2 e2 (u := (none, 0)) (y := 0) rfl b).iff ?_⟩
              rw [ycp_rel, show w32 0 = 0 by decide]
            · cases hq
        obtain ⟨e1, o, ho, k1, k2, k3⟩ := key
        rw [yv0 e1]
        have h4 := aall_ok h ho
        refine ⟨fun z => ?_, fun z => ?_⟩
        · rw [if_pos (k1.mpr z)] at h4
          exact go a lv st' _ mem l s' h4 ⟨hS.1, hS.2.1, k2, k3⟩ hF hl hs'
        · rw [if_neg (fun w => z (k1.mp w))] at h4
          exact go nx lv st' _ mem l s' h4 ⟨hS.1, hS.2.1, k2, k3⟩ hF hl hs'
      · cases h
  | 13, h =>
    match st, hs, h with
    | vy :: vx :: st', hs, h =>
      obtain ⟨y, s1, rfl, hy, hs1⟩ := aSm_cons hs
      obtain ⟨x, s', rfl, hx, hs'⟩ := aSm_cons hs1
      simp only [astep] at h
      split at h
      · next t u ht hu =>
        obtain ⟨e1, e2⟩ := aterm_ok ht hx
        obtain ⟨e3, e4⟩ := aterm_ok hu hy
        obtain ⟨o, ho, k1, k2, k3⟩ := (acmp_ok hS.2.2.1 hS.2.2.2 e2 e4 b).iff (ycp_rel b x.2 y.2).symm
        rw [yv0 e1, yv0 e3]
        have h4 := aall_ok h ho
        refine ⟨fun z => ?_, fun z => ?_⟩
        · rw [if_pos (k1.mpr z)] at h4
          exact go a lv st' _ mem l s' h4 ⟨hS.1, hS.2.1, k2, k3⟩ hF hl hs'
        · rw [if_neg (fun w => z (k1.mp w))] at h4
          exact go nx lv st' _ mem l s' h4 ⟨hS.1, hS.2.1, k2, k3⟩ hF hl hs'
      · cases h
  | 14, h => exact go nx lv st S mem l s h hS hF hl hs
  | 15, h =>
    match st, hs, h with
    | vx :: st', hs, h =>
      obtain ⟨x, s', rfl, hx, hs'⟩ := aSm_cons hs
      simp only [astep] at h
      split at h
      · next t ht =>
        rw [Bool.and_eq_true] at h
        obtain ⟨e1, e2⟩ := aterm_ok ht hx
        rw [yv0 e1]
        have key := asw_ok hS.2.2.1 hS.2.2.2 e2 h.2
        have hc := acsl_ok h.1
        have inj : ∀ (q q' : Nat × Nat), q ∈ cs → q' ∈ cs → cI q.1 = cI q'.1 → q.1 = q'.1 := fun q q' h1 h2 e => by
          have b1 := hc q h1
          have b2 := hc q' h2
          unfold cI at e
          split at e <;> split at e <;> omega
        refine ⟨fun q hq e => ?_, fun hn => ?_, hc⟩
        · rcases key with ⟨q', hq', e', iv', ne', g1, g2, g3⟩ | ⟨hn, -⟩
          · have e3 := acsl_inj h.1 q hq q' hq' (inj q q' hq hq' (by rw [← e, ← e']))
            subst e3
            exact go _ lv st' _ mem l s' g3 ⟨hS.1, hS.2.1, g1, g2⟩ hF hl hs'
          · exact absurd e (hn q hq)
        · rcases key with ⟨q', hq', e', -⟩ | ⟨-, iv', ne', g1, g2, g3⟩
          · exact absurd e' (hn q' hq')
          · exact go a lv st' _ mem l s' g3 ⟨hS.1, hS.2.1, g1, g2⟩ hF hl hs'
      · cases h
  | 16, h =>
    match st, hs, h with
    | v :: st', hs, h =>
      obtain ⟨y, s', rfl, hy, hs'⟩ := aSm_cons hs
      simp only [astep] at h
      split at h
      · next ci fs hc =>
        obtain ⟨rfl, e2⟩ := arefv hc hy
        rw [Bool.and_eq_true, Nat.beq_eq] at h
        obtain ⟨h1, h2⟩ := h
        subst h1
        split at h2
        · next z hz => exact ⟨fs, (0, z), e2, hz, gp hs' (ardS_ok h2 hS)⟩
        · next z hz =>
          rw [Bool.and_eq_true, zle_ok] at h2
          refine ⟨fs, (1, z), e2, hz, go nx lv _ S mem l _ h2.2 hS hF hl ⟨?_, hs'⟩⟩
          show ((1, z) : yV) = (1, (z.toNat : Int))
          rw [Int.toNat_of_nonneg h2.1]
        · cases h2
      · cases h
  | 17, h =>
    match st, hs, cs, h with
    | vx :: v :: st', hs, [q], h =>
      obtain ⟨x, s1, rfl, hx, hs1⟩ := aSm_cons hs
      obtain ⟨y, s', rfl, hy, hs'⟩ := aSm_cons hs1
      simp only [astep] at h
      split at h
      · next ci fs hc =>
        obtain ⟨rfl, e2⟩ := arefv hc hy
        rw [Bool.and_eq_true, Nat.beq_eq] at h
        obtain ⟨h1, h2⟩ := h
        subst h1
        split at h2
        · next z hz =>
          rw [Bool.and_eq_true, Bool.or_eq_true] at h2
          obtain ⟨h3, h4⟩ := h2
          have hk : akdb 0 vx = true := by
            rcases h3 with h3 | h3
            · rw [Bool.and_eq_true] at h3; exact h3.2
            · simp only [Bool.and_eq_true] at h3; exact h3.2.1
          have e1 := aint hk hx
          have hx' : aok ρ vx (0, x.2) := by rw [← yv0 e1]; exact hx
          obtain ⟨S', k1, k2, k3⟩ := awrS_ok h4 hS hF hx'
          refine ⟨fs, (0, z), e2, hz, ?_, go nx lv st' S' _ l s' k1 k2 k3 hl hs'⟩
          rcases h3 with h3 | h3
          · rw [Bool.and_eq_true, Nat.beq_eq] at h3
            rw [h3.1]
            exact ⟨e1, rfl⟩
          · simp only [Bool.and_eq_true, Nat.beq_eq, ain_ok] at h3
            rw [h3.1]
            have := arng_ok hS.2.2.1 hk hx
            exact ⟨e1, by omega, rfl⟩
        · cases h2
      · cases h
  | 18, h =>
    match st, hs, h with
    | v :: st', hs, h =>
      obtain ⟨y, s', rfl, hy, hs'⟩ := aSm_cons hs
      simp only [astep] at h
      split at h
      · next t n rs hc =>
        obtain ⟨rfl, e2⟩ := arefv hc hy
        rw [Bool.and_eq_true, Nat.blt_eq] at h
        refine ⟨t, n, rs, e2, h.1, go nx lv _ S mem l _ h.2 hS hF hl ⟨⟨rfl, ?_⟩, hs'⟩⟩
        have key : ∀ S ∈ ysh, (match S with
          | .inl (_, n, _) => Nat.blt n 1000000
          | _ => true) = true := by decide +kernel
        have := key _ (List.mem_of_getElem? e2)
        dsimp only at this
        rw [Nat.blt_eq] at this
        exact w32_of (by omega) (by omega)
      · cases h
  | 19, h =>
    match st, hs, h with
    | vj :: v :: st', hs, h =>
      obtain ⟨j, s1, rfl, hj, hs1⟩ := aSm_cons hs
      obtain ⟨y, s', rfl, hy, hs'⟩ := aSm_cons hs1
      simp only [astep] at h
      split at h
      · next t n rs u hc hu =>
        obtain ⟨rfl, e2⟩ := arefv hc hy
        obtain ⟨e1, e3⟩ := aterm_ok hu hj
        have hb := trng_ok hS.2.2.1 e3
        simp only [Bool.and_eq_true, Nat.beq_eq, zle_ok, zlt_ok] at h
        obtain ⟨h1, h2, h3, h4⟩ := h
        subst h1
        rw [yv0 e1]
        refine ⟨n, rs, e2, by omega, by omega, ?_⟩
        split at h4
        · next z hz =>
          have := aeqv_ok hS.2.2.1 e3 hz
          dsimp only
          rw [this]
          exact gp hs' (ardS_ok h4 hS)
        · have := adefl_ok hS.1 v.2.1 (w32 j.2).toNat
          exact gp hs' (afr_ok h4 hS this.1 this.2)
      · cases h
  | 20, h =>
    match st, hs, h with
    | vj :: v :: st', hs, h =>
      obtain ⟨j, s1, rfl, hj, hs1⟩ := aSm_cons hs
      obtain ⟨y, s', rfl, hy, hs'⟩ := aSm_cons hs1
      simp only [astep] at h
      split at h
      · next n rs u hc hu =>
        obtain ⟨rfl, e2⟩ := arefv hc hy
        obtain ⟨e1, e3⟩ := aterm_ok hu hj
        rw [yv0 e1]
        have fin : ∀ (S' : aSt) (z : Int), aSat ρ S' mem → w32 j.2 = z → (zle 0 z && (zlt z (n : Int) && (match rs[z.toNat]? with
            | some q => rec M nx lv ((1, q, 0) :: st') frs S'
            | none => false))) = true → ∃ n' rs' q, ysh[((v.2.1 : Int)).toNat]? = some (.inl (4, n', rs')) ∧ 0 ≤ w32 j.2 ∧ w32 j.2 < (n' : Int) ∧ rs'[(w32 j.2).toNat]? = some q ∧ yG E (yR (d + 1)) M nx l ((1, (q : Int)) :: s') mem 0 0 Q := by
          intro S' z hS' ez hh
          simp only [Bool.and_eq_true, zle_ok, zlt_ok] at hh
          obtain ⟨g1, g2, g3⟩ := hh
          split at g3
          · next q hq =>
            refine ⟨n, rs, q, e2, by omega, by omega, by rw [ez]; exact hq, go nx lv _ S' mem l _ g3 hS' hF hl ⟨rfl, hs'⟩⟩
          · cases g3
        split at h
        · next z hz => exact fin S z hS (aeqv_ok hS.2.2.1 e3 hz) h
        · split at h
          · next k hk =>
            obtain ⟨uk, uc⟩ := u
            dsimp only at hk
            subst hk
            obtain ⟨z, g1, g2⟩ := e3
            obtain ⟨S', f1, f2, f3, f4, f5⟩ := aspl_ok hS g1 h
            split at f2
            · next w hw => exact fin S' w f3 (aeqv_ok f3.2.2.1 (t := (some k, uc)) ⟨z, g1, g2⟩ hw) f2
            · cases f2
          · cases h
      · cases h
  | 21, h =>
    match st, hs, h with
    | vx :: vj :: v :: st', hs, h =>
      obtain ⟨x, s0, rfl, hx, hs0⟩ := aSm_cons hs
      obtain ⟨j, s1, rfl, hj, hs1⟩ := aSm_cons hs0
      obtain ⟨y, s', rfl, hy, hs'⟩ := aSm_cons hs1
      simp only [astep] at h
      split at h
      · next t n rs u hc hu =>
        obtain ⟨rfl, e2⟩ := arefv hc hy
        obtain ⟨e1, e3⟩ := aterm_ok hu hj
        have hb := trng_ok hS.2.2.1 e3
        simp only [Bool.and_eq_true, Nat.beq_eq, zle_ok, zlt_ok] at h
        obtain ⟨h1, h2, h3, h4, h5, h6⟩ := h
        subst h1
        have e0 := aint h2 hx
        have hxr := arng_ok hS.2.2.1 h2 hx
        have hx' : aok ρ vx (0, x.2) := by rw [← yv0 e0]; exact hx
        rw [yv0 e0, yv0 e1]
        refine ⟨n, rs, e2, by omega, by omega, ?_, ?_⟩
        · match t, h5 with
          | 0, _ => trivial
          | 1, h5 =>
            have h5 : ain (arng S.2.1 vx) (-128, 127) = true := h5
            rw [ain_ok] at h5
            exact ⟨by dsimp only at h5; omega, by dsimp only at h5; omega⟩
          | 3, h5 =>
            have h5 : ain (arng S.2.1 vx) (0, 1) = true := h5
            rw [ain_ok] at h5
            show w32 x.2 = 0 ∨ w32 x.2 = 1
            dsimp only at h5
            omega
          | 2, h5 => cases h5
          | k + 4, h5 => cases h5
        · split at h6
          · next z hz =>
            have := aeqv_ok hS.2.2.1 e3 hz
            obtain ⟨S', k1, k2, k3⟩ := awrS_ok h6 hS hF hx'
            dsimp only
            rw [this]
            exact go nx lv st' S' _ l s' k1 k2 k3 hl hs'
          · obtain ⟨S', k1, k2, k3⟩ := awrA_ok (j := (w32 j.2).toNat) h6 hS hF hx'
            exact go nx lv st' S' _ l s' k1 k2 k3 hl hs'
      · cases h
  | 26, h =>
    match st, hs, h with
    | vn :: vdp :: vd :: vsp :: vs :: st', hs, h =>
      obtain ⟨n, s0, rfl, hn, hs0⟩ := aSm_cons hs
      obtain ⟨dp, s1, rfl, hdp, hs1⟩ := aSm_cons hs0
      obtain ⟨dv, s2, rfl, hdv, hs2⟩ := aSm_cons hs1
      obtain ⟨sp, s3, rfl, hsp, hs3⟩ := aSm_cons hs2
      obtain ⟨sv, s', rfl, hsv, hs'⟩ := aSm_cons hs3
      simp only [astep] at h
      split at h
      · next n0 r0 n1 r1 tn td ts c1 c2 c3 c4 c5 =>
        obtain ⟨rfl, e1⟩ := arefv c1 hsv
        obtain ⟨rfl, e2⟩ := arefv c2 hdv
        obtain ⟨f1, f2⟩ := aterm_ok c3 hn
        obtain ⟨f3, f4⟩ := aterm_ok c4 hdp
        obtain ⟨f5, f6⟩ := aterm_ok c5 hsp
        have b1 := trng_ok hS.2.2.1 f2
        have b2 := trng_ok hS.2.2.1 f4
        have b3 := trng_ok hS.2.2.1 f6
        simp only [Bool.and_eq_true, Nat.ble_eq, zle_ok, ain_ok] at h
        obtain ⟨h1, h2, h3, h4, h5, h6, h7, h8, h9, h10⟩ := h
        have e0 : (aent vd.2.1).2 = [] := by
          cases hh : (aent vd.2.1).2 with
          | nil => rfl
          | cons _ _ => rw [hh] at h7; cases h7
        rw [yv0 f1, yv0 f3, yv0 f5]
        refine ⟨by rw [← asum_ok hs']; exact h1, n0, r0, n1, r1, e1, e2, by omega, by omega, by omega, by omega, by omega, ?_⟩
        have := acell_ok (mem' := ycpy mem vs.2.1 (w32 sp.2).toNat vd.2.1 (w32 dp.2).toNat (w32 n.2).toNat) hS hF e0 h9 (fun a b e => acopy_mem e) (fun b => by
          simp only [ycpy, if_true]
          split
          · have := adefl_ok hS.1 vs.2.1 ((w32 sp.2).toNat + (b - (w32 dp.2).toNat))
            omega
          · rw [← agam_def (j := b) e0]
            exact hS.1 _ b)
        exact go nx lv st' _ _ l s' h10 this.1 this.2 hl hs'
      · cases h
  | 27, h => exact acall_ok hX hE hT hO hdis hOm0 hcD hrec hM hfl hDd hS hF hl hs hK h
  | 47, h => exact acall_ok hX hE hT hO hdis hOm0 hcD hrec hM hfl hDd hS hF hl hs hK h
  | 28, h =>
    simp only [astep, Bool.and_eq_true] at h
    refine ⟨?_, acall_ok hX hE hT hO hdis hOm0 hcD hrec hM hfl hDd hS hF hl hs hK h.2⟩
    have h1 := h.1
    dsimp only at h1 ⊢
    cases hmi : xmt[a]? with
    | none => rw [hmi] at h1; cases h1
    | some M' =>
      rw [hmi] at h1
      dsimp only at h1 ⊢
      have hd := aSm_drop (xMn M') hs
      split at h1
      · next v r hv =>
        rw [hv] at hd
        obtain ⟨y, s', e, hy, -⟩ := aSm_cons hd
        rw [e]
        split at h1
        · next ci fs hc =>
          obtain ⟨rfl, e2⟩ := arefv hc hy
          rw [Nat.beq_eq] at h1
          subst h1
          exact ⟨fs, e2⟩
        · cases h1
      · cases h1
  | 30, h =>
    match st, hs, h with
    | [v], hs, h =>
      obtain ⟨y, s', rfl, hy, hs'⟩ := aSm_cons hs
      rw [aSm_nil hs']
      simp only [astep, Bool.and_eq_true] at h
      obtain ⟨h1, h2, h3⟩ := h
      have e1 := aint h1 hy
      rw [yv0 e1]
      refine ⟨?_, aretn_ok hX hrec hO hdis hOm0 hfl hDd hS hF hK (v := some v) (r := some (0, y.2)) (by dsimp only; rw [← yv0 e1]; exact hy) h3⟩
      simp only [Bool.or_eq_true, Bool.and_eq_true, Nat.beq_eq, ain_ok] at h2
      rcases h2 with h2 | h2
      · exact Or.inl h2
      · have := arng_ok hS.2.2.1 h1 hy
        exact Or.inr ⟨h2.1, by omega⟩
  | 31, h =>
    match st, hs, h with
    | [v], hs, h =>
      obtain ⟨y, s', rfl, hy, hs'⟩ := aSm_cons hs
      rw [aSm_nil hs']
      simp only [astep, Bool.and_eq_true] at h
      have e1 := along h.1 hy
      rw [yv4 e1]
      exact aretn_ok hX hrec hO hdis hOm0 hfl hDd hS hF hK (v := some v) (r := some (4, y.2)) (by dsimp only; rw [← yv4 e1]; exact hy) h.2
  | 32, h =>
    match st, hs, h with
    | [], hs, h =>
      rw [aSm_nil hs]
      exact aretn_ok hX hrec hO hdis hOm0 hfl hDd hS hF hK (v := none) (r := none) trivial h
  | 60, h =>
    match st, hs, h with
    | vy :: vx :: st', hs, h =>
      obtain ⟨y, s1, rfl, hy, hs1⟩ := aSm_cons hs
      obtain ⟨x, s', rfl, hx, hs'⟩ := aSm_cons hs1
      simp only [astep, Bool.and_eq_true] at h
      rw [yv4 (along h.1 hx), yv4 (along h.2.1 hy)]
      exact gp hs' (afrL_ok h.2.2 hS)
  | 61, h =>
    match st, hs, h with
    | vy :: vx :: st', hs, h =>
      obtain ⟨y, s1, rfl, hy, hs1⟩ := aSm_cons hs
      obtain ⟨x, s', rfl, hx, hs'⟩ := aSm_cons hs1
      simp only [astep, Bool.and_eq_true] at h
      have hz := anz_ok hS h.2.1 hy
      rw [yv4 (along h.1 hx), yv4 hz.1]
      exact ⟨hz.2, gp hs' (afrL_ok h.2.2 hS)⟩
  | 62, h =>
    match st, hs, h with
    | vy :: vx :: st', hs, h =>
      obtain ⟨y, s1, rfl, hy, hs1⟩ := aSm_cons hs
      obtain ⟨x, s', rfl, hx, hs'⟩ := aSm_cons hs1
      simp only [astep, Bool.and_eq_true] at h
      rw [yv4 (along h.1 hx), yv0 (aint h.2.1 hy)]
      exact gp hs' (afrL_ok h.2.2 hS)
  | 63, h =>
    match st, hs, h with
    | vy :: vx :: st', hs, h =>
      obtain ⟨y, s1, rfl, hy, hs1⟩ := aSm_cons hs
      obtain ⟨x, s', rfl, hx, hs'⟩ := aSm_cons hs1
      simp only [astep, Bool.and_eq_true] at h
      rw [yv4 (along h.1 hx), yv0 (aint h.2.1 hy)]
      exact gp hs' (afrL_ok h.2.2 hS)
  | 64, h =>
    match st, hs, h with
    | vx :: st', hs, h =>
      obtain ⟨x, s', rfl, hx, hs'⟩ := aSm_cons hs
      simp only [astep, Bool.and_eq_true] at h
      obtain ⟨h1, h2⟩ := h
      rw [yv4 (along h1 hx)]
      split at h2
      · next hz =>
        have hnz := aneg_nz (anz_ok hS hz hx).2
        have b0 := w64_lo (-x.2)
        have b3 := w64_hi (-x.2)
        obtain ⟨b1, b2⟩ := aS_new hS (q := a64) (x := w64 (-x.2)) b0 (by show _ ≤ (9223372036854775807 : Int); omega)
        refine hrec M nx lv _ frs _ h2 hM hfl (ρ ++ [w64 (-x.2)]) mem d l _ Q (aX_grow hX) hDd ⟨b1.1, b1.2.1, b1.2.2.1, fun q hq => ?_⟩ hF (aLm_grow hl) ⟨⟨rfl, b2⟩, aSm_grow hs'⟩ (aKs_grow hK)
        rcases List.mem_cons.mp hq with rfl | hq
        · exact ⟨_, b2, hnz⟩
        · exact b1.2.2.2 q hq
      · exact gp hs' (afrL_ok h2 hS)
  | 65, h =>
    match st, hs, h with
    | vx :: st', hs, h =>
      obtain ⟨x, s', rfl, hx, hs'⟩ := aSm_cons hs
      simp only [astep, Bool.and_eq_true] at h
      rw [yv0 (aint h.1 hx)]
      exact gp hs' (afrL_ok h.2 hS)
  | 66, h =>
    match st, hs, h with
    | vx :: st', hs, h =>
      obtain ⟨x, s', rfl, hx, hs'⟩ := aSm_cons hs
      simp only [astep, Bool.and_eq_true] at h
      rw [yv4 (along h.1 hx)]
      exact gp hs' (afr32_ok h.2 hS)
  | 67, h =>
    match st, hs, h with
    | vj :: v :: st', hs, h =>
      obtain ⟨j, s1, rfl, hj, hs1⟩ := aSm_cons hs
      obtain ⟨y, s', rfl, hy, hs'⟩ := aSm_cons hs1
      simp only [astep] at h
      split at h
      · next n rs u hc hu =>
        obtain ⟨rfl, e2⟩ := arefv hc hy
        obtain ⟨e1, e3⟩ := aterm_ok hu hj
        have hb := trng_ok hS.2.2.1 e3
        simp only [Bool.and_eq_true, zle_ok, zlt_ok] at h
        rw [yv0 e1]
        exact ⟨n, rs, e2, by omega, by omega, gp hs' (afrL_ok h.2.2 hS)⟩
      · cases h
  | 68, h =>
    match st, hs, h with
    | vx :: vj :: v :: st', hs, h =>
      obtain ⟨x, s0, rfl, hx, hs0⟩ := aSm_cons hs
      obtain ⟨j, s1, rfl, hj, hs1⟩ := aSm_cons hs0
      obtain ⟨y, s', rfl, hy, hs'⟩ := aSm_cons hs1
      simp only [astep] at h
      split at h
      · next n rs u hc hu =>
        obtain ⟨rfl, e2⟩ := arefv hc hy
        obtain ⟨e1, e3⟩ := aterm_ok hu hj
        have hb := trng_ok hS.2.2.1 e3
        simp only [Bool.and_eq_true, zle_ok, zlt_ok] at h
        obtain ⟨h1, h2, h3, h4, h5, h6⟩ := h
        have e0 : (aent v.2.1).2 = [] ∧ ain a32 (aent v.2.1).1 = true := by
          cases hh : (aent v.2.1).2 with
          | nil => rw [hh] at h4; exact ⟨rfl, h4⟩
          | cons _ _ => rw [hh] at h4; cases h4
        rw [yv0 e1, yv4 (along h1 hx)]
        have h7 := ain_ok.mp e0.2
        have := acell_ok (mem' := yset mem v.2.1 (w32 j.2).toNat x.2) hS hF e0.1 h5 (fun a b e => yset_ne (fun q => e q.1)) (fun b => by
          have b1 := w32_lo (yset mem v.2.1 (w32 j.2).toNat x.2 v.2.1 b)
          have b2 := w32_hi (yset mem v.2.1 (w32 j.2).toNat x.2 v.2.1 b)
          simp only [a32] at h7
          omega)
        exact ⟨n, rs, e2, by omega, by omega, go nx lv st' _ _ l s' h6 this.1 this.2 hl hs'⟩
      · cases h
  | 70, h =>
    match st, hs, h with
    | vy :: vx :: st', hs, h =>
      obtain ⟨y, s1, rfl, hy, hs1⟩ := aSm_cons hs
      obtain ⟨x, s', rfl, hx, hs'⟩ := aSm_cons hs1
      simp only [astep] at h
      split at h
      · next t u ht hu =>
        obtain ⟨e1, e2⟩ := aterm_ok ht hx
        obtain ⟨e3, e4⟩ := aterm_ok hu hy
        have b1 := trng_ok hS.2.2.1 e2
        have b2 := trng_ok hS.2.2.1 e4
        rw [Bool.and_eq_true, Nat.ble_eq] at h
        rw [yv0 e1, yv0 e3]
        refine ⟨by rw [← asum_ok hs']; exact h.1, ?_⟩
        have h5 := h.2
        simp only [Nat.beq_eq] at h5
        dsimp only
        by_cases ha : a = 0
        · rw [if_pos ha] at h5 ⊢
          refine gp hs' (afr_ok h5 hS ?_ ?_)
          · dsimp only
            rw [zmin_ok]
            split <;> omega
          · dsimp only
            rw [zmin_ok]
            split <;> omega
        · rw [if_neg ha] at h5 ⊢
          refine gp hs' (afr_ok h5 hS ?_ ?_)
          · dsimp only
            rw [zmax_ok]
            split <;> omega
          · dsimp only
            rw [zmax_ok]
            split <;> omega
      · cases h
  | 71, h =>
    match st, hs, h with
    | vy :: vx :: st', hs, h =>
      obtain ⟨y, s1, rfl, hy, hs1⟩ := aSm_cons hs
      obtain ⟨x, s', rfl, hx, hs'⟩ := aSm_cons hs1
      simp only [astep, Bool.and_eq_true, Nat.ble_eq] at h
      rw [yv4 (along h.1 hx), yv4 (along h.2.1 hy)]
      exact ⟨by rw [← asum_ok hs']; exact h.2.2.1, gp hs' (afrL_ok h.2.2.2 hS)⟩
  | 72, h =>
    match st, hs, h with
    | vx :: st', hs, h =>
      obtain ⟨x, s', rfl, hx, hs'⟩ := aSm_cons hs
      simp only [astep, Bool.and_eq_true, Nat.ble_eq] at h
      obtain ⟨h1, h0, h2⟩ := h
      rw [yv4 (along h1 hx)]
      refine ⟨by rw [← asum_ok hs']; exact h0, ?_⟩
      split at h2
      · next hz =>
        have hn := (anz_ok hS hz hx).2
        have hnz : ¬ w64 (if 0 < w64 x.2 then x.2 else -x.2) = 0 := by
          split
          · exact hn
          · exact aneg_nz hn
        have b0 := w64_lo (if 0 < w64 x.2 then x.2 else -x.2)
        have b3 := w64_hi (if 0 < w64 x.2 then x.2 else -x.2)
        obtain ⟨b1, b2⟩ := aS_new hS (q := a64) (x := w64 (if 0 < w64 x.2 then x.2 else -x.2)) b0 (by show _ ≤ (9223372036854775807 : Int); omega)
        refine hrec M nx lv _ frs _ h2 hM hfl (ρ ++ [w64 (if 0 < w64 x.2 then x.2 else -x.2)]) mem d l _ Q (aX_grow hX) hDd ⟨b1.1, b1.2.1, b1.2.2.1, fun q hq => ?_⟩ hF (aLm_grow hl) ⟨⟨rfl, b2⟩, aSm_grow hs'⟩ (aKs_grow hK)
        rcases List.mem_cons.mp hq with rfl | hq
        · exact ⟨_, b2, hnz⟩
        · exact b1.2.2.2 q hq
      · exact gp hs' (afrL_ok h2 hS)
end AM
end
section
/-! ranks -/
def aexv (e : aExp) (l : yL) (mem : yMem) : Int := match e.1 with
  | 0 => e.2.2.2.2
  | 1 => (match ylk l e.2.1 with
    | some y => e.2.2.2.2 + e.2.2.2.1 * w32 y.2
    | none => e.2.2.2.2)
  | _ => e.2.2.2.2 + e.2.2.2.1 * w32 (mem e.2.1 e.2.2.1)
section AR
variable {ρ : List Int} {iv : aI} {lv : aL} {l : yL} {S : aSt} {mem : yMem}
theorem arr_ok (hl : aLm ρ lv l) (hS : aSat ρ S mem) {e : aExp} (h : aexok lv S e = true) : aRv ρ (arr lv S e) (aexv e l mem) := by
  obtain ⟨k, i, j, s, c⟩ := e
  unfold aRv arr
  match k, h with
  | 0, h => exact ⟨0, rfl, by show c = c + 0 * 0; omega⟩
  | 1, h =>
    simp only [aexok] at h
    cases hv : alk lv i with
    | none => rw [hv] at h; cases h
    | some v =>
      rw [hv] at h
      simp only [atm] at h
      cases ht : aterm v with
      | none => rw [ht] at h; cases h
      | some t =>
        obtain ⟨y, h1, h2⟩ := alk_ok hl hv
        obtain ⟨-, h4⟩ := aterm_ok ht h2
        simp only [aval, hv, ht, aexv, h1]
        exact ⟨w32 y.2, h4, rfl⟩
  | n + 2, h =>
    simp only [aexok] at h
    cases hv : amlk S.1 i j with
    | none => rw [hv] at h; cases h
    | some v =>
      rw [hv] at h
      simp only [atm] at h
      cases ht : aterm v with
      | none => rw [ht] at h; cases h
      | some t =>
        have h2 := hS.2.1 _ (amlk_ok hv)
        obtain ⟨-, h4⟩ := aterm_ok ht h2
        simp only [aval, hv, ht, aexv]
        exact ⟨w32 (mem i j), h4, rfl⟩
theorem rb_ok (hI : aIok ρ iv) {r : aRk} {v : Int} (h : aRv ρ r v) : rlo iv r ≤ v ∧ v ≤ rhi iv r := by
  obtain ⟨x, h1, h2⟩ := h
  have hb := trng_ok hI h1
  unfold rlo rhi
  by_cases hs : 0 ≤ r.1
  · rw [if_pos (zle_ok.mpr hs), if_pos (zle_ok.mpr hs), h2]
    have m1 := Int.mul_le_mul_of_nonneg_left hb.1 hs
    have m2 := Int.mul_le_mul_of_nonneg_left hb.2 hs
    omega
  · rw [if_neg (fun z => hs (zle_ok.mp z)), if_neg (fun z => hs (zle_ok.mp z)), h2]
    have m1 := Int.mul_le_mul_of_nonneg_left hb.1 (show 0 ≤ -r.1 by omega)
    have m2 := Int.mul_le_mul_of_nonneg_left hb.2 (show 0 ≤ -r.1 by omega)
    rw [Int.neg_mul, Int.neg_mul] at m1 m2
    omega
theorem rsame_ok {r q : aRk} {v w : Int} (h : rsame r q = true) (hr : aRv ρ r v) (hq : aRv ρ q w) : v - w = (r.2.2 + r.1 * r.2.1.2) - (q.2.2 + q.1 * q.2.1.2) := by
  obtain ⟨s, ⟨k, a⟩, c⟩ := r
  obtain ⟨s', ⟨k', a'⟩, c'⟩ := q
  obtain ⟨x, h1, h2⟩ := hr
  obtain ⟨y, h3, h4⟩ := hq
  simp only [rsame, Bool.and_eq_true, zeq_ok] at h
  obtain ⟨e1, e2⟩ := h
  subst e1
  dsimp only at h2 h4 ⊢
  cases k with
  | none =>
    cases k' with
    | none =>
      have h1 : x = a := h1
      have h3 : y = a' := h3
      rw [h2, h4, h1, h3]
    | some _ => cases e2
  | some k =>
    cases k' with
    | none => cases e2
    | some k' =>
      have e2 : k = k' := Nat.eq_of_beq_eq_true e2
      subst e2
      obtain ⟨z, g1, g2⟩ := h1
      obtain ⟨z', g3, g4⟩ := h3
      rw [g1] at g3
      cases g3
      dsimp only at g2 g4
      rw [h2, h4, g2, g4, Int.mul_add, Int.mul_add]
      omega
theorem rlt_ok (hI : aIok ρ iv) {r q : aRk} {v w : Int} (h : rlt iv r q = true) (hr : aRv ρ r v) (hq : aRv ρ q w) : v.toNat < w.toNat := by
  simp only [rlt, Bool.and_eq_true, Bool.or_eq_true, zle_ok, zlt_ok] at h
  have b1 := rb_ok hI hr
  have b2 := rb_ok hI hq
  obtain ⟨h1, h2⟩ := h
  rcases h2 with h2 | h2
  · have := rsame_ok h2.1 hr hq
    omega
  · omega
theorem rle_ok (hI : aIok ρ iv) {r q : aRk} {v w : Int} (h : rle iv r q = true) (hr : aRv ρ r v) (hq : aRv ρ q w) : v.toNat ≤ w.toNat := by
  simp only [rle, Bool.and_eq_true, Bool.or_eq_true, zle_ok] at h
  have b1 := rb_ok hI hr
  have b2 := rb_ok hI hq
  rcases h with h2 | h2
  · have := rsame_ok h2.1 hr hq
    omega
  · omega
def aLess (a : Nat × Nat × Nat) (b : Nat × Nat × Nat) : Prop := a.1 < b.1 ∨ (a.1 = b.1 ∧ (a.2.1 < b.2.1 ∨ (a.2.1 = b.2.1 ∧ a.2.2 < b.2.2)))
theorem arank_ok (hI : aIok ρ iv) {g g' : aRank} {v1 v2 w1 w2 : Int} (h : arank iv g' g = true) (h1 : aRv ρ g'.2.1 v1) (h2 : aRv ρ g'.2.2 v2) (h3 : aRv ρ g.2.1 w1) (h4 : aRv ρ g.2.2 w2) : aLess (g'.1, v1.toNat, v2.toNat) (g.1, w1.toNat, w2.toNat) := by
  simp only [arank, Bool.or_eq_true, Bool.and_eq_true, Nat.blt_eq, Nat.beq_eq] at h
  rcases h with h | ⟨h, hh⟩
  · exact Or.inl h
  · refine Or.inr ⟨h, ?_⟩
    rcases hh with hh | ⟨hh, hk⟩
    · exact Or.inl (rlt_ok hI hh h1 h3)
    · have a1 := rle_ok hI hh h1 h3
      have a2 := rlt_ok hI hk h2 h4
      dsimp only
      omega
theorem alocs_ok (hI : aIok ρ iv) (hl : aLm ρ lv l) : ∀ {as : List (Nat × aArg)}, alocs iv lv as = true → ∃ l' : yL, (∀ q ∈ l', q ∈ l) ∧ aAnn as l' ∧ ∀ q ∈ l', ylk l q.1 = some q.2
  | [], _ => ⟨[], fun q hq => (by cases hq), trivial, fun q hq => (by cases hq)⟩
  | a :: r, h => by
    simp only [alocs, Bool.and_eq_true] at h
    obtain ⟨l', k1, k2, k3⟩ := alocs_ok hI hl h.2
    have h1 := h.1
    split at h1
    · next v hv =>
      obtain ⟨y, g1, g2⟩ := alk_ok hl hv
      refine ⟨(a.1, y) :: l', fun q hq => ?_, ⟨rfl, aargI_ok hI h1 g2, k2⟩, fun q hq => ?_⟩
      · rcases List.mem_cons.mp hq with rfl | hq
        · exact ylk_mem g1
        · exact k1 q hq
      · rcases List.mem_cons.mp hq with rfl | hq
        · exact g1
        · exact k3 q hq
    · cases h1
end AR
theorem yG_sub {E : yE} {R : Room} {M : xM} {pc : Nat} {lv lv' : yL} {st : List yV} {mem : yMem} {ce sl : Nat} {Post : Option yV → yMem → Prop} (hs : ∀ q ∈ lv', q ∈ lv) (h : yG E R M pc lv' st mem ce sl Post) : yG E R M pc lv st mem ce sl Post := by
  intro p e s m args below meth c A Qc hC hQ H locs ls hl hP hS
  refine h p e s m args below meth c A Qc hC hQ H locs ls ⟨hl.1, hl.2.1, fun q hq => hl.2.2 q ?_⟩ hP hS
  obtain ⟨z, hz, rfl⟩ := List.mem_map.mp hq
  exact List.mem_map.mpr ⟨z, hs z hz, rfl⟩
section AC
variable {E : yE} {Om : yMem → Prop} {oc : List Nat} {T : List aCon} {c : aCon} {mem0 : yMem} {D : Nat} {M0 : xM} {g : aRank} {v1 v2 : Int}
/-- what is known at a cut -/
def aAt (c : aCon) (mem0 : yMem) (a : aCut) (l : yL) (mem : yMem) : Prop := aAnn a.1 l ∧ aFok a.2.1 mem ∧ aGok mem ∧ aFrm (acW c) mem0 mem
def aHyp (E : yE) (Om : yMem → Prop) (c : aCon) (mem0 : yMem) (D : Nat) (M0 : xM) (b : Nat × Nat × Nat) : Prop := ∀ (pc : Nat) (q : Nat × List aCut), acf (acC c) pc = some q → ∀ a ∈ q.2, ∀ (l : yL) (mem : yMem), aAt c mem0 a l mem → aLess (a.2.2.1, (aexv a.2.2.2.1 l mem).toNat, (aexv a.2.2.2.2 l mem).toNat) b → ∀ Q : Option yV → yMem → Prop, (∀ r mem', aEnd Om c mem0 r mem' → Q r mem') → yG E (yR D) M0 pc l [] mem 0 0 Q
theorem aexv_sub {e : aExp} {l l' : yL} {mem : yMem} {lv : aL} {S : aSt} {ρ : List Int} (h : e.1 = 1 → ylk l' e.2.1 = ylk l e.2.1) : aexv e l' mem = aexv e l mem := by
  obtain ⟨k, i, j, s, z⟩ := e
  match k, h with
  | 0, _ => rfl
  | 1, h =>
    simp only [aexv]
    rw [h rfl]
  | n + 2, _ => rfl
/-- the ranks' locals are among those that are told -/
def acov (a : aCut) : Bool := (!(Nat.beq a.2.2.2.1.1 1) || a.1.any (fun q => Nat.beq q.1 a.2.2.2.1.2.1)) && (!(Nat.beq a.2.2.2.2.1 1) || a.1.any (fun q => Nat.beq q.1 a.2.2.2.2.2.1))
theorem acov_lk {as : List (Nat × aArg)} {l l' : yL} (ha : aAnn as l') (hk : ∀ q ∈ l', ylk l q.1 = some q.2) {i : Nat} (hi : as.any (fun q => Nat.beq q.1 i) = true) : ylk l' i = ylk l i := by
  have key : ∀ (as : List (Nat × aArg)) (m : yL), aAnn as m → (∀ q ∈ m, ylk l q.1 = some q.2) → as.any (fun q => Nat.beq q.1 i) = true → ylk m i = ylk l i := by
    intro as
    induction as with
    | nil => intro m _ _ h; cases h
    | cons a r ih =>
      intro m hm hk h
      cases m with
      | nil => exact hm.elim
      | cons p s =>
        simp only [ylk]
        by_cases hp : Nat.beq p.1 i = true
        · rw [if_pos hp]
          have := hk p List.mem_cons_self
          rw [Nat.beq_eq] at hp
          rw [hp] at this
          exact this.symm
        · rw [if_neg hp]
          refine ih s hm.2.2 (fun q hq => hk q (List.mem_cons_of_mem _ hq)) ?_
          simp only [List.any_cons, Bool.or_eq_true] at h
          rcases h with h | h
          · rw [hm.1] at h
            exact absurd h hp
          · exact h
  exact key as l' ha hk hi
theorem acuts_ok {lv : aL} {S : aSt} {ρ : List Int} {mem : yMem} {l : yL} {Q : Option yV → yMem → Prop} {pc : Nat} {q : Nat × List aCut} (hq : acf (acC c) pc = some q) (hcov : ∀ a ∈ q.2, acov a = true) (hH : aHyp E Om c mem0 D M0 (g.1, v1.toNat, v2.toNat)) (h1 : aRv ρ g.2.1 v1) (h2 : aRv ρ g.2.2 v2) (hS : aSat ρ S mem) (hF : aFrm (acW c) mem0 mem) (hl : aLm ρ lv l) (hK : ∀ r mem', aEnd Om c mem0 r mem' → Q r mem') : ∀ {cs : List aCut}, (∀ a ∈ cs, a ∈ q.2) → acuts lv S g cs = true → yG E (yR D) M0 pc l [] mem 0 0 Q
  | [], _, h => by cases h
  | a :: r, hsub, h => by
    simp only [acuts, Bool.or_eq_true] at h
    rcases h with h | h
    · simp only [acut1, Bool.and_eq_true] at h
      obtain ⟨⟨⟨k1, k2⟩, k3⟩, k4, k5⟩ := h
      obtain ⟨l', g1, g2, g3⟩ := alocs_ok hS.2.2.1 hl k3
      refine yG_sub g1 (hH pc q hq a (hsub a List.mem_cons_self) l' mem ⟨g2, afcts_ok hS k4, hS.1, hF⟩ ?_ Q hK)
      have hc := hcov a (hsub a List.mem_cons_self)
      simp only [acov, Bool.and_eq_true, Bool.or_eq_true, Bool.not_eq_true'] at hc
      have e1 : aexv a.2.2.2.1 l' mem = aexv a.2.2.2.1 l mem := aexv_sub (lv := lv) (S := S) (ρ := ρ) (fun e => by
        rcases hc.1 with z | z
        · rw [e] at z; cases z
        · exact acov_lk g2 g3 z)
      have e2 : aexv a.2.2.2.2 l' mem = aexv a.2.2.2.2 l mem := aexv_sub (lv := lv) (S := S) (ρ := ρ) (fun e => by
        rcases hc.2 with z | z
        · rw [e] at z; cases z
        · exact acov_lk g2 g3 z)
      rw [e1, e2]
      exact arank_ok hS.2.2.1 k5 (arr_ok hl hS k1) (arr_ok hl hS k2) h1 h2
    · exact acuts_ok hq hcov hH h1 h2 hS hF hl hK (fun z hz => hsub z (List.mem_cons_of_mem _ hz)) h
theorem ai_ok (hE : yEok E) (hT : ∀ e ∈ T, aSnd Om e) (hO : aOmF oc Om) (hdis : adis oc (acW c) = true) (hOm0 : Om mem0) (hcD : acD c ≤ D) (hcov : ∀ pc q, acf (acC c) pc = some q → ∀ a ∈ q.2, acov a = true) (hH : aHyp E Om c mem0 D M0 (g.1, v1.toNat, v2.toNat)) : ∀ n : Nat, aRs E Om c mem0 D M0 g v1 v2 (ai T c g n) := by
  intro n
  induction n with
  | zero =>
    intro M pc lv st frs S h
    cases h
  | succ n ih =>
    intro M pc lv st frs S h hM hfl ρ mem d l s Q hX hDd hS hF hl hs hK
    rw [ai_succ] at h
    simp only [ago] at h
    split at h
    · next q hq =>
      split at h
      · have e := hX.1
        have e : M = M0 := e
        subst e
        rw [aSm_nil hs]
        simp only [List.length_nil, Nat.add_zero] at hDd
        rw [← hDd]
        obtain ⟨q1, q2⟩ := q
        unfold acutc at h
        dsimp only at h
        split at h
        · exact acuts_ok hq (hcov pc _ hq) hH hX.2.1 hX.2.2 hS hF hl hK (fun a ha => ha) h
        · split at h
          · next v hv =>
            split at h
            · next h3 =>
              obtain ⟨y, -, h2⟩ := alk_ok hl hv
              obtain ⟨g9, k, z⟩ := v
              have h3 : g9 = 3 := Nat.eq_of_beq_eq_true h3
              subst h3
              obtain ⟨-, x, f1, -⟩ := h2
              obtain ⟨S', f2, f3, f4, -, -⟩ := aspl_ok hS f1 h
              exact acuts_ok hq (hcov pc _ hq) hH hX.2.1 hX.2.2 f4 hF hl hK (fun a ha => ha) f3
            · exact acuts_ok hq (hcov pc _ hq) hH hX.2.1 hX.2.2 hS hF hl hK (fun a ha => ha) h
          · cases h
      · cases h
    · split at h
      · cases h
      · next op hop => exact astep_ok hX hE hT hO hdis hOm0 hcD ih hM hfl hDd hS hF hl hs hK (hM.2.2.2.2.2 _ (xfind_mem hop)) h
theorem lex3 {P : Nat × Nat × Nat → Prop} (h : ∀ b, (∀ a, aLess a b → P a) → P b) : ∀ b, P b := by
  have k : ∀ (n m k : Nat), P (n, m, k) := by
    intro n
    induction n using Nat.strongRecOn with
    | _ n ihn =>
      intro m
      induction m using Nat.strongRecOn with
      | _ m ihm =>
        intro k
        induction k using Nat.strongRecOn with
        | _ k ihk =>
          refine h _ (fun a ha => ?_)
          obtain ⟨a1, a2, a3⟩ := a
          rcases ha with ha | ⟨e, ha⟩
          · exact ihn a1 ha a2 a3
          · have e : a1 = n := e
            subst e
            rcases ha with ha | ⟨e, ha⟩
            · exact ihm a2 ha a3
            · have e : a2 = m := e
              subst e
              exact ihk a3 ha
  exact fun b => k b.1 b.2.1 b.2.2
theorem acf_mem {pc : Nat} {q : Nat × List aCut} : ∀ {cs : List (Nat × Nat × List aCut)}, acf cs pc = some q → (pc, q) ∈ cs
  | p :: r, h => by
    simp only [acf] at h
    split at h
    · next e =>
      cases h
      rw [Nat.beq_eq] at e
      subst e
      exact List.mem_cons_self
    · exact List.mem_cons_of_mem _ (acf_mem h)
theorem abeg_ok {a : aCut} {l : yL} {mem : yMem} (h : aAt c mem0 a l mem) : ∃ ρ, aLm ρ (abeg a).1 l ∧ aSat ρ (abeg a).2 mem := by
  obtain ⟨h1, h2, h3, h4⟩ := h
  obtain ⟨σ, g1, g2⟩ := albeg_ok (iv := []) (ρ := []) h1 ⟨rfl, fun k q hk => by simp at hk⟩
  rw [List.nil_append] at g1 g2
  obtain ⟨τ, g3, g4⟩ := afbeg_ok (mp := []) h2 (fun q hq => by cases hq) g2
  exact ⟨σ ++ τ, aLm_grow g1, h3, g3, g4, fun q hq => by cases hq⟩
theorem arun_ok (hE : yEok E) (hT : ∀ e ∈ T, aSnd Om e) (hO : aOmF oc Om) (hdis : adis oc (acW c) = true) (hOm0 : Om mem0) (h1D : 1 ≤ acD c) (hcD : acD c ≤ D) (hM0 : xMok xmt M0) (hcov : ∀ pc q, acf (acC c) pc = some q → ∀ a ∈ q.2, acov a = true) (hH : aHyp E Om c mem0 D M0 (g.1, v1.toNat, v2.toNat)) {n pc : Nat} {lv : aL} {S : aSt} {ρ : List Int} {l : yL} {mem : yMem} {Q : Option yV → yMem → Prop} (h1 : aRv ρ g.2.1 v1) (h2 : aRv ρ g.2.2 v2) (hl : aLm ρ lv l) (hS : aSat ρ S mem) (hF : aFrm (acW c) mem0 mem) (hK : ∀ r mem', aEnd Om c mem0 r mem' → Q r mem') (h : arun T c g n M0 pc lv S = true) : yG E (yR D) M0 pc l [] mem 0 0 Q := by
  unfold arun at h
  split at h
  · cases h
  · next op hop =>
    obtain ⟨d, rfl⟩ : ∃ d, D = d + 1 := ⟨D - 1, by omega⟩
    exact astep_ok (d := d) (frs := []) (st := []) (s := []) ⟨rfl, h1, h2⟩ hE hT hO hdis hOm0 hcD (ai_ok hE hT hO hdis hOm0 hcD hcov hH n) hM0 (by simp only [List.length_nil]; omega) (by simp) hS hF hl trivial hK (hM0.2.2.2.2.2 _ (xfind_mem hop)) h
theorem achkC_ok {n pc : Nat} {M : xM} : ∀ {cs : List aCut}, achkC T c n M pc cs = true → ∀ a ∈ cs, aexok (abeg a).1 (abeg a).2 a.2.2.2.1 = true ∧ aexok (abeg a).1 (abeg a).2 a.2.2.2.2 = true ∧ arun T c (a.2.2.1, arr (abeg a).1 (abeg a).2 a.2.2.2.1, arr (abeg a).1 (abeg a).2 a.2.2.2.2) n M pc (abeg a).1 (abeg a).2 = true
  | [], _, a, ha => by cases ha
  | p :: r, h, a, ha => by
    simp only [achkC, Bool.and_eq_true] at h
    rcases List.mem_cons.mp ha with rfl | ha
    · exact ⟨h.1.1.1, h.1.1.2, h.1.2⟩
    · exact achkC_ok h.2 a ha
theorem achkL_ok {n : Nat} {M : xM} : ∀ {cs : List (Nat × Nat × List aCut)}, achkL T c n M cs = true → ∀ q ∈ cs, achkC T c n M q.1 q.2.2 = true
  | [], _, q, hq => by cases hq
  | p :: r, h, q, hq => by
    simp only [achkL, Bool.and_eq_true] at h
    rcases List.mem_cons.mp hq with rfl | hq
    · exact h.1
    · exact achkL_ok h.2 q hq
end AC
def acovL (c : aCon) : Bool := (acC c).all (fun q => q.2.2.all acov)
def asumA : List aArg → Nat
  | [] => 0
  | a :: r => (if Nat.beq a.1 8 then 2 else 1) + asumA r
theorem asumA_ok : ∀ {as : List aArg} {ys : List yV}, aArgsOk as ys → asumA as = ysum ys
  | [], [], _ => rfl
  | a :: r, y :: s, h => by
    have e : (if Nat.beq a.1 8 then 2 else 1) = ycat y := by
      obtain ⟨g, c, lo, hi⟩ := a
      obtain ⟨y1, y2⟩ := y
      match g, h.1 with
      | 0, h => have e : y1 = 0 := h.1; subst e; rfl
      | 3, h => have e : y1 = 0 := h.1; subst e; rfl
      | 1, h => have e : ((y1, y2) : yV) = (1, (c : Int)) := h; cases e; rfl
      | 8, h => have e : y1 = 4 := h; subst e; rfl
      | 2, h | 4, h | 5, h | 6, h | 7, h => exact h.elim
      | n + 9, h => exact h.elim
    simp only [asumA, ysum, e, asumA_ok h.2]
  | [], _ :: _, h => h.elim
  | _ :: _, [], h => h.elim
/-- all that is asked of a contract besides its runs -/
def acok (oc : List Nat) (c : aCon) : Bool := adis oc (acW c) && (acovL c && (match xmt[acM c]? with
  | some M => Nat.ble (asumA (acA c)) (xMl M)
  | none => false))
/-- A CONTRACT BY A RUN -/
theorem aSnd_of {Om : yMem → Prop} {oc : List Nat} {T : List aCon} {c : aCon} (hO : aOmF oc Om) (hT : ∀ e ∈ T, aSnd Om e) (n : Nat) (hk : acok oc c = true) (h : achk T c n = true) : aSnd Om c := by
  intro E hE D hD M hM args mem Q hA hG hOm hP hQ
  simp only [acok, Bool.and_eq_true] at hk
  obtain ⟨hdis, hcv, hsz⟩ := hk
  unfold achk at h
  rw [hM] at h hsz
  simp only [Bool.and_eq_true, Nat.ble_eq] at h hsz
  obtain ⟨h1, h2, h3⟩ := h
  have hM0 := xmt_ok _ M hM
  have hcov : ∀ pc q, acf (acC c) pc = some q → ∀ a ∈ q.2, acov a = true := fun pc q hq a ha => List.all_eq_true.mp (List.all_eq_true.mp hcv _ (acf_mem hq)) a ha
  have hH : ∀ b, aHyp E Om c mem D M b := by
    intro b
    refine lex3 (P := fun b => aHyp E Om c mem D M b) ?_ b
    intro b ih pc q hq a ha l mem' hat hless Q' hQ'
    obtain ⟨ρ, g1, g2⟩ := abeg_ok hat
    obtain ⟨k1, k2, k3⟩ := achkC_ok (achkL_ok h3 _ (acf_mem hq)) a ha
    exact arun_ok (g := (a.2.2.1, arr (abeg a).1 (abeg a).2 a.2.2.2.1, arr (abeg a).1 (abeg a).2 a.2.2.2.2)) (v1 := aexv a.2.2.2.1 l mem') (v2 := aexv a.2.2.2.2 l mem') hE hT hO hdis hOm h1 hD hM0 hcov (ih _ hless) (arr_ok g1 g2 k1) (arr_ok g1 g2 k2) g1 g2 hat.2.2.2 hQ' k3
  refine yCon_of hM0 (by rw [← asumA_ok hA]; exact hsz) ?_
  have hat : aAt c mem (aidx 0 (acA c), acP c, 0, (0, 0, 0, 0, 0), (0, 0, 0, 0, 0)) (yargs 0 args) mem := ⟨aidx_ok 0 hA, hP, hG, aFrm_refl⟩
  obtain ⟨ρ, g1, g2⟩ := abeg_ok hat
  exact arun_ok (g := (1000000, azr, azr)) (v1 := 0) (v2 := 0) hE hT hO hdis hOm h1 hD hM0 hcov (hH _) ⟨0, rfl, rfl⟩ ⟨0, rfl, rfl⟩ g1 g2 aFrm_refl hQ h2
/-- a contract whose arguments are of one of two kinds -/
theorem aSnd_or {Om : yMem → Prop} {c c1 c2 : aCon} (h1 : aSnd Om c1) (h2 : aSnd Om c2) (e1 : c1 = (acM c, acA c1, c.2.2.1, c.2.2.2.1, c.2.2.2.2.1, c.2.2.2.2.2.1, acD c1, acC c1)) (e2 : c2 = (acM c, acA c2, c.2.2.1, c.2.2.2.1, c.2.2.2.2.1, c.2.2.2.2.2.1, acD c2, acC c2)) (d1 : acD c1 ≤ acD c) (d2 : acD c2 ≤ acD c) (hA : ∀ args, aArgsOk (acA c) args → aArgsOk (acA c1) args ∨ aArgsOk (acA c2) args) : aSnd Om c := by
  intro E hE D hD M hM args mem Q ha hG hOm hP hQ
  rcases hA args ha with ha | ha
  · have f1 : acM c1 = acM c := by rw [e1]
    have f2 : acP c1 = acP c := by rw [e1]
    refine h1 E hE D (by omega) M (by rw [f1]; exact hM) args mem Q ha hG hOm (by rw [f2]; exact hP) (fun r mem' he => hQ r mem' ?_)
    rw [e1] at he
    exact he
  · have f1 : acM c2 = acM c := by rw [e2]
    have f2 : acP c2 = acP c := by rw [e2]
    refine h2 E hE D (by omega) M (by rw [f1]; exact hM) args mem Q ha hG hOm (by rw [f2]; exact hP) (fun r mem' he => hQ r mem' ?_)
    rw [e2] at he
    exact he
end
section
/-! SYMBOLIC RUNS BY REWRITING. Registers: a list, one entry a local; zvc runs a method's instructions (n of them at most, up to a cut, into small callees) and says what must hold; s_.. rows rewrite it instruction by instruction. -/
abbrev zR : Type := List (Option yV)
def zrl : Nat → zR → yL
  | _, [] => []
  | i, none :: r => zrl (i + 1) r
  | i, some v :: r => (i, v) :: zrl (i + 1) r
def zG (E : yE) (d : Nat) (M : xM) (pc : Nat) (rg : zR) (st : List yV) (mem : yMem) (Post : Option yV → yMem → Prop) : Prop := yG E (yR (d + 1)) M pc (zrl 0 rg) st mem 0 0 Post
theorem zG_sub {E : yE} {R : Room} {M : xM} {pc : Nat} {lv lv' : yL} {st : List yV} {mem : yMem} {ce sl : Nat} {Post : Option yV → yMem → Prop} (hs : ∀ q ∈ lv', q ∈ lv) (h : yG E R M pc lv' st mem ce sl Post) : yG E R M pc lv st mem ce sl Post := by
  intro p e s m args below meth c A Qc hC hQ H locs ls hl hP hS
  refine h p e s m args below meth c A Qc hC hQ H locs ls ⟨hl.1, hl.2.1, fun q hq => ?_⟩ hP hS
  obtain ⟨a, ha, rfl⟩ := List.mem_map.mp hq
  exact hl.2.2 _ (List.mem_map.mpr ⟨a, hs a ha, rfl⟩)
theorem yCon_mono {E : yE} {d : Nat} {M : xM} {avs : List yV} {mem : yMem} {P1 P2 : Option yV → yMem → Prop} (h : yCon E d M avs mem P1) (hp : ∀ r mem', P1 r mem' → P2 r mem') : yCon E d M avs mem P2 := by
  intro sz hb p e ha hc hk s m args below hf happ hP hK
  obtain ⟨n, o, h1, h2, h3, ⟨r, mem', k1, k2⟩, h5⟩ := h sz hb p e ha hc hk s m args below hf happ hP hK
  exact ⟨n, o, h1, h2, h3, ⟨r, mem', hp _ _ k1, k2⟩, h5⟩
def znl (q : Option yV) : Option yV := match q with
  | some v => (match ycat v with
    | 2 => none
    | _ => some v)
  | none => none
def zdr : zR → zR
  | [] => []
  | _ :: r => none :: r
def zset (k : Nat) (v : yV) : zR → Nat → zR
  | [], _ => []
  | _ :: r, 0 => some v :: (match k with
    | 2 => zdr r
    | _ => r)
  | q :: r, i + 1 => (match i with
    | 0 => znl q
    | _ => q) :: zset k v r i
theorem zrl_lo : ∀ (rg : zR) (o : Nat) (q : Nat × yV), q ∈ zrl o rg → o ≤ q.1
  | [], _, q, h => by cases h
  | none :: r, o, q, h => by have := zrl_lo r (o + 1) q h; omega
  | some v :: r, o, q, h => by
    rcases List.mem_cons.mp h with rfl | h
    · exact Nat.le_refl _
    · have := zrl_lo r (o + 1) q h; omega
theorem zrl_cons {o : Nat} {q0 : Option yV} {r : zR} {q : Nat × yV} (h : q ∈ zrl (o + 1) r) : q ∈ zrl o (q0 :: r) := by
  cases q0 with
  | none => exact h
  | some v => exact List.mem_cons_of_mem _ h
theorem yfl_far {k i : Nat} {q : Nat × yV} (h1 : i + 2 ≤ q.1) : yflb k i q = true := by
  have e1 : Nat.beq q.1 i = false := by rw [← Bool.not_eq_true, Nat.beq_eq]; omega
  have e2 : Nat.beq q.1 (i + 1) = false := by rw [← Bool.not_eq_true, Nat.beq_eq]; omega
  have e3 : Nat.beq (q.1 + 1) i = false := by rw [← Bool.not_eq_true, Nat.beq_eq]; omega
  unfold yflb
  split <;> simp [e1, e2, e3]
theorem yfl_next {k i : Nat} {q : Nat × yV} (hk : k ≠ 2) (h1 : i + 1 ≤ q.1) : yflb k i q = true := by
  have e1 : Nat.beq q.1 i = false := by rw [← Bool.not_eq_true, Nat.beq_eq]; omega
  have e3 : Nat.beq (q.1 + 1) i = false := by rw [← Bool.not_eq_true, Nat.beq_eq]; omega
  unfold yflb
  split
  · exact absurd rfl hk
  · simp [e1, e3]
theorem yfl_prev {k i : Nat} {q : Nat × yV} (h1 : q.1 < i) (h2 : q.1 + 1 = i → ycat q.2 ≠ 2) : yflb k i q = true := by
  have e1 : Nat.beq q.1 i = false := by rw [← Bool.not_eq_true, Nat.beq_eq]; omega
  have e2 : Nat.beq q.1 (i + 1) = false := by rw [← Bool.not_eq_true, Nat.beq_eq]; omega
  have e3 : (Nat.beq (q.1 + 1) i && Nat.beq (ycat q.2) 2) = false := by
    rw [← Bool.not_eq_true, Bool.and_eq_true, Nat.beq_eq, Nat.beq_eq]
    exact fun h => h2 h.1 h.2
  unfold yflb
  split <;> simp [e1, e2, e3]
theorem zset_ok {k : Nat} {v : yV} : ∀ (rg : zR) (o i : Nat) (q : Nat × yV), q ∈ zrl o (zset k v rg i) → q ∈ (o + i, v) :: (zrl o rg).filter (yflb k (o + i))
  | [], o, i, q, h => by cases h
  | q0 :: r, o, 0, q, h => by
    have key : ∀ r' : zR, q ∈ zrl (o + 1) r' → q ∈ zrl (o + 1) r → yflb k o q = true → q ∈ (o + 0, v) :: (zrl o (q0 :: r)).filter (yflb k (o + 0)) := fun r' _ h2 h3 =>
      List.mem_cons_of_mem _ (List.mem_filter.mpr ⟨zrl_cons h2, by rw [Nat.add_zero]; exact h3⟩)
    simp only [zset] at h
    rcases List.mem_cons.mp h with rfl | h
    · exact List.mem_cons_self
    · split at h
      · match r, h with
        | a :: r', h =>
          have h1 := zrl_lo r' (o + 2) q h
          exact key _ (zrl_cons (q0 := none) h) (zrl_cons h) (yfl_far h1)
      · next hk => exact key _ h h (yfl_next (fun e => hk e) (zrl_lo _ _ _ h))
  | q0 :: r, o, i + 1, q, h => by
    simp only [zset] at h
    have rest : q ∈ zrl (o + 1) (zset k v r i) → q ∈ (o + (i + 1), v) :: (zrl o (q0 :: r)).filter (yflb k (o + (i + 1))) := by
      intro h
      have := zset_ok r (o + 1) i q h
      rw [show o + 1 + i = o + (i + 1) by omega] at this
      rcases List.mem_cons.mp this with h | h
      · rw [h]; exact List.mem_cons_self
      · obtain ⟨h1, h2⟩ := List.mem_filter.mp h
        exact List.mem_cons_of_mem _ (List.mem_filter.mpr ⟨zrl_cons h1, h2⟩)
    have one : ∀ w : yV, q0 = some w → q = (o, w) → (i = 0 → ycat w ≠ 2) → q ∈ (o + (i + 1), v) :: (zrl o (q0 :: r)).filter (yflb k (o + (i + 1))) := by
      intro w h1 h2 h3
      subst h1; subst h2
      exact List.mem_cons_of_mem _ (List.mem_filter.mpr ⟨List.mem_cons_self, yfl_prev (show o < o + (i + 1) by omega) (fun e => h3 (by dsimp only at e; omega))⟩)
    split at h
    · cases q0 with
      | none => exact rest h
      | some w =>
        simp only [znl] at h
        split at h
        · exact rest h
        · next hw =>
          rcases List.mem_cons.mp h with h | h
          · exact one w rfl h (fun _ => hw)
          · exact rest h
    · next hi =>
      cases q0 with
      | none => exact rest h
      | some w =>
        rcases List.mem_cons.mp h with h | h
        · exact one w rfl h (fun e => absurd e hi)
        · exact rest h
theorem zrl_get : ∀ (rg : zR) (o i : Nat) (v : yV), rg[i]? = some (some v) → ylk (zrl o rg) (o + i) = some v
  | [], o, i, v, h => by simp at h
  | none :: r, o, 0, v, h => by simp at h
  | some w :: r, o, 0, v, h => by
    simp only [List.getElem?_cons_zero, Option.some.injEq] at h
    subst h
    simp only [zrl, ylk, Nat.add_zero]
    rw [if_pos ((Nat.beq_eq (x := o) (y := o)).mpr rfl)]
  | none :: r, o, i + 1, v, h => by
    have := zrl_get r (o + 1) i v (by simpa using h)
    rw [show o + 1 + i = o + (i + 1) by omega] at this
    exact this
  | some w :: r, o, i + 1, v, h => by
    have := zrl_get r (o + 1) i v (by simpa using h)
    rw [show o + 1 + i = o + (i + 1) by omega] at this
    simp only [zrl, ylk]
    rw [if_neg (by rw [Nat.beq_eq]; omega)]
    exact this
/-- how long the array at cell z is, if its elements are of type t -/
def zar (z : Int) (t : Nat) : Nat := match ysh[z.toNat]? with
  | some (.inl (t', n, _)) => if t' = t then n else 0
  | _ => 0
theorem zar_ok {z : Int} {t : Nat} {j : Int} (h1 : 0 ≤ j) (h2 : j < ((zar z t : Nat) : Int)) : ∃ n rs, ysh[z.toNat]? = some (.inl (t, n, rs)) ∧ zar z t = n := by
  unfold zar at h2 ⊢
  split at h2
  · next t' n rs e =>
    split at h2
    · next e2 => subst e2; rw [if_pos rfl]; exact ⟨n, rs, e, rfl⟩
    · omega
  · omega
def zcut (cs : List Nat) (pc : Nat) : Bool := match cs with
  | [] => false
  | a :: r => Nat.beq a pc || zcut r pc
def zis (l : List Nat) (a : Nat) : Bool := match l with
  | [] => false
  | b :: r => Nat.beq a b || zis r a
def zarg : Nat → List yV → zR
  | m, [] => List.replicate m none
  | m, v :: r => match ycat v with
    | 2 => some v :: none :: zarg (m - 2) r
    | _ => some v :: zarg (m - 1) r
theorem zrl_none : ∀ (m o : Nat), zrl o (List.replicate m none) = []
  | 0, _ => rfl
  | m + 1, o => by rw [List.replicate_succ]; exact zrl_none m (o + 1)
theorem ycat_12 (v : yV) : ycat v = 1 ∨ ycat v = 2 := by
  match v with
  | (0, _) | (1, _) | (2, _) | (5, _) | (6, _) | (7, _) => exact Or.inl rfl
  | (3, _) | (4, _) => exact Or.inr rfl
  | (n + 8, _) => exact Or.inr rfl
theorem zarg_ok : ∀ (vs : List yV) (m o : Nat), zrl o (zarg m vs) = yargs o vs
  | [], m, o => zrl_none m o
  | v :: r, m, o => by
    rcases ycat_12 v with e | e
    · simp only [zarg, yargs, e]
      show (o, v) :: zrl (o + 1) (zarg (m - 1) r) = _
      rw [zarg_ok r]
    · simp only [zarg, yargs, e]
      show (o, v) :: zrl (o + 1 + 1) (zarg (m - 2) r) = _
      rw [zarg_ok r]
theorem zcon_of {E : yE} {d : Nat} {M : xM} (hM : xMok xmt M) {avs : List yV} {mem : yMem} {Post : Option yV → yMem → Prop} (hs : ysum avs ≤ xMl M) (h : zG E d M 0 (zarg (xMl M) avs) [] mem Post) : yCon E (d + 1) M avs mem Post := by
  refine yCon_of hM hs ?_
  have := h
  unfold zG at this
  rw [zarg_ok] at this
  exact this
end
section
/-- small methods that a symbolic run goes into -/
def zin : List Nat := [143, 170, 173, 178, 181, 183, 184, 185, 188, 189, 190, 191, 192, 194, 196, 197, 198, 200, 202, 219, 220, 221, 254, 160, 34, 17, 20, 139, 62, 63, 64, 66, 72, 78, 79, 81, 82, 103, 104, 101, 123, 124, 125, 119, 258, 259, 260, 262, 264]
def zpop : Nat → List yV → List yV → Option (List yV × List yV)
  | 0, acc, st => some (acc, st)
  | n + 1, acc, v :: st => zpop n (v :: acc) st
  | _ + 1, _, [] => none
theorem zpop_ok : ∀ {n : Nat} {acc st as r : List yV}, zpop n acc st = some (as, r) → n ≤ st.length ∧ as = (st.take n).reverse ++ acc ∧ r = st.drop n
  | 0, acc, st, as, r, h => by
    simp only [zpop, Option.some.injEq, Prod.mk.injEq] at h
    obtain ⟨rfl, rfl⟩ := h
    simp
  | n + 1, acc, [], as, r, h => by cases h
  | n + 1, acc, v :: st, as, r, h => by
    obtain ⟨h1, h2, h3⟩ := zpop_ok (n := n) h
    refine ⟨by rw [List.length_cons]; omega, ?_, by rw [h3]; rfl⟩
    rw [h2, List.take_succ_cons, List.reverse_cons, List.append_assoc]
    rfl
/-- is the cell z an array of type t; an object of class c; how long is the array -/
def zit (z : Int) (t : Nat) : Bool := match ysh[z.toNat]? with
  | some (.inl (t', _, _)) => Nat.beq t' t
  | _ => false
def zio (z : Int) (c : Nat) : Bool := match ysh[z.toNat]? with
  | some (.inr (c', _)) => Nat.beq c' c
  | _ => false
def zia (z : Int) : Bool := match ysh[z.toNat]? with
  | some (.inl (t, _, _)) => Nat.blt t 5
  | _ => false
def zln (z : Int) : Nat := match ysh[z.toNat]? with
  | some (.inl (_, n, _)) => n
  | _ => 0
theorem zit_ok {z : Int} {t : Nat} (h : zit z t = true) : ∃ rs, ysh[z.toNat]? = some (.inl (t, zar z t, rs)) := by
  unfold zit at h
  unfold zar
  split at h
  · next t' n rs e =>
    rw [Nat.beq_eq] at h
    subst h
    refine ⟨rs, ?_⟩
    rw [e]
    simp
  · cases h
theorem zio_ok {z : Int} {c : Nat} (h : zio z c = true) : ∃ fs, ysh[z.toNat]? = some (.inr (c, fs)) := by
  unfold zio at h
  split at h
  · next t' fs e =>
    rw [Nat.beq_eq] at h
    subst h
    exact ⟨fs, e⟩
  · cases h
theorem zia_ok {z : Int} (h : zia z = true) : ∃ t rs, ysh[z.toNat]? = some (.inl (t, zln z, rs)) ∧ t < 5 := by
  unfold zia at h
  unfold zln
  split at h
  · next t n rs e =>
    refine ⟨t, rs, ?_, ?_⟩
    · rw [e]
    · exact Nat.le_of_ble_eq_true h
  · cases h
def zcall (E : yE) (d mi n0 nx : Nat) (rg : zR) (st : List yV) (mem : yMem) (rcv : List yV → Prop) (k : Nat → zR → List yV → yMem → Prop) (kg : Nat → zR → List yV → yMem → Prop) (kin : xM → List yV → yMem → (Option yV → yMem → Prop) → Prop) : Prop := match xmt[mi]? with
  | none => False
  | some M' => match zpop (xMn M' + n0) [] st with
    | none => False
    | some (as, r) => match Nat.ble (xMl M') 45 && Nat.ble (ysum as) (xMl M') with
      | false => False
      | true => rcv as ∧ ysum r ≤ 8 ∧ (match zis zin mi with
        | true => kin M' as mem (fun v mem' => k nx rg (yput r v) mem')
        | false => yCon E d M' as mem (fun v mem' => kg nx rg (yput r v) mem'))
def zsw (x : Int) (k : Nat → Prop) (dflt : Nat) : List (Nat × Nat) → Prop
  | [] => k dflt
  | q :: r => (w32 x = cI q.1 → k q.2) ∧ (¬ w32 x = cI q.1 → zsw x k dflt r)
theorem cI_inj {a b : Nat} (ha : a < 4294967296) (hb : b < 4294967296) (h : cI a = cI b) : a = b := by
  have e : ∀ a : Nat, cI a = if a < 2147483648 then (a : Int) else (a : Int) - 4294967296 := fun a => by
    unfold cI
    by_cases h : a < 2147483648
    · rw [if_pos h, if_pos (show a.blt 2147483648 = true from Nat.ble_eq_true_of_le h)]
    · rw [if_neg h, if_neg (fun z : a.blt 2147483648 = true => h (Nat.le_of_ble_eq_true z))]
  rw [e, e] at h
  split at h <;> split at h <;> omega
theorem zsw_ok {x : Int} {k : Nat → Prop} {dflt : Nat} : ∀ {cs : List (Nat × Nat)}, acsl cs = true → zsw x k dflt cs → (∀ q ∈ cs, w32 x = cI q.1 → k q.2) ∧ ((∀ q ∈ cs, ¬ w32 x = cI q.1) → k dflt) ∧ (∀ q ∈ cs, q.1 < 4294967296)
  | [], _, h => ⟨fun q hq => (by cases hq), fun _ => h, fun q hq => (by cases hq)⟩
  | q :: r, hc, h => by
    simp only [acsl, Bool.and_eq_true, Bool.not_eq_true'] at hc
    obtain ⟨h1, h2, h3⟩ := hc
    have hb : q.1 < 4294967296 := Nat.le_of_ble_eq_true h1
    by_cases e : w32 x = cI q.1
    · refine ⟨fun p hp e2 => ?_, fun h => absurd e (h q List.mem_cons_self), fun p hp => ?_⟩
      · rcases List.mem_cons.mp hp with rfl | hp
        · exact h.1 e
        · exfalso
          rw [List.any_eq_false] at h2
          have hp2 : p.1 < 4294967296 := by
            have : ∀ (l : List (Nat × Nat)), acsl l = true → ∀ p ∈ l, p.1 < 4294967296 := by
              intro l
              induction l with
              | nil => intro _ p hp; cases hp
              | cons a l ih =>
                intro hl p hp
                simp only [acsl, Bool.and_eq_true] at hl
                rcases List.mem_cons.mp hp with rfl | hp
                · exact Nat.le_of_ble_eq_true hl.1
                · exact ih hl.2.2 p hp
            exact this r h3 p hp
          exact h2 p hp (Nat.beq_eq.mpr (cI_inj hp2 hb (by rw [← e2, e])))
      · rcases List.mem_cons.mp hp with rfl | hp
        · exact hb
        · have : ∀ (l : List (Nat × Nat)), acsl l = true → ∀ p ∈ l, p.1 < 4294967296 := by
            intro l
            induction l with
            | nil => intro _ p hp; cases hp
            | cons a l ih =>
              intro hl p hp
              simp only [acsl, Bool.and_eq_true] at hl
              rcases List.mem_cons.mp hp with rfl | hp
              · exact Nat.le_of_ble_eq_true hl.1
              · exact ih hl.2.2 p hp
          exact this r h3 p hp
    · obtain ⟨g1, g2, g3⟩ := zsw_ok h3 (h.2 e)
      refine ⟨fun p hp e2 => ?_, fun h => g2 (fun p hp => h p (List.mem_cons_of_mem _ hp)), fun p hp => ?_⟩
      · rcases List.mem_cons.mp hp with rfl | hp
        · exact absurd e2 e
        · exact g1 p hp e2
      · rcases List.mem_cons.mp hp with rfl | hp
        · exact hb
        · exact g3 p hp
def zstep (E : yE) (d : Nat) (M : xM) (op : xOp) (rg : zR) (st : List yV) (mem : yMem) (Post : Option yV → yMem → Prop) (k : Nat → zR → List yV → yMem → Prop) (kg : Nat → zR → List yV → yMem → Prop) (kin : xM → List yV → yMem → (Option yV → yMem → Prop) → Prop) : Prop := match op.1 with
  | 2 => match rg[op.2.2.2.1]? with
    | some (some v) => (match ykdb op.2.2.1 v with
      | true => k op.2.1 rg (v :: st) mem
      | false => False)
    | _ => False
  | 3 => match st with
    | v :: st' => (match ykdb op.2.2.1 v && Nat.blt (op.2.2.2.1 + xwd op.2.2.1) (xMl M) with
      | true => k op.2.1 (zset op.2.2.1 v rg op.2.2.2.1) st' mem
      | false => False)
    | [] => False
  | 4 => match rg[op.2.2.1]? with
    | some (some (0, x)) => (match Nat.blt op.2.2.1 (xMl M) with
      | true => k op.2.1 (zset 0 (0, x + cI op.2.2.2.1) rg op.2.2.1) st mem
      | false => False)
    | _ => False
  | 5 => match st with
    | (0, y) :: (0, x) :: st' => (match op.2.2.1 with
      | 9 => ¬ w32 y = 0 ∧ k op.2.1 rg ((0, ybin 9 x y) :: st') mem
      | 10 => ¬ w32 y = 0 ∧ k op.2.1 rg ((0, ybin 10 x y) :: st') mem
      | o => k op.2.1 rg ((0, ybin o x y) :: st') mem)
    | _ => False
  | 9 => match st with
    | v :: st' => (match ycat v with
      | 1 => k op.2.1 rg (v :: v :: st') mem
      | _ => False)
    | _ => False
  | 10 => match st with
    | v :: st' => (match ycat v with
      | 1 => k op.2.1 rg st' mem
      | _ => False)
    | _ => False
  | 11 => match st with
    | v :: w :: st' => (match ycat v, ycat w with
      | 1, 1 => k op.2.1 rg (v :: w :: v :: w :: st') mem
      | _, _ => False)
    | _ => False
  | 15 => match st with
    | (0, x) :: st' => (match acsl op.2.2.2.2 with
      | true => zsw x (fun t => k t rg st' mem) op.2.2.1 op.2.2.2.2
      | false => False)
    | _ => False
  | 16 => match st with
    | (1, i) :: st' => (match ysh[i.toNat]? with
      | some (.inr (ci, fs)) => (match Nat.beq ci op.2.2.1, fs[op.2.2.2.1]? with
        | true, some v => k op.2.1 rg (yfv v (mem i.toNat op.2.2.2.1) :: st') mem
        | _, _ => False)
      | _ => False)
    | _ => False
  | 17 => match st, op.2.2.2.2 with
    | v :: (1, i) :: st', [q] => (match ysh[i.toNat]? with
      | some (.inr (ci, fs)) => (match Nat.beq ci op.2.2.1, fs[op.2.2.2.1]? with
        | true, some w => (match q.1, Nat.beq v.1 0 && Nat.beq w.1 0 with
          | 0, true => k op.2.1 rg st' (yset mem i.toNat op.2.2.2.1 v.2)
          | 3, true => (w32 v.2 = 0 ∨ w32 v.2 = 1) ∧ k op.2.1 rg st' (yset mem i.toNat op.2.2.2.1 v.2)
          | _, _ => False)
        | _, _ => False)
      | _ => False)
    | _, _ => False
  | 18 => match st with
    | (1, i) :: st' => zia i = true ∧ k op.2.1 rg ((0, ((zln i : Nat) : Int)) :: st') mem
    | (6, i) :: st' => i.toNat < 3 ∧ k op.2.1 rg ((0, ((xlen.getD i.toNat 0 : Nat) : Int)) :: st') mem
    | _ => False
  | 19 => match st with
    | (0, j) :: (1, i) :: st' => (0 ≤ w32 j ∧ w32 j < ((zar i op.2.2.1 : Nat) : Int)) ∧ k op.2.1 rg ((0, mem i.toNat (w32 j).toNat) :: st') mem
    | _ => False
  | 20 => match st with
    | (0, j) :: (1, i) :: st' => ∃ n rs q, ysh[i.toNat]? = some (.inl (4, n, rs)) ∧ 0 ≤ w32 j ∧ w32 j < (n : Int) ∧ rs[(w32 j).toNat]? = some q ∧ k op.2.1 rg ((1, (q : Int)) :: st') mem
    | _ => False
  | 21 => match st with
    | (0, x) :: (0, j) :: (1, i) :: st' => (0 ≤ w32 j ∧ w32 j < ((zar i op.2.2.1 : Nat) : Int)) ∧ (match op.2.2.1 with
      | 0 => k op.2.1 rg st' (yset mem i.toNat (w32 j).toNat x)
      | t => ynok t x ∧ k op.2.1 rg st' (yset mem i.toNat (w32 j).toNat x))
    | _ => False
  | 26 => match st with
    | (0, n) :: (0, dp) :: (1, dd) :: (0, sp) :: (1, ss) :: st' => ysum st' ≤ 8 ∧ zit ss 0 = true ∧ zit dd 0 = true ∧ 0 ≤ w32 n ∧ 0 ≤ w32 sp ∧ 0 ≤ w32 dp ∧ w32 sp + w32 n ≤ ((zar ss 0 : Nat) : Int) ∧ w32 dp + w32 n ≤ ((zar dd 0 : Nat) : Int) ∧ k op.2.1 rg st' (ycpy mem ss.toNat (w32 sp).toNat dd.toNat (w32 dp).toNat (w32 n).toNat)
    | _ => False
  | 27 => zcall E d op.2.2.1 0 op.2.1 rg st mem (fun _ => True) k kg kin
  | 47 => zcall E d op.2.2.1 0 op.2.1 rg st mem (fun _ => True) k kg kin
  | 28 => zcall E d op.2.2.1 1 op.2.1 rg st mem (fun as => match as with
    | (1, i) :: _ => zio i op.2.2.2.1 = true
    | _ => False) k kg kin
  | 39 => zcall E d op.2.2.1 1 op.2.1 rg st mem (fun as => match as with
    | (5, i) :: _ => i.toNat < 3
    | _ => False) k kg kin
  | 30 => match st with
    | [(0, x)] => (match op.2.2.2.1 with
      | 0 => Post (some (0, x)) mem
      | 3 => (w32 x = 0 ∨ w32 x = 1) ∧ Post (some (0, x)) mem
      | _ => False)
    | _ => False
  | 67 => match st with
    | (0, j) :: (1, i) :: st' => (0 ≤ w32 j ∧ w32 j < ((zar i 2 : Nat) : Int)) ∧ k op.2.1 rg ((4, mem i.toNat (w32 j).toNat) :: st') mem
    | _ => False
  | 68 => match st with
    | (4, x) :: (0, j) :: (1, i) :: st' => (0 ≤ w32 j ∧ w32 j < ((zar i 2 : Nat) : Int)) ∧ k op.2.1 rg st' (yset mem i.toNat (w32 j).toNat x)
    | _ => False
  | 69 => match st with
    | v :: st' => (match ycat v with
      | 2 => k op.2.1 rg st' mem
      | _ => False)
    | _ => False
  | _ => ystep E (yR (d + 1)) d M op [] st mem Post (fun pc' _ st' mem' => k pc' rg st' mem')
def zvc (E : yE) : Nat → List Nat → Nat → xM → Nat → zR → List yV → yMem → (Option yV → yMem → Prop) → Prop
  | 0, _, d, M, pc, rg, st, mem, Post => zG E d M pc rg st mem Post
  | n + 1, cs, d, M, pc, rg, st, mem, Post => match zcut cs pc with
    | true => zG E d M pc rg st mem Post
    | false => match xfind (xMk M) pc with
      | none => False
      | some op => zstep E d M op rg st mem Post (fun pc' rg' st' mem' => zvc E n cs d M pc' rg' st' mem' Post) (fun pc' rg' st' mem' => zG E d M pc' rg' st' mem' Post) (fun M' as mem' P => match d with
        | 0 => False
        | d' + 1 => zvc E n [] d' M' 0 (zarg (xMl M') as) [] mem' P)
/-- from a cut on -/
def zgo (E : yE) (n : Nat) (cs : List Nat) (d : Nat) (M : xM) (pc : Nat) (rg : zR) (st : List yV) (mem : yMem) (Post : Option yV → yMem → Prop) : Prop := match xfind (xMk M) pc with
  | none => False
  | some op => zstep E d M op rg st mem Post (fun pc' rg' st' mem' => zvc E n cs d M pc' rg' st' mem' Post) (fun pc' rg' st' mem' => zG E d M pc' rg' st' mem' Post) (fun M' as mem' P => match d with
    | 0 => False
    | d' + 1 => zvc E n [] d' M' 0 (zarg (xMl M') as) [] mem' P)
/-- Math.min and the like -/
def zmnl (x y : Int) : Int := if w64 y < w64 x then y else x
def zmxl (x y : Int) : Int := if w64 y < w64 x then x else y
def zmni (x y : Int) : Int := if w32 y < w32 x then y else x
def zmxi (x y : Int) : Int := if w32 x < w32 y then y else x
def zabl (x : Int) : Int := if 0 < w64 x then x else -x
theorem zrf {α : Sort _} {a b : α} (h : a = b) : a = b := h
def zvk (E : yE) (n : Nat) (cs : List Nat) (d : Nat) (M : xM) (pc : Nat) (rg : zR) (st : List yV) (v : Option yV) (mem : yMem) (Post : Option yV → yMem → Prop) : Prop := zvc E n cs d M pc rg (yput st v) mem Post
theorem zvk_s {E : yE} {n : Nat} {cs : List Nat} {d : Nat} {M : xM} {pc : Nat} {rg : zR} {st : List yV} {v : yV} {mem : yMem} {Post : Option yV → yMem → Prop} : zvk E n cs d M pc rg st (some v) mem Post = zvc E n cs d M pc rg (v :: st) mem Post := zrf rfl
theorem zvk_n {E : yE} {n : Nat} {cs : List Nat} {d : Nat} {M : xM} {pc : Nat} {rg : zR} {st : List yV} {mem : yMem} {Post : Option yV → yMem → Prop} : zvk E n cs d M pc rg st none mem Post = zvc E n cs d M pc rg st mem Post := zrf rfl
def zgk (E : yE) (d : Nat) (M : xM) (pc : Nat) (rg : zR) (st : List yV) (v : Option yV) (mem : yMem) (Post : Option yV → yMem → Prop) : Prop := zG E d M pc rg (yput st v) mem Post
end
section
section ZO
variable {E : yE} {d : Nat} {M : xM} {pc : Nat} {rg : zR} {st : List yV} {mem : yMem} {Post : Option yV → yMem → Prop}
/-- ops that leave the locals alone and aren't told anew in zstep -/
theorem zdel {R : Room} {op : xOp} {k1 : Nat → yL → List yV → yMem → Prop} {k2 : Nat → yL → List yV → yMem → Prop} {lv lv' : yL} (hk : ∀ pc st mem, k1 pc lv st mem → k2 pc lv' st mem) (hn : zis [0, 1, 6, 8, 12, 13, 14, 15, 30, 31, 32, 33, 34, 35, 37, 38, 40, 41, 60, 61, 62, 63, 64, 65, 66, 70, 71, 72] op.1 = true) (h : ystep E R d M op lv st mem Post k1) : ystep E R d M op lv' st mem Post k2 := by
  obtain ⟨tg, nx, a, b, cs⟩ := op
  match tg, hn, h with
  | 0, _, h => exact hk _ _ _ h
  | 1, _, h => exact hk _ _ _ h
  | 6, _, h =>
    match st, h with
    | (0, x) :: st', h => exact hk _ _ _ h
  | 8, _, h =>
    match st, h with
    | (4, y) :: (4, x) :: st', h => exact hk _ _ _ h
  | 12, _, h =>
    match st, h with
    | (0, x) :: st', h => exact ⟨fun c => hk _ _ _ (h.1 c), fun c => hk _ _ _ (h.2 c)⟩
  | 13, _, h =>
    match st, h with
    | (0, y) :: (0, x) :: st', h => exact ⟨fun c => hk _ _ _ (h.1 c), fun c => hk _ _ _ (h.2 c)⟩
  | 14, _, h => exact hk _ _ _ h
  | 15, _, h =>
    match st, h with
    | (0, x) :: st', h => exact ⟨fun q hq c => hk _ _ _ (h.1 q hq c), fun c => hk _ _ _ (h.2.1 c), h.2.2⟩
  | 30, _, h =>
    match st, h with
    | [(0, x)], h => exact h
  | 31, _, h =>
    match st, h with
    | [(4, x)], h => exact h
  | 32, _, h =>
    match st, h with
    | [], h => exact h
  | 33, _, h => exact hk _ _ _ h
  | 34, _, h => exact hk _ _ _ h
  | 35, _, h =>
    match st, h with
    | (5, i) :: st', h => exact ⟨h.1, hk _ _ _ h.2⟩
  | 37, _, h =>
    match st, h with
    | (0, j) :: (6, i) :: st', h => exact ⟨h.1, h.2.1, h.2.2.1, hk _ _ _ h.2.2.2⟩
  | 38, _, h =>
    match st, h with
    | (0, x) :: st', h => exact ⟨h.1, h.2.1, hk _ _ _ h.2.2⟩
  | 40, _, h =>
    match st, h with
    | [(0, x)], h => exact h
  | 41, _, h => exact hk _ _ _ h
  | 60, _, h =>
    match st, h with
    | (4, y) :: (4, x) :: st', h => exact hk _ _ _ h
  | 61, _, h =>
    match st, h with
    | (4, y) :: (4, x) :: st', h => exact ⟨h.1, hk _ _ _ h.2⟩
  | 62, _, h =>
    match st, h with
    | (0, y) :: (4, x) :: st', h => exact hk _ _ _ h
  | 63, _, h =>
    match st, h with
    | (0, y) :: (4, x) :: st', h => exact hk _ _ _ h
  | 64, _, h =>
    match st, h with
    | (4, x) :: st', h => exact hk _ _ _ h
  | 65, _, h =>
    match st, h with
    | (0, x) :: st', h => exact hk _ _ _ h
  | 66, _, h =>
    match st, h with
    | (4, x) :: st', h => exact hk _ _ _ h
  | 70, _, h =>
    match st, h with
    | (0, y) :: (0, x) :: st', h => exact ⟨h.1, hk _ _ _ h.2⟩
  | 71, _, h =>
    match st, h with
    | (4, y) :: (4, x) :: st', h => exact ⟨h.1, hk _ _ _ h.2⟩
  | 72, _, h =>
    match st, h with
    | (4, x) :: st', h => exact ⟨h.1, hk _ _ _ h.2⟩
theorem ztop {st : List yV} {n : Nat} {v : yV} {r : List yV} (hl : n + 1 ≤ st.length) (e : (st.take (n + 1)).reverse = v :: r) : ∃ r', st.drop n = v :: r' := by
  have e4 : st.take (n + 1) = r.reverse ++ [v] := by
    have := congrArg List.reverse e
    rw [List.reverse_reverse, List.reverse_cons] at this
    exact this
  have hr : r.length = n := by
    have h5 := congrArg List.length e4
    rw [List.length_take, List.length_append, List.length_reverse] at h5
    simp at h5
    omega
  have h2 : (st.take (n + 1))[n]? = some v := by
    rw [e4, List.getElem?_append_right (by simp [hr])]
    simp [hr]
  rw [List.getElem?_take_of_lt (by omega)] at h2
  obtain ⟨h6, h7⟩ := List.getElem?_eq_some_iff.mp h2
  refine ⟨st.drop (n + 1), ?_⟩
  rw [List.drop_eq_getElem_cons h6, h7]
theorem zcall_ok {mi n0 nx : Nat} {rcv : List yV → Prop} {k kg : Nat → zR → List yV → yMem → Prop} {kin : xM → List yV → yMem → (Option yV → yMem → Prop) → Prop} (hk : ∀ pc rg st mem, k pc rg st mem → zG E d M pc rg st mem Post) (hkg : ∀ pc rg st mem, kg pc rg st mem → zG E d M pc rg st mem Post) (hkin : ∀ M' as mem P, xMok xmt M' → ysum as ≤ xMl M' → kin M' as mem P → yCon E d M' as mem P) (h : zcall E d mi n0 nx rg st mem rcv k kg kin) : ∃ M', xmt[mi]? = some M' ∧ rcv (st.take (xMn M' + n0)).reverse ∧ ycall E d mi n0 st mem (fun st' mem' => yG E (yR (d + 1)) M nx (zrl 0 rg) st' mem' 0 0 Post) := by
  unfold zcall at h
  split at h
  · exact h.elim
  · next M' hM' =>
    refine ⟨M', hM', ?_⟩
    split at h
    · exact h.elim
    · next as r hp =>
      obtain ⟨h1, h2, h3⟩ := zpop_ok hp
      rw [List.append_nil] at h2
      subst h2; subst h3
      split at h
      · exact h.elim
      · next hb =>
        rw [Bool.and_eq_true, Nat.ble_eq, Nat.ble_eq] at hb
        obtain ⟨g1, g2, g3⟩ := h
        refine ⟨g1, ?_⟩
        unfold ycall
        rw [hM']
        refine ⟨h1, g2, by rw [← ysum_rev]; exact hb.2, hb.1, ?_⟩
        split at g3
        · exact yCon_mono (hkin M' _ mem _ (xmt_ok mi M' hM') hb.2 g3) (fun r mem' z => hk _ _ _ _ z)
        · exact yCon_mono g3 (fun r mem' z => hkg _ _ _ _ z)
set_option maxHeartbeats 4000000 in
theorem zst (hE : yEok E) {op : xOp} (hok : xok xmt M pc op) {k kg : Nat → zR → List yV → yMem → Prop} {kin : xM → List yV → yMem → (Option yV → yMem → Prop) → Prop} (hk : ∀ pc rg st mem, k pc rg st mem → zG E d M pc rg st mem Post) (hkg : ∀ pc rg st mem, kg pc rg st mem → zG E d M pc rg st mem Post) (hkin : ∀ M' as mem P, xMok xmt M' → ysum as ≤ xMl M' → kin M' as mem P → yCon E d M' as mem P) (h : zstep E d M op rg st mem Post k kg kin) : zG E d M pc rg st mem Post := by
  unfold zG
  refine yst hE (d := d) ⟨Nat.le_refl _, (show 64 * d + 64 ≤ 64 * (d + 1) by omega)⟩ ⟨Nat.le_refl _, Nat.le_refl _⟩ hok ?_
  have del : zis [0, 1, 6, 8, 12, 13, 14, 15, 30, 31, 32, 33, 34, 35, 37, 38, 40, 41, 60, 61, 62, 63, 64, 65, 66, 70, 71, 72] op.1 = true → ystep E (yR (d + 1)) d M op [] st mem Post (fun pc' _ st' mem' => k pc' rg st' mem') → ystep E (yR (d + 1)) d M op (zrl 0 rg) st mem Post (fun pc' lv' st' mem' => yG E (yR (d + 1)) M pc' lv' st' mem' 0 0 Post) :=
    fun hn h => zdel (fun pc st mem z => hk pc rg st mem z) hn h
  obtain ⟨tg, nx, a, b, cs⟩ := op
  match tg, h, del with
  | 0, h, del => exact del rfl h
  | 1, h, del => exact del rfl h
  | 2, h, _ =>
    simp only [zstep] at h
    split at h
    · next v hv =>
      split at h
      · next hb => exact ⟨v, by have := zrl_get rg 0 b v hv; rwa [Nat.zero_add] at this, hb, hk _ _ _ _ h⟩
      · exact h.elim
    · exact h.elim
  | 3, h, _ =>
    match st, h with
    | v :: st', h =>
      simp only [zstep] at h
      split at h
      · next hb =>
        rw [Bool.and_eq_true] at hb
        refine ⟨hb.1, Nat.le_of_ble_eq_true hb.2, ?_⟩
        refine zG_sub (fun q hq => ?_) (hk _ _ _ _ h)
        have := zset_ok rg 0 b q hq
        rwa [Nat.zero_add] at this
      · exact h.elim
  | 4, h, _ =>
    simp only [zstep] at h
    split at h
    · next x hv =>
      split at h
      · next hb =>
        refine ⟨x, by have := zrl_get rg 0 a _ hv; rwa [Nat.zero_add] at this, Nat.le_of_ble_eq_true hb, ?_⟩
        refine zG_sub (fun q hq => ?_) (hk _ _ _ _ h)
        have := zset_ok rg 0 a q hq
        rwa [Nat.zero_add] at this
      · exact h.elim
    · exact h.elim
  | 5, h, _ =>
    match st, h with
    | (0, y) :: (0, x) :: st', h =>
      simp only [zstep] at h
      split at h
      · exact ⟨fun _ => h.1, hk _ _ _ _ h.2⟩
      · exact ⟨fun _ => h.1, hk _ _ _ _ h.2⟩
      · next h9 h10 => exact ⟨fun z => z.elim (fun e => (h9 e).elim) (fun e => (h10 e).elim), hk _ _ _ _ h⟩
  | 6, h, del => exact del rfl h
  | 8, h, del => exact del rfl h
  | 9, h, _ =>
    match st, h with
    | v :: st', h =>
      simp only [zstep] at h
      split at h
      · next e => exact ⟨e, hk _ _ _ _ h⟩
      · exact h.elim
  | 10, h, _ =>
    match st, h with
    | v :: st', h =>
      simp only [zstep] at h
      split at h
      · next e => exact ⟨e, hk _ _ _ _ h⟩
      · exact h.elim
  | 11, h, _ =>
    match st, h with
    | v :: w :: st', h =>
      simp only [zstep] at h
      split at h
      · next e1 e2 => exact ⟨e1, e2, hk _ _ _ _ h⟩
      · exact h.elim
  | 12, h, del => exact del rfl h
  | 13, h, del => exact del rfl h
  | 14, h, del => exact del rfl h
  | 15, h, _ =>
    match st, h with
    | (0, x) :: st', h =>
      simp only [zstep] at h
      split at h
      · next hc =>
        obtain ⟨g1, g2, g3⟩ := zsw_ok hc h
        exact ⟨fun q hq e => hk _ _ _ _ (g1 q hq e), fun e => hk _ _ _ _ (g2 e), g3⟩
      · exact h.elim
  | 16, h, _ =>
    match st, h with
    | (1, i) :: st', h =>
      simp only [zstep] at h
      split at h
      · next ci fs e =>
        split at h
        · next v e1 e2 =>
          have e3 := Nat.eq_of_beq_eq_true e1
          refine ⟨fs, v, ?_, e2, hk _ _ _ _ h⟩
          rw [e, e3]
        · exact h.elim
      · exact h.elim
  | 17, h, _ =>
    match st, cs, h with
    | v :: (1, i) :: st', [q], h =>
      simp only [zstep] at h
      split at h
      · next ci fs e =>
        split at h
        · next w e1 e2 =>
          have e3 := Nat.eq_of_beq_eq_true e1
          split at h
          · next q0 q1 =>
            rw [Bool.and_eq_true, Nat.beq_eq, Nat.beq_eq] at q1
            refine ⟨fs, w, by rw [e, e3], e2, ?_, hk _ _ _ _ h⟩
            rw [q0]
            exact q1
          · next q0 q1 =>
            rw [Bool.and_eq_true, Nat.beq_eq, Nat.beq_eq] at q1
            refine ⟨fs, w, by rw [e, e3], e2, ?_, hk _ _ _ _ h.2⟩
            rw [q0]
            exact ⟨q1.1, h.1, q1.2⟩
          · exact h.elim
        · exact h.elim
      · exact h.elim
  | 18, h, _ =>
    match st, h with
    | (1, i) :: st', h =>
      obtain ⟨t, rs, e1, e2⟩ := zia_ok h.1
      exact ⟨t, _, rs, e1, e2, hk _ _ _ _ h.2⟩
    | (6, i) :: st', h => exact ⟨h.1, hk _ _ _ _ h.2⟩
  | 19, h, _ =>
    match st, h with
    | (0, j) :: (1, i) :: st', h =>
      obtain ⟨⟨h1, h2⟩, h3⟩ := h
      obtain ⟨n, rs, e1, e2⟩ := zar_ok h1 h2
      dsimp only at h2 e2
      rw [e2] at h2
      exact ⟨n, rs, e1, h1, h2, hk _ _ _ _ h3⟩
  | 20, h, _ =>
    match st, h with
    | (0, j) :: (1, i) :: st', h =>
      obtain ⟨n, rs, q, h1, h2, h3, h4, h5⟩ := h
      exact ⟨n, rs, q, h1, h2, h3, h4, hk _ _ _ _ h5⟩
  | 21, h, _ =>
    match st, h with
    | (0, x) :: (0, j) :: (1, i) :: st', h =>
      obtain ⟨⟨h1, h2⟩, h3⟩ := h
      obtain ⟨n, rs, e1, e2⟩ := zar_ok h1 h2
      dsimp only at h2 e2 h3
      rw [e2] at h2
      split at h3
      · exact ⟨n, rs, e1, h1, h2, trivial, hk _ _ _ _ h3⟩
      · exact ⟨n, rs, e1, h1, h2, h3.1, hk _ _ _ _ h3.2⟩
  | 26, h, _ =>
    match st, h with
    | (0, n) :: (0, dp) :: (1, dd) :: (0, sp) :: (1, ss) :: st', h =>
      obtain ⟨h0, h1, h2, h3, h4, h5, h6, h7, h8⟩ := h
      obtain ⟨r0, e0⟩ := zit_ok h1
      obtain ⟨r1, e1⟩ := zit_ok h2
      exact ⟨h0, _, r0, _, r1, e0, e1, h3, h4, h5, h6, h7, hk _ _ _ _ h8⟩
  | 27, h, _ =>
    obtain ⟨M', h1, h2, h3⟩ := zcall_ok hk hkg hkin h
    exact h3
  | 47, h, _ =>
    obtain ⟨M', h1, h2, h3⟩ := zcall_ok hk hkg hkin h
    exact h3
  | 28, h, _ =>
    obtain ⟨M', h1, h2, h3⟩ := zcall_ok hk hkg hkin h
    refine ⟨?_, h3⟩
    dsimp only at h1 ⊢
    rw [h1]
    dsimp only at h2 ⊢
    have hl : xMn M' + 1 ≤ st.length := by
      unfold ycall at h3
      dsimp only at h3
      rw [h1] at h3
      exact h3.1
    split at h2
    · next i r e =>
      obtain ⟨fs, e3⟩ := zio_ok h2
      obtain ⟨r', e5⟩ := ztop hl e
      rw [e5]
      exact ⟨fs, e3⟩
    · exact h2.elim
  | 30, h, _ =>
    match st, h with
    | [(0, x)], h =>
      simp only [zstep] at h
      split at h
      · exact ⟨Or.inl rfl, h⟩
      · exact ⟨Or.inr ⟨rfl, h.1⟩, h.2⟩
      · exact h.elim
  | 31, h, del => exact del rfl h
  | 32, h, del => exact del rfl h
  | 33, h, del => exact del rfl h
  | 34, h, del => exact del rfl h
  | 35, h, del => exact del rfl h
  | 37, h, del => exact del rfl h
  | 38, h, del => exact del rfl h
  | 39, h, _ =>
    obtain ⟨M', h1, h2, h3⟩ := zcall_ok hk hkg hkin h
    refine ⟨?_, h3⟩
    dsimp only at h1 ⊢
    rw [h1]
    dsimp only at h2 ⊢
    have hl : xMn M' + 1 ≤ st.length := by
      unfold ycall at h3
      dsimp only at h3
      rw [h1] at h3
      exact h3.1
    split at h2
    · next i r e =>
      obtain ⟨r', e5⟩ := ztop hl e
      rw [e5]
      exact h2
    · exact h2.elim
  | 40, h, del => exact del rfl h
  | 41, h, del => exact del rfl h
  | 60, h, del => exact del rfl h
  | 61, h, del => exact del rfl h
  | 62, h, del => exact del rfl h
  | 63, h, del => exact del rfl h
  | 64, h, del => exact del rfl h
  | 65, h, del => exact del rfl h
  | 66, h, del => exact del rfl h
  | 67, h, _ =>
    match st, h with
    | (0, j) :: (1, i) :: st', h =>
      obtain ⟨⟨h1, h2⟩, h3⟩ := h
      obtain ⟨n, rs, e1, e2⟩ := zar_ok h1 h2
      rw [e2] at h2
      exact ⟨n, rs, e1, h1, h2, hk _ _ _ _ h3⟩
  | 68, h, _ =>
    match st, h with
    | (4, x) :: (0, j) :: (1, i) :: st', h =>
      obtain ⟨⟨h1, h2⟩, h3⟩ := h
      obtain ⟨n, rs, e1, e2⟩ := zar_ok h1 h2
      rw [e2] at h2
      exact ⟨n, rs, e1, h1, h2, hk _ _ _ _ h3⟩
  | 69, h, _ =>
    match st, h with
    | v :: st', h =>
      simp only [zstep] at h
      split at h
      · next e => exact ⟨e, hk _ _ _ _ h⟩
      · exact h.elim
  | 70, h, del => exact del rfl h
  | 71, h, del => exact del rfl h
  | 72, h, del => exact del rfl h
theorem zvc_ok (hE : yEok E) : ∀ (n : Nat) (cs : List Nat) (d : Nat) (M : xM) (pc : Nat) (rg : zR) (st : List yV) (mem : yMem) (Post : Option yV → yMem → Prop), xMok xmt M → zvc E n cs d M pc rg st mem Post → zG E d M pc rg st mem Post
  | 0, cs, d, M, pc, rg, st, mem, Post, hM, h => h
  | n + 1, cs, d, M, pc, rg, st, mem, Post, hM, h => by
    simp only [zvc] at h
    split at h
    · exact h
    · split at h
      · exact h.elim
      · next op hop =>
        refine zst hE (hM.2.2.2.2.2 _ (xfind_mem hop)) (fun pc rg st mem z => zvc_ok hE n cs d M pc rg st mem Post hM z) (fun pc rg st mem z => z) (fun M' as mem P hM' hs z => ?_) h
        match d, z with
        | d' + 1, z => exact zcon_of hM' hs (zvc_ok hE n [] d' M' 0 _ [] mem P hM' z)
theorem zgo_ok (hE : yEok E) {n : Nat} {cs : List Nat} (hM : xMok xmt M) (h : zgo E n cs d M pc rg st mem Post) : zG E d M pc rg st mem Post := by
  unfold zgo at h
  split at h
  · exact h.elim
  · next op hop =>
    refine zst hE (hM.2.2.2.2.2 _ (xfind_mem hop)) (fun pc rg st mem z => zvc_ok hE n cs d M pc rg st mem Post hM z) (fun pc rg st mem z => z) (fun M' as mem P hM' hs z => ?_) h
    match d, z with
    | d' + 1, z => exact zcon_of hM' hs (zvc_ok hE n [] d' M' 0 _ [] mem P hM' z)
theorem zgk_s (hE : yEok E) (hM : xMok xmt M) (n : Nat) (cs : List Nat) {v : yV} (h : zvc E n cs d M pc rg (v :: st) mem Post) : zgk E d M pc rg st (some v) mem Post := zvc_ok hE n cs d M pc rg (v :: st) mem Post hM h
theorem zgk_n (hE : yEok E) (hM : xMok xmt M) (n : Nat) (cs : List Nat) (h : zvc E n cs d M pc rg st mem Post) : zgk E d M pc rg st none mem Post := zvc_ok hE n cs d M pc rg st mem Post hM h
end ZO
end
section
/-! what symbolic runs are simplified by -/
theorem yput_s (st : List yV) (v : yV) : yput st (some v) = v :: st := rfl
theorem yput_n (st : List yV) : yput st none = st := rfl
theorem znl_n : znl none = none := rfl
theorem znl_0 (x : Int) : znl (some (0, x)) = some (0, x) := rfl
theorem znl_1 (x : Int) : znl (some (1, x)) = some (1, x) := rfl
theorem znl_4 (x : Int) : znl (some (4, x)) = none := rfl
theorem znl_5 (x : Int) : znl (some (5, x)) = some (5, x) := rfl
theorem znl_6 (x : Int) : znl (some (6, x)) = some (6, x) := rfl
theorem ysum_n : ysum [] = 0 := rfl
theorem ysum_0 (x : Int) (r : List yV) : ysum ((0, x) :: r) = 1 + ysum r := rfl
theorem ysum_1 (x : Int) (r : List yV) : ysum ((1, x) :: r) = 1 + ysum r := rfl
theorem ysum_4 (x : Int) (r : List yV) : ysum ((4, x) :: r) = 2 + ysum r := rfl
theorem yset_a (mem : yMem) (i n : Nat) (x : Int) (c j : Nat) : yset mem i n x c j = if c = i then (if j = n then x else mem c j) else mem c j := rfl
theorem yset_o {mem : yMem} {i n : Nat} {x : Int} {c j : Nat} (h : c ≠ i) : yset mem i n x c j = mem c j := if_neg h
theorem yset_s {mem : yMem} {i n : Nat} {x : Int} : yset mem i n x i n = x := by simp [yset]
theorem yset_d {mem : yMem} {i n : Nat} {x : Int} {j : Nat} (h : j ≠ n) : yset mem i n x i j = mem i j := by simp [yset, h]
/-- the cells of longs -/
def zlg (i : Nat) : Bool := zis [74, 75, 130, 131, 143] i
/-- a memory whose numbers are what they stand for -/
def zN (mem : yMem) : Prop := ∀ i j, zlg i = false → w32 (mem i j) = mem i j
def znrm (mem : yMem) : yMem := fun i j => match zlg i with
  | true => mem i j
  | false => w32 (mem i j)
theorem znrm_N (mem : yMem) : zN (znrm mem) := by
  intro i j h
  simp only [znrm, h]
  exact w32_w _
theorem znrm_w (mem : yMem) (i j : Nat) : w32 (znrm mem i j) = w32 (mem i j) := by
  simp only [znrm]
  split
  · rfl
  · exact w32_w _
theorem yfs_nrm {E : yE} {f g : Nat → Int} (h : ∀ j, iI (f j) = iI (g j)) : ∀ (fs : List yV) (o : Nat), (∀ v ∈ fs, v.1 ≠ 4) → yfs E o fs f = yfs E o fs g
  | [], o, _ => rfl
  | v :: r, o, hv => by
    simp only [yfs]
    rw [yfs_nrm h r (o + 1) (fun v hv' => hv v (List.mem_cons_of_mem _ hv'))]
    congr 1
    have h4 := hv v List.mem_cons_self
    obtain ⟨t, x⟩ := v
    match t, h4 with
    | 0, _ => show Value.int _ = Value.int _; rw [h o]
    | 1, _ | 2, _ | 3, _ | 5, _ | 6, _ | 7, _ => rfl
    | 4, h4 => exact absurd rfl h4
    | n + 8, _ => rfl
/-- cells of longs are told, no object holds one -/
def zshok : Nat → List yS → Bool
  | _, [] => true
  | i, .inl (t, _, _) :: r => (!(Nat.beq t 2) || zlg i) && zshok (i + 1) r
  | i, .inr (_, fs) :: r => (!(fs.any (fun v => Nat.beq v.1 4)) && !(zlg i)) && zshok (i + 1) r
theorem ycx_nrm {E : yE} {mem : yMem} : ∀ (L : List yS) (o : Nat), zshok o L = true → ycx E (znrm mem) o L = ycx E mem o L
  | [], o, _ => rfl
  | S :: r, o, h => by
    simp only [ycx]
    have hi : zlg o = false → ∀ j, iI (znrm mem o j) = iI (mem o j) := fun e j => by
      simp only [znrm, e]
      exact iI_w _
    have hl : zlg o = true → znrm mem o = mem o := fun e => by
      funext j
      simp only [znrm, e]
    match S, h with
    | .inl (t, n, rs), h =>
      simp only [zshok, Bool.and_eq_true] at h
      rw [ycx_nrm r (o + 1) h.2]
      congr 1
      congr 1
      cases e : zlg o with
      | true => rw [hl e]
      | false =>
        have h1 := h.1
        rw [e, Bool.or_false] at h1
        have ht : t ≠ 2 := fun z => by subst z; cases h1
        match t, ht with
        | 0, _ => simp only [yce]; congr 1; congr 1; congr 1; congr 1; funext j; exact hi e j
        | 1, _ => simp only [yce]; congr 1; congr 1; congr 1; congr 1; funext j; exact hi e j
        | 2, ht => exact absurd rfl ht
        | 3, _ => simp only [yce]; congr 1; congr 1; congr 1; congr 1; funext j; exact hi e j
        | 4, _ => rfl
        | k + 5, _ => simp only [yce]; congr 1; congr 1; congr 1; congr 1; funext j; exact hi e j
    | .inr (ci, fs), h =>
      simp only [zshok, Bool.and_eq_true, Bool.not_eq_true'] at h
      rw [ycx_nrm r (o + 1) h.2]
      congr 1
      congr 1
      simp only [yce]
      congr 1
      congr 1
      refine yfs_nrm (hi h.1.2) fs 0 (fun v hv e => ?_)
      have := h.1.1
      rw [List.any_eq_false] at this
      exact this v hv ((Nat.beq_eq).mpr e)
theorem zshok_ysh : zshok 0 ysh = true := by decide +kernel
theorem yW_nrm {E : yE} {mem : yMem} : yW E (znrm mem) = yW E mem := ycx_nrm ysh 0 zshok_ysh
theorem yCon_nrm {E : yE} {d : Nat} {M : xM} {avs : List yV} {mem : yMem} {P : Option yV → yMem → Prop} (h : yCon E d M avs (znrm mem) P) : yCon E d M avs mem P := by
  intro sz hb
  have := h sz hb
  unfold yPp at this
  rw [yW_nrm] at this
  exact this
theorem zG_nrm {E : yE} {d : Nat} {M : xM} {pc : Nat} {rg : zR} {st : List yV} {mem : yMem} {P : Option yV → yMem → Prop} (h : zG E d M pc rg st (znrm mem) P) : zG E d M pc rg st mem P := by
  intro p e s m args below meth c A Qc hC hQ H locs ls hl hP hS
  exact h p e s m args below meth c A Qc hC hQ H locs ls hl (by rw [yW_nrm]; exact hP) hS
/-- what is found behind a contract may be told of the memory of plain numbers -/
theorem yCon_post {E : yE} {d : Nat} {M : xM} {avs : List yV} {mem : yMem} {P : Option yV → yMem → Prop} (h : yCon E d M avs mem (fun r mem' => P r (znrm mem'))) : yCon E d M avs mem P := by
  intro sz hb p e ha hc hk s m args below hf happ hP hK
  obtain ⟨n, o, h1, h2, h3, ⟨r, mem', k1, k2, k3, k4⟩, h5⟩ := h sz hb p e ha hc hk s m args below hf happ hP hK
  exact ⟨n, o, h1, h2, h3, ⟨r, znrm mem', k1, k2, by rw [yW_nrm]; exact k3, k4⟩, h5⟩
theorem zgkN {mem : yMem} (hG : aGok mem) (hN : zN mem) (i j : Nat) {lo hi : Int} (h : agam i j = (lo, hi)) (hl : zlg i = false) : lo ≤ mem i j ∧ mem i j ≤ hi := by
  have := hG i j
  rw [h, hN i j hl] at this
  exact this
theorem aGok_nrm {mem : yMem} (h : aGok mem) : aGok (znrm mem) := fun i j => by rw [znrm_w]; exact h i j
theorem w32_ad {x y : Int} (h1 : -2147483648 ≤ w32 x + w32 y) (h2 : w32 x + w32 y < 2147483648) : w32 (x + y) = w32 x + w32 y := by
  have : iI (x + y) = iI (w32 x + w32 y) := by
    rw [show iI (x + y) = iI x + iI y from Int32.ofInt_add x y, show iI (w32 x + w32 y) = iI (w32 x) + iI (w32 y) from Int32.ofInt_add _ _, iI_w, iI_w]
  show (iI (x + y)).toInt = _
  rw [this]
  exact w32_of h1 h2
theorem w32_sb {x y : Int} (h1 : -2147483648 ≤ w32 x - w32 y) (h2 : w32 x - w32 y < 2147483648) : w32 (x - y) = w32 x - w32 y := by
  have : iI (x - y) = iI (w32 x - w32 y) := by
    rw [show iI (x - y) = iI x - iI y from Int32.ofInt_sub x y, show iI (w32 x - w32 y) = iI (w32 x) - iI (w32 y) from Int32.ofInt_sub _ _, iI_w, iI_w]
  show (iI (x - y)).toInt = _
  rw [this]
  exact w32_of h1 h2
theorem w32_ml (x y : Int) : w32 (x * y) = w32 (w32 x * w32 y) := by
  have : iI (x * y) = iI (w32 x * w32 y) := by
    rw [show iI (x * y) = iI x * iI y from Int32.ofInt_mul x y, show iI (w32 x * w32 y) = iI (w32 x) * iI (w32 y) from Int32.ofInt_mul _ _, iI_w, iI_w]
  show (iI (x * y)).toInt = _
  rw [this]
  rfl
theorem w32_k {c : Int} {x : Int} (hc : w32 c = c) (h1 : -2147483648 ≤ c * w32 x) (h2 : c * w32 x < 2147483648) : w32 (c * x) = c * w32 x := by
  rw [w32_ml, hc, w32_of h1 h2]
theorem ag {mem : yMem} (hG : aGok mem) (i j : Nat) {lo hi : Int} (h : agam i j = (lo, hi)) : lo ≤ w32 (mem i j) ∧ w32 (mem i j) ≤ hi := by
  have := hG i j
  rw [h] at this
  exact this
/-- of an array without told slots -/
theorem agA {mem : yMem} (hG : aGok mem) (i j : Nat) {lo hi : Int} (h : aent i = ((lo, hi), [])) : lo ≤ w32 (mem i j) ∧ w32 (mem i j) ≤ hi := by
  refine ag hG i j ?_
  unfold agam
  rw [h]
  rfl
theorem aGok_set {mem : yMem} (hG : aGok mem) {i n : Nat} {x : Int} (h : (agam i n).1 ≤ w32 x ∧ w32 x ≤ (agam i n).2) : aGok (yset mem i n x) := by
  intro a b
  unfold yset
  split
  · next e =>
    subst e
    split
    · next e => subst e; exact h
    · exact hG a b
  · exact hG a b
theorem agam_A {i j : Nat} {q : Int × Int} (h : aent i = (q, [])) : agam i j = q := by
  unfold agam
  rw [h]
  rfl
theorem ynok_30 : ynok 3 0 = True := eq_true (Or.inl (by decide))
theorem ynok_31 : ynok 3 1 = True := eq_true (Or.inr (by decide))
end
