/-! A RUN OVER INTERVALS. An abstract value (tag, k, c): (0, _, c) the int c; (3, k, c) the int symbol k and c more; (1, i, _) the cell i; (4, _, c) the long c; (8, k, _) the long symbol k; (9, k, c) how the long symbol k compares with c. -/
abbrev aV : Type := Nat × Nat × Int
abbrev aL : Type := List (Nat × aV)
abbrev aI : Type := List (Int × Int)
abbrev aN : Type := List (Nat × Int)
abbrev aMp : Type := List ((Nat × Nat) × aV)
abbrev aSt : Type := aMp × aI × aN
/-- what an argument or local may be: (0, _, c, _) the int c; (3, _, lo, hi) an int from lo to hi; (1, i, _, _) the cell i; (8, ..) any long; (99, ..) nothing -/
abbrev aArg : Type := Nat × Nat × Int × Int
abbrev aFct : Type := List ((Nat × Nat) × Int × Int)
/-- a part of a rank: (0, _, _, _, c) c; (1, i, _, s, c) c and s times the local i; (2, i, j, s, c) c and s times the slot j of the cell i -/
abbrev aExp : Type := Nat × Nat × Nat × Int × Int
abbrev aCut : Type := List (Nat × aArg) × aFct × Nat × aExp × aExp
/-- a contract: method, arguments, facts ahead, answer, facts behind, what it may write (cell, slot + 1; slot 0: all), frames, cuts (pc, local to be split + 1, what may hold there) -/
abbrev aCon : Type := Nat × List aArg × aFct × aArg × aFct × List (Nat × Nat) × Nat × List (Nat × Nat × List aCut)
abbrev aFr : Type := xM × Nat × aL × List aV
abbrev aT : Type := Option Nat × Int
def zle (a b : Int) : Bool := match b - a with
  | .ofNat _ => true
  | .negSucc _ => false
theorem zle_ok {a b : Int} : zle a b = true ↔ a ≤ b := by
  unfold zle
  rw [← Int.sub_nonneg]
  cases b - a with
  | ofNat n => simp
  | negSucc n => simp
def zlt (a b : Int) : Bool := zle (a + 1) b
theorem zlt_ok {a b : Int} : zlt a b = true ↔ a < b := by
  unfold zlt
  rw [zle_ok]
  omega
def zeq (a b : Int) : Bool := zle a b && zle b a
theorem zeq_ok {a b : Int} : zeq a b = true ↔ a = b := by
  unfold zeq
  rw [Bool.and_eq_true, zle_ok, zle_ok]
  omega
def zmax (a b : Int) : Int := if zle a b then b else a
def zmin (a b : Int) : Int := if zle a b then a else b
theorem zmax_ok (a b : Int) : zmax a b = max a b := by
  unfold zmax
  split
  · next h => rw [zle_ok] at h; omega
  · next h => rw [zle_ok] at h; omega
theorem zmin_ok (a b : Int) : zmin a b = min a b := by
  unfold zmin
  split
  · next h => rw [zle_ok] at h; omega
  · next h => rw [zle_ok] at h; omega
def a32 : Int × Int := (-2147483648, 2147483647)
def a64 : Int × Int := (-9223372036854775808, 9223372036854775807)
/-- one interval in another -/
def ain (q r : Int × Int) : Bool := zle r.1 q.1 && zle q.2 r.2
def alk : aL → Nat → Option aV
  | [], _ => none
  | q :: r, i => if Nat.beq q.1 i then some q.2 else alk r i
def akdb (k : Nat) (v : aV) : Bool := match k with
  | 0 => Nat.beq v.1 0 || (Nat.beq v.1 3 || Nat.beq v.1 9)
  | 1 => Nat.beq v.1 1
  | _ => Nat.beq v.1 4 || Nat.beq v.1 8
def acat (v : aV) : Nat := if Nat.beq v.1 4 || Nat.beq v.1 8 then 2 else 1
def aflb (k i : Nat) (q : Nat × aV) : Bool := match k with
  | 2 => !(Nat.beq q.1 i) && (!(Nat.beq q.1 (i + 1)) && !(Nat.beq (q.1 + 1) i && Nat.beq (acat q.2) 2))
  | _ => !(Nat.beq q.1 i) && !(Nat.beq (q.1 + 1) i && Nat.beq (acat q.2) 2)
def aflt (k i : Nat) : aL → aL
  | [] => []
  | q :: r => if aflb k i q then q :: aflt k i r else aflt k i r
def aiv (iv : aI) (k : Nat) : Int × Int := match iv[k]? with
  | some q => q
  | none => a64
def trng (iv : aI) (t : aT) : Int × Int := match t.1 with
  | none => (t.2, t.2)
  | some k => ((aiv iv k).1 + t.2, (aiv iv k).2 + t.2)
def aterm (v : aV) : Option aT := match v.1 with
  | 0 => some (none, v.2.2)
  | 3 => some (some v.2.1, v.2.2)
  | _ => none
/-- the interval of an int -/
def arng (iv : aI) (v : aV) : Int × Int := match aterm v with
  | some t => trng iv t
  | none => a32
def aset (iv : aI) (t : aT) (lo hi : Int) : aI := match t.1 with
  | none => iv
  | some k => match iv[k]? with
    | some q => iv.set k (zmax q.1 (lo - t.2), zmin q.2 (hi - t.2))
    | none => iv
def aneq (ne : aN) (t u : aT) : Bool := match t.1, u.1 with
  | some k, none => ne.any (fun q => Nat.beq q.1 k && zeq q.2 (u.2 - t.2))
  | _, _ => false
/-- the symbol k is not c -/
def adifk (iv : aI) (ne : aN) (k : Nat) (c : Int) : aI × aN := (if zeq (aiv iv k).1 c then aset iv (some k, 0) (c + 1) (aiv iv k).2 else if zeq (aiv iv k).2 c then aset iv (some k, 0) (aiv iv k).1 (c - 1) else iv, (k, c) :: ne)
/-- t is not u -/
def adif (iv : aI) (ne : aN) (t u : aT) : aI × aN := match t.1, u.1 with
  | some k, none => adifk iv ne k (u.2 - t.2)
  | none, some k => adifk iv ne k (t.2 - u.2)
  | _, _ => (iv, ne)
def acons (iv : aI) : Bool := match iv with
  | [] => true
  | q :: r => zle q.1 q.2 && acons r
def akeep (l : List (Bool × aI × aN)) : List (Bool × aI × aN) := match l with
  | [] => []
  | q :: r => if acons q.2.1 then q :: akeep r else akeep r
def aeq (iv : aI) (ne : aN) (t u : aT) : List (Bool × aI × aN) :=
  let a := trng iv t
  let b := trng iv u
  if zle a.2 b.1 && zle b.2 a.1 then [(true, iv, ne)]
  else if zlt a.2 b.1 || (zlt b.2 a.1 || aneq ne t u) then [(false, iv, ne)]
  else akeep [(true, aset (aset iv t b.1 b.2) u a.1 a.2, ne), (false, adif iv ne t u)]
def alt (iv : aI) (ne : aN) (t u : aT) : List (Bool × aI × aN) :=
  let a := trng iv t
  let b := trng iv u
  if zlt a.2 b.1 then [(true, iv, ne)]
  else if zle b.2 a.1 then [(false, iv, ne)]
  else akeep [(true, aset (aset iv t a.1 (b.2 - 1)) u (a.1 + 1) b.2, ne), (false, aset (aset iv t b.1 a.2) u b.1 a.2, ne)]
def anot (l : List (Bool × aI × aN)) : List (Bool × aI × aN) := match l with
  | [] => []
  | q :: r => (!q.1, q.2) :: anot r
/-- comparing: 0 =, 1 not =, 2 <, 3 >=, 4 >, 5 <= -/
def acmp (c : Nat) (iv : aI) (ne : aN) (t u : aT) : List (Bool × aI × aN) := match c with
  | 0 => aeq iv ne t u
  | 1 => anot (aeq iv ne t u)
  | 2 => alt iv ne t u
  | 3 => anot (alt iv ne t u)
  | 4 => alt iv ne u t
  | _ => anot (alt iv ne u t)
def aall (l : List (Bool × aI × aN)) (f : Bool → aI → aN → Bool) : Bool := match l with
  | [] => true
  | q :: r => f q.1 q.2.1 q.2.2 && aall r f
def asw (f : Nat → aI → aN → Bool) (dflt : Nat) (t : aT) : List (Nat × Nat) → aI → aN → Bool
  | [], iv, ne => f dflt iv ne
  | q :: r, iv, ne => aall (aeq iv ne t (none, cI q.1)) (fun o iv' ne' => if o then f q.2 iv' ne' else asw f dflt t r iv' ne')
def amlk (mp : aMp) (i j : Nat) : Option aV := match mp with
  | [] => none
  | q :: r => if Nat.beq q.1.1 i && Nat.beq q.1.2 j then some q.2 else amlk r i j
/-- what every slot of a cell holds (0), what its slot j holds -/
def aent (i : Nat) : (Int × Int) × List (Int × Int) := match ygam[i]? with
  | some e => e
  | none => (a32, [])
def agam (i j : Nat) : Int × Int := (aent i).2.getD j (aent i).1
def adefl (i : Nat) : Int × Int := match (aent i).2 with
  | [] => (aent i).1
  | _ => a32
def amod (mods : List (Nat × Nat)) (i j : Nat) : Bool := match mods with
  | [] => false
  | q :: r => (Nat.beq q.1 i && (Nat.beq q.2 0 || Nat.beq q.2 (j + 1))) || amod r i j
def amodA (mods : List (Nat × Nat)) (i : Nat) : Bool := match mods with
  | [] => false
  | q :: r => (Nat.beq q.1 i && Nat.beq q.2 0) || amodA r i
/-- all that the one list may write the other may write -/
def amsub (a b : List (Nat × Nat)) : Bool := match a with
  | [] => true
  | q :: r => (match q.2 with
    | 0 => amodA b q.1
    | j + 1 => amod b q.1 j) && amsub r b
def adrop (mods : List (Nat × Nat)) (mp : aMp) : aMp := match mp with
  | [] => []
  | q :: r => if amod mods q.1.1 q.1.2 then adrop mods r else q :: adrop mods r
def adrop1 (i j : Nat) (mp : aMp) : aMp := match mp with
  | [] => []
  | q :: r => if Nat.beq q.1.1 i && Nat.beq q.1.2 j then adrop1 i j r else q :: adrop1 i j r
def adropA (i : Nat) (mp : aMp) : aMp := match mp with
  | [] => []
  | q :: r => if Nat.beq q.1.1 i then adropA i r else q :: adropA i r
def anew (S : aSt) (q : Int × Int) : aSt := (S.1, S.2.1 ++ [q], S.2.2)
/-- the slot j of the cell i -/
def ardS (S : aSt) (i j : Nat) (k : aV → aSt → Bool) : Bool := match amlk S.1 i j with
  | some v => k v S
  | none => k (3, S.2.1.length, 0) ((((i, j), (3, S.2.1.length, 0)) :: S.1), S.2.1 ++ [agam i j], S.2.2)
def afr (S : aSt) (q : Int × Int) (k : aV → aSt → Bool) : Bool := k (3, S.2.1.length, 0) (anew S q)
def afrL (S : aSt) (k : aV → aSt → Bool) : Bool := k (8, S.2.1.length, 0) (anew S a64)
/-- an int from q.1 to q.2, where that is within ints -/
def afit (S : aSt) (q : Int × Int) (k : aV → aSt → Bool) : Bool := afr S (if ain q a32 then q else a32) k
def a2p (n : Nat) (b : Int) : Int := match n with
  | 0 => b
  | n + 1 => a2p n (b + b)
/-- the least 2^k - 1 that isn't below, up to 2^20 -/
def aones (h : Int) : Nat → Int → Option Int
  | 0, _ => none
  | n + 1, b => if zlt h b then some (b - 1) else aones h n (b + b)
def abinr (o : Nat) (a b : Int × Int) : Int × Int := match o with
  | 0 => (a.1 + b.1, a.2 + b.2)
  | 1 => (a.1 - b.2, a.2 - b.1)
  | 2 => if zle 0 a.1 && zle 0 b.1 then (a.1 * b.1, a.2 * b.2) else a64
  | 3 => if zle 0 b.1 then (0, b.2) else if zle 0 a.1 then (0, a.2) else a64
  | 4 => if zle 0 a.1 && zle 0 b.1 then (match aones (zmax a.2 b.2) 21 1 with
      | some h => (0, h)
      | none => a64) else a64
  | 6 => if zeq a.1 1 && (zeq a.2 1 && (zle 0 b.1 && zle b.2 20)) then (1, a2p b.2.toNat 1) else a64
  | 7 => if zle 0 a.1 then (0, a.2) else a64
  | 9 => if zle 0 a.1 && zle 1 b.1 then (0, if zeq b.1 b.2 then a.2 / b.1 else a.2) else a64
  | 10 => if zle 0 a.1 && zle 1 b.1 then (0, b.2 - 1) else a64
  | _ => a64
/-- x o y, two ints -/
def abin (S : aSt) (o : Nat) (x y : aV) (k : aV → aSt → Bool) : Bool := match aterm x, aterm y with
  | some t, some u =>
    let a := trng S.2.1 t
    let b := trng S.2.1 u
    if (Nat.beq o 9 || Nat.beq o 10) && (zle b.1 0 && zle 0 b.2) && !(aneq S.2.2 u (none, 0)) then false
    else match o, u.1 with
      | 0, none => if ain (a.1 + u.2, a.2 + u.2) a32 then (match t.1 with
          | none => k (0, 0, t.2 + u.2) S
          | some s => k (3, s, t.2 + u.2) S) else afr S a32 k
      | 1, none => if ain (a.1 - u.2, a.2 - u.2) a32 then (match t.1 with
          | none => k (0, 0, t.2 - u.2) S
          | some s => k (3, s, t.2 - u.2) S) else afr S a32 k
      | _, _ => afit S (abinr o a b) k
  | _, _ => false
def aeqv (q : Int × Int) : Option Int := if zle q.2 q.1 then some q.1 else none
def aargI (iv : aI) (v : aV) (a : aArg) : Bool := match a.1 with
  | 0 => (match aterm v with
    | some t => zle a.2.2.1 (trng iv t).1 && zle (trng iv t).2 a.2.2.1
    | none => false)
  | 3 => (match aterm v with
    | some t => zle a.2.2.1 (trng iv t).1 && zle (trng iv t).2 a.2.2.2
    | none => Nat.beq v.1 9 && (zle a.2.2.1 (-1) && zle 1 a.2.2.2))
  | 1 => Nat.beq v.1 1 && Nat.beq v.2.1 a.2.1
  | 8 => Nat.beq v.1 4 || Nat.beq v.1 8
  | _ => false
def aargs (iv : aI) : List aV → List aArg → Bool
  | [], [] => true
  | v :: r, a :: s => aargI iv v a && aargs iv r s
  | _, _ => false
def aslot (S : aSt) (i j : Nat) : Int × Int := match amlk S.1 i j with
  | some v => arng S.2.1 v
  | none => agam i j
def afcts (S : aSt) : aFct → Bool
  | [] => true
  | f :: r => ain (aslot S f.1.1 f.1.2) f.2 && afcts S r
/-- the symbols of facts -/
def afbeg : aFct → aMp → aI → aMp × aI
  | [], mp, iv => (mp, iv)
  | f :: r, mp, iv => afbeg r ((f.1, (3, iv.length, 0)) :: mp) (iv ++ [f.2])
def albeg : List (Nat × aArg) → aI → aL × aI
  | [], iv => ([], iv)
  | a :: r, iv => match a.2.1 with
    | 0 => let q := albeg r iv; ((a.1, (0, 0, a.2.2.2.1)) :: q.1, q.2)
    | 1 => let q := albeg r iv; ((a.1, (1, a.2.2.1, 0)) :: q.1, q.2)
    | 3 => let q := albeg r (iv ++ [(a.2.2.2.1, a.2.2.2.2)]); ((a.1, (3, iv.length, 0)) :: q.1, q.2)
    | _ => let q := albeg r (iv ++ [a64]); ((a.1, (8, iv.length, 0)) :: q.1, q.2)
def aidx : Nat → List aArg → List (Nat × aArg)
  | _, [] => []
  | i, a :: r => (i, a) :: aidx (i + (if Nat.beq a.1 8 then 2 else 1)) r
/-- a part of a rank as it stands: coefficient, symbol, constant -/
def aval (lv : aL) (S : aSt) (e : aExp) : Int × aT := match e.1 with
  | 0 => (0, (none, 0))
  | 1 => (match alk lv e.2.1 with
    | some v => (match aterm v with
      | some t => (e.2.2.2.1, (t.1, t.2))
      | none => (0, (none, 0)))
    | none => (0, (none, 0)))
  | _ => (match amlk S.1 e.2.1 e.2.2.1 with
    | some v => (match aterm v with
      | some t => (e.2.2.2.1, (t.1, t.2))
      | none => (0, (none, 0)))
    | none => (0, (none, 0)))
abbrev aRk : Type := Int × aT × Int
abbrev aRank : Type := Nat × aRk × aRk
def arr (lv : aL) (S : aSt) (e : aExp) : aRk := ((aval lv S e).1, (aval lv S e).2, e.2.2.2.2)
def rlo (iv : aI) (r : aRk) : Int := if zle 0 r.1 then r.2.2 + r.1 * (trng iv r.2.1).1 else r.2.2 + r.1 * (trng iv r.2.1).2
def rhi (iv : aI) (r : aRk) : Int := if zle 0 r.1 then r.2.2 + r.1 * (trng iv r.2.1).2 else r.2.2 + r.1 * (trng iv r.2.1).1
def rsame (r q : aRk) : Bool := zeq r.1 q.1 && (match r.2.1.1, q.2.1.1 with
  | some a, some b => Nat.beq a b
  | none, none => true
  | _, _ => false)
def rlt (iv : aI) (r q : aRk) : Bool := zle 1 (rlo iv q) && ((rsame r q && zlt (r.2.2 + r.1 * r.2.1.2) (q.2.2 + q.1 * q.2.1.2)) || zlt (rhi iv r) (rlo iv q))
def rle (iv : aI) (r q : aRk) : Bool := (rsame r q && zle (r.2.2 + r.1 * r.2.1.2) (q.2.2 + q.1 * q.2.1.2)) || zle (rhi iv r) (rlo iv q)
def arank (iv : aI) (r q : aRank) : Bool := Nat.blt r.1 q.1 || (Nat.beq r.1 q.1 && (rlt iv r.2.1 q.2.1 || (rle iv r.2.1 q.2.1 && rlt iv r.2.2 q.2.2)))
def alocs (iv : aI) (lv : aL) : List (Nat × aArg) → Bool
  | [] => true
  | q :: r => (match alk lv q.1 with
    | some v => aargI iv v q.2
    | none => false) && alocs iv lv r
def atm (v : Option aV) : Bool := match v with
  | some v => (match aterm v with
    | some _ => true
    | none => false)
  | none => false
def aexok (lv : aL) (S : aSt) (e : aExp) : Bool := match e.1 with
  | 0 => true
  | 1 => atm (alk lv e.2.1)
  | _ => atm (amlk S.1 e.2.1 e.2.2.1)
def acut1 (lv : aL) (S : aSt) (g : aRank) (a : aCut) : Bool := aexok lv S a.2.2.2.1 && aexok lv S a.2.2.2.2 && alocs S.2.1 lv a.1 && (afcts S a.2.1 && arank S.2.1 (a.2.2.1, arr lv S a.2.2.2.1, arr lv S a.2.2.2.2) g)
def acuts (lv : aL) (S : aSt) (g : aRank) : List aCut → Bool
  | [] => false
  | a :: r => acut1 lv S g a || acuts lv S g r
def asplit (f : aSt → Bool) (S : aSt) (k : Nat) : Nat → Int → Bool
  | 0, _ => true
  | n + 1, x => f (S.1, aset S.2.1 (some k, 0) x x, S.2.2) && asplit f S k n (x + 1)
/-- every value of the symbol k -/
def aspl (S : aSt) (k : Nat) (f : aSt → Bool) : Bool := asplit f S k ((aiv S.2.1 k).2 - (aiv S.2.1 k).1 + 1).toNat (aiv S.2.1 k).1
def acutc (lv : aL) (S : aSt) (g : aRank) (q : Nat × List aCut) : Bool := match q.1 with
  | 0 => acuts lv S g q.2
  | i + 1 => match alk lv i with
    | some v => if Nat.beq v.1 3 then aspl S v.2.1 (fun S' => acuts lv S' g q.2) else acuts lv S g q.2
    | none => false
def acf : List (Nat × Nat × List aCut) → Nat → Option (Nat × List aCut)
  | [], _ => none
  | q :: r, pc => if Nat.beq q.1 pc then some q.2 else acf r pc
abbrev acM (c : aCon) : Nat := c.1
abbrev acA (c : aCon) : List aArg := c.2.1
abbrev acP (c : aCon) : aFct := c.2.2.1
abbrev acR (c : aCon) : aArg := c.2.2.2.1
abbrev acQ (c : aCon) : aFct := c.2.2.2.2.1
abbrev acW (c : aCon) : List (Nat × Nat) := c.2.2.2.2.2.1
abbrev acD (c : aCon) : Nat := c.2.2.2.2.2.2.1
abbrev acC (c : aCon) : List (Nat × Nat × List aCut) := c.2.2.2.2.2.2.2
def aend (c : aCon) (S : aSt) (r : Option aV) : Bool := (match r with
  | none => Nat.beq (acR c).1 99
  | some v => aargI S.2.1 v (acR c)) && afcts S (acQ c)
abbrev aRec : Type := xM → Nat → aL → List aV → List aFr → aSt → Bool
def apush (r : Option aV) (st : List aV) : List aV := match r with
  | some v => v :: st
  | none => st
def aretn (c : aCon) (rec : aRec) (r : Option aV) (frs : List aFr) (S : aSt) : Bool := match frs with
  | [] => aend c S r
  | f :: fs => rec f.1 f.2.1 f.2.2.1 (apush r f.2.2.2) fs S
def asum : List aV → Nat
  | [] => 0
  | v :: r => acat v + asum r
def aargl : Nat → List aV → aL
  | _, [] => []
  | i, v :: r => (i, v) :: aargl (i + acat v) r
def afind (T : List aCon) (mi : Nat) (iv : aI) (vs : List aV) : Option aCon := match T with
  | [] => none
  | e :: r => if Nat.beq (acM e) mi && aargs iv vs (acA e) then some e else afind r mi iv vs
def acall (T : List aCon) (c : aCon) (M : xM) (rec : aRec) (nx mi n0 : Nat) (lv : aL) (st : List aV) (frs : List aFr) (S : aSt) : Bool := match xmt[mi]? with
  | none => false
  | some M' => Nat.ble (xMn M' + n0) st.length && (Nat.ble (asum (st.drop (xMn M' + n0))) 8 && (Nat.ble (asum (st.take (xMn M' + n0))) (xMl M') && (Nat.ble (xMl M') 45 && (match afind T mi S.2.1 (st.take (xMn M' + n0)).reverse with
    | some e => Nat.ble (acD e + 1 + frs.length) (acD c) && (afcts S (acP e) && (amsub (acW e) (acW c) && (
        let q := afbeg (acQ e) (adrop (acW e) S.1) S.2.1
        match (acR e).1 with
        | 99 => rec M nx lv (st.drop (xMn M' + n0)) frs (q.1, q.2, S.2.2)
        | 0 => rec M nx lv ((0, 0, (acR e).2.2.1) :: st.drop (xMn M' + n0)) frs (q.1, q.2, S.2.2)
        | 3 => rec M nx lv ((3, q.2.length, 0) :: st.drop (xMn M' + n0)) frs (q.1, q.2 ++ [(acR e).2.2], S.2.2)
        | 8 => rec M nx lv ((8, q.2.length, 0) :: st.drop (xMn M' + n0)) frs (q.1, q.2 ++ [a64], S.2.2)
        | _ => false)))
    | none => Nat.ble (frs.length + 2) (acD c) && rec M' 0 (aargl 0 (st.take (xMn M' + n0)).reverse) [] ((M, nx, lv, st.drop (xMn M' + n0)) :: frs) S))))
def acell (v : aV) : Option yS := if Nat.beq v.1 1 then ysh[v.2.1]? else none
/-- the int v into the slot j of the cell i -/
def awrS (c : aCon) (S : aSt) (i j : Nat) (v : aV) (k : aSt → Bool) : Bool := ain (arng S.2.1 v) (agam i j) && (amod (acW c) i j && k (((i, j), v) :: adrop1 i j S.1, S.2.1, S.2.2))
def awrA (c : aCon) (S : aSt) (i : Nat) (v : aV) (k : aSt → Bool) : Bool := (match (aent i).2 with
  | [] => true
  | _ => false) && (ain (arng S.2.1 v) (aent i).1 && (amodA (acW c) i && k (adropA i S.1, S.2.1, S.2.2)))
def atermc (x : aV) : Option (aT × aT) := if Nat.beq x.1 9 then some ((some x.2.1, 0), (none, x.2.2)) else match aterm x with
  | some t => some (t, (none, 0))
  | none => none
def anz (S : aSt) (v : aV) : Bool := match v.1 with
  | 4 => !(zeq v.2.2 0)
  | 8 => aneq S.2.2 (some v.2.1, 0) (none, 0) || (zle 1 (aiv S.2.1 v.2.1).1 || zle (aiv S.2.1 v.2.1).2 (-1))
  | _ => false
def acsl (cs : List (Nat × Nat)) : Bool := match cs with
  | [] => true
  | q :: r => Nat.blt q.1 4294967296 && (!(r.any (fun p => Nat.beq p.1 q.1)) && acsl r)
noncomputable def astep (T : List aCon) (c : aCon) (M : xM) (rec : aRec) (op : xOp) (lv : aL) (st : List aV) (frs : List aFr) (S : aSt) : Bool := match op.1 with
  | 0 => Nat.blt op.2.2.1 4294967296 && rec M op.2.1 lv ((0, 0, cI op.2.2.1) :: st) frs S
  | 1 => Nat.blt op.2.2.1 18446744073709551616 && rec M op.2.1 lv ((4, 0, cL op.2.2.1) :: st) frs S
  | 2 => match alk lv op.2.2.2.1 with
    | some v => akdb op.2.2.1 v && rec M op.2.1 lv (v :: st) frs S
    | none => false
  | 3 => match st with
    | v :: st' => akdb op.2.2.1 v && (Nat.blt (op.2.2.2.1 + xwd op.2.2.1) (xMl M) && rec M op.2.1 ((op.2.2.2.1, v) :: aflt op.2.2.1 op.2.2.2.1 lv) st' frs S)
    | [] => false
  | 4 => match alk lv op.2.2.1 with
    | some v => Nat.blt op.2.2.2.1 4294967296 && (Nat.blt op.2.2.1 (xMl M) && abin S 0 v (0, 0, cI op.2.2.2.1) (fun w S' => rec M op.2.1 ((op.2.2.1, w) :: aflt 0 op.2.2.1 lv) st frs S'))
    | none => false
  | 5 => match st with
    | y :: x :: st' => abin S op.2.2.1 x y (fun w S' => rec M op.2.1 lv (w :: st') frs S')
    | _ => false
  | 6 => match st with
    | x :: st' => akdb 0 x && afr S (-128, 127) (fun w S' => rec M op.2.1 lv (w :: st') frs S')
    | _ => false
  | 8 => match st with
    | y :: x :: st' => akdb 2 x && (akdb 2 y && (if Nat.beq x.1 8 && Nat.beq y.1 4 then rec M op.2.1 lv ((9, x.2.1, y.2.2) :: st') frs S else afr S (-1, 1) (fun w S' => rec M op.2.1 lv (w :: st') frs S')))
    | _ => false
  | 9 => match st with
    | v :: st' => Nat.beq (acat v) 1 && rec M op.2.1 lv (v :: v :: st') frs S
    | _ => false
  | 10 => match st with
    | v :: st' => Nat.beq (acat v) 1 && rec M op.2.1 lv st' frs S
    | _ => false
  | 11 => match st with
    | v :: w :: st' => Nat.beq (acat v) 1 && (Nat.beq (acat w) 1 && rec M op.2.1 lv (v :: w :: v :: w :: st') frs S)
    | _ => false
  | 12 => match st with
    | x :: st' => match atermc x with
      | some q => aall (acmp op.2.2.2.1 S.2.1 S.2.2 q.1 q.2) (fun b iv ne => rec M (if b then op.2.2.1 else op.2.1) lv st' frs (S.1, iv, ne))
      | none => false
    | _ => false
  | 13 => match st with
    | y :: x :: st' => match aterm x, aterm y with
      | some t, some u => aall (acmp op.2.2.2.1 S.2.1 S.2.2 t u) (fun b iv ne => rec M (if b then op.2.2.1 else op.2.1) lv st' frs (S.1, iv, ne))
      | _, _ => false
    | _ => false
  | 14 => rec M op.2.1 lv st frs S
  | 15 => match st with
    | x :: st' => match aterm x with
      | some t => acsl op.2.2.2.2 && asw (fun tgt iv ne => rec M tgt lv st' frs (S.1, iv, ne)) op.2.2.1 t op.2.2.2.2 S.2.1 S.2.2
      | none => false
    | _ => false
  | 16 => match st with
    | v :: st' => match acell v with
      | some (.inr (ci, fs)) => Nat.beq ci op.2.2.1 && (match fs[op.2.2.2.1]? with
        | some (0, _) => ardS S v.2.1 op.2.2.2.1 (fun w S' => rec M op.2.1 lv (w :: st') frs S')
        | some (1, z) => zle 0 z && rec M op.2.1 lv ((1, z.toNat, 0) :: st') frs S
        | _ => false)
      | _ => false
    | _ => false
  | 17 => match st, op.2.2.2.2 with
    | x :: v :: st', [q] => match acell v with
      | some (.inr (ci, fs)) => Nat.beq ci op.2.2.1 && (match fs[op.2.2.2.1]? with
        | some (0, _) => (Nat.beq q.1 0 && akdb 0 x || Nat.beq q.1 3 && (akdb 0 x && ain (arng S.2.1 x) (0, 1))) && awrS c S v.2.1 op.2.2.2.1 x (fun S' => rec M op.2.1 lv st' frs S')
        | _ => false)
      | _ => false
    | _, _ => false
  | 18 => match st with
    | v :: st' => match acell v with
      | some (.inl (t, n, _)) => Nat.blt t 5 && rec M op.2.1 lv ((0, 0, (n : Int)) :: st') frs S
      | _ => false
    | _ => false
  | 19 => match st with
    | j :: v :: st' => match acell v, aterm j with
      | some (.inl (t, n, _)), some u => Nat.beq t op.2.2.1 && (zle 0 (trng S.2.1 u).1 && (zlt (trng S.2.1 u).2 (n : Int) && (match aeqv (trng S.2.1 u) with
        | some z => ardS S v.2.1 z.toNat (fun w S' => rec M op.2.1 lv (w :: st') frs S')
        | none => afr S (adefl v.2.1) (fun w S' => rec M op.2.1 lv (w :: st') frs S'))))
      | _, _ => false
    | _ => false
  | 20 => match st with
    | j :: v :: st' => match acell v, aterm j with
      | some (.inl (4, n, rs)), some u => (match aeqv (trng S.2.1 u) with
        | some z => zle 0 z && (zlt z (n : Int) && (match rs[z.toNat]? with
          | some q => rec M op.2.1 lv ((1, q, 0) :: st') frs S
          | none => false))
        | none => match u.1 with
          | some k => aspl S k (fun S' => match aeqv (trng S'.2.1 u) with
            | some z => zle 0 z && (zlt z (n : Int) && (match rs[z.toNat]? with
              | some q => rec M op.2.1 lv ((1, q, 0) :: st') frs S'
              | none => false))
            | none => false)
          | none => false)
      | _, _ => false
    | _ => false
  | 21 => match st with
    | x :: j :: v :: st' => match acell v, aterm j with
      | some (.inl (t, n, _)), some u => Nat.beq t op.2.2.1 && (akdb 0 x && (zle 0 (trng S.2.1 u).1 && (zlt (trng S.2.1 u).2 (n : Int) && ((match t with
          | 0 => true
          | 1 => ain (arng S.2.1 x) (-128, 127)
          | 3 => ain (arng S.2.1 x) (0, 1)
          | _ => false) && (match aeqv (trng S.2.1 u) with
        | some z => awrS c S v.2.1 z.toNat x (fun S' => rec M op.2.1 lv st' frs S')
        | none => awrA c S v.2.1 x (fun S' => rec M op.2.1 lv st' frs S'))))))
      | _, _ => false
    | _ => false
  | 26 => match st with
    | n :: dp :: dv :: sp :: sv :: st' => match acell sv, acell dv, aterm n, aterm dp, aterm sp with
      | some (.inl (0, n0, _)), some (.inl (0, n1, _)), some tn, some td, some ts => Nat.ble (asum st') 8 && (zle 0 (trng S.2.1 tn).1 && (zle 0 (trng S.2.1 td).1 && (zle 0 (trng S.2.1 ts).1 && (zle ((trng S.2.1 ts).2 + (trng S.2.1 tn).2) (n0 : Int) && (zle ((trng S.2.1 td).2 + (trng S.2.1 tn).2) (n1 : Int) && ((match (aent dv.2.1).2 with
          | [] => true
          | _ => false) && (ain (adefl sv.2.1) (aent dv.2.1).1 && (amodA (acW c) dv.2.1 && rec M op.2.1 lv st' frs (adropA dv.2.1 S.1, S.2.1, S.2.2)))))))))
      | _, _, _, _, _ => false
    | _ => false
  | 27 => acall T c M rec op.2.1 op.2.2.1 0 lv st frs S
  | 47 => acall T c M rec op.2.1 op.2.2.1 0 lv st frs S
  | 28 => (match xmt[op.2.2.1]? with
    | some M' => match st.drop (xMn M') with
      | v :: _ => match acell v with
        | some (.inr (ci, _)) => Nat.beq ci op.2.2.2.1
        | _ => false
      | _ => false
    | none => false) && acall T c M rec op.2.1 op.2.2.1 1 lv st frs S
  | 30 => match st with
    | [v] => akdb 0 v && ((Nat.beq op.2.2.2.1 0 || Nat.beq op.2.2.2.1 3 && ain (arng S.2.1 v) (0, 1)) && aretn c rec (some v) frs S)
    | _ => false
  | 31 => match st with
    | [v] => akdb 2 v && aretn c rec (some v) frs S
    | _ => false
  | 32 => match st with
    | [] => aretn c rec none frs S
    | _ => false
  | 60 => match st with
    | y :: x :: st' => akdb 2 x && (akdb 2 y && afrL S (fun w S' => rec M op.2.1 lv (w :: st') frs S'))
    | _ => false
  | 61 => match st with
    | y :: x :: st' => akdb 2 x && (anz S y && afrL S (fun w S' => rec M op.2.1 lv (w :: st') frs S'))
    | _ => false
  | 62 => match st with
    | y :: x :: st' => akdb 2 x && (akdb 0 y && afrL S (fun w S' => rec M op.2.1 lv (w :: st') frs S'))
    | _ => false
  | 63 => match st with
    | y :: x :: st' => akdb 2 x && (akdb 0 y && afrL S (fun w S' => rec M op.2.1 lv (w :: st') frs S'))
    | _ => false
  | 64 => match st with
    | x :: st' => akdb 2 x && (if anz S x then rec M op.2.1 lv ((8, S.2.1.length, 0) :: st') frs (S.1, S.2.1 ++ [a64], (S.2.1.length, 0) :: S.2.2) else afrL S (fun w S' => rec M op.2.1 lv (w :: st') frs S'))
    | _ => false
  | 65 => match st with
    | x :: st' => akdb 0 x && afrL S (fun w S' => rec M op.2.1 lv (w :: st') frs S')
    | _ => false
  | 66 => match st with
    | x :: st' => akdb 2 x && afr S a32 (fun w S' => rec M op.2.1 lv (w :: st') frs S')
    | _ => false
  | 67 => match st with
    | j :: v :: st' => match acell v, aterm j with
      | some (.inl (2, n, _)), some u => zle 0 (trng S.2.1 u).1 && (zlt (trng S.2.1 u).2 (n : Int) && afrL S (fun w S' => rec M op.2.1 lv (w :: st') frs S'))
      | _, _ => false
    | _ => false
  | 68 => match st with
    | x :: j :: v :: st' => match acell v, aterm j with
      | some (.inl (2, n, _)), some u => akdb 2 x && (zle 0 (trng S.2.1 u).1 && (zlt (trng S.2.1 u).2 (n : Int) && ((match (aent v.2.1).2 with
          | [] => ain a32 (aent v.2.1).1
          | _ => false) && (amodA (acW c) v.2.1 && rec M op.2.1 lv st' frs (adropA v.2.1 S.1, S.2.1, S.2.2)))))
      | _, _ => false
    | _ => false
  | 70 => match st with
    | y :: x :: st' => match aterm x, aterm y with
      | some t, some u => Nat.ble (asum st') 8 && afr S (if Nat.beq op.2.2.1 0 then (zmin (trng S.2.1 t).1 (trng S.2.1 u).1, zmin (trng S.2.1 t).2 (trng S.2.1 u).2) else (zmax (trng S.2.1 t).1 (trng S.2.1 u).1, zmax (trng S.2.1 t).2 (trng S.2.1 u).2)) (fun w S' => rec M op.2.1 lv (w :: st') frs S')
      | _, _ => false
    | _ => false
  | 71 => match st with
    | y :: x :: st' => akdb 2 x && (akdb 2 y && (Nat.ble (asum st') 8 && afrL S (fun w S' => rec M op.2.1 lv (w :: st') frs S')))
    | _ => false
  | 72 => match st with
    | x :: st' => akdb 2 x && (Nat.ble (asum st') 8 && (if anz S x then rec M op.2.1 lv ((8, S.2.1.length, 0) :: st') frs (S.1, S.2.1 ++ [a64], (S.2.1.length, 0) :: S.2.2) else afrL S (fun w S' => rec M op.2.1 lv (w :: st') frs S')))
    | _ => false
  | _ => false
noncomputable def ago (T : List aCon) (c : aCon) (g : aRank) (rec : aRec) : aRec := fun M pc lv st frs S => match frs, acf (acC c) pc with
  | [], some q => (match st with
    | [] => acutc lv S g q
    | _ => false)
  | _, _ => match xfind (xMk M) pc with
    | none => false
    | some op => astep T c M rec op lv st frs S
noncomputable def ai (T : List aCon) (c : aCon) (g : aRank) (n : Nat) : aRec := Nat.rec (fun _ _ _ _ _ _ => false) (fun _ ih => ago T c g ih) n
theorem ai_succ (T : List aCon) (c : aCon) (g : aRank) (n : Nat) : ai T c g (n + 1) = ago T c g (ai T c g n) := rfl
noncomputable def arun (T : List aCon) (c : aCon) (g : aRank) (n : Nat) (M : xM) (pc : Nat) (lv : aL) (S : aSt) : Bool := match xfind (xMk M) pc with
  | none => false
  | some op => astep T c M (ai T c g n) op lv [] [] S
def abeg (a : aCut) : aL × aSt := ((albeg a.1 []).1, ((afbeg a.2.1 [] (albeg a.1 []).2).1, (afbeg a.2.1 [] (albeg a.1 []).2).2, []))
noncomputable def achkC (T : List aCon) (c : aCon) (n : Nat) (M : xM) (pc : Nat) : List aCut → Bool
  | [] => true
  | a :: r => aexok (abeg a).1 (abeg a).2 a.2.2.2.1 && aexok (abeg a).1 (abeg a).2 a.2.2.2.2 && arun T c (a.2.2.1, arr (abeg a).1 (abeg a).2 a.2.2.2.1, arr (abeg a).1 (abeg a).2 a.2.2.2.2) n M pc (abeg a).1 (abeg a).2 && achkC T c n M pc r
noncomputable def achkL (T : List aCon) (c : aCon) (n : Nat) (M : xM) : List (Nat × Nat × List aCut) → Bool
  | [] => true
  | q :: r => achkC T c n M q.1 q.2.2 && achkL T c n M r
def azr : aRk := (0, (none, 0), 0)
/-- a contract holds by a run of its method from its start and from each cut -/
noncomputable def achk (T : List aCon) (c : aCon) (n : Nat) : Bool := match xmt[acM c]? with
  | none => false
  | some M => Nat.ble 1 (acD c) && (arun T c (1000000, azr, azr) n M 0 (abeg (aidx 0 (acA c), acP c, 0, (0, 0, 0, 0, 0), (0, 0, 0, 0, 0))).1 (abeg (aidx 0 (acA c), acP c, 0, (0, 0, 0, 0, 0), (0, 0, 0, 0, 0))).2 && achkL T c n M (acC c))
