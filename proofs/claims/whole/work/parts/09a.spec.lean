/-! THE MATHEMATICAL VALUE of the system, and what each call does to it -/
/-- offset, size, length, base, p1, p2, node -/
abbrev Rc : Type := Nat × Nat × Nat × Option Nat × Option Nat × Option Nat × Int64
def Rc.off (x : Rc) : Nat := x.1
def Rc.siz (x : Rc) : Nat := x.2.1
def Rc.len (x : Rc) : Nat := x.2.2.1
def Rc.bas (x : Rc) : Option Nat := x.2.2.2.1
def Rc.pa (x : Rc) : Option Nat := x.2.2.2.2.1
def Rc.pb (x : Rc) : Option Nat := x.2.2.2.2.2.1
def Rc.nod (x : Rc) : Int64 := x.2.2.2.2.2.2
/-- data, records, journal (data, records), down, told failure -/
abbrev Rp : Type := List Nat × List Rc × Option (Nat × Nat) × Bool × Nat
def Rp.dat (R : Rp) : List Nat := R.1
def Rp.rcs (R : Rp) : List Rc := R.2.1
def Rp.jrn (R : Rp) : Option (Nat × Nat) := R.2.2.1
def Rp.dwn (R : Rp) : Bool := R.2.2.2.1
def Rp.fai (R : Rp) : Nat := R.2.2.2.2
/-- the buffer, the two repositories -/
abbrev Vt : Type := List Nat × (Nat → Rp)
/-- -1 for none -/
def eo : Option Nat → Int32
  | none => -1
  | some n => nI n
def b1 (p : Prop) [Decidable p] : Int32 := if p then 1 else 0
theorem b1_t {p : Prop} [Decidable p] (h : p) : b1 p = 1 := if_pos h
theorem b1_f {p : Prop} [Decidable p] (h : ¬ p) : b1 p = 0 := if_neg h
theorem b1_z (p : Prop) [Decidable p] : b1 p = 0 ∨ b1 p = 1 := by
  unfold b1
  split
  · exact Or.inr rfl
  · exact Or.inl rfl
theorem b1_0 {p : Prop} [Decidable p] (h : b1 p = 0) : ¬ p := by
  intro hp
  rw [b1_t hp] at h
  exact absurd h (by decide)
theorem b1_1 {p : Prop} [Decidable p] (h : ¬ b1 p = 0) : p := Classical.byContradiction fun hp => h (b1_f hp)
def mix (h : Int64) (b : Nat) : Int64 := (h ^^^ (nI b).toInt64) * 1099511628211
def byt (v : Int64) (s : Int32) : Int32 := (v.toUInt64 >>> (s.toInt64.toUInt64 &&& Int64.toUInt64 63)).toInt64.toInt32 &&& 255
def mixB (h v : Int64) (s : Int32) : Int64 := (h ^^^ (byt v s).toInt64) * 1099511628211
def mixL (h v : Int64) : Int64 := mixB (mixB (mixB (mixB (mixB (mixB (mixB (mixB h v 56) v 48) v 40) v 32) v 24) v 16) v 8) v 0
def nodS (a b : Int64) : Int64 := mixL (mixL 1469598103934665603 (if b < a then b else a)) (if b < a then a else b)
def nodT (a b : Int64) (t : List Nat) : Int64 := t.foldl mix (nodS a b)
def nodP (rs : List Rc) : Option Nat → Int64
  | none => 0
  | some n => match rs[n]? with
    | none => 0
    | some x => x.nod
def nodeOf (rs : List Rc) (p q : Option Nat) (t : List Nat) : Int64 := nodT (nodP rs p) (nodP rs q) t
def chnk (d : List Nat) (x : Rc) : List Nat := (d.drop x.off).take x.siz
def unp : List Nat → Option (List Nat)
  | [] => some []
  | [_] => none
  | n :: v :: r => if n = 0 then none else match unp r with
    | none => none
    | some t => some (List.replicate n v ++ t)
def snap : List Nat → Option (List Nat)
  | [] => none
  | k :: r => if k = 117 then (if r.length ≤ 60 then some r else none) else if k = 120 then (match unp r with
    | none => none
    | some t => if t.length ≤ 60 then some t else none) else none
def dif (ch base : List Nat) : Option (List Nat) := match ch with
  | k :: a :: b :: m :: r => if k = 100 ∧ m = r.length ∧ a ≤ b ∧ b ≤ base.length ∧ base.length - (b - a) + m ≤ 60 then some (base.take a ++ r ++ base.drop b) else none
  | _ => none
/-- a revision's text by its chain, the fuel its links -/
def txt (d : List Nat) (rs : List Rc) : Nat → Nat → Option (List Nat)
  | 0, _ => none
  | f + 1, n => match rs[n]? with
    | none => none
    | some x => match x.bas with
      | none => snap (chnk d x)
      | some b => match txt d rs f b with
        | none => none
        | some t => dif (chnk d x) t
def built (d : List Nat) (rs : List Rc) (n : Nat) : Option (List Nat) := match rs[n]?, txt d rs 6 n with
  | some x, some t => if t.length = x.len ∧ nodeOf rs x.pa x.pb t = x.nod then some t else none
  | _, _ => none
def fnd (h : Int64) : List Rc → Nat → Option Nat
  | [], _ => none
  | x :: r, n => if x.nod = h then some n else fnd h r (n + 1)
def find (rs : List Rc) (h : Int64) : Option Nat := fnd h rs 0
/-- runs, the first of which has r before it -/
def pk : Nat → List Nat → List Nat
  | _, [] => []
  | r, [v] => [r + 1, v]
  | r, v :: w :: t => if w = v then pk (r + 1) (w :: t) else (r + 1) :: v :: pk 0 (w :: t)
def pack (t : List Nat) : List Nat := pk 0 t
def cpre : List Nat → List Nat → Nat
  | a :: x, b :: y => if a = b then cpre x y + 1 else 0
  | _, _ => 0
def encD (b t : List Nat) : List Nat :=
  let p := cpre b t
  let e := cpre (b.drop p).reverse (t.drop p).reverse
  100 :: p :: (b.length - e) :: (t.length - e - p) :: (t.drop p).take (t.length - e - p)
def encS (t : List Nat) : List Nat := if (120 :: pack t).length < (117 :: t).length then 120 :: pack t else 117 :: t
/-- links and bytes of a chain -/
def chn (rs : List Rc) : Nat → Option Nat → Option (Nat × Nat)
  | _, none => some (0, 0)
  | 0, some _ => none
  | f + 1, some n => match rs[n]? with
    | none => none
    | some x => match chn rs f x.bas with
      | none => none
      | some (k, s) => some (k + 1, s + x.siz)
def fits6 (rs : List Rc) (n : Nat) (sz tl : Nat) : Bool := match chn rs 5 (some n) with
  | none => false
  | some (_, s) => decide (s + sz ≤ 2 * tl + 16)
def cand (d : List Nat) (rs : List Rc) (t : List Nat) (best : List Nat × Option Nat) : Option Nat → List Nat × Option Nat
  | none => best
  | some n => match built d rs n with
    | none => best
    | some b => if (encD b t).length < best.1.length ∧ fits6 rs n (encD b t).length t.length = true then (encD b t, some n) else best
def lastR (rs : List Rc) : Option Nat := if rs.length = 0 then none else some (rs.length - 1)
def choose (d : List Nat) (rs : List Rc) (p q : Option Nat) (t : List Nat) : List Nat × Option Nat :=
  cand d rs t (cand d rs t (cand d rs t (encS t, none) p) q) (lastR rs)
/-- a WRITE: is it done? -/
def wrt (R : Rp) : Bool × Rp := if R.fai = 0 then (true, R) else if R.fai = 1 then (false, (R.dat, R.rcs, R.jrn, true, 0)) else (true, (R.dat, R.rcs, R.jrn, false, R.fai - 1))
/-- what storing answers: a revision, -2, or -4 (no room) -/
def stor (R : Rp) (p q : Option Nat) (t : List Nat) : Int × Rp :=
  let h := nodeOf R.rcs p q t
  match find R.rcs h with
  | some n => (n, R)
  | none =>
    let ch := choose R.dat R.rcs p q t
    if 24 ≤ R.rcs.length ∨ 600 < R.dat.length + ch.1.length then (-4, R) else
    match wrt R with
    | (false, R1) => (-2, R1)
    | (true, R1) => match wrt (R1.dat ++ ch.1, R1.rcs, R1.jrn, R1.dwn, R1.fai) with
      | (false, R2) => (-2, R2)
      | (true, R2) => (R2.rcs.length, (R2.dat, R2.rcs ++ [(R1.dat.length, ch.1.length, t.length, ch.2, p, q, h)], R2.jrn, R2.dwn, R2.fai))
def begn (R : Rp) : Bool × Rp := match wrt R with
  | (false, R1) => (false, R1)
  | (true, R1) => (true, (R1.dat, R1.rcs, some (R1.dat.length, R1.rcs.length), R1.dwn, R1.fai))
def fini (R : Rp) : Bool × Rp := match wrt R with
  | (false, R1) => (false, R1)
  | (true, R1) => (true, (R1.dat, R1.rcs, none, R1.dwn, R1.fai))
def roll (R : Rp) (d n : Nat) : Int × Rp := match wrt R with
  | (false, R1) => (-2, R1)
  | (true, R1) => match wrt (R1.dat.take d, R1.rcs, R1.jrn, R1.dwn, R1.fai) with
    | (false, R2) => (-2, R2)
    | (true, R2) => match fini (R2.dat, R2.rcs.take n, R2.jrn, R2.dwn, R2.fai) with
      | (false, R3) => (-2, R3)
      | (true, R3) => ((R2.rcs.length - n : Nat), R3)
