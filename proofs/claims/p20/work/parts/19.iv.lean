/-! THE CHECKER: what is known of values, of a state; one step of it -/
/-- a thing that is watched: a local, a place of the heap -/
abbrev aK : Type := Nat ⊕ (Nat × Nat)
def aKeq (x y : aK) : Bool := match x with
  | (Sum.inl (i)) => match y with
    | (Sum.inl (i')) => Nat.beq i i'
    | (Sum.inr (_, _)) => false
  | (Sum.inr (c, k)) => match y with
    | (Sum.inl (_)) => false
    | (Sum.inr (c', k')) => Nat.beq c c' && Nat.beq k k'
/-- a value: anything; an int between two bounds and where it came from; a long; a cell among cs; a thing that was there before, among ks -/
abbrev aV : Type := Unit ⊕ ((Int × Int × Option (aK × Int)) ⊕ ((Int × Int) ⊕ (List Nat ⊕ List Nat)))
abbrev aFs : Type := List (Nat × Nat × Int × Int)
/-- places against the start: so much more (true), or at least so much more -/
abbrev aU : Type := List ((Nat × Nat) × Int × Bool)
/-- locals that are a place and so much (or at least so much) more -/
abbrev aA : Type := List (Nat × (Nat × Nat) × Int × Bool)
/-- things that have grown since the leader -/
abbrev aW : Type := List (aK × Option (Int × Bool))
/-- what is watched: things since the leader; locals against places; locals that are as at the start; places against the start -/
abbrev aTr : Type := aW × aA × List Nat × aU
/-- a method's start: heap, arguments -/
abbrev aE : Type := xH × List Value
abbrev aB : Type := (aK → Int) × aE
abbrev aS : Type := List aV × List aV × aFs × aTr
/-- the parts of a rank -/
abbrev aC : Type := Nat ⊕ ((aK × Int) ⊕ (aK × Int))
def aMin : Int := -2147483648
def aMax : Int := 2147483647
def aLmin : Int := -9223372036854775808
def aLmax : Int := 9223372036854775807
def aile (x y : Int) : Bool := decide (x ≤ y)
def aieq (x y : Int) : Bool := decide (x = y)
def amin (x y : Int) : Int := bif aile x y then x else y
def amax (x y : Int) : Int := bif aile x y then y else x
def amem (x : Nat) (l : List Nat) : Bool := l.any fun y => Nat.beq x y
def aCur (lv : List Value) (h : xH) (x : aK) : Option Int := match x with
  | (Sum.inl (i)) => match lv[i]? with
    | some (.int z) => some z.toInt
    | _ => none
  | (Sum.inr (c, k)) => some (h.2.1 c k).toInt
def aOr (lv : List Value) (h : xH) (o : Option (aK × Int)) (z : Int) : Prop := match o with
  | none => True
  | some (x, e) => ∃ w, aCur lv h x = some w ∧ z = w + e
/-- the value v is as a says -/
def aG (lv : List Value) (h : xH) (a : aV) (v : Value) : Prop := match a with
  | (Sum.inl ()) => True
  | (Sum.inr (Sum.inl (lo, hi, o))) => ∃ x : Int32, v = .int x ∧ lo ≤ x.toInt ∧ x.toInt ≤ hi ∧ aOr lv h o x.toInt
  | (Sum.inr (Sum.inr (Sum.inl (lo, hi)))) => ∃ x : Int64, v = .long x ∧ lo ≤ x.toInt ∧ x.toInt ≤ hi
  | (Sum.inr (Sum.inr (Sum.inr (Sum.inl (cs))))) => ∃ c, v = .ref c ∧ c ∈ cs
  | (Sum.inr (Sum.inr (Sum.inr (Sum.inr (ks))))) => ∃ k, v = .retAddr k ∧ k ∈ ks
def aFit (lo hi : Int) (o : Option (aK × Int)) : aV := bif aile aMin lo && aile hi aMax then (Sum.inr (Sum.inl (lo, hi, o))) else (Sum.inr (Sum.inl (aMin, aMax, none)))
def aFul : aV := (Sum.inr (Sum.inl (aMin, aMax, none)))
def aLful : aV := (Sum.inr (Sum.inr (Sum.inl (aLmin, aLmax))))
def aLfit (lo hi : Int) : aV := bif aile aLmin lo && aile hi aLmax then (Sum.inr (Sum.inr (Sum.inl (lo, hi)))) else (Sum.inr (Sum.inr (Sum.inl (aLmin, aLmax))))
def aSh (o : Option (aK × Int)) (e : Int) : Option (aK × Int) := match o with
  | none => none
  | some (x, f) => some (x, f + e)
def aII (st : List aV) (f : Int → Int → Option (aK × Int) → Int → Int → Option (aK × Int) → List aV → Option aV) : Option (List aV) := match st with
  | (Sum.inr (Sum.inl (c, d, o'))) :: (Sum.inr (Sum.inl (a, b, o))) :: r => match f a b o c d o' r with
    | some v => some (v :: r)
    | none => none
  | _ => none
def aI1 (st : List aV) (f : Int → Int → Option (aK × Int) → aV) : Option (List aV) := match st with
  | (Sum.inr (Sum.inl (a, b, o))) :: r => some (f a b o :: r)
  | _ => none
def aJJ (st : List aV) (f : Int → Int → Int → Int → Option aV) : Option (List aV) := match st with
  | (Sum.inr (Sum.inr (Sum.inl (c, d)))) :: (Sum.inr (Sum.inr (Sum.inl (a, b)))) :: r => match f a b c d with
    | some v => some (v :: r)
    | none => none
  | _ => none
/-- both are one number: then the result is one -/
def aOne (g : Int32 → Int32 → Int32) (a b c d : Int) (z : aV) : aV := bif aieq a b && aieq c d then (Sum.inr (Sum.inl ((g (Int32.ofInt a) (Int32.ofInt c)).toInt, (g (Int32.ofInt a) (Int32.ofInt c)).toInt, none))) else z
def aAdd (a b : Int) (o : Option (aK × Int)) (c d : Int) (o' : Option (aK × Int)) : aV := aFit (a + c) (b + d) (bif aieq c d then aSh o c else bif aieq a b then aSh o' a else none)
def aSub (a b : Int) (o : Option (aK × Int)) (c d : Int) : aV := aFit (a - d) (b - c) (bif aieq c d then aSh o (-c) else none)
def aMul (a b c d : Int) : aV := bif aile 0 a then aFit (bif aile 0 c then a * c else b * c) (bif aile 0 d then b * d else a * d) none else bif aile 0 c then aFit (a * d) (bif aile 0 b then b * d else b * c) none else aFul
def aIor (a b c d : Int) : aV := bif aile 0 a && aile 0 c then (Sum.inr (Sum.inl (0, ((2 ^ (Nat.log2 (amax b d).toNat + 1) - 1 : Nat) : Int), none))) else aFul
def aAnd (a b c d : Int) : aV := bif aile 0 c then (bif aile 0 a then (Sum.inr (Sum.inl (0, amin b d, none))) else (Sum.inr (Sum.inl (0, d, none)))) else bif aile 0 a then (Sum.inr (Sum.inl (0, b, none))) else aFul
def aDiv (a b c d : Int) : Option aV := bif aile 1 c then (bif aile 0 a then some ((Sum.inr (Sum.inl (0, b, none)))) else some aFul) else (bif aile d (-1) then some aFul else none)
def aRem (a b c d : Int) : Option aV := bif aile 1 c then (bif aile 0 a then some (Sum.inr (Sum.inl (0, amin b (d - 1), none))) else some (Sum.inr (Sum.inl (1 - d, d - 1, none)))) else (bif aile d (-1) then some aFul else none)
def aShr (a b c d : Int) : aV := bif aile 0 a then (Sum.inr (Sum.inl (0, b, none))) else aFul
def aLrem (a b c d : Int) : Option aV := bif aile 1 c then (bif aile 0 a then some (Sum.inr (Sum.inr (Sum.inl (0, amin b (d - 1))))) else some (Sum.inr (Sum.inr (Sum.inl (1 - d, d - 1))))) else (bif aile d (-1) then some aLful else none)
def aLdiv (a b c d : Int) : Option aV := bif aile 1 c then (bif aile 0 a then some (Sum.inr (Sum.inr (Sum.inl (0, b)))) else some aLful) else (bif aile d (-1) then some aLful else none)
def aLand (a b c d : Int) : aV := bif aile 0 c then (Sum.inr (Sum.inr (Sum.inl (0, d)))) else bif aile 0 a then (Sum.inr (Sum.inr (Sum.inl (0, b)))) else aLful
def aL2i (a b : Int) : aV := bif aile aMin a && aile b aMax then (Sum.inr (Sum.inl (a, b, none))) else aFul
def aCat (a : aV) : Nat := match a with
  | (Sum.inr (Sum.inr (Sum.inl (_, _)))) => 2
  | _ => 1
def aKnown (a : aV) : Bool := match a with
  | (Sum.inl ()) => false
  | _ => true
/-- drops where a value came from -/
def aDo (f : aK → Bool) (a : aV) : aV := match a with
  | (Sum.inr (Sum.inl (lo, hi, (some (x, e))))) => bif f x then (Sum.inr (Sum.inl (lo, hi, none))) else (Sum.inr (Sum.inl (lo, hi, (some (x, e)))))
  | a => a
def aD0 (a : aV) : aV := match a with
  | (Sum.inr (Sum.inl (lo, hi, _))) => (Sum.inr (Sum.inl (lo, hi, none)))
  | a => a
def aOf (a : aV) : Option (aK × Int) := match a with
  | (Sum.inr (Sum.inl (_, _, o))) => o
  | _ => none
def aPeq (p q : Nat × Nat) : Bool := Nat.beq p.1 q.1 && Nat.beq p.2 q.2
def aRelA (x y : aK) (f : Int) (al : aA) : Option (Int × Bool) := match y with
  | (Sum.inl (i)) => match x with
    | (Sum.inl (_)) => none
    | (Sum.inr (c, k)) => match al.find? fun q => Nat.beq q.1 i && aPeq q.2.1 (c, k) with
      | some q => some (q.2.2.1 + f, q.2.2.2)
      | none => none
  | (Sum.inr (_, _)) => none
/-- the value a is what x holds, and so much more -/
def aRel (x : aK) (a : aV) (al : aA) : Option (Int × Bool) := match aOf a with
  | none => none
  | some (y, f) => bif aKeq y x then some (f, true) else aRelA x y f al
def aGrow1 (x : aK) (o : Option (Int × Bool)) (l : aW) : aW := l.map fun q => bif aKeq q.1 x then (q.1, match q.2 with
    | none => none
    | some e => match o with
      | some f => some (e.1 + f.1, e.2 && f.2)
      | none => none) else q
/-- the local k is set to a value: what it is against places -/
def aAl1 (k : Nat) (y : aK) (f : Int) (l : aA) : aA := match y with
  | (Sum.inr (c, n)) => [(k, (c, n), f, true)]
  | (Sum.inl (i)) => match l.find? fun q => Nat.beq q.1 i with
    | some q => [(k, q.2.1, q.2.2.1 + f, q.2.2.2)]
    | none => []
def aGrowA (x : aK) (a : aV) (l : aA) : aA := match x with
  | (Sum.inl (k)) => (match aOf a with
    | some (y, f) => aAl1 k y f l ++ l.filter (fun q => !(Nat.beq q.1 k))
    | none => l.filter (fun q => !(Nat.beq q.1 k)))
  | (Sum.inr (c, k)) => l.filter (fun q => !(aPeq q.2.1 (c, k)))
def aGrowP (x : aK) (l : List Nat) : List Nat := match x with
  | (Sum.inl (k)) => l.filter (fun i => !(Nat.beq i k) && !(Nat.beq (i + 1) k))
  | (Sum.inr (_, _)) => l
def aGrowU (x : aK) (o : Option (Int × Bool)) (l : aU) : aU := match x with
  | (Sum.inl (_)) => l
  | (Sum.inr (c, k)) => l.flatMap fun q => bif aPeq q.1 (c, k) then (match o with
    | some f => [(q.1, q.2.1 + f.1, q.2.2 && f.2)]
    | none => []) else [q]
/-- the watched thing x is set to the value a -/
def aGrow (x : aK) (a : aV) (tr : aTr) : aTr := (aGrow1 x (aRel x a tr.2.1) tr.1, aGrowA x a tr.2.1, aGrowP x tr.2.2.1, aGrowU x (aRel x a tr.2.1) tr.2.2.2)
def aLose (f : aK → Bool) (tr : aTr) : aTr := (tr.1.map fun q => bif f q.1 then (q.1, none) else q, tr.2.1.filter (fun q => !(f (Sum.inl (q.1))) && !(f (Sum.inr (q.2.1.1, q.2.1.2)))), tr.2.2.1.filter (fun i => !(f (Sum.inl (i))) && !(f (Sum.inl (i + 1)))), tr.2.2.2.filter (fun q => !(f (Sum.inr (q.1.1, q.1.2)))))
def aisL (i : Nat) (x : aK) : Bool := aKeq x (Sum.inl (i))
def aisP (c : Nat) (x : aK) : Bool := match x with
  | (Sum.inl (_)) => false
  | (Sum.inr (c', _)) => Nat.beq c c'
/-- a store of a value into the local i -/
def aset1 (lv : List aV) (i : Nat) (v : aV) : List aV := match i with
  | 0 => lv.set 0 v
  | k + 1 => match lv[k]? with
    | some ((Sum.inr (Sum.inl (_, _, _)))) => lv.set (k + 1) v
    | some (Sum.inr (Sum.inr (Sum.inr (Sum.inl (_))))) => lv.set (k + 1) v
    | some (Sum.inr (Sum.inr (Sum.inr (Sum.inr (_))))) => lv.set (k + 1) v
    | _ => (lv.set (k + 1) v).set k (Sum.inl ())
