/-! THE CHECKER: what is known of values, of a state; one step of it -/
/-- a thing that is watched: a local, a place of the heap -/
abbrev aK : Type := Nat ⊕ (Nat × Nat)
def aKeq (x y : aK) : Bool := match x with
  | (Sum.inl (i)) => match y with
    | (Sum.inl (i')) => Nat.beq i i'
    | (Sum.inr (_, _)) => false
  | (Sum.inr (c, k)) => match y with
    | (Sum.inl (_)) => false
    | (Sum.inr (c', k')) => Nat.beq c c' && Nat.beq k k'
/-- a value: anything; an int between two bounds and where it came from; a long; a cell among cs; a thing that was there before, among ks -/
abbrev aV : Type := Unit ⊕ ((Int × Int × Option (aK × Int)) ⊕ ((Int × Int) ⊕ (List Nat ⊕ List Nat)))
abbrev aFs : Type := List (Nat × Nat × Int × Int)
abbrev aTr : Type := List (aK × Option Int)
abbrev aS : Type := List aV × List aV × aFs × aTr
/-- the parts of a rank -/
abbrev aC : Type := Nat ⊕ ((aK × Int) ⊕ (aK × Int))
def aMin : Int := -2147483648
def aMax : Int := 2147483647
def aLmin : Int := -9223372036854775808
def aLmax : Int := 9223372036854775807
def aile (x y : Int) : Bool := decide (x ≤ y)
def aieq (x y : Int) : Bool := decide (x = y)
def amin (x y : Int) : Int := bif aile x y then x else y
def amax (x y : Int) : Int := bif aile x y then y else x
def amem (x : Nat) (l : List Nat) : Bool := l.any fun y => Nat.beq x y
def aCur (lv : List Value) (h : xH) (x : aK) : Option Int := match x with
  | (Sum.inl (i)) => match lv[i]? with
    | some (.int z) => some z.toInt
    | _ => none
  | (Sum.inr (c, k)) => some (h.2.1 c k).toInt
def aOr (lv : List Value) (h : xH) (o : Option (aK × Int)) (z : Int) : Prop := match o with
  | none => True
  | some (x, e) => ∃ w, aCur lv h x = some w ∧ z = w + e
/-- the value v is as a says -/
def aG (lv : List Value) (h : xH) (a : aV) (v : Value) : Prop := match a with
  | (Sum.inl ()) => True
  | (Sum.inr (Sum.inl (lo, hi, o))) => ∃ x : Int32, v = .int x ∧ lo ≤ x.toInt ∧ x.toInt ≤ hi ∧ aOr lv h o x.toInt
  | (Sum.inr (Sum.inr (Sum.inl (lo, hi)))) => ∃ x : Int64, v = .long x ∧ lo ≤ x.toInt ∧ x.toInt ≤ hi
  | (Sum.inr (Sum.inr (Sum.inr (Sum.inl (cs))))) => ∃ c, v = .ref c ∧ c ∈ cs
  | (Sum.inr (Sum.inr (Sum.inr (Sum.inr (ks))))) => ∃ k, v = .retAddr k ∧ k ∈ ks
def aFit (lo hi : Int) (o : Option (aK × Int)) : aV := bif aile aMin lo && aile hi aMax then (Sum.inr (Sum.inl (lo, hi, o))) else (Sum.inr (Sum.inl (aMin, aMax, none)))
def aFul : aV := (Sum.inr (Sum.inl (aMin, aMax, none)))
def aLful : aV := (Sum.inr (Sum.inr (Sum.inl (aLmin, aLmax))))
def aLfit (lo hi : Int) : aV := bif aile aLmin lo && aile hi aLmax then (Sum.inr (Sum.inr (Sum.inl (lo, hi)))) else (Sum.inr (Sum.inr (Sum.inl (aLmin, aLmax))))
def aSh (o : Option (aK × Int)) (e : Int) : Option (aK × Int) := match o with
  | none => none
  | some (x, f) => some (x, f + e)
def aII (st : List aV) (f : Int → Int → Option (aK × Int) → Int → Int → Option (aK × Int) → List aV → Option aV) : Option (List aV) := match st with
  | (Sum.inr (Sum.inl (c, d, o'))) :: (Sum.inr (Sum.inl (a, b, o))) :: r => match f a b o c d o' r with
    | some v => some (v :: r)
    | none => none
  | _ => none
def aI1 (st : List aV) (f : Int → Int → Option (aK × Int) → aV) : Option (List aV) := match st with
  | (Sum.inr (Sum.inl (a, b, o))) :: r => some (f a b o :: r)
  | _ => none
def aJJ (st : List aV) (f : Int → Int → Int → Int → Option aV) : Option (List aV) := match st with
  | (Sum.inr (Sum.inr (Sum.inl (c, d)))) :: (Sum.inr (Sum.inr (Sum.inl (a, b)))) :: r => match f a b c d with
    | some v => some (v :: r)
    | none => none
  | _ => none
/-- both are one number: then the result is one -/
def aOne (g : Int32 → Int32 → Int32) (a b c d : Int) (z : aV) : aV := bif aieq a b && aieq c d then (Sum.inr (Sum.inl ((g (Int32.ofInt a) (Int32.ofInt c)).toInt, (g (Int32.ofInt a) (Int32.ofInt c)).toInt, none))) else z
def aAdd (a b : Int) (o : Option (aK × Int)) (c d : Int) (o' : Option (aK × Int)) : aV := aFit (a + c) (b + d) (bif aieq c d then aSh o c else bif aieq a b then aSh o' a else none)
def aSub (a b : Int) (o : Option (aK × Int)) (c d : Int) : aV := aFit (a - d) (b - c) (bif aieq c d then aSh o (-c) else none)
def aMul (a b c d : Int) : aV := bif aile 0 a && aile 0 c then aFit (a * c) (b * d) none else aFul
def aAnd (a b c d : Int) : aV := bif aile 0 c then (bif aile 0 a then (Sum.inr (Sum.inl (0, amin b d, none))) else (Sum.inr (Sum.inl (0, d, none)))) else bif aile 0 a then (Sum.inr (Sum.inl (0, b, none))) else aFul
def aDiv (a b c d : Int) : Option aV := bif aile 1 c then (bif aile 0 a then some ((Sum.inr (Sum.inl (0, b, none)))) else some aFul) else (bif aile d (-1) then some aFul else none)
def aRem (a b c d : Int) : Option aV := bif aile 1 c then (bif aile 0 a then some (Sum.inr (Sum.inl (0, amin b (d - 1), none))) else some (Sum.inr (Sum.inl (1 - d, d - 1, none)))) else (bif aile d (-1) then some aFul else none)
def aShr (a b c d : Int) : aV := bif aile 0 a then (Sum.inr (Sum.inl (0, b, none))) else aFul
def aLrem (a b c d : Int) : Option aV := bif aile 1 c then (bif aile 0 a then some (Sum.inr (Sum.inr (Sum.inl (0, amin b (d - 1))))) else some (Sum.inr (Sum.inr (Sum.inl (1 - d, d - 1))))) else (bif aile d (-1) then some aLful else none)
def aLdiv (a b c d : Int) : Option aV := bif aile 1 c then (bif aile 0 a then some (Sum.inr (Sum.inr (Sum.inl (0, b)))) else some aLful) else (bif aile d (-1) then some aLful else none)
def aLand (a b c d : Int) : aV := bif aile 0 c then (Sum.inr (Sum.inr (Sum.inl (0, d)))) else bif aile 0 a then (Sum.inr (Sum.inr (Sum.inl (0, b)))) else aLful
def aL2i (a b : Int) : aV := bif aile aMin a && aile b aMax then (Sum.inr (Sum.inl (a, b, none))) else aFul
def aCat (a : aV) : Nat := match a with
  | (Sum.inr (Sum.inr (Sum.inl (_, _)))) => 2
  | _ => 1
def aKnown (a : aV) : Bool := match a with
  | (Sum.inl ()) => false
  | _ => true
/-- drops where a value came from -/
def aDo (f : aK → Bool) (a : aV) : aV := match a with
  | (Sum.inr (Sum.inl (lo, hi, (some (x, e))))) => bif f x then (Sum.inr (Sum.inl (lo, hi, none))) else (Sum.inr (Sum.inl (lo, hi, (some (x, e)))))
  | a => a
def aD0 (a : aV) : aV := match a with
  | (Sum.inr (Sum.inl (lo, hi, _))) => (Sum.inr (Sum.inl (lo, hi, none)))
  | a => a
def aOf (a : aV) : Option (aK × Int) := match a with
  | (Sum.inr (Sum.inl (_, _, o))) => o
  | _ => none
/-- how much a watched thing has grown, when it is set to the value a -/
def aGrow (x : aK) (a : aV) (tr : aTr) : aTr := tr.map fun q => bif aKeq q.1 x then (q.1, match q.2 with
    | none => none
    | some e => match aOf a with
      | some (y, f) => bif aKeq y x then some (e + f) else none
      | none => none) else q
def aLose (f : aK → Bool) (tr : aTr) : aTr := tr.map fun q => bif f q.1 then (q.1, none) else q
def aisL (i : Nat) (x : aK) : Bool := aKeq x (Sum.inl (i))
def aisP (c : Nat) (x : aK) : Bool := match x with
  | (Sum.inl (_)) => false
  | (Sum.inr (c', _)) => Nat.beq c c'
/-- a store of a value into the local i -/
def aset1 (lv : List aV) (i : Nat) (v : aV) : List aV := match i with
  | 0 => lv.set 0 v
  | k + 1 => match lv[k]? with
    | some ((Sum.inr (Sum.inl (_, _, _)))) => lv.set (k + 1) v
    | some (Sum.inr (Sum.inr (Sum.inr (Sum.inl (_))))) => lv.set (k + 1) v
    | some (Sum.inr (Sum.inr (Sum.inr (Sum.inr (_))))) => lv.set (k + 1) v
    | _ => (lv.set (k + 1) v).set k (Sum.inl ())
