/-! the checker's step. The tables: ranges, references, contracts -/
def aP (lv : List aV) (tr : aTr) (r : Option (List aV)) : Option (List aV × List aV × aTr) := match r with
  | some st => some (lv, st, tr)
  | none => none
def aStore (k : Nat) (v : aV) (lv r : List aV) (tr : aTr) : Option (List aV × List aV × aTr) := bif Nat.blt k lv.length then some (aset1 lv k (aD0 v), r.map (aDo (aisL k)), aGrow (Sum.inl (k)) v tr) else none
def astI (lv st : List aV) (tr : aTr) (k : Nat) : Option (List aV × List aV × aTr) := match st with
  | (Sum.inr (Sum.inl (lo, hi, o))) :: r => aStore k (Sum.inr (Sum.inl (lo, hi, o))) lv r tr
  | _ => none
def astA (lv st : List aV) (tr : aTr) (k : Nat) : Option (List aV × List aV × aTr) := match st with
  | (Sum.inr (Sum.inr (Sum.inr (Sum.inl (cs))))) :: r => aStore k (Sum.inr (Sum.inr (Sum.inr (Sum.inl (cs))))) lv r tr
  | _ => none
def astJ (lv st : List aV) (tr : aTr) (k : Nat) : Option (List aV × List aV × aTr) := match st with
  | (Sum.inr (Sum.inr (Sum.inl (lo, hi)))) :: r => bif Nat.blt (k + 1) lv.length then some ((aset1 lv k (Sum.inr (Sum.inr (Sum.inl (lo, hi))))).set (k + 1) (Sum.inl ()), r.map (aDo fun x => aisL k x || aisL (k + 1) x), aLose (fun x => aisL k x || aisL (k + 1) x) tr) else none
  | _ => none
def aldI (lv st : List aV) (tr : aTr) (k : Nat) : Option (List aV × List aV × aTr) := match lv[k]? with
  | some (Sum.inr (Sum.inl (lo, hi, _))) => some (lv, (Sum.inr (Sum.inl (lo, hi, some ((Sum.inl (k)), 0)))) :: st, tr)
  | _ => none
def aldJ (lv st : List aV) (tr : aTr) (k : Nat) : Option (List aV × List aV × aTr) := match lv[k]? with
  | some (Sum.inr (Sum.inr (Sum.inl (lo, hi)))) => some (lv, (Sum.inr (Sum.inr (Sum.inl (lo, hi)))) :: st, tr)
  | _ => none
def aldA (lv st : List aV) (tr : aTr) (k : Nat) : Option (List aV × List aV × aTr) := match lv[k]? with
  | some (Sum.inr (Sum.inr (Sum.inr (Sum.inl (cs))))) => some (lv, (Sum.inr (Sum.inr (Sum.inr (Sum.inl (cs))))) :: st, tr)
  | some (Sum.inr (Sum.inr (Sum.inr (Sum.inr (ks))))) => some (lv, (Sum.inr (Sum.inr (Sum.inr (Sum.inr (ks))))) :: st, tr)
  | _ => none
def ainc (lv st : List aV) (tr : aTr) (k : Nat) (n : Int) : Option (List aV × List aV × aTr) := match lv[k]? with
  | some (Sum.inr (Sum.inl (lo, hi, _))) => aStore k (aAdd lo hi (some ((Sum.inl (k)), 0)) n n none) lv st tr
  | _ => none
def aNum (n : Int) : aV := (Sum.inr (Sum.inl (n, n, none)))
def a1 (a : aV) : Bool := aKnown a && Nat.beq (aCat a) 1
def aV1 (st : List aV) (f : aV → List aV → Option (List aV)) : Option (List aV) := match st with
  | v :: r => f v r
  | _ => none
def aOpt (b : Bool) (r : List aV) : Option (List aV) := bif b then some r else none
def aPur (i : Instr) (len : Nat) (lv st : List aV) (tr : aTr) : Option (List aV × List aV × aTr) := match i with
  | .iconst n => x1 len 1 (some (lv, aNum (Int32.ofInt n).toInt :: st, tr))
  | .bipush n => x1 len 2 (some (lv, aNum (Int8.ofInt n).toInt32.toInt :: st, tr))
  | .sipush n => x1 len 3 (some (lv, aNum (Int16.ofInt n).toInt32.toInt :: st, tr))
  | .lconst n => x1 len 1 (some (lv, (Sum.inr (Sum.inr (Sum.inl ((Int64.ofNat (n : Nat)).toInt, (Int64.ofNat (n : Nat)).toInt)))) :: st, tr))
  | .iload_n k => x1 len 1 (aldI lv st tr (k : Nat))
  | .iload k => x1 len 2 (aldI lv st tr k)
  | .lload_n k => x1 len 1 (aldJ lv st tr (k : Nat))
  | .lload k => x1 len 2 (aldJ lv st tr k)
  | .aload_n k => x1 len 1 (aldA lv st tr (k : Nat))
  | .aload k => x1 len 2 (aldA lv st tr k)
  | .istore_n k => x1 len 1 (astI lv st tr (k : Nat))
  | .istore k => x1 len 2 (astI lv st tr k)
  | .lstore_n k => x1 len 1 (astJ lv st tr (k : Nat))
  | .lstore k => x1 len 2 (astJ lv st tr k)
  | .astore_n k => x1 len 1 (astA lv st tr (k : Nat))
  | .astore k => x1 len 2 (astA lv st tr k)
  | .iinc k n => x1 len 3 (ainc lv st tr k (Int32.ofInt n).toInt)
  | .iadd => x1 len 1 (aP lv tr (aII st fun a b o c d o' _ => some (aAdd a b o c d o')))
  | .isub => x1 len 1 (aP lv tr (aII st fun a b o c d _ _ => some (aSub a b o c d)))
  | .imul => x1 len 1 (aP lv tr (aII st fun a b _ c d _ _ => some (aOne (fun x y => x * y) a b c d (aMul a b c d))))
  | .iand => x1 len 1 (aP lv tr (aII st fun a b _ c d _ _ => some (aOne (fun x y => x &&& y) a b c d (aAnd a b c d))))
  | .ior => x1 len 1 (aP lv tr (aII st fun a b _ c d _ _ => some (aOne (fun x y => x ||| y) a b c d (aIor a b c d))))
  | .ixor => x1 len 1 (aP lv tr (aII st fun a b _ c d _ _ => some (aOne (fun x y => x ^^^ y) a b c d aFul)))
  | .ishl => x1 len 1 (aP lv tr (aII st fun a b _ c d _ _ => some (aOne (fun x y => x <<< (y &&& 31)) a b c d aFul)))
  | .ishr => x1 len 1 (aP lv tr (aII st fun a b _ c d _ _ => some (aOne (fun x y => x >>> (y &&& 31)) a b c d (aShr a b c d))))
  | .iushr => x1 len 1 (aP lv tr (aII st fun a b _ c d _ _ => some (aOne (fun x y => (x.toUInt32 >>> (y.toUInt32 &&& Int32.toUInt32 31)).toInt32) a b c d aFul)))
  | .idiv => x1 len 1 (aP lv tr (aII st fun a b _ c d _ _ => aDiv a b c d))
  | .irem => x1 len 1 (aP lv tr (aII st fun a b _ c d _ _ => aRem a b c d))
  | .ineg => x1 len 1 (aP lv tr (aI1 st fun a b _ => aFit (-b) (-a) none))
  | .i2l => x1 len 1 (aP lv tr (aI1 st fun a b _ => (Sum.inr (Sum.inr (Sum.inl (a, b))))))
  | .i2b => x1 len 1 (aP lv tr (aI1 st fun _ _ _ => (Sum.inr (Sum.inl (-128, 127, none)))))
  | .l2i => x1 len 1 (match st with
    | (Sum.inr (Sum.inr (Sum.inl (a, b)))) :: r => some (lv, aL2i a b :: r, tr)
    | _ => none)
  | .ladd => x1 len 1 (aP lv tr (aJJ st fun a b c d => some (aLfit (a + c) (b + d))))
  | .lsub => x1 len 1 (aP lv tr (aJJ st fun a b c d => some (aLfit (a - d) (b - c))))
  | .lmul => x1 len 1 (aP lv tr (aJJ st fun _ _ _ _ => some aLful))
  | .land => x1 len 1 (aP lv tr (aJJ st fun a b c d => some (aLand a b c d)))
  | .ldiv => x1 len 1 (aP lv tr (aJJ st fun a b c d => aLdiv a b c d))
  | .lrem => x1 len 1 (aP lv tr (aJJ st fun a b c d => aLrem a b c d))
  | .lcmp => x1 len 1 (aP lv tr (aJJ st fun _ _ _ _ => some (Sum.inr (Sum.inl (-1, 1, none)))))
  | .dup => x1 len 1 (aP lv tr (aV1 st fun v r => aOpt (a1 v) (v :: v :: r)))
  | .pop => x1 len 1 (aP lv tr (aV1 st fun v r => aOpt (a1 v) r))
  | .dup_x1 => x1 len 1 (aP lv tr (aV1 st fun v r => aV1 r fun w r2 => aOpt (a1 v && a1 w) (v :: w :: v :: r2)))
  | .dup2 => x1 len 1 (aP lv tr (aV1 st fun v r => bif a1 v then aV1 r fun w r2 => aOpt (a1 w) (v :: w :: v :: w :: r2) else aOpt (aKnown v) (v :: v :: r)))
  | .dup2_x1 => x1 len 1 (aP lv tr (aV1 st fun v r => aV1 r fun w r2 => aOpt (aKnown v && Nat.beq (aCat v) 2 && a1 w) (v :: w :: v :: r2)))
  | _ => none
/-! what is known of places -/
def aFk (rng : Nat → Nat → Int × Int) (fs : aFs) (c k : Nat) : Int × Int := match fs.find? fun q => Nat.beq q.1 c && Nat.beq q.2.1 k with
  | some q => q.2.2
  | none => rng c k
def aFdel (f : Nat → Nat → Bool) (fs : aFs) : aFs := fs.filter fun q => !(f q.1 q.2.1)
def aObj (c a : Nat) : Bool := Nat.blt c 124 && (match xsh c with
  | some (.inl ci) => Nat.beq ci a
  | _ => false)
def aArr (c : Nat) (ok : FieldType → Bool) (f : Nat → Bool) : Bool := Nat.blt c 124 && (match xsh c with
  | some (.inr (t, n)) => ok t && f n
  | _ => false)
def aSub2 (lo hi : Int) (q : Int × Int) : Bool := aile q.1 lo && aile hi q.2
def aHull (f : Nat → Int × Int) (cs : List Nat) : Int × Int := match cs with
  | [] => (0, 0)
  | c :: r => r.foldl (fun q d => (amin q.1 (f d).1, amax q.2 (f d).2)) (f c)
def aisPl (cs : List Nat) (k : Nat) (x : aK) : Bool := match x with
  | (Sum.inl (_)) => false
  | (Sum.inr (c, k')) => amem c cs && Nat.beq k k'
def aisRow (cs : List Nat) (x : aK) : Bool := match x with
  | (Sum.inl (_)) => false
  | (Sum.inr (c, _)) => amem c cs
/-- of a row with ranges of its own only the places a .. b -/
def aisRng (cs : List Nat) (a b : Int) (x : aK) : Bool := match x with
  | (Sum.inl (_)) => false
  | (Sum.inr (c, k)) => amem c cs && (!(aFine c) || (aile a k && aile k b))
/-- the place holds a reference -/
def aIsRb (c k : Nat) : Bool := match xsh c with
  | some (.inl ci) => match xty ci k with
    | .object _ => true
    | .array _ => true
    | _ => false
  | _ => false
/-- what a condition says of both sides -/
def aCnd (c : ClassFile.Cond) (a b e f : Int) : (Int × Int) × (Int × Int) := match c with
  | .eq => ((amax a e, amin b f), (amax a e, amin b f))
  | .ne => ((bif aieq e f && aieq a e then a + 1 else a, bif aieq e f && aieq b e then b - 1 else b), (e, f))
  | .lt => ((a, amin b (f - 1)), (amax e (a + 1), f))
  | .ge => ((amax a e, b), (e, amin f b))
  | .gt => ((amax a (e + 1), b), (e, amin f (b - 1)))
  | .le => ((a, amin b f), (amax e a, f))
def aNeg (c : ClassFile.Cond) : ClassFile.Cond := match c with
  | .eq => .ne
  | .ne => .eq
  | .lt => .ge
  | .ge => .lt
  | .gt => .le
  | .le => .gt
def aHasb (c k : Nat) : Bool := match xsh c with
  | some (.inl _) => true
  | some (.inr (_, n)) => Nat.blt k n
  | none => false
def aRfnP (rng : Nat → Nat → Int × Int) (c k : Nat) (q : Int × Int) (S : aS) : aS := bif aHasb c k && !(aIsRb c k) then (S.1, S.2.1, (c, k, amax (aFk rng S.2.2.1 c k).1 q.1, amin (aFk rng S.2.2.1 c k).2 q.2) :: S.2.2.1, S.2.2.2) else S
def aRfnA (rng : Nat → Nat → Int × Int) (i : Nat) (q : Int × Int) (S : aS) : aS := match S.2.2.2.2.1.find? (fun p => Nat.beq p.1 i && p.2.2.2) with
  | some p => aRfnP rng p.2.1.1 p.2.1.2 (q.1 - p.2.2.1, q.2 - p.2.2.1) S
  | none => S
/-- a watched thing lies between lo and hi too -/
def aRfn (rng : Nat → Nat → Int × Int) (o : Option (aK × Int)) (q : Int × Int) (S : aS) : aS := match o with
  | none => S
  | some ((Sum.inl (i)), e) => match S.1[i]? with
    | some (Sum.inr (Sum.inl (lo, hi, p))) => aRfnA rng i (q.1 - e, q.2 - e) (S.1.set i (Sum.inr (Sum.inl (amax lo (q.1 - e), amin hi (q.2 - e), p))), S.2)
    | _ => S
  | some ((Sum.inr (c, k)), e) => aRfnP rng c k (q.1 - e, q.2 - e) S
def aBr (rng : Nat → Nat → Int × Int) (c : ClassFile.Cond) (a b : Int) (o : Option (aK × Int)) (e f : Int) (o' : Option (aK × Int)) (pc : Nat) (S : aS) : List (Nat × aS) :=
  bif aile (aCnd c a b e f).1.1 (aCnd c a b e f).1.2 && aile (aCnd c a b e f).2.1 (aCnd c a b e f).2.2 then [(pc, aRfn rng o' (aCnd c a b e f).2 (aRfn rng o (aCnd c a b e f).1 S))] else []
