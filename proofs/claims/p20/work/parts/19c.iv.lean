/-! the checker's step, whole -/
def aLe (a b : aV) : Bool := match b with
  | (Sum.inl ()) => true
  | (Sum.inr (Sum.inl (lo, hi, o))) => match a with
    | (Sum.inr (Sum.inl (lo', hi', o'))) => aile lo lo' && aile hi' hi && (match o with
      | none => true
      | some (x, e) => match o' with
        | none => false
        | some (x', e') => aKeq x x' && aieq e e')
    | _ => false
  | (Sum.inr (Sum.inr (Sum.inl (lo, hi)))) => match a with
    | (Sum.inr (Sum.inr (Sum.inl (lo', hi')))) => aile lo lo' && aile hi' hi
    | _ => false
  | (Sum.inr (Sum.inr (Sum.inr (Sum.inl (cs))))) => match a with
    | (Sum.inr (Sum.inr (Sum.inr (Sum.inl (ds))))) => ds.all fun d => amem d cs
    | _ => false
  | (Sum.inr (Sum.inr (Sum.inr (Sum.inr (ks))))) => match a with
    | (Sum.inr (Sum.inr (Sum.inr (Sum.inr (ls))))) => ls.all fun d => amem d ks
    | _ => false
def aLes (as bs : List aV) : Bool := match as with
  | [] => match bs with
    | [] => true
    | _ => false
  | a :: r => match bs with
    | [] => false
    | b :: s => aLe a b && aLes r s
/-- facts: an int's bounds, or which cell a reference is -/
def aFkR (fs : aFs) (c k : Nat) : Option Int := match fs.find? fun q => Nat.beq q.1 c && Nat.beq q.2.1 k with
  | some q => some q.2.2.1
  | none => none
def aHolds (fs : aFs) (q : Nat × Nat × Int × Int) : Bool := bif aIsRb q.1 q.2.1 then (match aFkR fs q.1 q.2.1 with
    | some d => aieq d q.2.2.1
    | none => false) else aHasb q.1 q.2.1 && aSub2 (aFk aRng fs q.1 q.2.1).1 (aFk aRng fs q.1 q.2.1).2 q.2.2
def aUle (us : aU) (q : (Nat × Nat) × Int × Bool) : Bool := us.any fun p => aPeq p.1 q.1 && (bif q.2.2 then p.2.2 && aieq p.2.1 q.2.1 else aile q.2.1 p.2.1)
/-- the state S holds what the leader asks -/
abbrev aLq : Type := Nat × List aV × List aV × aFs × List aC × aA × List Nat × aU
def aAle (al : aA) (q : Nat × (Nat × Nat) × Int × Bool) : Bool := al.any fun p => Nat.beq p.1 q.1 && aPeq p.2.1 q.2.1 && (bif q.2.2.2 then p.2.2.2 && aieq p.2.2.1 q.2.2.1 else aile q.2.2.1 p.2.2.1)
def aIncl (S : aS) (q : aLq) : Bool := aLes S.1 q.2.1 && aLes S.2.1 q.2.2.1 && q.2.2.2.1.all (aHolds S.2.2.1) && q.2.2.2.2.2.1.all (aAle S.2.2.2.2.1) && q.2.2.2.2.2.2.1.all (fun i => amem i S.2.2.2.2.2.1) && q.2.2.2.2.2.2.2.all (aUle S.2.2.2.2.2.2)
def aLookT (tr : aTr) (x : aK) : Option (Int × Bool) := match tr.1.find? fun q => aKeq q.1 x with
  | some q => q.2
  | none => none
/-- the bounds of a watched thing in a state -/
def aBnd (lv : List aV) (fs : aFs) (x : aK) : Int × Int := match x with
  | (Sum.inl (i)) => match lv[i]? with
    | some (Sum.inr (Sum.inl (lo, hi, _))) => (lo, hi)
    | _ => (aMin, aMax)
  | (Sum.inr (c, k)) => bif aHasb c k && !(aIsRb c k) then aFk aRng fs c k else (aMin, aMax)
def aBig : Int := 4294967296
def aLt (tr : aTr) (lv : List aV) (fs : aFs) (R R' : List aC) : Bool := match R with
  | [] => false
  | (Sum.inl (a)) :: r => match R' with
    | (Sum.inl (b)) :: r' => Nat.blt a 1000000000 && (Nat.blt b a || (Nat.beq b a && aLt tr lv fs r r'))
    | _ => false
  | (Sum.inr (Sum.inl (x, b))) :: r => match R' with
    | (Sum.inr (Sum.inl (x', b'))) :: r' => aKeq x x' && aieq b b' && aile b aBig && (match aLookT tr x with
      | some e => (aile 1 e.1 && aile (aBnd lv fs x).2 b) || (e.2 && aieq e.1 0 && aLt tr lv fs r r')
      | none => false)
    | _ => false
  | (Sum.inr (Sum.inr (x, b))) :: r => match R' with
    | (Sum.inr (Sum.inr (x', b'))) :: r' => aKeq x x' && aieq b b' && aile (-aBig) b && (match aLookT tr x with
      | some e => (e.2 && aile e.1 (-1) && aile b (aBnd lv fs x).1) || (e.2 && aieq e.1 0 && aLt tr lv fs r r')
      | none => false)
    | _ => false
def aGo (pc : Nat) (S : aS) : Option (List (Nat × aS)) := some [(pc, S)]
def aIf (b : Bool) (r : Option (List (Nat × aS))) : Option (List (Nat × aS)) := bif b then r else none
def aSumC (st : List aV) : Nat := (st.map aCat).sum
/-- the index lies in the row, whatever cell of cs it is -/
def aIdx (cs : List Nat) (ok : FieldType → Bool) (a b : Int) : Bool := cs.all fun c => aArr c ok fun n => aile 0 a && aile (b + 1) (n : Int)
def aIxs (a b : Int) : List Nat := List.range' a.toNat (b - a + 1).toNat
def aRow (c : Nat) (a b : Int) : Int × Int := bif aFine c && aile (b - a) 100 then aHull (aRng c) (aIxs a b) else aAll c
def aTake (cs : List Nat) (a b : Int) (fs : aFs) : aV := match cs with
  | [c] => bif aieq a b then (Sum.inr (Sum.inl ((aFk aRng fs c a.toNat).1, (aFk aRng fs c a.toNat).2, some ((Sum.inr (c, a.toNat)), 0)))) else (Sum.inr (Sum.inl ((aRow c a b).1, (aRow c a b).2, none)))
  | _ => (Sum.inr (Sum.inl ((aHull aAll cs).1, (aHull aAll cs).2, none)))
def aModR (j c : Nat) (a b : Int) : Bool := bif aFine c then aile (b - a) 100 && (aIxs a b).all (fun k => Nat.testBit (aMod j) (aPid c k)) else Nat.testBit (aMod j) (aPid c 0)
/-- a store of an int between lo and hi into the row -/
def aPutA (j : Nat) (cs : List Nat) (a b lo hi : Int) (v : aV) (pc : Nat) (lv r : List aV) (fs : aFs) (tr : aTr) : Option (List (Nat × aS)) :=
  aIf (cs.all fun c => aModR j c a b && (bif aFine c then (aIxs a b).all (fun k => aSub2 lo hi (aRng c k)) else aSub2 lo hi (aAll c)))
    (bif aieq a b then (match cs with
      | [c] => aGo pc (lv, r.map (aDo (aisPl [c] a.toNat)), (c, a.toNat, lo, hi) :: aFdel (fun c' k' => aisPl [c] a.toNat (Sum.inr (c', k'))) fs, aGrow (Sum.inr (c, a.toNat)) v tr)
      | _ => aGo pc (lv, r.map (aDo (aisRng cs a b)), aFdel (fun c' k' => aisRng cs a b (Sum.inr (c', k'))) fs, aLose (aisRng cs a b) tr))
    else aGo pc (lv, r.map (aDo (aisRng cs a b)), aFdel (fun c' k' => aisRng cs a b (Sum.inr (c', k'))) fs, aLose (aisRng cs a b) tr))
def aPutF (j : Nat) (cs : List Nat) (k : Nat) (lo hi : Int) (v : aV) (pc : Nat) (lv r : List aV) (fs : aFs) (tr : aTr) : Option (List (Nat × aS)) :=
  aIf (cs.all fun c => aSub2 lo hi (aRng c k))
    (match cs with
      | [c] => aGo pc (lv, r.map (aDo (aisPl [c] k)), (c, k, lo, hi) :: aFdel (fun c' k' => aisPl [c] k (Sum.inr (c', k'))) fs, aGrow (Sum.inr (c, k)) v tr)
      | _ => aGo pc (lv, r.map (aDo (aisPl cs k)), aFdel (fun c' k' => aisPl cs k (Sum.inr (c', k'))) fs, aLose (aisPl cs k) tr))
/-- what a call may change -/
def aisMod (mods : Nat) (x : aK) : Bool := match x with
  | (Sum.inl (_)) => false
  | (Sum.inr (c, k)) => Nat.testBit mods (aPid c k)
def aUcomb (us : aU) (q : (Nat × Nat) × Int × Bool) : aU := us.flatMap fun p => bif aPeq p.1 q.1 then [(q.1, q.2.1 + p.2.1, q.2.2 && p.2.2)] else []
def aUadd (us : aU) (c k : Nat) (q : Option (Int × Bool)) : Option (Int × Bool) := match q with
  | none => none
  | some e => match us.find? fun p => aPeq p.1 (c, k) with
    | some p => some (e.1 + p.2.1, e.2 && p.2.2)
    | none => none
def aWadd (mods : Nat) (us : aU) (q : aK × Option (Int × Bool)) : aK × Option (Int × Bool) := match q.1 with
  | (Sum.inl (_)) => q
  | (Sum.inr (c, k)) => bif aisMod mods (Sum.inr (c, k)) then (q.1, aUadd us c k q.2) else q
/-- what is watched, behind a call -/
def aLoseC (mods : Nat) (us : aU) (tr : aTr) : aTr := (tr.1.map (aWadd mods us), (aLose (aisMod mods) tr).2.1, (aLose (aisMod mods) tr).2.2.1, tr.2.2.2.flatMap fun q => bif aisMod mods (Sum.inr (q.1.1, q.1.2)) then aUcomb us q else [q])
def aRfnC (mods : Nat) (v : Option aV) (q : Int × Int) (S : aS) : aS := match v with
  | some (Sum.inr (Sum.inl (_, _, some (x, e)))) => bif aisMod mods x then S else aRfn aRng (some (x, e)) q S
  | _ => S
def aBad (S : aS) : Bool := (S.1.any fun v => match v with
  | (Sum.inr (Sum.inl (lo, hi, _))) => !(aile lo hi)
  | _ => false) || S.2.2.1.any fun q => !(aile q.2.2.1 q.2.2.2) && !(aIsRb q.1 q.2.1)
def aCase0 (j' na : Nat) (cs : Option aV × List (Nat × Int × Int) × aFs × aU) (S : aS) : aS := (S.1, (cs.1.map aD0).toList ++ (S.2.1.drop na).map (aDo (aisMod (aMod j'))), cs.2.2.1 ++ aFdel (fun c k => aisMod (aMod j') (Sum.inr (c, k))) S.2.2.1, aLoseC (aMod j') cs.2.2.2 S.2.2.2)
def aCaseR (mods : Nat) (args : List aV) (rs : List (Nat × Int × Int)) (S : aS) : aS := match rs with
  | [] => S
  | q :: r => aCaseR mods args r (aRfnC mods args[q.1]? q.2 S)
def aCase (j' na pc : Nat) (cs : Option aV × List (Nat × Int × Int) × aFs × aU) (S : aS) : List (Nat × aS) :=
  bif aBad (aCaseR (aMod j') (S.2.1.take na).reverse cs.2.1 (aCase0 j' na cs S)) then [] else [(pc + 3, aCaseR (aMod j') (S.2.1.take na).reverse cs.2.1 (aCase0 j' na cs S))]
def aSubm (m m' : Nat) : Bool := Nat.beq (Nat.land m m') m
def aCall (j jm na pc : Nat) (S : aS) : Option (List (Nat × aS)) :=
  aIf (Nat.ble na S.2.1.length && Nat.ble (aSumC (S.2.1.drop na)) 8 && Nat.ble (aSumC (S.2.1.take na)) (xml jm) && S.2.1.all aKnown)
    (match (aCals j).find? fun k => Nat.beq (aJ k) jm && aLes (S.2.1.take na).reverse (aIns k) && (aPre k).all (aHolds S.2.2.1) with
      | some j' => aIf (Nat.blt j' j && Nat.blt (aDep j') (aDep j) && aSubm (aMod j') (aMod j)) (some ((aOut j').flatMap fun cs => aCase j' na pc cs S))
      | none => none)
def aTxt (k : Nat) : Bool := Nat.ble 2 k && Nat.blt k 9
def aTlen (ks : List Nat) : Int × Int := aHull (fun k => ((xslen (k - 2) : Nat), (xslen (k - 2) : Nat))) ks
def aIntF (cs : List Nat) (b : Nat) (fs : aFs) : aV := match cs with
  | [c] => (Sum.inr (Sum.inl ((aFk aRng fs c b).1, (aFk aRng fs c b).2, some ((Sum.inr (c, b)), 0))))
  | _ => (Sum.inr (Sum.inl ((aHull (fun c => aRng c b) cs).1, (aHull (fun c => aRng c b) cs).2, none)))
def aRefF (cs : List Nat) (b : Nat) (fs : aFs) : aV := match cs with
  | [c] => (match aFkR fs c b with
    | some d => (Sum.inr (Sum.inr (Sum.inr (Sum.inl ([d.toNat])))))
    | none => (Sum.inr (Sum.inr (Sum.inr (Sum.inl (aRef c b))))))
  | _ => (Sum.inr (Sum.inr (Sum.inr (Sum.inl (cs.flatMap fun c => aRef c b)))))
def aFput (cs : List Nat) (b : Nat) (ds : List Nat) (fs : aFs) : aFs := match cs with
  | [c] => (match ds with
    | [d] => (c, b, (d : Int), (d : Int)) :: aFdel (fun c' k' => aisPl cs b (Sum.inr (c', k'))) fs
    | _ => aFdel (fun c' k' => aisPl cs b (Sum.inr (c', k'))) fs)
  | _ => aFdel (fun c' k' => aisPl cs b (Sum.inr (c', k'))) fs
def aS_getfield (j ln ja jb : Nat) (pc : Nat) (S : aS) : Option (List (Nat × aS)) := match S.2.1 with
    | (Sum.inr (Sum.inr (Sum.inr (Sum.inl (cs))))) :: r => aIf (Nat.beq ln 3 && cs.all fun c => aObj c ja) (match xty ja jb with
      | .long => aGo (pc + 3) (S.1, aLful :: r, S.2.2)
      | .object _ => aGo (pc + 3) (S.1, aRefF cs jb S.2.2.1 :: r, S.2.2)
      | .array _ => aGo (pc + 3) (S.1, aRefF cs jb S.2.2.1 :: r, S.2.2)
      | .int => aGo (pc + 3) (S.1, aIntF cs jb S.2.2.1 :: r, S.2.2)
      | .boolean => aGo (pc + 3) (S.1, aIntF cs jb S.2.2.1 :: r, S.2.2)
      | _ => none)
    | _ => none
def aS_putfield (j ln ja jb : Nat) (pc : Nat) (S : aS) : Option (List (Nat × aS)) := match S.2.1 with
    | v :: (Sum.inr (Sum.inr (Sum.inr (Sum.inl (cs))))) :: r => aIf (Nat.beq ln 3 && cs.all fun c => aObj c ja && Nat.testBit (aMod j) (aPid c jb)) (match xty ja jb with
      | .long => match v with
        | (Sum.inr (Sum.inr (Sum.inl (_, _)))) => aGo (pc + 3) (S.1, r, S.2.2)
        | _ => none
      | .object _ => match v with
        | (Sum.inr (Sum.inr (Sum.inr (Sum.inl (ds))))) => aIf (cs.all fun c => ds.all fun d => amem d (aRef c jb)) (aGo (pc + 3) (S.1, r, aFput cs jb ds S.2.2.1, S.2.2.2))
        | _ => none
      | .array _ => match v with
        | (Sum.inr (Sum.inr (Sum.inr (Sum.inl (ds))))) => aIf (cs.all fun c => ds.all fun d => amem d (aRef c jb)) (aGo (pc + 3) (S.1, r, aFput cs jb ds S.2.2.1, S.2.2.2))
        | _ => none
      | .int => match v with
        | (Sum.inr (Sum.inl (lo, hi, o))) => aPutF j cs jb lo hi (Sum.inr (Sum.inl (lo, hi, o))) (pc + 3) S.1 r S.2.2.1 S.2.2.2
        | _ => none
      | .boolean => match v with
        | (Sum.inr (Sum.inl (lo, hi, o))) => aIf (aile 0 lo && aile hi 1) (aPutF j cs jb lo hi (Sum.inr (Sum.inl (lo, hi, o))) (pc + 3) S.1 r S.2.2.1 S.2.2.2)
        | _ => none
      | _ => none)
    | _ => none
def aLenOf (c : Nat) : Nat := match xsh c with
  | some (.inr (_, n)) => n
  | _ => 0
def aS_arraylength (j ln ja jb : Nat) (pc : Nat) (S : aS) : Option (List (Nat × aS)) := aIf (Nat.beq ln 1) (match S.2.1 with
    | (Sum.inr (Sum.inr (Sum.inr (Sum.inl (c :: cs))))) :: r => aIf ((c :: cs).all (fun e => aArr e (fun _ => true) (fun n => Nat.beq n (aLenOf c))) && Nat.blt (aLenOf c) 2147483648) (aGo (pc + 1) (S.1, aNum (aLenOf c) :: r, S.2.2))
    | (Sum.inr (Sum.inr (Sum.inr (Sum.inr ([1]))))) :: r => aGo (pc + 1) (S.1, aNum 16 :: r, S.2.2)
    | _ => none)
def aS_iaload (j ln ja jb : Nat) (pc : Nat) (S : aS) : Option (List (Nat × aS)) := aIf (Nat.beq ln 1) (match S.2.1 with
    | (Sum.inr (Sum.inl (a, b, _))) :: (Sum.inr (Sum.inr (Sum.inr (Sum.inl (cs))))) :: r => aIf (aIdx cs xisI a b) (aGo (pc + 1) (S.1, aTake cs a b S.2.2.1 :: r, S.2.2))
    | (Sum.inr (Sum.inl (a, b, _))) :: (Sum.inr (Sum.inr (Sum.inr (Sum.inr ([1]))))) :: r => aIf (aile 0 a && aile b 15) (aGo (pc + 1) (S.1, (Sum.inr (Sum.inl (0, 400, none))) :: r, S.2.2))
    | _ => none)
def aS_baload (j ln ja jb : Nat) (pc : Nat) (S : aS) : Option (List (Nat × aS)) := aIf (Nat.beq ln 1) (match S.2.1 with
    | (Sum.inr (Sum.inl (a, b, _))) :: (Sum.inr (Sum.inr (Sum.inr (Sum.inl (cs))))) :: r => aIf (aIdx cs (fun t => xisB t || xisZ t) a b) (aGo (pc + 1) (S.1, aTake cs a b S.2.2.1 :: r, S.2.2))
    | _ => none)
def aS_laload (j ln ja jb : Nat) (pc : Nat) (S : aS) : Option (List (Nat × aS)) := aIf (Nat.beq ln 1) (match S.2.1 with
    | (Sum.inr (Sum.inl (a, b, _))) :: (Sum.inr (Sum.inr (Sum.inr (Sum.inl (cs))))) :: r => aIf (aIdx cs xisJ a b) (aGo (pc + 1) (S.1, aLful :: r, S.2.2))
    | _ => none)
def aS_iastore (j ln ja jb : Nat) (pc : Nat) (S : aS) : Option (List (Nat × aS)) := aIf (Nat.beq ln 1) (match S.2.1 with
    | (Sum.inr (Sum.inl (lo, hi, o))) :: (Sum.inr (Sum.inl (a, b, _))) :: (Sum.inr (Sum.inr (Sum.inr (Sum.inl (cs))))) :: r => aIf (aIdx cs xisI a b) (aPutA j cs a b lo hi (Sum.inr (Sum.inl (lo, hi, o))) (pc + 1) S.1 r S.2.2.1 S.2.2.2)
    | _ => none)
def aS_bastore (j ln ja jb : Nat) (pc : Nat) (S : aS) : Option (List (Nat × aS)) := aIf (Nat.beq ln 1) (match S.2.1 with
    | (Sum.inr (Sum.inl (_, _, _))) :: (Sum.inr (Sum.inl (a, b, _))) :: (Sum.inr (Sum.inr (Sum.inr (Sum.inl (cs))))) :: r => bif aIdx cs xisB a b then aPutA j cs a b (-128) 127 (Sum.inl ()) (pc + 1) S.1 r S.2.2.1 S.2.2.2 else aIf (aIdx cs xisZ a b) (aPutA j cs a b 0 1 (Sum.inl ()) (pc + 1) S.1 r S.2.2.1 S.2.2.2)
    | _ => none)
def aS_lastore (j ln ja jb : Nat) (pc : Nat) (S : aS) : Option (List (Nat × aS)) := aIf (Nat.beq ln 1) (match S.2.1 with
    | (Sum.inr (Sum.inr (Sum.inl (_, _)))) :: (Sum.inr (Sum.inl (a, b, _))) :: (Sum.inr (Sum.inr (Sum.inr (Sum.inl (cs))))) :: r => aIf (aIdx cs xisJ a b && cs.all fun c => aModR j c a b) (aGo (pc + 1) (S.1, r, S.2.2))
    | _ => none)
def aS_ifCond (j ln ja jb : Nat) (c : ClassFile.Cond) (pc : Nat) (S : aS) : Option (List (Nat × aS)) := aIf (Nat.beq ln 3) (match S.2.1 with
    | (Sum.inr (Sum.inl (a, b, o))) :: r => some (aBr aRng c a b o 0 0 none ja (S.1, r, S.2.2) ++ aBr aRng (aNeg c) a b o 0 0 none (pc + 3) (S.1, r, S.2.2))
    | _ => none)
def aS_if_icmp (j ln ja jb : Nat) (c : ClassFile.Cond) (pc : Nat) (S : aS) : Option (List (Nat × aS)) := aIf (Nat.beq ln 3) (match S.2.1 with
    | (Sum.inr (Sum.inl (e, f, o'))) :: (Sum.inr (Sum.inl (a, b, o))) :: r => some (aBr aRng c a b o e f o' ja (S.1, r, S.2.2) ++ aBr aRng (aNeg c) a b o e f o' (pc + 3) (S.1, r, S.2.2))
    | _ => none)
def aS_goto (j ln ja jb : Nat) (pc : Nat) (S : aS) : Option (List (Nat × aS)) := aIf (Nat.beq ln 3) (aGo ja S)
def aS_tableswitch (j ln ja jb : Nat) (df lo hi : Int) (offs : Array Int) (pc : Nat) (S : aS) : Option (List (Nat × aS)) := match S.2.1 with
    | (Sum.inr (Sum.inl (a, b, o))) :: r => aIf (aile (hi - lo + 1) offs.size) (some ((bif aile a (lo - 1) || aile (hi + 1) b then [(((pc : Int) + df).toNat, (S.1, r, S.2.2))] else []) ++ ((List.range offs.size).flatMap fun (n : Nat) => bif aile a (lo + n) && aile (lo + n) b && aile (lo + n) hi then (match offs[n]? with
        | some t => [(((pc : Int) + t).toNat, aRfn aRng o (lo + n, lo + n) (S.1, r, S.2.2))]
        | none => []) else [])))
    | _ => none
def aS_lookupswitch (j ln ja jb : Nat) (df : Int) (ps : Array (Int × Int)) (pc : Nat) (S : aS) : Option (List (Nat × aS)) := match S.2.1 with
    | (Sum.inr (Sum.inl (_, _, _))) :: r => some ((((pc : Int) + df).toNat, (S.1, r, S.2.2)) :: ps.toList.map fun p => (((pc : Int) + p.2).toNat, (S.1, r, S.2.2)))
    | _ => none
def aS_getstatic (j ln ja jb : Nat) (pc : Nat) (S : aS) : Option (List (Nat × aS)) := aIf (Nat.beq ln 3) (aGo (pc + 3) (S.1, (Sum.inr (Sum.inr (Sum.inr (Sum.inr ([1]))))) :: S.2.1, S.2.2))
def aS_ldc (j ln ja jb : Nat) (pc : Nat) (S : aS) : Option (List (Nat × aS)) := aIf (Nat.beq ln 2) (bif Nat.beq jb 0 then aGo (pc + 2) (S.1, aNum (Int32.ofNat ja).toInt :: S.2.1, S.2.2) else aGo (pc + 2) (S.1, (Sum.inr (Sum.inr (Sum.inr (Sum.inr ([ja + 2]))))) :: S.2.1, S.2.2))
def aS_ldc_w (j ln ja jb : Nat) (pc : Nat) (S : aS) : Option (List (Nat × aS)) := aIf (Nat.beq ln 3 && Nat.beq jb 0) (aGo (pc + 3) (S.1, aNum (Int32.ofNat ja).toInt :: S.2.1, S.2.2))
def aS_ldc2_w (j ln ja jb : Nat) (pc : Nat) (S : aS) : Option (List (Nat × aS)) := aIf (Nat.beq ln 3) (aGo (pc + 3) (S.1, (Sum.inr (Sum.inr (Sum.inl ((Int64.ofNat ja).toInt, (Int64.ofNat ja).toInt)))) :: S.2.1, S.2.2))
def aChar (ks : List Nat) (a b : Int) : aV := match ks with
  | [k] => bif aieq a b then aNum (xsch (k - 2) a.toNat).toInt else (Sum.inr (Sum.inl (0, 255, none)))
  | _ => (Sum.inr (Sum.inl (0, 255, none)))
def aS_invokevirtual (j ln ja jb : Nat) (pc : Nat) (S : aS) : Option (List (Nat × aS)) := aIf (Nat.beq ln 3) (bif Nat.ble 900 ja then aIf (Nat.ble 4 (aDep j)) (bif Nat.beq ja 902 then (match S.2.1 with
      | (Sum.inr (Sum.inr (Sum.inr (Sum.inr (ks))))) :: r => aIf (ks.all aTxt && r.all aKnown && Nat.ble (aSumC r) 8) (aGo (pc + 3) (S.1, (Sum.inr (Sum.inl ((aTlen ks).1, (aTlen ks).2, none))) :: r, S.2.2))
      | _ => none) else bif Nat.beq ja 903 then (match S.2.1 with
      | (Sum.inr (Sum.inl (a, b, _))) :: (Sum.inr (Sum.inr (Sum.inr (Sum.inr (ks))))) :: r => aIf (ks.all (fun k => aTxt k && aile 0 a && aile (b + 1) ((xslen (k - 2) : Nat) : Int)) && r.all aKnown && Nat.ble (aSumC r) 8) (aGo (pc + 3) (S.1, aChar ks a b :: r, S.2.2))
      | _ => none) else none) else (match S.2.1[xnarg ja]? with
      | some (Sum.inr (Sum.inr (Sum.inr (Sum.inl (cs))))) => aIf (cs.all fun c => aObj c (xmcl ja)) (aCall j ja (xnarg ja + 1) pc S)
      | _ => none))
def aCpyOk (cs : List Nat) (ok : FieldType → Bool) (a b m : Int) : Bool := cs.all fun c => aArr c ok fun n => aile 0 a && aile (b + m) (n : Int)
/-- arraycopy: of rows of ints or of longs -/
def aS_copy (j : Nat) (pc : Nat) (S : aS) : Option (List (Nat × aS)) := match S.2.1 with
    | (Sum.inr (Sum.inl (n0, n1, _))) :: (Sum.inr (Sum.inl (d0, d1, _))) :: (Sum.inr (Sum.inr (Sum.inr (Sum.inl (bs))))) :: (Sum.inr (Sum.inl (s0, s1, _))) :: (Sum.inr (Sum.inr (Sum.inr (Sum.inl (as))))) :: r => aIf (r.all aKnown && Nat.ble (aSumC r) 8 && aile 0 n0 && bs.all (fun c => !(aFine c) && Nat.testBit (aMod j) (aPid c 0)) && as.all (fun a => bs.all fun b => aSub2 (aAll a).1 (aAll a).2 (aAll b)))
      (bif aCpyOk as xisI s0 s1 n1 && aCpyOk bs xisI d0 d1 n1 || aCpyOk as xisJ s0 s1 n1 && aCpyOk bs xisJ d0 d1 n1 then aGo (pc + 3) (S.1, r.map (aDo (aisRow bs)), aFdel (fun c' k' => aisRow bs (Sum.inr (c', k'))) S.2.2.1, aLose (aisRow bs) S.2.2.2) else none)
    | _ => none
def aS_invokestatic (j ln ja jb : Nat) (pc : Nat) (S : aS) : Option (List (Nat × aS)) := aIf (Nat.beq ln 3) (bif Nat.ble 900 ja then aIf (Nat.ble 1 (aDep j)) (bif Nat.beq ja 904 || Nat.beq ja 905 then (match S.2.1 with
      | (Sum.inr (Sum.inl (c, d, _))) :: (Sum.inr (Sum.inl (a, b, _))) :: r => aIf (r.all aKnown && Nat.ble (aSumC r) 8) (aGo (pc + 3) (S.1, (bif Nat.beq ja 904 then (Sum.inr (Sum.inl (amax a c, amax b d, none))) else (Sum.inr (Sum.inl (amin a c, amin b d, none)))) :: r, S.2.2))
      | _ => none) else bif Nat.beq ja 901 then aS_copy j pc S else none) else aCall j ja (xnarg ja) pc S)
/-- a return with the value a (or none) fits a case -/
def aFits (a : Option aV) (S : aS) (cs : Option aV × List (Nat × Int × Int) × aFs × aU) : Bool := (match a with
  | none => (match cs.1 with
    | none => true
    | some _ => false)
  | some v => (match cs.1 with
    | none => false
    | some u => aLe v u)) && cs.2.1.all (fun q => amem q.1 S.2.2.2.2.2.1 && (match S.1[q.1]? with
      | some (Sum.inr (Sum.inl (lo, hi, _))) => aSub2 lo hi q.2
      | _ => false)) && cs.2.2.1.all (aHolds S.2.2.1) && cs.2.2.2.all (aUle S.2.2.2.2.2.2)
def aRetOk (j : Nat) (a : Option aV) (S : aS) : Bool := (aOut j).any (aFits a S)
def aS_ireturn (j ln ja jb : Nat) (pc : Nat) (S : aS) : Option (List (Nat × aS)) := aIf (Nat.beq ln 1) (match S.2.1 with
    | [(Sum.inr (Sum.inl (lo, hi, _)))] => aIf (aRetOk j (some (Sum.inr (Sum.inl (lo, hi, none)))) S) (match xmv (aJ j) with
        | some .int => some []
        | some .boolean => aIf (aile 0 lo && aile hi 1) (some [])
        | _ => none)
    | _ => none)
def aS_lreturn (j ln ja jb : Nat) (pc : Nat) (S : aS) : Option (List (Nat × aS)) := aIf (Nat.beq ln 1) (match S.2.1 with
    | [(Sum.inr (Sum.inr (Sum.inl (lo, hi))))] => aIf (aRetOk j (some (Sum.inr (Sum.inr (Sum.inl (lo, hi))))) S) (match xmv (aJ j) with
        | some .long => some []
        | _ => none)
    | _ => none)
def aS_areturn (j ln ja jb : Nat) (pc : Nat) (S : aS) : Option (List (Nat × aS)) := aIf (Nat.beq ln 1) (match S.2.1 with
    | [(Sum.inr (Sum.inr (Sum.inr (Sum.inl (cs)))))] => aIf (aRetOk j (some (Sum.inr (Sum.inr (Sum.inr (Sum.inl (cs)))))) S) (match xmv (aJ j) with
        | some (.object _) => some []
        | _ => none)
    | _ => none)
def aS_return_ (j ln ja jb : Nat) (pc : Nat) (S : aS) : Option (List (Nat × aS)) := aIf (Nat.beq ln 1) (match S.2.1 with
    | [] => aIf (aRetOk j none S) (match xmv (aJ j) with
        | none => some []
        | _ => none)
    | _ => none)
def aStep (j : Nat) (q : xQ) (pc : Nat) (S : aS) : Option (List (Nat × aS)) := match q.1 with
  | .getfield _ => aS_getfield j q.2.1 q.2.2.1 q.2.2.2.1 pc S
  | .putfield _ => aS_putfield j q.2.1 q.2.2.1 q.2.2.2.1 pc S
  | .arraylength => aS_arraylength j q.2.1 q.2.2.1 q.2.2.2.1 pc S
  | .iaload => aS_iaload j q.2.1 q.2.2.1 q.2.2.2.1 pc S
  | .baload => aS_baload j q.2.1 q.2.2.1 q.2.2.2.1 pc S
  | .laload => aS_laload j q.2.1 q.2.2.1 q.2.2.2.1 pc S
  | .iastore => aS_iastore j q.2.1 q.2.2.1 q.2.2.2.1 pc S
  | .bastore => aS_bastore j q.2.1 q.2.2.1 q.2.2.2.1 pc S
  | .lastore => aS_lastore j q.2.1 q.2.2.1 q.2.2.2.1 pc S
  | .ifCond c _ => aS_ifCond j q.2.1 q.2.2.1 q.2.2.2.1 c pc S
  | .if_icmp c _ => aS_if_icmp j q.2.1 q.2.2.1 q.2.2.2.1 c pc S
  | .goto _ => aS_goto j q.2.1 q.2.2.1 q.2.2.2.1 pc S
  | .tableswitch df lo hi offs => aS_tableswitch j q.2.1 q.2.2.1 q.2.2.2.1 df lo hi offs pc S
  | .lookupswitch df ps => aS_lookupswitch j q.2.1 q.2.2.1 q.2.2.2.1 df ps pc S
  | .getstatic _ => aS_getstatic j q.2.1 q.2.2.1 q.2.2.2.1 pc S
  | .ldc _ => aS_ldc j q.2.1 q.2.2.1 q.2.2.2.1 pc S
  | .ldc_w _ => aS_ldc_w j q.2.1 q.2.2.1 q.2.2.2.1 pc S
  | .ldc2_w _ => aS_ldc2_w j q.2.1 q.2.2.1 q.2.2.2.1 pc S
  | .invokevirtual _ => aS_invokevirtual j q.2.1 q.2.2.1 q.2.2.2.1 pc S
  | .invokestatic _ => aS_invokestatic j q.2.1 q.2.2.1 q.2.2.2.1 pc S
  | .ireturn => aS_ireturn j q.2.1 q.2.2.1 q.2.2.2.1 pc S
  | .lreturn => aS_lreturn j q.2.1 q.2.2.1 q.2.2.2.1 pc S
  | .areturn => aS_areturn j q.2.1 q.2.2.1 q.2.2.2.1 pc S
  | .return_ => aS_return_ j q.2.1 q.2.2.1 q.2.2.2.1 pc S
  | _ => match aPur q.1 q.2.1 S.1 S.2.1 S.2.2.2 with
    | some r => aGo (pc + q.2.1) (r.1, r.2.1, S.2.2.1, r.2.2)
    | none => none
/-- a walk from one leader to the next ones -/
def aWalk (j : Nat) (R : List aC) (n : Nat) : Bool → Nat → aS → Bool := Nat.rec (fun _ _ _ => false) (fun _ ih first pc S => bif !first && (aLead j).any (fun q => Nat.beq q.1 pc) then (aLead j).any (fun q => Nat.beq q.1 pc && aIncl S q && aLt S.2.2.2 q.2.1 q.2.2.2.1 R q.2.2.2.2.1) else match xins (aJ j) pc with
      | none => false
      | some q => match aStep j q pc S with
        | none => false
        | some l => l.all fun s => ih false s.1 s.2) n
def aTr0 (R : List aC) : aW := R.flatMap fun c => match c with
  | (Sum.inl (_)) => []
  | (Sum.inr (Sum.inl (x, _))) => [(x, some (0, true))]
  | (Sum.inr (Sum.inr (x, _))) => [(x, some (0, true))]
def aLst (q : aLq) : aS := (q.2.1, q.2.2.1, q.2.2.2.1, (aTr0 q.2.2.2.2.1, q.2.2.2.2.2.1, q.2.2.2.2.2.2.1, q.2.2.2.2.2.2.2))
def aEnt (as : List aV) (n : Nat) : List aV := (as.flatMap fun v => bif Nat.beq (aCat v) 2 then [v, (Sum.inl ())] else [v]) ++ List.replicate (n - (as.flatMap fun v => bif Nat.beq (aCat v) 2 then [v, (Sum.inl ())] else [v]).length) (Sum.inl ())
def aCut (hi : Int) (o : Option (aK × Int)) (ts : List Int) : Int → List aV := match ts with
  | [] => fun lo => [(Sum.inr (Sum.inl (lo, hi, o)))]
  | t :: r => fun lo => (Sum.inr (Sum.inl (lo, t - 1, o))) :: aCut hi o r t
def aPc1 (ts : List Int) (v : aV) : List aV := match v with
  | (Sum.inr (Sum.inr (Sum.inr (Sum.inl (cs))))) => cs.map fun c => (Sum.inr (Sum.inr (Sum.inr (Sum.inl ([c])))))
  | (Sum.inr (Sum.inl (lo, hi, o))) => aCut hi o ts lo
  | v => [v]
/-- the arguments, cut at one of them -/
def aPcs (i : Nat) (ts : List Int) (as : List aV) : List (List aV) := match as with
  | [] => [[]]
  | v :: r => match i with
    | 0 => (aPc1 ts v).map fun u => u :: r
    | i + 1 => (aPcs i ts r).map fun s => v :: s
def aCuts (ds : List (Nat × List Int)) (as : List aV) : List (List aV) := match ds with
  | [] => [as]
  | d :: r => (aPcs d.1 d.2 as).flatMap fun s => aCuts r s
/-- at the start: arguments of one word each are as they are -/
def aPro0 (as : List aV) : List Nat := bif as.all a1 then List.range as.length else []
def aSt0 (j : Nat) (as : List aV) : aS := (aEnt as (xml (aJ j)), [], aPre j, ([], [], aPro0 as, (aWat j).map fun q => (q, 0, true)))
/-- what a rank speaks of is an int -/
def aRkK (lv : List aV) (x : aK) : Bool := match x with
  | (Sum.inl (i)) => match lv[i]? with
    | some (Sum.inr (Sum.inl (_, _, _))) => true
    | _ => false
  | (Sum.inr (_, _)) => true
def aRkOk (lv : List aV) (c : aC) : Bool := match c with
  | (Sum.inl (_)) => true
  | (Sum.inr (Sum.inl (x, _))) => aRkK lv x
  | (Sum.inr (Sum.inr (x, _))) => aRkK lv x
def aFuel : Nat := 100000
def aCheck (j : Nat) : Bool := (aIns j).all aKnown && ((aOut j).all fun cs => cs.2.1.isEmpty || (aIns j).all a1) && (aCuts (aSpl j) (aIns j)).all (fun as => as.all aKnown && Nat.ble (aSumC as) (xml (aJ j)) && aWalk j [(Sum.inl (999999999))] aFuel false 0 (aSt0 j as)) && (aLead j).all fun q => Nat.ble q.2.2.2.2.1.length 30 && q.2.2.2.2.1.all (aRkOk q.2.1) && aWalk j q.2.2.2.2.1 aFuel true q.1 (aLst q)
