/-! the checker's step, whole -/
def aLe (a b : aV) : Bool := match b with
  | (Sum.inl ()) => true
  | (Sum.inr (Sum.inl (lo, hi, o))) => match a with
    | (Sum.inr (Sum.inl (lo', hi', o'))) => aile lo lo' && aile hi' hi && (match o with
      | none => true
      | some (x, e) => match o' with
        | none => false
        | some (x', e') => aKeq x x' && aieq e e')
    | _ => false
  | (Sum.inr (Sum.inr (Sum.inl (lo, hi)))) => match a with
    | (Sum.inr (Sum.inr (Sum.inl (lo', hi')))) => aile lo lo' && aile hi' hi
    | _ => false
  | (Sum.inr (Sum.inr (Sum.inr (Sum.inl (cs))))) => match a with
    | (Sum.inr (Sum.inr (Sum.inr (Sum.inl (ds))))) => ds.all fun d => amem d cs
    | _ => false
  | (Sum.inr (Sum.inr (Sum.inr (Sum.inr (ks))))) => match a with
    | (Sum.inr (Sum.inr (Sum.inr (Sum.inr (ls))))) => ls.all fun d => amem d ks
    | _ => false
def aLes (as bs : List aV) : Bool := match as with
  | [] => match bs with
    | [] => true
    | _ => false
  | a :: r => match bs with
    | [] => false
    | b :: s => aLe a b && aLes r s
/-- the state S holds what the leader asks -/
def aIncl (S : aS) (lv st : List aV) (fs : aFs) : Bool := aLes S.1 lv && aLes S.2.1 st && fs.all fun q => aSub2 (aFk aRng S.2.2.1 q.1 q.2.1).1 (aFk aRng S.2.2.1 q.1 q.2.1).2 q.2.2
def aLookT (tr : aTr) (x : aK) : Option Int := match tr.find? fun q => aKeq q.1 x with
  | some q => q.2
  | none => none
/-- the bounds of a watched thing in a state -/
def aBnd (lv : List aV) (fs : aFs) (x : aK) : Int × Int := match x with
  | (Sum.inl (i)) => match lv[i]? with
    | some (Sum.inr (Sum.inl (lo, hi, _))) => (lo, hi)
    | _ => (aMin, aMax)
  | (Sum.inr (c, k)) => aFk aRng fs c k
def aLt (tr : aTr) (lv : List aV) (fs : aFs) (R R' : List aC) : Bool := match R with
  | [] => false
  | (Sum.inl (a)) :: r => match R' with
    | (Sum.inl (b)) :: r' => Nat.blt b a || (Nat.beq b a && aLt tr lv fs r r')
    | _ => false
  | (Sum.inr (Sum.inl (x, b))) :: r => match R' with
    | (Sum.inr (Sum.inl (x', b'))) :: r' => aKeq x x' && aieq b b' && (match aLookT tr x with
      | some e => (aile 1 e && aile (aBnd lv fs x).2 b) || (aieq e 0 && aLt tr lv fs r r')
      | none => false)
    | _ => false
  | (Sum.inr (Sum.inr (x, b))) :: r => match R' with
    | (Sum.inr (Sum.inr (x', b'))) :: r' => aKeq x x' && aieq b b' && (match aLookT tr x with
      | some e => (aile e (-1) && aile b (aBnd lv fs x).1) || (aieq e 0 && aLt tr lv fs r r')
      | none => false)
    | _ => false
def aGo (pc : Nat) (S : aS) : Option (List (Nat × aS)) := some [(pc, S)]
def aIf (b : Bool) (r : Option (List (Nat × aS))) : Option (List (Nat × aS)) := bif b then r else none
def aSumC (st : List aV) : Nat := (st.map aCat).sum
/-- the index lies in the row, whatever cell of cs it is -/
def aIdx (cs : List Nat) (ok : FieldType → Bool) (a b : Int) : Bool := cs.all fun c => aArr c ok fun n => aile 0 a && aile (b + 1) (n : Int)
def aTake (cs : List Nat) (a b : Int) (fs : aFs) : aV := match cs with
  | [c] => bif aieq a b then (Sum.inr (Sum.inl ((aFk aRng fs c a.toNat).1, (aFk aRng fs c a.toNat).2, some ((Sum.inr (c, a.toNat)), 0)))) else (Sum.inr (Sum.inl ((aAll c).1, (aAll c).2, none)))
  | _ => (Sum.inr (Sum.inl ((aHull aAll cs).1, (aHull aAll cs).2, none)))
/-- a store of an int between lo and hi into the row -/
def aPutA (j : Nat) (cs : List Nat) (a b lo hi : Int) (v : aV) (pc : Nat) (lv r : List aV) (fs : aFs) (tr : aTr) : Option (List (Nat × aS)) :=
  aIf (cs.all fun c => amem (aPid c 0) (aMod j) && (bif aieq a b then aSub2 lo hi (aRng c a.toNat) else !(aFine c) && aSub2 lo hi (aAll c)))
    (bif aieq a b then (match cs with
      | [c] => aGo pc (lv, r.map (aDo (aisPl [c] a.toNat)), (c, a.toNat, lo, hi) :: aFdel (fun c' k' => aisPl [c] a.toNat (Sum.inr (c', k'))) fs, aGrow (Sum.inr (c, a.toNat)) v tr)
      | _ => aGo pc (lv, r.map (aDo (aisRow cs)), aFdel (fun c' k' => aisRow cs (Sum.inr (c', k'))) fs, aLose (aisRow cs) tr))
    else aGo pc (lv, r.map (aDo (aisRow cs)), aFdel (fun c' k' => aisRow cs (Sum.inr (c', k'))) fs, aLose (aisRow cs) tr))
def aPutF (j : Nat) (cs : List Nat) (k : Nat) (lo hi : Int) (v : aV) (pc : Nat) (lv r : List aV) (fs : aFs) (tr : aTr) : Option (List (Nat × aS)) :=
  aIf (cs.all fun c => aSub2 lo hi (aRng c k))
    (match cs with
      | [c] => aGo pc (lv, r.map (aDo (aisPl [c] k)), (c, k, lo, hi) :: aFdel (fun c' k' => aisPl [c] k (Sum.inr (c', k'))) fs, aGrow (Sum.inr (c, k)) v tr)
      | _ => aGo pc (lv, r.map (aDo (aisPl cs k)), aFdel (fun c' k' => aisPl cs k (Sum.inr (c', k'))) fs, aLose (aisPl cs k) tr))
/-- what a call may change -/
def aisMod (mods : List Nat) (x : aK) : Bool := match x with
  | (Sum.inl (_)) => false
  | (Sum.inr (c, k)) => match xsh c with
    | some (.inl _) => amem (aPid c k) mods
    | _ => amem (aPid c 0) mods
def aCall (kn : List Nat) (j j' na pc : Nat) (S : aS) : Option (List (Nat × aS)) :=
  aIf (amem j' kn && Nat.ble na S.2.1.length && Nat.ble (aSumC (S.2.1.drop na)) 8 && Nat.ble (aSumC (S.2.1.take na)) (xml j') && S.2.1.all aKnown && aLes (S.2.1.take na).reverse (aIns j') && Nat.blt (aDep j') (aDep j) && (aMod j').all fun q => amem q (aMod j))
    (aGo (pc + 3) (S.1, ((aOut j').map aD0).toList ++ (S.2.1.drop na).map (aDo (aisMod (aMod j'))), aFdel (fun c k => aisMod (aMod j') (Sum.inr (c, k))) S.2.2.1, aLose (aisMod (aMod j')) S.2.2.2))
def aTxt (k : Nat) : Bool := Nat.ble 2 k && Nat.blt k 9
def aTlen (ks : List Nat) : Int × Int := aHull (fun k => ((xslen (k - 2) : Nat), (xslen (k - 2) : Nat))) ks
def aIntF (cs : List Nat) (b : Nat) (fs : aFs) : aV := match cs with
  | [c] => (Sum.inr (Sum.inl ((aFk aRng fs c b).1, (aFk aRng fs c b).2, some ((Sum.inr (c, b)), 0))))
  | _ => (Sum.inr (Sum.inl ((aHull (fun c => aRng c b) cs).1, (aHull (fun c => aRng c b) cs).2, none)))
def aS_getfield (kn : List Nat) (j ln ja jb : Nat) (pc : Nat) (S : aS) : Option (List (Nat × aS)) := match S.2.1 with
    | (Sum.inr (Sum.inr (Sum.inr (Sum.inl (cs))))) :: r => aIf (Nat.beq ln 3 && cs.all fun c => aObj c ja) (match xty ja jb with
      | .long => aGo (pc + 3) (S.1, aLful :: r, S.2.2)
      | .object _ => aGo (pc + 3) (S.1, (Sum.inr (Sum.inr (Sum.inr (Sum.inl (cs.flatMap fun c => aRef c jb))))) :: r, S.2.2)
      | .array _ => aGo (pc + 3) (S.1, (Sum.inr (Sum.inr (Sum.inr (Sum.inl (cs.flatMap fun c => aRef c jb))))) :: r, S.2.2)
      | .int => aGo (pc + 3) (S.1, aIntF cs jb S.2.2.1 :: r, S.2.2)
      | .boolean => aGo (pc + 3) (S.1, aIntF cs jb S.2.2.1 :: r, S.2.2)
      | _ => none)
    | _ => none
def aS_putfield (kn : List Nat) (j ln ja jb : Nat) (pc : Nat) (S : aS) : Option (List (Nat × aS)) := match S.2.1 with
    | v :: (Sum.inr (Sum.inr (Sum.inr (Sum.inl (cs))))) :: r => aIf (Nat.beq ln 3 && cs.all fun c => aObj c ja && amem (aPid c jb) (aMod j)) (match xty ja jb with
      | .long => match v with
        | (Sum.inr (Sum.inr (Sum.inl (_, _)))) => aGo (pc + 3) (S.1, r, S.2.2)
        | _ => none
      | .object _ => match v with
        | (Sum.inr (Sum.inr (Sum.inr (Sum.inl (ds))))) => aIf (cs.all fun c => ds.all fun d => amem d (aRef c jb)) (aGo (pc + 3) (S.1, r, S.2.2))
        | _ => none
      | .array _ => match v with
        | (Sum.inr (Sum.inr (Sum.inr (Sum.inl (ds))))) => aIf (cs.all fun c => ds.all fun d => amem d (aRef c jb)) (aGo (pc + 3) (S.1, r, S.2.2))
        | _ => none
      | .int => match v with
        | (Sum.inr (Sum.inl (lo, hi, o))) => aPutF j cs jb lo hi (Sum.inr (Sum.inl (lo, hi, o))) (pc + 3) S.1 r S.2.2.1 S.2.2.2
        | _ => none
      | .boolean => match v with
        | (Sum.inr (Sum.inl (lo, hi, o))) => aIf (aile 0 lo && aile hi 1) (aPutF j cs jb lo hi (Sum.inr (Sum.inl (lo, hi, o))) (pc + 3) S.1 r S.2.2.1 S.2.2.2)
        | _ => none
      | _ => none)
    | _ => none
def aS_arraylength (kn : List Nat) (j ln ja jb : Nat) (pc : Nat) (S : aS) : Option (List (Nat × aS)) := aIf (Nat.beq ln 1) (match S.2.1 with
    | (Sum.inr (Sum.inr (Sum.inr (Sum.inl ([c]))))) :: r => match xsh c with
      | some (.inr (_, n)) => aIf (Nat.blt c 124 && Nat.blt n 2147483648) (aGo (pc + 1) (S.1, aNum n :: r, S.2.2))
      | _ => none
    | (Sum.inr (Sum.inr (Sum.inr (Sum.inr ([1]))))) :: r => aGo (pc + 1) (S.1, aNum 16 :: r, S.2.2)
    | _ => none)
def aS_iaload (kn : List Nat) (j ln ja jb : Nat) (pc : Nat) (S : aS) : Option (List (Nat × aS)) := aIf (Nat.beq ln 1) (match S.2.1 with
    | (Sum.inr (Sum.inl (a, b, _))) :: (Sum.inr (Sum.inr (Sum.inr (Sum.inl (cs))))) :: r => aIf (aIdx cs xisI a b) (aGo (pc + 1) (S.1, aTake cs a b S.2.2.1 :: r, S.2.2))
    | (Sum.inr (Sum.inl (a, b, _))) :: (Sum.inr (Sum.inr (Sum.inr (Sum.inr ([1]))))) :: r => aIf (aile 0 a && aile b 15) (aGo (pc + 1) (S.1, (Sum.inr (Sum.inl (0, 400, none))) :: r, S.2.2))
    | _ => none)
def aS_baload (kn : List Nat) (j ln ja jb : Nat) (pc : Nat) (S : aS) : Option (List (Nat × aS)) := aIf (Nat.beq ln 1) (match S.2.1 with
    | (Sum.inr (Sum.inl (a, b, _))) :: (Sum.inr (Sum.inr (Sum.inr (Sum.inl (cs))))) :: r => aIf (aIdx cs (fun t => xisB t || xisZ t) a b) (aGo (pc + 1) (S.1, aTake cs a b S.2.2.1 :: r, S.2.2))
    | _ => none)
def aS_laload (kn : List Nat) (j ln ja jb : Nat) (pc : Nat) (S : aS) : Option (List (Nat × aS)) := aIf (Nat.beq ln 1) (match S.2.1 with
    | (Sum.inr (Sum.inl (a, b, _))) :: (Sum.inr (Sum.inr (Sum.inr (Sum.inl (cs))))) :: r => aIf (aIdx cs xisJ a b) (aGo (pc + 1) (S.1, aLful :: r, S.2.2))
    | _ => none)
def aS_iastore (kn : List Nat) (j ln ja jb : Nat) (pc : Nat) (S : aS) : Option (List (Nat × aS)) := aIf (Nat.beq ln 1) (match S.2.1 with
    | (Sum.inr (Sum.inl (lo, hi, o))) :: (Sum.inr (Sum.inl (a, b, _))) :: (Sum.inr (Sum.inr (Sum.inr (Sum.inl (cs))))) :: r => aIf (aIdx cs xisI a b) (aPutA j cs a b lo hi (Sum.inr (Sum.inl (lo, hi, o))) (pc + 1) S.1 r S.2.2.1 S.2.2.2)
    | _ => none)
def aS_bastore (kn : List Nat) (j ln ja jb : Nat) (pc : Nat) (S : aS) : Option (List (Nat × aS)) := aIf (Nat.beq ln 1) (match S.2.1 with
    | (Sum.inr (Sum.inl (_, _, _))) :: (Sum.inr (Sum.inl (a, b, _))) :: (Sum.inr (Sum.inr (Sum.inr (Sum.inl (cs))))) :: r => bif aIdx cs xisB a b then aPutA j cs a b (-128) 127 (Sum.inl ()) (pc + 1) S.1 r S.2.2.1 S.2.2.2 else aIf (aIdx cs xisZ a b) (aPutA j cs a b 0 1 (Sum.inl ()) (pc + 1) S.1 r S.2.2.1 S.2.2.2)
    | _ => none)
def aS_lastore (kn : List Nat) (j ln ja jb : Nat) (pc : Nat) (S : aS) : Option (List (Nat × aS)) := aIf (Nat.beq ln 1) (match S.2.1 with
    | (Sum.inr (Sum.inr (Sum.inl (_, _)))) :: (Sum.inr (Sum.inl (a, b, _))) :: (Sum.inr (Sum.inr (Sum.inr (Sum.inl (cs))))) :: r => aIf (aIdx cs xisJ a b && cs.all fun c => amem (aPid c 0) (aMod j)) (aGo (pc + 1) (S.1, r, S.2.2))
    | _ => none)
def aS_ifCond (kn : List Nat) (j ln ja jb : Nat) (c : ClassFile.Cond) (pc : Nat) (S : aS) : Option (List (Nat × aS)) := aIf (Nat.beq ln 3) (match S.2.1 with
    | (Sum.inr (Sum.inl (a, b, o))) :: r => some (aBr aRng c a b o 0 0 none ja (S.1, r, S.2.2) ++ aBr aRng (aNeg c) a b o 0 0 none (pc + 3) (S.1, r, S.2.2))
    | _ => none)
def aS_if_icmp (kn : List Nat) (j ln ja jb : Nat) (c : ClassFile.Cond) (pc : Nat) (S : aS) : Option (List (Nat × aS)) := aIf (Nat.beq ln 3) (match S.2.1 with
    | (Sum.inr (Sum.inl (e, f, o'))) :: (Sum.inr (Sum.inl (a, b, o))) :: r => some (aBr aRng c a b o e f o' ja (S.1, r, S.2.2) ++ aBr aRng (aNeg c) a b o e f o' (pc + 3) (S.1, r, S.2.2))
    | _ => none)
def aS_goto (kn : List Nat) (j ln ja jb : Nat) (pc : Nat) (S : aS) : Option (List (Nat × aS)) := aIf (Nat.beq ln 3) (aGo ja S)
def aS_tableswitch (kn : List Nat) (j ln ja jb : Nat) (df lo hi : Int) (offs : Array Int) (pc : Nat) (S : aS) : Option (List (Nat × aS)) := match S.2.1 with
    | (Sum.inr (Sum.inl (a, b, o))) :: r => aIf (aile (hi - lo + 1) offs.size) (some ((bif aile a (lo - 1) || aile (hi + 1) b then [(((pc : Int) + df).toNat, (S.1, r, S.2.2))] else []) ++ ((List.range offs.size).flatMap fun (n : Nat) => bif aile a (lo + n) && aile (lo + n) b && aile (lo + n) hi then (match offs[n]? with
        | some t => [(((pc : Int) + t).toNat, aRfn aRng o (lo + n, lo + n) (S.1, r, S.2.2))]
        | none => []) else [])))
    | _ => none
def aS_lookupswitch (kn : List Nat) (j ln ja jb : Nat) (df : Int) (ps : Array (Int × Int)) (pc : Nat) (S : aS) : Option (List (Nat × aS)) := match S.2.1 with
    | (Sum.inr (Sum.inl (_, _, _))) :: r => some ((((pc : Int) + df).toNat, (S.1, r, S.2.2)) :: ps.toList.map fun p => (((pc : Int) + p.2).toNat, (S.1, r, S.2.2)))
    | _ => none
def aS_getstatic (kn : List Nat) (j ln ja jb : Nat) (pc : Nat) (S : aS) : Option (List (Nat × aS)) := aIf (Nat.beq ln 3) (aGo (pc + 3) (S.1, (Sum.inr (Sum.inr (Sum.inr (Sum.inr ([1]))))) :: S.2.1, S.2.2))
def aS_ldc (kn : List Nat) (j ln ja jb : Nat) (pc : Nat) (S : aS) : Option (List (Nat × aS)) := aIf (Nat.beq ln 2) (bif Nat.beq jb 0 then aGo (pc + 2) (S.1, aNum (Int32.ofNat ja).toInt :: S.2.1, S.2.2) else aGo (pc + 2) (S.1, (Sum.inr (Sum.inr (Sum.inr (Sum.inr ([ja + 2]))))) :: S.2.1, S.2.2))
def aS_ldc_w (kn : List Nat) (j ln ja jb : Nat) (pc : Nat) (S : aS) : Option (List (Nat × aS)) := aIf (Nat.beq ln 3 && Nat.beq jb 0) (aGo (pc + 3) (S.1, aNum (Int32.ofNat ja).toInt :: S.2.1, S.2.2))
def aS_ldc2_w (kn : List Nat) (j ln ja jb : Nat) (pc : Nat) (S : aS) : Option (List (Nat × aS)) := aIf (Nat.beq ln 3) (aGo (pc + 3) (S.1, (Sum.inr (Sum.inr (Sum.inl ((Int64.ofNat ja).toInt, (Int64.ofNat ja).toInt)))) :: S.2.1, S.2.2))
def aS_invokevirtual (kn : List Nat) (j ln ja jb : Nat) (pc : Nat) (S : aS) : Option (List (Nat × aS)) := aIf (Nat.beq ln 3) (bif Nat.ble 900 ja then aIf (Nat.ble 4 (aDep j)) (bif Nat.beq ja 902 then (match S.2.1 with
      | (Sum.inr (Sum.inr (Sum.inr (Sum.inr (ks))))) :: r => aIf (ks.all aTxt && r.all aKnown && Nat.ble (aSumC r) 8) (aGo (pc + 3) (S.1, (Sum.inr (Sum.inl ((aTlen ks).1, (aTlen ks).2, none))) :: r, S.2.2))
      | _ => none) else bif Nat.beq ja 903 then (match S.2.1 with
      | (Sum.inr (Sum.inl (a, b, _))) :: (Sum.inr (Sum.inr (Sum.inr (Sum.inr (ks))))) :: r => aIf (ks.all (fun k => aTxt k && aile 0 a && aile (b + 1) ((xslen (k - 2) : Nat) : Int)) && r.all aKnown && Nat.ble (aSumC r) 8) (aGo (pc + 3) (S.1, (Sum.inr (Sum.inl (0, 255, none))) :: r, S.2.2))
      | _ => none) else none) else (match S.2.1[xnarg ja]? with
      | some (Sum.inr (Sum.inr (Sum.inr (Sum.inl (cs))))) => aIf (cs.all fun c => aObj c (xmcl ja)) (aCall kn j ja (xnarg ja + 1) pc S)
      | _ => none))
def aS_invokestatic (kn : List Nat) (j ln ja jb : Nat) (pc : Nat) (S : aS) : Option (List (Nat × aS)) := aIf (Nat.beq ln 3) (bif Nat.ble 900 ja then aIf (Nat.ble 1 (aDep j)) (bif Nat.beq ja 904 || Nat.beq ja 905 then (match S.2.1 with
      | (Sum.inr (Sum.inl (c, d, _))) :: (Sum.inr (Sum.inl (a, b, _))) :: r => aIf (r.all aKnown && Nat.ble (aSumC r) 8) (aGo (pc + 3) (S.1, (bif Nat.beq ja 904 then (Sum.inr (Sum.inl (amax a c, amax b d, none))) else (Sum.inr (Sum.inl (amin a c, amin b d, none)))) :: r, S.2.2))
      | _ => none) else none) else aCall kn j ja (xnarg ja) pc S)
def aS_ireturn (kn : List Nat) (j ln ja jb : Nat) (pc : Nat) (S : aS) : Option (List (Nat × aS)) := aIf (Nat.beq ln 1) (match S.2.1 with
    | [(Sum.inr (Sum.inl (lo, hi, _)))] => match aOut j with
      | some w => aIf (aLe (Sum.inr (Sum.inl (lo, hi, none))) w) (match xmv j with
        | some .int => some []
        | some .boolean => aIf (aile 0 lo && aile hi 1) (some [])
        | _ => none)
      | none => none
    | _ => none)
def aS_lreturn (kn : List Nat) (j ln ja jb : Nat) (pc : Nat) (S : aS) : Option (List (Nat × aS)) := aIf (Nat.beq ln 1) (match S.2.1 with
    | [(Sum.inr (Sum.inr (Sum.inl (lo, hi))))] => match aOut j with
      | some w => aIf (aLe (Sum.inr (Sum.inr (Sum.inl (lo, hi)))) w) (match xmv j with
        | some .long => some []
        | _ => none)
      | none => none
    | _ => none)
def aS_areturn (kn : List Nat) (j ln ja jb : Nat) (pc : Nat) (S : aS) : Option (List (Nat × aS)) := aIf (Nat.beq ln 1) (match S.2.1 with
    | [(Sum.inr (Sum.inr (Sum.inr (Sum.inl (cs)))))] => match aOut j with
      | some w => aIf (aLe (Sum.inr (Sum.inr (Sum.inr (Sum.inl (cs))))) w) (match xmv j with
        | some (.object _) => some []
        | _ => none)
      | none => none
    | _ => none)
def aS_return_ (kn : List Nat) (j ln ja jb : Nat) (pc : Nat) (S : aS) : Option (List (Nat × aS)) := aIf (Nat.beq ln 1) (match S.2.1 with
    | [] => match aOut j with
      | some _ => none
      | none => match xmv j with
        | none => some []
        | _ => none
    | _ => none)
def aStep (kn : List Nat) (j : Nat) (q : xQ) (pc : Nat) (S : aS) : Option (List (Nat × aS)) := match q.1 with
  | .getfield _ => aS_getfield kn j q.2.1 q.2.2.1 q.2.2.2.1 pc S
  | .putfield _ => aS_putfield kn j q.2.1 q.2.2.1 q.2.2.2.1 pc S
  | .arraylength => aS_arraylength kn j q.2.1 q.2.2.1 q.2.2.2.1 pc S
  | .iaload => aS_iaload kn j q.2.1 q.2.2.1 q.2.2.2.1 pc S
  | .baload => aS_baload kn j q.2.1 q.2.2.1 q.2.2.2.1 pc S
  | .laload => aS_laload kn j q.2.1 q.2.2.1 q.2.2.2.1 pc S
  | .iastore => aS_iastore kn j q.2.1 q.2.2.1 q.2.2.2.1 pc S
  | .bastore => aS_bastore kn j q.2.1 q.2.2.1 q.2.2.2.1 pc S
  | .lastore => aS_lastore kn j q.2.1 q.2.2.1 q.2.2.2.1 pc S
  | .ifCond c _ => aS_ifCond kn j q.2.1 q.2.2.1 q.2.2.2.1 c pc S
  | .if_icmp c _ => aS_if_icmp kn j q.2.1 q.2.2.1 q.2.2.2.1 c pc S
  | .goto _ => aS_goto kn j q.2.1 q.2.2.1 q.2.2.2.1 pc S
  | .tableswitch df lo hi offs => aS_tableswitch kn j q.2.1 q.2.2.1 q.2.2.2.1 df lo hi offs pc S
  | .lookupswitch df ps => aS_lookupswitch kn j q.2.1 q.2.2.1 q.2.2.2.1 df ps pc S
  | .getstatic _ => aS_getstatic kn j q.2.1 q.2.2.1 q.2.2.2.1 pc S
  | .ldc _ => aS_ldc kn j q.2.1 q.2.2.1 q.2.2.2.1 pc S
  | .ldc_w _ => aS_ldc_w kn j q.2.1 q.2.2.1 q.2.2.2.1 pc S
  | .ldc2_w _ => aS_ldc2_w kn j q.2.1 q.2.2.1 q.2.2.2.1 pc S
  | .invokevirtual _ => aS_invokevirtual kn j q.2.1 q.2.2.1 q.2.2.2.1 pc S
  | .invokestatic _ => aS_invokestatic kn j q.2.1 q.2.2.1 q.2.2.2.1 pc S
  | .ireturn => aS_ireturn kn j q.2.1 q.2.2.1 q.2.2.2.1 pc S
  | .lreturn => aS_lreturn kn j q.2.1 q.2.2.1 q.2.2.2.1 pc S
  | .areturn => aS_areturn kn j q.2.1 q.2.2.1 q.2.2.2.1 pc S
  | .return_ => aS_return_ kn j q.2.1 q.2.2.1 q.2.2.2.1 pc S
  | _ => match aPur q.1 q.2.1 S.1 S.2.1 S.2.2.2 with
    | some r => aGo (pc + q.2.1) (r.1, r.2.1, S.2.2.1, r.2.2)
    | none => none
/-- a walk from one leader to the next ones -/
def aWalk (kn : List Nat) (j : Nat) (R : List aC) (n : Nat) : Bool → Nat → aS → Bool := Nat.rec (fun _ _ _ => false) (fun _ ih first pc S => match (bif first then none else (aLead j).find? fun q => Nat.beq q.1 pc) with
    | some q => aIncl S q.2.1 q.2.2.1 q.2.2.2.1 && aLt S.2.2.2 q.2.1 q.2.2.2.1 R q.2.2.2.2
    | none => match xins j pc with
      | none => false
      | some q => match aStep kn j q pc S with
        | none => false
        | some l => l.all fun s => ih false s.1 s.2) n
def aTr0 (R : List aC) : aTr := R.flatMap fun c => match c with
  | (Sum.inl (_)) => []
  | (Sum.inr (Sum.inl (x, _))) => [(x, some 0)]
  | (Sum.inr (Sum.inr (x, _))) => [(x, some 0)]
def aEnt (as : List aV) (n : Nat) : List aV := (as.flatMap fun v => bif Nat.beq (aCat v) 2 then [v, (Sum.inl ())] else [v]) ++ List.replicate (n - (as.flatMap fun v => bif Nat.beq (aCat v) 2 then [v, (Sum.inl ())] else [v]).length) (Sum.inl ())
def aCheck (kn : List Nat) (j : Nat) : Bool := (aIns j).all aKnown && Nat.ble (aEnt (aIns j) (xml j)).length (xml j) && aWalk kn j [(Sum.inl (1000000))] 1000 false 0 (aEnt (aIns j) (xml j), [], [], []) && (aLead j).all fun q => aWalk kn j q.2.2.2.2 1000 true q.1 (q.2.1, q.2.2.1, q.2.2.2.1, aTr0 q.2.2.2.2)
