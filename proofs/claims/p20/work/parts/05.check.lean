def xstrs : List String := ["person", "dies", "meet", "chance", "news", "bar", "person meet news bar dies chance "]
/-- what the rows of the walk ask of an instruction's links -/
def xlk (j : Nat) (pc : Nat) (q : xQ) : Bool := match q.1 with
  | .getfield idx => decide (q.2.2.1 < 13) && decide (q.2.2.2.1 < xnf q.2.2.1) && decide (lw_tbl[q.2.2.2.2]? = some (.fieldLink (xmy j).cls idx (xT q.2.2.1 q.2.2.2.1).1 (xT q.2.2.1 q.2.2.2.1).2.1 (xT q.2.2.1 q.2.2.2.1).2.2.1))
  | .putfield idx => decide (q.2.2.1 < 13) && decide (q.2.2.2.1 < xnf q.2.2.1) && decide (lw_tbl[q.2.2.2.2]? = some (.fieldLink (xmy j).cls idx (xT q.2.2.1 q.2.2.2.1).1 (xT q.2.2.1 q.2.2.2.1).2.1 (xT q.2.2.1 q.2.2.2.1).2.2.1)) && (!(xT q.2.2.1 q.2.2.2.1).2.2.2 || (decide ((xmy j).name = "<init>") && decide ((xT q.2.2.1 q.2.2.2.1).1 = (xmy j).cls)))
  | .new idx => decide (q.2.2.1 < 13) && decide (lw_tbl[q.2.2.2.2]? = some (.classLink (xmy j).cls idx (xcn q.2.2.1)))
  | .ifCond _ off => decide ((pc : Int) + off = (q.2.2.1 : Int))
  | .if_icmp _ off => decide ((pc : Int) + off = (q.2.2.1 : Int))
  | .goto off => decide ((pc : Int) + off = (q.2.2.1 : Int))
  | .tableswitch d lo hi offs => decide (0 ≤ (pc : Int) + d) && offs.toList.all (fun o => decide (0 ≤ (pc : Int) + o))
  | .lookupswitch d ps => decide (0 ≤ (pc : Int) + d) && ps.toList.all (fun o => decide (0 ≤ (pc : Int) + o.2)) && (ps.toList.zip (ps.toList.drop 1)).all (fun (a, next) => a.1 < next.1)
  | .ldc idx => if q.2.2.2.1 = 0 then decide (lw_tbl[q.2.2.2.2]? = some (.constant (xmy j).cls idx (Int32.ofNat q.2.2.1))) else decide (lw_tbl[q.2.2.2.2]? = some (.stringRef (xmy j).cls idx (xstrs.getD q.2.2.1 ""))) && decide (q.2.2.1 < xstrs.length)
  | .getstatic idx => decide (lw_tbl[q.2.2.2.2]? = some (.fieldLink (xmy j).cls idx "OneHead$Pieces" "ONES" "[I"))
  | .ldc_w idx => if q.2.2.2.1 = 0 then decide (lw_tbl[q.2.2.2.2]? = some (.constant (xmy j).cls idx (Int32.ofNat q.2.2.1))) else true
  | .ldc2_w idx => decide (lw_tbl[q.2.2.2.2]? = some (.constantLong (xmy j).cls idx (Int64.ofNat q.2.2.1)))
  | .invokespecial idx => if q.2.2.1 = 900 then decide (lw_tbl[q.2.2.2.2]? = some (.methodLink (xmy j).cls idx Lib.objectInit)) else decide (0 < q.2.2.1) && decide (q.2.2.1 < xMn) && !xms q.2.2.1 && decide ((xmy q.2.2.1).name = "<init>") && decide (xmv q.2.2.1 = none) && decide (q.2.2.2.1 = 0) && decide (lw_tbl[q.2.2.2.2]? = some (.methodLink (xmy j).cls idx (xmy q.2.2.1)))
  | .invokevirtual idx => if 900 ≤ q.2.2.1 then (if q.2.2.1 = 902 then decide (lw_tbl[q.2.2.2.2]? = some (.methodLink (xmy j).cls idx ⟨"java/lang/String", "length", "()I"⟩)) else if q.2.2.1 = 903 then decide (lw_tbl[q.2.2.2.2]? = some (.methodLink (xmy j).cls idx ⟨"java/lang/String", "charAt", "(I)C"⟩)) else true) else decide (0 < q.2.2.1) && decide (q.2.2.1 < xMn) && !xms q.2.2.1 && decide ((xmy q.2.2.1).name ≠ "<init>") && decide (q.2.2.2.1 = 0) && decide (lw_tbl[q.2.2.2.2]? = some (.methodLink (xmy j).cls idx (xmy q.2.2.1)))
  | .invokestatic idx => if 900 ≤ q.2.2.1 then (if q.2.2.1 = 904 then decide (lw_tbl[q.2.2.2.2]? = some (.methodLink (xmy j).cls idx Lib.Math.max.name)) else if q.2.2.1 = 905 then decide (lw_tbl[q.2.2.2.2]? = some (.methodLink (xmy j).cls idx Lib.Math.min.name)) else if q.2.2.1 = 901 then decide (lw_tbl[q.2.2.2.2]? = some (.methodLink (xmy j).cls idx arraycopyName)) else true) else decide (0 < q.2.2.1) && decide (q.2.2.1 < xMn) && xms q.2.2.1 && (if q.2.2.2.1 = 0 then decide (lw_tbl[q.2.2.2.2]? = some (.methodLink (xmy j).cls idx (xmy q.2.2.1))) else decide (lw_tbl[q.2.2.2.2]? = some (.methodLinkNest (xmy j).cls idx (xmy q.2.2.1) "OneHead")))
  | _ => true
def xok (j pc : Nat) (q : xQ) : Bool := decide (decode (xmc j) pc = .ok (q.1, q.2.1)) && xlk j pc q
def xck (j a n : Nat) : Bool := (List.range' a n).all (fun pc => match xins j pc with
  | some q => xok j pc q
  | none => true)
