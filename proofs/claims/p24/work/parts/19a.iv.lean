/-! THE TABLES of the checker (a stub: to be written by ivgen.py) -/
def aRng (_ _ : Nat) : Int × Int := (-2147483648, 2147483647)
def aAll (_ : Nat) : Int × Int := (-2147483648, 2147483647)
/-- rows whose numbers have a range of their own at each index -/
def aFine (_ : Nat) : Bool := false
def aPid (_ _ : Nat) : Nat := 0
def aRef (c k : Nat) : List Nat := bif Nat.beq (xR0 c k) 0 then [] else [xR0 c k - 1]
/-- the contracts: method, arguments, how they are cut, facts ahead, cases behind, places against the start, places changed, depth, contracts called, leaders -/
def aJ (_ : Nat) : Nat := 0
def aIns (_ : Nat) : List aV := []
def aSpl (_ : Nat) : List (Nat × List Int) := []
def aPre (_ : Nat) : aFs := []
def aOut (_ : Nat) : List (Option aV × List (Nat × Int × Int) × aFs × aU) := []
def aWat (_ : Nat) : List (Nat × Nat) := []
def aMod (_ : Nat) : Nat := 0
def aDep (_ : Nat) : Nat := 0
def aCals (_ : Nat) : List Nat := []
def aLead (_ : Nat) : List (Nat × List aV × List aV × aFs × List aC × aA × List Nat × aU) := []
