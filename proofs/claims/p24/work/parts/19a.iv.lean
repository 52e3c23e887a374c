/-! THE TABLES of the checker (a stub: to be written by ivgen.py) -/
def aRng (_ _ : Nat) : Int × Int := (-2147483648, 2147483647)
def aAll (_ : Nat) : Int × Int := (-2147483648, 2147483647)
/-- rows whose numbers have a range of their own at each index -/
def aFine (_ : Nat) : Bool := false
def aRef (c k : Nat) : List Nat := bif Nat.beq (xR0 c k) 0 then [] else [xR0 c k - 1]
def aIns (_ : Nat) : List aV := []
def aOut (_ : Nat) : Option aV := none
def aMod (_ : Nat) : List Nat := []
def aDep (_ : Nat) : Nat := 0
def aLead (_ : Nat) : List (Nat × List aV × List aV × aFs × List aC) := []
