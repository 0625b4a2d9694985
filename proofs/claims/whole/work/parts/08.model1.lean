/-! the pure words of the class's leaves, over Int32, in the class's own order of questions -/
def isByteB (v : Int32) : Bool := if v < 0 then false else if 255 < v then false else true
def isUnkB (o : Int32) : Bool := if o ≤ 31 then false else true
def hasTB (o : Int32) : Bool := if o < 22 then false else if 27 < o then false else true
def hasSB (o : Int32) : Bool := if o < 19 then false else if 23 < o then false else true
def lenI (o : Int32) : Int32 := if ¬ o < 2 ∧ o ≤ 7 then 2 else if ¬ o < 12 ∧ o ≤ 19 then 2 else if hasTB o = true then 2 else 1
def behB (o : Int32) : Bool := if o = 1 then false else if o = 22 then false else if o = 28 then false else if o = 31 then false else true
def rd (g : Nat → Int32) (a : Int32) : Int32 := g (a &&& 255).toNatClampNeg
def wr (g : Nat → Int32) (a v : Int32) : Nat → Int32 := upd g (a &&& 255).toNatClampNeg (v &&& 255)
