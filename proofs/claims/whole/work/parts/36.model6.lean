def hasB (fr : Nat → Int32) (a : Int32) : Bool := if isByteB a = true then (if fr a.toNatClampNeg = 0 then false else true) else false
