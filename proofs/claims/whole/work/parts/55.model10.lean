/-! the reference's first machine, in its own order of questions -/
def mMove (o n : Int32) (g : Nat → Int32) (a x : Int32) (z : Bool) : (Nat → Int32) × Int32 × Int32 × Bool :=
  if o = 2 then (g, n &&& 255, x, decide (n &&& 255 = 0))
  else if o = 3 then (g, rd g n &&& 255, x, decide (rd g n &&& 255 = 0))
  else if o = 4 then (g, rd g (n + x) &&& 255, x, decide (rd g (n + x) &&& 255 = 0))
  else if o = 5 then (wr g n a, a, x, z)
  else if o = 6 then (wr g (n + x) a, a, x, z)
  else if o = 7 then (g, a, n &&& 255, z)
  else if o = 8 then (g, a, a &&& 255, z)
  else if o = 9 then (g, x &&& 255, x, decide (x &&& 255 = 0))
  else if o = 10 then (g, a, (x + 1) &&& 255, decide ((x + 1) &&& 255 = 0))
  else (g, a, (x - 1) &&& 255, decide ((x - 1) &&& 255 = 0))
def mAdd (a v c : Int32) : Int32 × Bool × Bool := ((a + v + c) &&& 255, decide ((a + v + c) &&& 255 = 0), decide (¬ a + v + c ≤ 255))
def mSub (a v : Int32) (sy : Bool) : Int32 × Bool × Bool := (if sy = true then a &&& 255 else (a - v) &&& 255, decide ((a - v) &&& 255 = 0), decide (¬ v ≤ a))
def mPln (v : Int32) : Int32 × Bool × Bool := (v &&& 255, decide (v &&& 255 = 0), false)
def mDbl (a : Int32) : Int32 × Bool × Bool := ((2 * a) &&& 255, decide ((2 * a) &&& 255 = 0), decide (¬ a ≤ 127))
def mHlv (a : Int32) : Int32 × Bool × Bool := ((a / 2) &&& 255, decide ((a / 2) &&& 255 = 0), decide (a - a / 2 * 2 = 1))
def mReck (o n : Int32) (g : Nat → Int32) (a : Int32) (c : Bool) : Int32 × Bool × Bool :=
  if o = 12 then mAdd a n 0 else if o = 13 then mAdd a (rd g n) 0 else if o = 14 then mAdd a (rd g n) (bI c)
  else if o = 15 then mSub a n false else if o = 16 then mSub a (rd g n) false else if o = 17 then mPln (a &&& n) else if o = 18 then mPln (a ^^^ n)
  else if o = 20 then mDbl a else if o = 21 then mHlv a else mSub a n true
