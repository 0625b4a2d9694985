theorem bI_e1 {b : Bool} (h : bI b = 1) : b = true := by cases b <;> first | rfl | (exact absurd h (by decide))
theorem bI_n1 {b : Bool} (h : ¬ bI b = 1) : b = false := by cases b <;> first | rfl | (exact absurd rfl h)
def mYes (o : Int32) (z c : Bool) : Bool := if o = 22 then true else if o = 27 then true else if o = 23 then z else if o = 24 then !z else if o = 25 then c else !c
def mTran (o n : Int32) (g : Nat → Int32) (a x s p : Int32) (z c : Bool) : (Nat → Int32) × Int32 × Int32 × Int32 × Bool :=
  if o = 27 then (wr g s p, a, (s - 1) &&& 255, n, z)
  else if o < 28 then (g, a, s, if mYes o z c = true then n else p, z)
  else if o = 28 then (g, a, (s + 1) &&& 255, rd g ((s + 1) &&& 255), z)
  else if o = 29 then (wr g s a, a, (s - 1) &&& 255, p, z)
  else if o = 30 then (g, rd g ((s + 1) &&& 255) &&& 255, (s + 1) &&& 255, p, decide (rd g ((s + 1) &&& 255) &&& 255 = 0))
  else (g, a, s, x, z)
def mPc (g : Nat → Int32) (p : Int32) : Int32 := (p + lenI (rd g p)) &&& 255
def mStep (g : Nat → Int32) (a x s p : Int32) (z c : Bool) (t : Int32) : MS :=
  if rd g p = 1 then (g, a, x, s, p, z, c, 1)
  else if rd g p ≤ 31 then
    (if rd g p ≤ 21 then
      (if rd g p ≤ 11 then
        (if rd g p ≤ 1 then (g, a, x, s, mPc g p, z, c, t)
         else ((mMove (rd g p) (rd g (p + 1)) g a x z).1, (mMove (rd g p) (rd g (p + 1)) g a x z).2.1, (mMove (rd g p) (rd g (p + 1)) g a x z).2.2.1, s, mPc g p, (mMove (rd g p) (rd g (p + 1)) g a x z).2.2.2, c, t))
       else (g, (mReck (rd g p) (rd g (p + 1)) g a c).1, x, s, mPc g p, (mReck (rd g p) (rd g (p + 1)) g a c).2.1, (mReck (rd g p) (rd g (p + 1)) g a c).2.2, t))
     else ((mTran (rd g p) (rd g (p + 1)) g a x s (mPc g p) z c).1, (mTran (rd g p) (rd g (p + 1)) g a x s (mPc g p) z c).2.1, x, (mTran (rd g p) (rd g (p + 1)) g a x s (mPc g p) z c).2.2.1, (mTran (rd g p) (rd g (p + 1)) g a x s (mPc g p) z c).2.2.2.1, (mTran (rd g p) (rd g (p + 1)) g a x s (mPc g p) z c).2.2.2.2, c, t))
  else (g, a, x, s, p, z, c, 2)
