def alkB (S : Bool) (f p t0 t1 : Int32) : Bool := S && (!decide (f = -1) && (decide (f = p) && (decide (t0 = 1) == decide (t1 = 1))))
theorem mmi_0 {i : Nat} (g h : Nat → Int32) (hi : i < 256) : mm2 g h (nI i).toNatClampNeg = g i := by rw [nI_clamp (by omega), mm2, if_pos hi]
theorem mmi_1 {i : Nat} (g h : Nat → Int32) (hi : i < 256) : mm2 g h (256 + nI i).toNatClampNeg = h i := by
  rw [show (256 : Int32) + nI i = nI (256 + i) from nI_add 256 i, nI_clamp (by omega), mm2, if_neg (by omega), if_pos (by omega), Nat.add_sub_cancel_left]
theorem ini_1 {i : Nat} (hi : i < 256) : vp_in (256 + nI i) 512 := by
  rw [show (256 : Int32) + nI i = nI (256 + i) from nI_add 256 i]; exact vp_in_nI (by omega) (by decide)
/-- the reference's words for refusals 2 and 3 -/
def secB (fr fi : Nat → Int32) (i : Nat) : Bool := if fr i = 0 then false else if rd fr (nI i + 255) = 0 then false else if 32 ≤ rd fi (nI i + 255) then false else if lenI (rd fi (nI i + 255)) = 2 then true else false
def lasW (i : Nat) (o : Int32) : Bool :=
  if nI i = 254 then (if lenI o = 2 then (if o = 22 then false else if o = 27 then false else true) else false)
  else if nI i = 255 then (if o = 1 then false else if o = 28 then false else if o = 31 then false else true) else false
def lasB (fr fi : Nat → Int32) (i : Nat) : Bool := if fr i = 0 then false else lasW i (fi i)
