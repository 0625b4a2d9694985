/-! the two machines' steps, over Int32, in the class's own order of questions; a state: memory, accumulator, index, sp, pc, z, c, state (and r2, kept) -/
abbrev MS : Type := (Nat → Int32) × Int32 × Int32 × Int32 × Int32 × Bool × Bool × Int32
def fMove (op n : Int32) (g : Nat → Int32) (a x sp pc : Int32) (z c : Bool) (st : Int32) : MS :=
  if op = 2 then (g, n, x, sp, pc, decide (n = 0), c, st)
  else if op = 3 then (g, rd g n, x, sp, pc, decide (rd g n = 0), c, st)
  else if op = 4 then (g, rd g (n + x), x, sp, pc, decide (rd g (n + x) = 0), c, st)
  else if op = 5 then (wr g n a, a, x, sp, pc, z, c, st)
  else if op = 6 then (wr g (n + x) a, a, x, sp, pc, z, c, st)
  else if op = 7 then (g, a, n, sp, pc, z, c, st)
  else if op = 8 then (g, a, a, sp, pc, z, c, st)
  else if op = 9 then (g, x, x, sp, pc, decide (x = 0), c, st)
  else (g, a, x, sp, pc, z, c, st)
def sumI (v w : Int32) (cy : Bool) : Int32 := (v + w + bI cy) &&& 255
def sumC (v w : Int32) (cy : Bool) : Bool := decide (¬ v + w + bI cy ≤ 255)
def difI (v w : Int32) : Int32 := (v - w) &&& 255
def difC (v w : Int32) : Bool := decide (¬ w ≤ v)
def dblI (v : Int32) : Int32 := (2 * v) &&& 255
def dblC (v : Int32) : Bool := decide (¬ v &&& 128 = 0)
def hlvI (v : Int32) : Int32 := v >>> (1 &&& 31)
def hlvC (v : Int32) : Bool := decide (¬ v &&& 1 = 0)
def fReck (op n : Int32) (g : Nat → Int32) (a x sp pc : Int32) (z c : Bool) (st : Int32) : MS :=
  if op = 10 then (g, a, (x + 1) &&& 255, sp, pc, decide ((x + 1) &&& 255 = 0), c, st)
  else if op = 11 then (g, a, (x - 1) &&& 255, sp, pc, decide ((x - 1) &&& 255 = 0), c, st)
  else if op = 12 then (g, sumI a n false, x, sp, pc, decide (sumI a n false = 0), sumC a n false, st)
  else if op = 13 then (g, sumI a (rd g n) false, x, sp, pc, decide (sumI a (rd g n) false = 0), sumC a (rd g n) false, st)
  else if op = 14 then (g, sumI a (rd g n) c, x, sp, pc, decide (sumI a (rd g n) c = 0), sumC a (rd g n) c, st)
  else if op = 15 then (g, difI a n, x, sp, pc, decide (difI a n = 0), difC a n, st)
  else if op = 16 then (g, difI a (rd g n), x, sp, pc, decide (difI a (rd g n) = 0), difC a (rd g n), st)
  else if op = 17 then (g, a &&& n, x, sp, pc, decide (a &&& n = 0), false, st)
  else if op = 18 then (g, a ^^^ n, x, sp, pc, decide (a ^^^ n = 0), false, st)
  else if op = 19 then (g, a, x, sp, pc, decide (difI a n = 0), difC a n, st)
  else if op = 20 then (g, dblI a, x, sp, pc, decide (dblI a = 0), dblC a, st)
  else if op = 21 then (g, hlvI a, x, sp, pc, decide (hlvI a = 0), hlvC a, st)
  else (g, a, x, sp, pc, z, c, st)
def fTran (op n : Int32) (g : Nat → Int32) (a x sp pc : Int32) (z c : Bool) (st : Int32) : MS :=
  if op = 22 then (g, a, x, sp, n, z, c, st)
  else if op = 23 then (g, a, x, sp, if z = true then n else pc, z, c, st)
  else if op = 24 then (g, a, x, sp, if z = true then pc else n, z, c, st)
  else if op = 25 then (g, a, x, sp, if c = true then n else pc, z, c, st)
  else if op = 26 then (g, a, x, sp, if c = true then pc else n, z, c, st)
  else if op = 27 then (wr g sp pc, a, x, (sp - 1) &&& 255, n, z, c, st)
  else if op = 28 then (g, a, x, (sp + 1) &&& 255, rd g ((sp + 1) &&& 255), z, c, st)
  else if op = 29 then (wr g sp a, a, x, (sp - 1) &&& 255, pc, z, c, st)
  else if op = 30 then (g, rd g ((sp + 1) &&& 255), x, (sp + 1) &&& 255, pc, decide (rd g ((sp + 1) &&& 255) = 0), c, st)
  else if op = 31 then (g, a, x, sp, x, z, c, st)
  else (g, a, x, sp, pc, z, c, st)
def fStep (g : Nat → Int32) (a x sp pc : Int32) (z c : Bool) (st : Int32) : MS :=
  if isUnkB (rd g pc) = true then (g, a, x, sp, pc, z, c, 2)
  else if rd g pc = 1 then (g, a, x, sp, pc, z, c, 1)
  else if 9 < rd g pc then
    if 21 < rd g pc then fTran (rd g pc) (rd g (pc + 1)) g a x sp ((pc + lenI (rd g pc)) &&& 255) z c st
    else fReck (rd g pc) (rd g (pc + 1)) g a x sp ((pc + lenI (rd g pc)) &&& 255) z c st
  else fMove (rd g pc) (rd g (pc + 1)) g a x sp ((pc + lenI (rd g pc)) &&& 255) z c st
abbrev MT : Type := (Nat → Int32) × Int32 × Int32 × Int32 × Int32 × Bool × Bool × Int32 × Int32 × Bool
def regI (i a x r2 : Int32) : Int32 := if i = 0 then a else if i = 1 then x else r2
def setA (i v a : Int32) : Int32 := if i = 0 then v else a
def setX (i v x : Int32) : Int32 := if i = 0 then x else if i = 1 then v else x
def setR (i v r : Int32) : Int32 := if i = 0 then r else if i = 1 then r else v
def begI (wh : Nat → Int32) (a : Int32) : Int32 := if isByteB a = true then wh a.toNatClampNeg else -1
def partI (k w n : Int32) (nu xs ys : Nat → Int32) : Int32 :=
  if k < 0 then -1 else if k < n then (if w = 0 then nu k.toNatClampNeg else if w = 1 then xs k.toNatClampNeg else if w = 2 then ys k.toNatClampNeg else -1) else -1
def sMove (nb i j : Int32) (g : Nat → Int32) (a x sp pc : Int32) (z c : Bool) (st r2 : Int32) (kp : Bool) : MT :=
  if nb = 2 then (g, setA i j a, setX i j x, sp, pc, z, c, st, setR i j r2, kp)
  else if nb = 3 then (g, setA i (regI j a x r2) a, setX i (regI j a x r2) x, sp, pc, z, c, st, setR i (regI j a x r2) r2, kp)
  else if nb = 4 then (g, setA i (rd g j) a, setX i (rd g j) x, sp, pc, z, c, st, setR i (rd g j) r2, kp)
  else if nb = 5 then (wr g j (regI i a x r2), a, x, sp, pc, z, c, st, r2, kp)
  else if nb = 6 then (g, rd g (j + x), x, sp, pc, z, c, st, r2, kp)
  else if nb = 7 then (wr g (j + x) a, a, x, sp, pc, z, c, st, r2, kp)
  else (g, a, x, sp, pc, z, c, st, r2, kp)
def sSet (i v : Int32) (z1 c1 : Bool) (g : Nat → Int32) (a x sp pc st r2 : Int32) (kp : Bool) : MT := (g, setA i v a, setX i v x, sp, pc, z1, c1, st, setR i v r2, kp)
def sReck (nb i j : Int32) (g : Nat → Int32) (a x sp pc : Int32) (z c : Bool) (st r2 : Int32) (kp : Bool) : MT :=
  if nb = 8 then (g, a, x, sp, pc, decide (regI i a x r2 = 0), false, st, r2, kp)
  else if nb = 9 then sSet i (sumI (regI i a x r2) (regI j a x r2) false) (decide (sumI (regI i a x r2) (regI j a x r2) false = 0)) (sumC (regI i a x r2) (regI j a x r2) false) g a x sp pc st r2 kp
  else if nb = 10 then sSet i (sumI (regI i a x r2) (regI j a x r2) c) (decide (sumI (regI i a x r2) (regI j a x r2) c = 0)) (sumC (regI i a x r2) (regI j a x r2) c) g a x sp pc st r2 kp
  else if nb = 11 then sSet i (difI (regI i a x r2) (regI j a x r2)) (decide (difI (regI i a x r2) (regI j a x r2) = 0)) (difC (regI i a x r2) (regI j a x r2)) g a x sp pc st r2 kp
  else if nb = 12 then sSet i (regI i a x r2 &&& regI j a x r2) (decide (regI i a x r2 &&& regI j a x r2 = 0)) false g a x sp pc st r2 kp
  else if nb = 13 then sSet i (regI i a x r2 ^^^ regI j a x r2) (decide (regI i a x r2 ^^^ regI j a x r2 = 0)) false g a x sp pc st r2 kp
  else if nb = 14 then (g, a, x, sp, pc, decide (difI (regI i a x r2) (regI j a x r2) = 0), difC (regI i a x r2) (regI j a x r2), st, r2, kp)
  else if nb = 15 then sSet i (dblI (regI i a x r2)) (decide (dblI (regI i a x r2) = 0)) (dblC (regI i a x r2)) g a x sp pc st r2 kp
  else if nb = 16 then sSet i (hlvI (regI i a x r2)) (decide (hlvI (regI i a x r2) = 0)) (hlvC (regI i a x r2)) g a x sp pc st r2 kp
  else (g, a, x, sp, pc, z, c, st, r2, kp)
def sCtl (nb i j : Int32) (g : Nat → Int32) (a x sp pc : Int32) (z c : Bool) (st r2 : Int32) (kp : Bool) : MT :=
  if nb = 17 then (g, a, x, sp, pc, z, c, st, r2, c)
  else if nb = 18 then (g, a, x, sp, pc, z, kp, st, r2, kp)
  else if nb = 19 then (g, a, x, sp, j, z, c, st, r2, kp)
  else if nb = 20 then (g, a, x, sp, if z = true then j else pc, z, c, st, r2, kp)
  else if nb = 21 then (g, a, x, sp, if z = true then pc else j, z, c, st, r2, kp)
  else if nb = 22 then (g, a, x, sp, if c = true then j else pc, z, c, st, r2, kp)
  else if nb = 23 then (g, a, x, sp, if c = true then pc else j, z, c, st, r2, kp)
  else if nb = 24 then (wr g sp (regI i a x r2), a, x, (sp - 1) &&& 255, pc, z, c, st, r2, kp)
  else if nb = 25 then (g, setA i (rd g ((sp + 1) &&& 255)) a, setX i (rd g ((sp + 1) &&& 255)) x, (sp + 1) &&& 255, pc, z, c, st, setR i (rd g ((sp + 1) &&& 255)) r2, kp)
  else (g, a, x, sp, pc, z, c, st, r2, kp)
/-- a step of the second machine at the instruction nb i j -/
def sDo (wh : Nat → Int32) (nb i j : Int32) (g : Nat → Int32) (a x sp pc : Int32) (z c : Bool) (st r2 : Int32) (kp : Bool) : MT :=
  if nb = -1 then (g, a, x, sp, pc, z, c, 2, r2, kp)
  else if nb = 1 then (g, a, x, sp, pc, z, c, 1, r2, kp)
  else if nb = 26 then (if begI wh (regI i a x r2) = -1 then (g, a, x, sp, pc, z, c, 2, r2, kp) else (g, a, x, sp, begI wh (regI i a x r2), z, c, st, r2, kp))
  else if 7 < nb then
    if 16 < nb then sCtl nb i j g a x sp (pc + 1) z c st r2 kp else sReck nb i j g a x sp (pc + 1) z c st r2 kp
  else sMove nb i j g a x sp (pc + 1) z c st r2 kp
theorem isByte_in {a : Int32} (h : isByteB a = true) : vp_in a 256 := by
  simp only [isByteB] at h
  split at h
  · cases h
  · split at h
    · cases h
    · rename_i h1 h2
      rw [vp_in_iff]
      rw [Int32.lt_iff_toInt_lt] at h1 h2
      have e0 : (0 : Int32).toInt = 0 := by decide
      have e1 : (255 : Int32).toInt = 255 := by decide
      omega
theorem idx_in {k n : Int32} (h1 : ¬ k < 0) (h2 : k < n) (hn : n ≤ 1024) : vp_in k 1024 := by
  rw [vp_in_iff]
  rw [Int32.lt_iff_toInt_lt] at h1 h2
  rw [Int32.le_iff_toInt_le] at hn
  have e0 : (0 : Int32).toInt = 0 := by decide
  have e1 : (1024 : Int32).toInt = 1024 := by decide
  omega
