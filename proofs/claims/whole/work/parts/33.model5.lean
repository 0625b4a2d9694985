/-! the code's making: number of rows, numbers, xs, ys -/
abbrev PG : Type := Nat × (Nat → Int32) × (Nat → Int32) × (Nat → Int32)
def addP (p : PG) (o x y : Int32) : PG := if p.1 < 1024 then (p.1 + 1, upd p.2.1 p.1 o, upd p.2.2.1 p.1 x, upd p.2.2.2 p.1 y) else p
def tstP (p : PG) (o y : Int32) : PG := addP (addP (addP (addP p 17 0 0) o 0 y) 8 0 0) 18 0 0
def cntP (p : PG) (o : Int32) : PG := addP (addP (addP (addP p 17 0 0) 2 2 1) o 1 2) 18 0 0
def r2P (p : PG) (f n o : Int32) : PG := addP (addP p f 2 n) o 0 2
def movP (op n : Int32) (p : PG) : PG :=
  if op = 1 then addP p 1 0 0 else if op = 2 then tstP p 2 n else if op = 3 then tstP p 4 n else if op = 4 then tstP p 6 n
  else if op = 5 then addP p 5 0 n else if op = 6 then addP p 7 0 n else if op = 7 then addP p 2 1 n else if op = 8 then addP p 3 1 0
  else if op = 9 then tstP p 3 1 else addP p 0 0 0
def sumP (op n : Int32) (p : PG) : PG :=
  if op = 10 then cntP p 9 else if op = 11 then cntP p 11 else if op = 12 then r2P p 2 n 9 else if op = 13 then r2P p 4 n 9 else if op = 14 then r2P p 4 n 10
  else if op = 15 then r2P p 2 n 11 else if op = 16 then r2P p 4 n 11 else if op = 17 then r2P p 2 n 12 else if op = 18 then r2P p 2 n 13 else if op = 19 then r2P p 2 n 14
  else if op = 20 then addP p 15 0 0 else addP p 16 0 0
def trnP (op n b : Int32) (p : PG) : PG :=
  if op = 22 then addP p 19 0 n else if op = 23 then addP p 20 0 n else if op = 24 then addP p 21 0 n else if op = 25 then addP p 22 0 n else if op = 26 then addP p 23 0 n
  else if op = 27 then addP (addP (addP p 2 2 b) 24 2 0) 19 0 n else if op = 28 then addP (addP p 25 2 0) 26 2 0 else if op = 29 then addP p 24 0 0
  else if op = 30 then tstP p 25 0 else addP p 26 1 0
def rowP (op n b : Int32) (p : PG) : PG := if 9 < op then (if 21 < op then trnP op n b p else sumP op n p) else movP op n p
theorem lt1024 {n : Nat} (hn : n ≤ 1024) (h : ¬ (1024 : Int32) ≤ nI n) : n < 1024 := Nat.lt_of_not_le (fun q => h (nI_le (a := 1024) q (by omega)))
theorem nlt1024 {n : Nat} (h : (1024 : Int32) ≤ nI n) : ¬ n < 1024 := fun q => nI_ge (b := 1024) q (by decide) h
theorem le1024 {n : Nat} (h : n ≤ 1024) : nI n ≤ 1024 := nI_le (b := 1024) h (by decide)
/-- the building: where, begins, the code; an address each -/
abbrev BS : Type := (Nat → Int32) × (Nat → Int32) × PG
def bldS (rc src : Nat → Int32) (a : Nat) (s : BS) : BS :=
  if rc a = 0 then (upd s.1 a (-1), s.2.1, s.2.2)
  else if s.2.2.1 < 1024 then (upd (upd s.1 a (-1)) a (nI s.2.2.1), upd s.2.1 s.2.2.1 1, rowP (src a) (rd src (nI a + 1)) ((nI a + 2) &&& 255) s.2.2)
  else (upd s.1 a (-1), s.2.1, s.2.2)
def bldN (rc src : Nat → Int32) : Nat → BS → BS
  | 0, s => s
  | a + 1, s => bldS rc src a (bldN rc src a s)
def tgtN (fn wh : Nat → Int32) : Nat → (Nat → Int32) → (Nat → Int32)
  | 0, fy => fy
  | k + 1, fy => if hasSB (fn k) = true then upd (tgtN fn wh k fy) k (rd wh (tgtN fn wh k fy k)) else tgtN fn wh k fy
/-- what is reached: marks, addresses that wait, how many -/
abbrev RS : Type := (Nat → Int32) × (Nat → Int32) × Nat
def mrk (s : RS) (ad : Int32) : RS :=
  if s.1 (ad &&& 255).toNatClampNeg = 0 then (if s.2.2 < 256 then (upd s.1 (ad &&& 255).toNatClampNeg 1, upd s.2.1 s.2.2 (ad &&& 255), s.2.2 + 1) else s) else s
def flw (src : Nat → Int32) (s : RS) (a : Int32) : RS :=
  if isUnkB (rd src a) = true then s
  else if behB (rd src a) = true then
    (if hasTB (rd src a) = true then mrk (mrk s (a + lenI (rd src a))) (rd src (a + 1)) else mrk s (a + lenI (rd src a)))
  else (if hasTB (rd src a) = true then mrk s (rd src (a + 1)) else s)
/-- from place d on, at most k of them -/
def wlk (src : Nat → Int32) : Nat → Nat → RS → RS
  | 0, _, s => s
  | k + 1, d, s => if d < s.2.2 then wlk src k (d + 1) (flw src s (s.2.1 d)) else s
theorem lt256 {n : Nat} (hn : n ≤ 256) (h : ¬ (256 : Int32) ≤ nI n) : n < 256 := Nat.lt_of_not_le (fun q => h (nI_le (a := 256) q (by omega)))
theorem nlt256 {n : Nat} (h : (256 : Int32) ≤ nI n) : ¬ n < 256 := fun q => nI_ge (b := 256) q (by decide) h
/-- the least number from i on, among k, of which P holds; -1 if there is none -/
def least (P : Nat → Bool) : Nat → Nat → Int32
  | 0, _ => -1
  | k + 1, i => if P i = true then nI i else least P k (i + 1)
