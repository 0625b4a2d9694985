/-! the reference's code: rows -/
def aroP (p : PG) (o x y : Int32) : PG := addP (addP (addP (addP p 17 0 0) o x y) 8 0 0) 18 0 0
def instM (o n b : Int32) (p : PG) : PG :=
  if o = 2 then aroP p 2 0 n else if o = 3 then aroP p 4 0 n else if o = 4 then aroP p 6 0 n else if o = 5 then addP p 5 0 n else if o = 6 then addP p 7 0 n
  else if o = 7 then addP p 2 1 n else if o = 8 then addP p 3 1 0 else if o = 9 then aroP p 3 0 1 else if o = 10 then cntP p 9 else if o = 11 then cntP p 11
  else if o = 12 then r2P p 2 n 9 else if o = 13 then r2P p 4 n 9 else if o = 14 then r2P p 4 n 10 else if o = 15 then r2P p 2 n 11 else if o = 16 then r2P p 4 n 11
  else if o = 17 then r2P p 2 n 12 else if o = 18 then r2P p 2 n 13 else if o = 19 then r2P p 2 n 14 else if o = 20 then addP p 15 0 0 else if o = 21 then addP p 16 0 0
  else if o = 27 then addP (addP (addP p 2 2 b) 24 2 0) 19 0 n else if o = 28 then addP (addP p 25 2 0) 26 2 0 else if o = 29 then addP p 24 0 0 else if o = 30 then aroP p 25 0 0 else if o = 31 then addP p 26 1 0
  else if 2 ≤ o then addP p (o - 3) 0 n else addP p o 0 0
def limM (n : Int32) (tr : Bool) : Int32 := if n < 1 then 1 else if n ≤ 300 then (if tr = true then 0 else 2) else 1
/-- runs of a step F while the state is 0 -/
def gIter (F : MS → MS) : Nat → MS → Nat × MS
  | 0, u => (0, u)
  | k + 1, u => if stF u = 0 then ((gIter F k (F u)).1 + 1, (gIter F k (F u)).2) else (0, u)
theorem gIter_step {F : MS → MS} {M k d : Nat} {u0 u : MS} (h : gIter F M u0 = ((gIter F (k + 1) u).1 + d, (gIter F (k + 1) u).2)) (hs : stF u = 0) : gIter F M u0 = ((gIter F k (F u)).1 + (d + 1), (gIter F k (F u)).2) := by
  rw [h, gIter, if_pos hs]
  exact Prod.ext (by show _ + 1 + d = _ + (d + 1); omega) rfl
theorem gIter_0 {F : MS → MS} {M d : Nat} {u0 u : MS} (h : gIter F M u0 = ((gIter F 0 u).1 + d, (gIter F 0 u).2)) : gIter F M u0 = (d, u) := by
  rw [h, gIter]; exact Prod.ext (Nat.zero_add d) rfl
theorem gIter_end {F : MS → MS} {M k d : Nat} {u0 u : MS} (h : gIter F M u0 = ((gIter F (k + 1) u).1 + d, (gIter F (k + 1) u).2)) (hs : ¬ stF u = 0) : gIter F M u0 = (d, u) := by
  rw [h, gIter, if_neg hs]; exact Prod.ext (Nat.zero_add d) rfl
def mStepU (u : MS) : MS := mStep u.1 u.2.1 u.2.2.1 u.2.2.2.1 u.2.2.2.2.1 u.2.2.2.2.2.1 u.2.2.2.2.2.2.1 u.2.2.2.2.2.2.2
def mDoU (fw fo fx fy : Nat → Int32) (u : MT) : MT :=
  mDo fw (fo u.2.2.2.2.1.toNatClampNeg) (fx u.2.2.2.2.1.toNatClampNeg) (fy u.2.2.2.2.1.toNatClampNeg) u.1 u.2.1 u.2.2.1 u.2.2.2.1 u.2.2.2.2.1 u.2.2.2.2.2.1 u.2.2.2.2.2.2.1 u.2.2.2.2.2.2.2.1 u.2.2.2.2.2.2.2.2.1 u.2.2.2.2.2.2.2.2.2
theorem z_rg : (fun _ => 0 : Nat → Int32) = rg6 0 0 0 0 0 0 := by
  funext j; match j with
  | 0 => rfl
  | 1 => rfl
  | 2 => rfl
  | 3 => rfl
  | 4 => rfl
  | 5 => rfl
  | n + 6 => rfl
theorem z_p2 : (fun _ => 0 : Nat → Int32) = p2 0 0 := by
  funext j; match j with
  | 0 => rfl
  | 1 => rfl
  | n + 2 => rfl
theorem z_mm : (fun _ => 0 : Nat → Int32) = mm2 (fun _ => 0) (fun _ => 0) := by
  funext j
  rw [mm2]
  by_cases h1 : j < 256
  · rw [if_pos h1]
  · by_cases h2 : j < 512
    · rw [if_neg h1, if_pos h2]
    · rw [if_neg h1, if_neg h2]
