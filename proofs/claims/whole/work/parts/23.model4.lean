/-! more of the class's words: copies, looks, likeness -/
def cpyI (s g : Nat → Int32) (i : Nat) : Nat → Int32 := fun j => if j < i then s j else g j
theorem cpyI_step {s g : Nat → Int32} {i : Nat} (h : i < 2 ^ 31) : upd (cpyI s g i) (nI i).toNatClampNeg (s (nI i).toNatClampNeg) = cpyI s g (i + 1) := by
  rw [nI_clamp h]
  funext j
  by_cases hj : j = i
  · subst hj; rw [pk_us, cpyI, if_pos (by omega)]
  · rw [pk_un hj, cpyI, cpyI]
    by_cases h1 : j < i
    · rw [if_pos h1, if_pos (by omega)]
    · rw [if_neg h1, if_neg (by omega)]
theorem cpyI_0 (s g : Nat → Int32) : cpyI s g 0 = g := by funext j; rw [cpyI, if_neg (by omega)]
/-- the first i places hold v -/
def filI (v : Int32) (g : Nat → Int32) (i : Nat) : Nat → Int32 := cpyI (fun _ => v) g i
theorem filI_step {v : Int32} {g : Nat → Int32} {i : Nat} (h : i < 2 ^ 31) : upd (filI v g i) (nI i).toNatClampNeg v = filI v g (i + 1) := cpyI_step (s := fun _ => v) h
theorem filI_0 (v : Int32) (g : Nat → Int32) : filI v g 0 = g := cpyI_0 _ g
def vwI (w a x sp pc : Int32) (z c : Bool) (st dn : Int32) : Int32 :=
  if w = 0 then a else if w = 1 then x else if w = 2 then sp else if w = 3 then pc else if w = 4 then bI z else if w = 5 then bI c else if w = 6 then st else if w = 7 then dn else if w = 8 then 0 else if w = 9 then 0 else -1
def vwS (w a x sp pc : Int32) (z c : Bool) (st dn r2 : Int32) (kp : Bool) : Int32 := if w = 8 then r2 else if w = 9 then bI kp else vwI w a x sp pc z c st dn
theorem bI_inj {b c : Bool} (h : bI b = bI c) : b = c := by cases b <;> cases c <;> first | rfl | (exact absurd h (by decide))
theorem nI_x1 {x d : Int32} {n : Nat} (h : x = d + nI n) : x + nI 1 = d + nI (n + 1) := by rw [h, Int32.add_assoc, nI_add]
