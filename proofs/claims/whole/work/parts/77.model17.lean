/-! the reference's refusal and reach -/
theorem nI_dec (n : Nat) : nI n + Int32.ofInt (-1) = nI n - 1 := by
  rw [show Int32.ofInt (-1) = -1 by decide, Int32.sub_eq_add_neg]
def refK (bad : Nat → Bool) (c : Int32) : Nat → Int32 → Int32
  | 0, f => f
  | k + 1, f => refK bad c k (if bad k = true then c - nI k else f)
def unkM (fr fi : Nat → Int32) (i : Nat) : Bool := if fr i = 0 then false else if fi i ≤ 31 then false else true
def refM (fr fi : Nat → Int32) : Int32 := refK (unkM fr fi) (-1000) 256 (refK (secB fr fi) (-2000) 256 (refK (lasB fr fi) (-3000) 256 0))
abbrev RM : Type := (Nat → Int32) × Bool
def knB (fi rc : Nat → Int32) (i : Nat) : Bool := if rc i = 0 then false else if 32 ≤ fi i then false else true
def rS1 (fi : Nat → Int32) (i : Nat) (kn : Bool) (s : RM) : RM :=
  if kn = true then (if behB (fi i) = true then (if rd s.1 (nI i + lenI (fi i)) = 0 then (upd s.1 ((nI i + lenI (fi i)) &&& 255).toNatClampNeg 1, true) else s) else s) else s
def rS2 (fi : Nat → Int32) (i : Nat) (kn : Bool) (s : RM) : RM :=
  if kn = true then (if hasTB (fi i) = true then (if s.1 (rd fi (nI i + 1)).toNatClampNeg = 0 then (upd s.1 (rd fi (nI i + 1)).toNatClampNeg 1, true) else s) else s) else s
def rStp (fi : Nat → Int32) (i : Nat) (s : RM) : RM := rS2 fi i (knB fi s.1 i) (rS1 fi i (knB fi s.1 i) s)
def rInn (fi : Nat → Int32) : Nat → RM → RM
  | 0, s => s
  | k + 1, s => rStp fi k (rInn fi k s)
def rOut (fi : Nat → Int32) : Nat → RM → RM
  | 0, s => s
  | k + 1, s => if s.2 = true then rOut fi k (rInn fi 256 (s.1, false)) else s
def filE (en : Int32) (fr : Nat → Int32) (i : Nat) : Nat → Int32 := fun j => if j < i then (if nI j = en then 1 else 0) else fr j
theorem filE_0 (en : Int32) (fr : Nat → Int32) : filE en fr 0 = fr := by funext j; rw [filE, if_neg (by omega)]
theorem filE_step {en : Int32} {fr : Nat → Int32} {i : Nat} {v : Int32} (h : i < 2 ^ 31) (hv : v = if nI i = en then 1 else 0) : upd (filE en fr i) (nI i).toNatClampNeg v = filE en fr (i + 1) := by
  rw [nI_clamp h]
  funext j
  by_cases hj : j = i
  · subst hj; rw [pk_us, filE, if_pos (by omega), hv]
  · rw [pk_un hj, filE, filE]
    by_cases h1 : j < i
    · rw [if_pos h1, if_pos (show j < i + 1 by omega)]
    · rw [if_neg h1, if_neg (show ¬ j < i + 1 by omega)]
