def unkP (fr fs : Nat → Int32) (i : Nat) : Bool := if fr i = 0 then false else isUnkB (fs i)
def ovlP (fr fs : Nat → Int32) (i : Nat) : Bool := if fr i = 0 then false else if rd fr (nI i - 1) = 0 then false else if lenI (rd fs (nI i - 1)) = 2 then true else false
def rof2 (fr fs : Nat → Int32) : Int32 := if fr 255 = 0 then -1 else if fs 255 = 1 then -1 else if fs 255 = 28 then -1 else if fs 255 = 31 then -1 else 255
def rofI (fr fs : Nat → Int32) : Int32 := if fr 254 = 0 then rof2 fr fs else if lenI (fs 254) = 2 then (if fs 254 = 22 then rof2 fr fs else if fs 254 = 27 then rof2 fr fs else 254) else rof2 fr fs
def refI (fr fs : Nat → Int32) : Int32 :=
  if least (unkP fr fs) 256 0 = -1 then (if least (ovlP fr fs) 256 0 = -1 then (if rofI fr fs = -1 then 0 else -3000 - rofI fr fs) else -2000 - least (ovlP fr fs) 256 0) else -1000 - least (unkP fr fs) 256 0
theorem byte_nI {i : Nat} (h : i < 256) : isByteB (nI i) = true := by
  rw [isByteB, if_neg (nI_pos (by omega)), if_neg (show ¬ (255 : Int32) < nI i from nI_nlt (a := 255) (b := i) (by omega) (by decide))]
theorem hasB_nI {fr : Nat → Int32} {i : Nat} (h : i < 256) : hasB fr (nI i) = if fr i = 0 then false else true := by
  rw [hasB, if_pos (byte_nI h), nI_clamp (by omega)]
theorem hasB_f {fr : Nat → Int32} {i : Nat} (h : i < 256) (hh : hasB fr (nI i) = false) : fr i = 0 := by
  rw [hasB_nI h] at hh
  by_cases q : fr i = 0
  · exact q
  · rw [if_neg q] at hh; cases hh
theorem hasB_t {fr : Nat → Int32} {i : Nat} (h : i < 256) (hh : hasB fr (nI i) = true) : ¬ fr i = 0 := by
  rw [hasB_nI h] at hh
  intro q
  rw [if_pos q] at hh; cases hh
