/-! the machines' runs: up to k steps; how many were done, and the state behind them -/
def fStepU (u : MS) : MS := fStep u.1 u.2.1 u.2.2.1 u.2.2.2.1 u.2.2.2.2.1 u.2.2.2.2.2.1 u.2.2.2.2.2.2.1 u.2.2.2.2.2.2.2
def stF (u : MS) : Int32 := u.2.2.2.2.2.2.2
def fIter : Nat → MS → Nat × MS
  | 0, u => (0, u)
  | k + 1, u => if stF u = 0 then ((fIter k (fStepU u)).1 + 1, (fIter k (fStepU u)).2) else (0, u)
theorem fIter_step {M k d : Nat} {u0 u : MS} (h : fIter M u0 = ((fIter (k + 1) u).1 + d, (fIter (k + 1) u).2)) (hs : stF u = 0) : fIter M u0 = ((fIter k (fStepU u)).1 + (d + 1), (fIter k (fStepU u)).2) := by
  rw [h, fIter, if_pos hs]
  exact Prod.ext (by show _ + 1 + d = _ + (d + 1); omega) rfl
theorem fIter_0 {M d : Nat} {u0 u : MS} (h : fIter M u0 = ((fIter 0 u).1 + d, (fIter 0 u).2)) : fIter M u0 = (d, u) := by
  rw [h, fIter]; exact Prod.ext (Nat.zero_add d) rfl
theorem fIter_end {M k d : Nat} {u0 u : MS} (h : fIter M u0 = ((fIter (k + 1) u).1 + d, (fIter (k + 1) u).2)) (hs : ¬ stF u = 0) : fIter M u0 = (d, u) := by
  rw [h, fIter, if_neg hs]; exact Prod.ext (Nat.zero_add d) rfl
def sStepU (n : Int32) (fn fx fy fw : Nat → Int32) (u : MT) : MT :=
  sDo fw (partI u.2.2.2.2.1 0 n fn fx fy) (partI u.2.2.2.2.1 1 n fn fx fy) (partI u.2.2.2.2.1 2 n fn fx fy) u.1 u.2.1 u.2.2.1 u.2.2.2.1 u.2.2.2.2.1 u.2.2.2.2.2.1 u.2.2.2.2.2.2.1 u.2.2.2.2.2.2.2.1 u.2.2.2.2.2.2.2.2.1 u.2.2.2.2.2.2.2.2.2
def stS (u : MT) : Int32 := u.2.2.2.2.2.2.2.1
def pcS (u : MT) : Int32 := u.2.2.2.2.1
/-- runs of a step F while the state is 0 -/
def sIter (F : MT → MT) : Nat → MT → Nat × MT
  | 0, u => (0, u)
  | k + 1, u => if stS u = 0 then ((sIter F k (F u)).1 + 1, (sIter F k (F u)).2) else (0, u)
theorem sIter_step {F : MT → MT} {M k d : Nat} {u0 u : MT} (h : sIter F M u0 = ((sIter F (k + 1) u).1 + d, (sIter F (k + 1) u).2)) (hs : stS u = 0) : sIter F M u0 = ((sIter F k (F u)).1 + (d + 1), (sIter F k (F u)).2) := by
  rw [h, sIter, if_pos hs]
  exact Prod.ext (by show _ + 1 + d = _ + (d + 1); omega) rfl
theorem sIter_0 {F : MT → MT} {M d : Nat} {u0 u : MT} (h : sIter F M u0 = ((sIter F 0 u).1 + d, (sIter F 0 u).2)) : sIter F M u0 = (d, u) := by
  rw [h, sIter]; exact Prod.ext (Nat.zero_add d) rfl
theorem sIter_end {F : MT → MT} {M k d : Nat} {u0 u : MT} (h : sIter F M u0 = ((sIter F (k + 1) u).1 + d, (sIter F (k + 1) u).2)) (hs : ¬ stS u = 0) : sIter F M u0 = (d, u) := by
  rw [h, sIter, if_neg hs]; exact Prod.ext (Nat.zero_add d) rfl
/-- a run to a beginning: at least one step, if the state is 0; on while B isn't true of pc -/
def sBound (F : MT → MT) (B : Int32 → Bool) : Nat → MT → Nat × MT
  | 0, u => (0, u)
  | k + 1, u => if stS u = 0 then (if B (pcS (F u)) = true then (1, F u) else ((sBound F B k (F u)).1 + 1, (sBound F B k (F u)).2)) else (0, u)
theorem sB_step {F : MT → MT} {B : Int32 → Bool} {M k d : Nat} {u0 u : MT} (h : sBound F B M u0 = ((sBound F B (k + 1) u).1 + d, (sBound F B (k + 1) u).2)) (hs : stS u = 0) (hb : B (pcS (F u)) = false) : sBound F B M u0 = ((sBound F B k (F u)).1 + (d + 1), (sBound F B k (F u)).2) := by
  rw [h, sBound, if_pos hs, if_neg (by rw [hb]; decide)]
  exact Prod.ext (by show _ + 1 + d = _ + (d + 1); omega) rfl
theorem sB_hit {F : MT → MT} {B : Int32 → Bool} {M k d : Nat} {u0 u : MT} (h : sBound F B M u0 = ((sBound F B (k + 1) u).1 + d, (sBound F B (k + 1) u).2)) (hs : stS u = 0) (hb : B (pcS (F u)) = true) : sBound F B M u0 = (d + 1, F u) := by
  rw [h, sBound, if_pos hs, if_pos hb]
  exact Prod.ext (Nat.add_comm 1 d) rfl
theorem sB_0 {F : MT → MT} {B : Int32 → Bool} {M d : Nat} {u0 u : MT} (h : sBound F B M u0 = ((sBound F B 0 u).1 + d, (sBound F B 0 u).2)) : sBound F B M u0 = (d, u) := by
  rw [h, sBound]; exact Prod.ext (Nat.zero_add d) rfl
theorem sB_end {F : MT → MT} {B : Int32 → Bool} {M k d : Nat} {u0 u : MT} (h : sBound F B M u0 = ((sBound F B (k + 1) u).1 + d, (sBound F B (k + 1) u).2)) (hs : ¬ stS u = 0) : sBound F B M u0 = (d, u) := by
  rw [h, sBound, if_neg hs]; exact Prod.ext (Nat.zero_add d) rfl
theorem sIter_1 (F : MT → MT) {u : MT} (hs : stS u = 0) : sIter F 1 u = (1, F u) := by rw [sIter, if_pos hs, sIter]
def atB (n : Int32) (fb : Nat → Int32) (k : Int32) : Bool := if k < 0 then false else if n ≤ k then false else if fb k.toNatClampNeg = 0 then false else true
theorem idx_in' {k n : Int32} (h1 : ¬ k < 0) (h2 : ¬ n ≤ k) (hn : n ≤ 1024) : vp_in k 1024 := idx_in h1 (Int32.not_le.mp h2) hn
